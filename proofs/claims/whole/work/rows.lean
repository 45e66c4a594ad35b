section
-- ===== PART A: goes FIRST, ahead of the names: the tables' words, and 'selects' of the private methods out of them =====
/-- a private method of a class that the tables say can be made, by its rows of tables_1 -/
def lw_okq (q : MethodName × Nat) : Prop := (q.1.cls ≠ "java/lang/invoke/MethodHandle" ∧ q.1.cls ≠ "java/lang/invoke/VarHandle") ∧ Cond.instantiable q.1.cls q.2 ∈ tables_1 ∧ Cond.privateMethod q.1 ∈ tables_1 ∧ Cond.instanceMethod q.1 ∈ tables_1
theorem lw_p0 : lw_okq (⟨"StringRates$ParcelText", "readsInNumber", "(I)Z"⟩, 4) := ⟨⟨by decide +kernel, by decide +kernel⟩, List.mem_of_getElem? (i := 131) (by decide +kernel), List.mem_of_getElem? (i := 221) (by decide +kernel), List.mem_of_getElem? (i := 222) (by decide +kernel)⟩
theorem lw_p1 : lw_okq (⟨"StringRates$ParcelText", "endsNumber", "()Z"⟩, 4) := ⟨⟨by decide +kernel, by decide +kernel⟩, List.mem_of_getElem? (i := 131) (by decide +kernel), List.mem_of_getElem? (i := 227) (by decide +kernel), List.mem_of_getElem? (i := 228) (by decide +kernel)⟩
theorem lw_p2 : lw_okq (⟨"StringRates$ParcelText", "readsChoice", "(II)Z"⟩, 4) := ⟨⟨by decide +kernel, by decide +kernel⟩, List.mem_of_getElem? (i := 131) (by decide +kernel), List.mem_of_getElem? (i := 233) (by decide +kernel), List.mem_of_getElem? (i := 234) (by decide +kernel)⟩
theorem lw_p3 : lw_okq (⟨"StringRates$Parcel", "laySides", "(III)V"⟩, 7) := ⟨⟨by decide +kernel, by decide +kernel⟩, List.mem_of_getElem? (i := 33) (by decide +kernel), List.mem_of_getElem? (i := 309) (by decide +kernel), List.mem_of_getElem? (i := 310) (by decide +kernel)⟩
theorem lw_p4 : lw_okq (⟨"StringRates$Bundling", "leastWithLast", "(II)I"⟩, 5) := ⟨⟨by decide +kernel, by decide +kernel⟩, List.mem_of_getElem? (i := 152) (by decide +kernel), List.mem_of_getElem? (i := 322) (by decide +kernel), List.mem_of_getElem? (i := 323) (by decide +kernel)⟩
theorem lw_p5 : lw_okq (⟨"java/lang/Throwable", "fillInStackTrace", "(I)Ljava/lang/Throwable;"⟩, 6) := ⟨⟨by decide +kernel, by decide +kernel⟩, List.mem_of_getElem? (i := 379) (by decide +kernel), List.mem_of_getElem? (i := 377) (by decide +kernel), List.mem_of_getElem? (i := 378) (by decide +kernel)⟩
theorem lw_p6 : lw_okq (⟨"StringRates$Office", "takenParcels", "()I"⟩, 10) := ⟨⟨by decide +kernel, by decide +kernel⟩, List.mem_of_getElem? (i := 26) (by decide +kernel), List.mem_of_getElem? (i := 413) (by decide +kernel), List.mem_of_getElem? (i := 414) (by decide +kernel)⟩
theorem lw_p7 : lw_okq (⟨"StringRates$Office", "oddParcels", "()I"⟩, 10) := ⟨⟨by decide +kernel, by decide +kernel⟩, List.mem_of_getElem? (i := 26) (by decide +kernel), List.mem_of_getElem? (i := 417) (by decide +kernel), List.mem_of_getElem? (i := 418) (by decide +kernel)⟩
theorem lw_p8 : lw_okq (⟨"StringRates$Office", "undercutBands", "()I"⟩, 10) := ⟨⟨by decide +kernel, by decide +kernel⟩, List.mem_of_getElem? (i := 26) (by decide +kernel), List.mem_of_getElem? (i := 421) (by decide +kernel), List.mem_of_getElem? (i := 422) (by decide +kernel)⟩
theorem lw_p9 : lw_okq (⟨"StringRates", "foldParcel", "(JI)J"⟩, 6) := ⟨⟨by decide +kernel, by decide +kernel⟩, List.mem_of_getElem? (i := 18) (by decide +kernel), List.mem_of_getElem? (i := 441) (by decide +kernel), List.mem_of_getElem? (i := 442) (by decide +kernel)⟩
theorem lw_p10 : lw_okq (⟨"StringRates", "requireParcel", "(I)V"⟩, 6) := ⟨⟨by decide +kernel, by decide +kernel⟩, List.mem_of_getElem? (i := 18) (by decide +kernel), List.mem_of_getElem? (i := 449) (by decide +kernel), List.mem_of_getElem? (i := 450) (by decide +kernel)⟩
theorem lw_p11 : lw_okq (⟨"StringRates$SavedStates", "dropOldest", "()V"⟩, 2) := ⟨⟨by decide +kernel, by decide +kernel⟩, List.mem_of_getElem? (i := 114) (by decide +kernel), List.mem_of_getElem? (i := 520) (by decide +kernel), List.mem_of_getElem? (i := 521) (by decide +kernel)⟩
theorem lw_p12 : lw_okq (⟨"StringRates$Office", "dispatch", "(II)I"⟩, 10) := ⟨⟨by decide +kernel, by decide +kernel⟩, List.mem_of_getElem? (i := 26) (by decide +kernel), List.mem_of_getElem? (i := 570) (by decide +kernel), List.mem_of_getElem? (i := 571) (by decide +kernel)⟩
theorem lw_p13 : lw_okq (⟨"StringRates", "admitAllOfText", "()I"⟩, 6) := ⟨⟨by decide +kernel, by decide +kernel⟩, List.mem_of_getElem? (i := 18) (by decide +kernel), List.mem_of_getElem? (i := 674) (by decide +kernel), List.mem_of_getElem? (i := 675) (by decide +kernel)⟩
theorem lw_p14 : lw_okq (⟨"StringRatesModel", "goes", "(ZZ)Z"⟩, 9) := ⟨⟨by decide +kernel, by decide +kernel⟩, List.mem_of_getElem? (i := 745) (by decide +kernel), List.mem_of_getElem? (i := 794) (by decide +kernel), List.mem_of_getElem? (i := 795) (by decide +kernel)⟩
theorem lw_p15 : lw_okq (⟨"StringRatesModel", "saves", "()V"⟩, 9) := ⟨⟨by decide +kernel, by decide +kernel⟩, List.mem_of_getElem? (i := 745) (by decide +kernel), List.mem_of_getElem? (i := 798) (by decide +kernel), List.mem_of_getElem? (i := 799) (by decide +kernel)⟩
def lw_privs_1 : List (MethodName × Nat) := [(⟨"StringRates$ParcelText", "readsInNumber", "(I)Z"⟩, 4), (⟨"StringRates$ParcelText", "endsNumber", "()Z"⟩, 4), (⟨"StringRates$ParcelText", "readsChoice", "(II)Z"⟩, 4), (⟨"StringRates$Parcel", "laySides", "(III)V"⟩, 7), (⟨"StringRates$Bundling", "leastWithLast", "(II)I"⟩, 5), (⟨"java/lang/Throwable", "fillInStackTrace", "(I)Ljava/lang/Throwable;"⟩, 6), (⟨"StringRates$Office", "takenParcels", "()I"⟩, 10), (⟨"StringRates$Office", "oddParcels", "()I"⟩, 10), (⟨"StringRates$Office", "undercutBands", "()I"⟩, 10), (⟨"StringRates", "foldParcel", "(JI)J"⟩, 6), (⟨"StringRates", "requireParcel", "(I)V"⟩, 6), (⟨"StringRates$SavedStates", "dropOldest", "()V"⟩, 2), (⟨"StringRates$Office", "dispatch", "(II)I"⟩, 10), (⟨"StringRates", "admitAllOfText", "()I"⟩, 6), (⟨"StringRatesModel", "goes", "(ZZ)Z"⟩, 9), (⟨"StringRatesModel", "saves", "()V"⟩, 9)]
theorem lw_r1 : ∀ q ∈ lw_privs_1, lw_okq q := List.forall_mem_cons.mpr ⟨lw_p0, List.forall_mem_cons.mpr ⟨lw_p1, List.forall_mem_cons.mpr ⟨lw_p2, List.forall_mem_cons.mpr ⟨lw_p3, List.forall_mem_cons.mpr ⟨lw_p4, List.forall_mem_cons.mpr ⟨lw_p5, List.forall_mem_cons.mpr ⟨lw_p6, List.forall_mem_cons.mpr ⟨lw_p7, List.forall_mem_cons.mpr ⟨lw_p8, List.forall_mem_cons.mpr ⟨lw_p9, List.forall_mem_cons.mpr ⟨lw_p10, List.forall_mem_cons.mpr ⟨lw_p11, List.forall_mem_cons.mpr ⟨lw_p12, List.forall_mem_cons.mpr ⟨lw_p13, List.forall_mem_cons.mpr ⟨lw_p14, List.forall_mem_cons.mpr ⟨lw_p15, fun _ h => absurd h List.not_mem_nil⟩⟩⟩⟩⟩⟩⟩⟩⟩⟩⟩⟩⟩⟩⟩⟩
theorem lw_p16 : lw_okq (⟨"StringRatesModel", "copies", "(II)V"⟩, 9) := ⟨⟨by decide +kernel, by decide +kernel⟩, List.mem_of_getElem? (i := 745) (by decide +kernel), List.mem_of_getElem? (i := 802) (by decide +kernel), List.mem_of_getElem? (i := 803) (by decide +kernel)⟩
theorem lw_p17 : lw_okq (⟨"StringRatesModel", "comes", "(IIIIII)I"⟩, 9) := ⟨⟨by decide +kernel, by decide +kernel⟩, List.mem_of_getElem? (i := 745) (by decide +kernel), List.mem_of_getElem? (i := 806) (by decide +kernel), List.mem_of_getElem? (i := 807) (by decide +kernel)⟩
theorem lw_p18 : lw_okq (⟨"StringRatesModel", "sorts", "(IIII)V"⟩, 9) := ⟨⟨by decide +kernel, by decide +kernel⟩, List.mem_of_getElem? (i := 745) (by decide +kernel), List.mem_of_getElem? (i := 813) (by decide +kernel), List.mem_of_getElem? (i := 814) (by decide +kernel)⟩
theorem lw_p19 : lw_okq (⟨"StringRatesModel", "isParcel", "(I)Z"⟩, 9) := ⟨⟨by decide +kernel, by decide +kernel⟩, List.mem_of_getElem? (i := 745) (by decide +kernel), List.mem_of_getElem? (i := 824) (by decide +kernel), List.mem_of_getElem? (i := 825) (by decide +kernel)⟩
theorem lw_p20 : lw_okq (⟨"StringRatesModel", "sets", "(II)I"⟩, 9) := ⟨⟨by decide +kernel, by decide +kernel⟩, List.mem_of_getElem? (i := 745) (by decide +kernel), List.mem_of_getElem? (i := 828) (by decide +kernel), List.mem_of_getElem? (i := 829) (by decide +kernel)⟩
theorem lw_p21 : lw_okq (⟨"StringRatesModel", "reason", "(I)I"⟩, 9) := ⟨⟨by decide +kernel, by decide +kernel⟩, List.mem_of_getElem? (i := 745) (by decide +kernel), List.mem_of_getElem? (i := 836) (by decide +kernel), List.mem_of_getElem? (i := 837) (by decide +kernel)⟩
theorem lw_p22 : lw_okq (⟨"StringRatesModel", "girth", "(I)I"⟩, 9) := ⟨⟨by decide +kernel, by decide +kernel⟩, List.mem_of_getElem? (i := 745) (by decide +kernel), List.mem_of_getElem? (i := 840) (by decide +kernel), List.mem_of_getElem? (i := 841) (by decide +kernel)⟩
theorem lw_p23 : lw_okq (⟨"StringRatesModel", "postage", "(I)I"⟩, 9) := ⟨⟨by decide +kernel, by decide +kernel⟩, List.mem_of_getElem? (i := 745) (by decide +kernel), List.mem_of_getElem? (i := 844) (by decide +kernel), List.mem_of_getElem? (i := 845) (by decide +kernel)⟩
theorem lw_p24 : lw_okq (⟨"StringRatesModel", "string", "(I)I"⟩, 9) := ⟨⟨by decide +kernel, by decide +kernel⟩, List.mem_of_getElem? (i := 745) (by decide +kernel), List.mem_of_getElem? (i := 848) (by decide +kernel), List.mem_of_getElem? (i := 849) (by decide +kernel)⟩
theorem lw_p25 : lw_okq (⟨"StringRatesModel", "postageWith", "(II)I"⟩, 9) := ⟨⟨by decide +kernel, by decide +kernel⟩, List.mem_of_getElem? (i := 745) (by decide +kernel), List.mem_of_getElem? (i := 852) (by decide +kernel), List.mem_of_getElem? (i := 853) (by decide +kernel)⟩
theorem lw_p26 : lw_okq (⟨"StringRatesModel", "rateOf", "(I)I"⟩, 9) := ⟨⟨by decide +kernel, by decide +kernel⟩, List.mem_of_getElem? (i := 745) (by decide +kernel), List.mem_of_getElem? (i := 856) (by decide +kernel), List.mem_of_getElem? (i := 857) (by decide +kernel)⟩
theorem lw_p27 : lw_okq (⟨"StringRatesModel", "isOdd", "(I)Z"⟩, 9) := ⟨⟨by decide +kernel, by decide +kernel⟩, List.mem_of_getElem? (i := 745) (by decide +kernel), List.mem_of_getElem? (i := 863) (by decide +kernel), List.mem_of_getElem? (i := 864) (by decide +kernel)⟩
theorem lw_p28 : lw_okq (⟨"StringRatesModel", "sends", "(II)I"⟩, 9) := ⟨⟨by decide +kernel, by decide +kernel⟩, List.mem_of_getElem? (i := 745) (by decide +kernel), List.mem_of_getElem? (i := 867) (by decide +kernel), List.mem_of_getElem? (i := 868) (by decide +kernel)⟩
theorem lw_p29 : lw_okq (⟨"StringRatesModel", "isGone", "(I)V"⟩, 9) := ⟨⟨by decide +kernel, by decide +kernel⟩, List.mem_of_getElem? (i := 745) (by decide +kernel), List.mem_of_getElem? (i := 871) (by decide +kernel), List.mem_of_getElem? (i := 872) (by decide +kernel)⟩
theorem lw_p30 : lw_okq (⟨"StringRatesModel", "error", "()I"⟩, 9) := ⟨⟨by decide +kernel, by decide +kernel⟩, List.mem_of_getElem? (i := 745) (by decide +kernel), List.mem_of_getElem? (i := 910) (by decide +kernel), List.mem_of_getElem? (i := 911) (by decide +kernel)⟩
theorem lw_p31 : lw_okq (⟨"StringRatesModel", "readsParcel", "()Z"⟩, 9) := ⟨⟨by decide +kernel, by decide +kernel⟩, List.mem_of_getElem? (i := 745) (by decide +kernel), List.mem_of_getElem? (i := 914) (by decide +kernel), List.mem_of_getElem? (i := 915) (by decide +kernel)⟩
def lw_privs_2 : List (MethodName × Nat) := [(⟨"StringRatesModel", "copies", "(II)V"⟩, 9), (⟨"StringRatesModel", "comes", "(IIIIII)I"⟩, 9), (⟨"StringRatesModel", "sorts", "(IIII)V"⟩, 9), (⟨"StringRatesModel", "isParcel", "(I)Z"⟩, 9), (⟨"StringRatesModel", "sets", "(II)I"⟩, 9), (⟨"StringRatesModel", "reason", "(I)I"⟩, 9), (⟨"StringRatesModel", "girth", "(I)I"⟩, 9), (⟨"StringRatesModel", "postage", "(I)I"⟩, 9), (⟨"StringRatesModel", "string", "(I)I"⟩, 9), (⟨"StringRatesModel", "postageWith", "(II)I"⟩, 9), (⟨"StringRatesModel", "rateOf", "(I)I"⟩, 9), (⟨"StringRatesModel", "isOdd", "(I)Z"⟩, 9), (⟨"StringRatesModel", "sends", "(II)I"⟩, 9), (⟨"StringRatesModel", "isGone", "(I)V"⟩, 9), (⟨"StringRatesModel", "error", "()I"⟩, 9), (⟨"StringRatesModel", "readsParcel", "()Z"⟩, 9)]
theorem lw_r2 : ∀ q ∈ lw_privs_2, lw_okq q := List.forall_mem_cons.mpr ⟨lw_p16, List.forall_mem_cons.mpr ⟨lw_p17, List.forall_mem_cons.mpr ⟨lw_p18, List.forall_mem_cons.mpr ⟨lw_p19, List.forall_mem_cons.mpr ⟨lw_p20, List.forall_mem_cons.mpr ⟨lw_p21, List.forall_mem_cons.mpr ⟨lw_p22, List.forall_mem_cons.mpr ⟨lw_p23, List.forall_mem_cons.mpr ⟨lw_p24, List.forall_mem_cons.mpr ⟨lw_p25, List.forall_mem_cons.mpr ⟨lw_p26, List.forall_mem_cons.mpr ⟨lw_p27, List.forall_mem_cons.mpr ⟨lw_p28, List.forall_mem_cons.mpr ⟨lw_p29, List.forall_mem_cons.mpr ⟨lw_p30, List.forall_mem_cons.mpr ⟨lw_p31, fun _ h => absurd h List.not_mem_nil⟩⟩⟩⟩⟩⟩⟩⟩⟩⟩⟩⟩⟩⟩⟩⟩
theorem lw_p32 : lw_okq (⟨"StringRatesModel", "takes", "(C)Z"⟩, 9) := ⟨⟨by decide +kernel, by decide +kernel⟩, List.mem_of_getElem? (i := 745) (by decide +kernel), List.mem_of_getElem? (i := 918) (by decide +kernel), List.mem_of_getElem? (i := 919) (by decide +kernel)⟩
theorem lw_p33 : lw_okq (⟨"StringRatesModel", "isHere", "(CC)Z"⟩, 9) := ⟨⟨by decide +kernel, by decide +kernel⟩, List.mem_of_getElem? (i := 745) (by decide +kernel), List.mem_of_getElem? (i := 922) (by decide +kernel), List.mem_of_getElem? (i := 923) (by decide +kernel)⟩
theorem lw_p34 : lw_okq (⟨"StringRatesModel", "number", "(I)I"⟩, 9) := ⟨⟨by decide +kernel, by decide +kernel⟩, List.mem_of_getElem? (i := 745) (by decide +kernel), List.mem_of_getElem? (i := 926) (by decide +kernel), List.mem_of_getElem? (i := 927) (by decide +kernel)⟩
theorem lw_p35 : lw_okq (⟨"StringRatesModel", "property", "(II)I"⟩, 9) := ⟨⟨by decide +kernel, by decide +kernel⟩, List.mem_of_getElem? (i := 745) (by decide +kernel), List.mem_of_getElem? (i := 953) (by decide +kernel), List.mem_of_getElem? (i := 954) (by decide +kernel)⟩
theorem lw_p36 : lw_okq (⟨"StringRatesModel", "rated", "(II)I"⟩, 9) := ⟨⟨by decide +kernel, by decide +kernel⟩, List.mem_of_getElem? (i := 745) (by decide +kernel), List.mem_of_getElem? (i := 961) (by decide +kernel), List.mem_of_getElem? (i := 962) (by decide +kernel)⟩
theorem lw_p37 : lw_okq (⟨"StringRatesModel", "rateDown", "(I)I"⟩, 9) := ⟨⟨by decide +kernel, by decide +kernel⟩, List.mem_of_getElem? (i := 745) (by decide +kernel), List.mem_of_getElem? (i := 965) (by decide +kernel), List.mem_of_getElem? (i := 966) (by decide +kernel)⟩
theorem lw_p38 : lw_okq (⟨"StringRatesModel", "counted", "(I)I"⟩, 9) := ⟨⟨by decide +kernel, by decide +kernel⟩, List.mem_of_getElem? (i := 745) (by decide +kernel), List.mem_of_getElem? (i := 973) (by decide +kernel), List.mem_of_getElem? (i := 974) (by decide +kernel)⟩
theorem lw_p39 : lw_okq (⟨"StringRatesModel", "parcels", "(Z)I"⟩, 9) := ⟨⟨by decide +kernel, by decide +kernel⟩, List.mem_of_getElem? (i := 745) (by decide +kernel), List.mem_of_getElem? (i := 977) (by decide +kernel), List.mem_of_getElem? (i := 978) (by decide +kernel)⟩
theorem lw_p40 : lw_okq (⟨"StringRatesModel", "lowBands", "()I"⟩, 9) := ⟨⟨by decide +kernel, by decide +kernel⟩, List.mem_of_getElem? (i := 745) (by decide +kernel), List.mem_of_getElem? (i := 981) (by decide +kernel), List.mem_of_getElem? (i := 982) (by decide +kernel)⟩
theorem lw_p41 : lw_okq (⟨"StringRatesModel", "wayFor", "(I)I"⟩, 9) := ⟨⟨by decide +kernel, by decide +kernel⟩, List.mem_of_getElem? (i := 745) (by decide +kernel), List.mem_of_getElem? (i := 993) (by decide +kernel), List.mem_of_getElem? (i := 994) (by decide +kernel)⟩
theorem lw_p42 : lw_okq (⟨"StringRatesModel", "bundled", "(II)I"⟩, 9) := ⟨⟨by decide +kernel, by decide +kernel⟩, List.mem_of_getElem? (i := 745) (by decide +kernel), List.mem_of_getElem? (i := 1001) (by decide +kernel), List.mem_of_getElem? (i := 1002) (by decide +kernel)⟩
theorem lw_p43 : lw_okq (⟨"StringRatesModel", "laysBundle", "(II)Z"⟩, 9) := ⟨⟨by decide +kernel, by decide +kernel⟩, List.mem_of_getElem? (i := 745) (by decide +kernel), List.mem_of_getElem? (i := 1005) (by decide +kernel), List.mem_of_getElem? (i := 1006) (by decide +kernel)⟩
theorem lw_p44 : lw_okq (⟨"StringRatesModel", "least", "(I)I"⟩, 9) := ⟨⟨by decide +kernel, by decide +kernel⟩, List.mem_of_getElem? (i := 745) (by decide +kernel), List.mem_of_getElem? (i := 1013) (by decide +kernel), List.mem_of_getElem? (i := 1014) (by decide +kernel)⟩
theorem lw_p45 : lw_okq (⟨"StringRatesModel", "bySets", "()I"⟩, 9) := ⟨⟨by decide +kernel, by decide +kernel⟩, List.mem_of_getElem? (i := 745) (by decide +kernel), List.mem_of_getElem? (i := 1017) (by decide +kernel), List.mem_of_getElem? (i := 1018) (by decide +kernel)⟩
theorem lw_p46 : lw_okq (⟨"StringRatesModel", "alone", "(I)I"⟩, 9) := ⟨⟨by decide +kernel, by decide +kernel⟩, List.mem_of_getElem? (i := 745) (by decide +kernel), List.mem_of_getElem? (i := 1021) (by decide +kernel), List.mem_of_getElem? (i := 1022) (by decide +kernel)⟩
theorem lw_p47 : lw_okq (⟨"StringRatesModel", "byTrying", "()I"⟩, 9) := ⟨⟨by decide +kernel, by decide +kernel⟩, List.mem_of_getElem? (i := 745) (by decide +kernel), List.mem_of_getElem? (i := 1025) (by decide +kernel), List.mem_of_getElem? (i := 1026) (by decide +kernel)⟩
def lw_privs_3 : List (MethodName × Nat) := [(⟨"StringRatesModel", "takes", "(C)Z"⟩, 9), (⟨"StringRatesModel", "isHere", "(CC)Z"⟩, 9), (⟨"StringRatesModel", "number", "(I)I"⟩, 9), (⟨"StringRatesModel", "property", "(II)I"⟩, 9), (⟨"StringRatesModel", "rated", "(II)I"⟩, 9), (⟨"StringRatesModel", "rateDown", "(I)I"⟩, 9), (⟨"StringRatesModel", "counted", "(I)I"⟩, 9), (⟨"StringRatesModel", "parcels", "(Z)I"⟩, 9), (⟨"StringRatesModel", "lowBands", "()I"⟩, 9), (⟨"StringRatesModel", "wayFor", "(I)I"⟩, 9), (⟨"StringRatesModel", "bundled", "(II)I"⟩, 9), (⟨"StringRatesModel", "laysBundle", "(II)Z"⟩, 9), (⟨"StringRatesModel", "least", "(I)I"⟩, 9), (⟨"StringRatesModel", "bySets", "()I"⟩, 9), (⟨"StringRatesModel", "alone", "(I)I"⟩, 9), (⟨"StringRatesModel", "byTrying", "()I"⟩, 9)]
theorem lw_r3 : ∀ q ∈ lw_privs_3, lw_okq q := List.forall_mem_cons.mpr ⟨lw_p32, List.forall_mem_cons.mpr ⟨lw_p33, List.forall_mem_cons.mpr ⟨lw_p34, List.forall_mem_cons.mpr ⟨lw_p35, List.forall_mem_cons.mpr ⟨lw_p36, List.forall_mem_cons.mpr ⟨lw_p37, List.forall_mem_cons.mpr ⟨lw_p38, List.forall_mem_cons.mpr ⟨lw_p39, List.forall_mem_cons.mpr ⟨lw_p40, List.forall_mem_cons.mpr ⟨lw_p41, List.forall_mem_cons.mpr ⟨lw_p42, List.forall_mem_cons.mpr ⟨lw_p43, List.forall_mem_cons.mpr ⟨lw_p44, List.forall_mem_cons.mpr ⟨lw_p45, List.forall_mem_cons.mpr ⟨lw_p46, List.forall_mem_cons.mpr ⟨lw_p47, fun _ h => absurd h List.not_mem_nil⟩⟩⟩⟩⟩⟩⟩⟩⟩⟩⟩⟩⟩⟩⟩⟩
theorem lw_p48 : lw_okq (⟨"StringRatesModel", "costOf", "(I)I"⟩, 9) := ⟨⟨by decide +kernel, by decide +kernel⟩, List.mem_of_getElem? (i := 745) (by decide +kernel), List.mem_of_getElem? (i := 1029) (by decide +kernel), List.mem_of_getElem? (i := 1030) (by decide +kernel)⟩
theorem lw_p49 : lw_okq (⟨"StringRatesModel", "canHave", "(II)Z"⟩, 9) := ⟨⟨by decide +kernel, by decide +kernel⟩, List.mem_of_getElem? (i := 745) (by decide +kernel), List.mem_of_getElem? (i := 1033) (by decide +kernel), List.mem_of_getElem? (i := 1034) (by decide +kernel)⟩
theorem lw_p50 : lw_okq (⟨"StringRatesModel", "isFree", "(II)Z"⟩, 9) := ⟨⟨by decide +kernel, by decide +kernel⟩, List.mem_of_getElem? (i := 745) (by decide +kernel), List.mem_of_getElem? (i := 1037) (by decide +kernel), List.mem_of_getElem? (i := 1038) (by decide +kernel)⟩
theorem lw_p51 : lw_okq (⟨"StringRatesModel", "dearestParcel", "()I"⟩, 9) := ⟨⟨by decide +kernel, by decide +kernel⟩, List.mem_of_getElem? (i := 745) (by decide +kernel), List.mem_of_getElem? (i := 1045) (by decide +kernel), List.mem_of_getElem? (i := 1046) (by decide +kernel)⟩
theorem lw_p52 : lw_okq (⟨"StringRatesModel", "ofParcel", "(JI)J"⟩, 9) := ⟨⟨by decide +kernel, by decide +kernel⟩, List.mem_of_getElem? (i := 745) (by decide +kernel), List.mem_of_getElem? (i := 1059) (by decide +kernel), List.mem_of_getElem? (i := 1060) (by decide +kernel)⟩
def lw_privs_4 : List (MethodName × Nat) := [(⟨"StringRatesModel", "costOf", "(I)I"⟩, 9), (⟨"StringRatesModel", "canHave", "(II)Z"⟩, 9), (⟨"StringRatesModel", "isFree", "(II)Z"⟩, 9), (⟨"StringRatesModel", "dearestParcel", "()I"⟩, 9), (⟨"StringRatesModel", "ofParcel", "(JI)J"⟩, 9)]
theorem lw_r4 : ∀ q ∈ lw_privs_4, lw_okq q := List.forall_mem_cons.mpr ⟨lw_p48, List.forall_mem_cons.mpr ⟨lw_p49, List.forall_mem_cons.mpr ⟨lw_p50, List.forall_mem_cons.mpr ⟨lw_p51, List.forall_mem_cons.mpr ⟨lw_p52, fun _ h => absurd h List.not_mem_nil⟩⟩⟩⟩⟩
def lw_privs : List (MethodName × Nat) := lw_privs_1 ++ (lw_privs_2 ++ (lw_privs_3 ++ (lw_privs_4)))
def lw_tbl : List Cond := k2_sels lw_privs ++ tables_1
theorem lw_privs_ok : ∀ q ∈ lw_privs, lw_okq q := by
  show ∀ q ∈ lw_privs_1 ++ (lw_privs_2 ++ (lw_privs_3 ++ (lw_privs_4))), lw_okq q
  exact List.forall_mem_append.mpr ⟨lw_r1, List.forall_mem_append.mpr ⟨lw_r2, List.forall_mem_append.mpr ⟨lw_r3, lw_r4⟩⟩⟩
/-- the streams that the claim lets the run draw from -/
abbrev lw_cs : List Choice := [Jvm.Choice.named "NaN.bits"]
theorem lw_bits : nanBits ∈ lw_cs := by first | decide | exact List.mem_cons_self | simp [lw_cs, nanBits]
-- a word that the printed names use and the kit lacks
def va_AOA (t : FieldType) (U : State) : Prop := (Cond.arrayOver (.array t)).before #[] U = true
theorem va_AOA.use {t : FieldType} {A : Array Value} {U : State} (h : va_AOA t U) : (Cond.arrayOver (.array t)).before A U = true := h
/-! ===== BEGIN words of one list among another's, by their places ===== -/
theorem goodIn_r {big : List Cond} (ws : List Cond) (ps : List Nat) (hp : ws = ps.filterMap (fun i => big[i]?)) (h : ws.all goodWord = true) : GoodIn big ws := by
  intro w hw
  have h1 := List.all_eq_true.mp h w hw
  rw [hp] at hw
  obtain ⟨i, -, hi⟩ := List.mem_filterMap.mp hw
  have hm : w ∈ big := by first | exact List.mem_of_getElem? hi | exact List.getElem?_mem hi
  exact ⟨hm, good_of_word h1⟩
theorem goodIn_app {big a b : List Cond} (ha : GoodIn big a) (hb : GoodIn big b) : GoodIn big (a ++ b) := fun w h => (List.mem_append.mp h).elim (ha w) (hb w)
theorem goodIn_ca {big a b : List Cond} {c : Cond} (ha : GoodIn big (c :: a)) (hb : GoodIn big b) : GoodIn big (c :: (a ++ b)) := fun w h => (List.mem_cons.mp h).elim (fun e => ha w (List.mem_cons.mpr (Or.inl e))) (fun h => (List.mem_append.mp h).elim (fun h => ha w (List.mem_cons.mpr (Or.inr h))) (hb w))
theorem goodIn_sub {big ws : List Cond} (hm : ∀ w ∈ ws, w ∈ big) (h : ws.all goodWord = true) : GoodIn big ws := fun w hw => ⟨hm w hw, good_of_word (List.all_eq_true.mp h w hw)⟩
/-! ===== END ===== -/

/-! ===== BEGIN new T[n][m]: the outer array a place, the inner ones among the pooled ===== -/
/-- f, but v at every address of l -/
def vr_up {α : Type} (f : Nat → α) (l : List Nat) (v : α) : Nat → α := fun a => if a ∈ l then v else f a
theorem vr_up_in {α : Type} {f : Nat → α} {l : List Nat} {v : α} {a : Nat} (h : a ∈ l) : vr_up f l v a = v := if_pos h
theorem vr_up_ne {α : Type} {f : Nat → α} {l : List Nat} {v : α} {a : Nat} (h : a ∉ l) : vr_up f l v a = f a := if_neg h
theorem vr_rows {L l : List Nat} {f : Nat → va_E} {e : va_E} (h : ∀ a, a ∈ l → a ∉ L) : va_pl L f ++ l.map (fun a => (a, e)) = va_pl (L ++ l) (vr_up f l e) := by
  unfold va_pl
  rw [List.map_append]
  congr 1
  · apply List.map_congr_left
    intro a ha
    rw [vr_up_ne (fun q => h a q ha)]
  · apply List.map_congr_left
    intro a ha
    rw [vr_up_in ha]
theorem vr_lay {X rows : va_W} {x : Nat × va_E} {pl : va_W} {D : va_G} {cl : List vw_C} {H : Heap} (hP : va_P D cl (((X ++ pl) ++ [x]) ++ rows) H) : va_P D cl ((X ++ [x]) ++ (pl ++ rows)) H := by
  rw [List.append_assoc (X ++ pl)] at hP
  have h := va_P.swap hP
  rw [← List.append_assoc X] at h
  have h2 := va_P.swap h
  rw [List.append_assoc (X ++ [x])] at h2
  exact h2
theorem vr_layD {X rows : va_W} {x : Nat × va_E} {pl : va_W} {A : Nat → Prop} (hD : va_D A (((X ++ pl) ++ [x]) ++ rows)) : va_D A ((X ++ [x]) ++ (pl ++ rows)) := by
  rw [List.append_assoc (X ++ pl)] at hD
  have h := va_D.swap hD
  rw [← List.append_assoc X] at h
  have h2 := va_D.swap h
  rw [List.append_assoc (X ++ [x])] at h2
  exact h2
theorem vr_outer (c : ClassId) (N h0 : Nat) : ∀ i : Nat, Jvm.Free.Multi.outerC c N h0 i = arrV c N (fun j => va_rf (if j < i then some (h0 + 1 + j) else none))
  | 0 => by
    show ({ cls := c, slots := Array.replicate N .null, vm := .none } : Cell) = _
    rw [arrV_new]
    refine congrArg (arrV c N) (funext fun j => ?_)
    simp [va_rf]
  | i + 1 => by
    show (Jvm.Free.Multi.outerC c N h0 i).setSlot i (.ref (h0 + 1 + i)) = _
    rw [vr_outer c N h0 i, arrV_store]
    refine congrArg (arrV c N) (funext fun j => ?_)
    by_cases e : j = i
    · subst e
      simp [updV, va_rf]
    · by_cases h : j < i
      · simp [updV, e, h, Nat.lt_succ_of_lt h]
      · simp [updV, e, h, show ¬ j < i + 1 by omega]
section VGM
variable {p : Program} {l : Launch} {e : Env} {R : Room} {s : State} {m : MethodId} {args : Array Value} {below : List Frame} {meth : Method} {c : Code} {H : Heap} {locs : List Loc} {cells slots : Nat} {Q : State → Prop}
variable {cc : ByteArray} {pc : Nat} {ls : Array Slot} {rest : List Value} {D : va_G} {cl : List vw_C} {A : Nat → Prop} {a : Nat} {tys : List (ClassId × FieldType)} {ws : va_W} {H0 : Heap}
theorem va_mna {X : va_W} {L : List Nat} {f : Nat → va_E} {cc : ByteArray} (hexec : p.tables.exec = Jvm.exec) (hb : c.code = cc) {own : String} {index : Nat} {ty : FieldType} {cy : ClassId} (hown : s.vm.findClass own = some m.cls) (hclink : (Cond.classLink own index ("[" ++ (FieldType.array ty).toString)).before args s = true) (hover : va_AOA ty s) (harr : (Cond.arrayClass ty).before args s = true) (hcy : s.vm.findClass (FieldType.array ty).toString = some cy)
    (hK : va_K D cl tys s) (hP : va_P D cl (X ++ va_pl L f) H) (hD : va_D A (X ++ va_pl L f)) (hS : va_S A H0 H locs) (hA : ∀ q, H0.size ≤ q → A q) {n k : Int32} {N' K' : Nat} {z : vp_A} (hn : ¬ n < 0) (hk : ¬ k < 0) (hN : n.toNatClampNeg = N') (hM : k.toNatClampNeg = K')
    (hb1 : N' * 4 ≤ 536870912) (hb2 : K' * componentBytes ty ≤ 536870912) (hb3 : K' ≤ 536870912) (hdf : fits ty (defaultValue ty) = true) (hdd : (defaultValue ty).isDefault = true) (hcells : cells + (1 + N') ≤ R.cells) (hslots : slots + (N' + N' * K') ≤ R.slots) (hz : ∀ c : ClassId, Jvm.Free.Multi.innerC c K' (defaultValue ty) = vp_cell c z) (hdg : decode cc pc = .ok (.multianewarray index 2, 4))
    (kk : ∀ (q : Nat) (r : Nat → Nat) (cA : ClassId) (H1 : Heap), (∀ i j : Nat, i < N' → j < N' → r i = r j → i = j) → (∀ i : Nat, i < N' → r i ∉ L) → va_K D cl (tys ++ [(cA, .array ty)]) s →
      va_P D cl ((X ++ [(q, .inl (cA, N', .inr (.inr (.inr (.inr (fun i => if i < N' then some (r i) else none))))))]) ++ va_pl (L ++ (List.range N').map r) (vr_up f ((List.range N').map r) (.inl (cy, z)))) H1 → va_D A ((X ++ [(q, .inl (cA, N', .inr (.inr (.inr (.inr (fun i => if i < N' then some (r i) else none))))))]) ++ va_pl (L ++ (List.range N').map r) (vr_up f ((List.range N').map r) (.inl (cy, z)))) → va_S A H0 H1 locs →
      W p l e R s m args below meth c H1 locs (cells + 1 + N') (slots + N' + N' * K') Q (F0 m (pc + 4) ls (.ref q :: rest))) : W p l e R s m args below meth c H locs cells slots Q (F0 m pc ls (.int k :: .int n :: rest)) := by
  subst hN
  subst hM
  intro T hT Xs
  obtain ⟨vm₁, cA, comp, -, fA, fC, hO, -, X', step⟩ := Xs.multianewarray2F hexec hown hclink (va_AOA.use hover) harr (g := F0 m pc ls (.int k :: .int n :: rest)) rfl (by rw [hb]; exact hdg) rfl hn hk hb1 hb2 hb3 hdf hdd hcells hslots
  have ec : some cy = some comp := hcy.symm.trans fC
  cases ec
  generalize hF : Jvm.Free.Multi.fill (T.setVm vm₁) cA cy n.toNatClampNeg k.toNatClampNeg (defaultValue ty) n.toNatClampNeg = F at X' step
  have hTh : (T.setVm vm₁).heap = H := hT
  obtain ⟨f1, f2, -, -⟩ := Jvm.Free.Multi.fill_facts (T.setVm vm₁) cA cy n.toNatClampNeg k.toNatClampNeg (defaultValue ty) n.toNatClampNeg
  rw [hF, hTh] at f1 f2
  have hold : ∀ x : Nat, x < H.size → F.heap[x]? = H[x]? := fun x hx => by
    have := Jvm.Free.Multi.fill_old (T.setVm vm₁) cA cy n.toNatClampNeg k.toNatClampNeg (defaultValue ty) (a := x) (by rw [hTh]; exact hx) n.toNatClampNeg
    rw [hF, hTh] at this
    exact this
  have hrow : ∀ j : Nat, j < n.toNatClampNeg → F.heap[H.size + 1 + j]? = some (vp_cell cy z) := fun j hj => by
    have := Jvm.Free.Multi.fill_inner (T.setVm vm₁) cA cy n.toNatClampNeg k.toNatClampNeg (defaultValue ty) n.toNatClampNeg j hj
    rw [hF, hTh, hz] at this
    exact this
  have hout : Jvm.Free.Multi.outerC cA n.toNatClampNeg H.size n.toNatClampNeg = vp_cell cA (n.toNatClampNeg, .inr (.inr (.inr (.inr (fun i => if i < n.toNatClampNeg then some (H.size + 1 + i) else none))))) := by
    rw [vp_cell_q]
    exact vr_outer cA n.toNatClampNeg H.size n.toNatClampNeg
  rw [hout] at f2
  have hlt : ∀ a, a ∈ L → a < H.size := fun a ha => by
    obtain ⟨k9, hk9⟩ := va_pl_get (X := X) (f := f) ha
    exact (hP k9 _ hk9).lt
  have hnl : ∀ i : Nat, i < n.toNatClampNeg → H.size + 1 + i ∉ L := fun i _ h => by
    have := hlt _ h
    omega
  have hnm : ∀ a, a ∈ (List.range n.toNatClampNeg).map (fun i => H.size + 1 + i) → a ∉ L := fun a ha h => by
    obtain ⟨i, -, rfl⟩ := List.mem_map.mp ha
    have := hlt _ h
    omega
  have hP0 : va_P D cl (X ++ va_pl L f) F.heap := hP.kept (fun k9 x hx => hold x.1 ((hP k9 x hx).lt))
  have hP1 : va_P D cl ((X ++ va_pl L f) ++ [(H.size, .inl (cA, n.toNatClampNeg, .inr (.inr (.inr (.inr (fun i => if i < n.toNatClampNeg then some (H.size + 1 + i) else none))))))]) F.heap := hP0.app (fun k9 x hx => by
    have h0 : k9 < 1 := (List.getElem?_eq_some_iff.mp hx).1
    rw [show k9 = 0 by omega] at hx
    cases hx
    exact f2)
  have hP2 : va_P D cl (((X ++ va_pl L f) ++ [(H.size, .inl (cA, n.toNatClampNeg, .inr (.inr (.inr (.inr (fun i => if i < n.toNatClampNeg then some (H.size + 1 + i) else none))))))]) ++ ((List.range n.toNatClampNeg).map (fun i => H.size + 1 + i)).map (fun a => (a, .inl (cy, z)))) F.heap := hP1.app (fun k9 x hx => by
    obtain ⟨a, ha, rfl⟩ := List.mem_map.mp (List.mem_of_getElem? hx)
    obtain ⟨i, hi, rfl⟩ := List.mem_map.mp ha
    exact hrow i (List.mem_range.mp hi))
  have hD2 : va_D A (((X ++ va_pl L f) ++ [(H.size, .inl (cA, n.toNatClampNeg, .inr (.inr (.inr (.inr (fun i => if i < n.toNatClampNeg then some (H.size + 1 + i) else none))))))]) ++ ((List.range n.toNatClampNeg).map (fun i => H.size + 1 + i)).map (fun a => (a, .inl (cy, z)))) := by
    have hD1 := hD.push (e := .inl (cA, n.toNatClampNeg, .inr (.inr (.inr (.inr (fun i => if i < n.toNatClampNeg then some (H.size + 1 + i) else none)))))) hP rfl (hA _ hS.1)
    generalize hW1 : (X ++ va_pl L f) ++ [(H.size, .inl (cA, n.toNatClampNeg, .inr (.inr (.inr (.inr (fun i => if i < n.toNatClampNeg then some (H.size + 1 + i) else none))))))] = W1 at hD1 hP1 ⊢
    have hle : ∀ (k9 : Nat) (x : Nat × va_E), W1[k9]? = some x → x.1 ≤ H.size := fun k9 x hx => by
      rw [← hW1] at hx
      by_cases hl : k9 < (X ++ va_pl L f).length
      · rw [List.getElem?_append_left hl] at hx
        exact Nat.le_of_lt ((hP k9 x hx).lt)
      · rw [List.getElem?_append_right (by omega)] at hx
        have h0 : k9 - (X ++ va_pl L f).length < 1 := (List.getElem?_eq_some_iff.mp hx).1
        rw [show k9 - (X ++ va_pl L f).length = 0 by omega] at hx
        cases hx
        exact Nat.le_refl _
    have hr : ∀ (k9 : Nat) (x : Nat × va_E), (((List.range n.toNatClampNeg).map (fun i => H.size + 1 + i)).map (fun a => ((a, .inl (cy, z)) : Nat × va_E)))[k9]? = some x → x.1 = H.size + 1 + k9 := fun k9 x hx => by
      rw [List.getElem?_map, List.getElem?_map] at hx
      by_cases h9 : k9 < n.toNatClampNeg
      · rw [List.getElem?_range h9] at hx
        cases hx
        rfl
      · have hn0 : (List.range n.toNatClampNeg)[k9]? = none := List.getElem?_eq_none (by rw [List.length_range]; omega)
        rw [hn0] at hx
        cases hx
    refine ⟨fun i j x y hi hj hxy => ?_, fun k9 x hx => ?_⟩
    · by_cases h1 : i < W1.length <;> by_cases h2 : j < W1.length
      · rw [List.getElem?_append_left h1] at hi
        rw [List.getElem?_append_left h2] at hj
        exact hD1.1 i j x y hi hj hxy
      · rw [List.getElem?_append_left h1] at hi
        rw [List.getElem?_append_right (by omega)] at hj
        have := hle _ _ hi
        have := hr _ _ hj
        omega
      · rw [List.getElem?_append_right (by omega)] at hi
        rw [List.getElem?_append_left h2] at hj
        have := hle _ _ hj
        have := hr _ _ hi
        omega
      · rw [List.getElem?_append_right (by omega)] at hi hj
        have := hr _ _ hi
        have := hr _ _ hj
        omega
    · by_cases h1 : k9 < W1.length
      · rw [List.getElem?_append_left h1] at hx
        exact hD1.2 k9 x hx
      · rw [List.getElem?_append_right (by omega)] at hx
        have := hr _ _ hx
        exact hA _ (by have := hS.1; omega)
  have hAr : ArrOfT s cA (.array ty) := fun N9 z9 => by
    obtain ⟨-, k9, hk9, cm9, hkk9⟩ := (hO 0 0 0).1
    exact ⟨(fun q hq => by cases hq), k9, hk9, cm9, hkk9⟩
  have hK2 : va_K D cl (tys ++ [(cA, .array ty)]) s := ⟨hK.1, fun k9 x hx => by
    by_cases hl : k9 < tys.length
    · rw [List.getElem?_append_left hl] at hx
      exact hK.2 k9 x hx
    · rw [List.getElem?_append_right (by omega)] at hx
      have h0 : k9 - tys.length < 1 := (List.getElem?_eq_some_iff.mp hx).1
      rw [show k9 - tys.length = 0 by omega] at hx
      cases hx
      exact ⟨hAr, fA⟩⟩
  obtain ⟨t, a1, b1⟩ := kk H.size (fun i => H.size + 1 + i) cA F.heap (fun i j _ _ h => by have h9 : H.size + 1 + i = H.size + 1 + j := h; omega) hnl hK2 (by rw [← vr_rows hnm]; exact vr_lay hP2) (by rw [← vr_rows hnm]; exact vr_layD hD2) ⟨by rw [f1]; have := hS.1; omega, fun x h1 h2 => (hold x (Nat.lt_of_lt_of_le h1 hS.1)).trans (hS.2.1 x h1 h2), hS.2.2⟩ F rfl X'
  refine ⟨t, step t ?_, b1⟩
  have e : T.heap.size = H.size := by rw [hT]
  rw [e]
  exact a1
end VGM
/-! ===== END ===== -/

/-! ===== BEGIN exceptions that leave a method, and their catching by the caller (launches without stack traces) ===== -/
section VXA
/-! The laws vx_back, vx_callV, vx_callS, vx_callSW, vx_throw0, vx_throwS follow proofs of the library, with one case more: JvmDerived/Free/Laws.lean (Back.of_free), Shelf42/LK1.lean (callV, callS), Shelf/KitTraced.lean (throwNew0V, throwNewS). -/
/-- where a method has thrown q: the class by its name, the cell, what was written, the world -/
def vx_T (XC : String → State → State → Prop) (st : State) (q : Addr) (t : State) (mc ms : Nat) (free : Addr → Prop) : Prop :=
  ∃ (E : String) (ce : Cell) (L : List Loc), XC E st t ∧ t.heap[q]? = some ce ∧ ce.vm = .none ∧ st.vm.findClass E = some ce.cls ∧ st.WarmedH t.vm ∧ st.sameButNew ({ t with vm := st.vm } : State) L mc ms ∧ ∀ z ∈ L, free z.base
def vx_Q (Qc : Array Value → State → Outcome → State → Prop) (XC : String → State → State → Prop) (mc ms : Nat) (free : Addr → Prop) : Array Value → State → Outcome → State → Prop := fun a st o t =>
  (Qc a st o t ∧ ∃ L, FrameEnd st o t L mc ms ∧ ∀ q ∈ L, free q.base) ∨ ∃ q, o = .threw q ∧ vx_T XC st q t mc ms free
/-- a callee that returns or throws -/
def vx_Met (l : Launch) (y : MethodName) (ws : List Cond) (rm : Room) (Pc : Array Value → State → Prop) (Qc : Array Value → State → Outcome → State → Prop) (XC : String → State → State → Prop) (mc ms : Nat) (free : Addr → Prop) : Prop :=
  MetFree l y (headSpec ws rm) Pc (fun _ _ _ _ _ => True) (vx_Q Qc XC mc ms free)
def vx_Post (XC : String → State → State → Prop) (mc ms : Nat) (free : Addr → Prop) : Pt → Array Value → Addr → Pt → Prop := fun A a q B =>
  ∃ (g : JFrame) (mk : MethodId) (t : State) (L : List Loc) (E : String) (ce : Cell), B.U.heap = t.heap ∧ B.U.vm = t.vm ∧ XC E (A.U.calling g mk a) t ∧ t.heap[q]? = some ce ∧ ce.vm = .none ∧ A.U.vm.findClass E = some ce.cls ∧ B.locs = A.locs ++ L ∧ (∀ z ∈ L, free z.base) ∧ B.cells = A.cells + mc ∧ B.slots = A.slots + ms
def vx_Back (l : Launch) (R : Room) (p : Program) (e : Env) (below : List Frame) (s : State) (sargs : Array Value) (y : MethodName) (len W9 : Nat)
    (Pre : Pt → Array Value → Prop) (Post : Pt → Array Value → Option Value → Pt → Prop) (PostX : Pt → Array Value → Addr → Pt → Prop) : Prop :=
  ∀ (m : MethodId) (meth : Method) (c : Code) (A : Pt) (g : JFrame) (ig : Instr) (mk : MethodId) (a : Array Value),
    Stand p l e R s m sargs below meth c A.U A.locs A.cells A.slots → g.method = m → g.locals.size = c.maxLocals → decode c.code g.pc = .ok (ig, len) →
    2 * g.monitorRoom + (g.stack.map fun v => v.category).sum ≤ W9 → A.U.methodNamed? y = some mk → Pre A a →
    (∃ (v : Option Value) (B : Pt), Stand p l e R s m sargs below meth c B.U B.locs B.cells B.slots ∧ Post A a v B ∧
      Steps p.tables e below (doInvoke e (A.U.setTop g) [] mk a).1 (B.U.setTop { g with pc := g.pc + len, stack := v.toList ++ g.stack })) ∨
    (∃ (q : Addr) (B : Pt), Stand p l e R s m sargs below meth c B.U B.locs B.cells B.slots ∧ PostX A a q B ∧
      Steps p.tables e below (doInvoke e (A.U.setTop g) [] mk a).1 ((B.U.setTop g).pushFrame (.throwing q)))
section Payer
variable {l : Launch} {R : Room} {p : Program} {e : Env} {below : List Frame} {s : State} {sargs : Array Value} {y : MethodName} {len W9 : Nat}
theorem vx_back {ws : List Cond} {rm : Room} {Pc : Array Value → State → Prop} {Qc : Array Value → State → Outcome → State → Prop} {XC : String → State → State → Prop} {mc ms : Nat} {free : Addr → Prop} {bytes : ByteArray} {maxL : Nat} {ret : Option FieldType}
    (hM : vx_Met l y ws rm Pc Qc XC mc ms free) (hblind : FrameBlind Pc) (hrc : rm.cells = mc) (hrs : rm.slots = ms)
    (hframes : rm.frames + 1 ≤ R.frames) (hlocals : W9 + (maxL + 11) + rm.locals ≤ R.locals)
    (hws : ∀ w ∈ ws, ∀ a' U, s.WarmedH U.vm → w.before a' U = true) (hcode : Cond.code y bytes maxL ret ∈ ws) (hinit : ∀ a' U, s.WarmedH U.vm → (Cond.initialized y.cls).before a' U = true) :
    vx_Back l R p e below s sargs y len W9 (PreOf R mc ms Pc) (PostOf Qc mc ms free) (vx_Post XC mc ms free) := by
  intro m meth c A g ig mk a X hg hsize hdg hW hn hp
  have h1 : (headSpec ws rm).pre.before a A.U = true := atoms_intro fun w hw => hws w hw _ _ X.warmed
  have h2 : (Cond.code y bytes maxL ret).before a A.U = true := hws _ hcode _ _ X.warmed
  have h3 : (Cond.initialized y.cls).before a A.U = true := hinit _ _ X.warmed
  have h4 : A.cells + (headSpec ws rm).room.cells ≤ R.cells := by rw [show (headSpec ws rm).room.cells = mc from hrc]; exact hp.1
  have h5 : A.slots + (headSpec ws rm).room.slots ≤ R.slots := by rw [show (headSpec ws rm).room.slots = ms from hrs]; exact hp.2.1
  have hPc : Pc a (A.U.calling g mk a) := hblind _ _ _ _ hp.2.2
  obtain ⟨U, Ls, c0, s0⟩ := A
  dsimp only [Pt.U, Pt.locs, Pt.cells, Pt.slots] at h1 h2 h3 h4 h5 X hn hPc ⊢
  obtain ⟨methY, cY, hmY, hcY, -, hlY, -, -, -, -⟩ := Cond.code_spec hn h2
  obtain ⟨kY, hkY, -⟩ := className_of_methodNamed hn
  have hinitY : kY.init = .initialized := Cond.initialized_spec (findClass_of_methodNamed hn) hkY h3
  have h : At U g.method c below := by rw [hg]; exact X.here
  have hlocals9 : W9 + (maxL + 11) + (headSpec ws rm).room.locals ≤ R.locals := hlocals
  have happ : (headSpec ws rm).appliesLoose y e.platform (U.calling g mk a) = true :=
    Spec.appliesLoose_calling (g := g) h hdg hn hkY hinitY
      (X.room_calling (g := g) (R' := (headSpec ws rm).room) hsize hmY hcY hframes (by rw [hlY]; omega) h4 h5) h1
  obtain ⟨mid, hmid⟩ := h.above
  have hfr : (U.setTop g).frames = (.java g :: mid) ++ below := by rw [State.frames_setTop' g h.top, hmid]; rfl
  obtain ⟨o, s₂, hsteps, -, hend, hq⟩ := Steps.callFree hM p X.admits X.cas X.clock (acts := []) hfr happ hPc trivial
  have hq' : vx_Q Qc XC mc ms free a (U.calling g mk a) o s₂ := hq
  rw [State.frames_setTop' g h.top] at hend
  obtain ⟨g₀, hg0⟩ := Option.isSome_iff_exists.mp h.top
  obtain ⟨r, hr⟩ := State.topJava?_eq_some.mp hg0
  have hr' : (({ U with heap := s₂.heap, slotsUsed := s₂.slotsUsed } : State).setVm s₂.vm).frames = .java g₀ :: r := hr
  rcases hq' with ⟨hqc, L, hfe, hL⟩ | ⟨q, rfl, E, ce, L, hx, hce, hcv, hcl, hW₂, hsm, hL⟩
  · obtain ⟨⟨v, rfl⟩, hW₂, e2, q2, q3, q4, q5, q6⟩ := id hfe
    have e3 : s₂ = ({ (U.calling g mk a).setFrames s₂.frames with heap := s₂.heap, slotsUsed := s₂.slotsUsed } : State).setVm s₂.vm := by
      have : s₂ = ({ s₂ with vm := (U.calling g mk a).vm } : State).setVm s₂.vm := rfl
      rw [e2] at this
      exact this
    obtain ⟨c₂, i₂, len₂, hc₂, hd₂, hf₂⟩ := hend
    have hW' : U.WarmedH s₂.vm := hW₂
    have hcc : c₂ = c := by
      have h1 : s₂.code? g.method = U.code? g.method := by
        rw [State.code?_eq, State.code?_eq, hW'.alike.method?]
      exact Option.some.inj (hc₂.symm.trans (h1.trans h.code))
    subst hcc
    have hlen : len₂ = len := by rw [hdg] at hd₂; cases hd₂; rfl
    subst hlen
    have hs₂ : s₂ = (({ U with heap := s₂.heap, slotsUsed := s₂.slotsUsed } : State).setVm s₂.vm).setTop { g with pc := g.pc + len₂, stack := v.toList ++ g.stack } := by
      refine e3.trans ?_
      rw [hf₂, State.calling_eq h.top, State.setFrames_setFrames, State.setTop_of_frames _ hr', hr]
      rfl
    have hsame : U.sameButNew ({ U with heap := s₂.heap, slotsUsed := s₂.slotsUsed } : State) L mc ms := by
      refine ⟨?_, q2, q3, q4, q5, q6⟩
      obtain ⟨t, ht, -⟩ := State.frames_cons hr
      show ({ U with heap := s₂.heap, slotsUsed := s₂.slotsUsed } : State) = { U.setFrames U.frames with heap := s₂.heap, slotsUsed := s₂.slotsUsed }
      rw [State.setFrames_self ht]
    subst hg
    refine Or.inl ⟨v, ⟨(({ U with heap := s₂.heap, slotsUsed := s₂.slotsUsed } : State).setVm s₂.vm), Ls ++ L, c0 + mc, s0 + ms⟩,
      ⟨X.admits, X.cas, X.clock, X.frames, X.room, X.hears, X.method, X.code, (X.here.setHeapUsed s₂.heap s₂.slotsUsed).setVm hW'.alike, X.tail, State.WarmedH.trans X.warmed hW', X.limits, X.bytes, X.same.trans (hsame.setVm s.vm)⟩,
      ⟨g, mk, s₂, L, rfl, rfl, hqc, rfl, hL, rfl, rfl⟩, ?_⟩
    show Steps p.tables e below _ ((({ U with heap := s₂.heap, slotsUsed := s₂.slotsUsed } : State).setVm s₂.vm).setTop { g with pc := g.pc + len₂, stack := v.toList ++ g.stack })
    rw [← hs₂]
    exact hsteps
  · obtain ⟨e2, q2, q3, q4, q5, q6⟩ := id hsm
    have e3 : s₂ = ({ (U.calling g mk a).setFrames s₂.frames with heap := s₂.heap, slotsUsed := s₂.slotsUsed } : State).setVm s₂.vm := by
      have : s₂ = ({ s₂ with vm := (U.calling g mk a).vm } : State).setVm s₂.vm := rfl
      rw [e2] at this
      exact this
    have hf₂ : s₂.frames = .throwing q :: .java g :: U.frames.tail := hend
    have hW' : U.WarmedH s₂.vm := hW₂
    have hs₂ : s₂ = ((({ U with heap := s₂.heap, slotsUsed := s₂.slotsUsed } : State).setVm s₂.vm).setTop g).pushFrame (.throwing q) := by
      refine e3.trans ?_
      rw [hf₂, State.calling_eq h.top, State.setFrames_setFrames, State.pushFrame, State.frames_setTop _ hr', State.setTop_of_frames _ hr', State.setFrames_setFrames, hr]
      rfl
    have hsame : U.sameButNew ({ U with heap := s₂.heap, slotsUsed := s₂.slotsUsed } : State) L mc ms := by
      refine ⟨?_, q2, q3, q4, q5, q6⟩
      obtain ⟨t, ht, -⟩ := State.frames_cons hr
      show ({ U with heap := s₂.heap, slotsUsed := s₂.slotsUsed } : State) = { U.setFrames U.frames with heap := s₂.heap, slotsUsed := s₂.slotsUsed }
      rw [State.setFrames_self ht]
    subst hg
    refine Or.inr ⟨q, ⟨(({ U with heap := s₂.heap, slotsUsed := s₂.slotsUsed } : State).setVm s₂.vm), Ls ++ L, c0 + mc, s0 + ms⟩,
      ⟨X.admits, X.cas, X.clock, X.frames, X.room, X.hears, X.method, X.code, (X.here.setHeapUsed s₂.heap s₂.slotsUsed).setVm hW'.alike, X.tail, State.WarmedH.trans X.warmed hW', X.limits, X.bytes, X.same.trans (hsame.setVm s.vm)⟩,
      ⟨g, mk, s₂, L, E, ce, rfl, rfl, hx, hce, hcv, hcl, rfl, hL, rfl, rfl⟩, ?_⟩
    show Steps p.tables e below _ (((({ U with heap := s₂.heap, slotsUsed := s₂.slotsUsed } : State).setVm s₂.vm).setTop g).pushFrame (.throwing q))
    rw [← hs₂]
    exact hsteps
end Payer
section Calls
variable {p : Program} {l : Launch} {e : Env} {R : Room} {s : State} {m : MethodId} {args : Array Value} {below : List Frame} {meth : Method} {c : Code} {T : State} {locs : List Loc} {cells slots : Nat}
theorem vx_callV (X : Stand p l e R s m args below meth c T locs cells slots) (hexec : p.tables.exec = Jvm.exec) {own C : String} {index : Nat} {y : MethodName} {bytes : ByteArray} {maxL : Nat} {ret : Option FieldType}
    (hown : s.vm.findClass own = some m.cls) (hlink : (Cond.methodLink own index y).before args s = true) (hinst : (Cond.instanceMethod y).before args s = true) (hsel : (Cond.selects C y y).before args s = true)
    (hcode : (Cond.code y bytes maxL ret).before args s = true) (hy : y.cls ≠ "java/lang/invoke/MethodHandle" ∧ y.cls ≠ "java/lang/invoke/VarHandle")
    {W9 : Nat} {Pre : Pt → Array Value → Prop} {Post : Pt → Array Value → Option Value → Pt → Prop} {PostX : Pt → Array Value → Addr → Pt → Prop} (hK : vx_Back l R p e below s args y 3 W9 Pre Post PostX)
    {b : Addr} {cellB : Cell} (hcell : T.heap[b]? = some cellB) (hobj : cellB.vm.isStatics = false) (hcls : s.vm.findClass C = some cellB.cls)
    {g : JFrame} (hg : g.method = m) (hsize : g.locals.size = c.maxLocals) {argsL rest : List Value} (hlen : ∀ sig, parseMethodDescriptor y.desc = some sig → argsL.length = sig.parameters.length)
    (hstack : g.stack = argsL.reverse ++ .ref b :: rest) (hW : 2 * g.monitorRoom + (rest.map fun v => v.category).sum ≤ W9) (hdg : decode c.code g.pc = .ok (.invokevirtual index, 3))
    (hpre : ∀ vm₁, s.WarmedH vm₁ → Pre ⟨T.setVm vm₁, locs, cells, slots⟩ (Value.ref b :: argsL).toArray) :
    (∃ (v : Option Value) (vm₁ : Vm) (B : Pt), s.WarmedH vm₁ ∧ Stand p l e R s m args below meth c B.U B.locs B.cells B.slots ∧ Post ⟨T.setVm vm₁, locs, cells, slots⟩ (Value.ref b :: argsL).toArray v B ∧
      ∀ target, Steps p.tables e below (B.U.setTop { g with pc := g.pc + 3, stack := v.toList ++ rest }) target → Steps p.tables e below (T.setTop g) target) ∨
    (∃ (q : Addr) (vm₁ : Vm) (B : Pt), s.WarmedH vm₁ ∧ Stand p l e R s m args below meth c B.U B.locs B.cells B.slots ∧ PostX ⟨T.setVm vm₁, locs, cells, slots⟩ (Value.ref b :: argsL).toArray q B ∧
      Steps p.tables e below (T.setTop g) ((B.U.setTop { g with stack := rest }).pushFrame (.throwing q))) := by
  obtain ⟨mk, methM, hnamed, hmethM, hstM, habM⟩ := Cond.instanceMethod_spec hinst
  obtain ⟨methM', cM, hmethM', -, -, -, -, -, -, hsigM⟩ := Cond.code_spec hnamed hcode
  cases hmethM.symm.trans hmethM'
  obtain ⟨c2, r2, m2, q1, q2, q3, q4, kP, hkP, hkPi⟩ := Cond.selects_spec hsel
  cases hcls.symm.trans q1
  cases (State.methodFound?_of_named hnamed hy).symm.trans q2
  cases hnamed.symm.trans q3
  have hselP : selectMethod e.platform s.vm cellB.cls mk = .method mk := by rw [Launch.admits_selectMethod X.admits]; exact q4
  obtain ⟨vm₁, X₁, hstep₁⟩ := X.invokevirtual hexec hown hlink hnamed hmethM hstM hkP hkPi hy (a := b) (cell := cellB) hcell
    (fun z h => by rw [h] at hobj; cases hobj) hselP hmethM habM hkP hkPi (g := g) hg (argsL := argsL) (rest := rest) (hlen _ hsigM) hstack hdg
  rcases hK m meth c ⟨T.setVm vm₁, locs, cells, slots⟩ { g with stack := rest } (.invokevirtual index) mk (Value.ref b :: argsL).toArray X₁ hg hsize hdg hW (X₁.named hnamed) (hpre vm₁ X₁.warmed) with ⟨v, B, X', hpost, hsteps⟩ | ⟨q, B, X', hpost, hsteps⟩
  · exact Or.inl ⟨v, vm₁, B, X₁.warmed, X', hpost, fun target h => hstep₁ _ fun acts => by rw [doInvoke_state]; exact hsteps.trans h⟩
  · exact Or.inr ⟨q, vm₁, B, X₁.warmed, X', hpost, hstep₁ _ fun acts => by rw [doInvoke_state]; exact hsteps⟩
theorem vx_callS (X : Stand p l e R s m args below meth c T locs cells slots) (hexec : p.tables.exec = Jvm.exec) {own : String} {index : Nat} {y : MethodName} {bytes : ByteArray} {maxL : Nat} {ret : Option FieldType}
    (hown : s.vm.findClass own = some m.cls) (hlink : (Cond.methodLink own index y).before args s = true) (hstat : (Cond.static y).before args s = true) (hinit : (Cond.initialized y.cls).before args s = true)
    (hcode : (Cond.code y bytes maxL ret).before args s = true) (hy : y.cls ≠ "java/lang/invoke/MethodHandle" ∧ y.cls ≠ "java/lang/invoke/VarHandle")
    {W9 : Nat} {Pre : Pt → Array Value → Prop} {Post : Pt → Array Value → Option Value → Pt → Prop} {PostX : Pt → Array Value → Addr → Pt → Prop} (hK : vx_Back l R p e below s args y 3 W9 Pre Post PostX)
    {g : JFrame} (hg : g.method = m) (hsize : g.locals.size = c.maxLocals) {argsL rest : List Value} (hlen : ∀ sig, parseMethodDescriptor y.desc = some sig → argsL.length = sig.parameters.length)
    (hstack : g.stack = argsL.reverse ++ rest) (hW : 2 * g.monitorRoom + (rest.map fun v => v.category).sum ≤ W9) (hdg : decode c.code g.pc = .ok (.invokestatic index, 3))
    (hpre : ∀ vm₁, s.WarmedH vm₁ → Pre ⟨T.setVm vm₁, locs, cells, slots⟩ argsL.toArray) :
    (∃ (v : Option Value) (vm₁ : Vm) (B : Pt), s.WarmedH vm₁ ∧ Stand p l e R s m args below meth c B.U B.locs B.cells B.slots ∧ Post ⟨T.setVm vm₁, locs, cells, slots⟩ argsL.toArray v B ∧
      ∀ target, Steps p.tables e below (B.U.setTop { g with pc := g.pc + 3, stack := v.toList ++ rest }) target → Steps p.tables e below (T.setTop g) target) ∨
    (∃ (q : Addr) (vm₁ : Vm) (B : Pt), s.WarmedH vm₁ ∧ Stand p l e R s m args below meth c B.U B.locs B.cells B.slots ∧ PostX ⟨T.setVm vm₁, locs, cells, slots⟩ argsL.toArray q B ∧
      Steps p.tables e below (T.setTop g) ((B.U.setTop { g with stack := rest }).pushFrame (.throwing q))) := by
  obtain ⟨mk, hnamed⟩ := Cond.code_named hcode
  obtain ⟨methM, cM, hmethM, -, -, -, -, -, -, hsigM⟩ := Cond.code_spec hnamed hcode
  have hstatic : methM.isStatic = true := Cond.static_spec hnamed hmethM hstat
  obtain ⟨kP, hkP, -⟩ := className_of_methodNamed hnamed
  have hinitP : kP.init = .initialized := Cond.initialized_spec (findClass_of_methodNamed hnamed) hkP hinit
  obtain ⟨vm₁, X₁, hstep₁⟩ := X.invokestatic hexec hown hlink hnamed hmethM hstatic hkP hinitP hy (g := g) hg (argsL := argsL) (rest := rest) (hlen _ hsigM) hstack hdg
  rcases hK m meth c ⟨T.setVm vm₁, locs, cells, slots⟩ { g with stack := rest } (.invokestatic index) mk argsL.toArray X₁ hg hsize hdg hW (X₁.named hnamed) (hpre vm₁ X₁.warmed) with ⟨v, B, X', hpost, hsteps⟩ | ⟨q, B, X', hpost, hsteps⟩
  · exact Or.inl ⟨v, vm₁, B, X₁.warmed, X', hpost, fun target h => hstep₁ _ fun acts => by rw [doInvoke_state]; exact hsteps.trans h⟩
  · exact Or.inr ⟨q, vm₁, B, X₁.warmed, X', hpost, hstep₁ _ fun acts => by rw [doInvoke_state]; exact hsteps⟩
end Calls
theorem vx_cls {s : State} {T : State} {vm₁ : Vm} {E : String} {k : ClassId} (hW : s.WarmedH vm₁) (h : (T.setVm vm₁).vm.findClass E = some k) : s.vm.findClass E = some k := by
  have h1 : vm₁.findClass E = some k := h
  rw [hW.alike.findClass] at h1
  exact h1
/-- the method's frame g, with q thrown over it -/
def vx_W (p : Program) (l : Launch) (e : Env) (R : Room) (s : State) (m : MethodId) (args : Array Value) (below : List Frame) (meth : Method) (c : Code) (H : Heap) (locs : List Loc) (cells slots : Nat) (Q : State → Prop) (g : JFrame) (q : Addr) : Prop :=
  ∀ T : State, T.heap = H → Stand p l e R s m args below meth c T locs cells slots → ∃ t, Steps p.tables e below ((T.setTop g).pushFrame (.throwing q)) t ∧ Q t
def vx_Run (p : Program) (l : Launch) (e : Env) (R : Room) (s : State) (m : MethodId) (args : Array Value) (below : List Frame) (meth : Method) (c : Code) (H : Heap) (locs : List Loc) (cells slots mc ms : Nat) (g : JFrame) (rest : List Value) (Qa : State → Outcome → State → Prop) (XC : String → State → State → Prop) (free : Addr → Prop) : Prop :=
  ∀ T : State, T.heap = H → Stand p l e R s m args below meth c T locs cells slots →
    (∃ (v : Option Value) (st₀ t T' : State) (L : List Loc), st₀.heap = H ∧ Stand p l e R s m args below meth c T' (locs ++ L) (cells + mc) (slots + ms) ∧ (∀ q ∈ L, free q.base) ∧ T'.heap = t.heap ∧ T'.vm = t.vm ∧ Qa st₀ (.returned v) t ∧
      Goes p e below T g T' { g with pc := g.pc + 3, stack := v.toList ++ rest }) ∨
    (∃ (q : Addr) (st₀ t T' : State) (L : List Loc) (E : String) (ce : Cell), st₀.heap = H ∧ Stand p l e R s m args below meth c T' (locs ++ L) (cells + mc) (slots + ms) ∧ (∀ z ∈ L, free z.base) ∧ T'.heap = t.heap ∧ T'.vm = t.vm ∧ XC E st₀ t ∧ t.heap[q]? = some ce ∧ ce.vm = .none ∧ s.vm.findClass E = some ce.cls ∧
      Steps p.tables e below (T.setTop g) ((T'.setTop { g with stack := rest }).pushFrame (.throwing q)))
def vx_X {S : Type} (px : S → Prop) (B : String → S → State → Prop) (A : Nat → Prop) : String → State → State → Prop := fun E st t => ∃ u : S, px u ∧ B E u t ∧ va_F A st t
section Runs
variable {p : Program} {l : Launch} {e : Env} {R : Room} {s : State} {m : MethodId} {args : Array Value} {below : List Frame} {meth : Method} {c : Code} {H : Heap} {locs : List Loc} {cells slots : Nat}
variable {y : MethodName} {bytes cc : ByteArray} {maxL nL mc ms n index : Nat} {ret : Option FieldType} {ws : List Cond} {rm : Room} {Pc : Array Value → State → Prop} {Qc : Array Value → State → Outcome → State → Prop} {XC : String → State → State → Prop} {free : Addr → Prop} {Ts : List Cond} {own C : String} {b : Addr} {As rest : List Value} {g : JFrame}
theorem vx_callBack (cb : CallB R s args own index y bytes maxL ret ws rm mc ms n) (hM : vx_Met l y ws rm Pc Qc XC mc ms free) (hbl : FrameBlind Pc) : vx_Back l R p e below s args y 3 8 (PreOf R mc ms Pc) (PostOf Qc mc ms free) (vx_Post XC mc ms free) := by
  obtain ⟨hrc, hrs, hfr, hlo, hws, hcw, -, hini, -⟩ := cb
  exact vx_back (bytes := bytes) (maxL := maxL) (ret := ret) hM hbl hrc hrs hfr hlo hws hcw (fun a' U hW => word_at hW (Or.inl (by first | rfl | simp [Cond.onTables, Cond.keeps, Cond.steady])) hini)
theorem vx_runV (S : CallFix p m c cc nL s args Ts own) (hM : vx_Met l y ws rm Pc Qc XC mc ms free) (cw : CallW R s args own C index y bytes maxL ret ws rm mc ms n) (hp : PreV s H C b Pc As)
    (hg : g.method = m) (hn : As.length = n) (hsize : g.locals.size = nL) (hstack : g.stack = As.reverse ++ .ref b :: rest) (hW : 2 * g.monitorRoom + (rest.map fun v => v.category).sum ≤ 8) (hdg : decode cc g.pc = .ok (.invokevirtual index, 3)) (hf : cells + mc ≤ R.cells ∧ slots + ms ≤ R.slots) :
    vx_Run p l e R s m args below meth c H locs cells slots mc ms g rest (Qc (Value.ref b :: As).toArray) XC free := by
  have hK : vx_Back l R p e below s args y 3 8 (PreOf R mc ms Pc) (PostOf Qc mc ms free) (vx_Post XC mc ms free) := vx_callBack cw.1 hM hp.1
  obtain ⟨⟨-, -, -, -, -, -, hcode, -, hy, hlen, hl⟩, hin, hse⟩ := cw
  obtain ⟨hx, hb, hml, ho, -⟩ := S
  obtain ⟨-, ⟨cellB, hcB, hoB, hclB⟩, hPc⟩ := hp
  intro T hT X
  rcases vx_callV X hx (C := C) (bytes := bytes) (maxL := maxL) (ret := ret) ho hl hin hse hcode hy hK (by rw [hT]; exact hcB) hoB hclB hg (hsize.trans hml.symm) (argsL := As) (rest := rest) (fun sig h => hn.trans (hlen sig h)) hstack hW (by rw [hb]; exact hdg)
    (fun vm₁ hW₁ => ⟨hf.1, hf.2, hPc (T.setVm vm₁) hT hW₁⟩) with ⟨v, vm₁, ⟨U', l2, c2, s2⟩, hW₁, X', ⟨g', mk, t, L, e1, e2, hq, h1, hL, h2, h3⟩, st⟩ | ⟨q, vm₁, ⟨U', l2, c2, s2⟩, hW₁, X', ⟨g', mk, t, L, E, ce, e1, e2, hq, hce, hcv, hcl, h1, hL, h2, h3⟩, st⟩
  · dsimp only [Pt.U, Pt.locs, Pt.cells, Pt.slots] at X' e1 e2 h1 h2 h3 st
    subst h1; subst h2; subst h3
    exact Or.inl ⟨v, (T.setVm vm₁).calling g' mk (Value.ref b :: As).toArray, t, U', L, hT, X', hL, e1, e2, hq, st⟩
  · dsimp only [Pt.U, Pt.locs, Pt.cells, Pt.slots] at X' e1 e2 h1 h2 h3 st hcl
    subst h1; subst h2; subst h3
    exact Or.inr ⟨q, (T.setVm vm₁).calling g' mk (Value.ref b :: As).toArray, t, U', L, E, ce, hT, X', hL, e1, e2, hq, hce, hcv, vx_cls hW₁ hcl, st⟩
theorem vx_runS (S : CallFix p m c cc nL s args Ts own) (hM : vx_Met l y ws rm Pc Qc XC mc ms free) (cw : CallB R s args own index y bytes maxL ret ws rm mc ms n ∧ (Cond.static y).before args s = true) (hp : PreS s H Pc As)
    (hg : g.method = m) (hn : As.length = n) (hsize : g.locals.size = nL) (hstack : g.stack = As.reverse ++ rest) (hW : 2 * g.monitorRoom + (rest.map fun v => v.category).sum ≤ 8) (hdg : decode cc g.pc = .ok (.invokestatic index, 3)) (hf : cells + mc ≤ R.cells ∧ slots + ms ≤ R.slots) :
    vx_Run p l e R s m args below meth c H locs cells slots mc ms g rest (Qc As.toArray) XC free := by
  have hK : vx_Back l R p e below s args y 3 8 (PreOf R mc ms Pc) (PostOf Qc mc ms free) (vx_Post XC mc ms free) := vx_callBack cw.1 hM hp.1
  obtain ⟨⟨-, -, -, -, -, -, hcode, hini, hy, hlen, hl⟩, hstt⟩ := cw
  obtain ⟨hx, hb, hml, ho, -⟩ := S
  intro T hT X
  rcases vx_callS X hx (bytes := bytes) (maxL := maxL) (ret := ret) ho hl hstt hini hcode hy hK hg (hsize.trans hml.symm) (argsL := As) (rest := rest) (fun sig h => hn.trans (hlen sig h)) hstack hW (by rw [hb]; exact hdg)
    (fun vm₁ hW₁ => ⟨hf.1, hf.2, hp.2 (T.setVm vm₁) hT hW₁⟩) with ⟨v, vm₁, ⟨U', l2, c2, s2⟩, hW₁, X', ⟨g', mk, t, L, e1, e2, hq, h1, hL, h2, h3⟩, st⟩ | ⟨q, vm₁, ⟨U', l2, c2, s2⟩, hW₁, X', ⟨g', mk, t, L, E, ce, e1, e2, hq, hce, hcv, hcl, h1, hL, h2, h3⟩, st⟩
  · dsimp only [Pt.U, Pt.locs, Pt.cells, Pt.slots] at X' e1 e2 h1 h2 h3 st
    subst h1; subst h2; subst h3
    exact Or.inl ⟨v, (T.setVm vm₁).calling g' mk As.toArray, t, U', L, hT, X', hL, e1, e2, hq, st⟩
  · dsimp only [Pt.U, Pt.locs, Pt.cells, Pt.slots] at X' e1 e2 h1 h2 h3 st hcl
    subst h1; subst h2; subst h3
    exact Or.inr ⟨q, (T.setVm vm₁).calling g' mk As.toArray, t, U', L, E, ce, hT, X', hL, e1, e2, hq, hce, hcv, vx_cls hW₁ hcl, st⟩
end Runs
section Rows
variable {p : Program} {l : Launch} {e : Env} {R : Room} {s : State} {m : MethodId} {args : Array Value} {below : List Frame} {meth : Method} {c : Code} {H : Heap} {locs : List Loc} {cells slots : Nat} {Q : State → Prop}
variable {mc ms : Nat} {free : Addr → Prop} {A0 A1 : Nat → Prop} {H0 : Heap} {a : Array Value} {pc : Nat} {ls : Array Slot} {st0 rest : List Value}
theorem vx_keep {st₀ t T' : State} {L : List Loc} (h0 : st₀.heap = H) (e1 : T'.heap = t.heap) (hS : va_S A0 H0 H locs) (hA : ∀ q, q < H.size → A1 q → A0 q) (hf : ∀ q, free q → A0 q) (hL : ∀ q ∈ L, free q.base) (hF : va_F A1 st₀ t) :
    H.size ≤ T'.heap.size ∧ (∀ q : Nat, q < H.size → ¬ A1 q → T'.heap[q]? = H[q]?) ∧ va_S A0 H0 T'.heap (locs ++ L) := by
  obtain ⟨hz, hk⟩ := hF
  rw [h0] at hz hk
  exact ⟨by rw [e1]; exact hz, fun q h1 h2 => by rw [e1]; exact hk q h1 h2,
    ⟨Nat.le_trans hS.1 (by rw [e1]; exact hz), fun q h1 h2 => by rw [e1, hk q (Nat.lt_of_lt_of_le h1 hS.1) (fun z => h2 (hA q (Nat.lt_of_lt_of_le h1 hS.1) z))]; exact hS.2.1 q h1 h2, fun q hq => by
      rcases List.mem_append.mp hq with h | h
      · exact hS.2.2 q h
      · exact hf _ (hL q h)⟩⟩
theorem vx_calli {S SX : Type} {post : Int32 → S → Prop} {px : SX → Prop} {B : S → State → Prop} {BX : String → SX → State → Prop} {AX : Nat → Prop} (hr : vx_Run p l e R s m args below meth c H locs cells slots mc ms (F0 m pc ls st0) rest (va_Qi post B A1 a) (vx_X px BX AX) free) (hS : va_S A0 H0 H locs) (hA : ∀ q, q < H.size → A1 q → A0 q) (hf : ∀ q, free q → A0 q) (hAX : ∀ q, q < H.size → AX q → A0 q)
    (kx : ∀ (E : String) (ce : Cell) (q9 : Addr) (u : SX) (t : State) (H1 : Heap) (locs1 : List Loc), t.heap = H1 → s.vm.Alike t.vm → px u → BX E u t → H.size ≤ H1.size → (∀ q : Nat, q < H.size → ¬ AX q → H1[q]? = H[q]?) → va_S A0 H0 H1 locs1 → H1[q9]? = some ce → ce.vm = .none → s.vm.findClass E = some ce.cls → vx_W p l e R s m args below meth c H1 locs1 (cells + mc) (slots + ms) Q (F0 m pc ls rest) q9)
    (kk : ∀ (r : Int32) (u : S) (t : State) (H1 : Heap) (locs1 : List Loc), t.heap = H1 → s.vm.Alike t.vm → post r u → B u t → H.size ≤ H1.size → (∀ q : Nat, q < H.size → ¬ A1 q → H1[q]? = H[q]?) → va_S A0 H0 H1 locs1 → W p l e R s m args below meth c H1 locs1 (cells + mc) (slots + ms) Q (F0 m (pc + 3) ls (.int r :: rest))) : W p l e R s m args below meth c H locs cells slots Q (F0 m pc ls st0) := by
  intro T hT X
  rcases hr T hT X with ⟨v, st₀, t, T', L, h0, X', hL, e1, e2, ⟨⟨r, u, hv, hp, hb⟩, hF⟩, st⟩ | ⟨q, st₀, t, T', L, E, ce, h0, X', hL, e1, e2, ⟨u, hp, hb, hF⟩, hce, hcv, hcl, st⟩
  · cases hv
    obtain ⟨k1, k2, k3⟩ := vx_keep h0 e1 hS hA hf hL hF
    obtain ⟨t2, a1, b1⟩ := kk r u t T'.heap (locs ++ L) e1.symm (by rw [← e2]; exact X'.warmed.alike) hp hb k1 k2 k3 T' rfl X'
    exact ⟨t2, st t2 a1, b1⟩
  · obtain ⟨k1, k2, k3⟩ := vx_keep h0 e1 hS hAX hf hL hF
    obtain ⟨t2, a1, b1⟩ := kx E ce q u t T'.heap (locs ++ L) e1.symm (by rw [← e2]; exact X'.warmed.alike) hp hb k1 k2 k3 (by rw [e1]; exact hce) hcv hcl T' rfl X'
    exact ⟨t2, st.trans a1, b1⟩
theorem vx_calll {S SX : Type} {post : Int64 → S → Prop} {px : SX → Prop} {B : S → State → Prop} {BX : String → SX → State → Prop} {AX : Nat → Prop} (hr : vx_Run p l e R s m args below meth c H locs cells slots mc ms (F0 m pc ls st0) rest (va_Ql post B A1 a) (vx_X px BX AX) free) (hS : va_S A0 H0 H locs) (hA : ∀ q, q < H.size → A1 q → A0 q) (hf : ∀ q, free q → A0 q) (hAX : ∀ q, q < H.size → AX q → A0 q)
    (kx : ∀ (E : String) (ce : Cell) (q9 : Addr) (u : SX) (t : State) (H1 : Heap) (locs1 : List Loc), t.heap = H1 → s.vm.Alike t.vm → px u → BX E u t → H.size ≤ H1.size → (∀ q : Nat, q < H.size → ¬ AX q → H1[q]? = H[q]?) → va_S A0 H0 H1 locs1 → H1[q9]? = some ce → ce.vm = .none → s.vm.findClass E = some ce.cls → vx_W p l e R s m args below meth c H1 locs1 (cells + mc) (slots + ms) Q (F0 m pc ls rest) q9)
    (kk : ∀ (r : Int64) (u : S) (t : State) (H1 : Heap) (locs1 : List Loc), t.heap = H1 → s.vm.Alike t.vm → post r u → B u t → H.size ≤ H1.size → (∀ q : Nat, q < H.size → ¬ A1 q → H1[q]? = H[q]?) → va_S A0 H0 H1 locs1 → W p l e R s m args below meth c H1 locs1 (cells + mc) (slots + ms) Q (F0 m (pc + 3) ls (.long r :: rest))) : W p l e R s m args below meth c H locs cells slots Q (F0 m pc ls st0) := by
  intro T hT X
  rcases hr T hT X with ⟨v, st₀, t, T', L, h0, X', hL, e1, e2, ⟨⟨r, u, hv, hp, hb⟩, hF⟩, st⟩ | ⟨q, st₀, t, T', L, E, ce, h0, X', hL, e1, e2, ⟨u, hp, hb, hF⟩, hce, hcv, hcl, st⟩
  · cases hv
    obtain ⟨k1, k2, k3⟩ := vx_keep h0 e1 hS hA hf hL hF
    obtain ⟨t2, a1, b1⟩ := kk r u t T'.heap (locs ++ L) e1.symm (by rw [← e2]; exact X'.warmed.alike) hp hb k1 k2 k3 T' rfl X'
    exact ⟨t2, st t2 a1, b1⟩
  · obtain ⟨k1, k2, k3⟩ := vx_keep h0 e1 hS hAX hf hL hF
    obtain ⟨t2, a1, b1⟩ := kx E ce q u t T'.heap (locs ++ L) e1.symm (by rw [← e2]; exact X'.warmed.alike) hp hb k1 k2 k3 (by rw [e1]; exact hce) hcv hcl T' rfl X'
    exact ⟨t2, st.trans a1, b1⟩
theorem vx_callf {S SX : Type} {post : UInt32 → S → Prop} {px : SX → Prop} {B : S → State → Prop} {BX : String → SX → State → Prop} {AX : Nat → Prop} (hr : vx_Run p l e R s m args below meth c H locs cells slots mc ms (F0 m pc ls st0) rest (va_Qf post B A1 a) (vx_X px BX AX) free) (hS : va_S A0 H0 H locs) (hA : ∀ q, q < H.size → A1 q → A0 q) (hf : ∀ q, free q → A0 q) (hAX : ∀ q, q < H.size → AX q → A0 q)
    (kx : ∀ (E : String) (ce : Cell) (q9 : Addr) (u : SX) (t : State) (H1 : Heap) (locs1 : List Loc), t.heap = H1 → s.vm.Alike t.vm → px u → BX E u t → H.size ≤ H1.size → (∀ q : Nat, q < H.size → ¬ AX q → H1[q]? = H[q]?) → va_S A0 H0 H1 locs1 → H1[q9]? = some ce → ce.vm = .none → s.vm.findClass E = some ce.cls → vx_W p l e R s m args below meth c H1 locs1 (cells + mc) (slots + ms) Q (F0 m pc ls rest) q9)
    (kk : ∀ (r : UInt32) (u : S) (t : State) (H1 : Heap) (locs1 : List Loc), t.heap = H1 → s.vm.Alike t.vm → post r u → B u t → H.size ≤ H1.size → (∀ q : Nat, q < H.size → ¬ A1 q → H1[q]? = H[q]?) → va_S A0 H0 H1 locs1 → W p l e R s m args below meth c H1 locs1 (cells + mc) (slots + ms) Q (F0 m (pc + 3) ls (.float r :: rest))) : W p l e R s m args below meth c H locs cells slots Q (F0 m pc ls st0) := by
  intro T hT X
  rcases hr T hT X with ⟨v, st₀, t, T', L, h0, X', hL, e1, e2, ⟨⟨r, u, hv, hp, hb⟩, hF⟩, st⟩ | ⟨q, st₀, t, T', L, E, ce, h0, X', hL, e1, e2, ⟨u, hp, hb, hF⟩, hce, hcv, hcl, st⟩
  · cases hv
    obtain ⟨k1, k2, k3⟩ := vx_keep h0 e1 hS hA hf hL hF
    obtain ⟨t2, a1, b1⟩ := kk r u t T'.heap (locs ++ L) e1.symm (by rw [← e2]; exact X'.warmed.alike) hp hb k1 k2 k3 T' rfl X'
    exact ⟨t2, st t2 a1, b1⟩
  · obtain ⟨k1, k2, k3⟩ := vx_keep h0 e1 hS hAX hf hL hF
    obtain ⟨t2, a1, b1⟩ := kx E ce q u t T'.heap (locs ++ L) e1.symm (by rw [← e2]; exact X'.warmed.alike) hp hb k1 k2 k3 (by rw [e1]; exact hce) hcv hcl T' rfl X'
    exact ⟨t2, st.trans a1, b1⟩
theorem vx_calld {S SX : Type} {post : UInt64 → S → Prop} {px : SX → Prop} {B : S → State → Prop} {BX : String → SX → State → Prop} {AX : Nat → Prop} (hr : vx_Run p l e R s m args below meth c H locs cells slots mc ms (F0 m pc ls st0) rest (va_Qd post B A1 a) (vx_X px BX AX) free) (hS : va_S A0 H0 H locs) (hA : ∀ q, q < H.size → A1 q → A0 q) (hf : ∀ q, free q → A0 q) (hAX : ∀ q, q < H.size → AX q → A0 q)
    (kx : ∀ (E : String) (ce : Cell) (q9 : Addr) (u : SX) (t : State) (H1 : Heap) (locs1 : List Loc), t.heap = H1 → s.vm.Alike t.vm → px u → BX E u t → H.size ≤ H1.size → (∀ q : Nat, q < H.size → ¬ AX q → H1[q]? = H[q]?) → va_S A0 H0 H1 locs1 → H1[q9]? = some ce → ce.vm = .none → s.vm.findClass E = some ce.cls → vx_W p l e R s m args below meth c H1 locs1 (cells + mc) (slots + ms) Q (F0 m pc ls rest) q9)
    (kk : ∀ (r : UInt64) (u : S) (t : State) (H1 : Heap) (locs1 : List Loc), t.heap = H1 → s.vm.Alike t.vm → post r u → B u t → H.size ≤ H1.size → (∀ q : Nat, q < H.size → ¬ A1 q → H1[q]? = H[q]?) → va_S A0 H0 H1 locs1 → W p l e R s m args below meth c H1 locs1 (cells + mc) (slots + ms) Q (F0 m (pc + 3) ls (.double r :: rest))) : W p l e R s m args below meth c H locs cells slots Q (F0 m pc ls st0) := by
  intro T hT X
  rcases hr T hT X with ⟨v, st₀, t, T', L, h0, X', hL, e1, e2, ⟨⟨r, u, hv, hp, hb⟩, hF⟩, st⟩ | ⟨q, st₀, t, T', L, E, ce, h0, X', hL, e1, e2, ⟨u, hp, hb, hF⟩, hce, hcv, hcl, st⟩
  · cases hv
    obtain ⟨k1, k2, k3⟩ := vx_keep h0 e1 hS hA hf hL hF
    obtain ⟨t2, a1, b1⟩ := kk r u t T'.heap (locs ++ L) e1.symm (by rw [← e2]; exact X'.warmed.alike) hp hb k1 k2 k3 T' rfl X'
    exact ⟨t2, st t2 a1, b1⟩
  · obtain ⟨k1, k2, k3⟩ := vx_keep h0 e1 hS hAX hf hL hF
    obtain ⟨t2, a1, b1⟩ := kx E ce q u t T'.heap (locs ++ L) e1.symm (by rw [← e2]; exact X'.warmed.alike) hp hb k1 k2 k3 (by rw [e1]; exact hce) hcv hcl T' rfl X'
    exact ⟨t2, st.trans a1, b1⟩
theorem vx_callv {S SX : Type} {post : S → Prop} {px : SX → Prop} {B : S → State → Prop} {BX : String → SX → State → Prop} {AX : Nat → Prop} (hr : vx_Run p l e R s m args below meth c H locs cells slots mc ms (F0 m pc ls st0) rest (va_Qv post B A1 a) (vx_X px BX AX) free) (hS : va_S A0 H0 H locs) (hA : ∀ q, q < H.size → A1 q → A0 q) (hf : ∀ q, free q → A0 q) (hAX : ∀ q, q < H.size → AX q → A0 q)
    (kx : ∀ (E : String) (ce : Cell) (q9 : Addr) (u : SX) (t : State) (H1 : Heap) (locs1 : List Loc), t.heap = H1 → s.vm.Alike t.vm → px u → BX E u t → H.size ≤ H1.size → (∀ q : Nat, q < H.size → ¬ AX q → H1[q]? = H[q]?) → va_S A0 H0 H1 locs1 → H1[q9]? = some ce → ce.vm = .none → s.vm.findClass E = some ce.cls → vx_W p l e R s m args below meth c H1 locs1 (cells + mc) (slots + ms) Q (F0 m pc ls rest) q9)
    (kk : ∀ (u : S) (t : State) (H1 : Heap) (locs1 : List Loc), t.heap = H1 → s.vm.Alike t.vm → post u → B u t → H.size ≤ H1.size → (∀ q : Nat, q < H.size → ¬ A1 q → H1[q]? = H[q]?) → va_S A0 H0 H1 locs1 → W p l e R s m args below meth c H1 locs1 (cells + mc) (slots + ms) Q (F0 m (pc + 3) ls (rest))) : W p l e R s m args below meth c H locs cells slots Q (F0 m pc ls st0) := by
  intro T hT X
  rcases hr T hT X with ⟨v, st₀, t, T', L, h0, X', hL, e1, e2, ⟨⟨u, hv, hp, hb⟩, hF⟩, st⟩ | ⟨q, st₀, t, T', L, E, ce, h0, X', hL, e1, e2, ⟨u, hp, hb, hF⟩, hce, hcv, hcl, st⟩
  · cases hv
    obtain ⟨k1, k2, k3⟩ := vx_keep h0 e1 hS hA hf hL hF
    obtain ⟨t2, a1, b1⟩ := kk u t T'.heap (locs ++ L) e1.symm (by rw [← e2]; exact X'.warmed.alike) hp hb k1 k2 k3 T' rfl X'
    exact ⟨t2, st t2 a1, b1⟩
  · obtain ⟨k1, k2, k3⟩ := vx_keep h0 e1 hS hAX hf hL hF
    obtain ⟨t2, a1, b1⟩ := kx E ce q u t T'.heap (locs ++ L) e1.symm (by rw [← e2]; exact X'.warmed.alike) hp hb k1 k2 k3 (by rw [e1]; exact hce) hcv hcl T' rfl X'
    exact ⟨t2, st.trans a1, b1⟩
/-- caught by the row x of this method's table; the rows ahead don't take it -/
theorem vx_catch {own name : String} {E : String} {ce : Cell} {q : Addr} (hown : s.vm.findClass own = some m.cls) (pre : List ExceptionTableEntry) (x : ExceptionTableEntry) (suf : List ExceptionTableEntry) (hsplit : c.exceptionTable.toList = pre ++ x :: suf)
    (hpass : ∀ z ∈ pre, covers z pc = false ∨ (z.catchType ≠ 0 ∧ ∃ nm : String, (Cond.classLink own z.catchType nm).before args s = true ∧ va_Nc E nm s)) (hx : covers x pc = true) (h0 : x.catchType ≠ 0)
    (hlink : (Cond.classLink own x.catchType name).before args s = true) (hcast : (Cond.castable E name).before args s = true) (hcell : H[q]? = some ce) (hv : ce.vm = .none) (hcl : s.vm.findClass E = some ce.cls)
    (kk : W p l e R s m args below meth c H locs cells slots Q (F0 m x.handlerPc ls [.ref q])) : vx_W p l e R s m args below meth c H locs cells slots Q (F0 m pc ls rest) q := by
  intro T hT X
  have hpl : e.platform.magicAccessors = ({} : Platform).magicAccessors := by rw [X.admits.platform]
  obtain ⟨c3, c4, hc3, hc4, hasg⟩ := Cond.castable_spec hcast
  cases Option.some.inj (hc3.symm.trans hcl)
  obtain ⟨c5, hc5, hcl5⟩ := Cond.classLink_spec hown hlink e.platform hpl
  cases Option.some.inj (hc4.symm.trans hc5)
  obtain ⟨vm', X', st⟩ := X.thenCaughtThrough q (g := F0 m pc ls rest) rfl (Steps.refl _) (by rw [hT]; exact hcell) (by rw [hv]; rfl) (by obtain ⟨k9, h9, -⟩ := Vm.findClass_spec hcl; exact ⟨k9, h9⟩) pre x suf hsplit
    (fun z hz => by
      rcases hpass z hz with h | ⟨hz0, nm, hl1, hn1⟩
      · exact Or.inl h
      · obtain ⟨c6, hc6, hcl6⟩ := Cond.classLink_spec hown hl1 e.platform hpl
        obtain ⟨a8, b8, h1, h2, h3⟩ := hn1
        cases Option.some.inj (h1.symm.trans hcl)
        cases Option.some.inj (h2.symm.trans hc6)
        exact Or.inr ⟨hz0, _, hcl6, h3⟩) hx (Or.inr ⟨h0, c4, hcl5, hasg⟩)
  obtain ⟨t, a1, b1⟩ := kk (T.setVm vm') hT X'
  exact ⟨t, st.trans a1, b1⟩
end Rows
section Ends
variable {p : Program} {l : Launch} {e : Env} {R : Room} {s : State} {m : MethodId} {args : Array Value} {below : List Frame} {meth : Method} {c : Code} {H : Heap} {locs : List Loc} {cells slots : Nat} {Q : State → Prop}
variable {mc ms : Nat} {free : Addr → Prop} {A0 A1 : Nat → Prop} {H0 : Heap} {a : Array Value} {ls : Array Slot} {st0 rest : List Value}
variable {Qc : Array Value → State → Outcome → State → Prop} {XC : String → State → State → Prop}
/-- what a body that may throw owes at its end -/
def vx_MQ (below : List Frame) (Qc : Array Value → State → Outcome → State → Prop) (XC : String → State → State → Prop) (a : Array Value) (s : State) (mc ms : Nat) (free : Addr → Prop) : State → Prop := fun t =>
  ∃ o, t.status = .running ∧ Ended t below o ∧ vx_Q Qc XC mc ms free a s o t
theorem vx_ret {g : JFrame} {mc ms : Nat} (k : W p l e R s m args below meth c H locs cells slots (MQ below Qc args s mc ms free) g) : W p l e R s m args below meth c H locs cells slots (vx_MQ below Qc XC args s mc ms free) g := by
  intro T hT X
  obtain ⟨t, a1, o, b1, b2, b3, b4⟩ := k T hT X
  exact ⟨t, a1, o, b1, b2, Or.inl ⟨b3, b4⟩⟩
/-- not caught here: it goes on to the caller -/
theorem vx_widen {g : JFrame} {q : Addr} {k n : Nat} (h1 : cells ≤ k) (h2 : slots ≤ n) (kk : vx_W p l e R s m args below meth c H locs k n Q g q) : vx_W p l e R s m args below meth c H locs cells slots Q g q := fun T hT X => kk T hT (stand_widen X h1 h2)
theorem vx_out {pc : Nat} {E : String} {ce : Cell} {q : Addr} {mc ms : Nat} (hout : ∀ x ∈ c.exceptionTable.toList, covers x pc = false) (hlocks : meth.locks = false) (hcell : H[q]? = some ce) (hv : ce.vm = .none) (hcl : s.vm.findClass E = some ce.cls)
    (hx : ∀ t : State, t.heap = H → s.vm.Alike t.vm → XC E s t) (hf : ∀ z ∈ locs, free z.base) (hc : cells ≤ mc) (hs : slots ≤ ms) :
    vx_W p l e R s m args below meth c H locs cells slots (vx_MQ below Qc XC args s mc ms free) (F0 m pc ls rest) q := by
  intro T hT X
  obtain ⟨st1, hrun, hend, hW, hsm⟩ := X.leaveThrown q (g := F0 m pc ls rest) rfl rfl rfl hout hlocks
  have hcell9 : (T.setFrames (.throwing q :: below)).heap[q]? = some ce := by
    show T.heap[q]? = some ce
    rw [hT]; exact hcell
  exact ⟨_, st1, .threw q, hrun, hend, Or.inr ⟨q, rfl, E, ce, locs, hx _ hT hW.alike, hcell9, hv, hcl, hW, hsm.mono hc hs, hf⟩⟩
theorem vx_frame {U : State} {k n : Nat} (h : s.sameButNew ({ U with vm := s.vm } : State) locs k n) : s.heap.size ≤ U.heap.size ∧ ∀ q : Nat, q < s.heap.size → (∀ z ∈ locs, z.base ≠ q) → U.heap[q]? = s.heap[q]? := by
  obtain ⟨-, h2, -, -, -, h6⟩ := h
  refine ⟨h2, fun q hq hz => ?_⟩
  obtain ⟨c9, e1, e2, e3, e4⟩ := h6 q _ (Array.getElem?_eq_getElem hq)
  have hs : c9.slots = (s.heap[q]).slots := Array.ext_getElem? fun i => e4 i fun hm => hz _ hm rfl
  have h9 : c9 = s.heap[q] := by
    rw [hs] at e2
    exact e2
  have e5 : U.heap[q]? = some c9 := e1
  rw [e5, h9, Array.getElem?_eq_getElem hq]
/-- the words of a throw but the four that speak of the heap -/
def vx_no (w : Cond) : Bool := decide (w ≠ .isRef (.static Bundle.tN "UNASSIGNED_STACK" Bundle.steD)) && decide (w ≠ .isRef (.static Bundle.tN "SUPPRESSED_SENTINEL" Bundle.listD)) && decide (w ≠ .laysStatic Bundle.tN "UNASSIGNED_STACK" Bundle.steD) && decide (w ≠ .laysStatic Bundle.tN "SUPPRESSED_SENTINEL" Bundle.listD)
def vx_at0 (own : String) (ic : Nat) (X : String) (names : List String) : List Cond := (Bundle.ownAtoms0 own ic X names).filter vx_no
def vx_atS (own : String) (ic : Nat) (X : String) (names : List String) : List Cond := (Bundle.ownAtoms own ic X names).filter vx_no
/-- a word that the tables alone decide, or a good one -/
def vx_ot (w : Cond) : Bool := w.onTables || goodWord w
theorem vx_ot_at {args a' : Array Value} {s U : State} {w : Cond} (hW : s.WarmedH U.vm) (hvm : s.vm = U.vm) (hg : vx_ot w = true) (h : w.before args s = true) : w.before a' U = true := by
  simp only [vx_ot, Bool.or_eq_true] at hg
  rcases hg with hg | hg
  · exact va_tabs hg hvm h
  · exact word_at hW (good_of_word hg) h
/-- a list's words: the good ones out of the method's own list, the others by premises of their own -/
theorem vx_hat {args : Array Value} {s : State} {L B : List Cond} (h1 : ∀ w ∈ L.filter goodWord, w.before args s = true) (h2 : ∀ w ∈ L.filter (fun w => !goodWord w), w ∈ B) (h3 : ∀ w ∈ B, w.before args s = true) : ∀ w ∈ L, w.before args s = true := by
  intro w hw
  by_cases g : goodWord w = true
  · exact h1 w (List.mem_filter.mpr ⟨hw, g⟩)
  · refine h3 w (h2 w (List.mem_filter.mpr ⟨hw, ?_⟩))
    show (!goodWord w) = true
    cases hgw : goodWord w
    · rfl
    · exact absurd hgw g
theorem vx_c {args : Array Value} {s : State} {w : Cond} {B : List Cond} (h : w.before args s = true) (t : ∀ w ∈ B, w.before args s = true) : ∀ w' ∈ w :: B, w'.before args s = true := fun w' h' => (List.mem_cons.mp h').elim (fun e => by rw [e]; exact h) (t w')
theorem vx_n {args : Array Value} {s : State} : ∀ w ∈ ([] : List Cond), w.before args s = true := fun _ h => nomatch h
theorem vx_own {args : Array Value} {s : State} {L : List Cond} (h1 : ∀ w ∈ L.filter vx_no, w.before args s = true)
    (hU : (Cond.isRef (.static Bundle.tN "UNASSIGNED_STACK" Bundle.steD)).before args s = true) (hN : (Cond.isRef (.static Bundle.tN "SUPPRESSED_SENTINEL" Bundle.listD)).before args s = true)
    (lU : (Cond.laysStatic Bundle.tN "UNASSIGNED_STACK" Bundle.steD).before args s = true) (lN : (Cond.laysStatic Bundle.tN "SUPPRESSED_SENTINEL" Bundle.listD).before args s = true) : ∀ w ∈ L, w.before args s = true := by
  intro w hw
  by_cases e1 : w = .isRef (.static Bundle.tN "UNASSIGNED_STACK" Bundle.steD)
  · rw [e1]; exact hU
  · by_cases e2 : w = .isRef (.static Bundle.tN "SUPPRESSED_SENTINEL" Bundle.listD)
    · rw [e2]; exact hN
    · by_cases e3 : w = .laysStatic Bundle.tN "UNASSIGNED_STACK" Bundle.steD
      · rw [e3]; exact lU
      · by_cases e4 : w = .laysStatic Bundle.tN "SUPPRESSED_SENTINEL" Bundle.listD
        · rw [e4]; exact lN
        · exact h1 w (List.mem_filter.mpr ⟨hw, by unfold vx_no; rw [decide_eq_true e1, decide_eq_true e2, decide_eq_true e3, decide_eq_true e4]; rfl⟩)
/-- where a static field lies, its class's statics cell in H -/
def vx_L (C n d : String) (A : Nat → Prop) (U : State) (H : Heap) : Prop := ∃ (c : ClassId) (k : Class) (i : Nat) (f : Field) (a : Nat) (cell : Cell), U.vm.findClass C = some c ∧ U.fieldFound? C n d = some (c, k, i, f) ∧ f.isStatic = true ∧ k.statics = some a ∧ H[a]? = some cell ∧ cell.vm.isStatics = true ∧ cell.cls = c ∧ f.slot < cell.slots.size ∧ k.staticTypes[f.slot]? = some f.type ∧ ¬ A a
theorem vx_L.moved {C n d : String} {A : Nat → Prop} {u U : State} {H : Heap} (hvm : u.vm.Alike U.vm) (h : vx_L C n d A u H) : vx_L C n d A U H := by
  obtain ⟨c, k, i, f, a, cell, h1, h2, h3, h4, h5, h6, h7, h8, h9, h10⟩ := h
  obtain ⟨k', hi', he⟩ := State.fieldFound?_setVm hvm h2
  exact ⟨c, k', i, f, a, cell, by rw [hvm.findClass]; exact h1, hi', h3, by rw [he]; exact h4, h5, h6, h7, h8, by rw [he]; exact h9, h10⟩
theorem vx_L.kept {C n d : String} {A : Nat → Prop} {U : State} {H H1 : Heap} (h : vx_L C n d A U H) (hq : ∀ a : Nat, a < H.size → ¬ A a → H1[a]? = H[a]?) : vx_L C n d A U H1 := by
  obtain ⟨c, k, i, f, a, cell, h1, h2, h3, h4, h5, h6, h7, h8, h9, h10⟩ := h
  exact ⟨c, k, i, f, a, cell, h1, h2, h3, h4, by rw [hq a (Array.getElem?_eq_some_iff.mp h5).1 h10]; exact h5, h6, h7, h8, h9, h10⟩
theorem vx_L.narrow {C n d : String} {A B : Nat → Prop} {U : State} {H : Heap} (h : vx_L C n d A U H) (hAB : ∀ q, B q → A q) : vx_L C n d B U H := by
  obtain ⟨c, k, i, f, a, cell, h1, h2, h3, h4, h5, h6, h7, h8, h9, h10⟩ := h
  exact ⟨c, k, i, f, a, cell, h1, h2, h3, h4, h5, h6, h7, h8, h9, fun z => h10 (hAB _ z)⟩
theorem vx_L.word {C n d : String} {A : Nat → Prop} {s : State} {args : Array Value} (h : vx_L C n d A s s.heap) : (Cond.laysStatic C n d).before args s = true := by
  obtain ⟨c, k, i, f, a, cell, h1, h2, h3, h4, h5, h6, h7, h8, h9, -⟩ := h
  show (Cond.laysStatic C n d).holds args s none s [] = true
  exact Cond.laysStatic_of h1 h2 h3 h4 h5 h6 h7 h8 h9
/-- .. and what it holds: null or some reference -/
def vx_Zq (C n d : String) (A : Nat → Prop) (U : State) (H : Heap) : Prop := va_Zq C n d A U H ∧ vx_L C n d A U H
theorem vx_Zq.moved {C n d : String} {A : Nat → Prop} {u U : State} {H : Heap} (hvm : u.vm.Alike U.vm) (h : vx_Zq C n d A u H) : vx_Zq C n d A U H := ⟨va_Zq.moved hvm h.1, vx_L.moved hvm h.2⟩
theorem vx_Zq.kept {C n d : String} {A : Nat → Prop} {U : State} {H H1 : Heap} (h : vx_Zq C n d A U H) (hq : ∀ a : Nat, a < H.size → ¬ A a → H1[a]? = H[a]?) : vx_Zq C n d A U H1 := ⟨va_Zq.kept h.1 hq, vx_L.kept h.2 hq⟩
theorem vx_Zq.narrow {C n d : String} {A B : Nat → Prop} {U : State} {H : Heap} (h : vx_Zq C n d A U H) (hAB : ∀ q, B q → A q) : vx_Zq C n d B U H := ⟨va_Zq.narrow h.1 hAB, vx_L.narrow h.2 hAB⟩
theorem vx_Zqof {args : Array Value} {s : State} {C n d : String} {A : Nat → Prop} (hl : (Cond.laysStatic C n d).before args s = true) (hini : (Cond.initialized C).before args s = true) (h : (Cond.isRef (.static C n d)).before args s = true) (hA : ∀ a : Nat, a < s.heap.size → ¬ A a) : vx_Zq C n d A s s.heap := by
  refine ⟨va_Zqof hl hini h hA, ?_⟩
  obtain ⟨c, k, i, f, a, cell, h1, h2, h3, h4, h5, h6, h7, h8, h9⟩ := Cond.laysStatic_spec hl
  exact ⟨c, k, i, f, a, cell, h1, h2, h3, h4, h5, h6, h7, h8, h9, hA a (Array.getElem?_eq_some_iff.mp h5).1⟩
theorem vx_isRef {C n d : String} {v : Value} {A : Nat → Prop} {s : State} {args : Array Value} (h : va_Z C n d v A s s.heap) (hv : v.isRef = true) : (Cond.isRef (.static C n d)).before args s = true := by
  obtain ⟨cf, kf, fi, f, a, cell, h1, h2, h3, h4, h5, h6, h7, -⟩ := h
  have he : (Term.static C n d).eval args s none [] s = some v := by
    simp [Term.eval, State.fieldNamed?, h1, h2, h4, h5, h6, h7]
  simp only [Cond.before, Cond.holds, Cond.value, he]
  cases v <;> simp_all [Value.isRef]
theorem vx_isRefq {C n d : String} {A : Nat → Prop} {s : State} {args : Array Value} (h : va_Zq C n d A s s.heap) : (Cond.isRef (.static C n d)).before args s = true := by
  rcases h with h | ⟨t, h⟩
  · exact vx_isRef h rfl
  · exact vx_isRef h rfl
/-- the same frame, seen from here: as if the method were called anew in this heap -/
theorem vx_rebase {T : State} (X : Stand p l e R s m args below meth c T locs cells slots) {R' : Room} (hf : R'.frames ≤ R.frames) (hl : R'.locals ≤ R.locals) (hc : cells + R'.cells ≤ R.cells) (hs : slots + R'.slots ≤ R.slots) :
    Stand p l e R' ((T.setVm s.vm).setFrames (.invoking m args :: below)) m args below meth c T [] 0 0 := by
  have htop : (T.setVm s.vm).topJava?.isSome := X.here.top
  have hF : ((T.setVm s.vm).setFrames (.invoking m args :: below)).frames = .invoking m args :: below := State.frames_setFrames _ (State.cur_lt_of_top htop)
  obtain ⟨g₀, hg0⟩ := Option.isSome_iff_exists.mp htop
  obtain ⟨r, hr⟩ := State.topJava?_eq_some.mp hg0
  have hl9 : e.platform.stackLimits (T.setVm s.vm).me = e.platform.stackLimits s.me := X.limits
  have hb9 : (T.setVm s.vm).me.stackBytes = s.me.stackBytes := X.bytes
  refine ⟨X.admits, X.cas, X.clock, hF, ?_, X.hears, X.method, X.code, X.here, X.tail, X.warmed, ?_, ?_, ?_⟩
  · have h := X.room
    have hU : ((T.setVm s.vm).setFrames (.invoking m args :: below)).localsInUse = s.localsInUse := by
      rw [State.localsInUse_invoking hF (meth := meth) (c := c) X.method X.code, State.localsInUse_invoking X.frames X.method X.code]
    simp only [State.hasRoom, Bool.and_eq_true, decide_eq_true_eq] at h ⊢
    obtain ⟨⟨⟨⟨h1, h2, h3, h4, h5, h6⟩, h7⟩, h8⟩, h9⟩ := h
    rw [X.frames, List.length_cons] at h2 h3
    have q1 := X.heapSize
    have q2 := X.used
    simp only [hF, hU, List.length_cons, State.stackLimits_setFrames, State.stackBytes_setFrames, hl9, hb9]
    refine ⟨⟨⟨⟨by omega, by omega, by omega, by omega, by omega, h6⟩, ?_⟩, ?_⟩, X.book⟩
    · show T.heap.size + R'.cells ≤ e.platform.maxCells
      omega
    · show T.slotsUsed + R'.slots ≤ e.platform.maxSlots
      omega
  · rw [State.stackLimits_setFrames]; rfl
  · rw [State.stackBytes_setFrames]; rfl
  · refine ⟨?_, Nat.le_refl _, Nat.le_refl _, ?_, ?_, fun a c9 h9 => ⟨c9, h9, rfl, rfl, fun _ _ => rfl⟩⟩
    · obtain ⟨t, ht, -⟩ := State.frames_cons hr
      show T.setVm s.vm = { ((T.setVm s.vm).setFrames (.invoking m args :: below)).setFrames (T.setVm s.vm).frames with heap := T.heap, slotsUsed := T.slotsUsed }
      rw [State.setFrames_setFrames, State.setFrames_self ht]
      rfl
    · show T.slotsUsed = T.slotsUsed + ((T.heap.toList.drop T.heap.size).map (·.slots.size)).sum
      rw [List.drop_eq_nil_of_le (Nat.le_of_eq Array.length_toList)]
      rfl
    · show ((T.heap.toList.drop T.heap.size).map (·.slots.size)).sum ≤ 0
      rw [List.drop_eq_nil_of_le (Nat.le_of_eq Array.length_toList)]
      exact Nat.le_refl _
/-- 'throw new E()': new; dup; invokespecial; athrow -/
theorem vx_throw0 {cc : ByteArray} {pc : Nat} (hexec : p.tables.exec = Jvm.exec) (hb : c.code = cc) (hl : l.stackTraces = false) {own cls : String} {names : List String} {ik ic mc ms : Nat} {A : Nat → Prop}
    (hown : s.vm.findClass own = some m.cls) (hcls : Bundle.fit cls = true) (hnames : ∀ n ∈ names, Bundle.fit n = true)
    (hk : (Cond.classLink own ik cls).before args s = true) (hini : (Cond.initialized cls).before args s = true) (hat : ∀ w ∈ vx_at0 own ic cls names, w.before args s = true)
    (hgood : ∀ w ∈ Cond.classLink own ik cls :: Cond.initialized cls :: vx_at0 own ic cls names, vx_ot w = true)
    (hU : vx_Zq Bundle.tN "UNASSIGNED_STACK" Bundle.steD A s s.heap) (hN : vx_Zq Bundle.tN "SUPPRESSED_SENTINEL" Bundle.listD A s s.heap) (hS : va_S A s.heap H locs) (hsize : ls.size = c.maxLocals)
    (d0 : decode cc pc = .ok (.new ik, 3)) (d3 : decode cc (pc + 3) = .ok (.dup, 1)) (d4 : decode cc (pc + 4) = .ok (.invokespecial ic, 3)) (d7 : decode cc (pc + 7) = .ok (.athrow, 1))
    (hout : ∀ x ∈ c.exceptionTable.toList, covers x (pc + 7) = false)
    (hRframes : names.length + 3 < R.frames) (hRlocals : (rest.map fun v => v.category).sum + (13 * (names.length + 1) + 42) ≤ R.locals) (hRcells : cells + 1 ≤ R.cells) (hRslots : slots + 6 ≤ R.slots) (hlocks : meth.locks = false)
    (hx : ∀ t : State, s.vm.Alike t.vm → H.size ≤ t.heap.size → (∀ q : Nat, q < H.size → t.heap[q]? = H[q]?) → XC cls s t)
    (hf : ∀ z ∈ locs, free z.base) (hc : cells + 1 ≤ mc) (hs : slots + 6 ≤ ms) :
    W p l e R s m args below meth c H locs cells slots (vx_MQ below Qc XC args s mc ms free) (F0 m pc ls rest) := by
  intro T hT X
  have htr : e.platform.stackTraces = false := (show e.platform.stackTraces = l.stackTraces by rw [X.admits.platform]).trans hl
  have Y := vx_rebase X (R' := { frames := R.frames, locals := R.locals, cells := 1, slots := 6 }) (Nat.le_refl _) (Nat.le_refl _) hRcells hRslots
  obtain ⟨s', hA⟩ : ∃ z, z = (T.setVm s.vm).setFrames (.invoking m args :: below) := ⟨_, rfl⟩
  rw [← hA] at Y
  have hvm : s'.vm = s.vm := by rw [hA]; rfl
  have hhp : s'.heap = H := by rw [hA]; exact hT
  have hW0 : s.WarmedH s'.vm := by rw [hvm]; exact State.WarmedH.refl s
  have hat' : ∀ w ∈ vx_at0 own ic cls names, w.before args s' = true := fun w hw => vx_ot_at hW0 hvm.symm (hgood w (List.mem_cons_of_mem _ (List.mem_cons_of_mem _ hw))) (hat w hw)
  have hk' : (Cond.classLink own ik cls).before args s' = true := vx_ot_at hW0 hvm.symm (hgood _ List.mem_cons_self) hk
  have hini' : (Cond.initialized cls).before args s' = true := vx_ot_at hW0 hvm.symm (hgood _ (List.mem_cons_of_mem _ List.mem_cons_self)) hini
  have hU' : vx_Zq Bundle.tN "UNASSIGNED_STACK" Bundle.steD A s' s'.heap := by rw [hhp]; exact vx_Zq.moved hW0.alike (hU.kept hS.2.1)
  have hN' : vx_Zq Bundle.tN "SUPPRESSED_SENTINEL" Bundle.listD A s' s'.heap := by rw [hhp]; exact vx_Zq.moved hW0.alike (hN.kept hS.2.1)
  have h : ∀ w ∈ Bundle.ownAtoms0 own ic cls names, w.before args s' = true := vx_own hat' (vx_isRefq hU'.1) (vx_isRefq hN'.1) hU'.2.word hN'.2.word
  have hown' : s'.vm.findClass own = some m.cls := by rw [hvm]; exact hown
  have hins : (Cond.instantiable cls 6).before args s' = true := h _ (by simp [Bundle.ownAtoms0])
  obtain ⟨vm₁, cX, kX, hfX, hkX, -, -, X₁, st1⟩ := Y.newCold hexec (own := own) (C := cls) (index := ik) (n := 6) hown' hk' hins hini'
    (g := F0 m pc ls rest) rfl (by rw [hb]; exact d0) (Nat.le_refl _) (Nat.le_refl _)
  generalize hT1 : (T.setVm vm₁).pushCell { cls := cX, slots := kX.instanceTypes.map defaultValue, vm := .none } = T1 at X₁ st1
  have hcat : (Value.ref T.heap.size).category = 1 := rfl
  have hcellA : T1.heap[T.heap.size]? = some (freshCell cX kX) := by rw [← hT1]; exact State.heap_pushCell_size _ _
  have d3' : decode c.code (pc + 3) = .ok (.dup, 1) := by rw [hb]; exact d3
  obtain ⟨U, hsteps, hrun, hend, hW, hsame, ce, hce, hO⟩ := X₁.ctorThrow0 hexec htr (own := own) (cls := cls) (names := names) (ic := ic) hown' hcls hnames h (fun x hx => nomatch hx) hfX hkX hcellA (by rw [hhp, hT]; exact Nat.le_refl _)
    (g := { method := m, pc := pc + 4, locals := ls, stack := .ref T.heap.size :: .ref T.heap.size :: rest, locked := none }) rfl hsize rfl rfl (rest := rest) rfl
    (by rw [hb]; exact d4) (by rw [hb]; exact d7) hout hRframes (by simp only [List.map_cons, List.sum_cons, hcat]; omega) hlocks
  obtain ⟨f1, f2⟩ := vx_frame hsame
  rw [hhp] at f1 f2
  have hWs : s.WarmedH U.vm := State.WarmedH.trans hW0 hW
  have hcl : s.vm.findClass cls = some ce.cls := by
    have h9 := hO.cls
    rw [hvm] at h9
    exact h9
  have hall : s.sameButNew ({ U with vm := s.vm } : State) locs mc ms := by
    subst hA
    obtain ⟨e1, e2⟩ := hsame
    rw [State.setFrames_setFrames] at e1
    have h2 : (T.setVm s.vm).sameButNew ({ U with vm := s.vm } : State) [] (0 + 1) (0 + 6) := ⟨e1, e2⟩
    have h3 := X.same.trans h2
    rw [List.append_nil] at h3
    exact h3.mono hc hs
  refine ⟨U, ?_, .threw T.heap.size, hrun, hend, Or.inr ⟨T.heap.size, rfl, cls, ce, locs, hx U hWs.alike f1 (fun q hq => f2 q hq (fun z hz => nomatch hz)), hce, hO.vm, hcl, hWs, hall, hf⟩⟩
  refine st1 _ ?_
  show Steps p.tables e below (T1.setTop { method := m, pc := pc + 3, locals := ls, stack := .ref T.heap.size :: rest, locked := none }) _
  jvm_step X₁.here [X₁.here.top, hexec, d3', Value.category]
  exact hsteps
/-- 'throw new E("text")': new; dup; ldc; invokespecial; athrow -/
theorem vx_throwS {cc : ByteArray} {pc : Nat} (hexec : p.tables.exec = Jvm.exec) (hb : c.code = cc) (hl : l.stackTraces = false) {own cls text : String} {names : List String} {ik is ic mc ms sa : Nat} {A : Nat → Prop}
    (hown : s.vm.findClass own = some m.cls) (hcls : Bundle.fit cls = true) (hnames : ∀ n ∈ names, Bundle.fit n = true)
    (hk : (Cond.classLink own ik cls).before args s = true) (hini : (Cond.initialized cls).before args s = true) (hstr : vk_R own is text sa s) (hat : ∀ w ∈ vx_atS own ic cls names, w.before args s = true)
    (hgood : ∀ w ∈ Cond.classLink own ik cls :: Cond.initialized cls :: vx_atS own ic cls names, vx_ot w = true)
    (hU : vx_Zq Bundle.tN "UNASSIGNED_STACK" Bundle.steD A s s.heap) (hN : vx_Zq Bundle.tN "SUPPRESSED_SENTINEL" Bundle.listD A s s.heap) (hS : va_S A s.heap H locs) (hsize : ls.size = c.maxLocals)
    (d0 : decode cc pc = .ok (.new ik, 3)) (d3 : decode cc (pc + 3) = .ok (.dup, 1)) (d4 : decode cc (pc + 4) = .ok (.ldc is, 2)) (d6 : decode cc (pc + 6) = .ok (.invokespecial ic, 3)) (d9 : decode cc (pc + 9) = .ok (.athrow, 1))
    (hout : ∀ x ∈ c.exceptionTable.toList, covers x (pc + 9) = false)
    (hRframes : names.length + 3 < R.frames) (hRlocals : (rest.map fun v => v.category).sum + (13 * (names.length + 1) + 43) ≤ R.locals) (hRcells : cells + 1 ≤ R.cells) (hRslots : slots + 6 ≤ R.slots) (hlocks : meth.locks = false)
    (hx : ∀ t : State, s.vm.Alike t.vm → H.size ≤ t.heap.size → (∀ q : Nat, q < H.size → t.heap[q]? = H[q]?) → XC cls s t)
    (hf : ∀ z ∈ locs, free z.base) (hc : cells + 1 ≤ mc) (hs : slots + 6 ≤ ms) :
    W p l e R s m args below meth c H locs cells slots (vx_MQ below Qc XC args s mc ms free) (F0 m pc ls rest) := by
  intro T hT X
  have htr : e.platform.stackTraces = false := (show e.platform.stackTraces = l.stackTraces by rw [X.admits.platform]).trans hl
  have Y := vx_rebase X (R' := { frames := R.frames, locals := R.locals, cells := 1, slots := 6 }) (Nat.le_refl _) (Nat.le_refl _) hRcells hRslots
  obtain ⟨s', hA⟩ : ∃ z, z = (T.setVm s.vm).setFrames (.invoking m args :: below) := ⟨_, rfl⟩
  rw [← hA] at Y
  have hvm : s'.vm = s.vm := by rw [hA]; rfl
  have hhp : s'.heap = H := by rw [hA]; exact hT
  have hW0 : s.WarmedH s'.vm := by rw [hvm]; exact State.WarmedH.refl s
  have hat' : ∀ w ∈ vx_atS own ic cls names, w.before args s' = true := fun w hw => vx_ot_at hW0 hvm.symm (hgood w (List.mem_cons_of_mem _ (List.mem_cons_of_mem _ hw))) (hat w hw)
  have hk' : (Cond.classLink own ik cls).before args s' = true := vx_ot_at hW0 hvm.symm (hgood _ List.mem_cons_self) hk
  have hini' : (Cond.initialized cls).before args s' = true := vx_ot_at hW0 hvm.symm (hgood _ (List.mem_cons_of_mem _ List.mem_cons_self)) hini
  have hU' : vx_Zq Bundle.tN "UNASSIGNED_STACK" Bundle.steD A s' s'.heap := by rw [hhp]; exact vx_Zq.moved hW0.alike (hU.kept hS.2.1)
  have hN' : vx_Zq Bundle.tN "SUPPRESSED_SENTINEL" Bundle.listD A s' s'.heap := by rw [hhp]; exact vx_Zq.moved hW0.alike (hN.kept hS.2.1)
  have h : ∀ w ∈ Bundle.ownAtoms own ic cls names, w.before args s' = true := vx_own hat' (vx_isRefq hU'.1) (vx_isRefq hN'.1) hU'.2.word hN'.2.word
  have hown' : s'.vm.findClass own = some m.cls := by rw [hvm]; exact hown
  have hins : (Cond.instantiable cls 6).before args s' = true := h _ (by simp [Bundle.ownAtoms])
  obtain ⟨vm₁, cX, kX, hfX, hkX, -, -, X₁, st1⟩ := Y.newCold hexec (own := own) (C := cls) (index := ik) (n := 6) hown' hk' hins hini'
    (g := F0 m pc ls rest) rfl (by rw [hb]; exact d0) (Nat.le_refl _) (Nat.le_refl _)
  generalize hT1 : (T.setVm vm₁).pushCell { cls := cX, slots := kX.instanceTypes.map defaultValue, vm := .none } = T1 at X₁ st1
  have hcat : (Value.ref T.heap.size).category = 1 := rfl
  have hcellA : T1.heap[T.heap.size]? = some (freshCell cX kX) := by rw [← hT1]; exact State.heap_pushCell_size _ _
  have d3' : decode c.code (pc + 3) = .ok (.dup, 1) := by rw [hb]; exact d3
  have d4' : decode c.code (pc + 4) = .ok (.ldc is, 2) := by rw [hb]; exact d4
  have hstr' : vk_R own is text sa s' := vk_R.warm hW0 hstr
  obtain ⟨U, hsteps, hrun, hend, hW, hsame, ce, hce, hO⟩ := X₁.ctorThrowS hexec htr (own := own) (cls := cls) (names := names) (ic := ic) hown' hcls hnames h (fun x hx => nomatch hx) hfX hkX hcellA (by rw [hhp, hT]; exact Nat.le_refl _) (msg := .ref sa) rfl
    (g := { method := m, pc := pc + 6, locals := ls, stack := .ref sa :: .ref T.heap.size :: .ref T.heap.size :: rest, locked := none }) rfl hsize rfl rfl (rest := rest) rfl
    (by rw [hb]; exact d6) (by rw [hb]; exact d9) hout hRframes (by simp only [List.map_cons, List.sum_cons, hcat]; omega) hlocks
  obtain ⟨f1, f2⟩ := vx_frame hsame
  rw [hhp] at f1 f2
  have hWs : s.WarmedH U.vm := State.WarmedH.trans hW0 hW
  have hcl : s.vm.findClass cls = some ce.cls := by
    have h9 := hO.cls
    rw [hvm] at h9
    exact h9
  have hall : s.sameButNew ({ U with vm := s.vm } : State) locs mc ms := by
    subst hA
    obtain ⟨e1, e2⟩ := hsame
    rw [State.setFrames_setFrames] at e1
    have h2 : (T.setVm s.vm).sameButNew ({ U with vm := s.vm } : State) [] (0 + 1) (0 + 6) := ⟨e1, e2⟩
    have h3 := X.same.trans h2
    rw [List.append_nil] at h3
    exact h3.mono hc hs
  refine ⟨U, ?_, .threw T.heap.size, hrun, hend, Or.inr ⟨T.heap.size, rfl, cls, ce, locs, hx U hWs.alike f1 (fun q hq => f2 q hq (fun z hz => nomatch hz)), hce, hO.vm, hcl, hWs, hall, hf⟩⟩
  refine st1 _ ?_
  show Steps p.tables e below (T1.setTop { method := m, pc := pc + 3, locals := ls, stack := .ref T.heap.size :: rest, locked := none }) _
  jvm_step X₁.here [X₁.here.top, hexec, d3', Value.category]
  exact X₁.ldcString hexec (own := own) (text := text) (index := is) (a := sa) hown' hstr'.1 hstr'.2
    (g := { method := m, pc := pc + 4, locals := ls, stack := .ref T.heap.size :: .ref T.heap.size :: rest, locked := none }) rfl d4' _ hsteps
/-- 'throw new E("text")', the text by a wide index -/
theorem vx_throwSW {cc : ByteArray} {pc : Nat} (hexec : p.tables.exec = Jvm.exec) (hb : c.code = cc) (hl : l.stackTraces = false) {own cls text : String} {names : List String} {ik is ic mc ms sa : Nat} {A : Nat → Prop}
    (hown : s.vm.findClass own = some m.cls) (hcls : Bundle.fit cls = true) (hnames : ∀ n ∈ names, Bundle.fit n = true)
    (hk : (Cond.classLink own ik cls).before args s = true) (hini : (Cond.initialized cls).before args s = true) (hstr : vk_R own is text sa s) (hat : ∀ w ∈ vx_atS own ic cls names, w.before args s = true)
    (hgood : ∀ w ∈ Cond.classLink own ik cls :: Cond.initialized cls :: vx_atS own ic cls names, vx_ot w = true)
    (hU : vx_Zq Bundle.tN "UNASSIGNED_STACK" Bundle.steD A s s.heap) (hN : vx_Zq Bundle.tN "SUPPRESSED_SENTINEL" Bundle.listD A s s.heap) (hS : va_S A s.heap H locs) (hsize : ls.size = c.maxLocals)
    (d0 : decode cc pc = .ok (.new ik, 3)) (d3 : decode cc (pc + 3) = .ok (.dup, 1)) (d4 : decode cc (pc + 4) = .ok (.ldc_w is, 3)) (d7 : decode cc (pc + 7) = .ok (.invokespecial ic, 3)) (d10 : decode cc (pc + 10) = .ok (.athrow, 1))
    (hout : ∀ x ∈ c.exceptionTable.toList, covers x (pc + 10) = false)
    (hRframes : names.length + 3 < R.frames) (hRlocals : (rest.map fun v => v.category).sum + (13 * (names.length + 1) + 43) ≤ R.locals) (hRcells : cells + 1 ≤ R.cells) (hRslots : slots + 6 ≤ R.slots) (hlocks : meth.locks = false)
    (hx : ∀ t : State, s.vm.Alike t.vm → H.size ≤ t.heap.size → (∀ q : Nat, q < H.size → t.heap[q]? = H[q]?) → XC cls s t)
    (hf : ∀ z ∈ locs, free z.base) (hc : cells + 1 ≤ mc) (hs : slots + 6 ≤ ms) :
    W p l e R s m args below meth c H locs cells slots (vx_MQ below Qc XC args s mc ms free) (F0 m pc ls rest) := by
  intro T hT X
  have htr : e.platform.stackTraces = false := (show e.platform.stackTraces = l.stackTraces by rw [X.admits.platform]).trans hl
  have Y := vx_rebase X (R' := { frames := R.frames, locals := R.locals, cells := 1, slots := 6 }) (Nat.le_refl _) (Nat.le_refl _) hRcells hRslots
  obtain ⟨s', hA⟩ : ∃ z, z = (T.setVm s.vm).setFrames (.invoking m args :: below) := ⟨_, rfl⟩
  rw [← hA] at Y
  have hvm : s'.vm = s.vm := by rw [hA]; rfl
  have hhp : s'.heap = H := by rw [hA]; exact hT
  have hW0 : s.WarmedH s'.vm := by rw [hvm]; exact State.WarmedH.refl s
  have hat' : ∀ w ∈ vx_atS own ic cls names, w.before args s' = true := fun w hw => vx_ot_at hW0 hvm.symm (hgood w (List.mem_cons_of_mem _ (List.mem_cons_of_mem _ hw))) (hat w hw)
  have hk' : (Cond.classLink own ik cls).before args s' = true := vx_ot_at hW0 hvm.symm (hgood _ List.mem_cons_self) hk
  have hini' : (Cond.initialized cls).before args s' = true := vx_ot_at hW0 hvm.symm (hgood _ (List.mem_cons_of_mem _ List.mem_cons_self)) hini
  have hU' : vx_Zq Bundle.tN "UNASSIGNED_STACK" Bundle.steD A s' s'.heap := by rw [hhp]; exact vx_Zq.moved hW0.alike (hU.kept hS.2.1)
  have hN' : vx_Zq Bundle.tN "SUPPRESSED_SENTINEL" Bundle.listD A s' s'.heap := by rw [hhp]; exact vx_Zq.moved hW0.alike (hN.kept hS.2.1)
  have h : ∀ w ∈ Bundle.ownAtoms own ic cls names, w.before args s' = true := vx_own hat' (vx_isRefq hU'.1) (vx_isRefq hN'.1) hU'.2.word hN'.2.word
  have hown' : s'.vm.findClass own = some m.cls := by rw [hvm]; exact hown
  have hins : (Cond.instantiable cls 6).before args s' = true := h _ (by simp [Bundle.ownAtoms])
  obtain ⟨vm₁, cX, kX, hfX, hkX, -, -, X₁, st1⟩ := Y.newCold hexec (own := own) (C := cls) (index := ik) (n := 6) hown' hk' hins hini'
    (g := F0 m pc ls rest) rfl (by rw [hb]; exact d0) (Nat.le_refl _) (Nat.le_refl _)
  generalize hT1 : (T.setVm vm₁).pushCell { cls := cX, slots := kX.instanceTypes.map defaultValue, vm := .none } = T1 at X₁ st1
  have hcat : (Value.ref T.heap.size).category = 1 := rfl
  have hcellA : T1.heap[T.heap.size]? = some (freshCell cX kX) := by rw [← hT1]; exact State.heap_pushCell_size _ _
  have d3' : decode c.code (pc + 3) = .ok (.dup, 1) := by rw [hb]; exact d3
  have d4' : decode c.code (pc + 4) = .ok (.ldc_w is, 3) := by rw [hb]; exact d4
  have hstr' : vk_R own is text sa s' := vk_R.warm hW0 hstr
  obtain ⟨U, hsteps, hrun, hend, hW, hsame, ce, hce, hO⟩ := X₁.ctorThrowS hexec htr (own := own) (cls := cls) (names := names) (ic := ic) hown' hcls hnames h (fun x hx => nomatch hx) hfX hkX hcellA (by rw [hhp, hT]; exact Nat.le_refl _) (msg := .ref sa) rfl
    (g := { method := m, pc := pc + 7, locals := ls, stack := .ref sa :: .ref T.heap.size :: .ref T.heap.size :: rest, locked := none }) rfl hsize rfl rfl (rest := rest) rfl
    (by rw [hb]; exact d7) (by rw [hb]; exact d10) hout hRframes (by simp only [List.map_cons, List.sum_cons, hcat]; omega) hlocks
  obtain ⟨f1, f2⟩ := vx_frame hsame
  rw [hhp] at f1 f2
  have hWs : s.WarmedH U.vm := State.WarmedH.trans hW0 hW
  have hcl : s.vm.findClass cls = some ce.cls := by
    have h9 := hO.cls
    rw [hvm] at h9
    exact h9
  have hall : s.sameButNew ({ U with vm := s.vm } : State) locs mc ms := by
    subst hA
    obtain ⟨e1, e2⟩ := hsame
    rw [State.setFrames_setFrames] at e1
    have h2 : (T.setVm s.vm).sameButNew ({ U with vm := s.vm } : State) [] (0 + 1) (0 + 6) := ⟨e1, e2⟩
    have h3 := X.same.trans h2
    rw [List.append_nil] at h3
    exact h3.mono hc hs
  refine ⟨U, ?_, .threw T.heap.size, hrun, hend, Or.inr ⟨T.heap.size, rfl, cls, ce, locs, hx U hWs.alike f1 (fun q hq => f2 q hq (fun z hz => nomatch hz)), hce, hO.vm, hcl, hWs, hall, hf⟩⟩
  refine st1 _ ?_
  show Steps p.tables e below (T1.setTop { method := m, pc := pc + 3, locals := ls, stack := .ref T.heap.size :: rest, locked := none }) _
  jvm_step X₁.here [X₁.here.top, hexec, d3', Value.category]
  exact X₁.ldcStringW hexec (own := own) (text := text) (index := is) (a := sa) hown' hstr'.1 hstr'.2
    (g := { method := m, pc := pc + 4, locals := ls, stack := .ref T.heap.size :: .ref T.heap.size :: rest, locked := none }) rfl d4' _ hsteps
end Ends
section Bodies
variable {l : Launch}
theorem vx_ofW {y : MethodName} {ws ws' : List Cond} {rm : Room} {Pc : Array Value → State → Prop} {Qc : Array Value → State → Outcome → State → Prop} {XC : String → State → State → Prop} {mc ms : Nat} {free : Addr → Prop} {cc : ByteArray} {maxL : Nat} {ret : Option FieldType}
    (hy : plainName y.cls = true) (hw : ws = Cond.code y cc maxL ret :: ws')
    (body : ∀ p e s m args below meth c s₁, BodyLoose p l y (headSpec ws rm) cc maxL ret e s m args below meth c s₁ → c.maxLocals = maxL → (∀ x ∈ c.exceptionTable.toList, False) → Pc args s →
      W p l e (headSpec ws rm).room s m args below meth c s.heap [] 0 0 (vx_MQ below Qc XC args s mc ms free) (entryFrame m args maxL)) : vx_Met l y ws rm Pc Qc XC mc ms free := by
  refine MetFree.of_bodyS (code := cc) (maxLocals := maxL) (ret := ret) hy ?_ ?_
  · intro args s m h hn
    obtain ⟨meth, c, h1, h2, h3, h4, h5, h6, -, -⟩ := Cond.code_spec hn (atoms_spec (ws := ws) h _ (by rw [hw]; exact List.mem_cons_self))
    exact ⟨meth, c, h1, h2, h3, h4, h5, h6⟩
  · intro p e s m args below meth c s₁ B hml hP _
    have hh0 : s₁.heap = s.heap := by rw [B.state]; rfl
    have ht : ∀ x ∈ c.exceptionTable.toList, False := by
      obtain ⟨meth9, c9, h1, h2, -, -, -, -, h7, -⟩ := Cond.code_spec B.named (atoms_spec (ws := ws) B.pre _ (by rw [hw]; exact List.mem_cons_self))
      cases Option.some.inj (h1.symm.trans B.method)
      cases Option.some.inj (h2.symm.trans (Stand.of_body B).code)
      intro x hx
      rw [Array.isEmpty_iff.mp h7] at hx
      cases hx
    obtain ⟨t, a1, o, b1, b2, b3⟩ := body p e s m args below meth c s₁ B hml ht hP s₁ hh0 (Stand.of_body B)
    exact ⟨t, o, a1, b1, b2, b3⟩
/-- the table of a body with handlers -/
theorem vx_table {p : Program} {x y : MethodName} {S : Spec} {cc bytes : ByteArray} {maxL maxL' : Nat} {ret ret' : Option FieldType} {e : Env} {s s₁ : State} {m : MethodId} {args : Array Value} {below : List Frame} {meth : Method} {c : Code} {hh : List (Nat × Nat × Nat × Nat)}
    (B : BodyLoose p l y S cc maxL ret e s m args below meth c s₁) (h : (Cond.codeWith y bytes maxL' ret' hh).before args s = true) : c.exceptionTable.toList = tableOf hh := by
  obtain ⟨m9, meth9, c9, hn9, h1, h2, -, -, h6, -⟩ := Cond.codeWith_spec h
  cases Option.some.inj (hn9.symm.trans B.named)
  cases Option.some.inj (h1.symm.trans B.method)
  cases Option.some.inj (h2.symm.trans (Stand.of_body B).code)
  rw [← h6, table_eq]
end Bodies
end VXA
/-! ===== END ===== -/
/-! ===== BEGIN a static call of a method with an exception table ===== -/
section VXS
variable {p : Program} {l : Launch} {e : Env} {R : Room} {s : State} {m : MethodId} {args : Array Value} {below : List Frame} {meth : Method} {c : Code} {T : State} {H : Heap} {locs : List Loc} {cells slots : Nat}
abbrev vx_CSW (R : Room) (s : State) (args : Array Value) (own : String) (index : Nat) (y : MethodName) (bytes : ByteArray) (maxL : Nat) (ret : Option FieldType) (hh : List (Nat × Nat × Nat × Nat)) (ws : List Cond) (rm : Room) (mc ms n : Nat) : Prop :=
  (rm.cells = mc ∧ rm.slots = ms ∧ rm.frames + 1 ≤ R.frames ∧ 8 + (maxL + 11) + rm.locals ≤ R.locals ∧ (∀ w ∈ ws, ∀ (a' : Array Value) (U : State), s.WarmedH U.vm → w.before a' U = true) ∧ Cond.codeWith y bytes maxL ret hh ∈ ws) ∧
  (Cond.codeWith y bytes maxL ret hh).before args s = true ∧ (Cond.initialized y.cls).before args s = true ∧ (y.cls ≠ "java/lang/invoke/MethodHandle" ∧ y.cls ≠ "java/lang/invoke/VarHandle") ∧
  (∀ sig, parseMethodDescriptor y.desc = some sig → n = sig.parameters.length) ∧ (Cond.methodLink own index y).before args s = true ∧ (Cond.static y).before args s = true
theorem vx_cwSW {own : String} {index maxL mc ms : Nat} {y : MethodName} {bytes : ByteArray} {ret : Option FieldType} {hh : List (Nat × Nat × Nat × Nat)} {Ts ws ws' : List Cond} {rm : Room} (n : Nat) (ht : ∀ w ∈ Ts, w.before args s = true) (hT : GoodIn Ts (va_wsS own index y ws)) (hw : ws = Cond.codeWith y bytes maxL ret hh :: ws') (hrc : rm.cells = mc) (hrs : rm.slots = ms)
    (hd : y.cls ≠ "java/lang/invoke/MethodHandle" ∧ y.cls ≠ "java/lang/invoke/VarHandle" ∧ (parseMethodDescriptor y.desc).map (fun d => d.parameters.length) = some n) (hR : rm.frames + 1 ≤ R.frames ∧ 8 + (maxL + 11) + rm.locals ≤ R.locals) :
    vx_CSW R s args own index y bytes maxL ret hh ws rm mc ms n := by
  have ok : ∀ w ∈ va_wsS own index y ws, w.before args s = true := fun w h => ht w (hT w h).1
  have hG : GoodIn Ts ws := fun w h => hT w (by unfold va_wsS; exact List.mem_append_right _ h)
  have hc : Cond.codeWith y bytes maxL ret hh ∈ ws := by rw [hw]; exact List.mem_cons_self
  refine ⟨⟨hrc, hrs, hR.1, hR.2, pay_in ht hG, hc⟩, ht _ (hG _ hc).1, ok _ (by simp [va_wsS]), ⟨hd.1, hd.2.1⟩, fun sig h => ?_, ok _ (by simp [va_wsS]), ok _ (by simp [va_wsS])⟩
  have h2 := hd.2.2
  rw [h] at h2
  exact (Option.some.inj h2).symm
theorem vx_callSW (X : Stand p l e R s m args below meth c T locs cells slots) (hexec : p.tables.exec = Jvm.exec) {own : String} {index : Nat} {y : MethodName} {bytes : ByteArray} {maxL : Nat} {ret : Option FieldType} {hh : List (Nat × Nat × Nat × Nat)}
    (hown : s.vm.findClass own = some m.cls) (hlink : (Cond.methodLink own index y).before args s = true) (hstat : (Cond.static y).before args s = true) (hinit : (Cond.initialized y.cls).before args s = true)
    (hcode : (Cond.codeWith y bytes maxL ret hh).before args s = true) (hy : y.cls ≠ "java/lang/invoke/MethodHandle" ∧ y.cls ≠ "java/lang/invoke/VarHandle")
    {W9 : Nat} {Pre : Pt → Array Value → Prop} {Post : Pt → Array Value → Option Value → Pt → Prop} (hK : Back l R p e below s args y 3 W9 Pre Post)
    {g : JFrame} (hg : g.method = m) (hsize : g.locals.size = c.maxLocals) {argsL rest : List Value} (hlen : ∀ sig, parseMethodDescriptor y.desc = some sig → argsL.length = sig.parameters.length)
    (hstack : g.stack = argsL.reverse ++ rest) (hW : 2 * g.monitorRoom + (rest.map fun v => v.category).sum ≤ W9) (hdg : decode c.code g.pc = .ok (.invokestatic index, 3))
    (hpre : ∀ vm₁, s.WarmedH vm₁ → Pre ⟨T.setVm vm₁, locs, cells, slots⟩ argsL.toArray) :
    ∃ (v : Option Value) (vm₁ : Vm) (B : Pt), s.WarmedH vm₁ ∧ Stand p l e R s m args below meth c B.U B.locs B.cells B.slots ∧ Post ⟨T.setVm vm₁, locs, cells, slots⟩ argsL.toArray v B ∧
      ∀ target, Steps p.tables e below (B.U.setTop { g with pc := g.pc + 3, stack := v.toList ++ rest }) target → Steps p.tables e below (T.setTop g) target := by
  obtain ⟨mk, methM, cM, hnamed, hmethM, -, -, -, -, -, -, hsigM⟩ := Cond.codeWith_spec hcode
  have hstatic : methM.isStatic = true := Cond.static_spec hnamed hmethM hstat
  obtain ⟨kP, hkP, -⟩ := className_of_methodNamed hnamed
  have hinitP : kP.init = .initialized := Cond.initialized_spec (findClass_of_methodNamed hnamed) hkP hinit
  obtain ⟨vm₁, X₁, hstep₁⟩ := X.invokestatic hexec hown hlink hnamed hmethM hstatic hkP hinitP hy (g := g) hg (argsL := argsL) (rest := rest) (hlen _ hsigM) hstack hdg
  obtain ⟨v, B, X', hpost, hsteps⟩ := hK m meth c ⟨T.setVm vm₁, locs, cells, slots⟩ { g with stack := rest } (.invokestatic index) mk argsL.toArray X₁ hg hsize hdg hW (X₁.named hnamed) (hpre vm₁ X₁.warmed)
  exact ⟨v, vm₁, B, X₁.warmed, X', hpost, fun target h => hstep₁ _ fun acts => by rw [doInvoke_state]; exact hsteps.trans h⟩
theorem vx_runSW {y : MethodName} {bytes cc : ByteArray} {maxL nL mc ms n index : Nat} {ret : Option FieldType} {hh : List (Nat × Nat × Nat × Nat)} {ws : List Cond} {rm : Room} {Pc : Array Value → State → Prop} {Qc : Array Value → State → Outcome → State → Prop} {free : Addr → Prop} {Ts : List Cond} {own : String} {As rest : List Value} {g : JFrame}
    (S : CallFix p m c cc nL s args Ts own) (hM : Met l y ws rm Pc Qc mc ms free) (cw : vx_CSW R s args own index y bytes maxL ret hh ws rm mc ms n) (hp : PreS s H Pc As)
    (hg : g.method = m) (hn : As.length = n) (hsize : g.locals.size = nL) (hstack : g.stack = As.reverse ++ rest) (hW : 2 * g.monitorRoom + (rest.map fun v => v.category).sum ≤ 8) (hdg : decode cc g.pc = .ok (.invokestatic index, 3)) (hf : cells + mc ≤ R.cells ∧ slots + ms ≤ R.slots) :
    va_Run p l e R s m args below meth c H locs cells slots mc ms g rest (Qc As.toArray) (free) := by
  obtain ⟨⟨hrc, hrs, hfr, hlo, hws, hcw⟩, hcode, hini, hy, hlen, hl, hstt⟩ := cw
  have hK : Back l R p e below s args y 3 8 (PreOf R mc ms Pc) (PostOf Qc mc ms free) := va_backW (hh := hh) (bytes := bytes) (maxL := maxL) (ret := ret) hM hp.1 hrc hrs hfr hlo hws hcw (fun a' U hW => word_at hW (Or.inl (by first | rfl | simp [Cond.onTables, Cond.keeps, Cond.steady])) hini)
  obtain ⟨hx, hb, hml, ho, -⟩ := S
  intro T hT X
  obtain ⟨v, vm₁, ⟨U', l2, c2, s2⟩, hW₁, X', ⟨g', mk, t, L, e1, e2, hq, h1, hL, h2, h3⟩, st⟩ := vx_callSW X hx (hh := hh) (bytes := bytes) (maxL := maxL) (ret := ret) ho hl hstt hini hcode hy hK hg (hsize.trans hml.symm) (argsL := As) (rest := rest) (fun sig h => hn.trans (hlen sig h)) hstack hW (by rw [hb]; exact hdg)
    (fun vm₁ hW₁ => ⟨hf.1, hf.2, hp.2 (T.setVm vm₁) hT hW₁⟩)
  dsimp only [Pt.U, Pt.locs, Pt.cells, Pt.slots] at X' e1 e2 h1 h2 h3 st
  subst h1; subst h2; subst h3
  exact ⟨v, (T.setVm vm₁).calling g' mk As.toArray, t, U', L, hT, X', hL, e1, e2, hq, st⟩
/-- not caught here, past rows that name other classes: it goes on to the caller -/
theorem vx_outP {p : Program} {l : Launch} {e : Env} {R : Room} {s : State} {m : MethodId} {args : Array Value} {below : List Frame} {meth : Method} {c : Code} {H : Heap} {locs : List Loc} {cells slots : Nat} {free : Addr → Prop} {ls : Array Slot} {rest : List Value} {Qc : Array Value → State → Outcome → State → Prop} {XC : String → State → State → Prop}
    {pc : Nat} {own E : String} {ce : Cell} {q : Addr} {mc ms : Nat} (hown : s.vm.findClass own = some m.cls) (hlocks : meth.locks = false)
    (hpass : ∀ z ∈ c.exceptionTable.toList, covers z pc = false ∨ (z.catchType ≠ 0 ∧ ∃ nm : String, (Cond.classLink own z.catchType nm).before args s = true ∧ va_Nc E nm s)) (hcell : H[q]? = some ce) (hv : ce.vm = .none) (hcl : s.vm.findClass E = some ce.cls)
    (hx : ∀ t : State, t.heap = H → s.vm.Alike t.vm → XC E s t) (hf : ∀ z ∈ locs, free z.base) (hc : cells ≤ mc) (hs : slots ≤ ms) :
    vx_W p l e R s m args below meth c H locs cells slots (vx_MQ below Qc XC args s mc ms free) (F0 m pc ls rest) q := by
  intro T hT X
  have hpl : e.platform.magicAccessors = ({} : Platform).magicAccessors := by rw [X.admits.platform]
  obtain ⟨vm', hW', X', st⟩ := X.outThrough hlocks q (g := F0 m pc ls rest) rfl rfl rfl (cell := ce) (by rw [hT]; exact hcell) (by rw [hv]; rfl)
    (by obtain ⟨k9, h9, -⟩ := Vm.findClass_spec hcl; exact ⟨k9, h9⟩) (fun z hz => by
      rcases hpass z hz with h | ⟨hz0, nm, hl1, hn1⟩
      · exact Or.inl h
      · obtain ⟨c6, hc6, hcl6⟩ := Cond.classLink_spec hown hl1 e.platform hpl
        obtain ⟨a8, b8, h1, h2, h3⟩ := hn1
        cases Option.some.inj (h1.symm.trans hcl)
        cases Option.some.inj (h2.symm.trans hc6)
        exact Or.inr ⟨hz0, _, hcl6, h3⟩)
  obtain ⟨g₀, hfr⟩ := X'.frames_eq
  have hcell9 : ((T.setVm vm').setFrames (.throwing q :: below)).heap[q]? = some ce := by
    show T.heap[q]? = some ce
    rw [hT]; exact hcell
  have hend : Ended ((T.setVm vm').setFrames (.throwing q :: below)) below (.threw q) := State.frames_setFrames _ (State.cur_lt_of_frames hfr)
  refine ⟨(T.setVm vm').setFrames (.throwing q :: below), ?_, .threw q, X'.here.running, hend, Or.inr ⟨q, rfl, E, ce, locs, hx _ hT (X'.ends _).1.alike, hcell9, hv, hcl, (X'.ends _).1, (X'.ends _).2.mono hc hs, hf⟩⟩
  rw [X.pushThrowing_eq]
  exact st
/-- a thing of a world lies in the heap -/
theorem vx_lt {D : va_G} {cl : List vw_C} {ws : va_W} {H1 : Heap} (h : va_P D cl ws H1) {k : Nat} {q : Nat × va_E} (hk : ws[k]? = some q) : q.1 < H1.size := (h k q hk).lt
end VXS
/-! ===== END ===== -/
/-! ===== BEGIN methods with a table of their own: called by a name, returning or throwing ===== -/
section VXH
/-! vx_backW, vx_callVX, vx_callSX, vx_callVW, vx_runVW, vx_runVX, vx_runSX, vx_ofWH follow the same proofs as their sisters above (Free/Laws.lean, Shelf42/LK1.lean); vx_outP calls Shelf42/NT130.lean (outThrough). -/
section
variable {l : Launch} {R : Room} {p : Program} {e : Env} {below : List Frame} {s : State} {sargs : Array Value} {y : MethodName} {len W9 : Nat}
theorem vx_backW {ws : List Cond} {rm : Room} {Pc : Array Value → State → Prop} {Qc : Array Value → State → Outcome → State → Prop} {XC : String → State → State → Prop} {mc ms : Nat} {free : Addr → Prop} {bytes : ByteArray} {maxL : Nat} {ret : Option FieldType} {hh : List (Nat × Nat × Nat × Nat)}
    (hM : vx_Met l y ws rm Pc Qc XC mc ms free) (hblind : FrameBlind Pc) (hrc : rm.cells = mc) (hrs : rm.slots = ms)
    (hframes : rm.frames + 1 ≤ R.frames) (hlocals : W9 + (maxL + 11) + rm.locals ≤ R.locals)
    (hws : ∀ w ∈ ws, ∀ a' U, s.WarmedH U.vm → w.before a' U = true) (hcode : Cond.codeWith y bytes maxL ret hh ∈ ws) (hinit : ∀ a' U, s.WarmedH U.vm → (Cond.initialized y.cls).before a' U = true) :
    vx_Back l R p e below s sargs y len W9 (PreOf R mc ms Pc) (PostOf Qc mc ms free) (vx_Post XC mc ms free) := by
  intro m meth c A g ig mk a X hg hsize hdg hW hn hp
  have h1 : (headSpec ws rm).pre.before a A.U = true := atoms_intro fun w hw => hws w hw _ _ X.warmed
  have h2 : (Cond.codeWith y bytes maxL ret hh).before a A.U = true := hws _ hcode _ _ X.warmed
  have h3 : (Cond.initialized y.cls).before a A.U = true := hinit _ _ X.warmed
  have h4 : A.cells + (headSpec ws rm).room.cells ≤ R.cells := by rw [show (headSpec ws rm).room.cells = mc from hrc]; exact hp.1
  have h5 : A.slots + (headSpec ws rm).room.slots ≤ R.slots := by rw [show (headSpec ws rm).room.slots = ms from hrs]; exact hp.2.1
  have hPc : Pc a (A.U.calling g mk a) := hblind _ _ _ _ hp.2.2
  obtain ⟨U, Ls, c0, s0⟩ := A
  dsimp only [Pt.U, Pt.locs, Pt.cells, Pt.slots] at h1 h2 h3 h4 h5 X hn hPc ⊢
  obtain ⟨m9, methY, cY, hn9, hmY, hcY, -, hlY, -⟩ := Cond.codeWith_spec h2
  cases Option.some.inj (hn9.symm.trans hn)
  obtain ⟨kY, hkY, -⟩ := className_of_methodNamed hn
  have hinitY : kY.init = .initialized := Cond.initialized_spec (findClass_of_methodNamed hn) hkY h3
  have h : At U g.method c below := by rw [hg]; exact X.here
  have hlocals9 : W9 + (maxL + 11) + (headSpec ws rm).room.locals ≤ R.locals := hlocals
  have happ : (headSpec ws rm).appliesLoose y e.platform (U.calling g mk a) = true :=
    Spec.appliesLoose_calling (g := g) h hdg hn hkY hinitY
      (X.room_calling (g := g) (R' := (headSpec ws rm).room) hsize hmY hcY hframes (by rw [hlY]; omega) h4 h5) h1
  obtain ⟨mid, hmid⟩ := h.above
  have hfr : (U.setTop g).frames = (.java g :: mid) ++ below := by rw [State.frames_setTop' g h.top, hmid]; rfl
  obtain ⟨o, s₂, hsteps, -, hend, hq⟩ := Steps.callFree hM p X.admits X.cas X.clock (acts := []) hfr happ hPc trivial
  have hq' : vx_Q Qc XC mc ms free a (U.calling g mk a) o s₂ := hq
  rw [State.frames_setTop' g h.top] at hend
  obtain ⟨g₀, hg0⟩ := Option.isSome_iff_exists.mp h.top
  obtain ⟨r, hr⟩ := State.topJava?_eq_some.mp hg0
  have hr' : (({ U with heap := s₂.heap, slotsUsed := s₂.slotsUsed } : State).setVm s₂.vm).frames = .java g₀ :: r := hr
  rcases hq' with ⟨hqc, L, hfe, hL⟩ | ⟨q, rfl, E, ce, L, hx, hce, hcv, hcl, hW₂, hsm, hL⟩
  · obtain ⟨⟨v, rfl⟩, hW₂, e2, q2, q3, q4, q5, q6⟩ := id hfe
    have e3 : s₂ = ({ (U.calling g mk a).setFrames s₂.frames with heap := s₂.heap, slotsUsed := s₂.slotsUsed } : State).setVm s₂.vm := by
      have : s₂ = ({ s₂ with vm := (U.calling g mk a).vm } : State).setVm s₂.vm := rfl
      rw [e2] at this
      exact this
    obtain ⟨c₂, i₂, len₂, hc₂, hd₂, hf₂⟩ := hend
    have hW' : U.WarmedH s₂.vm := hW₂
    have hcc : c₂ = c := by
      have h1 : s₂.code? g.method = U.code? g.method := by
        rw [State.code?_eq, State.code?_eq, hW'.alike.method?]
      exact Option.some.inj (hc₂.symm.trans (h1.trans h.code))
    subst hcc
    have hlen : len₂ = len := by rw [hdg] at hd₂; cases hd₂; rfl
    subst hlen
    have hs₂ : s₂ = (({ U with heap := s₂.heap, slotsUsed := s₂.slotsUsed } : State).setVm s₂.vm).setTop { g with pc := g.pc + len₂, stack := v.toList ++ g.stack } := by
      refine e3.trans ?_
      rw [hf₂, State.calling_eq h.top, State.setFrames_setFrames, State.setTop_of_frames _ hr', hr]
      rfl
    have hsame : U.sameButNew ({ U with heap := s₂.heap, slotsUsed := s₂.slotsUsed } : State) L mc ms := by
      refine ⟨?_, q2, q3, q4, q5, q6⟩
      obtain ⟨t, ht, -⟩ := State.frames_cons hr
      show ({ U with heap := s₂.heap, slotsUsed := s₂.slotsUsed } : State) = { U.setFrames U.frames with heap := s₂.heap, slotsUsed := s₂.slotsUsed }
      rw [State.setFrames_self ht]
    subst hg
    refine Or.inl ⟨v, ⟨(({ U with heap := s₂.heap, slotsUsed := s₂.slotsUsed } : State).setVm s₂.vm), Ls ++ L, c0 + mc, s0 + ms⟩,
      ⟨X.admits, X.cas, X.clock, X.frames, X.room, X.hears, X.method, X.code, (X.here.setHeapUsed s₂.heap s₂.slotsUsed).setVm hW'.alike, X.tail, State.WarmedH.trans X.warmed hW', X.limits, X.bytes, X.same.trans (hsame.setVm s.vm)⟩,
      ⟨g, mk, s₂, L, rfl, rfl, hqc, rfl, hL, rfl, rfl⟩, ?_⟩
    show Steps p.tables e below _ ((({ U with heap := s₂.heap, slotsUsed := s₂.slotsUsed } : State).setVm s₂.vm).setTop { g with pc := g.pc + len₂, stack := v.toList ++ g.stack })
    rw [← hs₂]
    exact hsteps
  · obtain ⟨e2, q2, q3, q4, q5, q6⟩ := id hsm
    have e3 : s₂ = ({ (U.calling g mk a).setFrames s₂.frames with heap := s₂.heap, slotsUsed := s₂.slotsUsed } : State).setVm s₂.vm := by
      have : s₂ = ({ s₂ with vm := (U.calling g mk a).vm } : State).setVm s₂.vm := rfl
      rw [e2] at this
      exact this
    have hf₂ : s₂.frames = .throwing q :: .java g :: U.frames.tail := hend
    have hW' : U.WarmedH s₂.vm := hW₂
    have hs₂ : s₂ = ((({ U with heap := s₂.heap, slotsUsed := s₂.slotsUsed } : State).setVm s₂.vm).setTop g).pushFrame (.throwing q) := by
      refine e3.trans ?_
      rw [hf₂, State.calling_eq h.top, State.setFrames_setFrames, State.pushFrame, State.frames_setTop _ hr', State.setTop_of_frames _ hr', State.setFrames_setFrames, hr]
      rfl
    have hsame : U.sameButNew ({ U with heap := s₂.heap, slotsUsed := s₂.slotsUsed } : State) L mc ms := by
      refine ⟨?_, q2, q3, q4, q5, q6⟩
      obtain ⟨t, ht, -⟩ := State.frames_cons hr
      show ({ U with heap := s₂.heap, slotsUsed := s₂.slotsUsed } : State) = { U.setFrames U.frames with heap := s₂.heap, slotsUsed := s₂.slotsUsed }
      rw [State.setFrames_self ht]
    subst hg
    refine Or.inr ⟨q, ⟨(({ U with heap := s₂.heap, slotsUsed := s₂.slotsUsed } : State).setVm s₂.vm), Ls ++ L, c0 + mc, s0 + ms⟩,
      ⟨X.admits, X.cas, X.clock, X.frames, X.room, X.hears, X.method, X.code, (X.here.setHeapUsed s₂.heap s₂.slotsUsed).setVm hW'.alike, X.tail, State.WarmedH.trans X.warmed hW', X.limits, X.bytes, X.same.trans (hsame.setVm s.vm)⟩,
      ⟨g, mk, s₂, L, E, ce, rfl, rfl, hx, hce, hcv, hcl, rfl, hL, rfl, rfl⟩, ?_⟩
    show Steps p.tables e below _ (((({ U with heap := s₂.heap, slotsUsed := s₂.slotsUsed } : State).setVm s₂.vm).setTop g).pushFrame (.throwing q))
    rw [← hs₂]
    exact hsteps
end
variable {p : Program} {l : Launch} {e : Env} {R : Room} {s : State} {m : MethodId} {args : Array Value} {below : List Frame} {meth : Method} {c : Code} {T : State} {H : Heap} {locs : List Loc} {cells slots : Nat}
theorem vx_callVX (X : Stand p l e R s m args below meth c T locs cells slots) (hexec : p.tables.exec = Jvm.exec) {own C : String} {index : Nat} {y : MethodName} {bytes : ByteArray} {maxL : Nat} {ret : Option FieldType} {hh : List (Nat × Nat × Nat × Nat)}
    (hown : s.vm.findClass own = some m.cls) (hlink : (Cond.methodLink own index y).before args s = true) (hinst : (Cond.instanceMethod y).before args s = true) (hsel : (Cond.selects C y y).before args s = true)
    (hcode : (Cond.codeWith y bytes maxL ret hh).before args s = true) (hy : y.cls ≠ "java/lang/invoke/MethodHandle" ∧ y.cls ≠ "java/lang/invoke/VarHandle")
    {W9 : Nat} {Pre : Pt → Array Value → Prop} {Post : Pt → Array Value → Option Value → Pt → Prop} {PostX : Pt → Array Value → Addr → Pt → Prop} (hK : vx_Back l R p e below s args y 3 W9 Pre Post PostX)
    {b : Addr} {cellB : Cell} (hcell : T.heap[b]? = some cellB) (hobj : cellB.vm.isStatics = false) (hcls : s.vm.findClass C = some cellB.cls)
    {g : JFrame} (hg : g.method = m) (hsize : g.locals.size = c.maxLocals) {argsL rest : List Value} (hlen : ∀ sig, parseMethodDescriptor y.desc = some sig → argsL.length = sig.parameters.length)
    (hstack : g.stack = argsL.reverse ++ .ref b :: rest) (hW : 2 * g.monitorRoom + (rest.map fun v => v.category).sum ≤ W9) (hdg : decode c.code g.pc = .ok (.invokevirtual index, 3))
    (hpre : ∀ vm₁, s.WarmedH vm₁ → Pre ⟨T.setVm vm₁, locs, cells, slots⟩ (Value.ref b :: argsL).toArray) :
    (∃ (v : Option Value) (vm₁ : Vm) (B : Pt), s.WarmedH vm₁ ∧ Stand p l e R s m args below meth c B.U B.locs B.cells B.slots ∧ Post ⟨T.setVm vm₁, locs, cells, slots⟩ (Value.ref b :: argsL).toArray v B ∧
      ∀ target, Steps p.tables e below (B.U.setTop { g with pc := g.pc + 3, stack := v.toList ++ rest }) target → Steps p.tables e below (T.setTop g) target) ∨
    (∃ (q : Addr) (vm₁ : Vm) (B : Pt), s.WarmedH vm₁ ∧ Stand p l e R s m args below meth c B.U B.locs B.cells B.slots ∧ PostX ⟨T.setVm vm₁, locs, cells, slots⟩ (Value.ref b :: argsL).toArray q B ∧
      Steps p.tables e below (T.setTop g) ((B.U.setTop { g with stack := rest }).pushFrame (.throwing q))) := by
  obtain ⟨mk, methM, hnamed, hmethM, hstM, habM⟩ := Cond.instanceMethod_spec hinst
  obtain ⟨m8, methM', cM, hn8, hmethM', -, -, -, -, -, -, hsigM⟩ := Cond.codeWith_spec hcode
  cases Option.some.inj (hn8.symm.trans hnamed)
  cases hmethM.symm.trans hmethM'
  obtain ⟨c2, r2, m2, q1, q2, q3, q4, kP, hkP, hkPi⟩ := Cond.selects_spec hsel
  cases hcls.symm.trans q1
  cases (State.methodFound?_of_named hnamed hy).symm.trans q2
  cases hnamed.symm.trans q3
  have hselP : selectMethod e.platform s.vm cellB.cls mk = .method mk := by rw [Launch.admits_selectMethod X.admits]; exact q4
  obtain ⟨vm₁, X₁, hstep₁⟩ := X.invokevirtual hexec hown hlink hnamed hmethM hstM hkP hkPi hy (a := b) (cell := cellB) hcell
    (fun z h => by rw [h] at hobj; cases hobj) hselP hmethM habM hkP hkPi (g := g) hg (argsL := argsL) (rest := rest) (hlen _ hsigM) hstack hdg
  rcases hK m meth c ⟨T.setVm vm₁, locs, cells, slots⟩ { g with stack := rest } (.invokevirtual index) mk (Value.ref b :: argsL).toArray X₁ hg hsize hdg hW (X₁.named hnamed) (hpre vm₁ X₁.warmed) with ⟨v, B, X', hpost, hsteps⟩ | ⟨q, B, X', hpost, hsteps⟩
  · exact Or.inl ⟨v, vm₁, B, X₁.warmed, X', hpost, fun target h => hstep₁ _ fun acts => by rw [doInvoke_state]; exact hsteps.trans h⟩
  · exact Or.inr ⟨q, vm₁, B, X₁.warmed, X', hpost, hstep₁ _ fun acts => by rw [doInvoke_state]; exact hsteps⟩
theorem vx_callSX (X : Stand p l e R s m args below meth c T locs cells slots) (hexec : p.tables.exec = Jvm.exec) {own : String} {index : Nat} {y : MethodName} {bytes : ByteArray} {maxL : Nat} {ret : Option FieldType} {hh : List (Nat × Nat × Nat × Nat)}
    (hown : s.vm.findClass own = some m.cls) (hlink : (Cond.methodLink own index y).before args s = true) (hstat : (Cond.static y).before args s = true) (hinit : (Cond.initialized y.cls).before args s = true)
    (hcode : (Cond.codeWith y bytes maxL ret hh).before args s = true) (hy : y.cls ≠ "java/lang/invoke/MethodHandle" ∧ y.cls ≠ "java/lang/invoke/VarHandle")
    {W9 : Nat} {Pre : Pt → Array Value → Prop} {Post : Pt → Array Value → Option Value → Pt → Prop} {PostX : Pt → Array Value → Addr → Pt → Prop} (hK : vx_Back l R p e below s args y 3 W9 Pre Post PostX)
    {g : JFrame} (hg : g.method = m) (hsize : g.locals.size = c.maxLocals) {argsL rest : List Value} (hlen : ∀ sig, parseMethodDescriptor y.desc = some sig → argsL.length = sig.parameters.length)
    (hstack : g.stack = argsL.reverse ++ rest) (hW : 2 * g.monitorRoom + (rest.map fun v => v.category).sum ≤ W9) (hdg : decode c.code g.pc = .ok (.invokestatic index, 3))
    (hpre : ∀ vm₁, s.WarmedH vm₁ → Pre ⟨T.setVm vm₁, locs, cells, slots⟩ argsL.toArray) :
    (∃ (v : Option Value) (vm₁ : Vm) (B : Pt), s.WarmedH vm₁ ∧ Stand p l e R s m args below meth c B.U B.locs B.cells B.slots ∧ Post ⟨T.setVm vm₁, locs, cells, slots⟩ argsL.toArray v B ∧
      ∀ target, Steps p.tables e below (B.U.setTop { g with pc := g.pc + 3, stack := v.toList ++ rest }) target → Steps p.tables e below (T.setTop g) target) ∨
    (∃ (q : Addr) (vm₁ : Vm) (B : Pt), s.WarmedH vm₁ ∧ Stand p l e R s m args below meth c B.U B.locs B.cells B.slots ∧ PostX ⟨T.setVm vm₁, locs, cells, slots⟩ argsL.toArray q B ∧
      Steps p.tables e below (T.setTop g) ((B.U.setTop { g with stack := rest }).pushFrame (.throwing q))) := by
  obtain ⟨mk, methM, cM, hnamed, hmethM, -, -, -, -, -, -, hsigM⟩ := Cond.codeWith_spec hcode
  have hstatic : methM.isStatic = true := Cond.static_spec hnamed hmethM hstat
  obtain ⟨kP, hkP, -⟩ := className_of_methodNamed hnamed
  have hinitP : kP.init = .initialized := Cond.initialized_spec (findClass_of_methodNamed hnamed) hkP hinit
  obtain ⟨vm₁, X₁, hstep₁⟩ := X.invokestatic hexec hown hlink hnamed hmethM hstatic hkP hinitP hy (g := g) hg (argsL := argsL) (rest := rest) (hlen _ hsigM) hstack hdg
  rcases hK m meth c ⟨T.setVm vm₁, locs, cells, slots⟩ { g with stack := rest } (.invokestatic index) mk argsL.toArray X₁ hg hsize hdg hW (X₁.named hnamed) (hpre vm₁ X₁.warmed) with ⟨v, B, X', hpost, hsteps⟩ | ⟨q, B, X', hpost, hsteps⟩
  · exact Or.inl ⟨v, vm₁, B, X₁.warmed, X', hpost, fun target h => hstep₁ _ fun acts => by rw [doInvoke_state]; exact hsteps.trans h⟩
  · exact Or.inr ⟨q, vm₁, B, X₁.warmed, X', hpost, hstep₁ _ fun acts => by rw [doInvoke_state]; exact hsteps⟩
theorem vx_callVW (X : Stand p l e R s m args below meth c T locs cells slots) (hexec : p.tables.exec = Jvm.exec) {own C : String} {index : Nat} {y : MethodName} {bytes : ByteArray} {maxL : Nat} {ret : Option FieldType} {hh : List (Nat × Nat × Nat × Nat)}
    (hown : s.vm.findClass own = some m.cls) (hlink : (Cond.methodLink own index y).before args s = true) (hinst : (Cond.instanceMethod y).before args s = true) (hsel : (Cond.selects C y y).before args s = true)
    (hcode : (Cond.codeWith y bytes maxL ret hh).before args s = true) (hy : y.cls ≠ "java/lang/invoke/MethodHandle" ∧ y.cls ≠ "java/lang/invoke/VarHandle")
    {W9 : Nat} {Pre : Pt → Array Value → Prop} {Post : Pt → Array Value → Option Value → Pt → Prop} (hK : Back l R p e below s args y 3 W9 Pre Post)
    {b : Addr} {cellB : Cell} (hcell : T.heap[b]? = some cellB) (hobj : cellB.vm.isStatics = false) (hcls : s.vm.findClass C = some cellB.cls)
    {g : JFrame} (hg : g.method = m) (hsize : g.locals.size = c.maxLocals) {argsL rest : List Value} (hlen : ∀ sig, parseMethodDescriptor y.desc = some sig → argsL.length = sig.parameters.length)
    (hstack : g.stack = argsL.reverse ++ .ref b :: rest) (hW : 2 * g.monitorRoom + (rest.map fun v => v.category).sum ≤ W9) (hdg : decode c.code g.pc = .ok (.invokevirtual index, 3))
    (hpre : ∀ vm₁, s.WarmedH vm₁ → Pre ⟨T.setVm vm₁, locs, cells, slots⟩ (Value.ref b :: argsL).toArray) :
    ∃ (v : Option Value) (vm₁ : Vm) (B : Pt), s.WarmedH vm₁ ∧ Stand p l e R s m args below meth c B.U B.locs B.cells B.slots ∧ Post ⟨T.setVm vm₁, locs, cells, slots⟩ (Value.ref b :: argsL).toArray v B ∧
      ∀ target, Steps p.tables e below (B.U.setTop { g with pc := g.pc + 3, stack := v.toList ++ rest }) target → Steps p.tables e below (T.setTop g) target := by
  obtain ⟨mk, methM, hnamed, hmethM, hstM, habM⟩ := Cond.instanceMethod_spec hinst
  obtain ⟨m8, methM', cM, hn8, hmethM', -, -, -, -, -, -, hsigM⟩ := Cond.codeWith_spec hcode
  cases Option.some.inj (hn8.symm.trans hnamed)
  cases hmethM.symm.trans hmethM'
  obtain ⟨c2, r2, m2, q1, q2, q3, q4, kP, hkP, hkPi⟩ := Cond.selects_spec hsel
  cases hcls.symm.trans q1
  cases (State.methodFound?_of_named hnamed hy).symm.trans q2
  cases hnamed.symm.trans q3
  have hselP : selectMethod e.platform s.vm cellB.cls mk = .method mk := by rw [Launch.admits_selectMethod X.admits]; exact q4
  obtain ⟨vm₁, X₁, hstep₁⟩ := X.invokevirtual hexec hown hlink hnamed hmethM hstM hkP hkPi hy (a := b) (cell := cellB) hcell
    (fun z h => by rw [h] at hobj; cases hobj) hselP hmethM habM hkP hkPi (g := g) hg (argsL := argsL) (rest := rest) (hlen _ hsigM) hstack hdg
  obtain ⟨v, B, X', hpost, hsteps⟩ := hK m meth c ⟨T.setVm vm₁, locs, cells, slots⟩ { g with stack := rest } (.invokevirtual index) mk (Value.ref b :: argsL).toArray X₁ hg hsize hdg hW (X₁.named hnamed) (hpre vm₁ X₁.warmed)
  exact ⟨v, vm₁, B, X₁.warmed, X', hpost, fun target h => hstep₁ _ fun acts => by rw [doInvoke_state]; exact hsteps.trans h⟩
abbrev vx_CVW (R : Room) (s : State) (args : Array Value) (own C : String) (index : Nat) (y : MethodName) (bytes : ByteArray) (maxL : Nat) (ret : Option FieldType) (hh : List (Nat × Nat × Nat × Nat)) (ws : List Cond) (rm : Room) (mc ms n : Nat) : Prop :=
  (rm.cells = mc ∧ rm.slots = ms ∧ rm.frames + 1 ≤ R.frames ∧ 8 + (maxL + 11) + rm.locals ≤ R.locals ∧ (∀ w ∈ ws, ∀ (a' : Array Value) (U : State), s.WarmedH U.vm → w.before a' U = true) ∧ Cond.codeWith y bytes maxL ret hh ∈ ws) ∧
  (Cond.codeWith y bytes maxL ret hh).before args s = true ∧ (Cond.initialized y.cls).before args s = true ∧ (y.cls ≠ "java/lang/invoke/MethodHandle" ∧ y.cls ≠ "java/lang/invoke/VarHandle") ∧
  (∀ sig, parseMethodDescriptor y.desc = some sig → n = sig.parameters.length) ∧ (Cond.methodLink own index y).before args s = true ∧ (Cond.instanceMethod y).before args s = true ∧ (Cond.selects C y y).before args s = true
theorem vx_cwVW {own C : String} {index maxL mc ms : Nat} {y : MethodName} {bytes : ByteArray} {ret : Option FieldType} {hh : List (Nat × Nat × Nat × Nat)} {Ts ws ws' : List Cond} {rm : Room} (n : Nat) (ht : ∀ w ∈ Ts, w.before args s = true) (hT : GoodIn Ts (wsV own index C y ws)) (hw : ws = Cond.codeWith y bytes maxL ret hh :: ws') (hrc : rm.cells = mc) (hrs : rm.slots = ms)
    (hd : y.cls = C ∧ y.cls ≠ "java/lang/invoke/MethodHandle" ∧ y.cls ≠ "java/lang/invoke/VarHandle" ∧ (parseMethodDescriptor y.desc).map (fun d => d.parameters.length) = some n) (hR : rm.frames + 1 ≤ R.frames ∧ 8 + (maxL + 11) + rm.locals ≤ R.locals) :
    vx_CVW R s args own C index y bytes maxL ret hh ws rm mc ms n := by
  obtain ⟨hC, hd⟩ := hd
  subst hC
  have ok : ∀ w ∈ wsV own index y.cls y ws, w.before args s = true := fun w h => ht w (hT w h).1
  have hG : GoodIn Ts ws := fun w h => hT w (by unfold wsV; exact List.mem_append_right _ h)
  have hc : Cond.codeWith y bytes maxL ret hh ∈ ws := by rw [hw]; exact List.mem_cons_self
  refine ⟨⟨hrc, hrs, hR.1, hR.2, pay_in ht hG, hc⟩, ht _ (hG _ hc).1, ok _ (by simp [wsV]), ⟨hd.1, hd.2.1⟩, fun sig h => ?_, ok _ (by simp [wsV]), ok _ (by simp [wsV]), ok _ (by simp [wsV])⟩
  have h2 := hd.2.2
  rw [h] at h2
  exact (Option.some.inj h2).symm
theorem vx_runVW {y : MethodName} {bytes cc : ByteArray} {maxL nL mc ms n index : Nat} {ret : Option FieldType} {hh : List (Nat × Nat × Nat × Nat)} {ws : List Cond} {rm : Room} {Pc : Array Value → State → Prop} {Qc : Array Value → State → Outcome → State → Prop} {free : Addr → Prop} {Ts : List Cond} {own C : String} {b : Addr} {As rest : List Value} {g : JFrame}
    (S : CallFix p m c cc nL s args Ts own) (hM : Met l y ws rm Pc Qc mc ms free) (cw : vx_CVW R s args own C index y bytes maxL ret hh ws rm mc ms n) (hp : PreV s H C b Pc As)
    (hg : g.method = m) (hn : As.length = n) (hsize : g.locals.size = nL) (hstack : g.stack = As.reverse ++ .ref b :: rest) (hW : 2 * g.monitorRoom + (rest.map fun v => v.category).sum ≤ 8) (hdg : decode cc g.pc = .ok (.invokevirtual index, 3)) (hf : cells + mc ≤ R.cells ∧ slots + ms ≤ R.slots) :
    va_Run p l e R s m args below meth c H locs cells slots mc ms g rest (Qc (Value.ref b :: As).toArray) free := by
  obtain ⟨⟨hrc, hrs, hfr, hlo, hws, hcw⟩, hcode, hini, hy, hlen, hl, hin, hse⟩ := cw
  have hK : Back l R p e below s args y 3 8 (PreOf R mc ms Pc) (PostOf Qc mc ms free) := va_backW (hh := hh) (bytes := bytes) (maxL := maxL) (ret := ret) hM hp.1 hrc hrs hfr hlo hws hcw (fun a' U hW => word_at hW (Or.inl (by first | rfl | simp [Cond.onTables, Cond.keeps, Cond.steady])) hini)
  obtain ⟨hx, hb, hml, ho, -⟩ := S
  obtain ⟨-, ⟨cellB, hcB, hoB, hclB⟩, hPc⟩ := hp
  intro T hT X
  obtain ⟨v, vm₁, ⟨U', l2, c2, s2⟩, hW₁, X', ⟨g', mk, t, L, e1, e2, hq, h1, hL, h2, h3⟩, st⟩ := vx_callVW X hx (C := C) (hh := hh) (bytes := bytes) (maxL := maxL) (ret := ret) ho hl hin hse hcode hy hK (by rw [hT]; exact hcB) hoB hclB hg (hsize.trans hml.symm) (argsL := As) (rest := rest) (fun sig h => hn.trans (hlen sig h)) hstack hW (by rw [hb]; exact hdg)
    (fun vm₁ hW₁ => ⟨hf.1, hf.2, hPc (T.setVm vm₁) hT hW₁⟩)
  dsimp only [Pt.U, Pt.locs, Pt.cells, Pt.slots] at X' e1 e2 h1 h2 h3 st
  subst h1; subst h2; subst h3
  exact ⟨v, (T.setVm vm₁).calling g' mk (Value.ref b :: As).toArray, t, U', L, hT, X', hL, e1, e2, hq, st⟩
section
variable {y : MethodName} {bytes cc : ByteArray} {maxL nL mc ms n index : Nat} {ret : Option FieldType} {ws : List Cond} {rm : Room} {Pc : Array Value → State → Prop} {Qc : Array Value → State → Outcome → State → Prop} {XC : String → State → State → Prop} {free : Addr → Prop} {Ts : List Cond} {own C : String} {b : Addr} {As rest : List Value} {g : JFrame}
theorem vx_runVX {hh : List (Nat × Nat × Nat × Nat)} (S : CallFix p m c cc nL s args Ts own) (hM : vx_Met l y ws rm Pc Qc XC mc ms free) (cw : vx_CVW R s args own C index y bytes maxL ret hh ws rm mc ms n) (hp : PreV s H C b Pc As)
    (hg : g.method = m) (hn : As.length = n) (hsize : g.locals.size = nL) (hstack : g.stack = As.reverse ++ .ref b :: rest) (hW : 2 * g.monitorRoom + (rest.map fun v => v.category).sum ≤ 8) (hdg : decode cc g.pc = .ok (.invokevirtual index, 3)) (hf : cells + mc ≤ R.cells ∧ slots + ms ≤ R.slots) :
    vx_Run p l e R s m args below meth c H locs cells slots mc ms g rest (Qc (Value.ref b :: As).toArray) XC free := by
  obtain ⟨⟨hrc, hrs, hfr, hlo, hws, hcw⟩, hcode, hini, hy, hlen, hl, hin, hse⟩ := cw
  have hK : vx_Back l R p e below s args y 3 8 (PreOf R mc ms Pc) (PostOf Qc mc ms free) (vx_Post XC mc ms free) := vx_backW (hh := hh) (bytes := bytes) (maxL := maxL) (ret := ret) hM hp.1 hrc hrs hfr hlo hws hcw (fun a' U hW => word_at hW (Or.inl (by first | rfl | simp [Cond.onTables, Cond.keeps, Cond.steady])) hini)
  obtain ⟨hx, hb, hml, ho, -⟩ := S
  obtain ⟨-, ⟨cellB, hcB, hoB, hclB⟩, hPc⟩ := hp
  intro T hT X
  rcases vx_callVX X hx (C := C) (hh := hh) (bytes := bytes) (maxL := maxL) (ret := ret) ho hl hin hse hcode hy hK (by rw [hT]; exact hcB) hoB hclB hg (hsize.trans hml.symm) (argsL := As) (rest := rest) (fun sig h => hn.trans (hlen sig h)) hstack hW (by rw [hb]; exact hdg)
    (fun vm₁ hW₁ => ⟨hf.1, hf.2, hPc (T.setVm vm₁) hT hW₁⟩) with ⟨v, vm₁, ⟨U', l2, c2, s2⟩, hW₁, X', ⟨g', mk, t, L, e1, e2, hq, h1, hL, h2, h3⟩, st⟩ | ⟨q, vm₁, ⟨U', l2, c2, s2⟩, hW₁, X', ⟨g', mk, t, L, E, ce, e1, e2, hq, hce, hcv, hcl, h1, hL, h2, h3⟩, st⟩
  · dsimp only [Pt.U, Pt.locs, Pt.cells, Pt.slots] at X' e1 e2 h1 h2 h3 st
    subst h1; subst h2; subst h3
    exact Or.inl ⟨v, (T.setVm vm₁).calling g' mk (Value.ref b :: As).toArray, t, U', L, hT, X', hL, e1, e2, hq, st⟩
  · dsimp only [Pt.U, Pt.locs, Pt.cells, Pt.slots] at X' e1 e2 h1 h2 h3 st hcl
    subst h1; subst h2; subst h3
    exact Or.inr ⟨q, (T.setVm vm₁).calling g' mk (Value.ref b :: As).toArray, t, U', L, E, ce, hT, X', hL, e1, e2, hq, hce, hcv, vx_cls hW₁ hcl, st⟩
theorem vx_runSX {hh : List (Nat × Nat × Nat × Nat)} (S : CallFix p m c cc nL s args Ts own) (hM : vx_Met l y ws rm Pc Qc XC mc ms free) (cw : vx_CSW R s args own index y bytes maxL ret hh ws rm mc ms n) (hp : PreS s H Pc As)
    (hg : g.method = m) (hn : As.length = n) (hsize : g.locals.size = nL) (hstack : g.stack = As.reverse ++ rest) (hW : 2 * g.monitorRoom + (rest.map fun v => v.category).sum ≤ 8) (hdg : decode cc g.pc = .ok (.invokestatic index, 3)) (hf : cells + mc ≤ R.cells ∧ slots + ms ≤ R.slots) :
    vx_Run p l e R s m args below meth c H locs cells slots mc ms g rest (Qc As.toArray) XC free := by
  obtain ⟨⟨hrc, hrs, hfr, hlo, hws, hcw⟩, hcode, hini, hy, hlen, hl, hstt⟩ := cw
  have hK : vx_Back l R p e below s args y 3 8 (PreOf R mc ms Pc) (PostOf Qc mc ms free) (vx_Post XC mc ms free) := vx_backW (hh := hh) (bytes := bytes) (maxL := maxL) (ret := ret) hM hp.1 hrc hrs hfr hlo hws hcw (fun a' U hW => word_at hW (Or.inl (by first | rfl | simp [Cond.onTables, Cond.keeps, Cond.steady])) hini)
  obtain ⟨hx, hb, hml, ho, -⟩ := S
  intro T hT X
  rcases vx_callSX X hx (hh := hh) (bytes := bytes) (maxL := maxL) (ret := ret) ho hl hstt hini hcode hy hK hg (hsize.trans hml.symm) (argsL := As) (rest := rest) (fun sig h => hn.trans (hlen sig h)) hstack hW (by rw [hb]; exact hdg)
    (fun vm₁ hW₁ => ⟨hf.1, hf.2, hp.2 (T.setVm vm₁) hT hW₁⟩) with ⟨v, vm₁, ⟨U', l2, c2, s2⟩, hW₁, X', ⟨g', mk, t, L, e1, e2, hq, h1, hL, h2, h3⟩, st⟩ | ⟨q, vm₁, ⟨U', l2, c2, s2⟩, hW₁, X', ⟨g', mk, t, L, E, ce, e1, e2, hq, hce, hcv, hcl, h1, hL, h2, h3⟩, st⟩
  · dsimp only [Pt.U, Pt.locs, Pt.cells, Pt.slots] at X' e1 e2 h1 h2 h3 st
    subst h1; subst h2; subst h3
    exact Or.inl ⟨v, (T.setVm vm₁).calling g' mk As.toArray, t, U', L, hT, X', hL, e1, e2, hq, st⟩
  · dsimp only [Pt.U, Pt.locs, Pt.cells, Pt.slots] at X' e1 e2 h1 h2 h3 st hcl
    subst h1; subst h2; subst h3
    exact Or.inr ⟨q, (T.setVm vm₁).calling g' mk As.toArray, t, U', L, E, ce, hT, X', hL, e1, e2, hq, hce, hcv, vx_cls hW₁ hcl, st⟩
end
end VXH
theorem vx_ofWH {l : Launch} {y : MethodName} {ws ws' : List Cond} {rm : Room} {Pc : Array Value → State → Prop} {Qc : Array Value → State → Outcome → State → Prop} {XC : String → State → State → Prop} {mc ms : Nat} {free : Addr → Prop} {cc : ByteArray} {maxL : Nat} {ret : Option FieldType} {hh : List (Nat × Nat × Nat × Nat)}
    (hy : plainName y.cls = true) (hw : ws = Cond.codeWith y cc maxL ret hh :: ws')
    (body : ∀ p e s m args below meth c s₁, BodyLoose p l y (headSpec ws rm) cc maxL ret e s m args below meth c s₁ → c.maxLocals = maxL → Pc args s →
      W p l e (headSpec ws rm).room s m args below meth c s.heap [] 0 0 (vx_MQ below Qc XC args s mc ms free) (entryFrame m args maxL)) : vx_Met l y ws rm Pc Qc XC mc ms free := by
  refine MetFree.of_bodyS (code := cc) (maxLocals := maxL) (ret := ret) hy ?_ ?_
  · intro args s m h hn
    obtain ⟨m9, meth, c, hn9, h1, h2, h3, h4, -, h5, h6, -⟩ := Cond.codeWith_spec (atoms_spec (ws := ws) h _ (by rw [hw]; exact List.mem_cons_self))
    cases hn.symm.trans hn9
    exact ⟨meth, c, h1, h2, h3, h4, h5, h6⟩
  · intro p e s m args below meth c s₁ B hml hP _
    have hh0 : s₁.heap = s.heap := by rw [B.state]; rfl
    obtain ⟨t, a1, o, b1, b2, b3⟩ := body p e s m args below meth c s₁ B hml hP s₁ hh0 (Stand.of_body B)
    exact ⟨t, o, a1, b1, b2, b3⟩
/-! ===== END ===== -/

def RX0 : String := "StringRates$Bundling"
def TX0 : u_T := fun k => match k with
  | 0 => ("StringRates$Bundling", "bundle", "LStringRates$Parcel;", true)
  | 1 => ("StringRates$Bundling", "alone", "[I", true)
  | 2 => ("StringRates$Bundling", "together", "[[I", true)
  | 3 => ("StringRates$Bundling", "leastOfSet", "[I", true)
  | _ => ("StringRates$Bundling", "size", "I", false)
def tyX0 : Nat → FieldType := fun k => match k with
  | 0 => .object "StringRates$Parcel"
  | 1 => .array .int
  | 2 => .array (.array .int)
  | 3 => .array .int
  | _ => .int
abbrev wsX00 : List Cond := u_ws RX0 TX0 5
theorem nmX0 : ∀ a, a < 5 → ∀ b, b < 5 → a ≠ b → (TX0 a).2.1 ≠ (TX0 b).2.1 := by decide +kernel
theorem tyX0_ok : ∀ k, k < 5 → parseFieldDescriptor (TX0 k).2.2.1 = some (tyX0 k) := by decide +kernel
abbrev cX0_init : ByteArray := prog_2_method_1_code
def yX0_init : MethodName := ⟨RX0, "<init>", "()V"⟩
abbrev cX0_postageOfPair : ByteArray := prog_2_method_2_code
def yX0_postageOfPair : MethodName := ⟨RX0, "postageOfPair", "(LStringRates$Office;LStringRates$Parcel;LStringRates$Parcel;)I"⟩
abbrev cX0_weigh : ByteArray := prog_2_method_3_code
def yX0_weigh : MethodName := ⟨RX0, "weigh", "(LStringRates$Office;)V"⟩
abbrev cX0_costUnbundled : ByteArray := prog_2_method_4_code
def yX0_costUnbundled : MethodName := ⟨RX0, "costUnbundled", "()I"⟩
abbrev cX0_leastBySets : ByteArray := prog_2_method_5_code
def yX0_leastBySets : MethodName := ⟨RX0, "leastBySets", "()I"⟩
abbrev cX0_leastWithLast : ByteArray := prog_2_method_6_code
def yX0_leastWithLast : MethodName := ⟨RX0, "leastWithLast", "(II)I"⟩
abbrev cX0_leastByTrying : ByteArray := prog_2_method_7_code
def yX0_leastByTrying : MethodName := ⟨RX0, "leastByTrying", "()I"⟩
abbrev cX0_leastFrom : ByteArray := prog_2_method_8_code
def yX0_leastFrom : MethodName := ⟨RX0, "leastFrom", "(LStringRates$Bundling;II)I"⟩
def RX1 : String := "StringRates$Office"
def TX1 : u_T := fun k => match k with
  | 0 => ("StringRates$Office", "parcels", "[LStringRates$Parcel;", true)
  | 1 => ("StringRates$Office", "prices", "[I", true)
  | 2 => ("StringRates$Office", "factors", "[I", true)
  | 3 => ("StringRates$Office", "settings", "[I", true)
  | 4 => ("StringRates$Office", "size", "I", false)
  | 5 => ("StringRates$Office", "takings", "I", false)
  | 6 => ("StringRates$Office", "sent", "I", false)
  | 7 => ("StringRates$Office", "disputesWon", "I", false)
  | 8 => ("StringRates$Office", "disputesLost", "I", false)
  | _ => ("StringRates$Office", "refused", "I", false)
def tyX1 : Nat → FieldType := fun k => match k with
  | 0 => .array (.object "StringRates$Parcel")
  | 1 => .array .int
  | 2 => .array .int
  | 3 => .array .int
  | 4 => .int
  | 5 => .int
  | 6 => .int
  | 7 => .int
  | 8 => .int
  | _ => .int
abbrev wsX10 : List Cond := u_ws RX1 TX1 10
theorem nmX1 : ∀ a, a < 10 → ∀ b, b < 10 → a ≠ b → (TX1 a).2.1 ≠ (TX1 b).2.1 := by decide +kernel
theorem tyX1_ok : ∀ k, k < 10 → parseFieldDescriptor (TX1 k).2.2.1 = some (tyX1 k) := by decide +kernel
abbrev cX1_init : ByteArray := prog_3_method_1_code
def yX1_init : MethodName := ⟨RX1, "<init>", "()V"⟩
abbrev cX1_copyFrom : ByteArray := prog_3_method_2_code
def yX1_copyFrom : MethodName := ⟨RX1, "copyFrom", "(LStringRates$Office;)V"⟩
abbrev cX1_admit : ByteArray := prog_3_method_3_code
def yX1_admit : MethodName := ⟨RX1, "admit", "(IIIIII)I"⟩
abbrev cX1_remove : ByteArray := prog_3_method_4_code
def yX1_remove : MethodName := ⟨RX1, "remove", "(I)V"⟩
abbrev cX1_sendOff : ByteArray := prog_3_method_5_code
def yX1_sendOff : MethodName := ⟨RX1, "sendOff", "(I)I"⟩
abbrev cX1_decideDispute : ByteArray := prog_3_method_6_code
def yX1_decideDispute : MethodName := ⟨RX1, "decideDispute", "(II)I"⟩
abbrev cX1_dispatch : ByteArray := prog_3_method_7_code
def yX1_dispatch : MethodName := ⟨RX1, "dispatch", "(II)I"⟩
abbrev cX1_stringOf : ByteArray := prog_3_method_8_code
def yX1_stringOf : MethodName := ⟨RX1, "stringOf", "(LStringRates$Parcel;I)I"⟩
abbrev cX1_isOdd : ByteArray := prog_3_method_9_code
def yX1_isOdd : MethodName := ⟨RX1, "isOdd", "(LStringRates$Parcel;)Z"⟩
abbrev cX1_reasonAgainst : ByteArray := prog_3_method_10_code
def yX1_reasonAgainst : MethodName := ⟨RX1, "reasonAgainst", "(LStringRates$Parcel;I)I"⟩
abbrev cX1_isTaken : ByteArray := prog_3_method_11_code
def yX1_isTaken : MethodName := ⟨RX1, "isTaken", "(LStringRates$Parcel;)Z"⟩
abbrev cX1_postageFor : ByteArray := prog_3_method_12_code
def yX1_postageFor : MethodName := ⟨RX1, "postageFor", "(LStringRates$Parcel;I)I"⟩
abbrev cX1_rateUpwards : ByteArray := prog_3_method_13_code
def yX1_rateUpwards : MethodName := ⟨RX1, "rateUpwards", "(I)I"⟩
abbrev cX1_rateDownwards : ByteArray := prog_3_method_14_code
def yX1_rateDownwards : MethodName := ⟨RX1, "rateDownwards", "(I)I"⟩
abbrev cX1_leastWay : ByteArray := prog_3_method_15_code
def yX1_leastWay : MethodName := ⟨RX1, "leastWay", "(LStringRates$Parcel;)I"⟩
abbrev cX1_dearestTaken : ByteArray := prog_3_method_16_code
def yX1_dearestTaken : MethodName := ⟨RX1, "dearestTaken", "()I"⟩
abbrev cX1_numberOf : ByteArray := prog_3_method_17_code
def yX1_numberOf : MethodName := ⟨RX1, "numberOf", "(LStringRates$Parcel;I)I"⟩
abbrev cX1_tally : ByteArray := prog_3_method_18_code
def yX1_tally : MethodName := ⟨RX1, "tally", "(I)I"⟩
abbrev cX1_bandOf : ByteArray := prog_3_method_19_code
def yX1_bandOf : MethodName := ⟨RX1, "bandOf", "(I)I"⟩
abbrev cX1_takenParcels : ByteArray := prog_3_method_20_code
def yX1_takenParcels : MethodName := ⟨RX1, "takenParcels", "()I"⟩
abbrev cX1_oddParcels : ByteArray := prog_3_method_21_code
def yX1_oddParcels : MethodName := ⟨RX1, "oddParcels", "()I"⟩
abbrev cX1_undercutBands : ByteArray := prog_3_method_22_code
def yX1_undercutBands : MethodName := ⟨RX1, "undercutBands", "()I"⟩
def RX2 : String := "StringRates$Parcel"
def TX2 : u_T := fun k => match k with
  | 0 => ("StringRates$Parcel", "a", "I", false)
  | 1 => ("StringRates$Parcel", "b", "I", false)
  | 2 => ("StringRates$Parcel", "c", "I", false)
  | 3 => ("StringRates$Parcel", "weight", "I", false)
  | 4 => ("StringRates$Parcel", "zone", "I", false)
  | 5 => ("StringRates$Parcel", "corners", "I", false)
  | _ => ("StringRates$Parcel", "way", "I", false)
def tyX2 : Nat → FieldType := fun k => match k with
  | 0 => .int
  | 1 => .int
  | 2 => .int
  | 3 => .int
  | 4 => .int
  | 5 => .int
  | _ => .int
abbrev wsX20 : List Cond := u_ws RX2 TX2 7
theorem nmX2 : ∀ a, a < 7 → ∀ b, b < 7 → a ≠ b → (TX2 a).2.1 ≠ (TX2 b).2.1 := by decide +kernel
theorem tyX2_ok : ∀ k, k < 7 → parseFieldDescriptor (TX2 k).2.2.1 = some (tyX2 k) := by decide +kernel
abbrev cX2_init : ByteArray := prog_4_method_1_code
def yX2_init : MethodName := ⟨RX2, "<init>", "()V"⟩
abbrev cX2_fill : ByteArray := prog_4_method_2_code
def yX2_fill : MethodName := ⟨RX2, "fill", "(IIIIII)V"⟩
abbrev cX2_copyFrom : ByteArray := prog_4_method_3_code
def yX2_copyFrom : MethodName := ⟨RX2, "copyFrom", "(LStringRates$Parcel;)V"⟩
abbrev cX2_becomeBundle : ByteArray := prog_4_method_4_code
def yX2_becomeBundle : MethodName := ⟨RX2, "becomeBundle", "(LStringRates$Parcel;LStringRates$Parcel;)V"⟩
abbrev cX2_tie : ByteArray := prog_4_method_5_code
def yX2_tie : MethodName := ⟨RX2, "tie", "(I)I"⟩
abbrev cX2_insure : ByteArray := prog_4_method_6_code
def yX2_insure : MethodName := ⟨RX2, "insure", "(I)I"⟩
abbrev cX2_girth : ByteArray := prog_4_method_7_code
def yX2_girth : MethodName := ⟨RX2, "girth", "()I"⟩
abbrev cX2_stringWithoutKnots : ByteArray := prog_4_method_8_code
def yX2_stringWithoutKnots : MethodName := ⟨RX2, "stringWithoutKnots", "(I)I"⟩
abbrev cX2_laySides : ByteArray := prog_4_method_9_code
def yX2_laySides : MethodName := ⟨RX2, "laySides", "(III)V"⟩
def RX3 : String := "StringRates$ParcelText"
def TX3 : u_T := fun k => match k with
  | 0 => ("StringRates$ParcelText", "codes", "[I", true)
  | 1 => ("StringRates$ParcelText", "length", "I", false)
  | 2 => ("StringRates$ParcelText", "parts", "[I", true)
  | _ => ("StringRates$ParcelText", "part", "I", false)
def tyX3 : Nat → FieldType := fun k => match k with
  | 0 => .array .int
  | 1 => .int
  | 2 => .array .int
  | _ => .int
abbrev wsX30 : List Cond := u_ws RX3 TX3 4
theorem nmX3 : ∀ a, a < 4 → ∀ b, b < 4 → a ≠ b → (TX3 a).2.1 ≠ (TX3 b).2.1 := by decide +kernel
theorem tyX3_ok : ∀ k, k < 4 → parseFieldDescriptor (TX3 k).2.2.1 = some (tyX3 k) := by decide +kernel
abbrev cX3_init : ByteArray := prog_5_method_1_code
def yX3_init : MethodName := ⟨RX3, "<init>", "()V"⟩
abbrev cX3_hasRoom : ByteArray := prog_5_method_2_code
def yX3_hasRoom : MethodName := ⟨RX3, "hasRoom", "()Z"⟩
abbrev cX3_add : ByteArray := prog_5_method_3_code
def yX3_add : MethodName := ⟨RX3, "add", "(I)V"⟩
abbrev cX3_clear : ByteArray := prog_5_method_4_code
def yX3_clear : MethodName := ⟨RX3, "clear", "()V"⟩
abbrev cX3_errorPlace : ByteArray := prog_5_method_5_code
def yX3_errorPlace : MethodName := ⟨RX3, "errorPlace", "()I"⟩
abbrev cX3_tellsParcels : ByteArray := prog_5_method_6_code
def yX3_tellsParcels : MethodName := ⟨RX3, "tellsParcels", "()Z"⟩
abbrev cX3_startReading : ByteArray := prog_5_method_7_code
def yX3_startReading : MethodName := ⟨RX3, "startReading", "()V"⟩
abbrev cX3_isAtParcelEnd : ByteArray := prog_5_method_8_code
def yX3_isAtParcelEnd : MethodName := ⟨RX3, "isAtParcelEnd", "()Z"⟩
abbrev cX3_admitReadTo : ByteArray := prog_5_method_9_code
def yX3_admitReadTo : MethodName := ⟨RX3, "admitReadTo", "(LStringRates$Office;)I"⟩
abbrev cX3_reads : ByteArray := prog_5_method_10_code
def yX3_reads : MethodName := ⟨RX3, "reads", "(I)Z"⟩
abbrev cX3_readsInNumber : ByteArray := prog_5_method_11_code
def yX3_readsInNumber : MethodName := ⟨RX3, "readsInNumber", "(I)Z"⟩
abbrev cX3_endsNumber : ByteArray := prog_5_method_12_code
def yX3_endsNumber : MethodName := ⟨RX3, "endsNumber", "()Z"⟩
abbrev cX3_readsChoice : ByteArray := prog_5_method_13_code
def yX3_readsChoice : MethodName := ⟨RX3, "readsChoice", "(II)Z"⟩
abbrev cX3_wayOf : ByteArray := prog_5_method_14_code
def yX3_wayOf : MethodName := ⟨RX3, "wayOf", "(I)I"⟩
def RX4 : String := "StringRates$SavedStates"
def TX4 : u_T := fun k => match k with
  | 0 => ("StringRates$SavedStates", "states", "[LStringRates$Office;", true)
  | _ => ("StringRates$SavedStates", "size", "I", false)
def tyX4 : Nat → FieldType := fun k => match k with
  | 0 => .array (.object "StringRates$Office")
  | _ => .int
abbrev wsX40 : List Cond := u_ws RX4 TX4 2
theorem nmX4 : ∀ a, a < 2 → ∀ b, b < 2 → a ≠ b → (TX4 a).2.1 ≠ (TX4 b).2.1 := by decide +kernel
theorem tyX4_ok : ∀ k, k < 2 → parseFieldDescriptor (TX4 k).2.2.1 = some (tyX4 k) := by decide +kernel
abbrev cX4_init : ByteArray := prog_6_method_1_code
def yX4_init : MethodName := ⟨RX4, "<init>", "()V"⟩
abbrev cX4_save : ByteArray := prog_6_method_2_code
def yX4_save : MethodName := ⟨RX4, "save", "(LStringRates$Office;)V"⟩
abbrev cX4_restoreLatest : ByteArray := prog_6_method_3_code
def yX4_restoreLatest : MethodName := ⟨RX4, "restoreLatest", "(LStringRates$Office;)V"⟩
abbrev cX4_dropOldest : ByteArray := prog_6_method_4_code
def yX4_dropOldest : MethodName := ⟨RX4, "dropOldest", "()V"⟩
def RX5 : String := "StringRates"
def TX5 : u_T := fun k => match k with
  | 0 => ("StringRates", "office", "LStringRates$Office;", true)
  | 1 => ("StringRates", "snapshots", "[LStringRates$Office;", true)
  | 2 => ("StringRates", "kept", "[Z", true)
  | 3 => ("StringRates", "saved", "LStringRates$SavedStates;", true)
  | 4 => ("StringRates", "text", "LStringRates$ParcelText;", true)
  | _ => ("StringRates", "bundling", "LStringRates$Bundling;", true)
def tyX5 : Nat → FieldType := fun k => match k with
  | 0 => .object "StringRates$Office"
  | 1 => .array (.object "StringRates$Office")
  | 2 => .array .boolean
  | 3 => .object "StringRates$SavedStates"
  | 4 => .object "StringRates$ParcelText"
  | _ => .object "StringRates$Bundling"
abbrev wsX50 : List Cond := u_ws RX5 TX5 6
theorem nmX5 : ∀ a, a < 6 → ∀ b, b < 6 → a ≠ b → (TX5 a).2.1 ≠ (TX5 b).2.1 := by decide +kernel
theorem tyX5_ok : ∀ k, k < 6 → parseFieldDescriptor (TX5 k).2.2.1 = some (tyX5 k) := by decide +kernel
abbrev cX5_init : ByteArray := prog_1_method_1_code
def yX5_init : MethodName := ⟨RX5, "<init>", "()V"⟩
abbrev cX5_bring : ByteArray := prog_1_method_2_code
def yX5_bring : MethodName := ⟨RX5, "bring", "(IIIII)I"⟩
abbrev cX5_change : ByteArray := prog_1_method_3_code
def yX5_change : MethodName := ⟨RX5, "change", "(III)I"⟩
abbrev cX5_send : ByteArray := prog_1_method_4_code
def yX5_send : MethodName := ⟨RX5, "send", "(I)I"⟩
abbrev cX5_dispute : ByteArray := prog_1_method_5_code
def yX5_dispute : MethodName := ⟨RX5, "dispute", "(II)I"⟩
abbrev cX5_takeBack : ByteArray := prog_1_method_6_code
def yX5_takeBack : MethodName := ⟨RX5, "takeBack", "(I)I"⟩
abbrev cX5_price : ByteArray := prog_1_method_7_code
def yX5_price : MethodName := ⟨RX5, "price", "(II)I"⟩
abbrev cX5_zone : ByteArray := prog_1_method_8_code
def yX5_zone : MethodName := ⟨RX5, "zone", "(II)I"⟩
abbrev cX5_set : ByteArray := prog_1_method_9_code
def yX5_set : MethodName := ⟨RX5, "set", "(II)I"⟩
abbrev cX5_append : ByteArray := prog_1_method_10_code
def yX5_append : MethodName := ⟨RX5, "append", "(I)I"⟩
abbrev cX5_clearBuffer : ByteArray := prog_1_method_11_code
def yX5_clearBuffer : MethodName := ⟨RX5, "clearBuffer", "()I"⟩
abbrev cX5_firstError : ByteArray := prog_1_method_12_code
def yX5_firstError : MethodName := ⟨RX5, "firstError", "()I"⟩
abbrev cX5_run : ByteArray := prog_1_method_13_code
def yX5_run : MethodName := ⟨RX5, "run", "()I"⟩
abbrev cX5_keep : ByteArray := prog_1_method_14_code
def yX5_keep : MethodName := ⟨RX5, "keep", "(I)I"⟩
abbrev cX5_goBack : ByteArray := prog_1_method_15_code
def yX5_goBack : MethodName := ⟨RX5, "goBack", "(I)I"⟩
abbrev cX5_undo : ByteArray := prog_1_method_16_code
def yX5_undo : MethodName := ⟨RX5, "undo", "()I"⟩
abbrev cX5_parcelOf : ByteArray := prog_1_method_17_code
def yX5_parcelOf : MethodName := ⟨RX5, "parcelOf", "(II)I"⟩
abbrev cX5_rate : ByteArray := prog_1_method_18_code
def yX5_rate : MethodName := ⟨RX5, "rate", "(II)I"⟩
abbrev cX5_count : ByteArray := prog_1_method_19_code
def yX5_count : MethodName := ⟨RX5, "count", "(I)I"⟩
abbrev cX5_setting : ByteArray := prog_1_method_20_code
def yX5_setting : MethodName := ⟨RX5, "setting", "(I)I"⟩
abbrev cX5_cheapestWay : ByteArray := prog_1_method_21_code
def yX5_cheapestWay : MethodName := ⟨RX5, "cheapestWay", "(I)I"⟩
abbrev cX5_ifBundled : ByteArray := prog_1_method_22_code
def yX5_ifBundled : MethodName := ⟨RX5, "ifBundled", "(II)I"⟩
abbrev cX5_cheapest : ByteArray := prog_1_method_23_code
def yX5_cheapest : MethodName := ⟨RX5, "cheapest", "(I)I"⟩
abbrev cX5_dearest : ByteArray := prog_1_method_24_code
def yX5_dearest : MethodName := ⟨RX5, "dearest", "()I"⟩
abbrev cX5_savedShare : ByteArray := prog_1_method_25_code
def yX5_savedShare : MethodName := ⟨RX5, "savedShare", "()D"⟩
abbrev cX5_digest : ByteArray := prog_1_method_26_code
def yX5_digest : MethodName := ⟨RX5, "digest", "()J"⟩
abbrev cX5_isIn : ByteArray := prog_1_method_27_code
def yX5_isIn : MethodName := ⟨RX5, "isIn", "(III)Z"⟩
abbrev cX5_requireArgument : ByteArray := prog_1_method_28_code
def yX5_requireArgument : MethodName := ⟨RX5, "requireArgument", "(Z)V"⟩
abbrev cX5_requireIndex : ByteArray := prog_1_method_29_code
def yX5_requireIndex : MethodName := ⟨RX5, "requireIndex", "(II)V"⟩
abbrev cX5_requireParcel : ByteArray := prog_1_method_30_code
def yX5_requireParcel : MethodName := ⟨RX5, "requireParcel", "(I)V"⟩
abbrev cX5_admitAllOfText : ByteArray := prog_1_method_31_code
def yX5_admitAllOfText : MethodName := ⟨RX5, "admitAllOfText", "()I"⟩
abbrev cX5_fold : ByteArray := prog_1_method_32_code
def yX5_fold : MethodName := ⟨RX5, "fold", "(JJ)J"⟩
abbrev cX5_foldRow : ByteArray := prog_1_method_33_code
def yX5_foldRow : MethodName := ⟨RX5, "foldRow", "(J[II)J"⟩
abbrev cX5_foldParcel : ByteArray := prog_1_method_34_code
def yX5_foldParcel : MethodName := ⟨RX5, "foldParcel", "(JI)J"⟩
abbrev cX5_bitsOfShare : ByteArray := prog_1_method_35_code
def yX5_bitsOfShare : MethodName := ⟨RX5, "bitsOfShare", "(D)J"⟩
def RX6 : String := "StringRatesModel"
def TX6 : u_T := fun k => match k with
  | 0 => ("StringRatesModel", "s", "[I", true)
  | 1 => ("StringRatesModel", "saved", "I", false)
  | 2 => ("StringRatesModel", "isKept", "[Z", true)
  | 3 => ("StringRatesModel", "buffer", "[C", true)
  | 4 => ("StringRatesModel", "typed", "I", false)
  | 5 => ("StringRatesModel", "thrown", "I", false)
  | 6 => ("StringRatesModel", "costs", "[I", true)
  | 7 => ("StringRatesModel", "mates", "[I", true)
  | _ => ("StringRatesModel", "spot", "I", false)
def tyX6 : Nat → FieldType := fun k => match k with
  | 0 => .array .int
  | 1 => .int
  | 2 => .array .boolean
  | 3 => .array .char
  | 4 => .int
  | 5 => .int
  | 6 => .array .int
  | 7 => .array .int
  | _ => .int
abbrev wsX60 : List Cond := u_ws RX6 TX6 9
theorem nmX6 : ∀ a, a < 9 → ∀ b, b < 9 → a ≠ b → (TX6 a).2.1 ≠ (TX6 b).2.1 := by decide +kernel
theorem tyX6_ok : ∀ k, k < 9 → parseFieldDescriptor (TX6 k).2.2.1 = some (tyX6 k) := by decide +kernel
abbrev cX6_init : ByteArray := prog_8_method_1_code
def yX6_init : MethodName := ⟨RX6, "<init>", "()V"⟩
abbrev cX6_thrown : ByteArray := prog_8_method_2_code
def yX6_thrown : MethodName := ⟨RX6, "thrown", "()I"⟩
abbrev cX6_in : ByteArray := prog_8_method_3_code
def yX6_in : MethodName := ⟨RX6, "in", "(III)Z"⟩
abbrev cX6_goes : ByteArray := prog_8_method_4_code
def yX6_goes : MethodName := ⟨RX6, "goes", "(ZZ)Z"⟩
abbrev cX6_greater : ByteArray := prog_8_method_5_code
def yX6_greater : MethodName := ⟨RX6, "greater", "(II)I"⟩
abbrev cX6_copies : ByteArray := prog_8_method_6_code
def yX6_copies : MethodName := ⟨RX6, "copies", "(II)V"⟩
abbrev cX6_saves : ByteArray := prog_8_method_7_code
def yX6_saves : MethodName := ⟨RX6, "saves", "()V"⟩
abbrev cX6_sets : ByteArray := prog_8_method_8_code
def yX6_sets : MethodName := ⟨RX6, "sets", "(II)I"⟩
abbrev cX6_isParcel : ByteArray := prog_8_method_9_code
def yX6_isParcel : MethodName := ⟨RX6, "isParcel", "(I)Z"⟩
abbrev cX6_at : ByteArray := prog_8_method_10_code
def yX6_at : MethodName := ⟨RX6, "at", "(I)I"⟩
abbrev cX6_girth : ByteArray := prog_8_method_11_code
def yX6_girth : MethodName := ⟨RX6, "girth", "(I)I"⟩
abbrev cX6_string : ByteArray := prog_8_method_12_code
def yX6_string : MethodName := ⟨RX6, "string", "(I)I"⟩
abbrev cX6_bandOf : ByteArray := prog_8_method_13_code
def yX6_bandOf : MethodName := ⟨RX6, "bandOf", "(I)I"⟩
abbrev cX6_rateOf : ByteArray := prog_8_method_14_code
def yX6_rateOf : MethodName := ⟨RX6, "rateOf", "(I)I"⟩
abbrev cX6_isOdd : ByteArray := prog_8_method_15_code
def yX6_isOdd : MethodName := ⟨RX6, "isOdd", "(I)Z"⟩
abbrev cX6_postageWith : ByteArray := prog_8_method_16_code
def yX6_postageWith : MethodName := ⟨RX6, "postageWith", "(II)I"⟩
abbrev cX6_postage : ByteArray := prog_8_method_17_code
def yX6_postage : MethodName := ⟨RX6, "postage", "(I)I"⟩
abbrev cX6_reason : ByteArray := prog_8_method_18_code
def yX6_reason : MethodName := ⟨RX6, "reason", "(I)I"⟩
abbrev cX6_sorts : ByteArray := prog_8_method_19_code
def yX6_sorts : MethodName := ⟨RX6, "sorts", "(IIII)V"⟩
abbrev cX6_laysBundle : ByteArray := prog_8_method_20_code
def yX6_laysBundle : MethodName := ⟨RX6, "laysBundle", "(II)Z"⟩
abbrev cX6_bundled : ByteArray := prog_8_method_21_code
def yX6_bundled : MethodName := ⟨RX6, "bundled", "(II)I"⟩
abbrev cX6_alone : ByteArray := prog_8_method_22_code
def yX6_alone : MethodName := ⟨RX6, "alone", "(I)I"⟩
abbrev cX6_bySets : ByteArray := prog_8_method_23_code
def yX6_bySets : MethodName := ⟨RX6, "bySets", "()I"⟩
abbrev cX6_costOf : ByteArray := prog_8_method_24_code
def yX6_costOf : MethodName := ⟨RX6, "costOf", "(I)I"⟩
abbrev cX6_isFree : ByteArray := prog_8_method_25_code
def yX6_isFree : MethodName := ⟨RX6, "isFree", "(II)Z"⟩
abbrev cX6_canHave : ByteArray := prog_8_method_26_code
def yX6_canHave : MethodName := ⟨RX6, "canHave", "(II)Z"⟩
abbrev cX6_byTrying : ByteArray := prog_8_method_27_code
def yX6_byTrying : MethodName := ⟨RX6, "byTrying", "()I"⟩
abbrev cX6_least : ByteArray := prog_8_method_28_code
def yX6_least : MethodName := ⟨RX6, "least", "(I)I"⟩
abbrev cX6_comes : ByteArray := prog_8_method_29_code
def yX6_comes : MethodName := ⟨RX6, "comes", "(IIIIII)I"⟩
abbrev cX6_isGone : ByteArray := prog_8_method_30_code
def yX6_isGone : MethodName := ⟨RX6, "isGone", "(I)V"⟩
abbrev cX6_isSide : ByteArray := prog_8_method_31_code
def yX6_isSide : MethodName := ⟨RX6, "isSide", "(I)Z"⟩
abbrev cX6_bring : ByteArray := prog_8_method_32_code
def yX6_bring : MethodName := ⟨RX6, "bring", "(IIIII)I"⟩
abbrev cX6_change : ByteArray := prog_8_method_33_code
def yX6_change : MethodName := ⟨RX6, "change", "(III)I"⟩
abbrev cX6_sends : ByteArray := prog_8_method_34_code
def yX6_sends : MethodName := ⟨RX6, "sends", "(II)I"⟩
abbrev cX6_send : ByteArray := prog_8_method_35_code
def yX6_send : MethodName := ⟨RX6, "send", "(I)I"⟩
abbrev cX6_dispute : ByteArray := prog_8_method_36_code
def yX6_dispute : MethodName := ⟨RX6, "dispute", "(II)I"⟩
abbrev cX6_takeBack : ByteArray := prog_8_method_37_code
def yX6_takeBack : MethodName := ⟨RX6, "takeBack", "(I)I"⟩
abbrev cX6_price : ByteArray := prog_8_method_38_code
def yX6_price : MethodName := ⟨RX6, "price", "(II)I"⟩
abbrev cX6_zone : ByteArray := prog_8_method_39_code
def yX6_zone : MethodName := ⟨RX6, "zone", "(II)I"⟩
abbrev cX6_isValue : ByteArray := prog_8_method_40_code
def yX6_isValue : MethodName := ⟨RX6, "isValue", "(II)Z"⟩
abbrev cX6_set : ByteArray := prog_8_method_41_code
def yX6_set : MethodName := ⟨RX6, "set", "(II)I"⟩
abbrev cX6_append : ByteArray := prog_8_method_42_code
def yX6_append : MethodName := ⟨RX6, "append", "(I)I"⟩
abbrev cX6_clearBuffer : ByteArray := prog_8_method_43_code
def yX6_clearBuffer : MethodName := ⟨RX6, "clearBuffer", "()I"⟩
abbrev cX6_isHere : ByteArray := prog_8_method_44_code
def yX6_isHere : MethodName := ⟨RX6, "isHere", "(CC)Z"⟩
abbrev cX6_takes : ByteArray := prog_8_method_45_code
def yX6_takes : MethodName := ⟨RX6, "takes", "(C)Z"⟩
abbrev cX6_number : ByteArray := prog_8_method_46_code
def yX6_number : MethodName := ⟨RX6, "number", "(I)I"⟩
abbrev cX6_readsParcel : ByteArray := prog_8_method_47_code
def yX6_readsParcel : MethodName := ⟨RX6, "readsParcel", "()Z"⟩
abbrev cX6_error : ByteArray := prog_8_method_48_code
def yX6_error : MethodName := ⟨RX6, "error", "()I"⟩
abbrev cX6_firstError : ByteArray := prog_8_method_49_code
def yX6_firstError : MethodName := ⟨RX6, "firstError", "()I"⟩
abbrev cX6_run : ByteArray := prog_8_method_50_code
def yX6_run : MethodName := ⟨RX6, "run", "()I"⟩
abbrev cX6_isSlot : ByteArray := prog_8_method_51_code
def yX6_isSlot : MethodName := ⟨RX6, "isSlot", "(I)Z"⟩
abbrev cX6_keep : ByteArray := prog_8_method_52_code
def yX6_keep : MethodName := ⟨RX6, "keep", "(I)I"⟩
abbrev cX6_goBack : ByteArray := prog_8_method_53_code
def yX6_goBack : MethodName := ⟨RX6, "goBack", "(I)I"⟩
abbrev cX6_undo : ByteArray := prog_8_method_54_code
def yX6_undo : MethodName := ⟨RX6, "undo", "()I"⟩
abbrev cX6_property : ByteArray := prog_8_method_55_code
def yX6_property : MethodName := ⟨RX6, "property", "(II)I"⟩
abbrev cX6_parcelOf : ByteArray := prog_8_method_56_code
def yX6_parcelOf : MethodName := ⟨RX6, "parcelOf", "(II)I"⟩
abbrev cX6_rateDown : ByteArray := prog_8_method_57_code
def yX6_rateDown : MethodName := ⟨RX6, "rateDown", "(I)I"⟩
abbrev cX6_rated : ByteArray := prog_8_method_58_code
def yX6_rated : MethodName := ⟨RX6, "rated", "(II)I"⟩
abbrev cX6_rate : ByteArray := prog_8_method_59_code
def yX6_rate : MethodName := ⟨RX6, "rate", "(II)I"⟩
abbrev cX6_parcels : ByteArray := prog_8_method_60_code
def yX6_parcels : MethodName := ⟨RX6, "parcels", "(Z)I"⟩
abbrev cX6_lowBands : ByteArray := prog_8_method_61_code
def yX6_lowBands : MethodName := ⟨RX6, "lowBands", "()I"⟩
abbrev cX6_counted : ByteArray := prog_8_method_62_code
def yX6_counted : MethodName := ⟨RX6, "counted", "(I)I"⟩
abbrev cX6_count : ByteArray := prog_8_method_63_code
def yX6_count : MethodName := ⟨RX6, "count", "(I)I"⟩
abbrev cX6_setting : ByteArray := prog_8_method_64_code
def yX6_setting : MethodName := ⟨RX6, "setting", "(I)I"⟩
abbrev cX6_wayFor : ByteArray := prog_8_method_65_code
def yX6_wayFor : MethodName := ⟨RX6, "wayFor", "(I)I"⟩
abbrev cX6_cheapestWay : ByteArray := prog_8_method_66_code
def yX6_cheapestWay : MethodName := ⟨RX6, "cheapestWay", "(I)I"⟩
abbrev cX6_ifBundled : ByteArray := prog_8_method_67_code
def yX6_ifBundled : MethodName := ⟨RX6, "ifBundled", "(II)I"⟩
abbrev cX6_cheapest : ByteArray := prog_8_method_68_code
def yX6_cheapest : MethodName := ⟨RX6, "cheapest", "(I)I"⟩
abbrev cX6_dearestParcel : ByteArray := prog_8_method_69_code
def yX6_dearestParcel : MethodName := ⟨RX6, "dearestParcel", "()I"⟩
abbrev cX6_dearest : ByteArray := prog_8_method_70_code
def yX6_dearest : MethodName := ⟨RX6, "dearest", "()I"⟩
abbrev cX6_savedShare : ByteArray := prog_8_method_71_code
def yX6_savedShare : MethodName := ⟨RX6, "savedShare", "()D"⟩
abbrev cX6_ofParcel : ByteArray := prog_8_method_72_code
def yX6_ofParcel : MethodName := ⟨RX6, "ofParcel", "(JI)J"⟩
abbrev cX6_digest : ByteArray := prog_8_method_73_code
def yX6_digest : MethodName := ⟨RX6, "digest", "()J"⟩
def RJxe99ae : String := "java/lang/Double"
def TJxe99ae : u_T := fun k => match k with
  | _ => ("", "", "", false)
def tyJxe99ae : Nat → FieldType := fun k => match k with
  | _ => .int
abbrev wsJxe99ae0 : List Cond := u_ws RJxe99ae TJxe99ae 0
theorem nmJxe99ae : ∀ a, a < 0 → ∀ b, b < 0 → a ≠ b → (TJxe99ae a).2.1 ≠ (TJxe99ae b).2.1 := by decide +kernel
theorem tyJxe99ae_ok : ∀ k, k < 0 → parseFieldDescriptor (TJxe99ae k).2.2.1 = some (tyJxe99ae k) := by decide +kernel
abbrev cJxe99ae_isNaN_b9ae7 : ByteArray := prog_9_method_6_code
def yJxe99ae_isNaN_b9ae7 : MethodName := ⟨RJxe99ae, "isNaN", "(D)Z"⟩
abbrev cJxe99ae_doubleToLongBits_ccdee : ByteArray := prog_9_method_23_code
def yJxe99ae_doubleToLongBits_ccdee : MethodName := ⟨RJxe99ae, "doubleToLongBits", "(D)J"⟩
def RJ9 : String := "java/lang/Math"
def TJ9 : u_T := fun k => match k with
  | _ => ("", "", "", false)
def tyJ9 : Nat → FieldType := fun k => match k with
  | _ => .int
abbrev wsJ90 : List Cond := u_ws RJ9 TJ9 0
theorem nmJ9 : ∀ a, a < 0 → ∀ b, b < 0 → a ≠ b → (TJ9 a).2.1 ≠ (TJ9 b).2.1 := by decide +kernel
theorem tyJ9_ok : ∀ k, k < 0 → parseFieldDescriptor (TJ9 k).2.2.1 = some (tyJ9 k) := by decide +kernel
abbrev cJ9_abs_0f7a4 : ByteArray := prog_14_method_59_code
def yJ9_abs_0f7a4 : MethodName := ⟨RJ9, "abs", "(I)I"⟩
abbrev cJ9_max_7cf53 : ByteArray := prog_14_method_65_code
def yJ9_max_7cf53 : MethodName := ⟨RJ9, "max", "(II)I"⟩
abbrev cJ9_min_7cf53 : ByteArray := prog_14_method_69_code
def yJ9_min_7cf53 : MethodName := ⟨RJ9, "min", "(II)I"⟩
def RJ0 : String := "java/lang/String"
def TJ0 : u_T := fun k => match k with
  | _ => ("", "", "", false)
def tyJ0 : Nat → FieldType := fun k => match k with
  | _ => .int
abbrev wsJ00 : List Cond := u_ws RJ0 TJ0 0
theorem nmJ0 : ∀ a, a < 0 → ∀ b, b < 0 → a ≠ b → (TJ0 a).2.1 ≠ (TJ0 b).2.1 := by decide +kernel
theorem tyJ0_ok : ∀ k, k < 0 → parseFieldDescriptor (TJ0 k).2.2.1 = some (tyJ0 k) := by decide +kernel
def RJ10 : String := "java/lang/System"
def TJ10 : u_T := fun k => match k with
  | _ => ("", "", "", false)
def tyJ10 : Nat → FieldType := fun k => match k with
  | _ => .int
abbrev wsJ100 : List Cond := u_ws RJ10 TJ10 0
theorem nmJ10 : ∀ a, a < 0 → ∀ b, b < 0 → a ≠ b → (TJ10 a).2.1 ≠ (TJ10 b).2.1 := by decide +kernel
theorem tyJ10_ok : ∀ k, k < 0 → parseFieldDescriptor (TJ10 k).2.2.1 = some (tyJ10 k) := by decide +kernel
def RL : String := "StringRatesLaw"
abbrev cL_bring : ByteArray := method_3_code
def yL_bring : MethodName := ⟨RL, "bring", "(LStringRates;IIIII[J)I"⟩
abbrev cL_change : ByteArray := method_4_code
def yL_change : MethodName := ⟨RL, "change", "(LStringRates;III[J)I"⟩
abbrev cL_send : ByteArray := method_5_code
def yL_send : MethodName := ⟨RL, "send", "(LStringRates;I[J)I"⟩
abbrev cL_dispute : ByteArray := method_6_code
def yL_dispute : MethodName := ⟨RL, "dispute", "(LStringRates;II[J)I"⟩
abbrev cL_takeBack : ByteArray := method_7_code
def yL_takeBack : MethodName := ⟨RL, "takeBack", "(LStringRates;I[J)I"⟩
abbrev cL_price : ByteArray := method_8_code
def yL_price : MethodName := ⟨RL, "price", "(LStringRates;II[J)I"⟩
abbrev cL_zone : ByteArray := method_9_code
def yL_zone : MethodName := ⟨RL, "zone", "(LStringRates;II[J)I"⟩
abbrev cL_set : ByteArray := method_10_code
def yL_set : MethodName := ⟨RL, "set", "(LStringRates;II[J)I"⟩
abbrev cL_append : ByteArray := method_11_code
def yL_append : MethodName := ⟨RL, "append", "(LStringRates;I[J)I"⟩
abbrev cL_run : ByteArray := method_12_code
def yL_run : MethodName := ⟨RL, "run", "(LStringRates;[J)I"⟩
abbrev cL_keep : ByteArray := method_13_code
def yL_keep : MethodName := ⟨RL, "keep", "(LStringRates;I[J)I"⟩
abbrev cL_goBack : ByteArray := method_14_code
def yL_goBack : MethodName := ⟨RL, "goBack", "(LStringRates;I[J)I"⟩
abbrev cL_undo : ByteArray := method_15_code
def yL_undo : MethodName := ⟨RL, "undo", "(LStringRates;[J)I"⟩
abbrev cL_parcelOf : ByteArray := method_16_code
def yL_parcelOf : MethodName := ⟨RL, "parcelOf", "(LStringRates;II[J)I"⟩
abbrev cL_rate : ByteArray := method_17_code
def yL_rate : MethodName := ⟨RL, "rate", "(LStringRates;II[J)I"⟩
abbrev cL_count : ByteArray := method_18_code
def yL_count : MethodName := ⟨RL, "count", "(LStringRates;I[J)I"⟩
abbrev cL_setting : ByteArray := method_19_code
def yL_setting : MethodName := ⟨RL, "setting", "(LStringRates;I[J)I"⟩
abbrev cL_cheapestWay : ByteArray := method_20_code
def yL_cheapestWay : MethodName := ⟨RL, "cheapestWay", "(LStringRates;I[J)I"⟩
abbrev cL_ifBundled : ByteArray := method_21_code
def yL_ifBundled : MethodName := ⟨RL, "ifBundled", "(LStringRates;II[J)I"⟩
abbrev cL_cheapest : ByteArray := method_22_code
def yL_cheapest : MethodName := ⟨RL, "cheapest", "(LStringRates;I[J)I"⟩
abbrev cL_law : ByteArray := code
def yL_law : MethodName := ⟨RL, "law", "([I)Z"⟩
end
section
theorem dX0_init_0 : decode cX0_init 0 = .ok (.aload_n 0, 1) := by decide +kernel
theorem dX0_init_1 : decode cX0_init 1 = .ok (.invokespecial 3, 3) := by decide +kernel
theorem dX0_init_4 : decode cX0_init 4 = .ok (.aload_n 0, 1) := by decide +kernel
theorem dX0_init_5 : decode cX0_init 5 = .ok (.new 9, 3) := by decide +kernel
theorem dX0_init_8 : decode cX0_init 8 = .ok (.dup, 1) := by decide +kernel
theorem dX0_init_9 : decode cX0_init 9 = .ok (.invokespecial 11, 3) := by decide +kernel
theorem dX0_init_12 : decode cX0_init 12 = .ok (.putfield 12, 3) := by decide +kernel
theorem dX0_init_15 : decode cX0_init 15 = .ok (.aload_n 0, 1) := by decide +kernel
theorem dX0_init_16 : decode cX0_init 16 = .ok (.bipush 7, 2) := by decide +kernel
theorem dX0_init_18 : decode cX0_init 18 = .ok (.newarray .int, 2) := by decide +kernel
theorem dX0_init_20 : decode cX0_init 20 = .ok (.putfield 18, 3) := by decide +kernel
theorem dX0_init_23 : decode cX0_init 23 = .ok (.aload_n 0, 1) := by decide +kernel
theorem dX0_init_24 : decode cX0_init 24 = .ok (.bipush 7, 2) := by decide +kernel
theorem dX0_init_26 : decode cX0_init 26 = .ok (.bipush 7, 2) := by decide +kernel
theorem dX0_init_28 : decode cX0_init 28 = .ok (.multianewarray 22 2, 4) := by decide +kernel
theorem dX0_init_32 : decode cX0_init 32 = .ok (.putfield 24, 3) := by decide +kernel
theorem dX0_init_35 : decode cX0_init 35 = .ok (.aload_n 0, 1) := by decide +kernel
theorem dX0_init_36 : decode cX0_init 36 = .ok (.sipush 128, 3) := by decide +kernel
theorem dX0_init_39 : decode cX0_init 39 = .ok (.newarray .int, 2) := by decide +kernel
theorem dX0_init_41 : decode cX0_init 41 = .ok (.putfield 27, 3) := by decide +kernel
theorem dX0_init_44 : decode cX0_init 44 = .ok (.return_, 1) := by decide +kernel
theorem dX0_postageOfPair_0 : decode cX0_postageOfPair 0 = .ok (.aload_n 2, 1) := by decide +kernel
theorem dX0_postageOfPair_1 : decode cX0_postageOfPair 1 = .ok (.getfield 30, 3) := by decide +kernel
theorem dX0_postageOfPair_4 : decode cX0_postageOfPair 4 = .ok (.aload_n 3, 1) := by decide +kernel
theorem dX0_postageOfPair_5 : decode cX0_postageOfPair 5 = .ok (.getfield 30, 3) := by decide +kernel
theorem dX0_postageOfPair_8 : decode cX0_postageOfPair 8 = .ok (.if_icmp .ne 19, 3) := by decide +kernel
theorem dX0_postageOfPair_11 : decode cX0_postageOfPair 11 = .ok (.aload_n 1, 1) := by decide +kernel
theorem dX0_postageOfPair_12 : decode cX0_postageOfPair 12 = .ok (.aload_n 2, 1) := by decide +kernel
theorem dX0_postageOfPair_13 : decode cX0_postageOfPair 13 = .ok (.invokevirtual 34, 3) := by decide +kernel
theorem dX0_postageOfPair_16 : decode cX0_postageOfPair 16 = .ok (.ifCond .eq 11, 3) := by decide +kernel
theorem dX0_postageOfPair_19 : decode cX0_postageOfPair 19 = .ok (.aload_n 1, 1) := by decide +kernel
theorem dX0_postageOfPair_20 : decode cX0_postageOfPair 20 = .ok (.aload_n 3, 1) := by decide +kernel
theorem dX0_postageOfPair_21 : decode cX0_postageOfPair 21 = .ok (.invokevirtual 34, 3) := by decide +kernel
theorem dX0_postageOfPair_24 : decode cX0_postageOfPair 24 = .ok (.ifCond .ne 5, 3) := by decide +kernel
theorem dX0_postageOfPair_27 : decode cX0_postageOfPair 27 = .ok (.iconst (-1), 1) := by decide +kernel
theorem dX0_postageOfPair_28 : decode cX0_postageOfPair 28 = .ok (.ireturn, 1) := by decide +kernel
theorem dX0_postageOfPair_29 : decode cX0_postageOfPair 29 = .ok (.aload_n 0, 1) := by decide +kernel
theorem dX0_postageOfPair_30 : decode cX0_postageOfPair 30 = .ok (.getfield 12, 3) := by decide +kernel
theorem dX0_postageOfPair_33 : decode cX0_postageOfPair 33 = .ok (.aload_n 2, 1) := by decide +kernel
theorem dX0_postageOfPair_34 : decode cX0_postageOfPair 34 = .ok (.aload_n 3, 1) := by decide +kernel
theorem dX0_postageOfPair_35 : decode cX0_postageOfPair 35 = .ok (.invokevirtual 40, 3) := by decide +kernel
theorem dX0_postageOfPair_38 : decode cX0_postageOfPair 38 = .ok (.aload_n 0, 1) := by decide +kernel
theorem dX0_postageOfPair_39 : decode cX0_postageOfPair 39 = .ok (.getfield 12, 3) := by decide +kernel
theorem dX0_postageOfPair_42 : decode cX0_postageOfPair 42 = .ok (.getfield 44, 3) := by decide +kernel
theorem dX0_postageOfPair_45 : decode cX0_postageOfPair 45 = .ok (.bipush 99, 2) := by decide +kernel
theorem dX0_postageOfPair_47 : decode cX0_postageOfPair 47 = .ok (.if_icmp .gt 14, 3) := by decide +kernel
theorem dX0_postageOfPair_50 : decode cX0_postageOfPair 50 = .ok (.aload_n 1, 1) := by decide +kernel
theorem dX0_postageOfPair_51 : decode cX0_postageOfPair 51 = .ok (.aload_n 0, 1) := by decide +kernel
theorem dX0_postageOfPair_52 : decode cX0_postageOfPair 52 = .ok (.getfield 12, 3) := by decide +kernel
theorem dX0_postageOfPair_55 : decode cX0_postageOfPair 55 = .ok (.invokevirtual 34, 3) := by decide +kernel
theorem dX0_postageOfPair_58 : decode cX0_postageOfPair 58 = .ok (.ifCond .ne 5, 3) := by decide +kernel
theorem dX0_postageOfPair_61 : decode cX0_postageOfPair 61 = .ok (.iconst (-1), 1) := by decide +kernel
theorem dX0_postageOfPair_62 : decode cX0_postageOfPair 62 = .ok (.ireturn, 1) := by decide +kernel
theorem dX0_postageOfPair_63 : decode cX0_postageOfPair 63 = .ok (.aload_n 1, 1) := by decide +kernel
theorem dX0_postageOfPair_64 : decode cX0_postageOfPair 64 = .ok (.aload_n 0, 1) := by decide +kernel
theorem dX0_postageOfPair_65 : decode cX0_postageOfPair 65 = .ok (.getfield 12, 3) := by decide +kernel
theorem dX0_postageOfPair_68 : decode cX0_postageOfPair 68 = .ok (.aload_n 1, 1) := by decide +kernel
theorem dX0_postageOfPair_69 : decode cX0_postageOfPair 69 = .ok (.aload_n 0, 1) := by decide +kernel
theorem dX0_postageOfPair_70 : decode cX0_postageOfPair 70 = .ok (.getfield 12, 3) := by decide +kernel
theorem dX0_postageOfPair_73 : decode cX0_postageOfPair 73 = .ok (.aload_n 0, 1) := by decide +kernel
theorem dX0_postageOfPair_74 : decode cX0_postageOfPair 74 = .ok (.getfield 12, 3) := by decide +kernel
theorem dX0_postageOfPair_77 : decode cX0_postageOfPair 77 = .ok (.getfield 47, 3) := by decide +kernel
theorem dX0_postageOfPair_80 : decode cX0_postageOfPair 80 = .ok (.invokevirtual 50, 3) := by decide +kernel
theorem dX0_postageOfPair_83 : decode cX0_postageOfPair 83 = .ok (.invokevirtual 54, 3) := by decide +kernel
theorem dX0_postageOfPair_86 : decode cX0_postageOfPair 86 = .ok (.ireturn, 1) := by decide +kernel
theorem dX0_weigh_0 : decode cX0_weigh 0 = .ok (.aload_n 0, 1) := by decide +kernel
theorem dX0_weigh_1 : decode cX0_weigh 1 = .ok (.aload_n 1, 1) := by decide +kernel
theorem dX0_weigh_2 : decode cX0_weigh 2 = .ok (.getfield 57, 3) := by decide +kernel
theorem dX0_weigh_5 : decode cX0_weigh 5 = .ok (.bipush 7, 2) := by decide +kernel
theorem dX0_weigh_7 : decode cX0_weigh 7 = .ok (.invokestatic 60, 3) := by decide +kernel
theorem dX0_weigh_10 : decode cX0_weigh 10 = .ok (.putfield 66, 3) := by decide +kernel
theorem dX0_weigh_13 : decode cX0_weigh 13 = .ok (.iconst 0, 1) := by decide +kernel
theorem dX0_weigh_14 : decode cX0_weigh 14 = .ok (.istore_n 2, 1) := by decide +kernel
theorem dX0_weigh_15 : decode cX0_weigh 15 = .ok (.iload_n 2, 1) := by decide +kernel
theorem dX0_weigh_16 : decode cX0_weigh 16 = .ok (.aload_n 0, 1) := by decide +kernel
theorem dX0_weigh_17 : decode cX0_weigh 17 = .ok (.getfield 66, 3) := by decide +kernel
theorem dX0_weigh_20 : decode cX0_weigh 20 = .ok (.if_icmp .ge 104, 3) := by decide +kernel
theorem dX0_weigh_23 : decode cX0_weigh 23 = .ok (.aload_n 1, 1) := by decide +kernel
theorem dX0_weigh_24 : decode cX0_weigh 24 = .ok (.getfield 67, 3) := by decide +kernel
theorem dX0_weigh_27 : decode cX0_weigh 27 = .ok (.iload_n 2, 1) := by decide +kernel
theorem dX0_weigh_28 : decode cX0_weigh 28 = .ok (.aaload, 1) := by decide +kernel
theorem dX0_weigh_29 : decode cX0_weigh 29 = .ok (.astore_n 3, 1) := by decide +kernel
theorem dX0_weigh_30 : decode cX0_weigh 30 = .ok (.aload_n 1, 1) := by decide +kernel
theorem dX0_weigh_31 : decode cX0_weigh 31 = .ok (.aload_n 3, 1) := by decide +kernel
theorem dX0_weigh_32 : decode cX0_weigh 32 = .ok (.invokevirtual 34, 3) := by decide +kernel
theorem dX0_weigh_35 : decode cX0_weigh 35 = .ok (.istore 4, 2) := by decide +kernel
theorem dX0_weigh_37 : decode cX0_weigh 37 = .ok (.aload_n 0, 1) := by decide +kernel
theorem dX0_weigh_38 : decode cX0_weigh 38 = .ok (.getfield 18, 3) := by decide +kernel
theorem dX0_weigh_41 : decode cX0_weigh 41 = .ok (.iload_n 2, 1) := by decide +kernel
theorem dX0_weigh_42 : decode cX0_weigh 42 = .ok (.iload 4, 2) := by decide +kernel
theorem dX0_weigh_44 : decode cX0_weigh 44 = .ok (.ifCond .eq 20, 3) := by decide +kernel
theorem dX0_weigh_47 : decode cX0_weigh 47 = .ok (.aload_n 1, 1) := by decide +kernel
theorem dX0_weigh_48 : decode cX0_weigh 48 = .ok (.aload_n 3, 1) := by decide +kernel
theorem dX0_weigh_49 : decode cX0_weigh 49 = .ok (.aload_n 1, 1) := by decide +kernel
theorem dX0_weigh_50 : decode cX0_weigh 50 = .ok (.aload_n 3, 1) := by decide +kernel
theorem dX0_weigh_51 : decode cX0_weigh 51 = .ok (.aload_n 3, 1) := by decide +kernel
theorem dX0_weigh_52 : decode cX0_weigh 52 = .ok (.getfield 47, 3) := by decide +kernel
theorem dX0_weigh_55 : decode cX0_weigh 55 = .ok (.invokevirtual 50, 3) := by decide +kernel
theorem dX0_weigh_58 : decode cX0_weigh 58 = .ok (.invokevirtual 54, 3) := by decide +kernel
theorem dX0_weigh_61 : decode cX0_weigh 61 = .ok (.goto 4, 3) := by decide +kernel
theorem dX0_weigh_64 : decode cX0_weigh 64 = .ok (.iconst 0, 1) := by decide +kernel
theorem dX0_weigh_65 : decode cX0_weigh 65 = .ok (.iastore, 1) := by decide +kernel
theorem dX0_weigh_66 : decode cX0_weigh 66 = .ok (.iconst 0, 1) := by decide +kernel
theorem dX0_weigh_67 : decode cX0_weigh 67 = .ok (.istore 5, 2) := by decide +kernel
theorem dX0_weigh_69 : decode cX0_weigh 69 = .ok (.iload 5, 2) := by decide +kernel
theorem dX0_weigh_71 : decode cX0_weigh 71 = .ok (.iload_n 2, 1) := by decide +kernel
theorem dX0_weigh_72 : decode cX0_weigh 72 = .ok (.if_icmp .ge 46, 3) := by decide +kernel
theorem dX0_weigh_75 : decode cX0_weigh 75 = .ok (.aload_n 0, 1) := by decide +kernel
theorem dX0_weigh_76 : decode cX0_weigh 76 = .ok (.aload_n 1, 1) := by decide +kernel
theorem dX0_weigh_77 : decode cX0_weigh 77 = .ok (.aload_n 3, 1) := by decide +kernel
theorem dX0_weigh_78 : decode cX0_weigh 78 = .ok (.aload_n 1, 1) := by decide +kernel
theorem dX0_weigh_79 : decode cX0_weigh 79 = .ok (.getfield 67, 3) := by decide +kernel
theorem dX0_weigh_82 : decode cX0_weigh 82 = .ok (.iload 5, 2) := by decide +kernel
theorem dX0_weigh_84 : decode cX0_weigh 84 = .ok (.aaload, 1) := by decide +kernel
theorem dX0_weigh_85 : decode cX0_weigh 85 = .ok (.invokevirtual 71, 3) := by decide +kernel
theorem dX0_weigh_88 : decode cX0_weigh 88 = .ok (.istore 6, 2) := by decide +kernel
theorem dX0_weigh_90 : decode cX0_weigh 90 = .ok (.aload_n 0, 1) := by decide +kernel
theorem dX0_weigh_91 : decode cX0_weigh 91 = .ok (.getfield 24, 3) := by decide +kernel
theorem dX0_weigh_94 : decode cX0_weigh 94 = .ok (.iload_n 2, 1) := by decide +kernel
theorem dX0_weigh_95 : decode cX0_weigh 95 = .ok (.aaload, 1) := by decide +kernel
theorem dX0_weigh_96 : decode cX0_weigh 96 = .ok (.iload 5, 2) := by decide +kernel
theorem dX0_weigh_98 : decode cX0_weigh 98 = .ok (.iload 6, 2) := by decide +kernel
theorem dX0_weigh_100 : decode cX0_weigh 100 = .ok (.iastore, 1) := by decide +kernel
theorem dX0_weigh_101 : decode cX0_weigh 101 = .ok (.aload_n 0, 1) := by decide +kernel
theorem dX0_weigh_102 : decode cX0_weigh 102 = .ok (.getfield 24, 3) := by decide +kernel
theorem dX0_weigh_105 : decode cX0_weigh 105 = .ok (.iload 5, 2) := by decide +kernel
theorem dX0_weigh_107 : decode cX0_weigh 107 = .ok (.aaload, 1) := by decide +kernel
theorem dX0_weigh_108 : decode cX0_weigh 108 = .ok (.iload_n 2, 1) := by decide +kernel
theorem dX0_weigh_109 : decode cX0_weigh 109 = .ok (.iload 6, 2) := by decide +kernel
theorem dX0_weigh_111 : decode cX0_weigh 111 = .ok (.iastore, 1) := by decide +kernel
theorem dX0_weigh_112 : decode cX0_weigh 112 = .ok (.iinc 5 1, 3) := by decide +kernel
theorem dX0_weigh_115 : decode cX0_weigh 115 = .ok (.goto (-46), 3) := by decide +kernel
theorem dX0_weigh_118 : decode cX0_weigh 118 = .ok (.iinc 2 1, 3) := by decide +kernel
theorem dX0_weigh_121 : decode cX0_weigh 121 = .ok (.goto (-106), 3) := by decide +kernel
theorem dX0_weigh_124 : decode cX0_weigh 124 = .ok (.return_, 1) := by decide +kernel
theorem dX0_costUnbundled_0 : decode cX0_costUnbundled 0 = .ok (.iconst 0, 1) := by decide +kernel
theorem dX0_costUnbundled_1 : decode cX0_costUnbundled 1 = .ok (.istore_n 1, 1) := by decide +kernel
theorem dX0_costUnbundled_2 : decode cX0_costUnbundled 2 = .ok (.iconst 0, 1) := by decide +kernel
theorem dX0_costUnbundled_3 : decode cX0_costUnbundled 3 = .ok (.istore_n 2, 1) := by decide +kernel
theorem dX0_costUnbundled_4 : decode cX0_costUnbundled 4 = .ok (.iload_n 2, 1) := by decide +kernel
theorem dX0_costUnbundled_5 : decode cX0_costUnbundled 5 = .ok (.aload_n 0, 1) := by decide +kernel
theorem dX0_costUnbundled_6 : decode cX0_costUnbundled 6 = .ok (.getfield 66, 3) := by decide +kernel
theorem dX0_costUnbundled_9 : decode cX0_costUnbundled 9 = .ok (.if_icmp .ge 18, 3) := by decide +kernel
theorem dX0_costUnbundled_12 : decode cX0_costUnbundled 12 = .ok (.iload_n 1, 1) := by decide +kernel
theorem dX0_costUnbundled_13 : decode cX0_costUnbundled 13 = .ok (.aload_n 0, 1) := by decide +kernel
theorem dX0_costUnbundled_14 : decode cX0_costUnbundled 14 = .ok (.getfield 18, 3) := by decide +kernel
theorem dX0_costUnbundled_17 : decode cX0_costUnbundled 17 = .ok (.iload_n 2, 1) := by decide +kernel
theorem dX0_costUnbundled_18 : decode cX0_costUnbundled 18 = .ok (.iaload, 1) := by decide +kernel
theorem dX0_costUnbundled_19 : decode cX0_costUnbundled 19 = .ok (.iadd, 1) := by decide +kernel
theorem dX0_costUnbundled_20 : decode cX0_costUnbundled 20 = .ok (.istore_n 1, 1) := by decide +kernel
theorem dX0_costUnbundled_21 : decode cX0_costUnbundled 21 = .ok (.iinc 2 1, 3) := by decide +kernel
theorem dX0_costUnbundled_24 : decode cX0_costUnbundled 24 = .ok (.goto (-20), 3) := by decide +kernel
theorem dX0_costUnbundled_27 : decode cX0_costUnbundled 27 = .ok (.iload_n 1, 1) := by decide +kernel
theorem dX0_costUnbundled_28 : decode cX0_costUnbundled 28 = .ok (.ireturn, 1) := by decide +kernel
theorem dX0_leastBySets_0 : decode cX0_leastBySets 0 = .ok (.aload_n 0, 1) := by decide +kernel
theorem dX0_leastBySets_1 : decode cX0_leastBySets 1 = .ok (.getfield 27, 3) := by decide +kernel
theorem dX0_leastBySets_4 : decode cX0_leastBySets 4 = .ok (.iconst 0, 1) := by decide +kernel
theorem dX0_leastBySets_5 : decode cX0_leastBySets 5 = .ok (.iconst 0, 1) := by decide +kernel
theorem dX0_leastBySets_6 : decode cX0_leastBySets 6 = .ok (.iastore, 1) := by decide +kernel
theorem dX0_leastBySets_7 : decode cX0_leastBySets 7 = .ok (.iconst 0, 1) := by decide +kernel
theorem dX0_leastBySets_8 : decode cX0_leastBySets 8 = .ok (.istore_n 1, 1) := by decide +kernel
theorem dX0_leastBySets_9 : decode cX0_leastBySets 9 = .ok (.iload_n 1, 1) := by decide +kernel
theorem dX0_leastBySets_10 : decode cX0_leastBySets 10 = .ok (.aload_n 0, 1) := by decide +kernel
theorem dX0_leastBySets_11 : decode cX0_leastBySets 11 = .ok (.getfield 66, 3) := by decide +kernel
theorem dX0_leastBySets_14 : decode cX0_leastBySets 14 = .ok (.if_icmp .ge 40, 3) := by decide +kernel
theorem dX0_leastBySets_17 : decode cX0_leastBySets 17 = .ok (.iconst 0, 1) := by decide +kernel
theorem dX0_leastBySets_18 : decode cX0_leastBySets 18 = .ok (.istore_n 2, 1) := by decide +kernel
theorem dX0_leastBySets_19 : decode cX0_leastBySets 19 = .ok (.iload_n 2, 1) := by decide +kernel
theorem dX0_leastBySets_20 : decode cX0_leastBySets 20 = .ok (.iconst 1, 1) := by decide +kernel
theorem dX0_leastBySets_21 : decode cX0_leastBySets 21 = .ok (.iload_n 1, 1) := by decide +kernel
theorem dX0_leastBySets_22 : decode cX0_leastBySets 22 = .ok (.ishl, 1) := by decide +kernel
theorem dX0_leastBySets_23 : decode cX0_leastBySets 23 = .ok (.if_icmp .ge 25, 3) := by decide +kernel
theorem dX0_leastBySets_26 : decode cX0_leastBySets 26 = .ok (.aload_n 0, 1) := by decide +kernel
theorem dX0_leastBySets_27 : decode cX0_leastBySets 27 = .ok (.getfield 27, 3) := by decide +kernel
theorem dX0_leastBySets_30 : decode cX0_leastBySets 30 = .ok (.iload_n 2, 1) := by decide +kernel
theorem dX0_leastBySets_31 : decode cX0_leastBySets 31 = .ok (.iconst 1, 1) := by decide +kernel
theorem dX0_leastBySets_32 : decode cX0_leastBySets 32 = .ok (.iload_n 1, 1) := by decide +kernel
theorem dX0_leastBySets_33 : decode cX0_leastBySets 33 = .ok (.ishl, 1) := by decide +kernel
theorem dX0_leastBySets_34 : decode cX0_leastBySets 34 = .ok (.ior, 1) := by decide +kernel
theorem dX0_leastBySets_35 : decode cX0_leastBySets 35 = .ok (.aload_n 0, 1) := by decide +kernel
theorem dX0_leastBySets_36 : decode cX0_leastBySets 36 = .ok (.iload_n 1, 1) := by decide +kernel
theorem dX0_leastBySets_37 : decode cX0_leastBySets 37 = .ok (.iload_n 2, 1) := by decide +kernel
theorem dX0_leastBySets_38 : decode cX0_leastBySets 38 = .ok (.invokevirtual 75, 3) := by decide +kernel
theorem dX0_leastBySets_41 : decode cX0_leastBySets 41 = .ok (.iastore, 1) := by decide +kernel
theorem dX0_leastBySets_42 : decode cX0_leastBySets 42 = .ok (.iinc 2 1, 3) := by decide +kernel
theorem dX0_leastBySets_45 : decode cX0_leastBySets 45 = .ok (.goto (-26), 3) := by decide +kernel
theorem dX0_leastBySets_48 : decode cX0_leastBySets 48 = .ok (.iinc 1 1, 3) := by decide +kernel
theorem dX0_leastBySets_51 : decode cX0_leastBySets 51 = .ok (.goto (-42), 3) := by decide +kernel
theorem dX0_leastBySets_54 : decode cX0_leastBySets 54 = .ok (.aload_n 0, 1) := by decide +kernel
theorem dX0_leastBySets_55 : decode cX0_leastBySets 55 = .ok (.getfield 27, 3) := by decide +kernel
theorem dX0_leastBySets_58 : decode cX0_leastBySets 58 = .ok (.iconst 1, 1) := by decide +kernel
theorem dX0_leastBySets_59 : decode cX0_leastBySets 59 = .ok (.aload_n 0, 1) := by decide +kernel
theorem dX0_leastBySets_60 : decode cX0_leastBySets 60 = .ok (.getfield 66, 3) := by decide +kernel
theorem dX0_leastBySets_63 : decode cX0_leastBySets 63 = .ok (.ishl, 1) := by decide +kernel
theorem dX0_leastBySets_64 : decode cX0_leastBySets 64 = .ok (.iconst 1, 1) := by decide +kernel
theorem dX0_leastBySets_65 : decode cX0_leastBySets 65 = .ok (.isub, 1) := by decide +kernel
theorem dX0_leastBySets_66 : decode cX0_leastBySets 66 = .ok (.iaload, 1) := by decide +kernel
theorem dX0_leastBySets_67 : decode cX0_leastBySets 67 = .ok (.ireturn, 1) := by decide +kernel
theorem dX0_leastWithLast_0 : decode cX0_leastWithLast 0 = .ok (.aload_n 0, 1) := by decide +kernel
theorem dX0_leastWithLast_1 : decode cX0_leastWithLast 1 = .ok (.getfield 27, 3) := by decide +kernel
theorem dX0_leastWithLast_4 : decode cX0_leastWithLast 4 = .ok (.iload_n 2, 1) := by decide +kernel
theorem dX0_leastWithLast_5 : decode cX0_leastWithLast 5 = .ok (.iaload, 1) := by decide +kernel
theorem dX0_leastWithLast_6 : decode cX0_leastWithLast 6 = .ok (.aload_n 0, 1) := by decide +kernel
theorem dX0_leastWithLast_7 : decode cX0_leastWithLast 7 = .ok (.getfield 18, 3) := by decide +kernel
theorem dX0_leastWithLast_10 : decode cX0_leastWithLast 10 = .ok (.iload_n 1, 1) := by decide +kernel
theorem dX0_leastWithLast_11 : decode cX0_leastWithLast 11 = .ok (.iaload, 1) := by decide +kernel
theorem dX0_leastWithLast_12 : decode cX0_leastWithLast 12 = .ok (.iadd, 1) := by decide +kernel
theorem dX0_leastWithLast_13 : decode cX0_leastWithLast 13 = .ok (.istore_n 3, 1) := by decide +kernel
theorem dX0_leastWithLast_14 : decode cX0_leastWithLast 14 = .ok (.iconst 0, 1) := by decide +kernel
theorem dX0_leastWithLast_15 : decode cX0_leastWithLast 15 = .ok (.istore 4, 2) := by decide +kernel
theorem dX0_leastWithLast_17 : decode cX0_leastWithLast 17 = .ok (.iload 4, 2) := by decide +kernel
theorem dX0_leastWithLast_19 : decode cX0_leastWithLast 19 = .ok (.iload_n 1, 1) := by decide +kernel
theorem dX0_leastWithLast_20 : decode cX0_leastWithLast 20 = .ok (.if_icmp .ge 58, 3) := by decide +kernel
theorem dX0_leastWithLast_23 : decode cX0_leastWithLast 23 = .ok (.iload_n 2, 1) := by decide +kernel
theorem dX0_leastWithLast_24 : decode cX0_leastWithLast 24 = .ok (.iload 4, 2) := by decide +kernel
theorem dX0_leastWithLast_26 : decode cX0_leastWithLast 26 = .ok (.ishr, 1) := by decide +kernel
theorem dX0_leastWithLast_27 : decode cX0_leastWithLast 27 = .ok (.iconst 1, 1) := by decide +kernel
theorem dX0_leastWithLast_28 : decode cX0_leastWithLast 28 = .ok (.iand, 1) := by decide +kernel
theorem dX0_leastWithLast_29 : decode cX0_leastWithLast 29 = .ok (.iconst 1, 1) := by decide +kernel
theorem dX0_leastWithLast_30 : decode cX0_leastWithLast 30 = .ok (.if_icmp .ne 42, 3) := by decide +kernel
theorem dX0_leastWithLast_33 : decode cX0_leastWithLast 33 = .ok (.aload_n 0, 1) := by decide +kernel
theorem dX0_leastWithLast_34 : decode cX0_leastWithLast 34 = .ok (.getfield 24, 3) := by decide +kernel
theorem dX0_leastWithLast_37 : decode cX0_leastWithLast 37 = .ok (.iload_n 1, 1) := by decide +kernel
theorem dX0_leastWithLast_38 : decode cX0_leastWithLast 38 = .ok (.aaload, 1) := by decide +kernel
theorem dX0_leastWithLast_39 : decode cX0_leastWithLast 39 = .ok (.iload 4, 2) := by decide +kernel
theorem dX0_leastWithLast_41 : decode cX0_leastWithLast 41 = .ok (.iaload, 1) := by decide +kernel
theorem dX0_leastWithLast_42 : decode cX0_leastWithLast 42 = .ok (.iconst (-1), 1) := by decide +kernel
theorem dX0_leastWithLast_43 : decode cX0_leastWithLast 43 = .ok (.if_icmp .eq 29, 3) := by decide +kernel
theorem dX0_leastWithLast_46 : decode cX0_leastWithLast 46 = .ok (.iload_n 3, 1) := by decide +kernel
theorem dX0_leastWithLast_47 : decode cX0_leastWithLast 47 = .ok (.aload_n 0, 1) := by decide +kernel
theorem dX0_leastWithLast_48 : decode cX0_leastWithLast 48 = .ok (.getfield 27, 3) := by decide +kernel
theorem dX0_leastWithLast_51 : decode cX0_leastWithLast 51 = .ok (.iload_n 2, 1) := by decide +kernel
theorem dX0_leastWithLast_52 : decode cX0_leastWithLast 52 = .ok (.iconst 1, 1) := by decide +kernel
theorem dX0_leastWithLast_53 : decode cX0_leastWithLast 53 = .ok (.iload 4, 2) := by decide +kernel
theorem dX0_leastWithLast_55 : decode cX0_leastWithLast 55 = .ok (.ishl, 1) := by decide +kernel
theorem dX0_leastWithLast_56 : decode cX0_leastWithLast 56 = .ok (.ixor, 1) := by decide +kernel
theorem dX0_leastWithLast_57 : decode cX0_leastWithLast 57 = .ok (.iaload, 1) := by decide +kernel
theorem dX0_leastWithLast_58 : decode cX0_leastWithLast 58 = .ok (.aload_n 0, 1) := by decide +kernel
theorem dX0_leastWithLast_59 : decode cX0_leastWithLast 59 = .ok (.getfield 24, 3) := by decide +kernel
theorem dX0_leastWithLast_62 : decode cX0_leastWithLast 62 = .ok (.iload_n 1, 1) := by decide +kernel
theorem dX0_leastWithLast_63 : decode cX0_leastWithLast 63 = .ok (.aaload, 1) := by decide +kernel
theorem dX0_leastWithLast_64 : decode cX0_leastWithLast 64 = .ok (.iload 4, 2) := by decide +kernel
theorem dX0_leastWithLast_66 : decode cX0_leastWithLast 66 = .ok (.iaload, 1) := by decide +kernel
theorem dX0_leastWithLast_67 : decode cX0_leastWithLast 67 = .ok (.iadd, 1) := by decide +kernel
theorem dX0_leastWithLast_68 : decode cX0_leastWithLast 68 = .ok (.invokestatic 60, 3) := by decide +kernel
theorem dX0_leastWithLast_71 : decode cX0_leastWithLast 71 = .ok (.istore_n 3, 1) := by decide +kernel
theorem dX0_leastWithLast_72 : decode cX0_leastWithLast 72 = .ok (.iinc 4 1, 3) := by decide +kernel
theorem dX0_leastWithLast_75 : decode cX0_leastWithLast 75 = .ok (.goto (-58), 3) := by decide +kernel
theorem dX0_leastWithLast_78 : decode cX0_leastWithLast 78 = .ok (.iload_n 3, 1) := by decide +kernel
theorem dX0_leastWithLast_79 : decode cX0_leastWithLast 79 = .ok (.ireturn, 1) := by decide +kernel
theorem dX0_leastByTrying_0 : decode cX0_leastByTrying 0 = .ok (.aload_n 0, 1) := by decide +kernel
theorem dX0_leastByTrying_1 : decode cX0_leastByTrying 1 = .ok (.iconst 0, 1) := by decide +kernel
theorem dX0_leastByTrying_2 : decode cX0_leastByTrying 2 = .ok (.iconst 0, 1) := by decide +kernel
theorem dX0_leastByTrying_3 : decode cX0_leastByTrying 3 = .ok (.invokestatic 78, 3) := by decide +kernel
theorem dX0_leastByTrying_6 : decode cX0_leastByTrying 6 = .ok (.ireturn, 1) := by decide +kernel
theorem dX0_leastFrom_0 : decode cX0_leastFrom 0 = .ok (.iload_n 1, 1) := by decide +kernel
theorem dX0_leastFrom_1 : decode cX0_leastFrom 1 = .ok (.aload_n 0, 1) := by decide +kernel
theorem dX0_leastFrom_2 : decode cX0_leastFrom 2 = .ok (.getfield 66, 3) := by decide +kernel
theorem dX0_leastFrom_5 : decode cX0_leastFrom 5 = .ok (.if_icmp .lt 5, 3) := by decide +kernel
theorem dX0_leastFrom_8 : decode cX0_leastFrom 8 = .ok (.iconst 0, 1) := by decide +kernel
theorem dX0_leastFrom_9 : decode cX0_leastFrom 9 = .ok (.ireturn, 1) := by decide +kernel
theorem dX0_leastFrom_10 : decode cX0_leastFrom 10 = .ok (.iload_n 2, 1) := by decide +kernel
theorem dX0_leastFrom_11 : decode cX0_leastFrom 11 = .ok (.iload_n 1, 1) := by decide +kernel
theorem dX0_leastFrom_12 : decode cX0_leastFrom 12 = .ok (.ishr, 1) := by decide +kernel
theorem dX0_leastFrom_13 : decode cX0_leastFrom 13 = .ok (.iconst 1, 1) := by decide +kernel
theorem dX0_leastFrom_14 : decode cX0_leastFrom 14 = .ok (.iand, 1) := by decide +kernel
theorem dX0_leastFrom_15 : decode cX0_leastFrom 15 = .ok (.iconst 1, 1) := by decide +kernel
theorem dX0_leastFrom_16 : decode cX0_leastFrom 16 = .ok (.if_icmp .ne 12, 3) := by decide +kernel
theorem dX0_leastFrom_19 : decode cX0_leastFrom 19 = .ok (.aload_n 0, 1) := by decide +kernel
theorem dX0_leastFrom_20 : decode cX0_leastFrom 20 = .ok (.iload_n 1, 1) := by decide +kernel
theorem dX0_leastFrom_21 : decode cX0_leastFrom 21 = .ok (.iconst 1, 1) := by decide +kernel
theorem dX0_leastFrom_22 : decode cX0_leastFrom 22 = .ok (.iadd, 1) := by decide +kernel
theorem dX0_leastFrom_23 : decode cX0_leastFrom 23 = .ok (.iload_n 2, 1) := by decide +kernel
theorem dX0_leastFrom_24 : decode cX0_leastFrom 24 = .ok (.invokestatic 78, 3) := by decide +kernel
theorem dX0_leastFrom_27 : decode cX0_leastFrom 27 = .ok (.ireturn, 1) := by decide +kernel
theorem dX0_leastFrom_28 : decode cX0_leastFrom 28 = .ok (.aload_n 0, 1) := by decide +kernel
theorem dX0_leastFrom_29 : decode cX0_leastFrom 29 = .ok (.getfield 18, 3) := by decide +kernel
theorem dX0_leastFrom_32 : decode cX0_leastFrom 32 = .ok (.iload_n 1, 1) := by decide +kernel
theorem dX0_leastFrom_33 : decode cX0_leastFrom 33 = .ok (.iaload, 1) := by decide +kernel
theorem dX0_leastFrom_34 : decode cX0_leastFrom 34 = .ok (.aload_n 0, 1) := by decide +kernel
theorem dX0_leastFrom_35 : decode cX0_leastFrom 35 = .ok (.iload_n 1, 1) := by decide +kernel
theorem dX0_leastFrom_36 : decode cX0_leastFrom 36 = .ok (.iconst 1, 1) := by decide +kernel
theorem dX0_leastFrom_37 : decode cX0_leastFrom 37 = .ok (.iadd, 1) := by decide +kernel
theorem dX0_leastFrom_38 : decode cX0_leastFrom 38 = .ok (.iload_n 2, 1) := by decide +kernel
theorem dX0_leastFrom_39 : decode cX0_leastFrom 39 = .ok (.invokestatic 78, 3) := by decide +kernel
theorem dX0_leastFrom_42 : decode cX0_leastFrom 42 = .ok (.iadd, 1) := by decide +kernel
theorem dX0_leastFrom_43 : decode cX0_leastFrom 43 = .ok (.istore_n 3, 1) := by decide +kernel
theorem dX0_leastFrom_44 : decode cX0_leastFrom 44 = .ok (.iload_n 1, 1) := by decide +kernel
theorem dX0_leastFrom_45 : decode cX0_leastFrom 45 = .ok (.iconst 1, 1) := by decide +kernel
theorem dX0_leastFrom_46 : decode cX0_leastFrom 46 = .ok (.iadd, 1) := by decide +kernel
theorem dX0_leastFrom_47 : decode cX0_leastFrom 47 = .ok (.istore 4, 2) := by decide +kernel
theorem dX0_leastFrom_49 : decode cX0_leastFrom 49 = .ok (.iload 4, 2) := by decide +kernel
theorem dX0_leastFrom_51 : decode cX0_leastFrom 51 = .ok (.aload_n 0, 1) := by decide +kernel
theorem dX0_leastFrom_52 : decode cX0_leastFrom 52 = .ok (.getfield 66, 3) := by decide +kernel
theorem dX0_leastFrom_55 : decode cX0_leastFrom 55 = .ok (.if_icmp .ge 56, 3) := by decide +kernel
theorem dX0_leastFrom_58 : decode cX0_leastFrom 58 = .ok (.aload_n 0, 1) := by decide +kernel
theorem dX0_leastFrom_59 : decode cX0_leastFrom 59 = .ok (.getfield 24, 3) := by decide +kernel
theorem dX0_leastFrom_62 : decode cX0_leastFrom 62 = .ok (.iload_n 1, 1) := by decide +kernel
theorem dX0_leastFrom_63 : decode cX0_leastFrom 63 = .ok (.aaload, 1) := by decide +kernel
theorem dX0_leastFrom_64 : decode cX0_leastFrom 64 = .ok (.iload 4, 2) := by decide +kernel
theorem dX0_leastFrom_66 : decode cX0_leastFrom 66 = .ok (.iaload, 1) := by decide +kernel
theorem dX0_leastFrom_67 : decode cX0_leastFrom 67 = .ok (.istore 5, 2) := by decide +kernel
theorem dX0_leastFrom_69 : decode cX0_leastFrom 69 = .ok (.iload_n 2, 1) := by decide +kernel
theorem dX0_leastFrom_70 : decode cX0_leastFrom 70 = .ok (.iload 4, 2) := by decide +kernel
theorem dX0_leastFrom_72 : decode cX0_leastFrom 72 = .ok (.ishr, 1) := by decide +kernel
theorem dX0_leastFrom_73 : decode cX0_leastFrom 73 = .ok (.iconst 1, 1) := by decide +kernel
theorem dX0_leastFrom_74 : decode cX0_leastFrom 74 = .ok (.iand, 1) := by decide +kernel
theorem dX0_leastFrom_75 : decode cX0_leastFrom 75 = .ok (.ifCond .ne 30, 3) := by decide +kernel
theorem dX0_leastFrom_78 : decode cX0_leastFrom 78 = .ok (.iload 5, 2) := by decide +kernel
theorem dX0_leastFrom_80 : decode cX0_leastFrom 80 = .ok (.iconst (-1), 1) := by decide +kernel
theorem dX0_leastFrom_81 : decode cX0_leastFrom 81 = .ok (.if_icmp .eq 24, 3) := by decide +kernel
theorem dX0_leastFrom_84 : decode cX0_leastFrom 84 = .ok (.iload_n 3, 1) := by decide +kernel
theorem dX0_leastFrom_85 : decode cX0_leastFrom 85 = .ok (.iload 5, 2) := by decide +kernel
theorem dX0_leastFrom_87 : decode cX0_leastFrom 87 = .ok (.aload_n 0, 1) := by decide +kernel
theorem dX0_leastFrom_88 : decode cX0_leastFrom 88 = .ok (.iload_n 1, 1) := by decide +kernel
theorem dX0_leastFrom_89 : decode cX0_leastFrom 89 = .ok (.iconst 1, 1) := by decide +kernel
theorem dX0_leastFrom_90 : decode cX0_leastFrom 90 = .ok (.iadd, 1) := by decide +kernel
theorem dX0_leastFrom_91 : decode cX0_leastFrom 91 = .ok (.iload_n 2, 1) := by decide +kernel
theorem dX0_leastFrom_92 : decode cX0_leastFrom 92 = .ok (.iconst 1, 1) := by decide +kernel
theorem dX0_leastFrom_93 : decode cX0_leastFrom 93 = .ok (.iload 4, 2) := by decide +kernel
theorem dX0_leastFrom_95 : decode cX0_leastFrom 95 = .ok (.ishl, 1) := by decide +kernel
theorem dX0_leastFrom_96 : decode cX0_leastFrom 96 = .ok (.ior, 1) := by decide +kernel
theorem dX0_leastFrom_97 : decode cX0_leastFrom 97 = .ok (.invokestatic 78, 3) := by decide +kernel
theorem dX0_leastFrom_100 : decode cX0_leastFrom 100 = .ok (.iadd, 1) := by decide +kernel
theorem dX0_leastFrom_101 : decode cX0_leastFrom 101 = .ok (.invokestatic 60, 3) := by decide +kernel
theorem dX0_leastFrom_104 : decode cX0_leastFrom 104 = .ok (.istore_n 3, 1) := by decide +kernel
theorem dX0_leastFrom_105 : decode cX0_leastFrom 105 = .ok (.iinc 4 1, 3) := by decide +kernel
theorem dX0_leastFrom_108 : decode cX0_leastFrom 108 = .ok (.goto (-59), 3) := by decide +kernel
theorem dX0_leastFrom_111 : decode cX0_leastFrom 111 = .ok (.iload_n 3, 1) := by decide +kernel
theorem dX0_leastFrom_112 : decode cX0_leastFrom 112 = .ok (.ireturn, 1) := by decide +kernel
theorem dX1_init_0 : decode cX1_init 0 = .ok (.aload_n 0, 1) := by decide +kernel
theorem dX1_init_1 : decode cX1_init 1 = .ok (.invokespecial 3, 3) := by decide +kernel
theorem dX1_init_4 : decode cX1_init 4 = .ok (.aload_n 0, 1) := by decide +kernel
theorem dX1_init_5 : decode cX1_init 5 = .ok (.bipush 7, 2) := by decide +kernel
theorem dX1_init_7 : decode cX1_init 7 = .ok (.anewarray 9, 3) := by decide +kernel
theorem dX1_init_10 : decode cX1_init 10 = .ok (.putfield 11, 3) := by decide +kernel
theorem dX1_init_13 : decode cX1_init 13 = .ok (.aload_n 0, 1) := by decide +kernel
theorem dX1_init_14 : decode cX1_init 14 = .ok (.bipush 12, 2) := by decide +kernel
theorem dX1_init_16 : decode cX1_init 16 = .ok (.newarray .int, 2) := by decide +kernel
theorem dX1_init_18 : decode cX1_init 18 = .ok (.putfield 17, 3) := by decide +kernel
theorem dX1_init_21 : decode cX1_init 21 = .ok (.aload_n 0, 1) := by decide +kernel
theorem dX1_init_22 : decode cX1_init 22 = .ok (.iconst 4, 1) := by decide +kernel
theorem dX1_init_23 : decode cX1_init 23 = .ok (.newarray .int, 2) := by decide +kernel
theorem dX1_init_25 : decode cX1_init 25 = .ok (.putfield 21, 3) := by decide +kernel
theorem dX1_init_28 : decode cX1_init 28 = .ok (.aload_n 0, 1) := by decide +kernel
theorem dX1_init_29 : decode cX1_init 29 = .ok (.iconst 4, 1) := by decide +kernel
theorem dX1_init_30 : decode cX1_init 30 = .ok (.newarray .int, 2) := by decide +kernel
theorem dX1_init_32 : decode cX1_init 32 = .ok (.putfield 24, 3) := by decide +kernel
theorem dX1_init_35 : decode cX1_init 35 = .ok (.iconst 0, 1) := by decide +kernel
theorem dX1_init_36 : decode cX1_init 36 = .ok (.istore_n 1, 1) := by decide +kernel
theorem dX1_init_37 : decode cX1_init 37 = .ok (.iload_n 1, 1) := by decide +kernel
theorem dX1_init_38 : decode cX1_init 38 = .ok (.aload_n 0, 1) := by decide +kernel
theorem dX1_init_39 : decode cX1_init 39 = .ok (.getfield 11, 3) := by decide +kernel
theorem dX1_init_42 : decode cX1_init 42 = .ok (.arraylength, 1) := by decide +kernel
theorem dX1_init_43 : decode cX1_init 43 = .ok (.if_icmp .ge 22, 3) := by decide +kernel
theorem dX1_init_46 : decode cX1_init 46 = .ok (.aload_n 0, 1) := by decide +kernel
theorem dX1_init_47 : decode cX1_init 47 = .ok (.getfield 11, 3) := by decide +kernel
theorem dX1_init_50 : decode cX1_init 50 = .ok (.iload_n 1, 1) := by decide +kernel
theorem dX1_init_51 : decode cX1_init 51 = .ok (.new 9, 3) := by decide +kernel
theorem dX1_init_54 : decode cX1_init 54 = .ok (.dup, 1) := by decide +kernel
theorem dX1_init_55 : decode cX1_init 55 = .ok (.invokespecial 27, 3) := by decide +kernel
theorem dX1_init_58 : decode cX1_init 58 = .ok (.aastore, 1) := by decide +kernel
theorem dX1_init_59 : decode cX1_init 59 = .ok (.iinc 1 1, 3) := by decide +kernel
theorem dX1_init_62 : decode cX1_init 62 = .ok (.goto (-25), 3) := by decide +kernel
theorem dX1_init_65 : decode cX1_init 65 = .ok (.iconst 0, 1) := by decide +kernel
theorem dX1_init_66 : decode cX1_init 66 = .ok (.istore_n 1, 1) := by decide +kernel
theorem dX1_init_67 : decode cX1_init 67 = .ok (.iload_n 1, 1) := by decide +kernel
theorem dX1_init_68 : decode cX1_init 68 = .ok (.aload_n 0, 1) := by decide +kernel
theorem dX1_init_69 : decode cX1_init 69 = .ok (.getfield 17, 3) := by decide +kernel
theorem dX1_init_72 : decode cX1_init 72 = .ok (.arraylength, 1) := by decide +kernel
theorem dX1_init_73 : decode cX1_init 73 = .ok (.if_icmp .ge 20, 3) := by decide +kernel
theorem dX1_init_76 : decode cX1_init 76 = .ok (.aload_n 0, 1) := by decide +kernel
theorem dX1_init_77 : decode cX1_init 77 = .ok (.getfield 17, 3) := by decide +kernel
theorem dX1_init_80 : decode cX1_init 80 = .ok (.iload_n 1, 1) := by decide +kernel
theorem dX1_init_81 : decode cX1_init 81 = .ok (.iconst 5, 1) := by decide +kernel
theorem dX1_init_82 : decode cX1_init 82 = .ok (.iload_n 1, 1) := by decide +kernel
theorem dX1_init_83 : decode cX1_init 83 = .ok (.imul, 1) := by decide +kernel
theorem dX1_init_84 : decode cX1_init 84 = .ok (.iconst 5, 1) := by decide +kernel
theorem dX1_init_85 : decode cX1_init 85 = .ok (.iadd, 1) := by decide +kernel
theorem dX1_init_86 : decode cX1_init 86 = .ok (.iastore, 1) := by decide +kernel
theorem dX1_init_87 : decode cX1_init 87 = .ok (.iinc 1 1, 3) := by decide +kernel
theorem dX1_init_90 : decode cX1_init 90 = .ok (.goto (-23), 3) := by decide +kernel
theorem dX1_init_93 : decode cX1_init 93 = .ok (.iconst 0, 1) := by decide +kernel
theorem dX1_init_94 : decode cX1_init 94 = .ok (.istore_n 1, 1) := by decide +kernel
theorem dX1_init_95 : decode cX1_init 95 = .ok (.iload_n 1, 1) := by decide +kernel
theorem dX1_init_96 : decode cX1_init 96 = .ok (.aload_n 0, 1) := by decide +kernel
theorem dX1_init_97 : decode cX1_init 97 = .ok (.getfield 21, 3) := by decide +kernel
theorem dX1_init_100 : decode cX1_init 100 = .ok (.arraylength, 1) := by decide +kernel
theorem dX1_init_101 : decode cX1_init 101 = .ok (.if_icmp .ge 18, 3) := by decide +kernel
theorem dX1_init_104 : decode cX1_init 104 = .ok (.aload_n 0, 1) := by decide +kernel
theorem dX1_init_105 : decode cX1_init 105 = .ok (.getfield 21, 3) := by decide +kernel
theorem dX1_init_108 : decode cX1_init 108 = .ok (.iload_n 1, 1) := by decide +kernel
theorem dX1_init_109 : decode cX1_init 109 = .ok (.iload_n 1, 1) := by decide +kernel
theorem dX1_init_110 : decode cX1_init 110 = .ok (.iconst 1, 1) := by decide +kernel
theorem dX1_init_111 : decode cX1_init 111 = .ok (.iadd, 1) := by decide +kernel
theorem dX1_init_112 : decode cX1_init 112 = .ok (.iastore, 1) := by decide +kernel
theorem dX1_init_113 : decode cX1_init 113 = .ok (.iinc 1 1, 3) := by decide +kernel
theorem dX1_init_116 : decode cX1_init 116 = .ok (.goto (-21), 3) := by decide +kernel
theorem dX1_init_119 : decode cX1_init 119 = .ok (.iconst 0, 1) := by decide +kernel
theorem dX1_init_120 : decode cX1_init 120 = .ok (.istore_n 1, 1) := by decide +kernel
theorem dX1_init_121 : decode cX1_init 121 = .ok (.iload_n 1, 1) := by decide +kernel
theorem dX1_init_122 : decode cX1_init 122 = .ok (.aload_n 0, 1) := by decide +kernel
theorem dX1_init_123 : decode cX1_init 123 = .ok (.getfield 24, 3) := by decide +kernel
theorem dX1_init_126 : decode cX1_init 126 = .ok (.arraylength, 1) := by decide +kernel
theorem dX1_init_127 : decode cX1_init 127 = .ok (.if_icmp .ge 28, 3) := by decide +kernel
theorem dX1_init_130 : decode cX1_init 130 = .ok (.iload_n 1, 1) := by decide +kernel
theorem dX1_init_131 : decode cX1_init 131 = .ok (.getstatic 28, 3) := by decide +kernel
theorem dX1_init_134 : decode cX1_init 134 = .ok (.arraylength, 1) := by decide +kernel
theorem dX1_init_135 : decode cX1_init 135 = .ok (.if_icmp .ge 20, 3) := by decide +kernel
theorem dX1_init_138 : decode cX1_init 138 = .ok (.aload_n 0, 1) := by decide +kernel
theorem dX1_init_139 : decode cX1_init 139 = .ok (.getfield 24, 3) := by decide +kernel
theorem dX1_init_142 : decode cX1_init 142 = .ok (.iload_n 1, 1) := by decide +kernel
theorem dX1_init_143 : decode cX1_init 143 = .ok (.getstatic 28, 3) := by decide +kernel
theorem dX1_init_146 : decode cX1_init 146 = .ok (.iload_n 1, 1) := by decide +kernel
theorem dX1_init_147 : decode cX1_init 147 = .ok (.iaload, 1) := by decide +kernel
theorem dX1_init_148 : decode cX1_init 148 = .ok (.iastore, 1) := by decide +kernel
theorem dX1_init_149 : decode cX1_init 149 = .ok (.iinc 1 1, 3) := by decide +kernel
theorem dX1_init_152 : decode cX1_init 152 = .ok (.goto (-31), 3) := by decide +kernel
theorem dX1_init_155 : decode cX1_init 155 = .ok (.return_, 1) := by decide +kernel
theorem dX1_copyFrom_0 : decode cX1_copyFrom 0 = .ok (.iconst 0, 1) := by decide +kernel
theorem dX1_copyFrom_1 : decode cX1_copyFrom 1 = .ok (.istore_n 2, 1) := by decide +kernel
theorem dX1_copyFrom_2 : decode cX1_copyFrom 2 = .ok (.iload_n 2, 1) := by decide +kernel
theorem dX1_copyFrom_3 : decode cX1_copyFrom 3 = .ok (.aload_n 1, 1) := by decide +kernel
theorem dX1_copyFrom_4 : decode cX1_copyFrom 4 = .ok (.getfield 31, 3) := by decide +kernel
theorem dX1_copyFrom_7 : decode cX1_copyFrom 7 = .ok (.if_icmp .ge 33, 3) := by decide +kernel
theorem dX1_copyFrom_10 : decode cX1_copyFrom 10 = .ok (.iload_n 2, 1) := by decide +kernel
theorem dX1_copyFrom_11 : decode cX1_copyFrom 11 = .ok (.aload_n 0, 1) := by decide +kernel
theorem dX1_copyFrom_12 : decode cX1_copyFrom 12 = .ok (.getfield 11, 3) := by decide +kernel
theorem dX1_copyFrom_15 : decode cX1_copyFrom 15 = .ok (.arraylength, 1) := by decide +kernel
theorem dX1_copyFrom_16 : decode cX1_copyFrom 16 = .ok (.if_icmp .ge 24, 3) := by decide +kernel
theorem dX1_copyFrom_19 : decode cX1_copyFrom 19 = .ok (.aload_n 0, 1) := by decide +kernel
theorem dX1_copyFrom_20 : decode cX1_copyFrom 20 = .ok (.getfield 11, 3) := by decide +kernel
theorem dX1_copyFrom_23 : decode cX1_copyFrom 23 = .ok (.iload_n 2, 1) := by decide +kernel
theorem dX1_copyFrom_24 : decode cX1_copyFrom 24 = .ok (.aaload, 1) := by decide +kernel
theorem dX1_copyFrom_25 : decode cX1_copyFrom 25 = .ok (.aload_n 1, 1) := by decide +kernel
theorem dX1_copyFrom_26 : decode cX1_copyFrom 26 = .ok (.getfield 11, 3) := by decide +kernel
theorem dX1_copyFrom_29 : decode cX1_copyFrom 29 = .ok (.iload_n 2, 1) := by decide +kernel
theorem dX1_copyFrom_30 : decode cX1_copyFrom 30 = .ok (.aaload, 1) := by decide +kernel
theorem dX1_copyFrom_31 : decode cX1_copyFrom 31 = .ok (.invokevirtual 35, 3) := by decide +kernel
theorem dX1_copyFrom_34 : decode cX1_copyFrom 34 = .ok (.iinc 2 1, 3) := by decide +kernel
theorem dX1_copyFrom_37 : decode cX1_copyFrom 37 = .ok (.goto (-35), 3) := by decide +kernel
theorem dX1_copyFrom_40 : decode cX1_copyFrom 40 = .ok (.aload_n 1, 1) := by decide +kernel
theorem dX1_copyFrom_41 : decode cX1_copyFrom 41 = .ok (.getfield 17, 3) := by decide +kernel
theorem dX1_copyFrom_44 : decode cX1_copyFrom 44 = .ok (.iconst 0, 1) := by decide +kernel
theorem dX1_copyFrom_45 : decode cX1_copyFrom 45 = .ok (.aload_n 0, 1) := by decide +kernel
theorem dX1_copyFrom_46 : decode cX1_copyFrom 46 = .ok (.getfield 17, 3) := by decide +kernel
theorem dX1_copyFrom_49 : decode cX1_copyFrom 49 = .ok (.iconst 0, 1) := by decide +kernel
theorem dX1_copyFrom_50 : decode cX1_copyFrom 50 = .ok (.bipush 12, 2) := by decide +kernel
theorem dX1_copyFrom_52 : decode cX1_copyFrom 52 = .ok (.invokestatic 39, 3) := by decide +kernel
theorem dX1_copyFrom_55 : decode cX1_copyFrom 55 = .ok (.aload_n 1, 1) := by decide +kernel
theorem dX1_copyFrom_56 : decode cX1_copyFrom 56 = .ok (.getfield 21, 3) := by decide +kernel
theorem dX1_copyFrom_59 : decode cX1_copyFrom 59 = .ok (.iconst 0, 1) := by decide +kernel
theorem dX1_copyFrom_60 : decode cX1_copyFrom 60 = .ok (.aload_n 0, 1) := by decide +kernel
theorem dX1_copyFrom_61 : decode cX1_copyFrom 61 = .ok (.getfield 21, 3) := by decide +kernel
theorem dX1_copyFrom_64 : decode cX1_copyFrom 64 = .ok (.iconst 0, 1) := by decide +kernel
theorem dX1_copyFrom_65 : decode cX1_copyFrom 65 = .ok (.iconst 4, 1) := by decide +kernel
theorem dX1_copyFrom_66 : decode cX1_copyFrom 66 = .ok (.invokestatic 39, 3) := by decide +kernel
theorem dX1_copyFrom_69 : decode cX1_copyFrom 69 = .ok (.aload_n 1, 1) := by decide +kernel
theorem dX1_copyFrom_70 : decode cX1_copyFrom 70 = .ok (.getfield 24, 3) := by decide +kernel
theorem dX1_copyFrom_73 : decode cX1_copyFrom 73 = .ok (.iconst 0, 1) := by decide +kernel
theorem dX1_copyFrom_74 : decode cX1_copyFrom 74 = .ok (.aload_n 0, 1) := by decide +kernel
theorem dX1_copyFrom_75 : decode cX1_copyFrom 75 = .ok (.getfield 24, 3) := by decide +kernel
theorem dX1_copyFrom_78 : decode cX1_copyFrom 78 = .ok (.iconst 0, 1) := by decide +kernel
theorem dX1_copyFrom_79 : decode cX1_copyFrom 79 = .ok (.iconst 4, 1) := by decide +kernel
theorem dX1_copyFrom_80 : decode cX1_copyFrom 80 = .ok (.invokestatic 39, 3) := by decide +kernel
theorem dX1_copyFrom_83 : decode cX1_copyFrom 83 = .ok (.aload_n 0, 1) := by decide +kernel
theorem dX1_copyFrom_84 : decode cX1_copyFrom 84 = .ok (.aload_n 1, 1) := by decide +kernel
theorem dX1_copyFrom_85 : decode cX1_copyFrom 85 = .ok (.getfield 31, 3) := by decide +kernel
theorem dX1_copyFrom_88 : decode cX1_copyFrom 88 = .ok (.putfield 31, 3) := by decide +kernel
theorem dX1_copyFrom_91 : decode cX1_copyFrom 91 = .ok (.aload_n 0, 1) := by decide +kernel
theorem dX1_copyFrom_92 : decode cX1_copyFrom 92 = .ok (.aload_n 1, 1) := by decide +kernel
theorem dX1_copyFrom_93 : decode cX1_copyFrom 93 = .ok (.getfield 45, 3) := by decide +kernel
theorem dX1_copyFrom_96 : decode cX1_copyFrom 96 = .ok (.putfield 45, 3) := by decide +kernel
theorem dX1_copyFrom_99 : decode cX1_copyFrom 99 = .ok (.aload_n 0, 1) := by decide +kernel
theorem dX1_copyFrom_100 : decode cX1_copyFrom 100 = .ok (.aload_n 1, 1) := by decide +kernel
theorem dX1_copyFrom_101 : decode cX1_copyFrom 101 = .ok (.getfield 48, 3) := by decide +kernel
theorem dX1_copyFrom_104 : decode cX1_copyFrom 104 = .ok (.putfield 48, 3) := by decide +kernel
theorem dX1_copyFrom_107 : decode cX1_copyFrom 107 = .ok (.aload_n 0, 1) := by decide +kernel
theorem dX1_copyFrom_108 : decode cX1_copyFrom 108 = .ok (.aload_n 1, 1) := by decide +kernel
theorem dX1_copyFrom_109 : decode cX1_copyFrom 109 = .ok (.getfield 51, 3) := by decide +kernel
theorem dX1_copyFrom_112 : decode cX1_copyFrom 112 = .ok (.putfield 51, 3) := by decide +kernel
theorem dX1_copyFrom_115 : decode cX1_copyFrom 115 = .ok (.aload_n 0, 1) := by decide +kernel
theorem dX1_copyFrom_116 : decode cX1_copyFrom 116 = .ok (.aload_n 1, 1) := by decide +kernel
theorem dX1_copyFrom_117 : decode cX1_copyFrom 117 = .ok (.getfield 54, 3) := by decide +kernel
theorem dX1_copyFrom_120 : decode cX1_copyFrom 120 = .ok (.putfield 54, 3) := by decide +kernel
theorem dX1_copyFrom_123 : decode cX1_copyFrom 123 = .ok (.aload_n 0, 1) := by decide +kernel
theorem dX1_copyFrom_124 : decode cX1_copyFrom 124 = .ok (.aload_n 1, 1) := by decide +kernel
theorem dX1_copyFrom_125 : decode cX1_copyFrom 125 = .ok (.getfield 57, 3) := by decide +kernel
theorem dX1_copyFrom_128 : decode cX1_copyFrom 128 = .ok (.putfield 57, 3) := by decide +kernel
theorem dX1_copyFrom_131 : decode cX1_copyFrom 131 = .ok (.return_, 1) := by decide +kernel
theorem dX1_admit_0 : decode cX1_admit 0 = .ok (.aload_n 0, 1) := by decide +kernel
theorem dX1_admit_1 : decode cX1_admit 1 = .ok (.getfield 31, 3) := by decide +kernel
theorem dX1_admit_4 : decode cX1_admit 4 = .ok (.aload_n 0, 1) := by decide +kernel
theorem dX1_admit_5 : decode cX1_admit 5 = .ok (.getfield 11, 3) := by decide +kernel
theorem dX1_admit_8 : decode cX1_admit 8 = .ok (.arraylength, 1) := by decide +kernel
theorem dX1_admit_9 : decode cX1_admit 9 = .ok (.if_icmp .lt 15, 3) := by decide +kernel
theorem dX1_admit_12 : decode cX1_admit 12 = .ok (.aload_n 0, 1) := by decide +kernel
theorem dX1_admit_13 : decode cX1_admit 13 = .ok (.dup, 1) := by decide +kernel
theorem dX1_admit_14 : decode cX1_admit 14 = .ok (.getfield 57, 3) := by decide +kernel
theorem dX1_admit_17 : decode cX1_admit 17 = .ok (.iconst 1, 1) := by decide +kernel
theorem dX1_admit_18 : decode cX1_admit 18 = .ok (.iadd, 1) := by decide +kernel
theorem dX1_admit_19 : decode cX1_admit 19 = .ok (.putfield 57, 3) := by decide +kernel
theorem dX1_admit_22 : decode cX1_admit 22 = .ok (.iconst (-1), 1) := by decide +kernel
theorem dX1_admit_23 : decode cX1_admit 23 = .ok (.ireturn, 1) := by decide +kernel
theorem dX1_admit_24 : decode cX1_admit 24 = .ok (.aload_n 0, 1) := by decide +kernel
theorem dX1_admit_25 : decode cX1_admit 25 = .ok (.getfield 11, 3) := by decide +kernel
theorem dX1_admit_28 : decode cX1_admit 28 = .ok (.aload_n 0, 1) := by decide +kernel
theorem dX1_admit_29 : decode cX1_admit 29 = .ok (.getfield 31, 3) := by decide +kernel
theorem dX1_admit_32 : decode cX1_admit 32 = .ok (.aaload, 1) := by decide +kernel
theorem dX1_admit_33 : decode cX1_admit 33 = .ok (.iload_n 1, 1) := by decide +kernel
theorem dX1_admit_34 : decode cX1_admit 34 = .ok (.iload_n 2, 1) := by decide +kernel
theorem dX1_admit_35 : decode cX1_admit 35 = .ok (.iload_n 3, 1) := by decide +kernel
theorem dX1_admit_36 : decode cX1_admit 36 = .ok (.iload 4, 2) := by decide +kernel
theorem dX1_admit_38 : decode cX1_admit 38 = .ok (.iload 5, 2) := by decide +kernel
theorem dX1_admit_40 : decode cX1_admit 40 = .ok (.iload 6, 2) := by decide +kernel
theorem dX1_admit_42 : decode cX1_admit 42 = .ok (.invokevirtual 60, 3) := by decide +kernel
theorem dX1_admit_45 : decode cX1_admit 45 = .ok (.aload_n 0, 1) := by decide +kernel
theorem dX1_admit_46 : decode cX1_admit 46 = .ok (.dup, 1) := by decide +kernel
theorem dX1_admit_47 : decode cX1_admit 47 = .ok (.getfield 31, 3) := by decide +kernel
theorem dX1_admit_50 : decode cX1_admit 50 = .ok (.iconst 1, 1) := by decide +kernel
theorem dX1_admit_51 : decode cX1_admit 51 = .ok (.iadd, 1) := by decide +kernel
theorem dX1_admit_52 : decode cX1_admit 52 = .ok (.putfield 31, 3) := by decide +kernel
theorem dX1_admit_55 : decode cX1_admit 55 = .ok (.aload_n 0, 1) := by decide +kernel
theorem dX1_admit_56 : decode cX1_admit 56 = .ok (.getfield 31, 3) := by decide +kernel
theorem dX1_admit_59 : decode cX1_admit 59 = .ok (.iconst 1, 1) := by decide +kernel
theorem dX1_admit_60 : decode cX1_admit 60 = .ok (.isub, 1) := by decide +kernel
theorem dX1_admit_61 : decode cX1_admit 61 = .ok (.ireturn, 1) := by decide +kernel
theorem dX1_remove_0 : decode cX1_remove 0 = .ok (.aload_n 0, 1) := by decide +kernel
theorem dX1_remove_1 : decode cX1_remove 1 = .ok (.getfield 11, 3) := by decide +kernel
theorem dX1_remove_4 : decode cX1_remove 4 = .ok (.iload_n 1, 1) := by decide +kernel
theorem dX1_remove_5 : decode cX1_remove 5 = .ok (.aaload, 1) := by decide +kernel
theorem dX1_remove_6 : decode cX1_remove 6 = .ok (.astore_n 2, 1) := by decide +kernel
theorem dX1_remove_7 : decode cX1_remove 7 = .ok (.iload_n 1, 1) := by decide +kernel
theorem dX1_remove_8 : decode cX1_remove 8 = .ok (.iconst 1, 1) := by decide +kernel
theorem dX1_remove_9 : decode cX1_remove 9 = .ok (.iadd, 1) := by decide +kernel
theorem dX1_remove_10 : decode cX1_remove 10 = .ok (.istore_n 3, 1) := by decide +kernel
theorem dX1_remove_11 : decode cX1_remove 11 = .ok (.iload_n 3, 1) := by decide +kernel
theorem dX1_remove_12 : decode cX1_remove 12 = .ok (.aload_n 0, 1) := by decide +kernel
theorem dX1_remove_13 : decode cX1_remove 13 = .ok (.getfield 31, 3) := by decide +kernel
theorem dX1_remove_16 : decode cX1_remove 16 = .ok (.if_icmp .ge 32, 3) := by decide +kernel
theorem dX1_remove_19 : decode cX1_remove 19 = .ok (.iload_n 3, 1) := by decide +kernel
theorem dX1_remove_20 : decode cX1_remove 20 = .ok (.aload_n 0, 1) := by decide +kernel
theorem dX1_remove_21 : decode cX1_remove 21 = .ok (.getfield 11, 3) := by decide +kernel
theorem dX1_remove_24 : decode cX1_remove 24 = .ok (.arraylength, 1) := by decide +kernel
theorem dX1_remove_25 : decode cX1_remove 25 = .ok (.if_icmp .ge 23, 3) := by decide +kernel
theorem dX1_remove_28 : decode cX1_remove 28 = .ok (.aload_n 0, 1) := by decide +kernel
theorem dX1_remove_29 : decode cX1_remove 29 = .ok (.getfield 11, 3) := by decide +kernel
theorem dX1_remove_32 : decode cX1_remove 32 = .ok (.iload_n 3, 1) := by decide +kernel
theorem dX1_remove_33 : decode cX1_remove 33 = .ok (.iconst 1, 1) := by decide +kernel
theorem dX1_remove_34 : decode cX1_remove 34 = .ok (.isub, 1) := by decide +kernel
theorem dX1_remove_35 : decode cX1_remove 35 = .ok (.aload_n 0, 1) := by decide +kernel
theorem dX1_remove_36 : decode cX1_remove 36 = .ok (.getfield 11, 3) := by decide +kernel
theorem dX1_remove_39 : decode cX1_remove 39 = .ok (.iload_n 3, 1) := by decide +kernel
theorem dX1_remove_40 : decode cX1_remove 40 = .ok (.aaload, 1) := by decide +kernel
theorem dX1_remove_41 : decode cX1_remove 41 = .ok (.aastore, 1) := by decide +kernel
theorem dX1_remove_42 : decode cX1_remove 42 = .ok (.iinc 3 1, 3) := by decide +kernel
theorem dX1_remove_45 : decode cX1_remove 45 = .ok (.goto (-34), 3) := by decide +kernel
theorem dX1_remove_48 : decode cX1_remove 48 = .ok (.aload_n 0, 1) := by decide +kernel
theorem dX1_remove_49 : decode cX1_remove 49 = .ok (.getfield 11, 3) := by decide +kernel
theorem dX1_remove_52 : decode cX1_remove 52 = .ok (.aload_n 0, 1) := by decide +kernel
theorem dX1_remove_53 : decode cX1_remove 53 = .ok (.getfield 31, 3) := by decide +kernel
theorem dX1_remove_56 : decode cX1_remove 56 = .ok (.iconst 1, 1) := by decide +kernel
theorem dX1_remove_57 : decode cX1_remove 57 = .ok (.isub, 1) := by decide +kernel
theorem dX1_remove_58 : decode cX1_remove 58 = .ok (.aload_n 2, 1) := by decide +kernel
theorem dX1_remove_59 : decode cX1_remove 59 = .ok (.aastore, 1) := by decide +kernel
theorem dX1_remove_60 : decode cX1_remove 60 = .ok (.aload_n 0, 1) := by decide +kernel
theorem dX1_remove_61 : decode cX1_remove 61 = .ok (.dup, 1) := by decide +kernel
theorem dX1_remove_62 : decode cX1_remove 62 = .ok (.getfield 31, 3) := by decide +kernel
theorem dX1_remove_65 : decode cX1_remove 65 = .ok (.iconst 1, 1) := by decide +kernel
theorem dX1_remove_66 : decode cX1_remove 66 = .ok (.isub, 1) := by decide +kernel
theorem dX1_remove_67 : decode cX1_remove 67 = .ok (.putfield 31, 3) := by decide +kernel
theorem dX1_remove_70 : decode cX1_remove 70 = .ok (.return_, 1) := by decide +kernel
theorem dX1_sendOff_0 : decode cX1_sendOff 0 = .ok (.aload_n 0, 1) := by decide +kernel
theorem dX1_sendOff_1 : decode cX1_sendOff 1 = .ok (.getfield 11, 3) := by decide +kernel
theorem dX1_sendOff_4 : decode cX1_sendOff 4 = .ok (.iload_n 1, 1) := by decide +kernel
theorem dX1_sendOff_5 : decode cX1_sendOff 5 = .ok (.aaload, 1) := by decide +kernel
theorem dX1_sendOff_6 : decode cX1_sendOff 6 = .ok (.astore_n 2, 1) := by decide +kernel
theorem dX1_sendOff_7 : decode cX1_sendOff 7 = .ok (.aload_n 0, 1) := by decide +kernel
theorem dX1_sendOff_8 : decode cX1_sendOff 8 = .ok (.aload_n 2, 1) := by decide +kernel
theorem dX1_sendOff_9 : decode cX1_sendOff 9 = .ok (.aload_n 2, 1) := by decide +kernel
theorem dX1_sendOff_10 : decode cX1_sendOff 10 = .ok (.getfield 64, 3) := by decide +kernel
theorem dX1_sendOff_13 : decode cX1_sendOff 13 = .ok (.invokevirtual 67, 3) := by decide +kernel
theorem dX1_sendOff_16 : decode cX1_sendOff 16 = .ok (.istore_n 3, 1) := by decide +kernel
theorem dX1_sendOff_17 : decode cX1_sendOff 17 = .ok (.iload_n 3, 1) := by decide +kernel
theorem dX1_sendOff_18 : decode cX1_sendOff 18 = .ok (.ifCond .eq 15, 3) := by decide +kernel
theorem dX1_sendOff_21 : decode cX1_sendOff 21 = .ok (.aload_n 0, 1) := by decide +kernel
theorem dX1_sendOff_22 : decode cX1_sendOff 22 = .ok (.dup, 1) := by decide +kernel
theorem dX1_sendOff_23 : decode cX1_sendOff 23 = .ok (.getfield 57, 3) := by decide +kernel
theorem dX1_sendOff_26 : decode cX1_sendOff 26 = .ok (.iconst 1, 1) := by decide +kernel
theorem dX1_sendOff_27 : decode cX1_sendOff 27 = .ok (.iadd, 1) := by decide +kernel
theorem dX1_sendOff_28 : decode cX1_sendOff 28 = .ok (.putfield 57, 3) := by decide +kernel
theorem dX1_sendOff_31 : decode cX1_sendOff 31 = .ok (.iload_n 3, 1) := by decide +kernel
theorem dX1_sendOff_32 : decode cX1_sendOff 32 = .ok (.ireturn, 1) := by decide +kernel
theorem dX1_sendOff_33 : decode cX1_sendOff 33 = .ok (.aload_n 0, 1) := by decide +kernel
theorem dX1_sendOff_34 : decode cX1_sendOff 34 = .ok (.iload_n 1, 1) := by decide +kernel
theorem dX1_sendOff_35 : decode cX1_sendOff 35 = .ok (.aload_n 0, 1) := by decide +kernel
theorem dX1_sendOff_36 : decode cX1_sendOff 36 = .ok (.aload_n 2, 1) := by decide +kernel
theorem dX1_sendOff_37 : decode cX1_sendOff 37 = .ok (.aload_n 2, 1) := by decide +kernel
theorem dX1_sendOff_38 : decode cX1_sendOff 38 = .ok (.getfield 64, 3) := by decide +kernel
theorem dX1_sendOff_41 : decode cX1_sendOff 41 = .ok (.invokevirtual 71, 3) := by decide +kernel
theorem dX1_sendOff_44 : decode cX1_sendOff 44 = .ok (.invokevirtual 74, 3) := by decide +kernel
theorem dX1_sendOff_47 : decode cX1_sendOff 47 = .ok (.ireturn, 1) := by decide +kernel
theorem dX1_decideDispute_0 : decode cX1_decideDispute 0 = .ok (.aload_n 0, 1) := by decide +kernel
theorem dX1_decideDispute_1 : decode cX1_decideDispute 1 = .ok (.getfield 11, 3) := by decide +kernel
theorem dX1_decideDispute_4 : decode cX1_decideDispute 4 = .ok (.iload_n 1, 1) := by decide +kernel
theorem dX1_decideDispute_5 : decode cX1_decideDispute 5 = .ok (.aaload, 1) := by decide +kernel
theorem dX1_decideDispute_6 : decode cX1_decideDispute 6 = .ok (.astore_n 3, 1) := by decide +kernel
theorem dX1_decideDispute_7 : decode cX1_decideDispute 7 = .ok (.aload_n 0, 1) := by decide +kernel
theorem dX1_decideDispute_8 : decode cX1_decideDispute 8 = .ok (.aload_n 3, 1) := by decide +kernel
theorem dX1_decideDispute_9 : decode cX1_decideDispute 9 = .ok (.aload_n 3, 1) := by decide +kernel
theorem dX1_decideDispute_10 : decode cX1_decideDispute 10 = .ok (.getfield 64, 3) := by decide +kernel
theorem dX1_decideDispute_13 : decode cX1_decideDispute 13 = .ok (.invokevirtual 67, 3) := by decide +kernel
theorem dX1_decideDispute_16 : decode cX1_decideDispute 16 = .ok (.istore 4, 2) := by decide +kernel
theorem dX1_decideDispute_18 : decode cX1_decideDispute 18 = .ok (.iload 4, 2) := by decide +kernel
theorem dX1_decideDispute_20 : decode cX1_decideDispute 20 = .ok (.ifCond .eq 16, 3) := by decide +kernel
theorem dX1_decideDispute_23 : decode cX1_decideDispute 23 = .ok (.aload_n 0, 1) := by decide +kernel
theorem dX1_decideDispute_24 : decode cX1_decideDispute 24 = .ok (.dup, 1) := by decide +kernel
theorem dX1_decideDispute_25 : decode cX1_decideDispute 25 = .ok (.getfield 57, 3) := by decide +kernel
theorem dX1_decideDispute_28 : decode cX1_decideDispute 28 = .ok (.iconst 1, 1) := by decide +kernel
theorem dX1_decideDispute_29 : decode cX1_decideDispute 29 = .ok (.iadd, 1) := by decide +kernel
theorem dX1_decideDispute_30 : decode cX1_decideDispute 30 = .ok (.putfield 57, 3) := by decide +kernel
theorem dX1_decideDispute_33 : decode cX1_decideDispute 33 = .ok (.iload 4, 2) := by decide +kernel
theorem dX1_decideDispute_35 : decode cX1_decideDispute 35 = .ok (.ireturn, 1) := by decide +kernel
theorem dX1_decideDispute_36 : decode cX1_decideDispute 36 = .ok (.iload_n 2, 1) := by decide +kernel
theorem dX1_decideDispute_37 : decode cX1_decideDispute 37 = .ok (.aload_n 0, 1) := by decide +kernel
theorem dX1_decideDispute_38 : decode cX1_decideDispute 38 = .ok (.aload_n 3, 1) := by decide +kernel
theorem dX1_decideDispute_39 : decode cX1_decideDispute 39 = .ok (.aload_n 3, 1) := by decide +kernel
theorem dX1_decideDispute_40 : decode cX1_decideDispute 40 = .ok (.getfield 64, 3) := by decide +kernel
theorem dX1_decideDispute_43 : decode cX1_decideDispute 43 = .ok (.invokevirtual 71, 3) := by decide +kernel
theorem dX1_decideDispute_46 : decode cX1_decideDispute 46 = .ok (.isub, 1) := by decide +kernel
theorem dX1_decideDispute_47 : decode cX1_decideDispute 47 = .ok (.invokestatic 78, 3) := by decide +kernel
theorem dX1_decideDispute_50 : decode cX1_decideDispute 50 = .ok (.aload_n 0, 1) := by decide +kernel
theorem dX1_decideDispute_51 : decode cX1_decideDispute 51 = .ok (.getfield 24, 3) := by decide +kernel
theorem dX1_decideDispute_54 : decode cX1_decideDispute 54 = .ok (.iconst 3, 1) := by decide +kernel
theorem dX1_decideDispute_55 : decode cX1_decideDispute 55 = .ok (.iaload, 1) := by decide +kernel
theorem dX1_decideDispute_56 : decode cX1_decideDispute 56 = .ok (.if_icmp .le 15, 3) := by decide +kernel
theorem dX1_decideDispute_59 : decode cX1_decideDispute 59 = .ok (.aload_n 0, 1) := by decide +kernel
theorem dX1_decideDispute_60 : decode cX1_decideDispute 60 = .ok (.dup, 1) := by decide +kernel
theorem dX1_decideDispute_61 : decode cX1_decideDispute 61 = .ok (.getfield 54, 3) := by decide +kernel
theorem dX1_decideDispute_64 : decode cX1_decideDispute 64 = .ok (.iconst 1, 1) := by decide +kernel
theorem dX1_decideDispute_65 : decode cX1_decideDispute 65 = .ok (.iadd, 1) := by decide +kernel
theorem dX1_decideDispute_66 : decode cX1_decideDispute 66 = .ok (.putfield 54, 3) := by decide +kernel
theorem dX1_decideDispute_69 : decode cX1_decideDispute 69 = .ok (.iconst 4, 1) := by decide +kernel
theorem dX1_decideDispute_70 : decode cX1_decideDispute 70 = .ok (.ireturn, 1) := by decide +kernel
theorem dX1_decideDispute_71 : decode cX1_decideDispute 71 = .ok (.aload_n 0, 1) := by decide +kernel
theorem dX1_decideDispute_72 : decode cX1_decideDispute 72 = .ok (.dup, 1) := by decide +kernel
theorem dX1_decideDispute_73 : decode cX1_decideDispute 73 = .ok (.getfield 51, 3) := by decide +kernel
theorem dX1_decideDispute_76 : decode cX1_decideDispute 76 = .ok (.iconst 1, 1) := by decide +kernel
theorem dX1_decideDispute_77 : decode cX1_decideDispute 77 = .ok (.iadd, 1) := by decide +kernel
theorem dX1_decideDispute_78 : decode cX1_decideDispute 78 = .ok (.putfield 51, 3) := by decide +kernel
theorem dX1_decideDispute_81 : decode cX1_decideDispute 81 = .ok (.aload_n 0, 1) := by decide +kernel
theorem dX1_decideDispute_82 : decode cX1_decideDispute 82 = .ok (.iload_n 1, 1) := by decide +kernel
theorem dX1_decideDispute_83 : decode cX1_decideDispute 83 = .ok (.iload_n 2, 1) := by decide +kernel
theorem dX1_decideDispute_84 : decode cX1_decideDispute 84 = .ok (.invokevirtual 74, 3) := by decide +kernel
theorem dX1_decideDispute_87 : decode cX1_decideDispute 87 = .ok (.ireturn, 1) := by decide +kernel
theorem dX1_dispatch_0 : decode cX1_dispatch 0 = .ok (.aload_n 0, 1) := by decide +kernel
theorem dX1_dispatch_1 : decode cX1_dispatch 1 = .ok (.aload_n 0, 1) := by decide +kernel
theorem dX1_dispatch_2 : decode cX1_dispatch 2 = .ok (.getfield 11, 3) := by decide +kernel
theorem dX1_dispatch_5 : decode cX1_dispatch 5 = .ok (.iload_n 1, 1) := by decide +kernel
theorem dX1_dispatch_6 : decode cX1_dispatch 6 = .ok (.aaload, 1) := by decide +kernel
theorem dX1_dispatch_7 : decode cX1_dispatch 7 = .ok (.iload_n 2, 1) := by decide +kernel
theorem dX1_dispatch_8 : decode cX1_dispatch 8 = .ok (.invokevirtual 84, 3) := by decide +kernel
theorem dX1_dispatch_11 : decode cX1_dispatch 11 = .ok (.istore_n 3, 1) := by decide +kernel
theorem dX1_dispatch_12 : decode cX1_dispatch 12 = .ok (.aload_n 0, 1) := by decide +kernel
theorem dX1_dispatch_13 : decode cX1_dispatch 13 = .ok (.dup, 1) := by decide +kernel
theorem dX1_dispatch_14 : decode cX1_dispatch 14 = .ok (.getfield 45, 3) := by decide +kernel
theorem dX1_dispatch_17 : decode cX1_dispatch 17 = .ok (.iload_n 3, 1) := by decide +kernel
theorem dX1_dispatch_18 : decode cX1_dispatch 18 = .ok (.iadd, 1) := by decide +kernel
theorem dX1_dispatch_19 : decode cX1_dispatch 19 = .ok (.putfield 45, 3) := by decide +kernel
theorem dX1_dispatch_22 : decode cX1_dispatch 22 = .ok (.aload_n 0, 1) := by decide +kernel
theorem dX1_dispatch_23 : decode cX1_dispatch 23 = .ok (.dup, 1) := by decide +kernel
theorem dX1_dispatch_24 : decode cX1_dispatch 24 = .ok (.getfield 48, 3) := by decide +kernel
theorem dX1_dispatch_27 : decode cX1_dispatch 27 = .ok (.iconst 1, 1) := by decide +kernel
theorem dX1_dispatch_28 : decode cX1_dispatch 28 = .ok (.iadd, 1) := by decide +kernel
theorem dX1_dispatch_29 : decode cX1_dispatch 29 = .ok (.putfield 48, 3) := by decide +kernel
theorem dX1_dispatch_32 : decode cX1_dispatch 32 = .ok (.aload_n 0, 1) := by decide +kernel
theorem dX1_dispatch_33 : decode cX1_dispatch 33 = .ok (.iload_n 1, 1) := by decide +kernel
theorem dX1_dispatch_34 : decode cX1_dispatch 34 = .ok (.invokevirtual 87, 3) := by decide +kernel
theorem dX1_dispatch_37 : decode cX1_dispatch 37 = .ok (.bipush 10, 2) := by decide +kernel
theorem dX1_dispatch_39 : decode cX1_dispatch 39 = .ok (.iload_n 3, 1) := by decide +kernel
theorem dX1_dispatch_40 : decode cX1_dispatch 40 = .ok (.iadd, 1) := by decide +kernel
theorem dX1_dispatch_41 : decode cX1_dispatch 41 = .ok (.ireturn, 1) := by decide +kernel
theorem dX1_stringOf_0 : decode cX1_stringOf 0 = .ok (.aload_n 1, 1) := by decide +kernel
theorem dX1_stringOf_1 : decode cX1_stringOf 1 = .ok (.iload_n 2, 1) := by decide +kernel
theorem dX1_stringOf_2 : decode cX1_stringOf 2 = .ok (.invokevirtual 91, 3) := by decide +kernel
theorem dX1_stringOf_5 : decode cX1_stringOf 5 = .ok (.iload_n 2, 1) := by decide +kernel
theorem dX1_stringOf_6 : decode cX1_stringOf 6 = .ok (.iconst 1, 1) := by decide +kernel
theorem dX1_stringOf_7 : decode cX1_stringOf 7 = .ok (.iadd, 1) := by decide +kernel
theorem dX1_stringOf_8 : decode cX1_stringOf 8 = .ok (.aload_n 0, 1) := by decide +kernel
theorem dX1_stringOf_9 : decode cX1_stringOf 9 = .ok (.getfield 24, 3) := by decide +kernel
theorem dX1_stringOf_12 : decode cX1_stringOf 12 = .ok (.iconst 0, 1) := by decide +kernel
theorem dX1_stringOf_13 : decode cX1_stringOf 13 = .ok (.iaload, 1) := by decide +kernel
theorem dX1_stringOf_14 : decode cX1_stringOf 14 = .ok (.imul, 1) := by decide +kernel
theorem dX1_stringOf_15 : decode cX1_stringOf 15 = .ok (.iadd, 1) := by decide +kernel
theorem dX1_stringOf_16 : decode cX1_stringOf 16 = .ok (.ireturn, 1) := by decide +kernel
theorem dX1_isOdd_0 : decode cX1_isOdd 0 = .ok (.aload_n 1, 1) := by decide +kernel
theorem dX1_isOdd_1 : decode cX1_isOdd 1 = .ok (.invokevirtual 94, 3) := by decide +kernel
theorem dX1_isOdd_4 : decode cX1_isOdd 4 = .ok (.aload_n 0, 1) := by decide +kernel
theorem dX1_isOdd_5 : decode cX1_isOdd 5 = .ok (.getfield 24, 3) := by decide +kernel
theorem dX1_isOdd_8 : decode cX1_isOdd 8 = .ok (.iconst 1, 1) := by decide +kernel
theorem dX1_isOdd_9 : decode cX1_isOdd 9 = .ok (.iaload, 1) := by decide +kernel
theorem dX1_isOdd_10 : decode cX1_isOdd 10 = .ok (.if_icmp .le 7, 3) := by decide +kernel
theorem dX1_isOdd_13 : decode cX1_isOdd 13 = .ok (.iconst 1, 1) := by decide +kernel
theorem dX1_isOdd_14 : decode cX1_isOdd 14 = .ok (.goto 4, 3) := by decide +kernel
theorem dX1_isOdd_17 : decode cX1_isOdd 17 = .ok (.iconst 0, 1) := by decide +kernel
theorem dX1_isOdd_18 : decode cX1_isOdd 18 = .ok (.ireturn, 1) := by decide +kernel
theorem dX1_reasonAgainst_0 : decode cX1_reasonAgainst 0 = .ok (.iload_n 2, 1) := by decide +kernel
theorem dX1_reasonAgainst_1 : decode cX1_reasonAgainst 1 = .ok (.ifCond .ne 14, 3) := by decide +kernel
theorem dX1_reasonAgainst_4 : decode cX1_reasonAgainst 4 = .ok (.aload_n 1, 1) := by decide +kernel
theorem dX1_reasonAgainst_5 : decode cX1_reasonAgainst 5 = .ok (.getfield 98, 3) := by decide +kernel
theorem dX1_reasonAgainst_8 : decode cX1_reasonAgainst 8 = .ok (.bipush 30, 2) := by decide +kernel
theorem dX1_reasonAgainst_10 : decode cX1_reasonAgainst 10 = .ok (.if_icmp .le 5, 3) := by decide +kernel
theorem dX1_reasonAgainst_13 : decode cX1_reasonAgainst 13 = .ok (.iconst 1, 1) := by decide +kernel
theorem dX1_reasonAgainst_14 : decode cX1_reasonAgainst 14 = .ok (.ireturn, 1) := by decide +kernel
theorem dX1_reasonAgainst_15 : decode cX1_reasonAgainst 15 = .ok (.iload_n 2, 1) := by decide +kernel
theorem dX1_reasonAgainst_16 : decode cX1_reasonAgainst 16 = .ok (.iconst 1, 1) := by decide +kernel
theorem dX1_reasonAgainst_17 : decode cX1_reasonAgainst 17 = .ok (.if_icmp .ne 14, 3) := by decide +kernel
theorem dX1_reasonAgainst_20 : decode cX1_reasonAgainst 20 = .ok (.aload_n 1, 1) := by decide +kernel
theorem dX1_reasonAgainst_21 : decode cX1_reasonAgainst 21 = .ok (.getfield 98, 3) := by decide +kernel
theorem dX1_reasonAgainst_24 : decode cX1_reasonAgainst 24 = .ok (.bipush 60, 2) := by decide +kernel
theorem dX1_reasonAgainst_26 : decode cX1_reasonAgainst 26 = .ok (.if_icmp .le 5, 3) := by decide +kernel
theorem dX1_reasonAgainst_29 : decode cX1_reasonAgainst 29 = .ok (.iconst 1, 1) := by decide +kernel
theorem dX1_reasonAgainst_30 : decode cX1_reasonAgainst 30 = .ok (.ireturn, 1) := by decide +kernel
theorem dX1_reasonAgainst_31 : decode cX1_reasonAgainst 31 = .ok (.aload_n 1, 1) := by decide +kernel
theorem dX1_reasonAgainst_32 : decode cX1_reasonAgainst 32 = .ok (.invokevirtual 94, 3) := by decide +kernel
theorem dX1_reasonAgainst_35 : decode cX1_reasonAgainst 35 = .ok (.iconst 2, 1) := by decide +kernel
theorem dX1_reasonAgainst_36 : decode cX1_reasonAgainst 36 = .ok (.aload_n 0, 1) := by decide +kernel
theorem dX1_reasonAgainst_37 : decode cX1_reasonAgainst 37 = .ok (.getfield 24, 3) := by decide +kernel
theorem dX1_reasonAgainst_40 : decode cX1_reasonAgainst 40 = .ok (.iconst 1, 1) := by decide +kernel
theorem dX1_reasonAgainst_41 : decode cX1_reasonAgainst 41 = .ok (.iaload, 1) := by decide +kernel
theorem dX1_reasonAgainst_42 : decode cX1_reasonAgainst 42 = .ok (.imul, 1) := by decide +kernel
theorem dX1_reasonAgainst_43 : decode cX1_reasonAgainst 43 = .ok (.if_icmp .le 5, 3) := by decide +kernel
theorem dX1_reasonAgainst_46 : decode cX1_reasonAgainst 46 = .ok (.iconst 2, 1) := by decide +kernel
theorem dX1_reasonAgainst_47 : decode cX1_reasonAgainst 47 = .ok (.ireturn, 1) := by decide +kernel
theorem dX1_reasonAgainst_48 : decode cX1_reasonAgainst 48 = .ok (.iload_n 2, 1) := by decide +kernel
theorem dX1_reasonAgainst_49 : decode cX1_reasonAgainst 49 = .ok (.ifCond .ne 14, 3) := by decide +kernel
theorem dX1_reasonAgainst_52 : decode cX1_reasonAgainst 52 = .ok (.aload_n 1, 1) := by decide +kernel
theorem dX1_reasonAgainst_53 : decode cX1_reasonAgainst 53 = .ok (.getfield 101, 3) := by decide +kernel
theorem dX1_reasonAgainst_56 : decode cX1_reasonAgainst 56 = .ok (.ifCond .le 7, 3) := by decide +kernel
theorem dX1_reasonAgainst_59 : decode cX1_reasonAgainst 59 = .ok (.iconst 3, 1) := by decide +kernel
theorem dX1_reasonAgainst_60 : decode cX1_reasonAgainst 60 = .ok (.goto 4, 3) := by decide +kernel
theorem dX1_reasonAgainst_63 : decode cX1_reasonAgainst 63 = .ok (.iconst 0, 1) := by decide +kernel
theorem dX1_reasonAgainst_64 : decode cX1_reasonAgainst 64 = .ok (.ireturn, 1) := by decide +kernel
theorem dX1_isTaken_0 : decode cX1_isTaken 0 = .ok (.aload_n 0, 1) := by decide +kernel
theorem dX1_isTaken_1 : decode cX1_isTaken 1 = .ok (.aload_n 1, 1) := by decide +kernel
theorem dX1_isTaken_2 : decode cX1_isTaken 2 = .ok (.aload_n 1, 1) := by decide +kernel
theorem dX1_isTaken_3 : decode cX1_isTaken 3 = .ok (.getfield 64, 3) := by decide +kernel
theorem dX1_isTaken_6 : decode cX1_isTaken 6 = .ok (.invokevirtual 67, 3) := by decide +kernel
theorem dX1_isTaken_9 : decode cX1_isTaken 9 = .ok (.ifCond .ne 7, 3) := by decide +kernel
theorem dX1_isTaken_12 : decode cX1_isTaken 12 = .ok (.iconst 1, 1) := by decide +kernel
theorem dX1_isTaken_13 : decode cX1_isTaken 13 = .ok (.goto 4, 3) := by decide +kernel
theorem dX1_isTaken_16 : decode cX1_isTaken 16 = .ok (.iconst 0, 1) := by decide +kernel
theorem dX1_isTaken_17 : decode cX1_isTaken 17 = .ok (.ireturn, 1) := by decide +kernel
theorem dX1_postageFor_0 : decode cX1_postageFor 0 = .ok (.aload_n 0, 1) := by decide +kernel
theorem dX1_postageFor_1 : decode cX1_postageFor 1 = .ok (.iload_n 2, 1) := by decide +kernel
theorem dX1_postageFor_2 : decode cX1_postageFor 2 = .ok (.invokevirtual 104, 3) := by decide +kernel
theorem dX1_postageFor_5 : decode cX1_postageFor 5 = .ok (.aload_n 0, 1) := by decide +kernel
theorem dX1_postageFor_6 : decode cX1_postageFor 6 = .ok (.getfield 21, 3) := by decide +kernel
theorem dX1_postageFor_9 : decode cX1_postageFor 9 = .ok (.aload_n 1, 1) := by decide +kernel
theorem dX1_postageFor_10 : decode cX1_postageFor 10 = .ok (.getfield 107, 3) := by decide +kernel
theorem dX1_postageFor_13 : decode cX1_postageFor 13 = .ok (.iaload, 1) := by decide +kernel
theorem dX1_postageFor_14 : decode cX1_postageFor 14 = .ok (.imul, 1) := by decide +kernel
theorem dX1_postageFor_15 : decode cX1_postageFor 15 = .ok (.istore_n 3, 1) := by decide +kernel
theorem dX1_postageFor_16 : decode cX1_postageFor 16 = .ok (.aload_n 0, 1) := by decide +kernel
theorem dX1_postageFor_17 : decode cX1_postageFor 17 = .ok (.aload_n 1, 1) := by decide +kernel
theorem dX1_postageFor_18 : decode cX1_postageFor 18 = .ok (.invokevirtual 110, 3) := by decide +kernel
theorem dX1_postageFor_21 : decode cX1_postageFor 21 = .ok (.ifCond .eq 9, 3) := by decide +kernel
theorem dX1_postageFor_24 : decode cX1_postageFor 24 = .ok (.iload_n 3, 1) := by decide +kernel
theorem dX1_postageFor_25 : decode cX1_postageFor 25 = .ok (.iconst 2, 1) := by decide +kernel
theorem dX1_postageFor_26 : decode cX1_postageFor 26 = .ok (.idiv, 1) := by decide +kernel
theorem dX1_postageFor_27 : decode cX1_postageFor 27 = .ok (.goto 4, 3) := by decide +kernel
theorem dX1_postageFor_30 : decode cX1_postageFor 30 = .ok (.iconst 0, 1) := by decide +kernel
theorem dX1_postageFor_31 : decode cX1_postageFor 31 = .ok (.istore 4, 2) := by decide +kernel
theorem dX1_postageFor_33 : decode cX1_postageFor 33 = .ok (.iload_n 3, 1) := by decide +kernel
theorem dX1_postageFor_34 : decode cX1_postageFor 34 = .ok (.iload 4, 2) := by decide +kernel
theorem dX1_postageFor_36 : decode cX1_postageFor 36 = .ok (.iadd, 1) := by decide +kernel
theorem dX1_postageFor_37 : decode cX1_postageFor 37 = .ok (.aload_n 0, 1) := by decide +kernel
theorem dX1_postageFor_38 : decode cX1_postageFor 38 = .ok (.getfield 24, 3) := by decide +kernel
theorem dX1_postageFor_41 : decode cX1_postageFor 41 = .ok (.iconst 2, 1) := by decide +kernel
theorem dX1_postageFor_42 : decode cX1_postageFor 42 = .ok (.iaload, 1) := by decide +kernel
theorem dX1_postageFor_43 : decode cX1_postageFor 43 = .ok (.aload_n 1, 1) := by decide +kernel
theorem dX1_postageFor_44 : decode cX1_postageFor 44 = .ok (.getfield 101, 3) := by decide +kernel
theorem dX1_postageFor_47 : decode cX1_postageFor 47 = .ok (.imul, 1) := by decide +kernel
theorem dX1_postageFor_48 : decode cX1_postageFor 48 = .ok (.iadd, 1) := by decide +kernel
theorem dX1_postageFor_49 : decode cX1_postageFor 49 = .ok (.ireturn, 1) := by decide +kernel
theorem dX1_rateUpwards_0 : decode cX1_rateUpwards 0 = .ok (.iload_n 1, 1) := by decide +kernel
theorem dX1_rateUpwards_1 : decode cX1_rateUpwards 1 = .ok (.invokestatic 114, 3) := by decide +kernel
theorem dX1_rateUpwards_4 : decode cX1_rateUpwards 4 = .ok (.istore_n 2, 1) := by decide +kernel
theorem dX1_rateUpwards_5 : decode cX1_rateUpwards 5 = .ok (.iconst 0, 1) := by decide +kernel
theorem dX1_rateUpwards_6 : decode cX1_rateUpwards 6 = .ok (.istore_n 3, 1) := by decide +kernel
theorem dX1_rateUpwards_7 : decode cX1_rateUpwards 7 = .ok (.iconst 0, 1) := by decide +kernel
theorem dX1_rateUpwards_8 : decode cX1_rateUpwards 8 = .ok (.istore 4, 2) := by decide +kernel
theorem dX1_rateUpwards_10 : decode cX1_rateUpwards 10 = .ok (.iload 4, 2) := by decide +kernel
theorem dX1_rateUpwards_12 : decode cX1_rateUpwards 12 = .ok (.iload_n 2, 1) := by decide +kernel
theorem dX1_rateUpwards_13 : decode cX1_rateUpwards 13 = .ok (.if_icmp .gt 31, 3) := by decide +kernel
theorem dX1_rateUpwards_16 : decode cX1_rateUpwards 16 = .ok (.iload 4, 2) := by decide +kernel
theorem dX1_rateUpwards_18 : decode cX1_rateUpwards 18 = .ok (.aload_n 0, 1) := by decide +kernel
theorem dX1_rateUpwards_19 : decode cX1_rateUpwards 19 = .ok (.getfield 17, 3) := by decide +kernel
theorem dX1_rateUpwards_22 : decode cX1_rateUpwards 22 = .ok (.arraylength, 1) := by decide +kernel
theorem dX1_rateUpwards_23 : decode cX1_rateUpwards 23 = .ok (.if_icmp .ge 21, 3) := by decide +kernel
end
section
theorem dX1_rateUpwards_26 : decode cX1_rateUpwards 26 = .ok (.iload_n 3, 1) := by decide +kernel
theorem dX1_rateUpwards_27 : decode cX1_rateUpwards 27 = .ok (.aload_n 0, 1) := by decide +kernel
theorem dX1_rateUpwards_28 : decode cX1_rateUpwards 28 = .ok (.getfield 17, 3) := by decide +kernel
theorem dX1_rateUpwards_31 : decode cX1_rateUpwards 31 = .ok (.iload 4, 2) := by decide +kernel
theorem dX1_rateUpwards_33 : decode cX1_rateUpwards 33 = .ok (.iaload, 1) := by decide +kernel
theorem dX1_rateUpwards_34 : decode cX1_rateUpwards 34 = .ok (.invokestatic 117, 3) := by decide +kernel
theorem dX1_rateUpwards_37 : decode cX1_rateUpwards 37 = .ok (.istore_n 3, 1) := by decide +kernel
theorem dX1_rateUpwards_38 : decode cX1_rateUpwards 38 = .ok (.iinc 4 1, 3) := by decide +kernel
theorem dX1_rateUpwards_41 : decode cX1_rateUpwards 41 = .ok (.goto (-31), 3) := by decide +kernel
theorem dX1_rateUpwards_44 : decode cX1_rateUpwards 44 = .ok (.iload_n 3, 1) := by decide +kernel
theorem dX1_rateUpwards_45 : decode cX1_rateUpwards 45 = .ok (.ireturn, 1) := by decide +kernel
theorem dX1_rateDownwards_0 : decode cX1_rateDownwards 0 = .ok (.iload_n 1, 1) := by decide +kernel
theorem dX1_rateDownwards_1 : decode cX1_rateDownwards 1 = .ok (.invokestatic 114, 3) := by decide +kernel
theorem dX1_rateDownwards_4 : decode cX1_rateDownwards 4 = .ok (.istore_n 2, 1) := by decide +kernel
theorem dX1_rateDownwards_5 : decode cX1_rateDownwards 5 = .ok (.iload_n 2, 1) := by decide +kernel
theorem dX1_rateDownwards_6 : decode cX1_rateDownwards 6 = .ok (.istore_n 3, 1) := by decide +kernel
theorem dX1_rateDownwards_7 : decode cX1_rateDownwards 7 = .ok (.iload_n 2, 1) := by decide +kernel
theorem dX1_rateDownwards_8 : decode cX1_rateDownwards 8 = .ok (.iconst 1, 1) := by decide +kernel
theorem dX1_rateDownwards_9 : decode cX1_rateDownwards 9 = .ok (.isub, 1) := by decide +kernel
theorem dX1_rateDownwards_10 : decode cX1_rateDownwards 10 = .ok (.istore 4, 2) := by decide +kernel
theorem dX1_rateDownwards_12 : decode cX1_rateDownwards 12 = .ok (.iload 4, 2) := by decide +kernel
theorem dX1_rateDownwards_14 : decode cX1_rateDownwards 14 = .ok (.ifCond .lt 28, 3) := by decide +kernel
theorem dX1_rateDownwards_17 : decode cX1_rateDownwards 17 = .ok (.aload_n 0, 1) := by decide +kernel
theorem dX1_rateDownwards_18 : decode cX1_rateDownwards 18 = .ok (.getfield 17, 3) := by decide +kernel
theorem dX1_rateDownwards_21 : decode cX1_rateDownwards 21 = .ok (.iload 4, 2) := by decide +kernel
theorem dX1_rateDownwards_23 : decode cX1_rateDownwards 23 = .ok (.iaload, 1) := by decide +kernel
theorem dX1_rateDownwards_24 : decode cX1_rateDownwards 24 = .ok (.aload_n 0, 1) := by decide +kernel
theorem dX1_rateDownwards_25 : decode cX1_rateDownwards 25 = .ok (.getfield 17, 3) := by decide +kernel
theorem dX1_rateDownwards_28 : decode cX1_rateDownwards 28 = .ok (.iload_n 3, 1) := by decide +kernel
theorem dX1_rateDownwards_29 : decode cX1_rateDownwards 29 = .ok (.iaload, 1) := by decide +kernel
theorem dX1_rateDownwards_30 : decode cX1_rateDownwards 30 = .ok (.if_icmp .le 6, 3) := by decide +kernel
theorem dX1_rateDownwards_33 : decode cX1_rateDownwards 33 = .ok (.iload 4, 2) := by decide +kernel
theorem dX1_rateDownwards_35 : decode cX1_rateDownwards 35 = .ok (.istore_n 3, 1) := by decide +kernel
theorem dX1_rateDownwards_36 : decode cX1_rateDownwards 36 = .ok (.iinc 4 (-1), 3) := by decide +kernel
theorem dX1_rateDownwards_39 : decode cX1_rateDownwards 39 = .ok (.goto (-27), 3) := by decide +kernel
theorem dX1_rateDownwards_42 : decode cX1_rateDownwards 42 = .ok (.aload_n 0, 1) := by decide +kernel
theorem dX1_rateDownwards_43 : decode cX1_rateDownwards 43 = .ok (.getfield 17, 3) := by decide +kernel
theorem dX1_rateDownwards_46 : decode cX1_rateDownwards 46 = .ok (.iload_n 3, 1) := by decide +kernel
theorem dX1_rateDownwards_47 : decode cX1_rateDownwards 47 = .ok (.iaload, 1) := by decide +kernel
theorem dX1_rateDownwards_48 : decode cX1_rateDownwards 48 = .ok (.ireturn, 1) := by decide +kernel
theorem dX1_leastWay_0 : decode cX1_leastWay 0 = .ok (.iconst (-1), 1) := by decide +kernel
theorem dX1_leastWay_1 : decode cX1_leastWay 1 = .ok (.istore_n 2, 1) := by decide +kernel
theorem dX1_leastWay_2 : decode cX1_leastWay 2 = .ok (.iconst 0, 1) := by decide +kernel
theorem dX1_leastWay_3 : decode cX1_leastWay 3 = .ok (.istore_n 3, 1) := by decide +kernel
theorem dX1_leastWay_4 : decode cX1_leastWay 4 = .ok (.iconst 0, 1) := by decide +kernel
theorem dX1_leastWay_5 : decode cX1_leastWay 5 = .ok (.istore 4, 2) := by decide +kernel
theorem dX1_leastWay_7 : decode cX1_leastWay 7 = .ok (.iload 4, 2) := by decide +kernel
theorem dX1_leastWay_9 : decode cX1_leastWay 9 = .ok (.iconst 2, 1) := by decide +kernel
theorem dX1_leastWay_10 : decode cX1_leastWay 10 = .ok (.if_icmp .gt 50, 3) := by decide +kernel
theorem dX1_leastWay_13 : decode cX1_leastWay 13 = .ok (.aload_n 0, 1) := by decide +kernel
theorem dX1_leastWay_14 : decode cX1_leastWay 14 = .ok (.aload_n 1, 1) := by decide +kernel
theorem dX1_leastWay_15 : decode cX1_leastWay 15 = .ok (.iload 4, 2) := by decide +kernel
theorem dX1_leastWay_17 : decode cX1_leastWay 17 = .ok (.invokevirtual 67, 3) := by decide +kernel
theorem dX1_leastWay_20 : decode cX1_leastWay 20 = .ok (.ifCond .ne 34, 3) := by decide +kernel
theorem dX1_leastWay_23 : decode cX1_leastWay 23 = .ok (.aload_n 0, 1) := by decide +kernel
theorem dX1_leastWay_24 : decode cX1_leastWay 24 = .ok (.aload_n 1, 1) := by decide +kernel
theorem dX1_leastWay_25 : decode cX1_leastWay 25 = .ok (.aload_n 0, 1) := by decide +kernel
theorem dX1_leastWay_26 : decode cX1_leastWay 26 = .ok (.aload_n 1, 1) := by decide +kernel
theorem dX1_leastWay_27 : decode cX1_leastWay 27 = .ok (.iload 4, 2) := by decide +kernel
theorem dX1_leastWay_29 : decode cX1_leastWay 29 = .ok (.invokevirtual 71, 3) := by decide +kernel
theorem dX1_leastWay_32 : decode cX1_leastWay 32 = .ok (.invokevirtual 84, 3) := by decide +kernel
theorem dX1_leastWay_35 : decode cX1_leastWay 35 = .ok (.istore 5, 2) := by decide +kernel
theorem dX1_leastWay_37 : decode cX1_leastWay 37 = .ok (.iload_n 2, 1) := by decide +kernel
theorem dX1_leastWay_38 : decode cX1_leastWay 38 = .ok (.iconst (-1), 1) := by decide +kernel
theorem dX1_leastWay_39 : decode cX1_leastWay 39 = .ok (.if_icmp .eq 9, 3) := by decide +kernel
theorem dX1_leastWay_42 : decode cX1_leastWay 42 = .ok (.iload 5, 2) := by decide +kernel
theorem dX1_leastWay_44 : decode cX1_leastWay 44 = .ok (.iload_n 3, 1) := by decide +kernel
theorem dX1_leastWay_45 : decode cX1_leastWay 45 = .ok (.if_icmp .ge 9, 3) := by decide +kernel
theorem dX1_leastWay_48 : decode cX1_leastWay 48 = .ok (.iload 4, 2) := by decide +kernel
theorem dX1_leastWay_50 : decode cX1_leastWay 50 = .ok (.istore_n 2, 1) := by decide +kernel
theorem dX1_leastWay_51 : decode cX1_leastWay 51 = .ok (.iload 5, 2) := by decide +kernel
theorem dX1_leastWay_53 : decode cX1_leastWay 53 = .ok (.istore_n 3, 1) := by decide +kernel
theorem dX1_leastWay_54 : decode cX1_leastWay 54 = .ok (.iinc 4 1, 3) := by decide +kernel
theorem dX1_leastWay_57 : decode cX1_leastWay 57 = .ok (.goto (-50), 3) := by decide +kernel
theorem dX1_leastWay_60 : decode cX1_leastWay 60 = .ok (.iload_n 2, 1) := by decide +kernel
theorem dX1_leastWay_61 : decode cX1_leastWay 61 = .ok (.ireturn, 1) := by decide +kernel
theorem dX1_dearestTaken_0 : decode cX1_dearestTaken 0 = .ok (.iconst (-1), 1) := by decide +kernel
theorem dX1_dearestTaken_1 : decode cX1_dearestTaken 1 = .ok (.istore_n 1, 1) := by decide +kernel
theorem dX1_dearestTaken_2 : decode cX1_dearestTaken 2 = .ok (.iconst 0, 1) := by decide +kernel
theorem dX1_dearestTaken_3 : decode cX1_dearestTaken 3 = .ok (.istore_n 2, 1) := by decide +kernel
theorem dX1_dearestTaken_4 : decode cX1_dearestTaken 4 = .ok (.iconst 0, 1) := by decide +kernel
theorem dX1_dearestTaken_5 : decode cX1_dearestTaken 5 = .ok (.istore_n 3, 1) := by decide +kernel
theorem dX1_dearestTaken_6 : decode cX1_dearestTaken 6 = .ok (.iload_n 3, 1) := by decide +kernel
theorem dX1_dearestTaken_7 : decode cX1_dearestTaken 7 = .ok (.aload_n 0, 1) := by decide +kernel
theorem dX1_dearestTaken_8 : decode cX1_dearestTaken 8 = .ok (.getfield 31, 3) := by decide +kernel
theorem dX1_dearestTaken_11 : decode cX1_dearestTaken 11 = .ok (.if_icmp .ge 70, 3) := by decide +kernel
theorem dX1_dearestTaken_14 : decode cX1_dearestTaken 14 = .ok (.iload_n 3, 1) := by decide +kernel
theorem dX1_dearestTaken_15 : decode cX1_dearestTaken 15 = .ok (.aload_n 0, 1) := by decide +kernel
theorem dX1_dearestTaken_16 : decode cX1_dearestTaken 16 = .ok (.getfield 11, 3) := by decide +kernel
theorem dX1_dearestTaken_19 : decode cX1_dearestTaken 19 = .ok (.arraylength, 1) := by decide +kernel
theorem dX1_dearestTaken_20 : decode cX1_dearestTaken 20 = .ok (.if_icmp .ge 61, 3) := by decide +kernel
theorem dX1_dearestTaken_23 : decode cX1_dearestTaken 23 = .ok (.aload_n 0, 1) := by decide +kernel
theorem dX1_dearestTaken_24 : decode cX1_dearestTaken 24 = .ok (.getfield 11, 3) := by decide +kernel
theorem dX1_dearestTaken_27 : decode cX1_dearestTaken 27 = .ok (.iload_n 3, 1) := by decide +kernel
theorem dX1_dearestTaken_28 : decode cX1_dearestTaken 28 = .ok (.aaload, 1) := by decide +kernel
theorem dX1_dearestTaken_29 : decode cX1_dearestTaken 29 = .ok (.astore 4, 2) := by decide +kernel
theorem dX1_dearestTaken_31 : decode cX1_dearestTaken 31 = .ok (.aload_n 0, 1) := by decide +kernel
theorem dX1_dearestTaken_32 : decode cX1_dearestTaken 32 = .ok (.aload 4, 2) := by decide +kernel
theorem dX1_dearestTaken_34 : decode cX1_dearestTaken 34 = .ok (.aload_n 0, 1) := by decide +kernel
theorem dX1_dearestTaken_35 : decode cX1_dearestTaken 35 = .ok (.aload 4, 2) := by decide +kernel
theorem dX1_dearestTaken_37 : decode cX1_dearestTaken 37 = .ok (.aload 4, 2) := by decide +kernel
theorem dX1_dearestTaken_39 : decode cX1_dearestTaken 39 = .ok (.getfield 64, 3) := by decide +kernel
theorem dX1_dearestTaken_42 : decode cX1_dearestTaken 42 = .ok (.invokevirtual 71, 3) := by decide +kernel
theorem dX1_dearestTaken_45 : decode cX1_dearestTaken 45 = .ok (.invokevirtual 84, 3) := by decide +kernel
theorem dX1_dearestTaken_48 : decode cX1_dearestTaken 48 = .ok (.istore 5, 2) := by decide +kernel
theorem dX1_dearestTaken_50 : decode cX1_dearestTaken 50 = .ok (.aload_n 0, 1) := by decide +kernel
theorem dX1_dearestTaken_51 : decode cX1_dearestTaken 51 = .ok (.aload 4, 2) := by decide +kernel
theorem dX1_dearestTaken_53 : decode cX1_dearestTaken 53 = .ok (.invokevirtual 120, 3) := by decide +kernel
theorem dX1_dearestTaken_56 : decode cX1_dearestTaken 56 = .ok (.ifCond .eq 19, 3) := by decide +kernel
theorem dX1_dearestTaken_59 : decode cX1_dearestTaken 59 = .ok (.iload_n 1, 1) := by decide +kernel
theorem dX1_dearestTaken_60 : decode cX1_dearestTaken 60 = .ok (.iconst (-1), 1) := by decide +kernel
theorem dX1_dearestTaken_61 : decode cX1_dearestTaken 61 = .ok (.if_icmp .eq 9, 3) := by decide +kernel
theorem dX1_dearestTaken_64 : decode cX1_dearestTaken 64 = .ok (.iload 5, 2) := by decide +kernel
theorem dX1_dearestTaken_66 : decode cX1_dearestTaken 66 = .ok (.iload_n 2, 1) := by decide +kernel
theorem dX1_dearestTaken_67 : decode cX1_dearestTaken 67 = .ok (.if_icmp .le 8, 3) := by decide +kernel
theorem dX1_dearestTaken_70 : decode cX1_dearestTaken 70 = .ok (.iload_n 3, 1) := by decide +kernel
theorem dX1_dearestTaken_71 : decode cX1_dearestTaken 71 = .ok (.istore_n 1, 1) := by decide +kernel
theorem dX1_dearestTaken_72 : decode cX1_dearestTaken 72 = .ok (.iload 5, 2) := by decide +kernel
theorem dX1_dearestTaken_74 : decode cX1_dearestTaken 74 = .ok (.istore_n 2, 1) := by decide +kernel
theorem dX1_dearestTaken_75 : decode cX1_dearestTaken 75 = .ok (.iinc 3 1, 3) := by decide +kernel
theorem dX1_dearestTaken_78 : decode cX1_dearestTaken 78 = .ok (.goto (-72), 3) := by decide +kernel
theorem dX1_dearestTaken_81 : decode cX1_dearestTaken 81 = .ok (.iload_n 1, 1) := by decide +kernel
theorem dX1_dearestTaken_82 : decode cX1_dearestTaken 82 = .ok (.ireturn, 1) := by decide +kernel
theorem dX1_numberOf_0 : decode cX1_numberOf 0 = .ok (.iload_n 2, 1) := by decide +kernel
theorem dX1_numberOf_1 : decode cX1_numberOf 1 = .ok (.tableswitch 120 0 9 #[55, 60, 65, 70, 75, 80, 85, 90, 95, 105], 55) := by decide +kernel
theorem dX1_numberOf_56 : decode cX1_numberOf 56 = .ok (.aload_n 1, 1) := by decide +kernel
theorem dX1_numberOf_57 : decode cX1_numberOf 57 = .ok (.getfield 123, 3) := by decide +kernel
theorem dX1_numberOf_60 : decode cX1_numberOf 60 = .ok (.ireturn, 1) := by decide +kernel
theorem dX1_numberOf_61 : decode cX1_numberOf 61 = .ok (.aload_n 1, 1) := by decide +kernel
theorem dX1_numberOf_62 : decode cX1_numberOf 62 = .ok (.getfield 126, 3) := by decide +kernel
theorem dX1_numberOf_65 : decode cX1_numberOf 65 = .ok (.ireturn, 1) := by decide +kernel
theorem dX1_numberOf_66 : decode cX1_numberOf 66 = .ok (.aload_n 1, 1) := by decide +kernel
theorem dX1_numberOf_67 : decode cX1_numberOf 67 = .ok (.getfield 129, 3) := by decide +kernel
theorem dX1_numberOf_70 : decode cX1_numberOf 70 = .ok (.ireturn, 1) := by decide +kernel
theorem dX1_numberOf_71 : decode cX1_numberOf 71 = .ok (.aload_n 1, 1) := by decide +kernel
theorem dX1_numberOf_72 : decode cX1_numberOf 72 = .ok (.getfield 98, 3) := by decide +kernel
theorem dX1_numberOf_75 : decode cX1_numberOf 75 = .ok (.ireturn, 1) := by decide +kernel
theorem dX1_numberOf_76 : decode cX1_numberOf 76 = .ok (.aload_n 1, 1) := by decide +kernel
theorem dX1_numberOf_77 : decode cX1_numberOf 77 = .ok (.getfield 107, 3) := by decide +kernel
theorem dX1_numberOf_80 : decode cX1_numberOf 80 = .ok (.ireturn, 1) := by decide +kernel
theorem dX1_numberOf_81 : decode cX1_numberOf 81 = .ok (.aload_n 1, 1) := by decide +kernel
theorem dX1_numberOf_82 : decode cX1_numberOf 82 = .ok (.getfield 101, 3) := by decide +kernel
theorem dX1_numberOf_85 : decode cX1_numberOf 85 = .ok (.ireturn, 1) := by decide +kernel
theorem dX1_numberOf_86 : decode cX1_numberOf 86 = .ok (.aload_n 1, 1) := by decide +kernel
theorem dX1_numberOf_87 : decode cX1_numberOf 87 = .ok (.getfield 64, 3) := by decide +kernel
theorem dX1_numberOf_90 : decode cX1_numberOf 90 = .ok (.ireturn, 1) := by decide +kernel
theorem dX1_numberOf_91 : decode cX1_numberOf 91 = .ok (.aload_n 1, 1) := by decide +kernel
theorem dX1_numberOf_92 : decode cX1_numberOf 92 = .ok (.invokevirtual 94, 3) := by decide +kernel
theorem dX1_numberOf_95 : decode cX1_numberOf 95 = .ok (.ireturn, 1) := by decide +kernel
theorem dX1_numberOf_96 : decode cX1_numberOf 96 = .ok (.aload_n 0, 1) := by decide +kernel
theorem dX1_numberOf_97 : decode cX1_numberOf 97 = .ok (.aload_n 1, 1) := by decide +kernel
theorem dX1_numberOf_98 : decode cX1_numberOf 98 = .ok (.aload_n 1, 1) := by decide +kernel
theorem dX1_numberOf_99 : decode cX1_numberOf 99 = .ok (.getfield 64, 3) := by decide +kernel
theorem dX1_numberOf_102 : decode cX1_numberOf 102 = .ok (.invokevirtual 71, 3) := by decide +kernel
theorem dX1_numberOf_105 : decode cX1_numberOf 105 = .ok (.ireturn, 1) := by decide +kernel
theorem dX1_numberOf_106 : decode cX1_numberOf 106 = .ok (.aload_n 0, 1) := by decide +kernel
theorem dX1_numberOf_107 : decode cX1_numberOf 107 = .ok (.aload_n 1, 1) := by decide +kernel
theorem dX1_numberOf_108 : decode cX1_numberOf 108 = .ok (.aload_n 0, 1) := by decide +kernel
theorem dX1_numberOf_109 : decode cX1_numberOf 109 = .ok (.aload_n 1, 1) := by decide +kernel
theorem dX1_numberOf_110 : decode cX1_numberOf 110 = .ok (.aload_n 1, 1) := by decide +kernel
theorem dX1_numberOf_111 : decode cX1_numberOf 111 = .ok (.getfield 64, 3) := by decide +kernel
theorem dX1_numberOf_114 : decode cX1_numberOf 114 = .ok (.invokevirtual 71, 3) := by decide +kernel
theorem dX1_numberOf_117 : decode cX1_numberOf 117 = .ok (.invokevirtual 84, 3) := by decide +kernel
theorem dX1_numberOf_120 : decode cX1_numberOf 120 = .ok (.ireturn, 1) := by decide +kernel
theorem dX1_numberOf_121 : decode cX1_numberOf 121 = .ok (.aload_n 0, 1) := by decide +kernel
theorem dX1_numberOf_122 : decode cX1_numberOf 122 = .ok (.aload_n 1, 1) := by decide +kernel
theorem dX1_numberOf_123 : decode cX1_numberOf 123 = .ok (.aload_n 1, 1) := by decide +kernel
theorem dX1_numberOf_124 : decode cX1_numberOf 124 = .ok (.getfield 64, 3) := by decide +kernel
theorem dX1_numberOf_127 : decode cX1_numberOf 127 = .ok (.invokevirtual 67, 3) := by decide +kernel
theorem dX1_numberOf_130 : decode cX1_numberOf 130 = .ok (.ireturn, 1) := by decide +kernel
theorem dX1_tally_0 : decode cX1_tally 0 = .ok (.iload_n 1, 1) := by decide +kernel
theorem dX1_tally_1 : decode cX1_tally 1 = .ok (.tableswitch 87 0 7 #[47, 52, 57, 62, 67, 72, 77, 82], 47) := by decide +kernel
theorem dX1_tally_48 : decode cX1_tally 48 = .ok (.aload_n 0, 1) := by decide +kernel
theorem dX1_tally_49 : decode cX1_tally 49 = .ok (.getfield 31, 3) := by decide +kernel
theorem dX1_tally_52 : decode cX1_tally 52 = .ok (.ireturn, 1) := by decide +kernel
theorem dX1_tally_53 : decode cX1_tally 53 = .ok (.aload_n 0, 1) := by decide +kernel
theorem dX1_tally_54 : decode cX1_tally 54 = .ok (.invokevirtual 132, 3) := by decide +kernel
theorem dX1_tally_57 : decode cX1_tally 57 = .ok (.ireturn, 1) := by decide +kernel
theorem dX1_tally_58 : decode cX1_tally 58 = .ok (.aload_n 0, 1) := by decide +kernel
theorem dX1_tally_59 : decode cX1_tally 59 = .ok (.invokevirtual 135, 3) := by decide +kernel
theorem dX1_tally_62 : decode cX1_tally 62 = .ok (.ireturn, 1) := by decide +kernel
theorem dX1_tally_63 : decode cX1_tally 63 = .ok (.aload_n 0, 1) := by decide +kernel
theorem dX1_tally_64 : decode cX1_tally 64 = .ok (.getfield 45, 3) := by decide +kernel
theorem dX1_tally_67 : decode cX1_tally 67 = .ok (.ireturn, 1) := by decide +kernel
theorem dX1_tally_68 : decode cX1_tally 68 = .ok (.aload_n 0, 1) := by decide +kernel
theorem dX1_tally_69 : decode cX1_tally 69 = .ok (.getfield 48, 3) := by decide +kernel
theorem dX1_tally_72 : decode cX1_tally 72 = .ok (.ireturn, 1) := by decide +kernel
theorem dX1_tally_73 : decode cX1_tally 73 = .ok (.aload_n 0, 1) := by decide +kernel
theorem dX1_tally_74 : decode cX1_tally 74 = .ok (.getfield 51, 3) := by decide +kernel
theorem dX1_tally_77 : decode cX1_tally 77 = .ok (.ireturn, 1) := by decide +kernel
theorem dX1_tally_78 : decode cX1_tally 78 = .ok (.aload_n 0, 1) := by decide +kernel
theorem dX1_tally_79 : decode cX1_tally 79 = .ok (.getfield 54, 3) := by decide +kernel
theorem dX1_tally_82 : decode cX1_tally 82 = .ok (.ireturn, 1) := by decide +kernel
theorem dX1_tally_83 : decode cX1_tally 83 = .ok (.aload_n 0, 1) := by decide +kernel
theorem dX1_tally_84 : decode cX1_tally 84 = .ok (.getfield 57, 3) := by decide +kernel
theorem dX1_tally_87 : decode cX1_tally 87 = .ok (.ireturn, 1) := by decide +kernel
theorem dX1_tally_88 : decode cX1_tally 88 = .ok (.aload_n 0, 1) := by decide +kernel
theorem dX1_tally_89 : decode cX1_tally 89 = .ok (.invokevirtual 138, 3) := by decide +kernel
theorem dX1_tally_92 : decode cX1_tally 92 = .ok (.ireturn, 1) := by decide +kernel
theorem dX1_bandOf_0 : decode cX1_bandOf 0 = .ok (.iload_n 0, 1) := by decide +kernel
theorem dX1_bandOf_1 : decode cX1_bandOf 1 = .ok (.iconst 1, 1) := by decide +kernel
theorem dX1_bandOf_2 : decode cX1_bandOf 2 = .ok (.isub, 1) := by decide +kernel
theorem dX1_bandOf_3 : decode cX1_bandOf 3 = .ok (.bipush 50, 2) := by decide +kernel
theorem dX1_bandOf_5 : decode cX1_bandOf 5 = .ok (.idiv, 1) := by decide +kernel
theorem dX1_bandOf_6 : decode cX1_bandOf 6 = .ok (.istore_n 1, 1) := by decide +kernel
theorem dX1_bandOf_7 : decode cX1_bandOf 7 = .ok (.iload_n 1, 1) := by decide +kernel
theorem dX1_bandOf_8 : decode cX1_bandOf 8 = .ok (.ifCond .ge 5, 3) := by decide +kernel
theorem dX1_bandOf_11 : decode cX1_bandOf 11 = .ok (.iconst 0, 1) := by decide +kernel
theorem dX1_bandOf_12 : decode cX1_bandOf 12 = .ok (.ireturn, 1) := by decide +kernel
theorem dX1_bandOf_13 : decode cX1_bandOf 13 = .ok (.iload_n 1, 1) := by decide +kernel
theorem dX1_bandOf_14 : decode cX1_bandOf 14 = .ok (.bipush 12, 2) := by decide +kernel
theorem dX1_bandOf_16 : decode cX1_bandOf 16 = .ok (.if_icmp .ge 7, 3) := by decide +kernel
theorem dX1_bandOf_19 : decode cX1_bandOf 19 = .ok (.iload_n 1, 1) := by decide +kernel
theorem dX1_bandOf_20 : decode cX1_bandOf 20 = .ok (.goto 5, 3) := by decide +kernel
theorem dX1_bandOf_23 : decode cX1_bandOf 23 = .ok (.bipush 11, 2) := by decide +kernel
theorem dX1_bandOf_25 : decode cX1_bandOf 25 = .ok (.ireturn, 1) := by decide +kernel
theorem dX1_takenParcels_0 : decode cX1_takenParcels 0 = .ok (.iconst 0, 1) := by decide +kernel
theorem dX1_takenParcels_1 : decode cX1_takenParcels 1 = .ok (.istore_n 1, 1) := by decide +kernel
theorem dX1_takenParcels_2 : decode cX1_takenParcels 2 = .ok (.iconst 0, 1) := by decide +kernel
theorem dX1_takenParcels_3 : decode cX1_takenParcels 3 = .ok (.istore_n 2, 1) := by decide +kernel
theorem dX1_takenParcels_4 : decode cX1_takenParcels 4 = .ok (.iload_n 2, 1) := by decide +kernel
theorem dX1_takenParcels_5 : decode cX1_takenParcels 5 = .ok (.aload_n 0, 1) := by decide +kernel
theorem dX1_takenParcels_6 : decode cX1_takenParcels 6 = .ok (.getfield 31, 3) := by decide +kernel
theorem dX1_takenParcels_9 : decode cX1_takenParcels 9 = .ok (.if_icmp .ge 34, 3) := by decide +kernel
theorem dX1_takenParcels_12 : decode cX1_takenParcels 12 = .ok (.iload_n 2, 1) := by decide +kernel
theorem dX1_takenParcels_13 : decode cX1_takenParcels 13 = .ok (.aload_n 0, 1) := by decide +kernel
theorem dX1_takenParcels_14 : decode cX1_takenParcels 14 = .ok (.getfield 11, 3) := by decide +kernel
theorem dX1_takenParcels_17 : decode cX1_takenParcels 17 = .ok (.arraylength, 1) := by decide +kernel
theorem dX1_takenParcels_18 : decode cX1_takenParcels 18 = .ok (.if_icmp .ge 25, 3) := by decide +kernel
theorem dX1_takenParcels_21 : decode cX1_takenParcels 21 = .ok (.aload_n 0, 1) := by decide +kernel
theorem dX1_takenParcels_22 : decode cX1_takenParcels 22 = .ok (.aload_n 0, 1) := by decide +kernel
theorem dX1_takenParcels_23 : decode cX1_takenParcels 23 = .ok (.getfield 11, 3) := by decide +kernel
theorem dX1_takenParcels_26 : decode cX1_takenParcels 26 = .ok (.iload_n 2, 1) := by decide +kernel
theorem dX1_takenParcels_27 : decode cX1_takenParcels 27 = .ok (.aaload, 1) := by decide +kernel
theorem dX1_takenParcels_28 : decode cX1_takenParcels 28 = .ok (.invokevirtual 120, 3) := by decide +kernel
theorem dX1_takenParcels_31 : decode cX1_takenParcels 31 = .ok (.ifCond .eq 6, 3) := by decide +kernel
theorem dX1_takenParcels_34 : decode cX1_takenParcels 34 = .ok (.iinc 1 1, 3) := by decide +kernel
theorem dX1_takenParcels_37 : decode cX1_takenParcels 37 = .ok (.iinc 2 1, 3) := by decide +kernel
theorem dX1_takenParcels_40 : decode cX1_takenParcels 40 = .ok (.goto (-36), 3) := by decide +kernel
theorem dX1_takenParcels_43 : decode cX1_takenParcels 43 = .ok (.iload_n 1, 1) := by decide +kernel
theorem dX1_takenParcels_44 : decode cX1_takenParcels 44 = .ok (.ireturn, 1) := by decide +kernel
theorem dX1_oddParcels_0 : decode cX1_oddParcels 0 = .ok (.iconst 0, 1) := by decide +kernel
theorem dX1_oddParcels_1 : decode cX1_oddParcels 1 = .ok (.istore_n 1, 1) := by decide +kernel
theorem dX1_oddParcels_2 : decode cX1_oddParcels 2 = .ok (.iconst 0, 1) := by decide +kernel
theorem dX1_oddParcels_3 : decode cX1_oddParcels 3 = .ok (.istore_n 2, 1) := by decide +kernel
theorem dX1_oddParcels_4 : decode cX1_oddParcels 4 = .ok (.iload_n 2, 1) := by decide +kernel
theorem dX1_oddParcels_5 : decode cX1_oddParcels 5 = .ok (.aload_n 0, 1) := by decide +kernel
theorem dX1_oddParcels_6 : decode cX1_oddParcels 6 = .ok (.getfield 31, 3) := by decide +kernel
theorem dX1_oddParcels_9 : decode cX1_oddParcels 9 = .ok (.if_icmp .ge 34, 3) := by decide +kernel
theorem dX1_oddParcels_12 : decode cX1_oddParcels 12 = .ok (.iload_n 2, 1) := by decide +kernel
theorem dX1_oddParcels_13 : decode cX1_oddParcels 13 = .ok (.aload_n 0, 1) := by decide +kernel
theorem dX1_oddParcels_14 : decode cX1_oddParcels 14 = .ok (.getfield 11, 3) := by decide +kernel
theorem dX1_oddParcels_17 : decode cX1_oddParcels 17 = .ok (.arraylength, 1) := by decide +kernel
theorem dX1_oddParcels_18 : decode cX1_oddParcels 18 = .ok (.if_icmp .ge 25, 3) := by decide +kernel
theorem dX1_oddParcels_21 : decode cX1_oddParcels 21 = .ok (.aload_n 0, 1) := by decide +kernel
theorem dX1_oddParcels_22 : decode cX1_oddParcels 22 = .ok (.aload_n 0, 1) := by decide +kernel
theorem dX1_oddParcels_23 : decode cX1_oddParcels 23 = .ok (.getfield 11, 3) := by decide +kernel
theorem dX1_oddParcels_26 : decode cX1_oddParcels 26 = .ok (.iload_n 2, 1) := by decide +kernel
theorem dX1_oddParcels_27 : decode cX1_oddParcels 27 = .ok (.aaload, 1) := by decide +kernel
theorem dX1_oddParcels_28 : decode cX1_oddParcels 28 = .ok (.invokevirtual 110, 3) := by decide +kernel
theorem dX1_oddParcels_31 : decode cX1_oddParcels 31 = .ok (.ifCond .eq 6, 3) := by decide +kernel
theorem dX1_oddParcels_34 : decode cX1_oddParcels 34 = .ok (.iinc 1 1, 3) := by decide +kernel
theorem dX1_oddParcels_37 : decode cX1_oddParcels 37 = .ok (.iinc 2 1, 3) := by decide +kernel
theorem dX1_oddParcels_40 : decode cX1_oddParcels 40 = .ok (.goto (-36), 3) := by decide +kernel
theorem dX1_oddParcels_43 : decode cX1_oddParcels 43 = .ok (.iload_n 1, 1) := by decide +kernel
theorem dX1_oddParcels_44 : decode cX1_oddParcels 44 = .ok (.ireturn, 1) := by decide +kernel
theorem dX1_undercutBands_0 : decode cX1_undercutBands 0 = .ok (.iconst 0, 1) := by decide +kernel
theorem dX1_undercutBands_1 : decode cX1_undercutBands 1 = .ok (.istore_n 1, 1) := by decide +kernel
theorem dX1_undercutBands_2 : decode cX1_undercutBands 2 = .ok (.iconst 0, 1) := by decide +kernel
theorem dX1_undercutBands_3 : decode cX1_undercutBands 3 = .ok (.istore_n 2, 1) := by decide +kernel
theorem dX1_undercutBands_4 : decode cX1_undercutBands 4 = .ok (.iconst 0, 1) := by decide +kernel
theorem dX1_undercutBands_5 : decode cX1_undercutBands 5 = .ok (.istore_n 3, 1) := by decide +kernel
theorem dX1_undercutBands_6 : decode cX1_undercutBands 6 = .ok (.iload_n 3, 1) := by decide +kernel
theorem dX1_undercutBands_7 : decode cX1_undercutBands 7 = .ok (.aload_n 0, 1) := by decide +kernel
theorem dX1_undercutBands_8 : decode cX1_undercutBands 8 = .ok (.getfield 17, 3) := by decide +kernel
theorem dX1_undercutBands_11 : decode cX1_undercutBands 11 = .ok (.arraylength, 1) := by decide +kernel
theorem dX1_undercutBands_12 : decode cX1_undercutBands 12 = .ok (.if_icmp .ge 33, 3) := by decide +kernel
theorem dX1_undercutBands_15 : decode cX1_undercutBands 15 = .ok (.aload_n 0, 1) := by decide +kernel
theorem dX1_undercutBands_16 : decode cX1_undercutBands 16 = .ok (.getfield 17, 3) := by decide +kernel
theorem dX1_undercutBands_19 : decode cX1_undercutBands 19 = .ok (.iload_n 3, 1) := by decide +kernel
theorem dX1_undercutBands_20 : decode cX1_undercutBands 20 = .ok (.iaload, 1) := by decide +kernel
theorem dX1_undercutBands_21 : decode cX1_undercutBands 21 = .ok (.iload_n 2, 1) := by decide +kernel
theorem dX1_undercutBands_22 : decode cX1_undercutBands 22 = .ok (.if_icmp .ge 6, 3) := by decide +kernel
theorem dX1_undercutBands_25 : decode cX1_undercutBands 25 = .ok (.iinc 1 1, 3) := by decide +kernel
theorem dX1_undercutBands_28 : decode cX1_undercutBands 28 = .ok (.iload_n 2, 1) := by decide +kernel
theorem dX1_undercutBands_29 : decode cX1_undercutBands 29 = .ok (.aload_n 0, 1) := by decide +kernel
theorem dX1_undercutBands_30 : decode cX1_undercutBands 30 = .ok (.getfield 17, 3) := by decide +kernel
theorem dX1_undercutBands_33 : decode cX1_undercutBands 33 = .ok (.iload_n 3, 1) := by decide +kernel
theorem dX1_undercutBands_34 : decode cX1_undercutBands 34 = .ok (.iaload, 1) := by decide +kernel
theorem dX1_undercutBands_35 : decode cX1_undercutBands 35 = .ok (.invokestatic 117, 3) := by decide +kernel
theorem dX1_undercutBands_38 : decode cX1_undercutBands 38 = .ok (.istore_n 2, 1) := by decide +kernel
theorem dX1_undercutBands_39 : decode cX1_undercutBands 39 = .ok (.iinc 3 1, 3) := by decide +kernel
theorem dX1_undercutBands_42 : decode cX1_undercutBands 42 = .ok (.goto (-36), 3) := by decide +kernel
theorem dX1_undercutBands_45 : decode cX1_undercutBands 45 = .ok (.iload_n 1, 1) := by decide +kernel
theorem dX1_undercutBands_46 : decode cX1_undercutBands 46 = .ok (.ireturn, 1) := by decide +kernel
theorem dX2_init_0 : decode cX2_init 0 = .ok (.aload_n 0, 1) := by decide +kernel
theorem dX2_init_1 : decode cX2_init 1 = .ok (.invokespecial 3, 3) := by decide +kernel
theorem dX2_init_4 : decode cX2_init 4 = .ok (.return_, 1) := by decide +kernel
theorem dX2_fill_0 : decode cX2_fill 0 = .ok (.aload_n 0, 1) := by decide +kernel
theorem dX2_fill_1 : decode cX2_fill 1 = .ok (.iload_n 1, 1) := by decide +kernel
theorem dX2_fill_2 : decode cX2_fill 2 = .ok (.iload_n 2, 1) := by decide +kernel
theorem dX2_fill_3 : decode cX2_fill 3 = .ok (.iload_n 3, 1) := by decide +kernel
theorem dX2_fill_4 : decode cX2_fill 4 = .ok (.invokevirtual 9, 3) := by decide +kernel
theorem dX2_fill_7 : decode cX2_fill 7 = .ok (.aload_n 0, 1) := by decide +kernel
theorem dX2_fill_8 : decode cX2_fill 8 = .ok (.iload 4, 2) := by decide +kernel
theorem dX2_fill_10 : decode cX2_fill 10 = .ok (.putfield 15, 3) := by decide +kernel
theorem dX2_fill_13 : decode cX2_fill 13 = .ok (.aload_n 0, 1) := by decide +kernel
theorem dX2_fill_14 : decode cX2_fill 14 = .ok (.iload 5, 2) := by decide +kernel
theorem dX2_fill_16 : decode cX2_fill 16 = .ok (.putfield 19, 3) := by decide +kernel
theorem dX2_fill_19 : decode cX2_fill 19 = .ok (.aload_n 0, 1) := by decide +kernel
theorem dX2_fill_20 : decode cX2_fill 20 = .ok (.iconst 0, 1) := by decide +kernel
theorem dX2_fill_21 : decode cX2_fill 21 = .ok (.putfield 22, 3) := by decide +kernel
theorem dX2_fill_24 : decode cX2_fill 24 = .ok (.aload_n 0, 1) := by decide +kernel
theorem dX2_fill_25 : decode cX2_fill 25 = .ok (.iload 6, 2) := by decide +kernel
theorem dX2_fill_27 : decode cX2_fill 27 = .ok (.putfield 25, 3) := by decide +kernel
theorem dX2_fill_30 : decode cX2_fill 30 = .ok (.return_, 1) := by decide +kernel
theorem dX2_copyFrom_0 : decode cX2_copyFrom 0 = .ok (.aload_n 0, 1) := by decide +kernel
theorem dX2_copyFrom_1 : decode cX2_copyFrom 1 = .ok (.aload_n 1, 1) := by decide +kernel
theorem dX2_copyFrom_2 : decode cX2_copyFrom 2 = .ok (.getfield 28, 3) := by decide +kernel
theorem dX2_copyFrom_5 : decode cX2_copyFrom 5 = .ok (.putfield 28, 3) := by decide +kernel
theorem dX2_copyFrom_8 : decode cX2_copyFrom 8 = .ok (.aload_n 0, 1) := by decide +kernel
theorem dX2_copyFrom_9 : decode cX2_copyFrom 9 = .ok (.aload_n 1, 1) := by decide +kernel
theorem dX2_copyFrom_10 : decode cX2_copyFrom 10 = .ok (.getfield 31, 3) := by decide +kernel
theorem dX2_copyFrom_13 : decode cX2_copyFrom 13 = .ok (.putfield 31, 3) := by decide +kernel
theorem dX2_copyFrom_16 : decode cX2_copyFrom 16 = .ok (.aload_n 0, 1) := by decide +kernel
theorem dX2_copyFrom_17 : decode cX2_copyFrom 17 = .ok (.aload_n 1, 1) := by decide +kernel
theorem dX2_copyFrom_18 : decode cX2_copyFrom 18 = .ok (.getfield 34, 3) := by decide +kernel
theorem dX2_copyFrom_21 : decode cX2_copyFrom 21 = .ok (.putfield 34, 3) := by decide +kernel
theorem dX2_copyFrom_24 : decode cX2_copyFrom 24 = .ok (.aload_n 0, 1) := by decide +kernel
theorem dX2_copyFrom_25 : decode cX2_copyFrom 25 = .ok (.aload_n 1, 1) := by decide +kernel
theorem dX2_copyFrom_26 : decode cX2_copyFrom 26 = .ok (.getfield 15, 3) := by decide +kernel
theorem dX2_copyFrom_29 : decode cX2_copyFrom 29 = .ok (.putfield 15, 3) := by decide +kernel
theorem dX2_copyFrom_32 : decode cX2_copyFrom 32 = .ok (.aload_n 0, 1) := by decide +kernel
theorem dX2_copyFrom_33 : decode cX2_copyFrom 33 = .ok (.aload_n 1, 1) := by decide +kernel
theorem dX2_copyFrom_34 : decode cX2_copyFrom 34 = .ok (.getfield 19, 3) := by decide +kernel
theorem dX2_copyFrom_37 : decode cX2_copyFrom 37 = .ok (.putfield 19, 3) := by decide +kernel
theorem dX2_copyFrom_40 : decode cX2_copyFrom 40 = .ok (.aload_n 0, 1) := by decide +kernel
theorem dX2_copyFrom_41 : decode cX2_copyFrom 41 = .ok (.aload_n 1, 1) := by decide +kernel
theorem dX2_copyFrom_42 : decode cX2_copyFrom 42 = .ok (.getfield 22, 3) := by decide +kernel
theorem dX2_copyFrom_45 : decode cX2_copyFrom 45 = .ok (.putfield 22, 3) := by decide +kernel
theorem dX2_copyFrom_48 : decode cX2_copyFrom 48 = .ok (.aload_n 0, 1) := by decide +kernel
theorem dX2_copyFrom_49 : decode cX2_copyFrom 49 = .ok (.aload_n 1, 1) := by decide +kernel
theorem dX2_copyFrom_50 : decode cX2_copyFrom 50 = .ok (.getfield 25, 3) := by decide +kernel
theorem dX2_copyFrom_53 : decode cX2_copyFrom 53 = .ok (.putfield 25, 3) := by decide +kernel
theorem dX2_copyFrom_56 : decode cX2_copyFrom 56 = .ok (.return_, 1) := by decide +kernel
theorem dX2_becomeBundle_0 : decode cX2_becomeBundle 0 = .ok (.aload_n 0, 1) := by decide +kernel
theorem dX2_becomeBundle_1 : decode cX2_becomeBundle 1 = .ok (.aload_n 1, 1) := by decide +kernel
theorem dX2_becomeBundle_2 : decode cX2_becomeBundle 2 = .ok (.getfield 28, 3) := by decide +kernel
theorem dX2_becomeBundle_5 : decode cX2_becomeBundle 5 = .ok (.aload_n 2, 1) := by decide +kernel
theorem dX2_becomeBundle_6 : decode cX2_becomeBundle 6 = .ok (.getfield 28, 3) := by decide +kernel
theorem dX2_becomeBundle_9 : decode cX2_becomeBundle 9 = .ok (.invokestatic 37, 3) := by decide +kernel
theorem dX2_becomeBundle_12 : decode cX2_becomeBundle 12 = .ok (.aload_n 1, 1) := by decide +kernel
theorem dX2_becomeBundle_13 : decode cX2_becomeBundle 13 = .ok (.getfield 31, 3) := by decide +kernel
theorem dX2_becomeBundle_16 : decode cX2_becomeBundle 16 = .ok (.aload_n 2, 1) := by decide +kernel
theorem dX2_becomeBundle_17 : decode cX2_becomeBundle 17 = .ok (.getfield 31, 3) := by decide +kernel
theorem dX2_becomeBundle_20 : decode cX2_becomeBundle 20 = .ok (.invokestatic 37, 3) := by decide +kernel
theorem dX2_becomeBundle_23 : decode cX2_becomeBundle 23 = .ok (.aload_n 1, 1) := by decide +kernel
theorem dX2_becomeBundle_24 : decode cX2_becomeBundle 24 = .ok (.getfield 34, 3) := by decide +kernel
theorem dX2_becomeBundle_27 : decode cX2_becomeBundle 27 = .ok (.aload_n 2, 1) := by decide +kernel
theorem dX2_becomeBundle_28 : decode cX2_becomeBundle 28 = .ok (.getfield 34, 3) := by decide +kernel
theorem dX2_becomeBundle_31 : decode cX2_becomeBundle 31 = .ok (.iadd, 1) := by decide +kernel
theorem dX2_becomeBundle_32 : decode cX2_becomeBundle 32 = .ok (.invokevirtual 9, 3) := by decide +kernel
theorem dX2_becomeBundle_35 : decode cX2_becomeBundle 35 = .ok (.aload_n 0, 1) := by decide +kernel
theorem dX2_becomeBundle_36 : decode cX2_becomeBundle 36 = .ok (.aload_n 1, 1) := by decide +kernel
theorem dX2_becomeBundle_37 : decode cX2_becomeBundle 37 = .ok (.getfield 15, 3) := by decide +kernel
theorem dX2_becomeBundle_40 : decode cX2_becomeBundle 40 = .ok (.aload_n 2, 1) := by decide +kernel
theorem dX2_becomeBundle_41 : decode cX2_becomeBundle 41 = .ok (.getfield 15, 3) := by decide +kernel
theorem dX2_becomeBundle_44 : decode cX2_becomeBundle 44 = .ok (.iadd, 1) := by decide +kernel
theorem dX2_becomeBundle_45 : decode cX2_becomeBundle 45 = .ok (.putfield 15, 3) := by decide +kernel
theorem dX2_becomeBundle_48 : decode cX2_becomeBundle 48 = .ok (.aload_n 0, 1) := by decide +kernel
theorem dX2_becomeBundle_49 : decode cX2_becomeBundle 49 = .ok (.aload_n 1, 1) := by decide +kernel
theorem dX2_becomeBundle_50 : decode cX2_becomeBundle 50 = .ok (.getfield 19, 3) := by decide +kernel
theorem dX2_becomeBundle_53 : decode cX2_becomeBundle 53 = .ok (.putfield 19, 3) := by decide +kernel
theorem dX2_becomeBundle_56 : decode cX2_becomeBundle 56 = .ok (.aload_n 0, 1) := by decide +kernel
theorem dX2_becomeBundle_57 : decode cX2_becomeBundle 57 = .ok (.aload_n 1, 1) := by decide +kernel
theorem dX2_becomeBundle_58 : decode cX2_becomeBundle 58 = .ok (.getfield 22, 3) := by decide +kernel
theorem dX2_becomeBundle_61 : decode cX2_becomeBundle 61 = .ok (.aload_n 2, 1) := by decide +kernel
theorem dX2_becomeBundle_62 : decode cX2_becomeBundle 62 = .ok (.getfield 22, 3) := by decide +kernel
theorem dX2_becomeBundle_65 : decode cX2_becomeBundle 65 = .ok (.iadd, 1) := by decide +kernel
theorem dX2_becomeBundle_66 : decode cX2_becomeBundle 66 = .ok (.putfield 22, 3) := by decide +kernel
theorem dX2_becomeBundle_69 : decode cX2_becomeBundle 69 = .ok (.aload_n 0, 1) := by decide +kernel
theorem dX2_becomeBundle_70 : decode cX2_becomeBundle 70 = .ok (.aload_n 1, 1) := by decide +kernel
theorem dX2_becomeBundle_71 : decode cX2_becomeBundle 71 = .ok (.getfield 25, 3) := by decide +kernel
theorem dX2_becomeBundle_74 : decode cX2_becomeBundle 74 = .ok (.aload_n 2, 1) := by decide +kernel
theorem dX2_becomeBundle_75 : decode cX2_becomeBundle 75 = .ok (.getfield 25, 3) := by decide +kernel
theorem dX2_becomeBundle_78 : decode cX2_becomeBundle 78 = .ok (.invokestatic 37, 3) := by decide +kernel
theorem dX2_becomeBundle_81 : decode cX2_becomeBundle 81 = .ok (.putfield 25, 3) := by decide +kernel
theorem dX2_becomeBundle_84 : decode cX2_becomeBundle 84 = .ok (.return_, 1) := by decide +kernel
theorem dX2_tie_0 : decode cX2_tie 0 = .ok (.aload_n 0, 1) := by decide +kernel
theorem dX2_tie_1 : decode cX2_tie 1 = .ok (.getfield 25, 3) := by decide +kernel
theorem dX2_tie_4 : decode cX2_tie 4 = .ok (.istore_n 2, 1) := by decide +kernel
theorem dX2_tie_5 : decode cX2_tie 5 = .ok (.aload_n 0, 1) := by decide +kernel
theorem dX2_tie_6 : decode cX2_tie 6 = .ok (.iload_n 1, 1) := by decide +kernel
theorem dX2_tie_7 : decode cX2_tie 7 = .ok (.putfield 25, 3) := by decide +kernel
theorem dX2_tie_10 : decode cX2_tie 10 = .ok (.iload_n 2, 1) := by decide +kernel
theorem dX2_tie_11 : decode cX2_tie 11 = .ok (.ireturn, 1) := by decide +kernel
theorem dX2_insure_0 : decode cX2_insure 0 = .ok (.aload_n 0, 1) := by decide +kernel
theorem dX2_insure_1 : decode cX2_insure 1 = .ok (.getfield 22, 3) := by decide +kernel
theorem dX2_insure_4 : decode cX2_insure 4 = .ok (.istore_n 2, 1) := by decide +kernel
theorem dX2_insure_5 : decode cX2_insure 5 = .ok (.aload_n 0, 1) := by decide +kernel
theorem dX2_insure_6 : decode cX2_insure 6 = .ok (.iload_n 1, 1) := by decide +kernel
theorem dX2_insure_7 : decode cX2_insure 7 = .ok (.putfield 22, 3) := by decide +kernel
theorem dX2_insure_10 : decode cX2_insure 10 = .ok (.iload_n 2, 1) := by decide +kernel
theorem dX2_insure_11 : decode cX2_insure 11 = .ok (.ireturn, 1) := by decide +kernel
theorem dX2_girth_0 : decode cX2_girth 0 = .ok (.aload_n 0, 1) := by decide +kernel
theorem dX2_girth_1 : decode cX2_girth 1 = .ok (.getfield 28, 3) := by decide +kernel
theorem dX2_girth_4 : decode cX2_girth 4 = .ok (.iconst 2, 1) := by decide +kernel
theorem dX2_girth_5 : decode cX2_girth 5 = .ok (.aload_n 0, 1) := by decide +kernel
theorem dX2_girth_6 : decode cX2_girth 6 = .ok (.getfield 31, 3) := by decide +kernel
theorem dX2_girth_9 : decode cX2_girth 9 = .ok (.aload_n 0, 1) := by decide +kernel
theorem dX2_girth_10 : decode cX2_girth 10 = .ok (.getfield 34, 3) := by decide +kernel
theorem dX2_girth_13 : decode cX2_girth 13 = .ok (.iadd, 1) := by decide +kernel
theorem dX2_girth_14 : decode cX2_girth 14 = .ok (.imul, 1) := by decide +kernel
theorem dX2_girth_15 : decode cX2_girth 15 = .ok (.iadd, 1) := by decide +kernel
theorem dX2_girth_16 : decode cX2_girth 16 = .ok (.ireturn, 1) := by decide +kernel
theorem dX2_stringWithoutKnots_0 : decode cX2_stringWithoutKnots 0 = .ok (.iload_n 1, 1) := by decide +kernel
theorem dX2_stringWithoutKnots_1 : decode cX2_stringWithoutKnots 1 = .ok (.ifCond .ne 15, 3) := by decide +kernel
theorem dX2_stringWithoutKnots_4 : decode cX2_stringWithoutKnots 4 = .ok (.iconst 2, 1) := by decide +kernel
theorem dX2_stringWithoutKnots_5 : decode cX2_stringWithoutKnots 5 = .ok (.aload_n 0, 1) := by decide +kernel
theorem dX2_stringWithoutKnots_6 : decode cX2_stringWithoutKnots 6 = .ok (.getfield 31, 3) := by decide +kernel
theorem dX2_stringWithoutKnots_9 : decode cX2_stringWithoutKnots 9 = .ok (.aload_n 0, 1) := by decide +kernel
theorem dX2_stringWithoutKnots_10 : decode cX2_stringWithoutKnots 10 = .ok (.getfield 34, 3) := by decide +kernel
theorem dX2_stringWithoutKnots_13 : decode cX2_stringWithoutKnots 13 = .ok (.iadd, 1) := by decide +kernel
theorem dX2_stringWithoutKnots_14 : decode cX2_stringWithoutKnots 14 = .ok (.imul, 1) := by decide +kernel
theorem dX2_stringWithoutKnots_15 : decode cX2_stringWithoutKnots 15 = .ok (.ireturn, 1) := by decide +kernel
theorem dX2_stringWithoutKnots_16 : decode cX2_stringWithoutKnots 16 = .ok (.iload_n 1, 1) := by decide +kernel
theorem dX2_stringWithoutKnots_17 : decode cX2_stringWithoutKnots 17 = .ok (.iconst 1, 1) := by decide +kernel
theorem dX2_stringWithoutKnots_18 : decode cX2_stringWithoutKnots 18 = .ok (.if_icmp .ne 24, 3) := by decide +kernel
theorem dX2_stringWithoutKnots_21 : decode cX2_stringWithoutKnots 21 = .ok (.iconst 2, 1) := by decide +kernel
theorem dX2_stringWithoutKnots_22 : decode cX2_stringWithoutKnots 22 = .ok (.aload_n 0, 1) := by decide +kernel
theorem dX2_stringWithoutKnots_23 : decode cX2_stringWithoutKnots 23 = .ok (.getfield 28, 3) := by decide +kernel
theorem dX2_stringWithoutKnots_26 : decode cX2_stringWithoutKnots 26 = .ok (.imul, 1) := by decide +kernel
theorem dX2_stringWithoutKnots_27 : decode cX2_stringWithoutKnots 27 = .ok (.iconst 2, 1) := by decide +kernel
theorem dX2_stringWithoutKnots_28 : decode cX2_stringWithoutKnots 28 = .ok (.aload_n 0, 1) := by decide +kernel
theorem dX2_stringWithoutKnots_29 : decode cX2_stringWithoutKnots 29 = .ok (.getfield 31, 3) := by decide +kernel
theorem dX2_stringWithoutKnots_32 : decode cX2_stringWithoutKnots 32 = .ok (.imul, 1) := by decide +kernel
theorem dX2_stringWithoutKnots_33 : decode cX2_stringWithoutKnots 33 = .ok (.iadd, 1) := by decide +kernel
theorem dX2_stringWithoutKnots_34 : decode cX2_stringWithoutKnots 34 = .ok (.iconst 4, 1) := by decide +kernel
theorem dX2_stringWithoutKnots_35 : decode cX2_stringWithoutKnots 35 = .ok (.aload_n 0, 1) := by decide +kernel
theorem dX2_stringWithoutKnots_36 : decode cX2_stringWithoutKnots 36 = .ok (.getfield 34, 3) := by decide +kernel
theorem dX2_stringWithoutKnots_39 : decode cX2_stringWithoutKnots 39 = .ok (.imul, 1) := by decide +kernel
theorem dX2_stringWithoutKnots_40 : decode cX2_stringWithoutKnots 40 = .ok (.iadd, 1) := by decide +kernel
theorem dX2_stringWithoutKnots_41 : decode cX2_stringWithoutKnots 41 = .ok (.ireturn, 1) := by decide +kernel
theorem dX2_stringWithoutKnots_42 : decode cX2_stringWithoutKnots 42 = .ok (.iconst 4, 1) := by decide +kernel
theorem dX2_stringWithoutKnots_43 : decode cX2_stringWithoutKnots 43 = .ok (.aload_n 0, 1) := by decide +kernel
theorem dX2_stringWithoutKnots_44 : decode cX2_stringWithoutKnots 44 = .ok (.getfield 28, 3) := by decide +kernel
theorem dX2_stringWithoutKnots_47 : decode cX2_stringWithoutKnots 47 = .ok (.imul, 1) := by decide +kernel
theorem dX2_stringWithoutKnots_48 : decode cX2_stringWithoutKnots 48 = .ok (.iconst 2, 1) := by decide +kernel
theorem dX2_stringWithoutKnots_49 : decode cX2_stringWithoutKnots 49 = .ok (.aload_n 0, 1) := by decide +kernel
theorem dX2_stringWithoutKnots_50 : decode cX2_stringWithoutKnots 50 = .ok (.getfield 31, 3) := by decide +kernel
theorem dX2_stringWithoutKnots_53 : decode cX2_stringWithoutKnots 53 = .ok (.imul, 1) := by decide +kernel
theorem dX2_stringWithoutKnots_54 : decode cX2_stringWithoutKnots 54 = .ok (.iadd, 1) := by decide +kernel
theorem dX2_stringWithoutKnots_55 : decode cX2_stringWithoutKnots 55 = .ok (.bipush 6, 2) := by decide +kernel
theorem dX2_stringWithoutKnots_57 : decode cX2_stringWithoutKnots 57 = .ok (.aload_n 0, 1) := by decide +kernel
theorem dX2_stringWithoutKnots_58 : decode cX2_stringWithoutKnots 58 = .ok (.getfield 34, 3) := by decide +kernel
theorem dX2_stringWithoutKnots_61 : decode cX2_stringWithoutKnots 61 = .ok (.imul, 1) := by decide +kernel
theorem dX2_stringWithoutKnots_62 : decode cX2_stringWithoutKnots 62 = .ok (.iadd, 1) := by decide +kernel
theorem dX2_stringWithoutKnots_63 : decode cX2_stringWithoutKnots 63 = .ok (.ireturn, 1) := by decide +kernel
theorem dX2_laySides_0 : decode cX2_laySides 0 = .ok (.aload_n 0, 1) := by decide +kernel
theorem dX2_laySides_1 : decode cX2_laySides 1 = .ok (.iload_n 1, 1) := by decide +kernel
theorem dX2_laySides_2 : decode cX2_laySides 2 = .ok (.iload_n 2, 1) := by decide +kernel
theorem dX2_laySides_3 : decode cX2_laySides 3 = .ok (.iload_n 3, 1) := by decide +kernel
theorem dX2_laySides_4 : decode cX2_laySides 4 = .ok (.invokestatic 37, 3) := by decide +kernel
theorem dX2_laySides_7 : decode cX2_laySides 7 = .ok (.invokestatic 37, 3) := by decide +kernel
theorem dX2_laySides_10 : decode cX2_laySides 10 = .ok (.putfield 28, 3) := by decide +kernel
theorem dX2_laySides_13 : decode cX2_laySides 13 = .ok (.aload_n 0, 1) := by decide +kernel
theorem dX2_laySides_14 : decode cX2_laySides 14 = .ok (.iload_n 1, 1) := by decide +kernel
theorem dX2_laySides_15 : decode cX2_laySides 15 = .ok (.iload_n 2, 1) := by decide +kernel
theorem dX2_laySides_16 : decode cX2_laySides 16 = .ok (.iload_n 3, 1) := by decide +kernel
theorem dX2_laySides_17 : decode cX2_laySides 17 = .ok (.invokestatic 43, 3) := by decide +kernel
theorem dX2_laySides_20 : decode cX2_laySides 20 = .ok (.invokestatic 43, 3) := by decide +kernel
theorem dX2_laySides_23 : decode cX2_laySides 23 = .ok (.putfield 34, 3) := by decide +kernel
theorem dX2_laySides_26 : decode cX2_laySides 26 = .ok (.aload_n 0, 1) := by decide +kernel
theorem dX2_laySides_27 : decode cX2_laySides 27 = .ok (.iload_n 1, 1) := by decide +kernel
theorem dX2_laySides_28 : decode cX2_laySides 28 = .ok (.iload_n 2, 1) := by decide +kernel
theorem dX2_laySides_29 : decode cX2_laySides 29 = .ok (.iadd, 1) := by decide +kernel
theorem dX2_laySides_30 : decode cX2_laySides 30 = .ok (.iload_n 3, 1) := by decide +kernel
theorem dX2_laySides_31 : decode cX2_laySides 31 = .ok (.iadd, 1) := by decide +kernel
theorem dX2_laySides_32 : decode cX2_laySides 32 = .ok (.aload_n 0, 1) := by decide +kernel
theorem dX2_laySides_33 : decode cX2_laySides 33 = .ok (.getfield 28, 3) := by decide +kernel
theorem dX2_laySides_36 : decode cX2_laySides 36 = .ok (.isub, 1) := by decide +kernel
theorem dX2_laySides_37 : decode cX2_laySides 37 = .ok (.aload_n 0, 1) := by decide +kernel
theorem dX2_laySides_38 : decode cX2_laySides 38 = .ok (.getfield 34, 3) := by decide +kernel
theorem dX2_laySides_41 : decode cX2_laySides 41 = .ok (.isub, 1) := by decide +kernel
theorem dX2_laySides_42 : decode cX2_laySides 42 = .ok (.putfield 31, 3) := by decide +kernel
theorem dX2_laySides_45 : decode cX2_laySides 45 = .ok (.return_, 1) := by decide +kernel
theorem dX3_init_0 : decode cX3_init 0 = .ok (.aload_n 0, 1) := by decide +kernel
theorem dX3_init_1 : decode cX3_init 1 = .ok (.invokespecial 3, 3) := by decide +kernel
theorem dX3_init_4 : decode cX3_init 4 = .ok (.aload_n 0, 1) := by decide +kernel
theorem dX3_init_5 : decode cX3_init 5 = .ok (.bipush 60, 2) := by decide +kernel
theorem dX3_init_7 : decode cX3_init 7 = .ok (.newarray .int, 2) := by decide +kernel
theorem dX3_init_9 : decode cX3_init 9 = .ok (.putfield 9, 3) := by decide +kernel
theorem dX3_init_12 : decode cX3_init 12 = .ok (.aload_n 0, 1) := by decide +kernel
theorem dX3_init_13 : decode cX3_init 13 = .ok (.bipush 6, 2) := by decide +kernel
theorem dX3_init_15 : decode cX3_init 15 = .ok (.newarray .int, 2) := by decide +kernel
theorem dX3_init_17 : decode cX3_init 17 = .ok (.putfield 15, 3) := by decide +kernel
theorem dX3_init_20 : decode cX3_init 20 = .ok (.return_, 1) := by decide +kernel
theorem dX3_hasRoom_0 : decode cX3_hasRoom 0 = .ok (.aload_n 0, 1) := by decide +kernel
theorem dX3_hasRoom_1 : decode cX3_hasRoom 1 = .ok (.getfield 18, 3) := by decide +kernel
theorem dX3_hasRoom_4 : decode cX3_hasRoom 4 = .ok (.aload_n 0, 1) := by decide +kernel
theorem dX3_hasRoom_5 : decode cX3_hasRoom 5 = .ok (.getfield 9, 3) := by decide +kernel
theorem dX3_hasRoom_8 : decode cX3_hasRoom 8 = .ok (.arraylength, 1) := by decide +kernel
theorem dX3_hasRoom_9 : decode cX3_hasRoom 9 = .ok (.if_icmp .ge 7, 3) := by decide +kernel
theorem dX3_hasRoom_12 : decode cX3_hasRoom 12 = .ok (.iconst 1, 1) := by decide +kernel
theorem dX3_hasRoom_13 : decode cX3_hasRoom 13 = .ok (.goto 4, 3) := by decide +kernel
theorem dX3_hasRoom_16 : decode cX3_hasRoom 16 = .ok (.iconst 0, 1) := by decide +kernel
theorem dX3_hasRoom_17 : decode cX3_hasRoom 17 = .ok (.ireturn, 1) := by decide +kernel
theorem dX3_add_0 : decode cX3_add 0 = .ok (.aload_n 0, 1) := by decide +kernel
theorem dX3_add_1 : decode cX3_add 1 = .ok (.invokevirtual 22, 3) := by decide +kernel
theorem dX3_add_4 : decode cX3_add 4 = .ok (.ifCond .eq 23, 3) := by decide +kernel
theorem dX3_add_7 : decode cX3_add 7 = .ok (.aload_n 0, 1) := by decide +kernel
theorem dX3_add_8 : decode cX3_add 8 = .ok (.getfield 9, 3) := by decide +kernel
theorem dX3_add_11 : decode cX3_add 11 = .ok (.aload_n 0, 1) := by decide +kernel
theorem dX3_add_12 : decode cX3_add 12 = .ok (.getfield 18, 3) := by decide +kernel
theorem dX3_add_15 : decode cX3_add 15 = .ok (.iload_n 1, 1) := by decide +kernel
theorem dX3_add_16 : decode cX3_add 16 = .ok (.iastore, 1) := by decide +kernel
theorem dX3_add_17 : decode cX3_add 17 = .ok (.aload_n 0, 1) := by decide +kernel
theorem dX3_add_18 : decode cX3_add 18 = .ok (.dup, 1) := by decide +kernel
theorem dX3_add_19 : decode cX3_add 19 = .ok (.getfield 18, 3) := by decide +kernel
theorem dX3_add_22 : decode cX3_add 22 = .ok (.iconst 1, 1) := by decide +kernel
theorem dX3_add_23 : decode cX3_add 23 = .ok (.iadd, 1) := by decide +kernel
theorem dX3_add_24 : decode cX3_add 24 = .ok (.putfield 18, 3) := by decide +kernel
theorem dX3_add_27 : decode cX3_add 27 = .ok (.return_, 1) := by decide +kernel
theorem dX3_clear_0 : decode cX3_clear 0 = .ok (.aload_n 0, 1) := by decide +kernel
theorem dX3_clear_1 : decode cX3_clear 1 = .ok (.iconst 0, 1) := by decide +kernel
theorem dX3_clear_2 : decode cX3_clear 2 = .ok (.putfield 18, 3) := by decide +kernel
theorem dX3_clear_5 : decode cX3_clear 5 = .ok (.return_, 1) := by decide +kernel
theorem dX3_errorPlace_0 : decode cX3_errorPlace 0 = .ok (.aload_n 0, 1) := by decide +kernel
theorem dX3_errorPlace_1 : decode cX3_errorPlace 1 = .ok (.invokevirtual 26, 3) := by decide +kernel
theorem dX3_errorPlace_4 : decode cX3_errorPlace 4 = .ok (.iconst 0, 1) := by decide +kernel
theorem dX3_errorPlace_5 : decode cX3_errorPlace 5 = .ok (.istore_n 1, 1) := by decide +kernel
theorem dX3_errorPlace_6 : decode cX3_errorPlace 6 = .ok (.iload_n 1, 1) := by decide +kernel
theorem dX3_errorPlace_7 : decode cX3_errorPlace 7 = .ok (.aload_n 0, 1) := by decide +kernel
theorem dX3_errorPlace_8 : decode cX3_errorPlace 8 = .ok (.getfield 18, 3) := by decide +kernel
theorem dX3_errorPlace_11 : decode cX3_errorPlace 11 = .ok (.if_icmp .ge 33, 3) := by decide +kernel
theorem dX3_errorPlace_14 : decode cX3_errorPlace 14 = .ok (.iload_n 1, 1) := by decide +kernel
theorem dX3_errorPlace_15 : decode cX3_errorPlace 15 = .ok (.aload_n 0, 1) := by decide +kernel
theorem dX3_errorPlace_16 : decode cX3_errorPlace 16 = .ok (.getfield 9, 3) := by decide +kernel
theorem dX3_errorPlace_19 : decode cX3_errorPlace 19 = .ok (.arraylength, 1) := by decide +kernel
theorem dX3_errorPlace_20 : decode cX3_errorPlace 20 = .ok (.if_icmp .ge 24, 3) := by decide +kernel
theorem dX3_errorPlace_23 : decode cX3_errorPlace 23 = .ok (.aload_n 0, 1) := by decide +kernel
theorem dX3_errorPlace_24 : decode cX3_errorPlace 24 = .ok (.aload_n 0, 1) := by decide +kernel
theorem dX3_errorPlace_25 : decode cX3_errorPlace 25 = .ok (.getfield 9, 3) := by decide +kernel
theorem dX3_errorPlace_28 : decode cX3_errorPlace 28 = .ok (.iload_n 1, 1) := by decide +kernel
theorem dX3_errorPlace_29 : decode cX3_errorPlace 29 = .ok (.iaload, 1) := by decide +kernel
theorem dX3_errorPlace_30 : decode cX3_errorPlace 30 = .ok (.invokevirtual 29, 3) := by decide +kernel
theorem dX3_errorPlace_33 : decode cX3_errorPlace 33 = .ok (.ifCond .ne 5, 3) := by decide +kernel
theorem dX3_errorPlace_36 : decode cX3_errorPlace 36 = .ok (.iload_n 1, 1) := by decide +kernel
theorem dX3_errorPlace_37 : decode cX3_errorPlace 37 = .ok (.ireturn, 1) := by decide +kernel
theorem dX3_errorPlace_38 : decode cX3_errorPlace 38 = .ok (.iinc 1 1, 3) := by decide +kernel
theorem dX3_errorPlace_41 : decode cX3_errorPlace 41 = .ok (.goto (-35), 3) := by decide +kernel
theorem dX3_errorPlace_44 : decode cX3_errorPlace 44 = .ok (.aload_n 0, 1) := by decide +kernel
theorem dX3_errorPlace_45 : decode cX3_errorPlace 45 = .ok (.getfield 18, 3) := by decide +kernel
theorem dX3_errorPlace_48 : decode cX3_errorPlace 48 = .ok (.ireturn, 1) := by decide +kernel
theorem dX3_tellsParcels_0 : decode cX3_tellsParcels 0 = .ok (.aload_n 0, 1) := by decide +kernel
theorem dX3_tellsParcels_1 : decode cX3_tellsParcels 1 = .ok (.invokevirtual 33, 3) := by decide +kernel
theorem dX3_tellsParcels_4 : decode cX3_tellsParcels 4 = .ok (.aload_n 0, 1) := by decide +kernel
theorem dX3_tellsParcels_5 : decode cX3_tellsParcels 5 = .ok (.getfield 18, 3) := by decide +kernel
theorem dX3_tellsParcels_8 : decode cX3_tellsParcels 8 = .ok (.if_icmp .ne 14, 3) := by decide +kernel
theorem dX3_tellsParcels_11 : decode cX3_tellsParcels 11 = .ok (.aload_n 0, 1) := by decide +kernel
theorem dX3_tellsParcels_12 : decode cX3_tellsParcels 12 = .ok (.invokevirtual 37, 3) := by decide +kernel
theorem dX3_tellsParcels_15 : decode cX3_tellsParcels 15 = .ok (.ifCond .eq 7, 3) := by decide +kernel
theorem dX3_tellsParcels_18 : decode cX3_tellsParcels 18 = .ok (.iconst 1, 1) := by decide +kernel
theorem dX3_tellsParcels_19 : decode cX3_tellsParcels 19 = .ok (.goto 4, 3) := by decide +kernel
theorem dX3_tellsParcels_22 : decode cX3_tellsParcels 22 = .ok (.iconst 0, 1) := by decide +kernel
theorem dX3_tellsParcels_23 : decode cX3_tellsParcels 23 = .ok (.ireturn, 1) := by decide +kernel
theorem dX3_startReading_0 : decode cX3_startReading 0 = .ok (.aload_n 0, 1) := by decide +kernel
theorem dX3_startReading_1 : decode cX3_startReading 1 = .ok (.iconst 0, 1) := by decide +kernel
theorem dX3_startReading_2 : decode cX3_startReading 2 = .ok (.putfield 40, 3) := by decide +kernel
theorem dX3_startReading_5 : decode cX3_startReading 5 = .ok (.aload_n 0, 1) := by decide +kernel
theorem dX3_startReading_6 : decode cX3_startReading 6 = .ok (.getfield 15, 3) := by decide +kernel
theorem dX3_startReading_9 : decode cX3_startReading 9 = .ok (.iconst 0, 1) := by decide +kernel
theorem dX3_startReading_10 : decode cX3_startReading 10 = .ok (.iconst 0, 1) := by decide +kernel
theorem dX3_startReading_11 : decode cX3_startReading 11 = .ok (.iastore, 1) := by decide +kernel
theorem dX3_startReading_12 : decode cX3_startReading 12 = .ok (.return_, 1) := by decide +kernel
theorem dX3_isAtParcelEnd_0 : decode cX3_isAtParcelEnd 0 = .ok (.aload_n 0, 1) := by decide +kernel
theorem dX3_isAtParcelEnd_1 : decode cX3_isAtParcelEnd 1 = .ok (.getfield 40, 3) := by decide +kernel
theorem dX3_isAtParcelEnd_4 : decode cX3_isAtParcelEnd 4 = .ok (.bipush 6, 2) := by decide +kernel
theorem dX3_isAtParcelEnd_6 : decode cX3_isAtParcelEnd 6 = .ok (.if_icmp .ne 7, 3) := by decide +kernel
theorem dX3_isAtParcelEnd_9 : decode cX3_isAtParcelEnd 9 = .ok (.iconst 1, 1) := by decide +kernel
theorem dX3_isAtParcelEnd_10 : decode cX3_isAtParcelEnd 10 = .ok (.goto 4, 3) := by decide +kernel
theorem dX3_isAtParcelEnd_13 : decode cX3_isAtParcelEnd 13 = .ok (.iconst 0, 1) := by decide +kernel
theorem dX3_isAtParcelEnd_14 : decode cX3_isAtParcelEnd 14 = .ok (.ireturn, 1) := by decide +kernel
theorem dX3_admitReadTo_0 : decode cX3_admitReadTo 0 = .ok (.aload_n 1, 1) := by decide +kernel
theorem dX3_admitReadTo_1 : decode cX3_admitReadTo 1 = .ok (.aload_n 0, 1) := by decide +kernel
theorem dX3_admitReadTo_2 : decode cX3_admitReadTo 2 = .ok (.getfield 15, 3) := by decide +kernel
theorem dX3_admitReadTo_5 : decode cX3_admitReadTo 5 = .ok (.iconst 0, 1) := by decide +kernel
theorem dX3_admitReadTo_6 : decode cX3_admitReadTo 6 = .ok (.iaload, 1) := by decide +kernel
theorem dX3_admitReadTo_7 : decode cX3_admitReadTo 7 = .ok (.aload_n 0, 1) := by decide +kernel
theorem dX3_admitReadTo_8 : decode cX3_admitReadTo 8 = .ok (.getfield 15, 3) := by decide +kernel
theorem dX3_admitReadTo_11 : decode cX3_admitReadTo 11 = .ok (.iconst 1, 1) := by decide +kernel
theorem dX3_admitReadTo_12 : decode cX3_admitReadTo 12 = .ok (.iaload, 1) := by decide +kernel
theorem dX3_admitReadTo_13 : decode cX3_admitReadTo 13 = .ok (.aload_n 0, 1) := by decide +kernel
theorem dX3_admitReadTo_14 : decode cX3_admitReadTo 14 = .ok (.getfield 15, 3) := by decide +kernel
theorem dX3_admitReadTo_17 : decode cX3_admitReadTo 17 = .ok (.iconst 2, 1) := by decide +kernel
theorem dX3_admitReadTo_18 : decode cX3_admitReadTo 18 = .ok (.iaload, 1) := by decide +kernel
theorem dX3_admitReadTo_19 : decode cX3_admitReadTo 19 = .ok (.aload_n 0, 1) := by decide +kernel
theorem dX3_admitReadTo_20 : decode cX3_admitReadTo 20 = .ok (.getfield 15, 3) := by decide +kernel
theorem dX3_admitReadTo_23 : decode cX3_admitReadTo 23 = .ok (.iconst 3, 1) := by decide +kernel
theorem dX3_admitReadTo_24 : decode cX3_admitReadTo 24 = .ok (.iaload, 1) := by decide +kernel
theorem dX3_admitReadTo_25 : decode cX3_admitReadTo 25 = .ok (.aload_n 0, 1) := by decide +kernel
theorem dX3_admitReadTo_26 : decode cX3_admitReadTo 26 = .ok (.getfield 15, 3) := by decide +kernel
theorem dX3_admitReadTo_29 : decode cX3_admitReadTo 29 = .ok (.iconst 4, 1) := by decide +kernel
theorem dX3_admitReadTo_30 : decode cX3_admitReadTo 30 = .ok (.iaload, 1) := by decide +kernel
theorem dX3_admitReadTo_31 : decode cX3_admitReadTo 31 = .ok (.aload_n 0, 1) := by decide +kernel
theorem dX3_admitReadTo_32 : decode cX3_admitReadTo 32 = .ok (.getfield 15, 3) := by decide +kernel
theorem dX3_admitReadTo_35 : decode cX3_admitReadTo 35 = .ok (.iconst 5, 1) := by decide +kernel
theorem dX3_admitReadTo_36 : decode cX3_admitReadTo 36 = .ok (.iaload, 1) := by decide +kernel
theorem dX3_admitReadTo_37 : decode cX3_admitReadTo 37 = .ok (.invokevirtual 43, 3) := by decide +kernel
theorem dX3_admitReadTo_40 : decode cX3_admitReadTo 40 = .ok (.ireturn, 1) := by decide +kernel
theorem dX3_reads_0 : decode cX3_reads 0 = .ok (.aload_n 0, 1) := by decide +kernel
theorem dX3_reads_1 : decode cX3_reads 1 = .ok (.getfield 40, 3) := by decide +kernel
theorem dX3_reads_4 : decode cX3_reads 4 = .ok (.iconst 4, 1) := by decide +kernel
theorem dX3_reads_5 : decode cX3_reads 5 = .ok (.if_icmp .ge 9, 3) := by decide +kernel
theorem dX3_reads_8 : decode cX3_reads 8 = .ok (.aload_n 0, 1) := by decide +kernel
theorem dX3_reads_9 : decode cX3_reads 9 = .ok (.iload_n 1, 1) := by decide +kernel
theorem dX3_reads_10 : decode cX3_reads 10 = .ok (.invokevirtual 49, 3) := by decide +kernel
theorem dX3_reads_13 : decode cX3_reads 13 = .ok (.ireturn, 1) := by decide +kernel
theorem dX3_reads_14 : decode cX3_reads 14 = .ok (.aload_n 0, 1) := by decide +kernel
theorem dX3_reads_15 : decode cX3_reads 15 = .ok (.getfield 40, 3) := by decide +kernel
theorem dX3_reads_18 : decode cX3_reads 18 = .ok (.iconst 4, 1) := by decide +kernel
theorem dX3_reads_19 : decode cX3_reads 19 = .ok (.if_icmp .ne 13, 3) := by decide +kernel
theorem dX3_reads_22 : decode cX3_reads 22 = .ok (.aload_n 0, 1) := by decide +kernel
theorem dX3_reads_23 : decode cX3_reads 23 = .ok (.iload_n 1, 1) := by decide +kernel
theorem dX3_reads_24 : decode cX3_reads 24 = .ok (.bipush 48, 2) := by decide +kernel
theorem dX3_reads_26 : decode cX3_reads 26 = .ok (.isub, 1) := by decide +kernel
theorem dX3_reads_27 : decode cX3_reads 27 = .ok (.iconst 4, 1) := by decide +kernel
theorem dX3_reads_28 : decode cX3_reads 28 = .ok (.invokevirtual 52, 3) := by decide +kernel
theorem dX3_reads_31 : decode cX3_reads 31 = .ok (.ireturn, 1) := by decide +kernel
theorem dX3_reads_32 : decode cX3_reads 32 = .ok (.aload_n 0, 1) := by decide +kernel
theorem dX3_reads_33 : decode cX3_reads 33 = .ok (.getfield 40, 3) := by decide +kernel
theorem dX3_reads_36 : decode cX3_reads 36 = .ok (.iconst 5, 1) := by decide +kernel
theorem dX3_reads_37 : decode cX3_reads 37 = .ok (.if_icmp .ne 13, 3) := by decide +kernel
theorem dX3_reads_40 : decode cX3_reads 40 = .ok (.aload_n 0, 1) := by decide +kernel
theorem dX3_reads_41 : decode cX3_reads 41 = .ok (.iload_n 1, 1) := by decide +kernel
theorem dX3_reads_42 : decode cX3_reads 42 = .ok (.invokestatic 56, 3) := by decide +kernel
theorem dX3_reads_45 : decode cX3_reads 45 = .ok (.iconst 3, 1) := by decide +kernel
theorem dX3_reads_46 : decode cX3_reads 46 = .ok (.invokevirtual 52, 3) := by decide +kernel
theorem dX3_reads_49 : decode cX3_reads 49 = .ok (.ireturn, 1) := by decide +kernel
theorem dX3_reads_50 : decode cX3_reads 50 = .ok (.iload_n 1, 1) := by decide +kernel
theorem dX3_reads_51 : decode cX3_reads 51 = .ok (.bipush 59, 2) := by decide +kernel
theorem dX3_reads_53 : decode cX3_reads 53 = .ok (.if_icmp .eq 5, 3) := by decide +kernel
theorem dX3_reads_56 : decode cX3_reads 56 = .ok (.iconst 0, 1) := by decide +kernel
theorem dX3_reads_57 : decode cX3_reads 57 = .ok (.ireturn, 1) := by decide +kernel
theorem dX3_reads_58 : decode cX3_reads 58 = .ok (.aload_n 0, 1) := by decide +kernel
theorem dX3_reads_59 : decode cX3_reads 59 = .ok (.invokevirtual 26, 3) := by decide +kernel
theorem dX3_reads_62 : decode cX3_reads 62 = .ok (.iconst 1, 1) := by decide +kernel
theorem dX3_reads_63 : decode cX3_reads 63 = .ok (.ireturn, 1) := by decide +kernel
theorem dX3_readsInNumber_0 : decode cX3_readsInNumber 0 = .ok (.iload_n 1, 1) := by decide +kernel
theorem dX3_readsInNumber_1 : decode cX3_readsInNumber 1 = .ok (.getstatic 60, 3) := by decide +kernel
theorem dX3_readsInNumber_4 : decode cX3_readsInNumber 4 = .ok (.aload_n 0, 1) := by decide +kernel
theorem dX3_readsInNumber_5 : decode cX3_readsInNumber 5 = .ok (.getfield 40, 3) := by decide +kernel
theorem dX3_readsInNumber_8 : decode cX3_readsInNumber 8 = .ok (.caload, 1) := by decide +kernel
theorem dX3_readsInNumber_9 : decode cX3_readsInNumber 9 = .ok (.if_icmp .ne 8, 3) := by decide +kernel
theorem dX3_readsInNumber_12 : decode cX3_readsInNumber 12 = .ok (.aload_n 0, 1) := by decide +kernel
theorem dX3_readsInNumber_13 : decode cX3_readsInNumber 13 = .ok (.invokevirtual 64, 3) := by decide +kernel
theorem dX3_readsInNumber_16 : decode cX3_readsInNumber 16 = .ok (.ireturn, 1) := by decide +kernel
theorem dX3_readsInNumber_17 : decode cX3_readsInNumber 17 = .ok (.iload_n 1, 1) := by decide +kernel
theorem dX3_readsInNumber_18 : decode cX3_readsInNumber 18 = .ok (.bipush 48, 2) := by decide +kernel
theorem dX3_readsInNumber_20 : decode cX3_readsInNumber 20 = .ok (.if_icmp .lt 9, 3) := by decide +kernel
theorem dX3_readsInNumber_23 : decode cX3_readsInNumber 23 = .ok (.iload_n 1, 1) := by decide +kernel
theorem dX3_readsInNumber_24 : decode cX3_readsInNumber 24 = .ok (.bipush 57, 2) := by decide +kernel
theorem dX3_readsInNumber_26 : decode cX3_readsInNumber 26 = .ok (.if_icmp .le 5, 3) := by decide +kernel
theorem dX3_readsInNumber_29 : decode cX3_readsInNumber 29 = .ok (.iconst 0, 1) := by decide +kernel
theorem dX3_readsInNumber_30 : decode cX3_readsInNumber 30 = .ok (.ireturn, 1) := by decide +kernel
theorem dX3_readsInNumber_31 : decode cX3_readsInNumber 31 = .ok (.bipush 10, 2) := by decide +kernel
theorem dX3_readsInNumber_33 : decode cX3_readsInNumber 33 = .ok (.aload_n 0, 1) := by decide +kernel
theorem dX3_readsInNumber_34 : decode cX3_readsInNumber 34 = .ok (.getfield 15, 3) := by decide +kernel
theorem dX3_readsInNumber_37 : decode cX3_readsInNumber 37 = .ok (.aload_n 0, 1) := by decide +kernel
theorem dX3_readsInNumber_38 : decode cX3_readsInNumber 38 = .ok (.getfield 40, 3) := by decide +kernel
theorem dX3_readsInNumber_41 : decode cX3_readsInNumber 41 = .ok (.iaload, 1) := by decide +kernel
theorem dX3_readsInNumber_42 : decode cX3_readsInNumber 42 = .ok (.imul, 1) := by decide +kernel
theorem dX3_readsInNumber_43 : decode cX3_readsInNumber 43 = .ok (.iload_n 1, 1) := by decide +kernel
theorem dX3_readsInNumber_44 : decode cX3_readsInNumber 44 = .ok (.bipush 48, 2) := by decide +kernel
theorem dX3_readsInNumber_46 : decode cX3_readsInNumber 46 = .ok (.isub, 1) := by decide +kernel
theorem dX3_readsInNumber_47 : decode cX3_readsInNumber 47 = .ok (.iadd, 1) := by decide +kernel
theorem dX3_readsInNumber_48 : decode cX3_readsInNumber 48 = .ok (.istore_n 2, 1) := by decide +kernel
theorem dX3_readsInNumber_49 : decode cX3_readsInNumber 49 = .ok (.iload_n 2, 1) := by decide +kernel
theorem dX3_readsInNumber_50 : decode cX3_readsInNumber 50 = .ok (.iconst 1, 1) := by decide +kernel
theorem dX3_readsInNumber_51 : decode cX3_readsInNumber 51 = .ok (.if_icmp .lt 15, 3) := by decide +kernel
theorem dX3_readsInNumber_54 : decode cX3_readsInNumber 54 = .ok (.iload_n 2, 1) := by decide +kernel
theorem dX3_readsInNumber_55 : decode cX3_readsInNumber 55 = .ok (.getstatic 67, 3) := by decide +kernel
theorem dX3_readsInNumber_58 : decode cX3_readsInNumber 58 = .ok (.aload_n 0, 1) := by decide +kernel
theorem dX3_readsInNumber_59 : decode cX3_readsInNumber 59 = .ok (.getfield 40, 3) := by decide +kernel
theorem dX3_readsInNumber_62 : decode cX3_readsInNumber 62 = .ok (.iaload, 1) := by decide +kernel
theorem dX3_readsInNumber_63 : decode cX3_readsInNumber 63 = .ok (.if_icmp .le 5, 3) := by decide +kernel
theorem dX3_readsInNumber_66 : decode cX3_readsInNumber 66 = .ok (.iconst 0, 1) := by decide +kernel
theorem dX3_readsInNumber_67 : decode cX3_readsInNumber 67 = .ok (.ireturn, 1) := by decide +kernel
theorem dX3_readsInNumber_68 : decode cX3_readsInNumber 68 = .ok (.aload_n 0, 1) := by decide +kernel
theorem dX3_readsInNumber_69 : decode cX3_readsInNumber 69 = .ok (.getfield 15, 3) := by decide +kernel
theorem dX3_readsInNumber_72 : decode cX3_readsInNumber 72 = .ok (.aload_n 0, 1) := by decide +kernel
theorem dX3_readsInNumber_73 : decode cX3_readsInNumber 73 = .ok (.getfield 40, 3) := by decide +kernel
theorem dX3_readsInNumber_76 : decode cX3_readsInNumber 76 = .ok (.iload_n 2, 1) := by decide +kernel
theorem dX3_readsInNumber_77 : decode cX3_readsInNumber 77 = .ok (.iastore, 1) := by decide +kernel
theorem dX3_readsInNumber_78 : decode cX3_readsInNumber 78 = .ok (.iconst 1, 1) := by decide +kernel
theorem dX3_readsInNumber_79 : decode cX3_readsInNumber 79 = .ok (.ireturn, 1) := by decide +kernel
theorem dX3_endsNumber_0 : decode cX3_endsNumber 0 = .ok (.aload_n 0, 1) := by decide +kernel
theorem dX3_endsNumber_1 : decode cX3_endsNumber 1 = .ok (.getfield 15, 3) := by decide +kernel
theorem dX3_endsNumber_4 : decode cX3_endsNumber 4 = .ok (.aload_n 0, 1) := by decide +kernel
theorem dX3_endsNumber_5 : decode cX3_endsNumber 5 = .ok (.getfield 40, 3) := by decide +kernel
theorem dX3_endsNumber_8 : decode cX3_endsNumber 8 = .ok (.iaload, 1) := by decide +kernel
theorem dX3_endsNumber_9 : decode cX3_endsNumber 9 = .ok (.ifCond .ne 5, 3) := by decide +kernel
theorem dX3_endsNumber_12 : decode cX3_endsNumber 12 = .ok (.iconst 0, 1) := by decide +kernel
theorem dX3_endsNumber_13 : decode cX3_endsNumber 13 = .ok (.ireturn, 1) := by decide +kernel
theorem dX3_endsNumber_14 : decode cX3_endsNumber 14 = .ok (.aload_n 0, 1) := by decide +kernel
theorem dX3_endsNumber_15 : decode cX3_endsNumber 15 = .ok (.dup, 1) := by decide +kernel
theorem dX3_endsNumber_16 : decode cX3_endsNumber 16 = .ok (.getfield 40, 3) := by decide +kernel
theorem dX3_endsNumber_19 : decode cX3_endsNumber 19 = .ok (.iconst 1, 1) := by decide +kernel
theorem dX3_endsNumber_20 : decode cX3_endsNumber 20 = .ok (.iadd, 1) := by decide +kernel
theorem dX3_endsNumber_21 : decode cX3_endsNumber 21 = .ok (.putfield 40, 3) := by decide +kernel
theorem dX3_endsNumber_24 : decode cX3_endsNumber 24 = .ok (.aload_n 0, 1) := by decide +kernel
theorem dX3_endsNumber_25 : decode cX3_endsNumber 25 = .ok (.getfield 15, 3) := by decide +kernel
theorem dX3_endsNumber_28 : decode cX3_endsNumber 28 = .ok (.aload_n 0, 1) := by decide +kernel
theorem dX3_endsNumber_29 : decode cX3_endsNumber 29 = .ok (.getfield 40, 3) := by decide +kernel
theorem dX3_endsNumber_32 : decode cX3_endsNumber 32 = .ok (.iconst 0, 1) := by decide +kernel
theorem dX3_endsNumber_33 : decode cX3_endsNumber 33 = .ok (.iastore, 1) := by decide +kernel
theorem dX3_endsNumber_34 : decode cX3_endsNumber 34 = .ok (.iconst 1, 1) := by decide +kernel
theorem dX3_endsNumber_35 : decode cX3_endsNumber 35 = .ok (.ireturn, 1) := by decide +kernel
theorem dX3_readsChoice_0 : decode cX3_readsChoice 0 = .ok (.iload_n 1, 1) := by decide +kernel
theorem dX3_readsChoice_1 : decode cX3_readsChoice 1 = .ok (.ifCond .lt 8, 3) := by decide +kernel
theorem dX3_readsChoice_4 : decode cX3_readsChoice 4 = .ok (.iload_n 1, 1) := by decide +kernel
theorem dX3_readsChoice_5 : decode cX3_readsChoice 5 = .ok (.iload_n 2, 1) := by decide +kernel
theorem dX3_readsChoice_6 : decode cX3_readsChoice 6 = .ok (.if_icmp .lt 5, 3) := by decide +kernel
theorem dX3_readsChoice_9 : decode cX3_readsChoice 9 = .ok (.iconst 0, 1) := by decide +kernel
theorem dX3_readsChoice_10 : decode cX3_readsChoice 10 = .ok (.ireturn, 1) := by decide +kernel
theorem dX3_readsChoice_11 : decode cX3_readsChoice 11 = .ok (.aload_n 0, 1) := by decide +kernel
theorem dX3_readsChoice_12 : decode cX3_readsChoice 12 = .ok (.getfield 15, 3) := by decide +kernel
theorem dX3_readsChoice_15 : decode cX3_readsChoice 15 = .ok (.aload_n 0, 1) := by decide +kernel
theorem dX3_readsChoice_16 : decode cX3_readsChoice 16 = .ok (.getfield 40, 3) := by decide +kernel
theorem dX3_readsChoice_19 : decode cX3_readsChoice 19 = .ok (.iload_n 1, 1) := by decide +kernel
theorem dX3_readsChoice_20 : decode cX3_readsChoice 20 = .ok (.iastore, 1) := by decide +kernel
theorem dX3_readsChoice_21 : decode cX3_readsChoice 21 = .ok (.aload_n 0, 1) := by decide +kernel
theorem dX3_readsChoice_22 : decode cX3_readsChoice 22 = .ok (.dup, 1) := by decide +kernel
theorem dX3_readsChoice_23 : decode cX3_readsChoice 23 = .ok (.getfield 40, 3) := by decide +kernel
theorem dX3_readsChoice_26 : decode cX3_readsChoice 26 = .ok (.iconst 1, 1) := by decide +kernel
theorem dX3_readsChoice_27 : decode cX3_readsChoice 27 = .ok (.iadd, 1) := by decide +kernel
theorem dX3_readsChoice_28 : decode cX3_readsChoice 28 = .ok (.putfield 40, 3) := by decide +kernel
theorem dX3_readsChoice_31 : decode cX3_readsChoice 31 = .ok (.iconst 1, 1) := by decide +kernel
theorem dX3_readsChoice_32 : decode cX3_readsChoice 32 = .ok (.ireturn, 1) := by decide +kernel
theorem dX3_wayOf_0 : decode cX3_wayOf 0 = .ok (.iload_n 0, 1) := by decide +kernel
theorem dX3_wayOf_1 : decode cX3_wayOf 1 = .ok (.lookupswitch 41 #[(99, 37), (100, 39), (114, 35)], 35) := by decide +kernel
theorem dX3_wayOf_36 : decode cX3_wayOf 36 = .ok (.iconst 0, 1) := by decide +kernel
theorem dX3_wayOf_37 : decode cX3_wayOf 37 = .ok (.ireturn, 1) := by decide +kernel
theorem dX3_wayOf_38 : decode cX3_wayOf 38 = .ok (.iconst 1, 1) := by decide +kernel
theorem dX3_wayOf_39 : decode cX3_wayOf 39 = .ok (.ireturn, 1) := by decide +kernel
theorem dX3_wayOf_40 : decode cX3_wayOf 40 = .ok (.iconst 2, 1) := by decide +kernel
theorem dX3_wayOf_41 : decode cX3_wayOf 41 = .ok (.ireturn, 1) := by decide +kernel
theorem dX3_wayOf_42 : decode cX3_wayOf 42 = .ok (.iconst (-1), 1) := by decide +kernel
theorem dX3_wayOf_43 : decode cX3_wayOf 43 = .ok (.ireturn, 1) := by decide +kernel
theorem dX4_init_0 : decode cX4_init 0 = .ok (.aload_n 0, 1) := by decide +kernel
theorem dX4_init_1 : decode cX4_init 1 = .ok (.invokespecial 3, 3) := by decide +kernel
theorem dX4_init_4 : decode cX4_init 4 = .ok (.aload_n 0, 1) := by decide +kernel
theorem dX4_init_5 : decode cX4_init 5 = .ok (.bipush 6, 2) := by decide +kernel
theorem dX4_init_7 : decode cX4_init 7 = .ok (.anewarray 9, 3) := by decide +kernel
theorem dX4_init_10 : decode cX4_init 10 = .ok (.putfield 11, 3) := by decide +kernel
theorem dX4_init_13 : decode cX4_init 13 = .ok (.iconst 0, 1) := by decide +kernel
theorem dX4_init_14 : decode cX4_init 14 = .ok (.istore_n 1, 1) := by decide +kernel
theorem dX4_init_15 : decode cX4_init 15 = .ok (.iload_n 1, 1) := by decide +kernel
theorem dX4_init_16 : decode cX4_init 16 = .ok (.aload_n 0, 1) := by decide +kernel
theorem dX4_init_17 : decode cX4_init 17 = .ok (.getfield 11, 3) := by decide +kernel
theorem dX4_init_20 : decode cX4_init 20 = .ok (.arraylength, 1) := by decide +kernel
theorem dX4_init_21 : decode cX4_init 21 = .ok (.if_icmp .ge 22, 3) := by decide +kernel
theorem dX4_init_24 : decode cX4_init 24 = .ok (.aload_n 0, 1) := by decide +kernel
theorem dX4_init_25 : decode cX4_init 25 = .ok (.getfield 11, 3) := by decide +kernel
theorem dX4_init_28 : decode cX4_init 28 = .ok (.iload_n 1, 1) := by decide +kernel
theorem dX4_init_29 : decode cX4_init 29 = .ok (.new 9, 3) := by decide +kernel
theorem dX4_init_32 : decode cX4_init 32 = .ok (.dup, 1) := by decide +kernel
theorem dX4_init_33 : decode cX4_init 33 = .ok (.invokespecial 17, 3) := by decide +kernel
theorem dX4_init_36 : decode cX4_init 36 = .ok (.aastore, 1) := by decide +kernel
theorem dX4_init_37 : decode cX4_init 37 = .ok (.iinc 1 1, 3) := by decide +kernel
theorem dX4_init_40 : decode cX4_init 40 = .ok (.goto (-25), 3) := by decide +kernel
theorem dX4_init_43 : decode cX4_init 43 = .ok (.return_, 1) := by decide +kernel
theorem dX4_save_0 : decode cX4_save 0 = .ok (.aload_n 0, 1) := by decide +kernel
theorem dX4_save_1 : decode cX4_save 1 = .ok (.getfield 18, 3) := by decide +kernel
theorem dX4_save_4 : decode cX4_save 4 = .ok (.aload_n 0, 1) := by decide +kernel
theorem dX4_save_5 : decode cX4_save 5 = .ok (.getfield 11, 3) := by decide +kernel
theorem dX4_save_8 : decode cX4_save 8 = .ok (.arraylength, 1) := by decide +kernel
theorem dX4_save_9 : decode cX4_save 9 = .ok (.if_icmp .lt 7, 3) := by decide +kernel
theorem dX4_save_12 : decode cX4_save 12 = .ok (.aload_n 0, 1) := by decide +kernel
theorem dX4_save_13 : decode cX4_save 13 = .ok (.invokevirtual 22, 3) := by decide +kernel
theorem dX4_save_16 : decode cX4_save 16 = .ok (.aload_n 0, 1) := by decide +kernel
theorem dX4_save_17 : decode cX4_save 17 = .ok (.getfield 11, 3) := by decide +kernel
theorem dX4_save_20 : decode cX4_save 20 = .ok (.aload_n 0, 1) := by decide +kernel
theorem dX4_save_21 : decode cX4_save 21 = .ok (.getfield 18, 3) := by decide +kernel
theorem dX4_save_24 : decode cX4_save 24 = .ok (.aaload, 1) := by decide +kernel
theorem dX4_save_25 : decode cX4_save 25 = .ok (.aload_n 1, 1) := by decide +kernel
theorem dX4_save_26 : decode cX4_save 26 = .ok (.invokevirtual 25, 3) := by decide +kernel
theorem dX4_save_29 : decode cX4_save 29 = .ok (.aload_n 0, 1) := by decide +kernel
theorem dX4_save_30 : decode cX4_save 30 = .ok (.dup, 1) := by decide +kernel
theorem dX4_save_31 : decode cX4_save 31 = .ok (.getfield 18, 3) := by decide +kernel
theorem dX4_save_34 : decode cX4_save 34 = .ok (.iconst 1, 1) := by decide +kernel
theorem dX4_save_35 : decode cX4_save 35 = .ok (.iadd, 1) := by decide +kernel
theorem dX4_save_36 : decode cX4_save 36 = .ok (.putfield 18, 3) := by decide +kernel
theorem dX4_save_39 : decode cX4_save 39 = .ok (.return_, 1) := by decide +kernel
theorem dX4_restoreLatest_0 : decode cX4_restoreLatest 0 = .ok (.aload_n 0, 1) := by decide +kernel
theorem dX4_restoreLatest_1 : decode cX4_restoreLatest 1 = .ok (.getfield 18, 3) := by decide +kernel
theorem dX4_restoreLatest_4 : decode cX4_restoreLatest 4 = .ok (.ifCond .le 26, 3) := by decide +kernel
theorem dX4_restoreLatest_7 : decode cX4_restoreLatest 7 = .ok (.aload_n 0, 1) := by decide +kernel
theorem dX4_restoreLatest_8 : decode cX4_restoreLatest 8 = .ok (.dup, 1) := by decide +kernel
theorem dX4_restoreLatest_9 : decode cX4_restoreLatest 9 = .ok (.getfield 18, 3) := by decide +kernel
end
section
theorem dX4_restoreLatest_12 : decode cX4_restoreLatest 12 = .ok (.iconst 1, 1) := by decide +kernel
theorem dX4_restoreLatest_13 : decode cX4_restoreLatest 13 = .ok (.isub, 1) := by decide +kernel
theorem dX4_restoreLatest_14 : decode cX4_restoreLatest 14 = .ok (.putfield 18, 3) := by decide +kernel
theorem dX4_restoreLatest_17 : decode cX4_restoreLatest 17 = .ok (.aload_n 1, 1) := by decide +kernel
theorem dX4_restoreLatest_18 : decode cX4_restoreLatest 18 = .ok (.aload_n 0, 1) := by decide +kernel
theorem dX4_restoreLatest_19 : decode cX4_restoreLatest 19 = .ok (.getfield 11, 3) := by decide +kernel
theorem dX4_restoreLatest_22 : decode cX4_restoreLatest 22 = .ok (.aload_n 0, 1) := by decide +kernel
theorem dX4_restoreLatest_23 : decode cX4_restoreLatest 23 = .ok (.getfield 18, 3) := by decide +kernel
theorem dX4_restoreLatest_26 : decode cX4_restoreLatest 26 = .ok (.aaload, 1) := by decide +kernel
theorem dX4_restoreLatest_27 : decode cX4_restoreLatest 27 = .ok (.invokevirtual 25, 3) := by decide +kernel
theorem dX4_restoreLatest_30 : decode cX4_restoreLatest 30 = .ok (.return_, 1) := by decide +kernel
theorem dX4_dropOldest_0 : decode cX4_dropOldest 0 = .ok (.aload_n 0, 1) := by decide +kernel
theorem dX4_dropOldest_1 : decode cX4_dropOldest 1 = .ok (.getfield 11, 3) := by decide +kernel
theorem dX4_dropOldest_4 : decode cX4_dropOldest 4 = .ok (.iconst 0, 1) := by decide +kernel
theorem dX4_dropOldest_5 : decode cX4_dropOldest 5 = .ok (.aaload, 1) := by decide +kernel
theorem dX4_dropOldest_6 : decode cX4_dropOldest 6 = .ok (.astore_n 1, 1) := by decide +kernel
theorem dX4_dropOldest_7 : decode cX4_dropOldest 7 = .ok (.iconst 1, 1) := by decide +kernel
theorem dX4_dropOldest_8 : decode cX4_dropOldest 8 = .ok (.istore_n 2, 1) := by decide +kernel
theorem dX4_dropOldest_9 : decode cX4_dropOldest 9 = .ok (.iload_n 2, 1) := by decide +kernel
theorem dX4_dropOldest_10 : decode cX4_dropOldest 10 = .ok (.aload_n 0, 1) := by decide +kernel
theorem dX4_dropOldest_11 : decode cX4_dropOldest 11 = .ok (.getfield 11, 3) := by decide +kernel
theorem dX4_dropOldest_14 : decode cX4_dropOldest 14 = .ok (.arraylength, 1) := by decide +kernel
theorem dX4_dropOldest_15 : decode cX4_dropOldest 15 = .ok (.if_icmp .ge 23, 3) := by decide +kernel
theorem dX4_dropOldest_18 : decode cX4_dropOldest 18 = .ok (.aload_n 0, 1) := by decide +kernel
theorem dX4_dropOldest_19 : decode cX4_dropOldest 19 = .ok (.getfield 11, 3) := by decide +kernel
theorem dX4_dropOldest_22 : decode cX4_dropOldest 22 = .ok (.iload_n 2, 1) := by decide +kernel
theorem dX4_dropOldest_23 : decode cX4_dropOldest 23 = .ok (.iconst 1, 1) := by decide +kernel
theorem dX4_dropOldest_24 : decode cX4_dropOldest 24 = .ok (.isub, 1) := by decide +kernel
theorem dX4_dropOldest_25 : decode cX4_dropOldest 25 = .ok (.aload_n 0, 1) := by decide +kernel
theorem dX4_dropOldest_26 : decode cX4_dropOldest 26 = .ok (.getfield 11, 3) := by decide +kernel
theorem dX4_dropOldest_29 : decode cX4_dropOldest 29 = .ok (.iload_n 2, 1) := by decide +kernel
theorem dX4_dropOldest_30 : decode cX4_dropOldest 30 = .ok (.aaload, 1) := by decide +kernel
theorem dX4_dropOldest_31 : decode cX4_dropOldest 31 = .ok (.aastore, 1) := by decide +kernel
theorem dX4_dropOldest_32 : decode cX4_dropOldest 32 = .ok (.iinc 2 1, 3) := by decide +kernel
theorem dX4_dropOldest_35 : decode cX4_dropOldest 35 = .ok (.goto (-26), 3) := by decide +kernel
theorem dX4_dropOldest_38 : decode cX4_dropOldest 38 = .ok (.aload_n 0, 1) := by decide +kernel
theorem dX4_dropOldest_39 : decode cX4_dropOldest 39 = .ok (.getfield 11, 3) := by decide +kernel
theorem dX4_dropOldest_42 : decode cX4_dropOldest 42 = .ok (.aload_n 0, 1) := by decide +kernel
theorem dX4_dropOldest_43 : decode cX4_dropOldest 43 = .ok (.getfield 11, 3) := by decide +kernel
theorem dX4_dropOldest_46 : decode cX4_dropOldest 46 = .ok (.arraylength, 1) := by decide +kernel
theorem dX4_dropOldest_47 : decode cX4_dropOldest 47 = .ok (.iconst 1, 1) := by decide +kernel
theorem dX4_dropOldest_48 : decode cX4_dropOldest 48 = .ok (.isub, 1) := by decide +kernel
theorem dX4_dropOldest_49 : decode cX4_dropOldest 49 = .ok (.aload_n 1, 1) := by decide +kernel
theorem dX4_dropOldest_50 : decode cX4_dropOldest 50 = .ok (.aastore, 1) := by decide +kernel
theorem dX4_dropOldest_51 : decode cX4_dropOldest 51 = .ok (.aload_n 0, 1) := by decide +kernel
theorem dX4_dropOldest_52 : decode cX4_dropOldest 52 = .ok (.aload_n 0, 1) := by decide +kernel
theorem dX4_dropOldest_53 : decode cX4_dropOldest 53 = .ok (.getfield 11, 3) := by decide +kernel
theorem dX4_dropOldest_56 : decode cX4_dropOldest 56 = .ok (.arraylength, 1) := by decide +kernel
theorem dX4_dropOldest_57 : decode cX4_dropOldest 57 = .ok (.iconst 1, 1) := by decide +kernel
theorem dX4_dropOldest_58 : decode cX4_dropOldest 58 = .ok (.isub, 1) := by decide +kernel
theorem dX4_dropOldest_59 : decode cX4_dropOldest 59 = .ok (.putfield 18, 3) := by decide +kernel
theorem dX4_dropOldest_62 : decode cX4_dropOldest 62 = .ok (.return_, 1) := by decide +kernel
theorem dX5_init_0 : decode cX5_init 0 = .ok (.aload_n 0, 1) := by decide +kernel
theorem dX5_init_1 : decode cX5_init 1 = .ok (.invokespecial 1, 3) := by decide +kernel
theorem dX5_init_4 : decode cX5_init 4 = .ok (.aload_n 0, 1) := by decide +kernel
theorem dX5_init_5 : decode cX5_init 5 = .ok (.new 7, 3) := by decide +kernel
theorem dX5_init_8 : decode cX5_init 8 = .ok (.dup, 1) := by decide +kernel
theorem dX5_init_9 : decode cX5_init 9 = .ok (.invokespecial 9, 3) := by decide +kernel
theorem dX5_init_12 : decode cX5_init 12 = .ok (.putfield 10, 3) := by decide +kernel
theorem dX5_init_15 : decode cX5_init 15 = .ok (.aload_n 0, 1) := by decide +kernel
theorem dX5_init_16 : decode cX5_init 16 = .ok (.iconst 2, 1) := by decide +kernel
theorem dX5_init_17 : decode cX5_init 17 = .ok (.anewarray 7, 3) := by decide +kernel
theorem dX5_init_20 : decode cX5_init 20 = .ok (.putfield 16, 3) := by decide +kernel
theorem dX5_init_23 : decode cX5_init 23 = .ok (.aload_n 0, 1) := by decide +kernel
theorem dX5_init_24 : decode cX5_init 24 = .ok (.iconst 2, 1) := by decide +kernel
theorem dX5_init_25 : decode cX5_init 25 = .ok (.newarray .boolean, 2) := by decide +kernel
theorem dX5_init_27 : decode cX5_init 27 = .ok (.putfield 20, 3) := by decide +kernel
theorem dX5_init_30 : decode cX5_init 30 = .ok (.aload_n 0, 1) := by decide +kernel
theorem dX5_init_31 : decode cX5_init 31 = .ok (.new 24, 3) := by decide +kernel
theorem dX5_init_34 : decode cX5_init 34 = .ok (.dup, 1) := by decide +kernel
theorem dX5_init_35 : decode cX5_init 35 = .ok (.invokespecial 26, 3) := by decide +kernel
theorem dX5_init_38 : decode cX5_init 38 = .ok (.putfield 27, 3) := by decide +kernel
theorem dX5_init_41 : decode cX5_init 41 = .ok (.aload_n 0, 1) := by decide +kernel
theorem dX5_init_42 : decode cX5_init 42 = .ok (.new 31, 3) := by decide +kernel
theorem dX5_init_45 : decode cX5_init 45 = .ok (.dup, 1) := by decide +kernel
theorem dX5_init_46 : decode cX5_init 46 = .ok (.invokespecial 33, 3) := by decide +kernel
theorem dX5_init_49 : decode cX5_init 49 = .ok (.putfield 34, 3) := by decide +kernel
theorem dX5_init_52 : decode cX5_init 52 = .ok (.aload_n 0, 1) := by decide +kernel
theorem dX5_init_53 : decode cX5_init 53 = .ok (.new 38, 3) := by decide +kernel
theorem dX5_init_56 : decode cX5_init 56 = .ok (.dup, 1) := by decide +kernel
theorem dX5_init_57 : decode cX5_init 57 = .ok (.invokespecial 40, 3) := by decide +kernel
theorem dX5_init_60 : decode cX5_init 60 = .ok (.putfield 41, 3) := by decide +kernel
theorem dX5_init_63 : decode cX5_init 63 = .ok (.iconst 0, 1) := by decide +kernel
theorem dX5_init_64 : decode cX5_init 64 = .ok (.istore_n 1, 1) := by decide +kernel
theorem dX5_init_65 : decode cX5_init 65 = .ok (.iload_n 1, 1) := by decide +kernel
theorem dX5_init_66 : decode cX5_init 66 = .ok (.aload_n 0, 1) := by decide +kernel
theorem dX5_init_67 : decode cX5_init 67 = .ok (.getfield 16, 3) := by decide +kernel
theorem dX5_init_70 : decode cX5_init 70 = .ok (.arraylength, 1) := by decide +kernel
theorem dX5_init_71 : decode cX5_init 71 = .ok (.if_icmp .ge 22, 3) := by decide +kernel
theorem dX5_init_74 : decode cX5_init 74 = .ok (.aload_n 0, 1) := by decide +kernel
theorem dX5_init_75 : decode cX5_init 75 = .ok (.getfield 16, 3) := by decide +kernel
theorem dX5_init_78 : decode cX5_init 78 = .ok (.iload_n 1, 1) := by decide +kernel
theorem dX5_init_79 : decode cX5_init 79 = .ok (.new 7, 3) := by decide +kernel
theorem dX5_init_82 : decode cX5_init 82 = .ok (.dup, 1) := by decide +kernel
theorem dX5_init_83 : decode cX5_init 83 = .ok (.invokespecial 9, 3) := by decide +kernel
theorem dX5_init_86 : decode cX5_init 86 = .ok (.aastore, 1) := by decide +kernel
theorem dX5_init_87 : decode cX5_init 87 = .ok (.iinc 1 1, 3) := by decide +kernel
theorem dX5_init_90 : decode cX5_init 90 = .ok (.goto (-25), 3) := by decide +kernel
theorem dX5_init_93 : decode cX5_init 93 = .ok (.return_, 1) := by decide +kernel
theorem dX5_bring_0 : decode cX5_bring 0 = .ok (.iload_n 1, 1) := by decide +kernel
theorem dX5_bring_1 : decode cX5_bring 1 = .ok (.iconst 1, 1) := by decide +kernel
theorem dX5_bring_2 : decode cX5_bring 2 = .ok (.bipush 60, 2) := by decide +kernel
theorem dX5_bring_4 : decode cX5_bring 4 = .ok (.invokestatic 45, 3) := by decide +kernel
theorem dX5_bring_7 : decode cX5_bring 7 = .ok (.ifCond .eq 27, 3) := by decide +kernel
theorem dX5_bring_10 : decode cX5_bring 10 = .ok (.iload_n 2, 1) := by decide +kernel
theorem dX5_bring_11 : decode cX5_bring 11 = .ok (.iconst 1, 1) := by decide +kernel
theorem dX5_bring_12 : decode cX5_bring 12 = .ok (.bipush 60, 2) := by decide +kernel
theorem dX5_bring_14 : decode cX5_bring 14 = .ok (.invokestatic 45, 3) := by decide +kernel
theorem dX5_bring_17 : decode cX5_bring 17 = .ok (.ifCond .eq 17, 3) := by decide +kernel
theorem dX5_bring_20 : decode cX5_bring 20 = .ok (.iload_n 3, 1) := by decide +kernel
theorem dX5_bring_21 : decode cX5_bring 21 = .ok (.iconst 1, 1) := by decide +kernel
theorem dX5_bring_22 : decode cX5_bring 22 = .ok (.bipush 60, 2) := by decide +kernel
theorem dX5_bring_24 : decode cX5_bring 24 = .ok (.invokestatic 45, 3) := by decide +kernel
theorem dX5_bring_27 : decode cX5_bring 27 = .ok (.ifCond .eq 7, 3) := by decide +kernel
theorem dX5_bring_30 : decode cX5_bring 30 = .ok (.iconst 1, 1) := by decide +kernel
theorem dX5_bring_31 : decode cX5_bring 31 = .ok (.goto 4, 3) := by decide +kernel
theorem dX5_bring_34 : decode cX5_bring 34 = .ok (.iconst 0, 1) := by decide +kernel
theorem dX5_bring_35 : decode cX5_bring 35 = .ok (.invokestatic 49, 3) := by decide +kernel
theorem dX5_bring_38 : decode cX5_bring 38 = .ok (.iload 4, 2) := by decide +kernel
theorem dX5_bring_40 : decode cX5_bring 40 = .ok (.iconst 1, 1) := by decide +kernel
theorem dX5_bring_41 : decode cX5_bring 41 = .ok (.bipush 99, 2) := by decide +kernel
theorem dX5_bring_43 : decode cX5_bring 43 = .ok (.invokestatic 45, 3) := by decide +kernel
theorem dX5_bring_46 : decode cX5_bring 46 = .ok (.ifCond .eq 17, 3) := by decide +kernel
theorem dX5_bring_49 : decode cX5_bring 49 = .ok (.iload 5, 2) := by decide +kernel
theorem dX5_bring_51 : decode cX5_bring 51 = .ok (.iconst 0, 1) := by decide +kernel
theorem dX5_bring_52 : decode cX5_bring 52 = .ok (.iconst 3, 1) := by decide +kernel
theorem dX5_bring_53 : decode cX5_bring 53 = .ok (.invokestatic 45, 3) := by decide +kernel
theorem dX5_bring_56 : decode cX5_bring 56 = .ok (.ifCond .eq 7, 3) := by decide +kernel
theorem dX5_bring_59 : decode cX5_bring 59 = .ok (.iconst 1, 1) := by decide +kernel
theorem dX5_bring_60 : decode cX5_bring 60 = .ok (.goto 4, 3) := by decide +kernel
theorem dX5_bring_63 : decode cX5_bring 63 = .ok (.iconst 0, 1) := by decide +kernel
theorem dX5_bring_64 : decode cX5_bring 64 = .ok (.invokestatic 49, 3) := by decide +kernel
theorem dX5_bring_67 : decode cX5_bring 67 = .ok (.aload_n 0, 1) := by decide +kernel
theorem dX5_bring_68 : decode cX5_bring 68 = .ok (.getfield 27, 3) := by decide +kernel
theorem dX5_bring_71 : decode cX5_bring 71 = .ok (.aload_n 0, 1) := by decide +kernel
theorem dX5_bring_72 : decode cX5_bring 72 = .ok (.getfield 10, 3) := by decide +kernel
theorem dX5_bring_75 : decode cX5_bring 75 = .ok (.invokevirtual 53, 3) := by decide +kernel
theorem dX5_bring_78 : decode cX5_bring 78 = .ok (.aload_n 0, 1) := by decide +kernel
theorem dX5_bring_79 : decode cX5_bring 79 = .ok (.getfield 10, 3) := by decide +kernel
theorem dX5_bring_82 : decode cX5_bring 82 = .ok (.iload_n 1, 1) := by decide +kernel
theorem dX5_bring_83 : decode cX5_bring 83 = .ok (.iload_n 2, 1) := by decide +kernel
theorem dX5_bring_84 : decode cX5_bring 84 = .ok (.iload_n 3, 1) := by decide +kernel
theorem dX5_bring_85 : decode cX5_bring 85 = .ok (.iload 4, 2) := by decide +kernel
theorem dX5_bring_87 : decode cX5_bring 87 = .ok (.iload 5, 2) := by decide +kernel
theorem dX5_bring_89 : decode cX5_bring 89 = .ok (.iconst 0, 1) := by decide +kernel
theorem dX5_bring_90 : decode cX5_bring 90 = .ok (.invokevirtual 57, 3) := by decide +kernel
theorem dX5_bring_93 : decode cX5_bring 93 = .ok (.ireturn, 1) := by decide +kernel
theorem dX5_change_0 : decode cX5_change 0 = .ok (.aload_n 0, 1) := by decide +kernel
theorem dX5_change_1 : decode cX5_change 1 = .ok (.iload_n 1, 1) := by decide +kernel
theorem dX5_change_2 : decode cX5_change 2 = .ok (.invokevirtual 61, 3) := by decide +kernel
theorem dX5_change_5 : decode cX5_change 5 = .ok (.iload_n 2, 1) := by decide +kernel
theorem dX5_change_6 : decode cX5_change 6 = .ok (.ifCond .eq 8, 3) := by decide +kernel
theorem dX5_change_9 : decode cX5_change 9 = .ok (.iload_n 2, 1) := by decide +kernel
theorem dX5_change_10 : decode cX5_change 10 = .ok (.iconst 1, 1) := by decide +kernel
theorem dX5_change_11 : decode cX5_change 11 = .ok (.if_icmp .ne 7, 3) := by decide +kernel
theorem dX5_change_14 : decode cX5_change 14 = .ok (.iconst 1, 1) := by decide +kernel
theorem dX5_change_15 : decode cX5_change 15 = .ok (.goto 4, 3) := by decide +kernel
theorem dX5_change_18 : decode cX5_change 18 = .ok (.iconst 0, 1) := by decide +kernel
theorem dX5_change_19 : decode cX5_change 19 = .ok (.invokestatic 49, 3) := by decide +kernel
theorem dX5_change_22 : decode cX5_change 22 = .ok (.iload_n 3, 1) := by decide +kernel
theorem dX5_change_23 : decode cX5_change 23 = .ok (.iconst 0, 1) := by decide +kernel
theorem dX5_change_24 : decode cX5_change 24 = .ok (.iload_n 2, 1) := by decide +kernel
theorem dX5_change_25 : decode cX5_change 25 = .ok (.ifCond .ne 7, 3) := by decide +kernel
theorem dX5_change_28 : decode cX5_change 28 = .ok (.iconst 2, 1) := by decide +kernel
theorem dX5_change_29 : decode cX5_change 29 = .ok (.goto 5, 3) := by decide +kernel
theorem dX5_change_32 : decode cX5_change 32 = .ok (.bipush 8, 2) := by decide +kernel
theorem dX5_change_34 : decode cX5_change 34 = .ok (.invokestatic 45, 3) := by decide +kernel
theorem dX5_change_37 : decode cX5_change 37 = .ok (.invokestatic 49, 3) := by decide +kernel
theorem dX5_change_40 : decode cX5_change 40 = .ok (.aload_n 0, 1) := by decide +kernel
theorem dX5_change_41 : decode cX5_change 41 = .ok (.getfield 27, 3) := by decide +kernel
theorem dX5_change_44 : decode cX5_change 44 = .ok (.aload_n 0, 1) := by decide +kernel
theorem dX5_change_45 : decode cX5_change 45 = .ok (.getfield 10, 3) := by decide +kernel
theorem dX5_change_48 : decode cX5_change 48 = .ok (.invokevirtual 53, 3) := by decide +kernel
theorem dX5_change_51 : decode cX5_change 51 = .ok (.aload_n 0, 1) := by decide +kernel
theorem dX5_change_52 : decode cX5_change 52 = .ok (.getfield 10, 3) := by decide +kernel
theorem dX5_change_55 : decode cX5_change 55 = .ok (.getfield 65, 3) := by decide +kernel
theorem dX5_change_58 : decode cX5_change 58 = .ok (.iload_n 1, 1) := by decide +kernel
theorem dX5_change_59 : decode cX5_change 59 = .ok (.aaload, 1) := by decide +kernel
theorem dX5_change_60 : decode cX5_change 60 = .ok (.astore 4, 2) := by decide +kernel
theorem dX5_change_62 : decode cX5_change 62 = .ok (.iload_n 2, 1) := by decide +kernel
theorem dX5_change_63 : decode cX5_change 63 = .ok (.ifCond .ne 12, 3) := by decide +kernel
theorem dX5_change_66 : decode cX5_change 66 = .ok (.aload 4, 2) := by decide +kernel
theorem dX5_change_68 : decode cX5_change 68 = .ok (.iload_n 3, 1) := by decide +kernel
theorem dX5_change_69 : decode cX5_change 69 = .ok (.invokevirtual 69, 3) := by decide +kernel
theorem dX5_change_72 : decode cX5_change 72 = .ok (.goto 9, 3) := by decide +kernel
theorem dX5_change_75 : decode cX5_change 75 = .ok (.aload 4, 2) := by decide +kernel
theorem dX5_change_77 : decode cX5_change 77 = .ok (.iload_n 3, 1) := by decide +kernel
theorem dX5_change_78 : decode cX5_change 78 = .ok (.invokevirtual 75, 3) := by decide +kernel
theorem dX5_change_81 : decode cX5_change 81 = .ok (.ireturn, 1) := by decide +kernel
theorem dX5_send_0 : decode cX5_send 0 = .ok (.aload_n 0, 1) := by decide +kernel
theorem dX5_send_1 : decode cX5_send 1 = .ok (.iload_n 1, 1) := by decide +kernel
theorem dX5_send_2 : decode cX5_send 2 = .ok (.invokevirtual 61, 3) := by decide +kernel
theorem dX5_send_5 : decode cX5_send 5 = .ok (.aload_n 0, 1) := by decide +kernel
theorem dX5_send_6 : decode cX5_send 6 = .ok (.getfield 27, 3) := by decide +kernel
theorem dX5_send_9 : decode cX5_send 9 = .ok (.aload_n 0, 1) := by decide +kernel
theorem dX5_send_10 : decode cX5_send 10 = .ok (.getfield 10, 3) := by decide +kernel
theorem dX5_send_13 : decode cX5_send 13 = .ok (.invokevirtual 53, 3) := by decide +kernel
theorem dX5_send_16 : decode cX5_send 16 = .ok (.aload_n 0, 1) := by decide +kernel
theorem dX5_send_17 : decode cX5_send 17 = .ok (.getfield 10, 3) := by decide +kernel
theorem dX5_send_20 : decode cX5_send 20 = .ok (.iload_n 1, 1) := by decide +kernel
theorem dX5_send_21 : decode cX5_send 21 = .ok (.invokevirtual 78, 3) := by decide +kernel
theorem dX5_send_24 : decode cX5_send 24 = .ok (.ireturn, 1) := by decide +kernel
theorem dX5_dispute_0 : decode cX5_dispute 0 = .ok (.aload_n 0, 1) := by decide +kernel
theorem dX5_dispute_1 : decode cX5_dispute 1 = .ok (.iload_n 1, 1) := by decide +kernel
theorem dX5_dispute_2 : decode cX5_dispute 2 = .ok (.invokevirtual 61, 3) := by decide +kernel
theorem dX5_dispute_5 : decode cX5_dispute 5 = .ok (.iload_n 2, 1) := by decide +kernel
theorem dX5_dispute_6 : decode cX5_dispute 6 = .ok (.iconst 1, 1) := by decide +kernel
theorem dX5_dispute_7 : decode cX5_dispute 7 = .ok (.sipush 999, 3) := by decide +kernel
theorem dX5_dispute_10 : decode cX5_dispute 10 = .ok (.invokestatic 45, 3) := by decide +kernel
theorem dX5_dispute_13 : decode cX5_dispute 13 = .ok (.invokestatic 49, 3) := by decide +kernel
theorem dX5_dispute_16 : decode cX5_dispute 16 = .ok (.aload_n 0, 1) := by decide +kernel
theorem dX5_dispute_17 : decode cX5_dispute 17 = .ok (.getfield 27, 3) := by decide +kernel
theorem dX5_dispute_20 : decode cX5_dispute 20 = .ok (.aload_n 0, 1) := by decide +kernel
theorem dX5_dispute_21 : decode cX5_dispute 21 = .ok (.getfield 10, 3) := by decide +kernel
theorem dX5_dispute_24 : decode cX5_dispute 24 = .ok (.invokevirtual 53, 3) := by decide +kernel
theorem dX5_dispute_27 : decode cX5_dispute 27 = .ok (.aload_n 0, 1) := by decide +kernel
theorem dX5_dispute_28 : decode cX5_dispute 28 = .ok (.getfield 10, 3) := by decide +kernel
theorem dX5_dispute_31 : decode cX5_dispute 31 = .ok (.iload_n 1, 1) := by decide +kernel
theorem dX5_dispute_32 : decode cX5_dispute 32 = .ok (.iload_n 2, 1) := by decide +kernel
theorem dX5_dispute_33 : decode cX5_dispute 33 = .ok (.invokevirtual 81, 3) := by decide +kernel
theorem dX5_dispute_36 : decode cX5_dispute 36 = .ok (.ireturn, 1) := by decide +kernel
theorem dX5_takeBack_0 : decode cX5_takeBack 0 = .ok (.aload_n 0, 1) := by decide +kernel
theorem dX5_takeBack_1 : decode cX5_takeBack 1 = .ok (.iload_n 1, 1) := by decide +kernel
theorem dX5_takeBack_2 : decode cX5_takeBack 2 = .ok (.invokevirtual 61, 3) := by decide +kernel
theorem dX5_takeBack_5 : decode cX5_takeBack 5 = .ok (.aload_n 0, 1) := by decide +kernel
theorem dX5_takeBack_6 : decode cX5_takeBack 6 = .ok (.getfield 27, 3) := by decide +kernel
theorem dX5_takeBack_9 : decode cX5_takeBack 9 = .ok (.aload_n 0, 1) := by decide +kernel
theorem dX5_takeBack_10 : decode cX5_takeBack 10 = .ok (.getfield 10, 3) := by decide +kernel
theorem dX5_takeBack_13 : decode cX5_takeBack 13 = .ok (.invokevirtual 53, 3) := by decide +kernel
theorem dX5_takeBack_16 : decode cX5_takeBack 16 = .ok (.aload_n 0, 1) := by decide +kernel
theorem dX5_takeBack_17 : decode cX5_takeBack 17 = .ok (.getfield 10, 3) := by decide +kernel
theorem dX5_takeBack_20 : decode cX5_takeBack 20 = .ok (.iload_n 1, 1) := by decide +kernel
theorem dX5_takeBack_21 : decode cX5_takeBack 21 = .ok (.invokevirtual 85, 3) := by decide +kernel
theorem dX5_takeBack_24 : decode cX5_takeBack 24 = .ok (.aload_n 0, 1) := by decide +kernel
theorem dX5_takeBack_25 : decode cX5_takeBack 25 = .ok (.getfield 10, 3) := by decide +kernel
theorem dX5_takeBack_28 : decode cX5_takeBack 28 = .ok (.getfield 88, 3) := by decide +kernel
theorem dX5_takeBack_31 : decode cX5_takeBack 31 = .ok (.ireturn, 1) := by decide +kernel
theorem dX5_price_0 : decode cX5_price 0 = .ok (.iload_n 1, 1) := by decide +kernel
theorem dX5_price_1 : decode cX5_price 1 = .ok (.bipush 12, 2) := by decide +kernel
theorem dX5_price_3 : decode cX5_price 3 = .ok (.invokestatic 92, 3) := by decide +kernel
theorem dX5_price_6 : decode cX5_price 6 = .ok (.iload_n 2, 1) := by decide +kernel
theorem dX5_price_7 : decode cX5_price 7 = .ok (.iconst 0, 1) := by decide +kernel
theorem dX5_price_8 : decode cX5_price 8 = .ok (.bipush 99, 2) := by decide +kernel
theorem dX5_price_10 : decode cX5_price 10 = .ok (.invokestatic 45, 3) := by decide +kernel
theorem dX5_price_13 : decode cX5_price 13 = .ok (.invokestatic 49, 3) := by decide +kernel
theorem dX5_price_16 : decode cX5_price 16 = .ok (.aload_n 0, 1) := by decide +kernel
theorem dX5_price_17 : decode cX5_price 17 = .ok (.getfield 27, 3) := by decide +kernel
theorem dX5_price_20 : decode cX5_price 20 = .ok (.aload_n 0, 1) := by decide +kernel
theorem dX5_price_21 : decode cX5_price 21 = .ok (.getfield 10, 3) := by decide +kernel
theorem dX5_price_24 : decode cX5_price 24 = .ok (.invokevirtual 53, 3) := by decide +kernel
theorem dX5_price_27 : decode cX5_price 27 = .ok (.aload_n 0, 1) := by decide +kernel
theorem dX5_price_28 : decode cX5_price 28 = .ok (.getfield 10, 3) := by decide +kernel
theorem dX5_price_31 : decode cX5_price 31 = .ok (.getfield 96, 3) := by decide +kernel
theorem dX5_price_34 : decode cX5_price 34 = .ok (.iload_n 1, 1) := by decide +kernel
theorem dX5_price_35 : decode cX5_price 35 = .ok (.iaload, 1) := by decide +kernel
theorem dX5_price_36 : decode cX5_price 36 = .ok (.istore_n 3, 1) := by decide +kernel
theorem dX5_price_37 : decode cX5_price 37 = .ok (.aload_n 0, 1) := by decide +kernel
theorem dX5_price_38 : decode cX5_price 38 = .ok (.getfield 10, 3) := by decide +kernel
theorem dX5_price_41 : decode cX5_price 41 = .ok (.getfield 96, 3) := by decide +kernel
theorem dX5_price_44 : decode cX5_price 44 = .ok (.iload_n 1, 1) := by decide +kernel
theorem dX5_price_45 : decode cX5_price 45 = .ok (.iload_n 2, 1) := by decide +kernel
theorem dX5_price_46 : decode cX5_price 46 = .ok (.iastore, 1) := by decide +kernel
theorem dX5_price_47 : decode cX5_price 47 = .ok (.iload_n 3, 1) := by decide +kernel
theorem dX5_price_48 : decode cX5_price 48 = .ok (.ireturn, 1) := by decide +kernel
theorem dX5_zone_0 : decode cX5_zone 0 = .ok (.iload_n 1, 1) := by decide +kernel
theorem dX5_zone_1 : decode cX5_zone 1 = .ok (.iconst 4, 1) := by decide +kernel
theorem dX5_zone_2 : decode cX5_zone 2 = .ok (.invokestatic 92, 3) := by decide +kernel
theorem dX5_zone_5 : decode cX5_zone 5 = .ok (.iload_n 2, 1) := by decide +kernel
theorem dX5_zone_6 : decode cX5_zone 6 = .ok (.iconst 1, 1) := by decide +kernel
theorem dX5_zone_7 : decode cX5_zone 7 = .ok (.bipush 9, 2) := by decide +kernel
theorem dX5_zone_9 : decode cX5_zone 9 = .ok (.invokestatic 45, 3) := by decide +kernel
theorem dX5_zone_12 : decode cX5_zone 12 = .ok (.invokestatic 49, 3) := by decide +kernel
theorem dX5_zone_15 : decode cX5_zone 15 = .ok (.aload_n 0, 1) := by decide +kernel
theorem dX5_zone_16 : decode cX5_zone 16 = .ok (.getfield 27, 3) := by decide +kernel
theorem dX5_zone_19 : decode cX5_zone 19 = .ok (.aload_n 0, 1) := by decide +kernel
theorem dX5_zone_20 : decode cX5_zone 20 = .ok (.getfield 10, 3) := by decide +kernel
theorem dX5_zone_23 : decode cX5_zone 23 = .ok (.invokevirtual 53, 3) := by decide +kernel
theorem dX5_zone_26 : decode cX5_zone 26 = .ok (.aload_n 0, 1) := by decide +kernel
theorem dX5_zone_27 : decode cX5_zone 27 = .ok (.getfield 10, 3) := by decide +kernel
theorem dX5_zone_30 : decode cX5_zone 30 = .ok (.getfield 100, 3) := by decide +kernel
theorem dX5_zone_33 : decode cX5_zone 33 = .ok (.iload_n 1, 1) := by decide +kernel
theorem dX5_zone_34 : decode cX5_zone 34 = .ok (.iaload, 1) := by decide +kernel
theorem dX5_zone_35 : decode cX5_zone 35 = .ok (.istore_n 3, 1) := by decide +kernel
theorem dX5_zone_36 : decode cX5_zone 36 = .ok (.aload_n 0, 1) := by decide +kernel
theorem dX5_zone_37 : decode cX5_zone 37 = .ok (.getfield 10, 3) := by decide +kernel
theorem dX5_zone_40 : decode cX5_zone 40 = .ok (.getfield 100, 3) := by decide +kernel
theorem dX5_zone_43 : decode cX5_zone 43 = .ok (.iload_n 1, 1) := by decide +kernel
theorem dX5_zone_44 : decode cX5_zone 44 = .ok (.iload_n 2, 1) := by decide +kernel
theorem dX5_zone_45 : decode cX5_zone 45 = .ok (.iastore, 1) := by decide +kernel
theorem dX5_zone_46 : decode cX5_zone 46 = .ok (.iload_n 3, 1) := by decide +kernel
theorem dX5_zone_47 : decode cX5_zone 47 = .ok (.ireturn, 1) := by decide +kernel
theorem dX5_set_0 : decode cX5_set 0 = .ok (.iload_n 1, 1) := by decide +kernel
theorem dX5_set_1 : decode cX5_set 1 = .ok (.iconst 4, 1) := by decide +kernel
theorem dX5_set_2 : decode cX5_set 2 = .ok (.invokestatic 92, 3) := by decide +kernel
theorem dX5_set_5 : decode cX5_set 5 = .ok (.iload_n 2, 1) := by decide +kernel
theorem dX5_set_6 : decode cX5_set 6 = .ok (.getstatic 103, 3) := by decide +kernel
theorem dX5_set_9 : decode cX5_set 9 = .ok (.iload_n 1, 1) := by decide +kernel
theorem dX5_set_10 : decode cX5_set 10 = .ok (.iaload, 1) := by decide +kernel
theorem dX5_set_11 : decode cX5_set 11 = .ok (.getstatic 106, 3) := by decide +kernel
theorem dX5_set_14 : decode cX5_set 14 = .ok (.iload_n 1, 1) := by decide +kernel
theorem dX5_set_15 : decode cX5_set 15 = .ok (.iaload, 1) := by decide +kernel
theorem dX5_set_16 : decode cX5_set 16 = .ok (.invokestatic 45, 3) := by decide +kernel
theorem dX5_set_19 : decode cX5_set 19 = .ok (.invokestatic 49, 3) := by decide +kernel
theorem dX5_set_22 : decode cX5_set 22 = .ok (.aload_n 0, 1) := by decide +kernel
theorem dX5_set_23 : decode cX5_set 23 = .ok (.getfield 27, 3) := by decide +kernel
theorem dX5_set_26 : decode cX5_set 26 = .ok (.aload_n 0, 1) := by decide +kernel
theorem dX5_set_27 : decode cX5_set 27 = .ok (.getfield 10, 3) := by decide +kernel
theorem dX5_set_30 : decode cX5_set 30 = .ok (.invokevirtual 53, 3) := by decide +kernel
theorem dX5_set_33 : decode cX5_set 33 = .ok (.aload_n 0, 1) := by decide +kernel
theorem dX5_set_34 : decode cX5_set 34 = .ok (.getfield 10, 3) := by decide +kernel
theorem dX5_set_37 : decode cX5_set 37 = .ok (.getfield 109, 3) := by decide +kernel
theorem dX5_set_40 : decode cX5_set 40 = .ok (.iload_n 1, 1) := by decide +kernel
theorem dX5_set_41 : decode cX5_set 41 = .ok (.iaload, 1) := by decide +kernel
theorem dX5_set_42 : decode cX5_set 42 = .ok (.istore_n 3, 1) := by decide +kernel
theorem dX5_set_43 : decode cX5_set 43 = .ok (.aload_n 0, 1) := by decide +kernel
theorem dX5_set_44 : decode cX5_set 44 = .ok (.getfield 10, 3) := by decide +kernel
theorem dX5_set_47 : decode cX5_set 47 = .ok (.getfield 109, 3) := by decide +kernel
theorem dX5_set_50 : decode cX5_set 50 = .ok (.iload_n 1, 1) := by decide +kernel
theorem dX5_set_51 : decode cX5_set 51 = .ok (.iload_n 2, 1) := by decide +kernel
theorem dX5_set_52 : decode cX5_set 52 = .ok (.iastore, 1) := by decide +kernel
theorem dX5_set_53 : decode cX5_set 53 = .ok (.iload_n 3, 1) := by decide +kernel
theorem dX5_set_54 : decode cX5_set 54 = .ok (.ireturn, 1) := by decide +kernel
theorem dX5_append_0 : decode cX5_append 0 = .ok (.iload_n 1, 1) := by decide +kernel
theorem dX5_append_1 : decode cX5_append 1 = .ok (.bipush 33, 2) := by decide +kernel
theorem dX5_append_3 : decode cX5_append 3 = .ok (.bipush 126, 2) := by decide +kernel
theorem dX5_append_5 : decode cX5_append 5 = .ok (.invokestatic 45, 3) := by decide +kernel
theorem dX5_append_8 : decode cX5_append 8 = .ok (.invokestatic 49, 3) := by decide +kernel
theorem dX5_append_11 : decode cX5_append 11 = .ok (.aload_n 0, 1) := by decide +kernel
theorem dX5_append_12 : decode cX5_append 12 = .ok (.getfield 34, 3) := by decide +kernel
theorem dX5_append_15 : decode cX5_append 15 = .ok (.invokevirtual 112, 3) := by decide +kernel
theorem dX5_append_18 : decode cX5_append 18 = .ok (.ifCond .ne 13, 3) := by decide +kernel
theorem dX5_append_21 : decode cX5_append 21 = .ok (.new 116, 3) := by decide +kernel
theorem dX5_append_24 : decode cX5_append 24 = .ok (.dup, 1) := by decide +kernel
theorem dX5_append_25 : decode cX5_append 25 = .ok (.ldc 118, 2) := by decide +kernel
theorem dX5_append_27 : decode cX5_append 27 = .ok (.invokespecial 120, 3) := by decide +kernel
theorem dX5_append_30 : decode cX5_append 30 = .ok (.athrow, 1) := by decide +kernel
theorem dX5_append_31 : decode cX5_append 31 = .ok (.aload_n 0, 1) := by decide +kernel
theorem dX5_append_32 : decode cX5_append 32 = .ok (.getfield 34, 3) := by decide +kernel
theorem dX5_append_35 : decode cX5_append 35 = .ok (.iload_n 1, 1) := by decide +kernel
theorem dX5_append_36 : decode cX5_append 36 = .ok (.invokevirtual 123, 3) := by decide +kernel
theorem dX5_append_39 : decode cX5_append 39 = .ok (.aload_n 0, 1) := by decide +kernel
theorem dX5_append_40 : decode cX5_append 40 = .ok (.getfield 34, 3) := by decide +kernel
theorem dX5_append_43 : decode cX5_append 43 = .ok (.getfield 126, 3) := by decide +kernel
theorem dX5_append_46 : decode cX5_append 46 = .ok (.ireturn, 1) := by decide +kernel
theorem dX5_clearBuffer_0 : decode cX5_clearBuffer 0 = .ok (.aload_n 0, 1) := by decide +kernel
theorem dX5_clearBuffer_1 : decode cX5_clearBuffer 1 = .ok (.getfield 34, 3) := by decide +kernel
theorem dX5_clearBuffer_4 : decode cX5_clearBuffer 4 = .ok (.getfield 126, 3) := by decide +kernel
theorem dX5_clearBuffer_7 : decode cX5_clearBuffer 7 = .ok (.istore_n 1, 1) := by decide +kernel
theorem dX5_clearBuffer_8 : decode cX5_clearBuffer 8 = .ok (.aload_n 0, 1) := by decide +kernel
theorem dX5_clearBuffer_9 : decode cX5_clearBuffer 9 = .ok (.getfield 34, 3) := by decide +kernel
theorem dX5_clearBuffer_12 : decode cX5_clearBuffer 12 = .ok (.invokevirtual 129, 3) := by decide +kernel
theorem dX5_clearBuffer_15 : decode cX5_clearBuffer 15 = .ok (.iload_n 1, 1) := by decide +kernel
theorem dX5_clearBuffer_16 : decode cX5_clearBuffer 16 = .ok (.ireturn, 1) := by decide +kernel
theorem dX5_firstError_0 : decode cX5_firstError 0 = .ok (.aload_n 0, 1) := by decide +kernel
theorem dX5_firstError_1 : decode cX5_firstError 1 = .ok (.getfield 34, 3) := by decide +kernel
theorem dX5_firstError_4 : decode cX5_firstError 4 = .ok (.invokevirtual 132, 3) := by decide +kernel
theorem dX5_firstError_7 : decode cX5_firstError 7 = .ok (.ireturn, 1) := by decide +kernel
theorem dX5_run_0 : decode cX5_run 0 = .ok (.aload_n 0, 1) := by decide +kernel
theorem dX5_run_1 : decode cX5_run 1 = .ok (.getfield 34, 3) := by decide +kernel
theorem dX5_run_4 : decode cX5_run 4 = .ok (.invokevirtual 136, 3) := by decide +kernel
theorem dX5_run_7 : decode cX5_run 7 = .ok (.invokestatic 49, 3) := by decide +kernel
theorem dX5_run_10 : decode cX5_run 10 = .ok (.aload_n 0, 1) := by decide +kernel
theorem dX5_run_11 : decode cX5_run 11 = .ok (.getfield 27, 3) := by decide +kernel
theorem dX5_run_14 : decode cX5_run 14 = .ok (.aload_n 0, 1) := by decide +kernel
theorem dX5_run_15 : decode cX5_run 15 = .ok (.getfield 10, 3) := by decide +kernel
theorem dX5_run_18 : decode cX5_run 18 = .ok (.invokevirtual 53, 3) := by decide +kernel
theorem dX5_run_21 : decode cX5_run 21 = .ok (.aload_n 0, 1) := by decide +kernel
theorem dX5_run_22 : decode cX5_run 22 = .ok (.invokevirtual 139, 3) := by decide +kernel
theorem dX5_run_25 : decode cX5_run 25 = .ok (.istore_n 1, 1) := by decide +kernel
theorem dX5_run_26 : decode cX5_run 26 = .ok (.aload_n 0, 1) := by decide +kernel
theorem dX5_run_27 : decode cX5_run 27 = .ok (.getfield 34, 3) := by decide +kernel
theorem dX5_run_30 : decode cX5_run 30 = .ok (.invokevirtual 129, 3) := by decide +kernel
theorem dX5_run_33 : decode cX5_run 33 = .ok (.iload_n 1, 1) := by decide +kernel
theorem dX5_run_34 : decode cX5_run 34 = .ok (.ireturn, 1) := by decide +kernel
theorem dX5_keep_0 : decode cX5_keep 0 = .ok (.iload_n 1, 1) := by decide +kernel
theorem dX5_keep_1 : decode cX5_keep 1 = .ok (.iconst 0, 1) := by decide +kernel
theorem dX5_keep_2 : decode cX5_keep 2 = .ok (.iconst 1, 1) := by decide +kernel
theorem dX5_keep_3 : decode cX5_keep 3 = .ok (.invokestatic 45, 3) := by decide +kernel
theorem dX5_keep_6 : decode cX5_keep 6 = .ok (.invokestatic 49, 3) := by decide +kernel
theorem dX5_keep_9 : decode cX5_keep 9 = .ok (.aload_n 0, 1) := by decide +kernel
theorem dX5_keep_10 : decode cX5_keep 10 = .ok (.getfield 16, 3) := by decide +kernel
theorem dX5_keep_13 : decode cX5_keep 13 = .ok (.iload_n 1, 1) := by decide +kernel
theorem dX5_keep_14 : decode cX5_keep 14 = .ok (.aaload, 1) := by decide +kernel
theorem dX5_keep_15 : decode cX5_keep 15 = .ok (.aload_n 0, 1) := by decide +kernel
theorem dX5_keep_16 : decode cX5_keep 16 = .ok (.getfield 10, 3) := by decide +kernel
theorem dX5_keep_19 : decode cX5_keep 19 = .ok (.invokevirtual 142, 3) := by decide +kernel
theorem dX5_keep_22 : decode cX5_keep 22 = .ok (.aload_n 0, 1) := by decide +kernel
theorem dX5_keep_23 : decode cX5_keep 23 = .ok (.getfield 20, 3) := by decide +kernel
theorem dX5_keep_26 : decode cX5_keep 26 = .ok (.iload_n 1, 1) := by decide +kernel
theorem dX5_keep_27 : decode cX5_keep 27 = .ok (.iconst 1, 1) := by decide +kernel
theorem dX5_keep_28 : decode cX5_keep 28 = .ok (.bastore, 1) := by decide +kernel
theorem dX5_keep_29 : decode cX5_keep 29 = .ok (.aload_n 0, 1) := by decide +kernel
theorem dX5_keep_30 : decode cX5_keep 30 = .ok (.getfield 10, 3) := by decide +kernel
theorem dX5_keep_33 : decode cX5_keep 33 = .ok (.getfield 145, 3) := by decide +kernel
theorem dX5_keep_36 : decode cX5_keep 36 = .ok (.ireturn, 1) := by decide +kernel
theorem dX5_goBack_0 : decode cX5_goBack 0 = .ok (.iload_n 1, 1) := by decide +kernel
theorem dX5_goBack_1 : decode cX5_goBack 1 = .ok (.iconst 0, 1) := by decide +kernel
theorem dX5_goBack_2 : decode cX5_goBack 2 = .ok (.iconst 1, 1) := by decide +kernel
theorem dX5_goBack_3 : decode cX5_goBack 3 = .ok (.invokestatic 45, 3) := by decide +kernel
theorem dX5_goBack_6 : decode cX5_goBack 6 = .ok (.invokestatic 49, 3) := by decide +kernel
theorem dX5_goBack_9 : decode cX5_goBack 9 = .ok (.aload_n 0, 1) := by decide +kernel
theorem dX5_goBack_10 : decode cX5_goBack 10 = .ok (.getfield 20, 3) := by decide +kernel
theorem dX5_goBack_13 : decode cX5_goBack 13 = .ok (.iload_n 1, 1) := by decide +kernel
theorem dX5_goBack_14 : decode cX5_goBack 14 = .ok (.baload, 1) := by decide +kernel
theorem dX5_goBack_15 : decode cX5_goBack 15 = .ok (.ifCond .ne 13, 3) := by decide +kernel
theorem dX5_goBack_18 : decode cX5_goBack 18 = .ok (.new 116, 3) := by decide +kernel
theorem dX5_goBack_21 : decode cX5_goBack 21 = .ok (.dup, 1) := by decide +kernel
theorem dX5_goBack_22 : decode cX5_goBack 22 = .ok (.ldc 148, 2) := by decide +kernel
theorem dX5_goBack_24 : decode cX5_goBack 24 = .ok (.invokespecial 120, 3) := by decide +kernel
theorem dX5_goBack_27 : decode cX5_goBack 27 = .ok (.athrow, 1) := by decide +kernel
theorem dX5_goBack_28 : decode cX5_goBack 28 = .ok (.aload_n 0, 1) := by decide +kernel
theorem dX5_goBack_29 : decode cX5_goBack 29 = .ok (.getfield 27, 3) := by decide +kernel
theorem dX5_goBack_32 : decode cX5_goBack 32 = .ok (.aload_n 0, 1) := by decide +kernel
theorem dX5_goBack_33 : decode cX5_goBack 33 = .ok (.getfield 10, 3) := by decide +kernel
theorem dX5_goBack_36 : decode cX5_goBack 36 = .ok (.invokevirtual 53, 3) := by decide +kernel
theorem dX5_goBack_39 : decode cX5_goBack 39 = .ok (.aload_n 0, 1) := by decide +kernel
theorem dX5_goBack_40 : decode cX5_goBack 40 = .ok (.getfield 10, 3) := by decide +kernel
theorem dX5_goBack_43 : decode cX5_goBack 43 = .ok (.aload_n 0, 1) := by decide +kernel
theorem dX5_goBack_44 : decode cX5_goBack 44 = .ok (.getfield 16, 3) := by decide +kernel
theorem dX5_goBack_47 : decode cX5_goBack 47 = .ok (.iload_n 1, 1) := by decide +kernel
theorem dX5_goBack_48 : decode cX5_goBack 48 = .ok (.aaload, 1) := by decide +kernel
theorem dX5_goBack_49 : decode cX5_goBack 49 = .ok (.invokevirtual 142, 3) := by decide +kernel
theorem dX5_goBack_52 : decode cX5_goBack 52 = .ok (.aload_n 0, 1) := by decide +kernel
theorem dX5_goBack_53 : decode cX5_goBack 53 = .ok (.getfield 10, 3) := by decide +kernel
theorem dX5_goBack_56 : decode cX5_goBack 56 = .ok (.getfield 145, 3) := by decide +kernel
theorem dX5_goBack_59 : decode cX5_goBack 59 = .ok (.ireturn, 1) := by decide +kernel
theorem dX5_undo_0 : decode cX5_undo 0 = .ok (.aload_n 0, 1) := by decide +kernel
theorem dX5_undo_1 : decode cX5_undo 1 = .ok (.getfield 27, 3) := by decide +kernel
theorem dX5_undo_4 : decode cX5_undo 4 = .ok (.getfield 150, 3) := by decide +kernel
theorem dX5_undo_7 : decode cX5_undo 7 = .ok (.ifCond .ne 13, 3) := by decide +kernel
theorem dX5_undo_10 : decode cX5_undo 10 = .ok (.new 116, 3) := by decide +kernel
theorem dX5_undo_13 : decode cX5_undo 13 = .ok (.dup, 1) := by decide +kernel
theorem dX5_undo_14 : decode cX5_undo 14 = .ok (.ldc 151, 2) := by decide +kernel
theorem dX5_undo_16 : decode cX5_undo 16 = .ok (.invokespecial 120, 3) := by decide +kernel
theorem dX5_undo_19 : decode cX5_undo 19 = .ok (.athrow, 1) := by decide +kernel
theorem dX5_undo_20 : decode cX5_undo 20 = .ok (.aload_n 0, 1) := by decide +kernel
theorem dX5_undo_21 : decode cX5_undo 21 = .ok (.getfield 27, 3) := by decide +kernel
theorem dX5_undo_24 : decode cX5_undo 24 = .ok (.aload_n 0, 1) := by decide +kernel
theorem dX5_undo_25 : decode cX5_undo 25 = .ok (.getfield 10, 3) := by decide +kernel
theorem dX5_undo_28 : decode cX5_undo 28 = .ok (.invokevirtual 153, 3) := by decide +kernel
theorem dX5_undo_31 : decode cX5_undo 31 = .ok (.aload_n 0, 1) := by decide +kernel
theorem dX5_undo_32 : decode cX5_undo 32 = .ok (.getfield 27, 3) := by decide +kernel
theorem dX5_undo_35 : decode cX5_undo 35 = .ok (.getfield 150, 3) := by decide +kernel
theorem dX5_undo_38 : decode cX5_undo 38 = .ok (.ireturn, 1) := by decide +kernel
theorem dX5_parcelOf_0 : decode cX5_parcelOf 0 = .ok (.aload_n 0, 1) := by decide +kernel
theorem dX5_parcelOf_1 : decode cX5_parcelOf 1 = .ok (.iload_n 1, 1) := by decide +kernel
theorem dX5_parcelOf_2 : decode cX5_parcelOf 2 = .ok (.invokevirtual 61, 3) := by decide +kernel
theorem dX5_parcelOf_5 : decode cX5_parcelOf 5 = .ok (.iload_n 2, 1) := by decide +kernel
theorem dX5_parcelOf_6 : decode cX5_parcelOf 6 = .ok (.iconst 0, 1) := by decide +kernel
theorem dX5_parcelOf_7 : decode cX5_parcelOf 7 = .ok (.bipush 10, 2) := by decide +kernel
theorem dX5_parcelOf_9 : decode cX5_parcelOf 9 = .ok (.invokestatic 45, 3) := by decide +kernel
theorem dX5_parcelOf_12 : decode cX5_parcelOf 12 = .ok (.invokestatic 49, 3) := by decide +kernel
theorem dX5_parcelOf_15 : decode cX5_parcelOf 15 = .ok (.aload_n 0, 1) := by decide +kernel
theorem dX5_parcelOf_16 : decode cX5_parcelOf 16 = .ok (.getfield 10, 3) := by decide +kernel
theorem dX5_parcelOf_19 : decode cX5_parcelOf 19 = .ok (.aload_n 0, 1) := by decide +kernel
theorem dX5_parcelOf_20 : decode cX5_parcelOf 20 = .ok (.getfield 10, 3) := by decide +kernel
theorem dX5_parcelOf_23 : decode cX5_parcelOf 23 = .ok (.getfield 65, 3) := by decide +kernel
theorem dX5_parcelOf_26 : decode cX5_parcelOf 26 = .ok (.iload_n 1, 1) := by decide +kernel
theorem dX5_parcelOf_27 : decode cX5_parcelOf 27 = .ok (.aaload, 1) := by decide +kernel
theorem dX5_parcelOf_28 : decode cX5_parcelOf 28 = .ok (.iload_n 2, 1) := by decide +kernel
theorem dX5_parcelOf_29 : decode cX5_parcelOf 29 = .ok (.invokevirtual 156, 3) := by decide +kernel
theorem dX5_parcelOf_32 : decode cX5_parcelOf 32 = .ok (.ireturn, 1) := by decide +kernel
theorem dX5_rate_0 : decode cX5_rate 0 = .ok (.iload_n 1, 1) := by decide +kernel
theorem dX5_rate_1 : decode cX5_rate 1 = .ok (.iconst 1, 1) := by decide +kernel
theorem dX5_rate_2 : decode cX5_rate 2 = .ok (.sipush 999, 3) := by decide +kernel
theorem dX5_rate_5 : decode cX5_rate 5 = .ok (.invokestatic 45, 3) := by decide +kernel
theorem dX5_rate_8 : decode cX5_rate 8 = .ok (.ifCond .eq 16, 3) := by decide +kernel
theorem dX5_rate_11 : decode cX5_rate 11 = .ok (.iload_n 2, 1) := by decide +kernel
theorem dX5_rate_12 : decode cX5_rate 12 = .ok (.iconst 0, 1) := by decide +kernel
theorem dX5_rate_13 : decode cX5_rate 13 = .ok (.iconst 1, 1) := by decide +kernel
theorem dX5_rate_14 : decode cX5_rate 14 = .ok (.invokestatic 45, 3) := by decide +kernel
theorem dX5_rate_17 : decode cX5_rate 17 = .ok (.ifCond .eq 7, 3) := by decide +kernel
theorem dX5_rate_20 : decode cX5_rate 20 = .ok (.iconst 1, 1) := by decide +kernel
theorem dX5_rate_21 : decode cX5_rate 21 = .ok (.goto 4, 3) := by decide +kernel
theorem dX5_rate_24 : decode cX5_rate 24 = .ok (.iconst 0, 1) := by decide +kernel
theorem dX5_rate_25 : decode cX5_rate 25 = .ok (.invokestatic 49, 3) := by decide +kernel
theorem dX5_rate_28 : decode cX5_rate 28 = .ok (.iload_n 2, 1) := by decide +kernel
theorem dX5_rate_29 : decode cX5_rate 29 = .ok (.ifCond .ne 14, 3) := by decide +kernel
theorem dX5_rate_32 : decode cX5_rate 32 = .ok (.aload_n 0, 1) := by decide +kernel
theorem dX5_rate_33 : decode cX5_rate 33 = .ok (.getfield 10, 3) := by decide +kernel
theorem dX5_rate_36 : decode cX5_rate 36 = .ok (.iload_n 1, 1) := by decide +kernel
theorem dX5_rate_37 : decode cX5_rate 37 = .ok (.invokevirtual 160, 3) := by decide +kernel
theorem dX5_rate_40 : decode cX5_rate 40 = .ok (.goto 11, 3) := by decide +kernel
theorem dX5_rate_43 : decode cX5_rate 43 = .ok (.aload_n 0, 1) := by decide +kernel
theorem dX5_rate_44 : decode cX5_rate 44 = .ok (.getfield 10, 3) := by decide +kernel
theorem dX5_rate_47 : decode cX5_rate 47 = .ok (.iload_n 1, 1) := by decide +kernel
theorem dX5_rate_48 : decode cX5_rate 48 = .ok (.invokevirtual 163, 3) := by decide +kernel
theorem dX5_rate_51 : decode cX5_rate 51 = .ok (.ireturn, 1) := by decide +kernel
theorem dX5_count_0 : decode cX5_count 0 = .ok (.iload_n 1, 1) := by decide +kernel
theorem dX5_count_1 : decode cX5_count 1 = .ok (.iconst 0, 1) := by decide +kernel
theorem dX5_count_2 : decode cX5_count 2 = .ok (.bipush 9, 2) := by decide +kernel
theorem dX5_count_4 : decode cX5_count 4 = .ok (.invokestatic 45, 3) := by decide +kernel
theorem dX5_count_7 : decode cX5_count 7 = .ok (.invokestatic 49, 3) := by decide +kernel
theorem dX5_count_10 : decode cX5_count 10 = .ok (.iload_n 1, 1) := by decide +kernel
theorem dX5_count_11 : decode cX5_count 11 = .ok (.bipush 9, 2) := by decide +kernel
theorem dX5_count_13 : decode cX5_count 13 = .ok (.if_icmp .ne 13, 3) := by decide +kernel
theorem dX5_count_16 : decode cX5_count 16 = .ok (.aload_n 0, 1) := by decide +kernel
theorem dX5_count_17 : decode cX5_count 17 = .ok (.getfield 27, 3) := by decide +kernel
theorem dX5_count_20 : decode cX5_count 20 = .ok (.getfield 150, 3) := by decide +kernel
theorem dX5_count_23 : decode cX5_count 23 = .ok (.goto 11, 3) := by decide +kernel
theorem dX5_count_26 : decode cX5_count 26 = .ok (.aload_n 0, 1) := by decide +kernel
theorem dX5_count_27 : decode cX5_count 27 = .ok (.getfield 10, 3) := by decide +kernel
theorem dX5_count_30 : decode cX5_count 30 = .ok (.iload_n 1, 1) := by decide +kernel
theorem dX5_count_31 : decode cX5_count 31 = .ok (.invokevirtual 166, 3) := by decide +kernel
theorem dX5_count_34 : decode cX5_count 34 = .ok (.ireturn, 1) := by decide +kernel
theorem dX5_setting_0 : decode cX5_setting 0 = .ok (.iload_n 1, 1) := by decide +kernel
theorem dX5_setting_1 : decode cX5_setting 1 = .ok (.iconst 4, 1) := by decide +kernel
theorem dX5_setting_2 : decode cX5_setting 2 = .ok (.invokestatic 92, 3) := by decide +kernel
theorem dX5_setting_5 : decode cX5_setting 5 = .ok (.aload_n 0, 1) := by decide +kernel
theorem dX5_setting_6 : decode cX5_setting 6 = .ok (.getfield 10, 3) := by decide +kernel
theorem dX5_setting_9 : decode cX5_setting 9 = .ok (.getfield 109, 3) := by decide +kernel
theorem dX5_setting_12 : decode cX5_setting 12 = .ok (.iload_n 1, 1) := by decide +kernel
theorem dX5_setting_13 : decode cX5_setting 13 = .ok (.iaload, 1) := by decide +kernel
theorem dX5_setting_14 : decode cX5_setting 14 = .ok (.ireturn, 1) := by decide +kernel
theorem dX5_cheapestWay_0 : decode cX5_cheapestWay 0 = .ok (.aload_n 0, 1) := by decide +kernel
theorem dX5_cheapestWay_1 : decode cX5_cheapestWay 1 = .ok (.iload_n 1, 1) := by decide +kernel
theorem dX5_cheapestWay_2 : decode cX5_cheapestWay 2 = .ok (.invokevirtual 61, 3) := by decide +kernel
theorem dX5_cheapestWay_5 : decode cX5_cheapestWay 5 = .ok (.aload_n 0, 1) := by decide +kernel
theorem dX5_cheapestWay_6 : decode cX5_cheapestWay 6 = .ok (.getfield 10, 3) := by decide +kernel
theorem dX5_cheapestWay_9 : decode cX5_cheapestWay 9 = .ok (.aload_n 0, 1) := by decide +kernel
theorem dX5_cheapestWay_10 : decode cX5_cheapestWay 10 = .ok (.getfield 10, 3) := by decide +kernel
theorem dX5_cheapestWay_13 : decode cX5_cheapestWay 13 = .ok (.getfield 65, 3) := by decide +kernel
theorem dX5_cheapestWay_16 : decode cX5_cheapestWay 16 = .ok (.iload_n 1, 1) := by decide +kernel
theorem dX5_cheapestWay_17 : decode cX5_cheapestWay 17 = .ok (.aaload, 1) := by decide +kernel
theorem dX5_cheapestWay_18 : decode cX5_cheapestWay 18 = .ok (.invokevirtual 169, 3) := by decide +kernel
theorem dX5_cheapestWay_21 : decode cX5_cheapestWay 21 = .ok (.ireturn, 1) := by decide +kernel
theorem dX5_ifBundled_0 : decode cX5_ifBundled 0 = .ok (.aload_n 0, 1) := by decide +kernel
theorem dX5_ifBundled_1 : decode cX5_ifBundled 1 = .ok (.iload_n 1, 1) := by decide +kernel
theorem dX5_ifBundled_2 : decode cX5_ifBundled 2 = .ok (.invokevirtual 61, 3) := by decide +kernel
theorem dX5_ifBundled_5 : decode cX5_ifBundled 5 = .ok (.aload_n 0, 1) := by decide +kernel
theorem dX5_ifBundled_6 : decode cX5_ifBundled 6 = .ok (.iload_n 2, 1) := by decide +kernel
theorem dX5_ifBundled_7 : decode cX5_ifBundled 7 = .ok (.invokevirtual 61, 3) := by decide +kernel
theorem dX5_ifBundled_10 : decode cX5_ifBundled 10 = .ok (.iload_n 1, 1) := by decide +kernel
theorem dX5_ifBundled_11 : decode cX5_ifBundled 11 = .ok (.iload_n 2, 1) := by decide +kernel
theorem dX5_ifBundled_12 : decode cX5_ifBundled 12 = .ok (.if_icmp .eq 7, 3) := by decide +kernel
theorem dX5_ifBundled_15 : decode cX5_ifBundled 15 = .ok (.iconst 1, 1) := by decide +kernel
theorem dX5_ifBundled_16 : decode cX5_ifBundled 16 = .ok (.goto 4, 3) := by decide +kernel
theorem dX5_ifBundled_19 : decode cX5_ifBundled 19 = .ok (.iconst 0, 1) := by decide +kernel
theorem dX5_ifBundled_20 : decode cX5_ifBundled 20 = .ok (.invokestatic 49, 3) := by decide +kernel
theorem dX5_ifBundled_23 : decode cX5_ifBundled 23 = .ok (.aload_n 0, 1) := by decide +kernel
theorem dX5_ifBundled_24 : decode cX5_ifBundled 24 = .ok (.getfield 41, 3) := by decide +kernel
theorem dX5_ifBundled_27 : decode cX5_ifBundled 27 = .ok (.aload_n 0, 1) := by decide +kernel
theorem dX5_ifBundled_28 : decode cX5_ifBundled 28 = .ok (.getfield 10, 3) := by decide +kernel
theorem dX5_ifBundled_31 : decode cX5_ifBundled 31 = .ok (.aload_n 0, 1) := by decide +kernel
theorem dX5_ifBundled_32 : decode cX5_ifBundled 32 = .ok (.getfield 10, 3) := by decide +kernel
theorem dX5_ifBundled_35 : decode cX5_ifBundled 35 = .ok (.getfield 65, 3) := by decide +kernel
theorem dX5_ifBundled_38 : decode cX5_ifBundled 38 = .ok (.iload_n 1, 1) := by decide +kernel
theorem dX5_ifBundled_39 : decode cX5_ifBundled 39 = .ok (.aaload, 1) := by decide +kernel
theorem dX5_ifBundled_40 : decode cX5_ifBundled 40 = .ok (.aload_n 0, 1) := by decide +kernel
theorem dX5_ifBundled_41 : decode cX5_ifBundled 41 = .ok (.getfield 10, 3) := by decide +kernel
theorem dX5_ifBundled_44 : decode cX5_ifBundled 44 = .ok (.getfield 65, 3) := by decide +kernel
theorem dX5_ifBundled_47 : decode cX5_ifBundled 47 = .ok (.iload_n 2, 1) := by decide +kernel
theorem dX5_ifBundled_48 : decode cX5_ifBundled 48 = .ok (.aaload, 1) := by decide +kernel
theorem dX5_ifBundled_49 : decode cX5_ifBundled 49 = .ok (.invokevirtual 173, 3) := by decide +kernel
theorem dX5_ifBundled_52 : decode cX5_ifBundled 52 = .ok (.ireturn, 1) := by decide +kernel
theorem dX5_cheapest_0 : decode cX5_cheapest 0 = .ok (.iload_n 1, 1) := by decide +kernel
theorem dX5_cheapest_1 : decode cX5_cheapest 1 = .ok (.iconst 0, 1) := by decide +kernel
theorem dX5_cheapest_2 : decode cX5_cheapest 2 = .ok (.iconst 1, 1) := by decide +kernel
theorem dX5_cheapest_3 : decode cX5_cheapest 3 = .ok (.invokestatic 45, 3) := by decide +kernel
theorem dX5_cheapest_6 : decode cX5_cheapest 6 = .ok (.invokestatic 49, 3) := by decide +kernel
theorem dX5_cheapest_9 : decode cX5_cheapest 9 = .ok (.aload_n 0, 1) := by decide +kernel
theorem dX5_cheapest_10 : decode cX5_cheapest 10 = .ok (.getfield 41, 3) := by decide +kernel
theorem dX5_cheapest_13 : decode cX5_cheapest 13 = .ok (.aload_n 0, 1) := by decide +kernel
theorem dX5_cheapest_14 : decode cX5_cheapest 14 = .ok (.getfield 10, 3) := by decide +kernel
theorem dX5_cheapest_17 : decode cX5_cheapest 17 = .ok (.invokevirtual 177, 3) := by decide +kernel
theorem dX5_cheapest_20 : decode cX5_cheapest 20 = .ok (.iload_n 1, 1) := by decide +kernel
theorem dX5_cheapest_21 : decode cX5_cheapest 21 = .ok (.ifCond .ne 13, 3) := by decide +kernel
theorem dX5_cheapest_24 : decode cX5_cheapest 24 = .ok (.aload_n 0, 1) := by decide +kernel
theorem dX5_cheapest_25 : decode cX5_cheapest 25 = .ok (.getfield 41, 3) := by decide +kernel
theorem dX5_cheapest_28 : decode cX5_cheapest 28 = .ok (.invokevirtual 180, 3) := by decide +kernel
theorem dX5_cheapest_31 : decode cX5_cheapest 31 = .ok (.goto 10, 3) := by decide +kernel
theorem dX5_cheapest_34 : decode cX5_cheapest 34 = .ok (.aload_n 0, 1) := by decide +kernel
theorem dX5_cheapest_35 : decode cX5_cheapest 35 = .ok (.getfield 41, 3) := by decide +kernel
theorem dX5_cheapest_38 : decode cX5_cheapest 38 = .ok (.invokevirtual 183, 3) := by decide +kernel
theorem dX5_cheapest_41 : decode cX5_cheapest 41 = .ok (.ireturn, 1) := by decide +kernel
theorem dX5_dearest_0 : decode cX5_dearest 0 = .ok (.aload_n 0, 1) := by decide +kernel
theorem dX5_dearest_1 : decode cX5_dearest 1 = .ok (.getfield 10, 3) := by decide +kernel
theorem dX5_dearest_4 : decode cX5_dearest 4 = .ok (.invokevirtual 186, 3) := by decide +kernel
theorem dX5_dearest_7 : decode cX5_dearest 7 = .ok (.ireturn, 1) := by decide +kernel
theorem dX5_savedShare_0 : decode cX5_savedShare 0 = .ok (.aload_n 0, 1) := by decide +kernel
theorem dX5_savedShare_1 : decode cX5_savedShare 1 = .ok (.getfield 41, 3) := by decide +kernel
theorem dX5_savedShare_4 : decode cX5_savedShare 4 = .ok (.aload_n 0, 1) := by decide +kernel
theorem dX5_savedShare_5 : decode cX5_savedShare 5 = .ok (.getfield 10, 3) := by decide +kernel
theorem dX5_savedShare_8 : decode cX5_savedShare 8 = .ok (.invokevirtual 177, 3) := by decide +kernel
theorem dX5_savedShare_11 : decode cX5_savedShare 11 = .ok (.aload_n 0, 1) := by decide +kernel
theorem dX5_savedShare_12 : decode cX5_savedShare 12 = .ok (.getfield 41, 3) := by decide +kernel
theorem dX5_savedShare_15 : decode cX5_savedShare 15 = .ok (.invokevirtual 189, 3) := by decide +kernel
theorem dX5_savedShare_18 : decode cX5_savedShare 18 = .ok (.istore_n 1, 1) := by decide +kernel
theorem dX5_savedShare_19 : decode cX5_savedShare 19 = .ok (.iload_n 1, 1) := by decide +kernel
theorem dX5_savedShare_20 : decode cX5_savedShare 20 = .ok (.ifCond .ne 5, 3) := by decide +kernel
theorem dX5_savedShare_23 : decode cX5_savedShare 23 = .ok (.dconst 0, 1) := by decide +kernel
theorem dX5_savedShare_24 : decode cX5_savedShare 24 = .ok (.dreturn, 1) := by decide +kernel
theorem dX5_savedShare_25 : decode cX5_savedShare 25 = .ok (.iload_n 1, 1) := by decide +kernel
theorem dX5_savedShare_26 : decode cX5_savedShare 26 = .ok (.aload_n 0, 1) := by decide +kernel
theorem dX5_savedShare_27 : decode cX5_savedShare 27 = .ok (.getfield 41, 3) := by decide +kernel
theorem dX5_savedShare_30 : decode cX5_savedShare 30 = .ok (.invokevirtual 180, 3) := by decide +kernel
theorem dX5_savedShare_33 : decode cX5_savedShare 33 = .ok (.isub, 1) := by decide +kernel
theorem dX5_savedShare_34 : decode cX5_savedShare 34 = .ok (.i2d, 1) := by decide +kernel
theorem dX5_savedShare_35 : decode cX5_savedShare 35 = .ok (.iload_n 1, 1) := by decide +kernel
theorem dX5_savedShare_36 : decode cX5_savedShare 36 = .ok (.i2d, 1) := by decide +kernel
theorem dX5_savedShare_37 : decode cX5_savedShare 37 = .ok (.ddiv, 1) := by decide +kernel
theorem dX5_savedShare_38 : decode cX5_savedShare 38 = .ok (.dreturn, 1) := by decide +kernel
theorem dX5_digest_0 : decode cX5_digest 0 = .ok (.ldc2_w 192, 3) := by decide +kernel
theorem dX5_digest_3 : decode cX5_digest 3 = .ok (.lstore_n 1, 1) := by decide +kernel
theorem dX5_digest_4 : decode cX5_digest 4 = .ok (.iconst 0, 1) := by decide +kernel
theorem dX5_digest_5 : decode cX5_digest 5 = .ok (.istore_n 3, 1) := by decide +kernel
theorem dX5_digest_6 : decode cX5_digest 6 = .ok (.iload_n 3, 1) := by decide +kernel
theorem dX5_digest_7 : decode cX5_digest 7 = .ok (.bipush 9, 2) := by decide +kernel
theorem dX5_digest_9 : decode cX5_digest 9 = .ok (.if_icmp .gt 20, 3) := by decide +kernel
theorem dX5_digest_12 : decode cX5_digest 12 = .ok (.lload_n 1, 1) := by decide +kernel
theorem dX5_digest_13 : decode cX5_digest 13 = .ok (.aload_n 0, 1) := by decide +kernel
theorem dX5_digest_14 : decode cX5_digest 14 = .ok (.iload_n 3, 1) := by decide +kernel
theorem dX5_digest_15 : decode cX5_digest 15 = .ok (.invokevirtual 194, 3) := by decide +kernel
theorem dX5_digest_18 : decode cX5_digest 18 = .ok (.i2l, 1) := by decide +kernel
theorem dX5_digest_19 : decode cX5_digest 19 = .ok (.invokestatic 197, 3) := by decide +kernel
theorem dX5_digest_22 : decode cX5_digest 22 = .ok (.lstore_n 1, 1) := by decide +kernel
theorem dX5_digest_23 : decode cX5_digest 23 = .ok (.iinc 3 1, 3) := by decide +kernel
theorem dX5_digest_26 : decode cX5_digest 26 = .ok (.goto (-20), 3) := by decide +kernel
theorem dX5_digest_29 : decode cX5_digest 29 = .ok (.lload_n 1, 1) := by decide +kernel
theorem dX5_digest_30 : decode cX5_digest 30 = .ok (.aload_n 0, 1) := by decide +kernel
theorem dX5_digest_31 : decode cX5_digest 31 = .ok (.getfield 10, 3) := by decide +kernel
theorem dX5_digest_34 : decode cX5_digest 34 = .ok (.getfield 109, 3) := by decide +kernel
theorem dX5_digest_37 : decode cX5_digest 37 = .ok (.iconst 4, 1) := by decide +kernel
theorem dX5_digest_38 : decode cX5_digest 38 = .ok (.invokestatic 201, 3) := by decide +kernel
theorem dX5_digest_41 : decode cX5_digest 41 = .ok (.lstore_n 1, 1) := by decide +kernel
theorem dX5_digest_42 : decode cX5_digest 42 = .ok (.lload_n 1, 1) := by decide +kernel
theorem dX5_digest_43 : decode cX5_digest 43 = .ok (.aload_n 0, 1) := by decide +kernel
theorem dX5_digest_44 : decode cX5_digest 44 = .ok (.getfield 10, 3) := by decide +kernel
theorem dX5_digest_47 : decode cX5_digest 47 = .ok (.getfield 96, 3) := by decide +kernel
theorem dX5_digest_50 : decode cX5_digest 50 = .ok (.bipush 12, 2) := by decide +kernel
theorem dX5_digest_52 : decode cX5_digest 52 = .ok (.invokestatic 201, 3) := by decide +kernel
theorem dX5_digest_55 : decode cX5_digest 55 = .ok (.lstore_n 1, 1) := by decide +kernel
theorem dX5_digest_56 : decode cX5_digest 56 = .ok (.lload_n 1, 1) := by decide +kernel
theorem dX5_digest_57 : decode cX5_digest 57 = .ok (.aload_n 0, 1) := by decide +kernel
theorem dX5_digest_58 : decode cX5_digest 58 = .ok (.getfield 10, 3) := by decide +kernel
theorem dX5_digest_61 : decode cX5_digest 61 = .ok (.getfield 100, 3) := by decide +kernel
theorem dX5_digest_64 : decode cX5_digest 64 = .ok (.iconst 4, 1) := by decide +kernel
theorem dX5_digest_65 : decode cX5_digest 65 = .ok (.invokestatic 201, 3) := by decide +kernel
theorem dX5_digest_68 : decode cX5_digest 68 = .ok (.lstore_n 1, 1) := by decide +kernel
theorem dX5_digest_69 : decode cX5_digest 69 = .ok (.lload_n 1, 1) := by decide +kernel
theorem dX5_digest_70 : decode cX5_digest 70 = .ok (.aload_n 0, 1) := by decide +kernel
theorem dX5_digest_71 : decode cX5_digest 71 = .ok (.bipush 120, 2) := by decide +kernel
theorem dX5_digest_73 : decode cX5_digest 73 = .ok (.iconst 0, 1) := by decide +kernel
theorem dX5_digest_74 : decode cX5_digest 74 = .ok (.invokevirtual 205, 3) := by decide +kernel
theorem dX5_digest_77 : decode cX5_digest 77 = .ok (.i2l, 1) := by decide +kernel
theorem dX5_digest_78 : decode cX5_digest 78 = .ok (.invokestatic 197, 3) := by decide +kernel
theorem dX5_digest_81 : decode cX5_digest 81 = .ok (.lstore_n 1, 1) := by decide +kernel
theorem dX5_digest_82 : decode cX5_digest 82 = .ok (.lload_n 1, 1) := by decide +kernel
theorem dX5_digest_83 : decode cX5_digest 83 = .ok (.aload_n 0, 1) := by decide +kernel
theorem dX5_digest_84 : decode cX5_digest 84 = .ok (.bipush 120, 2) := by decide +kernel
theorem dX5_digest_86 : decode cX5_digest 86 = .ok (.iconst 1, 1) := by decide +kernel
theorem dX5_digest_87 : decode cX5_digest 87 = .ok (.invokevirtual 205, 3) := by decide +kernel
theorem dX5_digest_90 : decode cX5_digest 90 = .ok (.i2l, 1) := by decide +kernel
theorem dX5_digest_91 : decode cX5_digest 91 = .ok (.invokestatic 197, 3) := by decide +kernel
theorem dX5_digest_94 : decode cX5_digest 94 = .ok (.lstore_n 1, 1) := by decide +kernel
theorem dX5_digest_95 : decode cX5_digest 95 = .ok (.lload_n 1, 1) := by decide +kernel
theorem dX5_digest_96 : decode cX5_digest 96 = .ok (.aload_n 0, 1) := by decide +kernel
theorem dX5_digest_97 : decode cX5_digest 97 = .ok (.sipush 999, 3) := by decide +kernel
theorem dX5_digest_100 : decode cX5_digest 100 = .ok (.iconst 0, 1) := by decide +kernel
theorem dX5_digest_101 : decode cX5_digest 101 = .ok (.invokevirtual 205, 3) := by decide +kernel
theorem dX5_digest_104 : decode cX5_digest 104 = .ok (.i2l, 1) := by decide +kernel
theorem dX5_digest_105 : decode cX5_digest 105 = .ok (.invokestatic 197, 3) := by decide +kernel
theorem dX5_digest_108 : decode cX5_digest 108 = .ok (.lstore_n 1, 1) := by decide +kernel
theorem dX5_digest_109 : decode cX5_digest 109 = .ok (.lload_n 1, 1) := by decide +kernel
theorem dX5_digest_110 : decode cX5_digest 110 = .ok (.aload_n 0, 1) := by decide +kernel
theorem dX5_digest_111 : decode cX5_digest 111 = .ok (.sipush 999, 3) := by decide +kernel
theorem dX5_digest_114 : decode cX5_digest 114 = .ok (.iconst 1, 1) := by decide +kernel
theorem dX5_digest_115 : decode cX5_digest 115 = .ok (.invokevirtual 205, 3) := by decide +kernel
theorem dX5_digest_118 : decode cX5_digest 118 = .ok (.i2l, 1) := by decide +kernel
theorem dX5_digest_119 : decode cX5_digest 119 = .ok (.invokestatic 197, 3) := by decide +kernel
theorem dX5_digest_122 : decode cX5_digest 122 = .ok (.lstore_n 1, 1) := by decide +kernel
theorem dX5_digest_123 : decode cX5_digest 123 = .ok (.iconst 0, 1) := by decide +kernel
theorem dX5_digest_124 : decode cX5_digest 124 = .ok (.istore_n 3, 1) := by decide +kernel
theorem dX5_digest_125 : decode cX5_digest 125 = .ok (.iload_n 3, 1) := by decide +kernel
theorem dX5_digest_126 : decode cX5_digest 126 = .ok (.aload_n 0, 1) := by decide +kernel
theorem dX5_digest_127 : decode cX5_digest 127 = .ok (.getfield 10, 3) := by decide +kernel
theorem dX5_digest_130 : decode cX5_digest 130 = .ok (.getfield 88, 3) := by decide +kernel
theorem dX5_digest_133 : decode cX5_digest 133 = .ok (.if_icmp .ge 16, 3) := by decide +kernel
theorem dX5_digest_136 : decode cX5_digest 136 = .ok (.aload_n 0, 1) := by decide +kernel
theorem dX5_digest_137 : decode cX5_digest 137 = .ok (.lload_n 1, 1) := by decide +kernel
theorem dX5_digest_138 : decode cX5_digest 138 = .ok (.iload_n 3, 1) := by decide +kernel
theorem dX5_digest_139 : decode cX5_digest 139 = .ok (.invokevirtual 208, 3) := by decide +kernel
theorem dX5_digest_142 : decode cX5_digest 142 = .ok (.lstore_n 1, 1) := by decide +kernel
theorem dX5_digest_143 : decode cX5_digest 143 = .ok (.iinc 3 1, 3) := by decide +kernel
theorem dX5_digest_146 : decode cX5_digest 146 = .ok (.goto (-21), 3) := by decide +kernel
theorem dX5_digest_149 : decode cX5_digest 149 = .ok (.lload_n 1, 1) := by decide +kernel
theorem dX5_digest_150 : decode cX5_digest 150 = .ok (.aload_n 0, 1) := by decide +kernel
theorem dX5_digest_151 : decode cX5_digest 151 = .ok (.iconst 0, 1) := by decide +kernel
theorem dX5_digest_152 : decode cX5_digest 152 = .ok (.invokevirtual 212, 3) := by decide +kernel
theorem dX5_digest_155 : decode cX5_digest 155 = .ok (.i2l, 1) := by decide +kernel
theorem dX5_digest_156 : decode cX5_digest 156 = .ok (.invokestatic 197, 3) := by decide +kernel
theorem dX5_digest_159 : decode cX5_digest 159 = .ok (.lstore_n 1, 1) := by decide +kernel
theorem dX5_digest_160 : decode cX5_digest 160 = .ok (.lload_n 1, 1) := by decide +kernel
theorem dX5_digest_161 : decode cX5_digest 161 = .ok (.aload_n 0, 1) := by decide +kernel
theorem dX5_digest_162 : decode cX5_digest 162 = .ok (.iconst 1, 1) := by decide +kernel
theorem dX5_digest_163 : decode cX5_digest 163 = .ok (.invokevirtual 212, 3) := by decide +kernel
theorem dX5_digest_166 : decode cX5_digest 166 = .ok (.i2l, 1) := by decide +kernel
theorem dX5_digest_167 : decode cX5_digest 167 = .ok (.invokestatic 197, 3) := by decide +kernel
theorem dX5_digest_170 : decode cX5_digest 170 = .ok (.lstore_n 1, 1) := by decide +kernel
theorem dX5_digest_171 : decode cX5_digest 171 = .ok (.lload_n 1, 1) := by decide +kernel
theorem dX5_digest_172 : decode cX5_digest 172 = .ok (.aload_n 0, 1) := by decide +kernel
theorem dX5_digest_173 : decode cX5_digest 173 = .ok (.invokevirtual 215, 3) := by decide +kernel
theorem dX5_digest_176 : decode cX5_digest 176 = .ok (.i2l, 1) := by decide +kernel
theorem dX5_digest_177 : decode cX5_digest 177 = .ok (.invokestatic 197, 3) := by decide +kernel
theorem dX5_digest_180 : decode cX5_digest 180 = .ok (.lstore_n 1, 1) := by decide +kernel
theorem dX5_digest_181 : decode cX5_digest 181 = .ok (.lload_n 1, 1) := by decide +kernel
theorem dX5_digest_182 : decode cX5_digest 182 = .ok (.aload_n 0, 1) := by decide +kernel
theorem dX5_digest_183 : decode cX5_digest 183 = .ok (.invokevirtual 218, 3) := by decide +kernel
theorem dX5_digest_186 : decode cX5_digest 186 = .ok (.invokestatic 222, 3) := by decide +kernel
theorem dX5_digest_189 : decode cX5_digest 189 = .ok (.invokestatic 197, 3) := by decide +kernel
theorem dX5_digest_192 : decode cX5_digest 192 = .ok (.lstore_n 1, 1) := by decide +kernel
theorem dX5_digest_193 : decode cX5_digest 193 = .ok (.iconst 0, 1) := by decide +kernel
theorem dX5_digest_194 : decode cX5_digest 194 = .ok (.istore_n 3, 1) := by decide +kernel
theorem dX5_digest_195 : decode cX5_digest 195 = .ok (.iload_n 3, 1) := by decide +kernel
theorem dX5_digest_196 : decode cX5_digest 196 = .ok (.aload_n 0, 1) := by decide +kernel
theorem dX5_digest_197 : decode cX5_digest 197 = .ok (.getfield 20, 3) := by decide +kernel
theorem dX5_digest_200 : decode cX5_digest 200 = .ok (.arraylength, 1) := by decide +kernel
theorem dX5_digest_201 : decode cX5_digest 201 = .ok (.if_icmp .ge 28, 3) := by decide +kernel
theorem dX5_digest_204 : decode cX5_digest 204 = .ok (.lload_n 1, 1) := by decide +kernel
theorem dX5_digest_205 : decode cX5_digest 205 = .ok (.aload_n 0, 1) := by decide +kernel
theorem dX5_digest_206 : decode cX5_digest 206 = .ok (.getfield 20, 3) := by decide +kernel
theorem dX5_digest_209 : decode cX5_digest 209 = .ok (.iload_n 3, 1) := by decide +kernel
theorem dX5_digest_210 : decode cX5_digest 210 = .ok (.baload, 1) := by decide +kernel
theorem dX5_digest_211 : decode cX5_digest 211 = .ok (.ifCond .eq 7, 3) := by decide +kernel
theorem dX5_digest_214 : decode cX5_digest 214 = .ok (.lconst 1, 1) := by decide +kernel
theorem dX5_digest_215 : decode cX5_digest 215 = .ok (.goto 4, 3) := by decide +kernel
theorem dX5_digest_218 : decode cX5_digest 218 = .ok (.lconst 0, 1) := by decide +kernel
theorem dX5_digest_219 : decode cX5_digest 219 = .ok (.invokestatic 197, 3) := by decide +kernel
theorem dX5_digest_222 : decode cX5_digest 222 = .ok (.lstore_n 1, 1) := by decide +kernel
theorem dX5_digest_223 : decode cX5_digest 223 = .ok (.iinc 3 1, 3) := by decide +kernel
theorem dX5_digest_226 : decode cX5_digest 226 = .ok (.goto (-31), 3) := by decide +kernel
theorem dX5_digest_229 : decode cX5_digest 229 = .ok (.lload_n 1, 1) := by decide +kernel
theorem dX5_digest_230 : decode cX5_digest 230 = .ok (.aload_n 0, 1) := by decide +kernel
theorem dX5_digest_231 : decode cX5_digest 231 = .ok (.getfield 34, 3) := by decide +kernel
theorem dX5_digest_234 : decode cX5_digest 234 = .ok (.getfield 126, 3) := by decide +kernel
theorem dX5_digest_237 : decode cX5_digest 237 = .ok (.i2l, 1) := by decide +kernel
theorem dX5_digest_238 : decode cX5_digest 238 = .ok (.invokestatic 197, 3) := by decide +kernel
theorem dX5_digest_241 : decode cX5_digest 241 = .ok (.lstore_n 1, 1) := by decide +kernel
theorem dX5_digest_242 : decode cX5_digest 242 = .ok (.lload_n 1, 1) := by decide +kernel
theorem dX5_digest_243 : decode cX5_digest 243 = .ok (.aload_n 0, 1) := by decide +kernel
theorem dX5_digest_244 : decode cX5_digest 244 = .ok (.getfield 34, 3) := by decide +kernel
theorem dX5_digest_247 : decode cX5_digest 247 = .ok (.getfield 226, 3) := by decide +kernel
theorem dX5_digest_250 : decode cX5_digest 250 = .ok (.aload_n 0, 1) := by decide +kernel
theorem dX5_digest_251 : decode cX5_digest 251 = .ok (.getfield 34, 3) := by decide +kernel
theorem dX5_digest_254 : decode cX5_digest 254 = .ok (.getfield 126, 3) := by decide +kernel
theorem dX5_digest_257 : decode cX5_digest 257 = .ok (.invokestatic 201, 3) := by decide +kernel
theorem dX5_digest_260 : decode cX5_digest 260 = .ok (.lreturn, 1) := by decide +kernel
theorem dX5_isIn_0 : decode cX5_isIn 0 = .ok (.iload_n 0, 1) := by decide +kernel
theorem dX5_isIn_1 : decode cX5_isIn 1 = .ok (.iload_n 1, 1) := by decide +kernel
theorem dX5_isIn_2 : decode cX5_isIn 2 = .ok (.if_icmp .lt 12, 3) := by decide +kernel
theorem dX5_isIn_5 : decode cX5_isIn 5 = .ok (.iload_n 0, 1) := by decide +kernel
theorem dX5_isIn_6 : decode cX5_isIn 6 = .ok (.iload_n 2, 1) := by decide +kernel
theorem dX5_isIn_7 : decode cX5_isIn 7 = .ok (.if_icmp .gt 7, 3) := by decide +kernel
theorem dX5_isIn_10 : decode cX5_isIn 10 = .ok (.iconst 1, 1) := by decide +kernel
theorem dX5_isIn_11 : decode cX5_isIn 11 = .ok (.goto 4, 3) := by decide +kernel
theorem dX5_isIn_14 : decode cX5_isIn 14 = .ok (.iconst 0, 1) := by decide +kernel
theorem dX5_isIn_15 : decode cX5_isIn 15 = .ok (.ireturn, 1) := by decide +kernel
theorem dX5_requireArgument_0 : decode cX5_requireArgument 0 = .ok (.iload_n 0, 1) := by decide +kernel
theorem dX5_requireArgument_1 : decode cX5_requireArgument 1 = .ok (.ifCond .ne 13, 3) := by decide +kernel
theorem dX5_requireArgument_4 : decode cX5_requireArgument 4 = .ok (.new 229, 3) := by decide +kernel
theorem dX5_requireArgument_7 : decode cX5_requireArgument 7 = .ok (.dup, 1) := by decide +kernel
theorem dX5_requireArgument_8 : decode cX5_requireArgument 8 = .ok (.ldc 231, 2) := by decide +kernel
theorem dX5_requireArgument_10 : decode cX5_requireArgument 10 = .ok (.invokespecial 233, 3) := by decide +kernel
theorem dX5_requireArgument_13 : decode cX5_requireArgument 13 = .ok (.athrow, 1) := by decide +kernel
theorem dX5_requireArgument_14 : decode cX5_requireArgument 14 = .ok (.return_, 1) := by decide +kernel
theorem dX5_requireIndex_0 : decode cX5_requireIndex 0 = .ok (.iload_n 0, 1) := by decide +kernel
theorem dX5_requireIndex_1 : decode cX5_requireIndex 1 = .ok (.ifCond .lt 8, 3) := by decide +kernel
theorem dX5_requireIndex_4 : decode cX5_requireIndex 4 = .ok (.iload_n 0, 1) := by decide +kernel
theorem dX5_requireIndex_5 : decode cX5_requireIndex 5 = .ok (.iload_n 1, 1) := by decide +kernel
theorem dX5_requireIndex_6 : decode cX5_requireIndex 6 = .ok (.if_icmp .lt 13, 3) := by decide +kernel
theorem dX5_requireIndex_9 : decode cX5_requireIndex 9 = .ok (.new 234, 3) := by decide +kernel
theorem dX5_requireIndex_12 : decode cX5_requireIndex 12 = .ok (.dup, 1) := by decide +kernel
theorem dX5_requireIndex_13 : decode cX5_requireIndex 13 = .ok (.ldc 236, 2) := by decide +kernel
theorem dX5_requireIndex_15 : decode cX5_requireIndex 15 = .ok (.invokespecial 238, 3) := by decide +kernel
theorem dX5_requireIndex_18 : decode cX5_requireIndex 18 = .ok (.athrow, 1) := by decide +kernel
theorem dX5_requireIndex_19 : decode cX5_requireIndex 19 = .ok (.return_, 1) := by decide +kernel
theorem dX5_requireParcel_0 : decode cX5_requireParcel 0 = .ok (.iload_n 1, 1) := by decide +kernel
theorem dX5_requireParcel_1 : decode cX5_requireParcel 1 = .ok (.aload_n 0, 1) := by decide +kernel
theorem dX5_requireParcel_2 : decode cX5_requireParcel 2 = .ok (.getfield 10, 3) := by decide +kernel
theorem dX5_requireParcel_5 : decode cX5_requireParcel 5 = .ok (.getfield 88, 3) := by decide +kernel
theorem dX5_requireParcel_8 : decode cX5_requireParcel 8 = .ok (.invokestatic 92, 3) := by decide +kernel
theorem dX5_requireParcel_11 : decode cX5_requireParcel 11 = .ok (.return_, 1) := by decide +kernel
theorem dX5_admitAllOfText_0 : decode cX5_admitAllOfText 0 = .ok (.iconst 0, 1) := by decide +kernel
theorem dX5_admitAllOfText_1 : decode cX5_admitAllOfText 1 = .ok (.istore_n 1, 1) := by decide +kernel
theorem dX5_admitAllOfText_2 : decode cX5_admitAllOfText 2 = .ok (.aload_n 0, 1) := by decide +kernel
theorem dX5_admitAllOfText_3 : decode cX5_admitAllOfText 3 = .ok (.getfield 34, 3) := by decide +kernel
theorem dX5_admitAllOfText_6 : decode cX5_admitAllOfText 6 = .ok (.invokevirtual 239, 3) := by decide +kernel
theorem dX5_admitAllOfText_9 : decode cX5_admitAllOfText 9 = .ok (.iconst 0, 1) := by decide +kernel
theorem dX5_admitAllOfText_10 : decode cX5_admitAllOfText 10 = .ok (.istore_n 2, 1) := by decide +kernel
theorem dX5_admitAllOfText_11 : decode cX5_admitAllOfText 11 = .ok (.iload_n 2, 1) := by decide +kernel
theorem dX5_admitAllOfText_12 : decode cX5_admitAllOfText 12 = .ok (.aload_n 0, 1) := by decide +kernel
theorem dX5_admitAllOfText_13 : decode cX5_admitAllOfText 13 = .ok (.getfield 34, 3) := by decide +kernel
theorem dX5_admitAllOfText_16 : decode cX5_admitAllOfText 16 = .ok (.getfield 126, 3) := by decide +kernel
theorem dX5_admitAllOfText_19 : decode cX5_admitAllOfText 19 = .ok (.if_icmp .ge 56, 3) := by decide +kernel
theorem dX5_admitAllOfText_22 : decode cX5_admitAllOfText 22 = .ok (.aload_n 0, 1) := by decide +kernel
theorem dX5_admitAllOfText_23 : decode cX5_admitAllOfText 23 = .ok (.getfield 34, 3) := by decide +kernel
theorem dX5_admitAllOfText_26 : decode cX5_admitAllOfText 26 = .ok (.aload_n 0, 1) := by decide +kernel
theorem dX5_admitAllOfText_27 : decode cX5_admitAllOfText 27 = .ok (.getfield 34, 3) := by decide +kernel
theorem dX5_admitAllOfText_30 : decode cX5_admitAllOfText 30 = .ok (.getfield 226, 3) := by decide +kernel
theorem dX5_admitAllOfText_33 : decode cX5_admitAllOfText 33 = .ok (.iload_n 2, 1) := by decide +kernel
end
section
theorem dX5_admitAllOfText_34 : decode cX5_admitAllOfText 34 = .ok (.iaload, 1) := by decide +kernel
theorem dX5_admitAllOfText_35 : decode cX5_admitAllOfText 35 = .ok (.invokevirtual 242, 3) := by decide +kernel
theorem dX5_admitAllOfText_38 : decode cX5_admitAllOfText 38 = .ok (.pop, 1) := by decide +kernel
theorem dX5_admitAllOfText_39 : decode cX5_admitAllOfText 39 = .ok (.aload_n 0, 1) := by decide +kernel
theorem dX5_admitAllOfText_40 : decode cX5_admitAllOfText 40 = .ok (.getfield 34, 3) := by decide +kernel
theorem dX5_admitAllOfText_43 : decode cX5_admitAllOfText 43 = .ok (.invokevirtual 246, 3) := by decide +kernel
theorem dX5_admitAllOfText_46 : decode cX5_admitAllOfText 46 = .ok (.ifCond .eq 23, 3) := by decide +kernel
theorem dX5_admitAllOfText_49 : decode cX5_admitAllOfText 49 = .ok (.aload_n 0, 1) := by decide +kernel
theorem dX5_admitAllOfText_50 : decode cX5_admitAllOfText 50 = .ok (.getfield 34, 3) := by decide +kernel
theorem dX5_admitAllOfText_53 : decode cX5_admitAllOfText 53 = .ok (.aload_n 0, 1) := by decide +kernel
theorem dX5_admitAllOfText_54 : decode cX5_admitAllOfText 54 = .ok (.getfield 10, 3) := by decide +kernel
theorem dX5_admitAllOfText_57 : decode cX5_admitAllOfText 57 = .ok (.invokevirtual 249, 3) := by decide +kernel
theorem dX5_admitAllOfText_60 : decode cX5_admitAllOfText 60 = .ok (.iconst (-1), 1) := by decide +kernel
theorem dX5_admitAllOfText_61 : decode cX5_admitAllOfText 61 = .ok (.if_icmp .ne 5, 3) := by decide +kernel
theorem dX5_admitAllOfText_64 : decode cX5_admitAllOfText 64 = .ok (.iload_n 1, 1) := by decide +kernel
theorem dX5_admitAllOfText_65 : decode cX5_admitAllOfText 65 = .ok (.ireturn, 1) := by decide +kernel
theorem dX5_admitAllOfText_66 : decode cX5_admitAllOfText 66 = .ok (.iinc 1 1, 3) := by decide +kernel
theorem dX5_admitAllOfText_69 : decode cX5_admitAllOfText 69 = .ok (.iinc 2 1, 3) := by decide +kernel
theorem dX5_admitAllOfText_72 : decode cX5_admitAllOfText 72 = .ok (.goto (-61), 3) := by decide +kernel
theorem dX5_admitAllOfText_75 : decode cX5_admitAllOfText 75 = .ok (.iload_n 1, 1) := by decide +kernel
theorem dX5_admitAllOfText_76 : decode cX5_admitAllOfText 76 = .ok (.ireturn, 1) := by decide +kernel
theorem dX5_fold_0 : decode cX5_fold 0 = .ok (.ldc2_w 253, 3) := by decide +kernel
theorem dX5_fold_3 : decode cX5_fold 3 = .ok (.lload_n 0, 1) := by decide +kernel
theorem dX5_fold_4 : decode cX5_fold 4 = .ok (.lmul, 1) := by decide +kernel
theorem dX5_fold_5 : decode cX5_fold 5 = .ok (.lload_n 2, 1) := by decide +kernel
theorem dX5_fold_6 : decode cX5_fold 6 = .ok (.ladd, 1) := by decide +kernel
theorem dX5_fold_7 : decode cX5_fold 7 = .ok (.lreturn, 1) := by decide +kernel
theorem dX5_foldRow_0 : decode cX5_foldRow 0 = .ok (.lload_n 0, 1) := by decide +kernel
theorem dX5_foldRow_1 : decode cX5_foldRow 1 = .ok (.lstore 4, 2) := by decide +kernel
theorem dX5_foldRow_3 : decode cX5_foldRow 3 = .ok (.iconst 0, 1) := by decide +kernel
theorem dX5_foldRow_4 : decode cX5_foldRow 4 = .ok (.istore 6, 2) := by decide +kernel
theorem dX5_foldRow_6 : decode cX5_foldRow 6 = .ok (.iload 6, 2) := by decide +kernel
theorem dX5_foldRow_8 : decode cX5_foldRow 8 = .ok (.iload_n 3, 1) := by decide +kernel
theorem dX5_foldRow_9 : decode cX5_foldRow 9 = .ok (.if_icmp .ge 28, 3) := by decide +kernel
theorem dX5_foldRow_12 : decode cX5_foldRow 12 = .ok (.iload 6, 2) := by decide +kernel
theorem dX5_foldRow_14 : decode cX5_foldRow 14 = .ok (.aload_n 2, 1) := by decide +kernel
theorem dX5_foldRow_15 : decode cX5_foldRow 15 = .ok (.arraylength, 1) := by decide +kernel
theorem dX5_foldRow_16 : decode cX5_foldRow 16 = .ok (.if_icmp .ge 21, 3) := by decide +kernel
theorem dX5_foldRow_19 : decode cX5_foldRow 19 = .ok (.lload 4, 2) := by decide +kernel
theorem dX5_foldRow_21 : decode cX5_foldRow 21 = .ok (.aload_n 2, 1) := by decide +kernel
theorem dX5_foldRow_22 : decode cX5_foldRow 22 = .ok (.iload 6, 2) := by decide +kernel
theorem dX5_foldRow_24 : decode cX5_foldRow 24 = .ok (.iaload, 1) := by decide +kernel
theorem dX5_foldRow_25 : decode cX5_foldRow 25 = .ok (.i2l, 1) := by decide +kernel
theorem dX5_foldRow_26 : decode cX5_foldRow 26 = .ok (.invokestatic 197, 3) := by decide +kernel
theorem dX5_foldRow_29 : decode cX5_foldRow 29 = .ok (.lstore 4, 2) := by decide +kernel
theorem dX5_foldRow_31 : decode cX5_foldRow 31 = .ok (.iinc 6 1, 3) := by decide +kernel
theorem dX5_foldRow_34 : decode cX5_foldRow 34 = .ok (.goto (-28), 3) := by decide +kernel
theorem dX5_foldRow_37 : decode cX5_foldRow 37 = .ok (.lload 4, 2) := by decide +kernel
theorem dX5_foldRow_39 : decode cX5_foldRow 39 = .ok (.lreturn, 1) := by decide +kernel
theorem dX5_foldParcel_0 : decode cX5_foldParcel 0 = .ok (.lload_n 1, 1) := by decide +kernel
theorem dX5_foldParcel_1 : decode cX5_foldParcel 1 = .ok (.lstore 4, 2) := by decide +kernel
theorem dX5_foldParcel_3 : decode cX5_foldParcel 3 = .ok (.iconst 0, 1) := by decide +kernel
theorem dX5_foldParcel_4 : decode cX5_foldParcel 4 = .ok (.istore 6, 2) := by decide +kernel
theorem dX5_foldParcel_6 : decode cX5_foldParcel 6 = .ok (.iload 6, 2) := by decide +kernel
theorem dX5_foldParcel_8 : decode cX5_foldParcel 8 = .ok (.bipush 10, 2) := by decide +kernel
theorem dX5_foldParcel_10 : decode cX5_foldParcel 10 = .ok (.if_icmp .gt 24, 3) := by decide +kernel
theorem dX5_foldParcel_13 : decode cX5_foldParcel 13 = .ok (.lload 4, 2) := by decide +kernel
theorem dX5_foldParcel_15 : decode cX5_foldParcel 15 = .ok (.aload_n 0, 1) := by decide +kernel
theorem dX5_foldParcel_16 : decode cX5_foldParcel 16 = .ok (.iload_n 3, 1) := by decide +kernel
theorem dX5_foldParcel_17 : decode cX5_foldParcel 17 = .ok (.iload 6, 2) := by decide +kernel
theorem dX5_foldParcel_19 : decode cX5_foldParcel 19 = .ok (.invokevirtual 255, 3) := by decide +kernel
theorem dX5_foldParcel_22 : decode cX5_foldParcel 22 = .ok (.i2l, 1) := by decide +kernel
theorem dX5_foldParcel_23 : decode cX5_foldParcel 23 = .ok (.invokestatic 197, 3) := by decide +kernel
theorem dX5_foldParcel_26 : decode cX5_foldParcel 26 = .ok (.lstore 4, 2) := by decide +kernel
theorem dX5_foldParcel_28 : decode cX5_foldParcel 28 = .ok (.iinc 6 1, 3) := by decide +kernel
theorem dX5_foldParcel_31 : decode cX5_foldParcel 31 = .ok (.goto (-25), 3) := by decide +kernel
theorem dX5_foldParcel_34 : decode cX5_foldParcel 34 = .ok (.lload 4, 2) := by decide +kernel
theorem dX5_foldParcel_36 : decode cX5_foldParcel 36 = .ok (.aload_n 0, 1) := by decide +kernel
theorem dX5_foldParcel_37 : decode cX5_foldParcel 37 = .ok (.iload_n 3, 1) := by decide +kernel
theorem dX5_foldParcel_38 : decode cX5_foldParcel 38 = .ok (.invokevirtual 258, 3) := by decide +kernel
theorem dX5_foldParcel_41 : decode cX5_foldParcel 41 = .ok (.i2l, 1) := by decide +kernel
theorem dX5_foldParcel_42 : decode cX5_foldParcel 42 = .ok (.invokestatic 197, 3) := by decide +kernel
theorem dX5_foldParcel_45 : decode cX5_foldParcel 45 = .ok (.lstore 4, 2) := by decide +kernel
theorem dX5_foldParcel_47 : decode cX5_foldParcel 47 = .ok (.iconst 0, 1) := by decide +kernel
theorem dX5_foldParcel_48 : decode cX5_foldParcel 48 = .ok (.istore 6, 2) := by decide +kernel
theorem dX5_foldParcel_50 : decode cX5_foldParcel 50 = .ok (.iload 6, 2) := by decide +kernel
theorem dX5_foldParcel_52 : decode cX5_foldParcel 52 = .ok (.aload_n 0, 1) := by decide +kernel
theorem dX5_foldParcel_53 : decode cX5_foldParcel 53 = .ok (.getfield 10, 3) := by decide +kernel
theorem dX5_foldParcel_56 : decode cX5_foldParcel 56 = .ok (.getfield 88, 3) := by decide +kernel
theorem dX5_foldParcel_59 : decode cX5_foldParcel 59 = .ok (.if_icmp .ge 30, 3) := by decide +kernel
theorem dX5_foldParcel_62 : decode cX5_foldParcel 62 = .ok (.iload 6, 2) := by decide +kernel
theorem dX5_foldParcel_64 : decode cX5_foldParcel 64 = .ok (.iload_n 3, 1) := by decide +kernel
theorem dX5_foldParcel_65 : decode cX5_foldParcel 65 = .ok (.if_icmp .eq 18, 3) := by decide +kernel
theorem dX5_foldParcel_68 : decode cX5_foldParcel 68 = .ok (.lload 4, 2) := by decide +kernel
theorem dX5_foldParcel_70 : decode cX5_foldParcel 70 = .ok (.aload_n 0, 1) := by decide +kernel
theorem dX5_foldParcel_71 : decode cX5_foldParcel 71 = .ok (.iload_n 3, 1) := by decide +kernel
theorem dX5_foldParcel_72 : decode cX5_foldParcel 72 = .ok (.iload 6, 2) := by decide +kernel
theorem dX5_foldParcel_74 : decode cX5_foldParcel 74 = .ok (.invokevirtual 261, 3) := by decide +kernel
theorem dX5_foldParcel_77 : decode cX5_foldParcel 77 = .ok (.i2l, 1) := by decide +kernel
theorem dX5_foldParcel_78 : decode cX5_foldParcel 78 = .ok (.invokestatic 197, 3) := by decide +kernel
theorem dX5_foldParcel_81 : decode cX5_foldParcel 81 = .ok (.lstore 4, 2) := by decide +kernel
theorem dX5_foldParcel_83 : decode cX5_foldParcel 83 = .ok (.iinc 6 1, 3) := by decide +kernel
theorem dX5_foldParcel_86 : decode cX5_foldParcel 86 = .ok (.goto (-36), 3) := by decide +kernel
theorem dX5_foldParcel_89 : decode cX5_foldParcel 89 = .ok (.lload 4, 2) := by decide +kernel
theorem dX5_foldParcel_91 : decode cX5_foldParcel 91 = .ok (.lreturn, 1) := by decide +kernel
theorem dX5_bitsOfShare_0 : decode cX5_bitsOfShare 0 = .ok (.dload_n 0, 1) := by decide +kernel
theorem dX5_bitsOfShare_1 : decode cX5_bitsOfShare 1 = .ok (.dconst 0, 1) := by decide +kernel
theorem dX5_bitsOfShare_2 : decode cX5_bitsOfShare 2 = .ok (.dcmp .g, 1) := by decide +kernel
theorem dX5_bitsOfShare_3 : decode cX5_bitsOfShare 3 = .ok (.ifCond .gt 5, 3) := by decide +kernel
theorem dX5_bitsOfShare_6 : decode cX5_bitsOfShare 6 = .ok (.lconst 0, 1) := by decide +kernel
theorem dX5_bitsOfShare_7 : decode cX5_bitsOfShare 7 = .ok (.lreturn, 1) := by decide +kernel
theorem dX5_bitsOfShare_8 : decode cX5_bitsOfShare 8 = .ok (.dload_n 0, 1) := by decide +kernel
theorem dX5_bitsOfShare_9 : decode cX5_bitsOfShare 9 = .ok (.dstore_n 2, 1) := by decide +kernel
theorem dX5_bitsOfShare_10 : decode cX5_bitsOfShare 10 = .ok (.ldc2_w 264, 3) := by decide +kernel
theorem dX5_bitsOfShare_13 : decode cX5_bitsOfShare 13 = .ok (.lstore 4, 2) := by decide +kernel
theorem dX5_bitsOfShare_15 : decode cX5_bitsOfShare 15 = .ok (.iconst 0, 1) := by decide +kernel
theorem dX5_bitsOfShare_16 : decode cX5_bitsOfShare 16 = .ok (.istore 6, 2) := by decide +kernel
theorem dX5_bitsOfShare_18 : decode cX5_bitsOfShare 18 = .ok (.iload 6, 2) := by decide +kernel
theorem dX5_bitsOfShare_20 : decode cX5_bitsOfShare 20 = .ok (.bipush 64, 2) := by decide +kernel
theorem dX5_bitsOfShare_22 : decode cX5_bitsOfShare 22 = .ok (.if_icmp .ge 27, 3) := by decide +kernel
theorem dX5_bitsOfShare_25 : decode cX5_bitsOfShare 25 = .ok (.dload_n 2, 1) := by decide +kernel
theorem dX5_bitsOfShare_26 : decode cX5_bitsOfShare 26 = .ok (.dconst 1, 1) := by decide +kernel
theorem dX5_bitsOfShare_27 : decode cX5_bitsOfShare 27 = .ok (.dcmp .g, 1) := by decide +kernel
theorem dX5_bitsOfShare_28 : decode cX5_bitsOfShare 28 = .ok (.ifCond .ge 21, 3) := by decide +kernel
theorem dX5_bitsOfShare_31 : decode cX5_bitsOfShare 31 = .ok (.dload_n 2, 1) := by decide +kernel
theorem dX5_bitsOfShare_32 : decode cX5_bitsOfShare 32 = .ok (.ldc2_w 266, 3) := by decide +kernel
theorem dX5_bitsOfShare_35 : decode cX5_bitsOfShare 35 = .ok (.dmul, 1) := by decide +kernel
theorem dX5_bitsOfShare_36 : decode cX5_bitsOfShare 36 = .ok (.dstore_n 2, 1) := by decide +kernel
theorem dX5_bitsOfShare_37 : decode cX5_bitsOfShare 37 = .ok (.lload 4, 2) := by decide +kernel
theorem dX5_bitsOfShare_39 : decode cX5_bitsOfShare 39 = .ok (.lconst 1, 1) := by decide +kernel
theorem dX5_bitsOfShare_40 : decode cX5_bitsOfShare 40 = .ok (.lsub, 1) := by decide +kernel
theorem dX5_bitsOfShare_41 : decode cX5_bitsOfShare 41 = .ok (.lstore 4, 2) := by decide +kernel
theorem dX5_bitsOfShare_43 : decode cX5_bitsOfShare 43 = .ok (.iinc 6 1, 3) := by decide +kernel
theorem dX5_bitsOfShare_46 : decode cX5_bitsOfShare 46 = .ok (.goto (-28), 3) := by decide +kernel
theorem dX5_bitsOfShare_49 : decode cX5_bitsOfShare 49 = .ok (.lload 4, 2) := by decide +kernel
theorem dX5_bitsOfShare_51 : decode cX5_bitsOfShare 51 = .ok (.bipush 52, 2) := by decide +kernel
theorem dX5_bitsOfShare_53 : decode cX5_bitsOfShare 53 = .ok (.lshl, 1) := by decide +kernel
theorem dX5_bitsOfShare_54 : decode cX5_bitsOfShare 54 = .ok (.dload_n 2, 1) := by decide +kernel
theorem dX5_bitsOfShare_55 : decode cX5_bitsOfShare 55 = .ok (.dconst 1, 1) := by decide +kernel
theorem dX5_bitsOfShare_56 : decode cX5_bitsOfShare 56 = .ok (.dsub, 1) := by decide +kernel
theorem dX5_bitsOfShare_57 : decode cX5_bitsOfShare 57 = .ok (.ldc2_w 268, 3) := by decide +kernel
theorem dX5_bitsOfShare_60 : decode cX5_bitsOfShare 60 = .ok (.dmul, 1) := by decide +kernel
theorem dX5_bitsOfShare_61 : decode cX5_bitsOfShare 61 = .ok (.d2l, 1) := by decide +kernel
theorem dX5_bitsOfShare_62 : decode cX5_bitsOfShare 62 = .ok (.ladd, 1) := by decide +kernel
theorem dX5_bitsOfShare_63 : decode cX5_bitsOfShare 63 = .ok (.lreturn, 1) := by decide +kernel
theorem dX6_init_0 : decode cX6_init 0 = .ok (.aload_n 0, 1) := by decide +kernel
theorem dX6_init_1 : decode cX6_init 1 = .ok (.invokespecial 1, 3) := by decide +kernel
theorem dX6_init_4 : decode cX6_init 4 = .ok (.aload_n 0, 1) := by decide +kernel
theorem dX6_init_5 : decode cX6_init 5 = .ok (.sipush 682, 3) := by decide +kernel
theorem dX6_init_8 : decode cX6_init 8 = .ok (.newarray .int, 2) := by decide +kernel
theorem dX6_init_10 : decode cX6_init 10 = .ok (.putfield 7, 3) := by decide +kernel
theorem dX6_init_13 : decode cX6_init 13 = .ok (.aload_n 0, 1) := by decide +kernel
theorem dX6_init_14 : decode cX6_init 14 = .ok (.iconst 2, 1) := by decide +kernel
theorem dX6_init_15 : decode cX6_init 15 = .ok (.newarray .boolean, 2) := by decide +kernel
theorem dX6_init_17 : decode cX6_init 17 = .ok (.putfield 13, 3) := by decide +kernel
theorem dX6_init_20 : decode cX6_init 20 = .ok (.aload_n 0, 1) := by decide +kernel
theorem dX6_init_21 : decode cX6_init 21 = .ok (.bipush 60, 2) := by decide +kernel
theorem dX6_init_23 : decode cX6_init 23 = .ok (.newarray .char, 2) := by decide +kernel
theorem dX6_init_25 : decode cX6_init 25 = .ok (.putfield 17, 3) := by decide +kernel
theorem dX6_init_28 : decode cX6_init 28 = .ok (.aload_n 0, 1) := by decide +kernel
theorem dX6_init_29 : decode cX6_init 29 = .ok (.sipush 128, 3) := by decide +kernel
theorem dX6_init_32 : decode cX6_init 32 = .ok (.newarray .int, 2) := by decide +kernel
theorem dX6_init_34 : decode cX6_init 34 = .ok (.putfield 21, 3) := by decide +kernel
theorem dX6_init_37 : decode cX6_init 37 = .ok (.aload_n 0, 1) := by decide +kernel
theorem dX6_init_38 : decode cX6_init 38 = .ok (.bipush 7, 2) := by decide +kernel
theorem dX6_init_40 : decode cX6_init 40 = .ok (.newarray .int, 2) := by decide +kernel
theorem dX6_init_42 : decode cX6_init 42 = .ok (.putfield 24, 3) := by decide +kernel
theorem dX6_init_45 : decode cX6_init 45 = .ok (.aload_n 0, 1) := by decide +kernel
theorem dX6_init_46 : decode cX6_init 46 = .ok (.getfield 7, 3) := by decide +kernel
theorem dX6_init_49 : decode cX6_init 49 = .ok (.iconst 0, 1) := by decide +kernel
theorem dX6_init_50 : decode cX6_init 50 = .ok (.iconst 5, 1) := by decide +kernel
theorem dX6_init_51 : decode cX6_init 51 = .ok (.iastore, 1) := by decide +kernel
theorem dX6_init_52 : decode cX6_init 52 = .ok (.aload_n 0, 1) := by decide +kernel
theorem dX6_init_53 : decode cX6_init 53 = .ok (.getfield 7, 3) := by decide +kernel
theorem dX6_init_56 : decode cX6_init 56 = .ok (.iconst 1, 1) := by decide +kernel
theorem dX6_init_57 : decode cX6_init 57 = .ok (.sipush 150, 3) := by decide +kernel
theorem dX6_init_60 : decode cX6_init 60 = .ok (.iastore, 1) := by decide +kernel
theorem dX6_init_61 : decode cX6_init 61 = .ok (.aload_n 0, 1) := by decide +kernel
theorem dX6_init_62 : decode cX6_init 62 = .ok (.getfield 7, 3) := by decide +kernel
theorem dX6_init_65 : decode cX6_init 65 = .ok (.iconst 2, 1) := by decide +kernel
theorem dX6_init_66 : decode cX6_init 66 = .ok (.iconst 2, 1) := by decide +kernel
theorem dX6_init_67 : decode cX6_init 67 = .ok (.iastore, 1) := by decide +kernel
theorem dX6_init_68 : decode cX6_init 68 = .ok (.aload_n 0, 1) := by decide +kernel
theorem dX6_init_69 : decode cX6_init 69 = .ok (.getfield 7, 3) := by decide +kernel
theorem dX6_init_72 : decode cX6_init 72 = .ok (.iconst 3, 1) := by decide +kernel
theorem dX6_init_73 : decode cX6_init 73 = .ok (.bipush 10, 2) := by decide +kernel
theorem dX6_init_75 : decode cX6_init 75 = .ok (.iastore, 1) := by decide +kernel
theorem dX6_init_76 : decode cX6_init 76 = .ok (.iconst 0, 1) := by decide +kernel
theorem dX6_init_77 : decode cX6_init 77 = .ok (.istore_n 1, 1) := by decide +kernel
theorem dX6_init_78 : decode cX6_init 78 = .ok (.iload_n 1, 1) := by decide +kernel
theorem dX6_init_79 : decode cX6_init 79 = .ok (.bipush 12, 2) := by decide +kernel
theorem dX6_init_81 : decode cX6_init 81 = .ok (.if_icmp .ge 22, 3) := by decide +kernel
theorem dX6_init_84 : decode cX6_init 84 = .ok (.aload_n 0, 1) := by decide +kernel
theorem dX6_init_85 : decode cX6_init 85 = .ok (.getfield 7, 3) := by decide +kernel
theorem dX6_init_88 : decode cX6_init 88 = .ok (.iconst 4, 1) := by decide +kernel
theorem dX6_init_89 : decode cX6_init 89 = .ok (.iload_n 1, 1) := by decide +kernel
theorem dX6_init_90 : decode cX6_init 90 = .ok (.iadd, 1) := by decide +kernel
theorem dX6_init_91 : decode cX6_init 91 = .ok (.iconst 5, 1) := by decide +kernel
theorem dX6_init_92 : decode cX6_init 92 = .ok (.iload_n 1, 1) := by decide +kernel
theorem dX6_init_93 : decode cX6_init 93 = .ok (.imul, 1) := by decide +kernel
theorem dX6_init_94 : decode cX6_init 94 = .ok (.iconst 5, 1) := by decide +kernel
theorem dX6_init_95 : decode cX6_init 95 = .ok (.iadd, 1) := by decide +kernel
theorem dX6_init_96 : decode cX6_init 96 = .ok (.iastore, 1) := by decide +kernel
theorem dX6_init_97 : decode cX6_init 97 = .ok (.iinc 1 1, 3) := by decide +kernel
theorem dX6_init_100 : decode cX6_init 100 = .ok (.goto (-22), 3) := by decide +kernel
theorem dX6_init_103 : decode cX6_init 103 = .ok (.iconst 0, 1) := by decide +kernel
theorem dX6_init_104 : decode cX6_init 104 = .ok (.istore_n 1, 1) := by decide +kernel
theorem dX6_init_105 : decode cX6_init 105 = .ok (.iload_n 1, 1) := by decide +kernel
theorem dX6_init_106 : decode cX6_init 106 = .ok (.iconst 4, 1) := by decide +kernel
theorem dX6_init_107 : decode cX6_init 107 = .ok (.if_icmp .ge 21, 3) := by decide +kernel
theorem dX6_init_110 : decode cX6_init 110 = .ok (.aload_n 0, 1) := by decide +kernel
theorem dX6_init_111 : decode cX6_init 111 = .ok (.getfield 7, 3) := by decide +kernel
theorem dX6_init_114 : decode cX6_init 114 = .ok (.bipush 16, 2) := by decide +kernel
theorem dX6_init_116 : decode cX6_init 116 = .ok (.iload_n 1, 1) := by decide +kernel
theorem dX6_init_117 : decode cX6_init 117 = .ok (.iadd, 1) := by decide +kernel
theorem dX6_init_118 : decode cX6_init 118 = .ok (.iload_n 1, 1) := by decide +kernel
theorem dX6_init_119 : decode cX6_init 119 = .ok (.iconst 1, 1) := by decide +kernel
theorem dX6_init_120 : decode cX6_init 120 = .ok (.iadd, 1) := by decide +kernel
theorem dX6_init_121 : decode cX6_init 121 = .ok (.iastore, 1) := by decide +kernel
theorem dX6_init_122 : decode cX6_init 122 = .ok (.iinc 1 1, 3) := by decide +kernel
theorem dX6_init_125 : decode cX6_init 125 = .ok (.goto (-20), 3) := by decide +kernel
theorem dX6_init_128 : decode cX6_init 128 = .ok (.return_, 1) := by decide +kernel
theorem dX6_thrown_0 : decode cX6_thrown 0 = .ok (.aload_n 0, 1) := by decide +kernel
theorem dX6_thrown_1 : decode cX6_thrown 1 = .ok (.getfield 27, 3) := by decide +kernel
theorem dX6_thrown_4 : decode cX6_thrown 4 = .ok (.ireturn, 1) := by decide +kernel
theorem dX6_in_0 : decode cX6_in 0 = .ok (.iload_n 0, 1) := by decide +kernel
theorem dX6_in_1 : decode cX6_in 1 = .ok (.iload_n 1, 1) := by decide +kernel
theorem dX6_in_2 : decode cX6_in 2 = .ok (.if_icmp .lt 12, 3) := by decide +kernel
theorem dX6_in_5 : decode cX6_in 5 = .ok (.iload_n 0, 1) := by decide +kernel
theorem dX6_in_6 : decode cX6_in 6 = .ok (.iload_n 2, 1) := by decide +kernel
theorem dX6_in_7 : decode cX6_in 7 = .ok (.if_icmp .gt 7, 3) := by decide +kernel
theorem dX6_in_10 : decode cX6_in 10 = .ok (.iconst 1, 1) := by decide +kernel
theorem dX6_in_11 : decode cX6_in 11 = .ok (.goto 4, 3) := by decide +kernel
theorem dX6_in_14 : decode cX6_in 14 = .ok (.iconst 0, 1) := by decide +kernel
theorem dX6_in_15 : decode cX6_in 15 = .ok (.ireturn, 1) := by decide +kernel
theorem dX6_goes_0 : decode cX6_goes 0 = .ok (.aload_n 0, 1) := by decide +kernel
theorem dX6_goes_1 : decode cX6_goes 1 = .ok (.iload_n 1, 1) := by decide +kernel
theorem dX6_goes_2 : decode cX6_goes 2 = .ok (.ifCond .ne 7, 3) := by decide +kernel
theorem dX6_goes_5 : decode cX6_goes 5 = .ok (.iconst 1, 1) := by decide +kernel
theorem dX6_goes_6 : decode cX6_goes 6 = .ok (.goto 12, 3) := by decide +kernel
theorem dX6_goes_9 : decode cX6_goes 9 = .ok (.iload_n 2, 1) := by decide +kernel
theorem dX6_goes_10 : decode cX6_goes 10 = .ok (.ifCond .ne 7, 3) := by decide +kernel
theorem dX6_goes_13 : decode cX6_goes 13 = .ok (.iconst 2, 1) := by decide +kernel
theorem dX6_goes_14 : decode cX6_goes 14 = .ok (.goto 4, 3) := by decide +kernel
theorem dX6_goes_17 : decode cX6_goes 17 = .ok (.iconst 0, 1) := by decide +kernel
theorem dX6_goes_18 : decode cX6_goes 18 = .ok (.putfield 27, 3) := by decide +kernel
theorem dX6_goes_21 : decode cX6_goes 21 = .ok (.aload_n 0, 1) := by decide +kernel
theorem dX6_goes_22 : decode cX6_goes 22 = .ok (.getfield 27, 3) := by decide +kernel
theorem dX6_goes_25 : decode cX6_goes 25 = .ok (.ifCond .ne 7, 3) := by decide +kernel
theorem dX6_goes_28 : decode cX6_goes 28 = .ok (.iconst 1, 1) := by decide +kernel
theorem dX6_goes_29 : decode cX6_goes 29 = .ok (.goto 4, 3) := by decide +kernel
theorem dX6_goes_32 : decode cX6_goes 32 = .ok (.iconst 0, 1) := by decide +kernel
theorem dX6_goes_33 : decode cX6_goes 33 = .ok (.ireturn, 1) := by decide +kernel
theorem dX6_greater_0 : decode cX6_greater 0 = .ok (.iload_n 0, 1) := by decide +kernel
theorem dX6_greater_1 : decode cX6_greater 1 = .ok (.iload_n 1, 1) := by decide +kernel
theorem dX6_greater_2 : decode cX6_greater 2 = .ok (.if_icmp .le 7, 3) := by decide +kernel
theorem dX6_greater_5 : decode cX6_greater 5 = .ok (.iload_n 0, 1) := by decide +kernel
theorem dX6_greater_6 : decode cX6_greater 6 = .ok (.goto 4, 3) := by decide +kernel
theorem dX6_greater_9 : decode cX6_greater 9 = .ok (.iload_n 1, 1) := by decide +kernel
theorem dX6_greater_10 : decode cX6_greater 10 = .ok (.ireturn, 1) := by decide +kernel
theorem dX6_copies_0 : decode cX6_copies 0 = .ok (.iconst 0, 1) := by decide +kernel
theorem dX6_copies_1 : decode cX6_copies 1 = .ok (.istore_n 3, 1) := by decide +kernel
theorem dX6_copies_2 : decode cX6_copies 2 = .ok (.iload_n 3, 1) := by decide +kernel
theorem dX6_copies_3 : decode cX6_copies 3 = .ok (.bipush 75, 2) := by decide +kernel
theorem dX6_copies_5 : decode cX6_copies 5 = .ok (.if_icmp .ge 31, 3) := by decide +kernel
theorem dX6_copies_8 : decode cX6_copies 8 = .ok (.aload_n 0, 1) := by decide +kernel
theorem dX6_copies_9 : decode cX6_copies 9 = .ok (.getfield 7, 3) := by decide +kernel
theorem dX6_copies_12 : decode cX6_copies 12 = .ok (.bipush 75, 2) := by decide +kernel
theorem dX6_copies_14 : decode cX6_copies 14 = .ok (.iload_n 2, 1) := by decide +kernel
theorem dX6_copies_15 : decode cX6_copies 15 = .ok (.imul, 1) := by decide +kernel
theorem dX6_copies_16 : decode cX6_copies 16 = .ok (.iload_n 3, 1) := by decide +kernel
theorem dX6_copies_17 : decode cX6_copies 17 = .ok (.iadd, 1) := by decide +kernel
theorem dX6_copies_18 : decode cX6_copies 18 = .ok (.aload_n 0, 1) := by decide +kernel
theorem dX6_copies_19 : decode cX6_copies 19 = .ok (.getfield 7, 3) := by decide +kernel
theorem dX6_copies_22 : decode cX6_copies 22 = .ok (.bipush 75, 2) := by decide +kernel
theorem dX6_copies_24 : decode cX6_copies 24 = .ok (.iload_n 1, 1) := by decide +kernel
theorem dX6_copies_25 : decode cX6_copies 25 = .ok (.imul, 1) := by decide +kernel
theorem dX6_copies_26 : decode cX6_copies 26 = .ok (.iload_n 3, 1) := by decide +kernel
theorem dX6_copies_27 : decode cX6_copies 27 = .ok (.iadd, 1) := by decide +kernel
theorem dX6_copies_28 : decode cX6_copies 28 = .ok (.iaload, 1) := by decide +kernel
theorem dX6_copies_29 : decode cX6_copies 29 = .ok (.iastore, 1) := by decide +kernel
theorem dX6_copies_30 : decode cX6_copies 30 = .ok (.iinc 3 1, 3) := by decide +kernel
theorem dX6_copies_33 : decode cX6_copies 33 = .ok (.goto (-31), 3) := by decide +kernel
theorem dX6_copies_36 : decode cX6_copies 36 = .ok (.return_, 1) := by decide +kernel
theorem dX6_saves_0 : decode cX6_saves 0 = .ok (.aload_n 0, 1) := by decide +kernel
theorem dX6_saves_1 : decode cX6_saves 1 = .ok (.getfield 31, 3) := by decide +kernel
theorem dX6_saves_4 : decode cX6_saves 4 = .ok (.bipush 6, 2) := by decide +kernel
theorem dX6_saves_6 : decode cX6_saves 6 = .ok (.if_icmp .ne 35, 3) := by decide +kernel
theorem dX6_saves_9 : decode cX6_saves 9 = .ok (.iconst 1, 1) := by decide +kernel
theorem dX6_saves_10 : decode cX6_saves 10 = .ok (.istore_n 1, 1) := by decide +kernel
theorem dX6_saves_11 : decode cX6_saves 11 = .ok (.iload_n 1, 1) := by decide +kernel
theorem dX6_saves_12 : decode cX6_saves 12 = .ok (.bipush 6, 2) := by decide +kernel
theorem dX6_saves_14 : decode cX6_saves 14 = .ok (.if_icmp .ge 17, 3) := by decide +kernel
theorem dX6_saves_17 : decode cX6_saves 17 = .ok (.aload_n 0, 1) := by decide +kernel
theorem dX6_saves_18 : decode cX6_saves 18 = .ok (.iload_n 1, 1) := by decide +kernel
theorem dX6_saves_19 : decode cX6_saves 19 = .ok (.iconst 1, 1) := by decide +kernel
theorem dX6_saves_20 : decode cX6_saves 20 = .ok (.iadd, 1) := by decide +kernel
theorem dX6_saves_21 : decode cX6_saves 21 = .ok (.iload_n 1, 1) := by decide +kernel
theorem dX6_saves_22 : decode cX6_saves 22 = .ok (.invokevirtual 34, 3) := by decide +kernel
theorem dX6_saves_25 : decode cX6_saves 25 = .ok (.iinc 1 1, 3) := by decide +kernel
theorem dX6_saves_28 : decode cX6_saves 28 = .ok (.goto (-17), 3) := by decide +kernel
theorem dX6_saves_31 : decode cX6_saves 31 = .ok (.aload_n 0, 1) := by decide +kernel
theorem dX6_saves_32 : decode cX6_saves 32 = .ok (.dup, 1) := by decide +kernel
theorem dX6_saves_33 : decode cX6_saves 33 = .ok (.getfield 31, 3) := by decide +kernel
theorem dX6_saves_36 : decode cX6_saves 36 = .ok (.iconst 1, 1) := by decide +kernel
theorem dX6_saves_37 : decode cX6_saves 37 = .ok (.isub, 1) := by decide +kernel
theorem dX6_saves_38 : decode cX6_saves 38 = .ok (.putfield 31, 3) := by decide +kernel
theorem dX6_saves_41 : decode cX6_saves 41 = .ok (.aload_n 0, 1) := by decide +kernel
theorem dX6_saves_42 : decode cX6_saves 42 = .ok (.dup, 1) := by decide +kernel
theorem dX6_saves_43 : decode cX6_saves 43 = .ok (.getfield 31, 3) := by decide +kernel
theorem dX6_saves_46 : decode cX6_saves 46 = .ok (.iconst 1, 1) := by decide +kernel
theorem dX6_saves_47 : decode cX6_saves 47 = .ok (.iadd, 1) := by decide +kernel
theorem dX6_saves_48 : decode cX6_saves 48 = .ok (.putfield 31, 3) := by decide +kernel
theorem dX6_saves_51 : decode cX6_saves 51 = .ok (.aload_n 0, 1) := by decide +kernel
theorem dX6_saves_52 : decode cX6_saves 52 = .ok (.iconst 0, 1) := by decide +kernel
theorem dX6_saves_53 : decode cX6_saves 53 = .ok (.aload_n 0, 1) := by decide +kernel
theorem dX6_saves_54 : decode cX6_saves 54 = .ok (.getfield 31, 3) := by decide +kernel
theorem dX6_saves_57 : decode cX6_saves 57 = .ok (.invokevirtual 34, 3) := by decide +kernel
theorem dX6_saves_60 : decode cX6_saves 60 = .ok (.return_, 1) := by decide +kernel
theorem dX6_sets_0 : decode cX6_sets 0 = .ok (.aload_n 0, 1) := by decide +kernel
theorem dX6_sets_1 : decode cX6_sets 1 = .ok (.invokevirtual 38, 3) := by decide +kernel
theorem dX6_sets_4 : decode cX6_sets 4 = .ok (.aload_n 0, 1) := by decide +kernel
theorem dX6_sets_5 : decode cX6_sets 5 = .ok (.getfield 7, 3) := by decide +kernel
theorem dX6_sets_8 : decode cX6_sets 8 = .ok (.iload_n 1, 1) := by decide +kernel
theorem dX6_sets_9 : decode cX6_sets 9 = .ok (.iaload, 1) := by decide +kernel
theorem dX6_sets_10 : decode cX6_sets 10 = .ok (.istore_n 3, 1) := by decide +kernel
theorem dX6_sets_11 : decode cX6_sets 11 = .ok (.aload_n 0, 1) := by decide +kernel
theorem dX6_sets_12 : decode cX6_sets 12 = .ok (.getfield 7, 3) := by decide +kernel
theorem dX6_sets_15 : decode cX6_sets 15 = .ok (.iload_n 1, 1) := by decide +kernel
theorem dX6_sets_16 : decode cX6_sets 16 = .ok (.iload_n 2, 1) := by decide +kernel
theorem dX6_sets_17 : decode cX6_sets 17 = .ok (.iastore, 1) := by decide +kernel
theorem dX6_sets_18 : decode cX6_sets 18 = .ok (.iload_n 3, 1) := by decide +kernel
theorem dX6_sets_19 : decode cX6_sets 19 = .ok (.ireturn, 1) := by decide +kernel
theorem dX6_isParcel_0 : decode cX6_isParcel 0 = .ok (.iload_n 1, 1) := by decide +kernel
theorem dX6_isParcel_1 : decode cX6_isParcel 1 = .ok (.iconst 0, 1) := by decide +kernel
theorem dX6_isParcel_2 : decode cX6_isParcel 2 = .ok (.aload_n 0, 1) := by decide +kernel
theorem dX6_isParcel_3 : decode cX6_isParcel 3 = .ok (.getfield 7, 3) := by decide +kernel
theorem dX6_isParcel_6 : decode cX6_isParcel 6 = .ok (.bipush 20, 2) := by decide +kernel
theorem dX6_isParcel_8 : decode cX6_isParcel 8 = .ok (.iaload, 1) := by decide +kernel
theorem dX6_isParcel_9 : decode cX6_isParcel 9 = .ok (.iconst 1, 1) := by decide +kernel
theorem dX6_isParcel_10 : decode cX6_isParcel 10 = .ok (.isub, 1) := by decide +kernel
theorem dX6_isParcel_11 : decode cX6_isParcel 11 = .ok (.invokestatic 41, 3) := by decide +kernel
theorem dX6_isParcel_14 : decode cX6_isParcel 14 = .ok (.ireturn, 1) := by decide +kernel
theorem dX6_at_0 : decode cX6_at 0 = .ok (.bipush 21, 2) := by decide +kernel
theorem dX6_at_2 : decode cX6_at 2 = .ok (.bipush 7, 2) := by decide +kernel
theorem dX6_at_4 : decode cX6_at 4 = .ok (.iload_n 0, 1) := by decide +kernel
theorem dX6_at_5 : decode cX6_at 5 = .ok (.imul, 1) := by decide +kernel
theorem dX6_at_6 : decode cX6_at 6 = .ok (.iadd, 1) := by decide +kernel
theorem dX6_at_7 : decode cX6_at 7 = .ok (.ireturn, 1) := by decide +kernel
theorem dX6_girth_0 : decode cX6_girth 0 = .ok (.aload_n 0, 1) := by decide +kernel
theorem dX6_girth_1 : decode cX6_girth 1 = .ok (.getfield 7, 3) := by decide +kernel
theorem dX6_girth_4 : decode cX6_girth 4 = .ok (.iload_n 1, 1) := by decide +kernel
theorem dX6_girth_5 : decode cX6_girth 5 = .ok (.iaload, 1) := by decide +kernel
theorem dX6_girth_6 : decode cX6_girth 6 = .ok (.iconst 2, 1) := by decide +kernel
theorem dX6_girth_7 : decode cX6_girth 7 = .ok (.aload_n 0, 1) := by decide +kernel
theorem dX6_girth_8 : decode cX6_girth 8 = .ok (.getfield 7, 3) := by decide +kernel
theorem dX6_girth_11 : decode cX6_girth 11 = .ok (.iload_n 1, 1) := by decide +kernel
theorem dX6_girth_12 : decode cX6_girth 12 = .ok (.iconst 1, 1) := by decide +kernel
theorem dX6_girth_13 : decode cX6_girth 13 = .ok (.iadd, 1) := by decide +kernel
theorem dX6_girth_14 : decode cX6_girth 14 = .ok (.iaload, 1) := by decide +kernel
theorem dX6_girth_15 : decode cX6_girth 15 = .ok (.aload_n 0, 1) := by decide +kernel
theorem dX6_girth_16 : decode cX6_girth 16 = .ok (.getfield 7, 3) := by decide +kernel
theorem dX6_girth_19 : decode cX6_girth 19 = .ok (.iload_n 1, 1) := by decide +kernel
theorem dX6_girth_20 : decode cX6_girth 20 = .ok (.iconst 2, 1) := by decide +kernel
theorem dX6_girth_21 : decode cX6_girth 21 = .ok (.iadd, 1) := by decide +kernel
theorem dX6_girth_22 : decode cX6_girth 22 = .ok (.iaload, 1) := by decide +kernel
theorem dX6_girth_23 : decode cX6_girth 23 = .ok (.iadd, 1) := by decide +kernel
theorem dX6_girth_24 : decode cX6_girth 24 = .ok (.imul, 1) := by decide +kernel
theorem dX6_girth_25 : decode cX6_girth 25 = .ok (.iadd, 1) := by decide +kernel
theorem dX6_girth_26 : decode cX6_girth 26 = .ok (.ireturn, 1) := by decide +kernel
theorem dX6_string_0 : decode cX6_string 0 = .ok (.aload_n 0, 1) := by decide +kernel
theorem dX6_string_1 : decode cX6_string 1 = .ok (.getfield 7, 3) := by decide +kernel
theorem dX6_string_4 : decode cX6_string 4 = .ok (.iload_n 1, 1) := by decide +kernel
theorem dX6_string_5 : decode cX6_string 5 = .ok (.iaload, 1) := by decide +kernel
theorem dX6_string_6 : decode cX6_string 6 = .ok (.istore_n 2, 1) := by decide +kernel
theorem dX6_string_7 : decode cX6_string 7 = .ok (.aload_n 0, 1) := by decide +kernel
theorem dX6_string_8 : decode cX6_string 8 = .ok (.getfield 7, 3) := by decide +kernel
theorem dX6_string_11 : decode cX6_string 11 = .ok (.iload_n 1, 1) := by decide +kernel
theorem dX6_string_12 : decode cX6_string 12 = .ok (.iconst 1, 1) := by decide +kernel
theorem dX6_string_13 : decode cX6_string 13 = .ok (.iadd, 1) := by decide +kernel
theorem dX6_string_14 : decode cX6_string 14 = .ok (.iaload, 1) := by decide +kernel
theorem dX6_string_15 : decode cX6_string 15 = .ok (.istore_n 3, 1) := by decide +kernel
theorem dX6_string_16 : decode cX6_string 16 = .ok (.aload_n 0, 1) := by decide +kernel
theorem dX6_string_17 : decode cX6_string 17 = .ok (.getfield 7, 3) := by decide +kernel
theorem dX6_string_20 : decode cX6_string 20 = .ok (.iload_n 1, 1) := by decide +kernel
theorem dX6_string_21 : decode cX6_string 21 = .ok (.iconst 2, 1) := by decide +kernel
theorem dX6_string_22 : decode cX6_string 22 = .ok (.iadd, 1) := by decide +kernel
theorem dX6_string_23 : decode cX6_string 23 = .ok (.iaload, 1) := by decide +kernel
theorem dX6_string_24 : decode cX6_string 24 = .ok (.istore 4, 2) := by decide +kernel
theorem dX6_string_26 : decode cX6_string 26 = .ok (.aload_n 0, 1) := by decide +kernel
theorem dX6_string_27 : decode cX6_string 27 = .ok (.getfield 7, 3) := by decide +kernel
theorem dX6_string_30 : decode cX6_string 30 = .ok (.iload_n 1, 1) := by decide +kernel
theorem dX6_string_31 : decode cX6_string 31 = .ok (.bipush 6, 2) := by decide +kernel
theorem dX6_string_33 : decode cX6_string 33 = .ok (.iadd, 1) := by decide +kernel
theorem dX6_string_34 : decode cX6_string 34 = .ok (.iaload, 1) := by decide +kernel
theorem dX6_string_35 : decode cX6_string 35 = .ok (.iconst 1, 1) := by decide +kernel
theorem dX6_string_36 : decode cX6_string 36 = .ok (.iadd, 1) := by decide +kernel
theorem dX6_string_37 : decode cX6_string 37 = .ok (.istore 5, 2) := by decide +kernel
theorem dX6_string_39 : decode cX6_string 39 = .ok (.iload 5, 2) := by decide +kernel
theorem dX6_string_41 : decode cX6_string 41 = .ok (.aload_n 0, 1) := by decide +kernel
theorem dX6_string_42 : decode cX6_string 42 = .ok (.getfield 7, 3) := by decide +kernel
theorem dX6_string_45 : decode cX6_string 45 = .ok (.iconst 0, 1) := by decide +kernel
theorem dX6_string_46 : decode cX6_string 46 = .ok (.iaload, 1) := by decide +kernel
theorem dX6_string_47 : decode cX6_string 47 = .ok (.imul, 1) := by decide +kernel
theorem dX6_string_48 : decode cX6_string 48 = .ok (.iload 5, 2) := by decide +kernel
theorem dX6_string_50 : decode cX6_string 50 = .ok (.iconst 1, 1) := by decide +kernel
theorem dX6_string_51 : decode cX6_string 51 = .ok (.if_icmp .ne 12, 3) := by decide +kernel
theorem dX6_string_54 : decode cX6_string 54 = .ok (.iconst 2, 1) := by decide +kernel
theorem dX6_string_55 : decode cX6_string 55 = .ok (.iload_n 3, 1) := by decide +kernel
theorem dX6_string_56 : decode cX6_string 56 = .ok (.iload 4, 2) := by decide +kernel
theorem dX6_string_58 : decode cX6_string 58 = .ok (.iadd, 1) := by decide +kernel
theorem dX6_string_59 : decode cX6_string 59 = .ok (.imul, 1) := by decide +kernel
theorem dX6_string_60 : decode cX6_string 60 = .ok (.goto 37, 3) := by decide +kernel
theorem dX6_string_63 : decode cX6_string 63 = .ok (.iload 5, 2) := by decide +kernel
theorem dX6_string_65 : decode cX6_string 65 = .ok (.iconst 2, 1) := by decide +kernel
theorem dX6_string_66 : decode cX6_string 66 = .ok (.if_icmp .ne 18, 3) := by decide +kernel
theorem dX6_string_69 : decode cX6_string 69 = .ok (.iconst 2, 1) := by decide +kernel
theorem dX6_string_70 : decode cX6_string 70 = .ok (.iload_n 2, 1) := by decide +kernel
theorem dX6_string_71 : decode cX6_string 71 = .ok (.imul, 1) := by decide +kernel
theorem dX6_string_72 : decode cX6_string 72 = .ok (.iconst 2, 1) := by decide +kernel
theorem dX6_string_73 : decode cX6_string 73 = .ok (.iload_n 3, 1) := by decide +kernel
theorem dX6_string_74 : decode cX6_string 74 = .ok (.imul, 1) := by decide +kernel
theorem dX6_string_75 : decode cX6_string 75 = .ok (.iadd, 1) := by decide +kernel
theorem dX6_string_76 : decode cX6_string 76 = .ok (.iconst 4, 1) := by decide +kernel
theorem dX6_string_77 : decode cX6_string 77 = .ok (.iload 4, 2) := by decide +kernel
theorem dX6_string_79 : decode cX6_string 79 = .ok (.imul, 1) := by decide +kernel
theorem dX6_string_80 : decode cX6_string 80 = .ok (.iadd, 1) := by decide +kernel
theorem dX6_string_81 : decode cX6_string 81 = .ok (.goto 16, 3) := by decide +kernel
theorem dX6_string_84 : decode cX6_string 84 = .ok (.iconst 4, 1) := by decide +kernel
theorem dX6_string_85 : decode cX6_string 85 = .ok (.iload_n 2, 1) := by decide +kernel
theorem dX6_string_86 : decode cX6_string 86 = .ok (.imul, 1) := by decide +kernel
theorem dX6_string_87 : decode cX6_string 87 = .ok (.iconst 2, 1) := by decide +kernel
theorem dX6_string_88 : decode cX6_string 88 = .ok (.iload_n 3, 1) := by decide +kernel
theorem dX6_string_89 : decode cX6_string 89 = .ok (.imul, 1) := by decide +kernel
theorem dX6_string_90 : decode cX6_string 90 = .ok (.iadd, 1) := by decide +kernel
theorem dX6_string_91 : decode cX6_string 91 = .ok (.bipush 6, 2) := by decide +kernel
theorem dX6_string_93 : decode cX6_string 93 = .ok (.iload 4, 2) := by decide +kernel
theorem dX6_string_95 : decode cX6_string 95 = .ok (.imul, 1) := by decide +kernel
theorem dX6_string_96 : decode cX6_string 96 = .ok (.iadd, 1) := by decide +kernel
theorem dX6_string_97 : decode cX6_string 97 = .ok (.iadd, 1) := by decide +kernel
theorem dX6_string_98 : decode cX6_string 98 = .ok (.ireturn, 1) := by decide +kernel
theorem dX6_bandOf_0 : decode cX6_bandOf 0 = .ok (.iload_n 0, 1) := by decide +kernel
theorem dX6_bandOf_1 : decode cX6_bandOf 1 = .ok (.sipush 600, 3) := by decide +kernel
theorem dX6_bandOf_4 : decode cX6_bandOf 4 = .ok (.if_icmp .le 8, 3) := by decide +kernel
theorem dX6_bandOf_7 : decode cX6_bandOf 7 = .ok (.bipush 11, 2) := by decide +kernel
theorem dX6_bandOf_9 : decode cX6_bandOf 9 = .ok (.goto 9, 3) := by decide +kernel
theorem dX6_bandOf_12 : decode cX6_bandOf 12 = .ok (.iload_n 0, 1) := by decide +kernel
theorem dX6_bandOf_13 : decode cX6_bandOf 13 = .ok (.iconst 1, 1) := by decide +kernel
theorem dX6_bandOf_14 : decode cX6_bandOf 14 = .ok (.isub, 1) := by decide +kernel
theorem dX6_bandOf_15 : decode cX6_bandOf 15 = .ok (.bipush 50, 2) := by decide +kernel
theorem dX6_bandOf_17 : decode cX6_bandOf 17 = .ok (.idiv, 1) := by decide +kernel
theorem dX6_bandOf_18 : decode cX6_bandOf 18 = .ok (.ireturn, 1) := by decide +kernel
theorem dX6_rateOf_0 : decode cX6_rateOf 0 = .ok (.iconst 0, 1) := by decide +kernel
theorem dX6_rateOf_1 : decode cX6_rateOf 1 = .ok (.istore_n 2, 1) := by decide +kernel
theorem dX6_rateOf_2 : decode cX6_rateOf 2 = .ok (.iconst 0, 1) := by decide +kernel
theorem dX6_rateOf_3 : decode cX6_rateOf 3 = .ok (.istore_n 3, 1) := by decide +kernel
theorem dX6_rateOf_4 : decode cX6_rateOf 4 = .ok (.iload_n 3, 1) := by decide +kernel
theorem dX6_rateOf_5 : decode cX6_rateOf 5 = .ok (.iload_n 1, 1) := by decide +kernel
theorem dX6_rateOf_6 : decode cX6_rateOf 6 = .ok (.invokestatic 45, 3) := by decide +kernel
theorem dX6_rateOf_9 : decode cX6_rateOf 9 = .ok (.if_icmp .gt 22, 3) := by decide +kernel
theorem dX6_rateOf_12 : decode cX6_rateOf 12 = .ok (.aload_n 0, 1) := by decide +kernel
theorem dX6_rateOf_13 : decode cX6_rateOf 13 = .ok (.getfield 7, 3) := by decide +kernel
theorem dX6_rateOf_16 : decode cX6_rateOf 16 = .ok (.iconst 4, 1) := by decide +kernel
theorem dX6_rateOf_17 : decode cX6_rateOf 17 = .ok (.iload_n 3, 1) := by decide +kernel
theorem dX6_rateOf_18 : decode cX6_rateOf 18 = .ok (.iadd, 1) := by decide +kernel
theorem dX6_rateOf_19 : decode cX6_rateOf 19 = .ok (.iaload, 1) := by decide +kernel
theorem dX6_rateOf_20 : decode cX6_rateOf 20 = .ok (.iload_n 2, 1) := by decide +kernel
theorem dX6_rateOf_21 : decode cX6_rateOf 21 = .ok (.invokestatic 49, 3) := by decide +kernel
theorem dX6_rateOf_24 : decode cX6_rateOf 24 = .ok (.istore_n 2, 1) := by decide +kernel
theorem dX6_rateOf_25 : decode cX6_rateOf 25 = .ok (.iinc 3 1, 3) := by decide +kernel
theorem dX6_rateOf_28 : decode cX6_rateOf 28 = .ok (.goto (-24), 3) := by decide +kernel
theorem dX6_rateOf_31 : decode cX6_rateOf 31 = .ok (.iload_n 2, 1) := by decide +kernel
theorem dX6_rateOf_32 : decode cX6_rateOf 32 = .ok (.ireturn, 1) := by decide +kernel
theorem dX6_isOdd_0 : decode cX6_isOdd 0 = .ok (.aload_n 0, 1) := by decide +kernel
theorem dX6_isOdd_1 : decode cX6_isOdd 1 = .ok (.iload_n 1, 1) := by decide +kernel
theorem dX6_isOdd_2 : decode cX6_isOdd 2 = .ok (.invokevirtual 53, 3) := by decide +kernel
theorem dX6_isOdd_5 : decode cX6_isOdd 5 = .ok (.aload_n 0, 1) := by decide +kernel
theorem dX6_isOdd_6 : decode cX6_isOdd 6 = .ok (.getfield 7, 3) := by decide +kernel
theorem dX6_isOdd_9 : decode cX6_isOdd 9 = .ok (.iconst 1, 1) := by decide +kernel
theorem dX6_isOdd_10 : decode cX6_isOdd 10 = .ok (.iaload, 1) := by decide +kernel
theorem dX6_isOdd_11 : decode cX6_isOdd 11 = .ok (.if_icmp .le 7, 3) := by decide +kernel
theorem dX6_isOdd_14 : decode cX6_isOdd 14 = .ok (.iconst 1, 1) := by decide +kernel
theorem dX6_isOdd_15 : decode cX6_isOdd 15 = .ok (.goto 4, 3) := by decide +kernel
theorem dX6_isOdd_18 : decode cX6_isOdd 18 = .ok (.iconst 0, 1) := by decide +kernel
theorem dX6_isOdd_19 : decode cX6_isOdd 19 = .ok (.ireturn, 1) := by decide +kernel
theorem dX6_postageWith_0 : decode cX6_postageWith 0 = .ok (.aload_n 0, 1) := by decide +kernel
theorem dX6_postageWith_1 : decode cX6_postageWith 1 = .ok (.iload_n 2, 1) := by decide +kernel
theorem dX6_postageWith_2 : decode cX6_postageWith 2 = .ok (.invokevirtual 56, 3) := by decide +kernel
theorem dX6_postageWith_5 : decode cX6_postageWith 5 = .ok (.aload_n 0, 1) := by decide +kernel
theorem dX6_postageWith_6 : decode cX6_postageWith 6 = .ok (.getfield 7, 3) := by decide +kernel
theorem dX6_postageWith_9 : decode cX6_postageWith 9 = .ok (.bipush 16, 2) := by decide +kernel
theorem dX6_postageWith_11 : decode cX6_postageWith 11 = .ok (.aload_n 0, 1) := by decide +kernel
theorem dX6_postageWith_12 : decode cX6_postageWith 12 = .ok (.getfield 7, 3) := by decide +kernel
theorem dX6_postageWith_15 : decode cX6_postageWith 15 = .ok (.iload_n 1, 1) := by decide +kernel
theorem dX6_postageWith_16 : decode cX6_postageWith 16 = .ok (.iconst 4, 1) := by decide +kernel
theorem dX6_postageWith_17 : decode cX6_postageWith 17 = .ok (.iadd, 1) := by decide +kernel
theorem dX6_postageWith_18 : decode cX6_postageWith 18 = .ok (.iaload, 1) := by decide +kernel
theorem dX6_postageWith_19 : decode cX6_postageWith 19 = .ok (.iadd, 1) := by decide +kernel
theorem dX6_postageWith_20 : decode cX6_postageWith 20 = .ok (.iaload, 1) := by decide +kernel
theorem dX6_postageWith_21 : decode cX6_postageWith 21 = .ok (.imul, 1) := by decide +kernel
theorem dX6_postageWith_22 : decode cX6_postageWith 22 = .ok (.istore_n 3, 1) := by decide +kernel
theorem dX6_postageWith_23 : decode cX6_postageWith 23 = .ok (.iload_n 3, 1) := by decide +kernel
theorem dX6_postageWith_24 : decode cX6_postageWith 24 = .ok (.aload_n 0, 1) := by decide +kernel
theorem dX6_postageWith_25 : decode cX6_postageWith 25 = .ok (.iload_n 1, 1) := by decide +kernel
theorem dX6_postageWith_26 : decode cX6_postageWith 26 = .ok (.invokevirtual 59, 3) := by decide +kernel
theorem dX6_postageWith_29 : decode cX6_postageWith 29 = .ok (.ifCond .eq 9, 3) := by decide +kernel
theorem dX6_postageWith_32 : decode cX6_postageWith 32 = .ok (.iload_n 3, 1) := by decide +kernel
theorem dX6_postageWith_33 : decode cX6_postageWith 33 = .ok (.iconst 2, 1) := by decide +kernel
theorem dX6_postageWith_34 : decode cX6_postageWith 34 = .ok (.idiv, 1) := by decide +kernel
theorem dX6_postageWith_35 : decode cX6_postageWith 35 = .ok (.goto 4, 3) := by decide +kernel
theorem dX6_postageWith_38 : decode cX6_postageWith 38 = .ok (.iconst 0, 1) := by decide +kernel
theorem dX6_postageWith_39 : decode cX6_postageWith 39 = .ok (.iadd, 1) := by decide +kernel
theorem dX6_postageWith_40 : decode cX6_postageWith 40 = .ok (.aload_n 0, 1) := by decide +kernel
theorem dX6_postageWith_41 : decode cX6_postageWith 41 = .ok (.getfield 7, 3) := by decide +kernel
theorem dX6_postageWith_44 : decode cX6_postageWith 44 = .ok (.iconst 2, 1) := by decide +kernel
theorem dX6_postageWith_45 : decode cX6_postageWith 45 = .ok (.iaload, 1) := by decide +kernel
theorem dX6_postageWith_46 : decode cX6_postageWith 46 = .ok (.aload_n 0, 1) := by decide +kernel
theorem dX6_postageWith_47 : decode cX6_postageWith 47 = .ok (.getfield 7, 3) := by decide +kernel
theorem dX6_postageWith_50 : decode cX6_postageWith 50 = .ok (.iload_n 1, 1) := by decide +kernel
theorem dX6_postageWith_51 : decode cX6_postageWith 51 = .ok (.iconst 5, 1) := by decide +kernel
theorem dX6_postageWith_52 : decode cX6_postageWith 52 = .ok (.iadd, 1) := by decide +kernel
theorem dX6_postageWith_53 : decode cX6_postageWith 53 = .ok (.iaload, 1) := by decide +kernel
theorem dX6_postageWith_54 : decode cX6_postageWith 54 = .ok (.imul, 1) := by decide +kernel
theorem dX6_postageWith_55 : decode cX6_postageWith 55 = .ok (.iadd, 1) := by decide +kernel
theorem dX6_postageWith_56 : decode cX6_postageWith 56 = .ok (.ireturn, 1) := by decide +kernel
theorem dX6_postage_0 : decode cX6_postage 0 = .ok (.aload_n 0, 1) := by decide +kernel
theorem dX6_postage_1 : decode cX6_postage 1 = .ok (.iload_n 1, 1) := by decide +kernel
theorem dX6_postage_2 : decode cX6_postage 2 = .ok (.aload_n 0, 1) := by decide +kernel
theorem dX6_postage_3 : decode cX6_postage 3 = .ok (.iload_n 1, 1) := by decide +kernel
theorem dX6_postage_4 : decode cX6_postage 4 = .ok (.invokevirtual 63, 3) := by decide +kernel
theorem dX6_postage_7 : decode cX6_postage 7 = .ok (.invokevirtual 66, 3) := by decide +kernel
theorem dX6_postage_10 : decode cX6_postage 10 = .ok (.ireturn, 1) := by decide +kernel
theorem dX6_reason_0 : decode cX6_reason 0 = .ok (.aload_n 0, 1) := by decide +kernel
theorem dX6_reason_1 : decode cX6_reason 1 = .ok (.getfield 7, 3) := by decide +kernel
theorem dX6_reason_4 : decode cX6_reason 4 = .ok (.iload_n 1, 1) := by decide +kernel
theorem dX6_reason_5 : decode cX6_reason 5 = .ok (.iconst 3, 1) := by decide +kernel
theorem dX6_reason_6 : decode cX6_reason 6 = .ok (.iadd, 1) := by decide +kernel
theorem dX6_reason_7 : decode cX6_reason 7 = .ok (.iaload, 1) := by decide +kernel
theorem dX6_reason_8 : decode cX6_reason 8 = .ok (.istore_n 2, 1) := by decide +kernel
theorem dX6_reason_9 : decode cX6_reason 9 = .ok (.aload_n 0, 1) := by decide +kernel
theorem dX6_reason_10 : decode cX6_reason 10 = .ok (.getfield 7, 3) := by decide +kernel
theorem dX6_reason_13 : decode cX6_reason 13 = .ok (.iload_n 1, 1) := by decide +kernel
theorem dX6_reason_14 : decode cX6_reason 14 = .ok (.bipush 6, 2) := by decide +kernel
theorem dX6_reason_16 : decode cX6_reason 16 = .ok (.iadd, 1) := by decide +kernel
theorem dX6_reason_17 : decode cX6_reason 17 = .ok (.iaload, 1) := by decide +kernel
theorem dX6_reason_18 : decode cX6_reason 18 = .ok (.istore_n 3, 1) := by decide +kernel
theorem dX6_reason_19 : decode cX6_reason 19 = .ok (.iload_n 2, 1) := by decide +kernel
theorem dX6_reason_20 : decode cX6_reason 20 = .ok (.bipush 30, 2) := by decide +kernel
theorem dX6_reason_22 : decode cX6_reason 22 = .ok (.if_icmp .le 7, 3) := by decide +kernel
theorem dX6_reason_25 : decode cX6_reason 25 = .ok (.iload_n 3, 1) := by decide +kernel
theorem dX6_reason_26 : decode cX6_reason 26 = .ok (.ifCond .eq 14, 3) := by decide +kernel
theorem dX6_reason_29 : decode cX6_reason 29 = .ok (.iload_n 2, 1) := by decide +kernel
theorem dX6_reason_30 : decode cX6_reason 30 = .ok (.bipush 60, 2) := by decide +kernel
theorem dX6_reason_32 : decode cX6_reason 32 = .ok (.if_icmp .le 10, 3) := by decide +kernel
theorem dX6_reason_35 : decode cX6_reason 35 = .ok (.iload_n 3, 1) := by decide +kernel
theorem dX6_reason_36 : decode cX6_reason 36 = .ok (.iconst 1, 1) := by decide +kernel
theorem dX6_reason_37 : decode cX6_reason 37 = .ok (.if_icmp .ne 5, 3) := by decide +kernel
theorem dX6_reason_40 : decode cX6_reason 40 = .ok (.iconst 1, 1) := by decide +kernel
theorem dX6_reason_41 : decode cX6_reason 41 = .ok (.ireturn, 1) := by decide +kernel
theorem dX6_reason_42 : decode cX6_reason 42 = .ok (.aload_n 0, 1) := by decide +kernel
theorem dX6_reason_43 : decode cX6_reason 43 = .ok (.iload_n 1, 1) := by decide +kernel
theorem dX6_reason_44 : decode cX6_reason 44 = .ok (.invokevirtual 53, 3) := by decide +kernel
theorem dX6_reason_47 : decode cX6_reason 47 = .ok (.iconst 2, 1) := by decide +kernel
theorem dX6_reason_48 : decode cX6_reason 48 = .ok (.aload_n 0, 1) := by decide +kernel
theorem dX6_reason_49 : decode cX6_reason 49 = .ok (.getfield 7, 3) := by decide +kernel
theorem dX6_reason_52 : decode cX6_reason 52 = .ok (.iconst 1, 1) := by decide +kernel
theorem dX6_reason_53 : decode cX6_reason 53 = .ok (.iaload, 1) := by decide +kernel
theorem dX6_reason_54 : decode cX6_reason 54 = .ok (.imul, 1) := by decide +kernel
theorem dX6_reason_55 : decode cX6_reason 55 = .ok (.if_icmp .le 7, 3) := by decide +kernel
theorem dX6_reason_58 : decode cX6_reason 58 = .ok (.iconst 2, 1) := by decide +kernel
theorem dX6_reason_59 : decode cX6_reason 59 = .ok (.goto 23, 3) := by decide +kernel
theorem dX6_reason_62 : decode cX6_reason 62 = .ok (.aload_n 0, 1) := by decide +kernel
theorem dX6_reason_63 : decode cX6_reason 63 = .ok (.getfield 7, 3) := by decide +kernel
theorem dX6_reason_66 : decode cX6_reason 66 = .ok (.iload_n 1, 1) := by decide +kernel
theorem dX6_reason_67 : decode cX6_reason 67 = .ok (.iconst 5, 1) := by decide +kernel
theorem dX6_reason_68 : decode cX6_reason 68 = .ok (.iadd, 1) := by decide +kernel
theorem dX6_reason_69 : decode cX6_reason 69 = .ok (.iaload, 1) := by decide +kernel
theorem dX6_reason_70 : decode cX6_reason 70 = .ok (.ifCond .le 11, 3) := by decide +kernel
theorem dX6_reason_73 : decode cX6_reason 73 = .ok (.iload_n 3, 1) := by decide +kernel
theorem dX6_reason_74 : decode cX6_reason 74 = .ok (.ifCond .ne 7, 3) := by decide +kernel
theorem dX6_reason_77 : decode cX6_reason 77 = .ok (.iconst 3, 1) := by decide +kernel
theorem dX6_reason_78 : decode cX6_reason 78 = .ok (.goto 4, 3) := by decide +kernel
theorem dX6_reason_81 : decode cX6_reason 81 = .ok (.iconst 0, 1) := by decide +kernel
theorem dX6_reason_82 : decode cX6_reason 82 = .ok (.ireturn, 1) := by decide +kernel
theorem dX6_sorts_0 : decode cX6_sorts 0 = .ok (.iload_n 2, 1) := by decide +kernel
theorem dX6_sorts_1 : decode cX6_sorts 1 = .ok (.iload_n 3, 1) := by decide +kernel
theorem dX6_sorts_2 : decode cX6_sorts 2 = .ok (.iload 4, 2) := by decide +kernel
theorem dX6_sorts_4 : decode cX6_sorts 4 = .ok (.invokestatic 49, 3) := by decide +kernel
theorem dX6_sorts_7 : decode cX6_sorts 7 = .ok (.invokestatic 49, 3) := by decide +kernel
theorem dX6_sorts_10 : decode cX6_sorts 10 = .ok (.istore 5, 2) := by decide +kernel
theorem dX6_sorts_12 : decode cX6_sorts 12 = .ok (.iload_n 2, 1) := by decide +kernel
theorem dX6_sorts_13 : decode cX6_sorts 13 = .ok (.ineg, 1) := by decide +kernel
theorem dX6_sorts_14 : decode cX6_sorts 14 = .ok (.iload_n 3, 1) := by decide +kernel
theorem dX6_sorts_15 : decode cX6_sorts 15 = .ok (.ineg, 1) := by decide +kernel
theorem dX6_sorts_16 : decode cX6_sorts 16 = .ok (.iload 4, 2) := by decide +kernel
theorem dX6_sorts_18 : decode cX6_sorts 18 = .ok (.ineg, 1) := by decide +kernel
theorem dX6_sorts_19 : decode cX6_sorts 19 = .ok (.invokestatic 49, 3) := by decide +kernel
theorem dX6_sorts_22 : decode cX6_sorts 22 = .ok (.invokestatic 49, 3) := by decide +kernel
theorem dX6_sorts_25 : decode cX6_sorts 25 = .ok (.ineg, 1) := by decide +kernel
theorem dX6_sorts_26 : decode cX6_sorts 26 = .ok (.istore 6, 2) := by decide +kernel
theorem dX6_sorts_28 : decode cX6_sorts 28 = .ok (.aload_n 0, 1) := by decide +kernel
theorem dX6_sorts_29 : decode cX6_sorts 29 = .ok (.getfield 7, 3) := by decide +kernel
theorem dX6_sorts_32 : decode cX6_sorts 32 = .ok (.iload_n 1, 1) := by decide +kernel
theorem dX6_sorts_33 : decode cX6_sorts 33 = .ok (.iload 5, 2) := by decide +kernel
theorem dX6_sorts_35 : decode cX6_sorts 35 = .ok (.iastore, 1) := by decide +kernel
theorem dX6_sorts_36 : decode cX6_sorts 36 = .ok (.aload_n 0, 1) := by decide +kernel
theorem dX6_sorts_37 : decode cX6_sorts 37 = .ok (.getfield 7, 3) := by decide +kernel
theorem dX6_sorts_40 : decode cX6_sorts 40 = .ok (.iload_n 1, 1) := by decide +kernel
theorem dX6_sorts_41 : decode cX6_sorts 41 = .ok (.iconst 1, 1) := by decide +kernel
theorem dX6_sorts_42 : decode cX6_sorts 42 = .ok (.iadd, 1) := by decide +kernel
theorem dX6_sorts_43 : decode cX6_sorts 43 = .ok (.iload_n 2, 1) := by decide +kernel
theorem dX6_sorts_44 : decode cX6_sorts 44 = .ok (.iload_n 3, 1) := by decide +kernel
theorem dX6_sorts_45 : decode cX6_sorts 45 = .ok (.iadd, 1) := by decide +kernel
theorem dX6_sorts_46 : decode cX6_sorts 46 = .ok (.iload 4, 2) := by decide +kernel
theorem dX6_sorts_48 : decode cX6_sorts 48 = .ok (.iadd, 1) := by decide +kernel
theorem dX6_sorts_49 : decode cX6_sorts 49 = .ok (.iload 5, 2) := by decide +kernel
theorem dX6_sorts_51 : decode cX6_sorts 51 = .ok (.isub, 1) := by decide +kernel
theorem dX6_sorts_52 : decode cX6_sorts 52 = .ok (.iload 6, 2) := by decide +kernel
theorem dX6_sorts_54 : decode cX6_sorts 54 = .ok (.isub, 1) := by decide +kernel
theorem dX6_sorts_55 : decode cX6_sorts 55 = .ok (.iastore, 1) := by decide +kernel
theorem dX6_sorts_56 : decode cX6_sorts 56 = .ok (.aload_n 0, 1) := by decide +kernel
theorem dX6_sorts_57 : decode cX6_sorts 57 = .ok (.getfield 7, 3) := by decide +kernel
theorem dX6_sorts_60 : decode cX6_sorts 60 = .ok (.iload_n 1, 1) := by decide +kernel
theorem dX6_sorts_61 : decode cX6_sorts 61 = .ok (.iconst 2, 1) := by decide +kernel
theorem dX6_sorts_62 : decode cX6_sorts 62 = .ok (.iadd, 1) := by decide +kernel
theorem dX6_sorts_63 : decode cX6_sorts 63 = .ok (.iload 6, 2) := by decide +kernel
theorem dX6_sorts_65 : decode cX6_sorts 65 = .ok (.iastore, 1) := by decide +kernel
theorem dX6_sorts_66 : decode cX6_sorts 66 = .ok (.return_, 1) := by decide +kernel
theorem dX6_laysBundle_0 : decode cX6_laysBundle 0 = .ok (.iload_n 1, 1) := by decide +kernel
theorem dX6_laysBundle_1 : decode cX6_laysBundle 1 = .ok (.invokestatic 69, 3) := by decide +kernel
theorem dX6_laysBundle_4 : decode cX6_laysBundle 4 = .ok (.istore_n 3, 1) := by decide +kernel
theorem dX6_laysBundle_5 : decode cX6_laysBundle 5 = .ok (.iload_n 2, 1) := by decide +kernel
theorem dX6_laysBundle_6 : decode cX6_laysBundle 6 = .ok (.invokestatic 69, 3) := by decide +kernel
theorem dX6_laysBundle_9 : decode cX6_laysBundle 9 = .ok (.istore 4, 2) := by decide +kernel
theorem dX6_laysBundle_11 : decode cX6_laysBundle 11 = .ok (.aload_n 0, 1) := by decide +kernel
theorem dX6_laysBundle_12 : decode cX6_laysBundle 12 = .ok (.sipush 675, 3) := by decide +kernel
theorem dX6_laysBundle_15 : decode cX6_laysBundle 15 = .ok (.aload_n 0, 1) := by decide +kernel
theorem dX6_laysBundle_16 : decode cX6_laysBundle 16 = .ok (.getfield 7, 3) := by decide +kernel
theorem dX6_laysBundle_19 : decode cX6_laysBundle 19 = .ok (.iload_n 3, 1) := by decide +kernel
theorem dX6_laysBundle_20 : decode cX6_laysBundle 20 = .ok (.iaload, 1) := by decide +kernel
theorem dX6_laysBundle_21 : decode cX6_laysBundle 21 = .ok (.aload_n 0, 1) := by decide +kernel
theorem dX6_laysBundle_22 : decode cX6_laysBundle 22 = .ok (.getfield 7, 3) := by decide +kernel
theorem dX6_laysBundle_25 : decode cX6_laysBundle 25 = .ok (.iload 4, 2) := by decide +kernel
theorem dX6_laysBundle_27 : decode cX6_laysBundle 27 = .ok (.iaload, 1) := by decide +kernel
theorem dX6_laysBundle_28 : decode cX6_laysBundle 28 = .ok (.invokestatic 49, 3) := by decide +kernel
theorem dX6_laysBundle_31 : decode cX6_laysBundle 31 = .ok (.aload_n 0, 1) := by decide +kernel
theorem dX6_laysBundle_32 : decode cX6_laysBundle 32 = .ok (.getfield 7, 3) := by decide +kernel
theorem dX6_laysBundle_35 : decode cX6_laysBundle 35 = .ok (.iload_n 3, 1) := by decide +kernel
theorem dX6_laysBundle_36 : decode cX6_laysBundle 36 = .ok (.iconst 1, 1) := by decide +kernel
theorem dX6_laysBundle_37 : decode cX6_laysBundle 37 = .ok (.iadd, 1) := by decide +kernel
theorem dX6_laysBundle_38 : decode cX6_laysBundle 38 = .ok (.iaload, 1) := by decide +kernel
theorem dX6_laysBundle_39 : decode cX6_laysBundle 39 = .ok (.aload_n 0, 1) := by decide +kernel
theorem dX6_laysBundle_40 : decode cX6_laysBundle 40 = .ok (.getfield 7, 3) := by decide +kernel
theorem dX6_laysBundle_43 : decode cX6_laysBundle 43 = .ok (.iload 4, 2) := by decide +kernel
theorem dX6_laysBundle_45 : decode cX6_laysBundle 45 = .ok (.iconst 1, 1) := by decide +kernel
theorem dX6_laysBundle_46 : decode cX6_laysBundle 46 = .ok (.iadd, 1) := by decide +kernel
theorem dX6_laysBundle_47 : decode cX6_laysBundle 47 = .ok (.iaload, 1) := by decide +kernel
theorem dX6_laysBundle_48 : decode cX6_laysBundle 48 = .ok (.invokestatic 49, 3) := by decide +kernel
theorem dX6_laysBundle_51 : decode cX6_laysBundle 51 = .ok (.aload_n 0, 1) := by decide +kernel
theorem dX6_laysBundle_52 : decode cX6_laysBundle 52 = .ok (.getfield 7, 3) := by decide +kernel
theorem dX6_laysBundle_55 : decode cX6_laysBundle 55 = .ok (.iload_n 3, 1) := by decide +kernel
theorem dX6_laysBundle_56 : decode cX6_laysBundle 56 = .ok (.iconst 2, 1) := by decide +kernel
theorem dX6_laysBundle_57 : decode cX6_laysBundle 57 = .ok (.iadd, 1) := by decide +kernel
theorem dX6_laysBundle_58 : decode cX6_laysBundle 58 = .ok (.iaload, 1) := by decide +kernel
theorem dX6_laysBundle_59 : decode cX6_laysBundle 59 = .ok (.aload_n 0, 1) := by decide +kernel
theorem dX6_laysBundle_60 : decode cX6_laysBundle 60 = .ok (.getfield 7, 3) := by decide +kernel
theorem dX6_laysBundle_63 : decode cX6_laysBundle 63 = .ok (.iload 4, 2) := by decide +kernel
theorem dX6_laysBundle_65 : decode cX6_laysBundle 65 = .ok (.iconst 2, 1) := by decide +kernel
theorem dX6_laysBundle_66 : decode cX6_laysBundle 66 = .ok (.iadd, 1) := by decide +kernel
theorem dX6_laysBundle_67 : decode cX6_laysBundle 67 = .ok (.iaload, 1) := by decide +kernel
theorem dX6_laysBundle_68 : decode cX6_laysBundle 68 = .ok (.iadd, 1) := by decide +kernel
theorem dX6_laysBundle_69 : decode cX6_laysBundle 69 = .ok (.invokevirtual 72, 3) := by decide +kernel
theorem dX6_laysBundle_72 : decode cX6_laysBundle 72 = .ok (.aload_n 0, 1) := by decide +kernel
theorem dX6_laysBundle_73 : decode cX6_laysBundle 73 = .ok (.getfield 7, 3) := by decide +kernel
theorem dX6_laysBundle_76 : decode cX6_laysBundle 76 = .ok (.sipush 678, 3) := by decide +kernel
theorem dX6_laysBundle_79 : decode cX6_laysBundle 79 = .ok (.aload_n 0, 1) := by decide +kernel
theorem dX6_laysBundle_80 : decode cX6_laysBundle 80 = .ok (.getfield 7, 3) := by decide +kernel
theorem dX6_laysBundle_83 : decode cX6_laysBundle 83 = .ok (.iload_n 3, 1) := by decide +kernel
theorem dX6_laysBundle_84 : decode cX6_laysBundle 84 = .ok (.iconst 3, 1) := by decide +kernel
theorem dX6_laysBundle_85 : decode cX6_laysBundle 85 = .ok (.iadd, 1) := by decide +kernel
theorem dX6_laysBundle_86 : decode cX6_laysBundle 86 = .ok (.iaload, 1) := by decide +kernel
theorem dX6_laysBundle_87 : decode cX6_laysBundle 87 = .ok (.aload_n 0, 1) := by decide +kernel
theorem dX6_laysBundle_88 : decode cX6_laysBundle 88 = .ok (.getfield 7, 3) := by decide +kernel
theorem dX6_laysBundle_91 : decode cX6_laysBundle 91 = .ok (.iload 4, 2) := by decide +kernel
theorem dX6_laysBundle_93 : decode cX6_laysBundle 93 = .ok (.iconst 3, 1) := by decide +kernel
theorem dX6_laysBundle_94 : decode cX6_laysBundle 94 = .ok (.iadd, 1) := by decide +kernel
theorem dX6_laysBundle_95 : decode cX6_laysBundle 95 = .ok (.iaload, 1) := by decide +kernel
theorem dX6_laysBundle_96 : decode cX6_laysBundle 96 = .ok (.iadd, 1) := by decide +kernel
theorem dX6_laysBundle_97 : decode cX6_laysBundle 97 = .ok (.iastore, 1) := by decide +kernel
theorem dX6_laysBundle_98 : decode cX6_laysBundle 98 = .ok (.aload_n 0, 1) := by decide +kernel
theorem dX6_laysBundle_99 : decode cX6_laysBundle 99 = .ok (.getfield 7, 3) := by decide +kernel
theorem dX6_laysBundle_102 : decode cX6_laysBundle 102 = .ok (.sipush 679, 3) := by decide +kernel
theorem dX6_laysBundle_105 : decode cX6_laysBundle 105 = .ok (.aload_n 0, 1) := by decide +kernel
theorem dX6_laysBundle_106 : decode cX6_laysBundle 106 = .ok (.getfield 7, 3) := by decide +kernel
theorem dX6_laysBundle_109 : decode cX6_laysBundle 109 = .ok (.iload_n 3, 1) := by decide +kernel
theorem dX6_laysBundle_110 : decode cX6_laysBundle 110 = .ok (.iconst 4, 1) := by decide +kernel
theorem dX6_laysBundle_111 : decode cX6_laysBundle 111 = .ok (.iadd, 1) := by decide +kernel
theorem dX6_laysBundle_112 : decode cX6_laysBundle 112 = .ok (.iaload, 1) := by decide +kernel
theorem dX6_laysBundle_113 : decode cX6_laysBundle 113 = .ok (.iastore, 1) := by decide +kernel
theorem dX6_laysBundle_114 : decode cX6_laysBundle 114 = .ok (.aload_n 0, 1) := by decide +kernel
theorem dX6_laysBundle_115 : decode cX6_laysBundle 115 = .ok (.getfield 7, 3) := by decide +kernel
theorem dX6_laysBundle_118 : decode cX6_laysBundle 118 = .ok (.sipush 680, 3) := by decide +kernel
theorem dX6_laysBundle_121 : decode cX6_laysBundle 121 = .ok (.aload_n 0, 1) := by decide +kernel
theorem dX6_laysBundle_122 : decode cX6_laysBundle 122 = .ok (.getfield 7, 3) := by decide +kernel
theorem dX6_laysBundle_125 : decode cX6_laysBundle 125 = .ok (.iload_n 3, 1) := by decide +kernel
theorem dX6_laysBundle_126 : decode cX6_laysBundle 126 = .ok (.iconst 5, 1) := by decide +kernel
theorem dX6_laysBundle_127 : decode cX6_laysBundle 127 = .ok (.iadd, 1) := by decide +kernel
theorem dX6_laysBundle_128 : decode cX6_laysBundle 128 = .ok (.iaload, 1) := by decide +kernel
theorem dX6_laysBundle_129 : decode cX6_laysBundle 129 = .ok (.aload_n 0, 1) := by decide +kernel
theorem dX6_laysBundle_130 : decode cX6_laysBundle 130 = .ok (.getfield 7, 3) := by decide +kernel
theorem dX6_laysBundle_133 : decode cX6_laysBundle 133 = .ok (.iload 4, 2) := by decide +kernel
theorem dX6_laysBundle_135 : decode cX6_laysBundle 135 = .ok (.iconst 5, 1) := by decide +kernel
theorem dX6_laysBundle_136 : decode cX6_laysBundle 136 = .ok (.iadd, 1) := by decide +kernel
theorem dX6_laysBundle_137 : decode cX6_laysBundle 137 = .ok (.iaload, 1) := by decide +kernel
theorem dX6_laysBundle_138 : decode cX6_laysBundle 138 = .ok (.iadd, 1) := by decide +kernel
theorem dX6_laysBundle_139 : decode cX6_laysBundle 139 = .ok (.iastore, 1) := by decide +kernel
theorem dX6_laysBundle_140 : decode cX6_laysBundle 140 = .ok (.aload_n 0, 1) := by decide +kernel
theorem dX6_laysBundle_141 : decode cX6_laysBundle 141 = .ok (.getfield 7, 3) := by decide +kernel
theorem dX6_laysBundle_144 : decode cX6_laysBundle 144 = .ok (.sipush 681, 3) := by decide +kernel
theorem dX6_laysBundle_147 : decode cX6_laysBundle 147 = .ok (.aload_n 0, 1) := by decide +kernel
theorem dX6_laysBundle_148 : decode cX6_laysBundle 148 = .ok (.getfield 7, 3) := by decide +kernel
theorem dX6_laysBundle_151 : decode cX6_laysBundle 151 = .ok (.iload_n 3, 1) := by decide +kernel
theorem dX6_laysBundle_152 : decode cX6_laysBundle 152 = .ok (.bipush 6, 2) := by decide +kernel
theorem dX6_laysBundle_154 : decode cX6_laysBundle 154 = .ok (.iadd, 1) := by decide +kernel
theorem dX6_laysBundle_155 : decode cX6_laysBundle 155 = .ok (.iaload, 1) := by decide +kernel
theorem dX6_laysBundle_156 : decode cX6_laysBundle 156 = .ok (.aload_n 0, 1) := by decide +kernel
theorem dX6_laysBundle_157 : decode cX6_laysBundle 157 = .ok (.getfield 7, 3) := by decide +kernel
theorem dX6_laysBundle_160 : decode cX6_laysBundle 160 = .ok (.iload 4, 2) := by decide +kernel
theorem dX6_laysBundle_162 : decode cX6_laysBundle 162 = .ok (.bipush 6, 2) := by decide +kernel
theorem dX6_laysBundle_164 : decode cX6_laysBundle 164 = .ok (.iadd, 1) := by decide +kernel
theorem dX6_laysBundle_165 : decode cX6_laysBundle 165 = .ok (.iaload, 1) := by decide +kernel
theorem dX6_laysBundle_166 : decode cX6_laysBundle 166 = .ok (.invokestatic 49, 3) := by decide +kernel
theorem dX6_laysBundle_169 : decode cX6_laysBundle 169 = .ok (.iastore, 1) := by decide +kernel
theorem dX6_laysBundle_170 : decode cX6_laysBundle 170 = .ok (.aload_n 0, 1) := by decide +kernel
theorem dX6_laysBundle_171 : decode cX6_laysBundle 171 = .ok (.getfield 7, 3) := by decide +kernel
theorem dX6_laysBundle_174 : decode cX6_laysBundle 174 = .ok (.iload_n 3, 1) := by decide +kernel
theorem dX6_laysBundle_175 : decode cX6_laysBundle 175 = .ok (.iconst 4, 1) := by decide +kernel
theorem dX6_laysBundle_176 : decode cX6_laysBundle 176 = .ok (.iadd, 1) := by decide +kernel
theorem dX6_laysBundle_177 : decode cX6_laysBundle 177 = .ok (.iaload, 1) := by decide +kernel
theorem dX6_laysBundle_178 : decode cX6_laysBundle 178 = .ok (.aload_n 0, 1) := by decide +kernel
theorem dX6_laysBundle_179 : decode cX6_laysBundle 179 = .ok (.getfield 7, 3) := by decide +kernel
theorem dX6_laysBundle_182 : decode cX6_laysBundle 182 = .ok (.iload 4, 2) := by decide +kernel
theorem dX6_laysBundle_184 : decode cX6_laysBundle 184 = .ok (.iconst 4, 1) := by decide +kernel
theorem dX6_laysBundle_185 : decode cX6_laysBundle 185 = .ok (.iadd, 1) := by decide +kernel
theorem dX6_laysBundle_186 : decode cX6_laysBundle 186 = .ok (.iaload, 1) := by decide +kernel
theorem dX6_laysBundle_187 : decode cX6_laysBundle 187 = .ok (.if_icmp .ne 47, 3) := by decide +kernel
theorem dX6_laysBundle_190 : decode cX6_laysBundle 190 = .ok (.aload_n 0, 1) := by decide +kernel
theorem dX6_laysBundle_191 : decode cX6_laysBundle 191 = .ok (.iload_n 3, 1) := by decide +kernel
theorem dX6_laysBundle_192 : decode cX6_laysBundle 192 = .ok (.invokevirtual 76, 3) := by decide +kernel
theorem dX6_laysBundle_195 : decode cX6_laysBundle 195 = .ok (.ifCond .ne 39, 3) := by decide +kernel
theorem dX6_laysBundle_198 : decode cX6_laysBundle 198 = .ok (.aload_n 0, 1) := by decide +kernel
theorem dX6_laysBundle_199 : decode cX6_laysBundle 199 = .ok (.iload 4, 2) := by decide +kernel
theorem dX6_laysBundle_201 : decode cX6_laysBundle 201 = .ok (.invokevirtual 76, 3) := by decide +kernel
theorem dX6_laysBundle_204 : decode cX6_laysBundle 204 = .ok (.ifCond .ne 30, 3) := by decide +kernel
theorem dX6_laysBundle_207 : decode cX6_laysBundle 207 = .ok (.aload_n 0, 1) := by decide +kernel
theorem dX6_laysBundle_208 : decode cX6_laysBundle 208 = .ok (.getfield 7, 3) := by decide +kernel
theorem dX6_laysBundle_211 : decode cX6_laysBundle 211 = .ok (.sipush 678, 3) := by decide +kernel
theorem dX6_laysBundle_214 : decode cX6_laysBundle 214 = .ok (.iaload, 1) := by decide +kernel
theorem dX6_laysBundle_215 : decode cX6_laysBundle 215 = .ok (.bipush 99, 2) := by decide +kernel
theorem dX6_laysBundle_217 : decode cX6_laysBundle 217 = .ok (.if_icmp .gt 17, 3) := by decide +kernel
theorem dX6_laysBundle_220 : decode cX6_laysBundle 220 = .ok (.aload_n 0, 1) := by decide +kernel
theorem dX6_laysBundle_221 : decode cX6_laysBundle 221 = .ok (.sipush 675, 3) := by decide +kernel
theorem dX6_laysBundle_224 : decode cX6_laysBundle 224 = .ok (.invokevirtual 76, 3) := by decide +kernel
theorem dX6_laysBundle_227 : decode cX6_laysBundle 227 = .ok (.ifCond .ne 7, 3) := by decide +kernel
theorem dX6_laysBundle_230 : decode cX6_laysBundle 230 = .ok (.iconst 1, 1) := by decide +kernel
theorem dX6_laysBundle_231 : decode cX6_laysBundle 231 = .ok (.goto 4, 3) := by decide +kernel
theorem dX6_laysBundle_234 : decode cX6_laysBundle 234 = .ok (.iconst 0, 1) := by decide +kernel
theorem dX6_laysBundle_235 : decode cX6_laysBundle 235 = .ok (.ireturn, 1) := by decide +kernel
theorem dX6_bundled_0 : decode cX6_bundled 0 = .ok (.aload_n 0, 1) := by decide +kernel
theorem dX6_bundled_1 : decode cX6_bundled 1 = .ok (.iload_n 1, 1) := by decide +kernel
theorem dX6_bundled_2 : decode cX6_bundled 2 = .ok (.iload_n 2, 1) := by decide +kernel
theorem dX6_bundled_3 : decode cX6_bundled 3 = .ok (.invokevirtual 79, 3) := by decide +kernel
theorem dX6_bundled_6 : decode cX6_bundled 6 = .ok (.ifCond .eq 13, 3) := by decide +kernel
theorem dX6_bundled_9 : decode cX6_bundled 9 = .ok (.aload_n 0, 1) := by decide +kernel
theorem dX6_bundled_10 : decode cX6_bundled 10 = .ok (.sipush 675, 3) := by decide +kernel
theorem dX6_bundled_13 : decode cX6_bundled 13 = .ok (.invokevirtual 83, 3) := by decide +kernel
theorem dX6_bundled_16 : decode cX6_bundled 16 = .ok (.goto 4, 3) := by decide +kernel
theorem dX6_bundled_19 : decode cX6_bundled 19 = .ok (.iconst (-1), 1) := by decide +kernel
theorem dX6_bundled_20 : decode cX6_bundled 20 = .ok (.ireturn, 1) := by decide +kernel
theorem dX6_alone_0 : decode cX6_alone 0 = .ok (.aload_n 0, 1) := by decide +kernel
theorem dX6_alone_1 : decode cX6_alone 1 = .ok (.iload_n 1, 1) := by decide +kernel
theorem dX6_alone_2 : decode cX6_alone 2 = .ok (.invokestatic 69, 3) := by decide +kernel
theorem dX6_alone_5 : decode cX6_alone 5 = .ok (.invokevirtual 76, 3) := by decide +kernel
theorem dX6_alone_8 : decode cX6_alone 8 = .ok (.ifCond .ne 14, 3) := by decide +kernel
theorem dX6_alone_11 : decode cX6_alone 11 = .ok (.aload_n 0, 1) := by decide +kernel
theorem dX6_alone_12 : decode cX6_alone 12 = .ok (.iload_n 1, 1) := by decide +kernel
theorem dX6_alone_13 : decode cX6_alone 13 = .ok (.invokestatic 69, 3) := by decide +kernel
theorem dX6_alone_16 : decode cX6_alone 16 = .ok (.invokevirtual 83, 3) := by decide +kernel
theorem dX6_alone_19 : decode cX6_alone 19 = .ok (.goto 4, 3) := by decide +kernel
theorem dX6_alone_22 : decode cX6_alone 22 = .ok (.iconst 0, 1) := by decide +kernel
theorem dX6_alone_23 : decode cX6_alone 23 = .ok (.ireturn, 1) := by decide +kernel
theorem dX6_bySets_0 : decode cX6_bySets 0 = .ok (.aload_n 0, 1) := by decide +kernel
theorem dX6_bySets_1 : decode cX6_bySets 1 = .ok (.getfield 21, 3) := by decide +kernel
theorem dX6_bySets_4 : decode cX6_bySets 4 = .ok (.iconst 0, 1) := by decide +kernel
theorem dX6_bySets_5 : decode cX6_bySets 5 = .ok (.iconst 0, 1) := by decide +kernel
theorem dX6_bySets_6 : decode cX6_bySets 6 = .ok (.iastore, 1) := by decide +kernel
theorem dX6_bySets_7 : decode cX6_bySets 7 = .ok (.iconst 1, 1) := by decide +kernel
theorem dX6_bySets_8 : decode cX6_bySets 8 = .ok (.istore_n 1, 1) := by decide +kernel
theorem dX6_bySets_9 : decode cX6_bySets 9 = .ok (.iload_n 1, 1) := by decide +kernel
theorem dX6_bySets_10 : decode cX6_bySets 10 = .ok (.iconst 1, 1) := by decide +kernel
theorem dX6_bySets_11 : decode cX6_bySets 11 = .ok (.aload_n 0, 1) := by decide +kernel
theorem dX6_bySets_12 : decode cX6_bySets 12 = .ok (.getfield 7, 3) := by decide +kernel
theorem dX6_bySets_15 : decode cX6_bySets 15 = .ok (.bipush 20, 2) := by decide +kernel
theorem dX6_bySets_17 : decode cX6_bySets 17 = .ok (.iaload, 1) := by decide +kernel
theorem dX6_bySets_18 : decode cX6_bySets 18 = .ok (.ishl, 1) := by decide +kernel
theorem dX6_bySets_19 : decode cX6_bySets 19 = .ok (.if_icmp .ge 136, 3) := by decide +kernel
theorem dX6_bySets_22 : decode cX6_bySets 22 = .ok (.iconst 0, 1) := by decide +kernel
theorem dX6_bySets_23 : decode cX6_bySets 23 = .ok (.istore_n 2, 1) := by decide +kernel
theorem dX6_bySets_24 : decode cX6_bySets 24 = .ok (.iload_n 1, 1) := by decide +kernel
theorem dX6_bySets_25 : decode cX6_bySets 25 = .ok (.iload_n 2, 1) := by decide +kernel
end
section
theorem dX6_bySets_26 : decode cX6_bySets 26 = .ok (.iconst 1, 1) := by decide +kernel
theorem dX6_bySets_27 : decode cX6_bySets 27 = .ok (.iadd, 1) := by decide +kernel
theorem dX6_bySets_28 : decode cX6_bySets 28 = .ok (.ishr, 1) := by decide +kernel
theorem dX6_bySets_29 : decode cX6_bySets 29 = .ok (.ifCond .le 9, 3) := by decide +kernel
theorem dX6_bySets_32 : decode cX6_bySets 32 = .ok (.iinc 2 1, 3) := by decide +kernel
theorem dX6_bySets_35 : decode cX6_bySets 35 = .ok (.goto (-11), 3) := by decide +kernel
theorem dX6_bySets_38 : decode cX6_bySets 38 = .ok (.iload_n 1, 1) := by decide +kernel
theorem dX6_bySets_39 : decode cX6_bySets 39 = .ok (.iconst 1, 1) := by decide +kernel
theorem dX6_bySets_40 : decode cX6_bySets 40 = .ok (.iload_n 2, 1) := by decide +kernel
theorem dX6_bySets_41 : decode cX6_bySets 41 = .ok (.ishl, 1) := by decide +kernel
theorem dX6_bySets_42 : decode cX6_bySets 42 = .ok (.isub, 1) := by decide +kernel
theorem dX6_bySets_43 : decode cX6_bySets 43 = .ok (.istore_n 3, 1) := by decide +kernel
theorem dX6_bySets_44 : decode cX6_bySets 44 = .ok (.aload_n 0, 1) := by decide +kernel
theorem dX6_bySets_45 : decode cX6_bySets 45 = .ok (.getfield 21, 3) := by decide +kernel
theorem dX6_bySets_48 : decode cX6_bySets 48 = .ok (.iload_n 1, 1) := by decide +kernel
theorem dX6_bySets_49 : decode cX6_bySets 49 = .ok (.aload_n 0, 1) := by decide +kernel
theorem dX6_bySets_50 : decode cX6_bySets 50 = .ok (.getfield 21, 3) := by decide +kernel
theorem dX6_bySets_53 : decode cX6_bySets 53 = .ok (.iload_n 3, 1) := by decide +kernel
theorem dX6_bySets_54 : decode cX6_bySets 54 = .ok (.iaload, 1) := by decide +kernel
theorem dX6_bySets_55 : decode cX6_bySets 55 = .ok (.aload_n 0, 1) := by decide +kernel
theorem dX6_bySets_56 : decode cX6_bySets 56 = .ok (.iload_n 2, 1) := by decide +kernel
theorem dX6_bySets_57 : decode cX6_bySets 57 = .ok (.invokevirtual 86, 3) := by decide +kernel
theorem dX6_bySets_60 : decode cX6_bySets 60 = .ok (.iadd, 1) := by decide +kernel
theorem dX6_bySets_61 : decode cX6_bySets 61 = .ok (.iastore, 1) := by decide +kernel
theorem dX6_bySets_62 : decode cX6_bySets 62 = .ok (.iconst 0, 1) := by decide +kernel
theorem dX6_bySets_63 : decode cX6_bySets 63 = .ok (.istore 4, 2) := by decide +kernel
theorem dX6_bySets_65 : decode cX6_bySets 65 = .ok (.iload 4, 2) := by decide +kernel
theorem dX6_bySets_67 : decode cX6_bySets 67 = .ok (.iload_n 2, 1) := by decide +kernel
theorem dX6_bySets_68 : decode cX6_bySets 68 = .ok (.if_icmp .ge 81, 3) := by decide +kernel
theorem dX6_bySets_71 : decode cX6_bySets 71 = .ok (.iload_n 3, 1) := by decide +kernel
theorem dX6_bySets_72 : decode cX6_bySets 72 = .ok (.iload 4, 2) := by decide +kernel
theorem dX6_bySets_74 : decode cX6_bySets 74 = .ok (.ishr, 1) := by decide +kernel
theorem dX6_bySets_75 : decode cX6_bySets 75 = .ok (.iconst 1, 1) := by decide +kernel
theorem dX6_bySets_76 : decode cX6_bySets 76 = .ok (.iand, 1) := by decide +kernel
theorem dX6_bySets_77 : decode cX6_bySets 77 = .ok (.iconst 1, 1) := by decide +kernel
theorem dX6_bySets_78 : decode cX6_bySets 78 = .ok (.if_icmp .ne 13, 3) := by decide +kernel
theorem dX6_bySets_81 : decode cX6_bySets 81 = .ok (.aload_n 0, 1) := by decide +kernel
theorem dX6_bySets_82 : decode cX6_bySets 82 = .ok (.iload 4, 2) := by decide +kernel
theorem dX6_bySets_84 : decode cX6_bySets 84 = .ok (.iload_n 2, 1) := by decide +kernel
theorem dX6_bySets_85 : decode cX6_bySets 85 = .ok (.invokevirtual 89, 3) := by decide +kernel
theorem dX6_bySets_88 : decode cX6_bySets 88 = .ok (.goto 4, 3) := by decide +kernel
theorem dX6_bySets_91 : decode cX6_bySets 91 = .ok (.iconst (-1), 1) := by decide +kernel
theorem dX6_bySets_92 : decode cX6_bySets 92 = .ok (.istore 5, 2) := by decide +kernel
theorem dX6_bySets_94 : decode cX6_bySets 94 = .ok (.iload 5, 2) := by decide +kernel
theorem dX6_bySets_96 : decode cX6_bySets 96 = .ok (.iconst (-1), 1) := by decide +kernel
theorem dX6_bySets_97 : decode cX6_bySets 97 = .ok (.if_icmp .eq 46, 3) := by decide +kernel
theorem dX6_bySets_100 : decode cX6_bySets 100 = .ok (.aload_n 0, 1) := by decide +kernel
theorem dX6_bySets_101 : decode cX6_bySets 101 = .ok (.getfield 21, 3) := by decide +kernel
theorem dX6_bySets_104 : decode cX6_bySets 104 = .ok (.iload_n 3, 1) := by decide +kernel
theorem dX6_bySets_105 : decode cX6_bySets 105 = .ok (.iconst 1, 1) := by decide +kernel
theorem dX6_bySets_106 : decode cX6_bySets 106 = .ok (.iload 4, 2) := by decide +kernel
theorem dX6_bySets_108 : decode cX6_bySets 108 = .ok (.ishl, 1) := by decide +kernel
theorem dX6_bySets_109 : decode cX6_bySets 109 = .ok (.isub, 1) := by decide +kernel
theorem dX6_bySets_110 : decode cX6_bySets 110 = .ok (.iaload, 1) := by decide +kernel
theorem dX6_bySets_111 : decode cX6_bySets 111 = .ok (.iload 5, 2) := by decide +kernel
theorem dX6_bySets_113 : decode cX6_bySets 113 = .ok (.iadd, 1) := by decide +kernel
theorem dX6_bySets_114 : decode cX6_bySets 114 = .ok (.aload_n 0, 1) := by decide +kernel
theorem dX6_bySets_115 : decode cX6_bySets 115 = .ok (.getfield 21, 3) := by decide +kernel
theorem dX6_bySets_118 : decode cX6_bySets 118 = .ok (.iload_n 1, 1) := by decide +kernel
theorem dX6_bySets_119 : decode cX6_bySets 119 = .ok (.iaload, 1) := by decide +kernel
theorem dX6_bySets_120 : decode cX6_bySets 120 = .ok (.if_icmp .ge 23, 3) := by decide +kernel
theorem dX6_bySets_123 : decode cX6_bySets 123 = .ok (.aload_n 0, 1) := by decide +kernel
theorem dX6_bySets_124 : decode cX6_bySets 124 = .ok (.getfield 21, 3) := by decide +kernel
theorem dX6_bySets_127 : decode cX6_bySets 127 = .ok (.iload_n 1, 1) := by decide +kernel
theorem dX6_bySets_128 : decode cX6_bySets 128 = .ok (.aload_n 0, 1) := by decide +kernel
theorem dX6_bySets_129 : decode cX6_bySets 129 = .ok (.getfield 21, 3) := by decide +kernel
theorem dX6_bySets_132 : decode cX6_bySets 132 = .ok (.iload_n 3, 1) := by decide +kernel
theorem dX6_bySets_133 : decode cX6_bySets 133 = .ok (.iconst 1, 1) := by decide +kernel
theorem dX6_bySets_134 : decode cX6_bySets 134 = .ok (.iload 4, 2) := by decide +kernel
theorem dX6_bySets_136 : decode cX6_bySets 136 = .ok (.ishl, 1) := by decide +kernel
theorem dX6_bySets_137 : decode cX6_bySets 137 = .ok (.isub, 1) := by decide +kernel
theorem dX6_bySets_138 : decode cX6_bySets 138 = .ok (.iaload, 1) := by decide +kernel
theorem dX6_bySets_139 : decode cX6_bySets 139 = .ok (.iload 5, 2) := by decide +kernel
theorem dX6_bySets_141 : decode cX6_bySets 141 = .ok (.iadd, 1) := by decide +kernel
theorem dX6_bySets_142 : decode cX6_bySets 142 = .ok (.iastore, 1) := by decide +kernel
theorem dX6_bySets_143 : decode cX6_bySets 143 = .ok (.iinc 4 1, 3) := by decide +kernel
theorem dX6_bySets_146 : decode cX6_bySets 146 = .ok (.goto (-81), 3) := by decide +kernel
theorem dX6_bySets_149 : decode cX6_bySets 149 = .ok (.iinc 1 1, 3) := by decide +kernel
theorem dX6_bySets_152 : decode cX6_bySets 152 = .ok (.goto (-143), 3) := by decide +kernel
theorem dX6_bySets_155 : decode cX6_bySets 155 = .ok (.aload_n 0, 1) := by decide +kernel
theorem dX6_bySets_156 : decode cX6_bySets 156 = .ok (.getfield 21, 3) := by decide +kernel
theorem dX6_bySets_159 : decode cX6_bySets 159 = .ok (.iconst 1, 1) := by decide +kernel
theorem dX6_bySets_160 : decode cX6_bySets 160 = .ok (.aload_n 0, 1) := by decide +kernel
theorem dX6_bySets_161 : decode cX6_bySets 161 = .ok (.getfield 7, 3) := by decide +kernel
theorem dX6_bySets_164 : decode cX6_bySets 164 = .ok (.bipush 20, 2) := by decide +kernel
theorem dX6_bySets_166 : decode cX6_bySets 166 = .ok (.iaload, 1) := by decide +kernel
theorem dX6_bySets_167 : decode cX6_bySets 167 = .ok (.ishl, 1) := by decide +kernel
theorem dX6_bySets_168 : decode cX6_bySets 168 = .ok (.iconst 1, 1) := by decide +kernel
theorem dX6_bySets_169 : decode cX6_bySets 169 = .ok (.isub, 1) := by decide +kernel
theorem dX6_bySets_170 : decode cX6_bySets 170 = .ok (.iaload, 1) := by decide +kernel
theorem dX6_bySets_171 : decode cX6_bySets 171 = .ok (.ireturn, 1) := by decide +kernel
theorem dX6_costOf_0 : decode cX6_costOf 0 = .ok (.iconst 0, 1) := by decide +kernel
theorem dX6_costOf_1 : decode cX6_costOf 1 = .ok (.istore_n 2, 1) := by decide +kernel
theorem dX6_costOf_2 : decode cX6_costOf 2 = .ok (.iconst 0, 1) := by decide +kernel
theorem dX6_costOf_3 : decode cX6_costOf 3 = .ok (.istore_n 3, 1) := by decide +kernel
theorem dX6_costOf_4 : decode cX6_costOf 4 = .ok (.iload_n 3, 1) := by decide +kernel
theorem dX6_costOf_5 : decode cX6_costOf 5 = .ok (.iload_n 1, 1) := by decide +kernel
theorem dX6_costOf_6 : decode cX6_costOf 6 = .ok (.if_icmp .ge 55, 3) := by decide +kernel
theorem dX6_costOf_9 : decode cX6_costOf 9 = .ok (.iload_n 2, 1) := by decide +kernel
theorem dX6_costOf_10 : decode cX6_costOf 10 = .ok (.aload_n 0, 1) := by decide +kernel
theorem dX6_costOf_11 : decode cX6_costOf 11 = .ok (.getfield 24, 3) := by decide +kernel
theorem dX6_costOf_14 : decode cX6_costOf 14 = .ok (.iload_n 3, 1) := by decide +kernel
theorem dX6_costOf_15 : decode cX6_costOf 15 = .ok (.iaload, 1) := by decide +kernel
theorem dX6_costOf_16 : decode cX6_costOf 16 = .ok (.iload_n 3, 1) := by decide +kernel
theorem dX6_costOf_17 : decode cX6_costOf 17 = .ok (.if_icmp .ne 11, 3) := by decide +kernel
theorem dX6_costOf_20 : decode cX6_costOf 20 = .ok (.aload_n 0, 1) := by decide +kernel
theorem dX6_costOf_21 : decode cX6_costOf 21 = .ok (.iload_n 3, 1) := by decide +kernel
theorem dX6_costOf_22 : decode cX6_costOf 22 = .ok (.invokevirtual 86, 3) := by decide +kernel
theorem dX6_costOf_25 : decode cX6_costOf 25 = .ok (.goto 28, 3) := by decide +kernel
theorem dX6_costOf_28 : decode cX6_costOf 28 = .ok (.aload_n 0, 1) := by decide +kernel
theorem dX6_costOf_29 : decode cX6_costOf 29 = .ok (.getfield 24, 3) := by decide +kernel
theorem dX6_costOf_32 : decode cX6_costOf 32 = .ok (.iload_n 3, 1) := by decide +kernel
theorem dX6_costOf_33 : decode cX6_costOf 33 = .ok (.iaload, 1) := by decide +kernel
theorem dX6_costOf_34 : decode cX6_costOf 34 = .ok (.iload_n 3, 1) := by decide +kernel
theorem dX6_costOf_35 : decode cX6_costOf 35 = .ok (.if_icmp .le 17, 3) := by decide +kernel
theorem dX6_costOf_38 : decode cX6_costOf 38 = .ok (.aload_n 0, 1) := by decide +kernel
theorem dX6_costOf_39 : decode cX6_costOf 39 = .ok (.iload_n 3, 1) := by decide +kernel
theorem dX6_costOf_40 : decode cX6_costOf 40 = .ok (.aload_n 0, 1) := by decide +kernel
theorem dX6_costOf_41 : decode cX6_costOf 41 = .ok (.getfield 24, 3) := by decide +kernel
theorem dX6_costOf_44 : decode cX6_costOf 44 = .ok (.iload_n 3, 1) := by decide +kernel
theorem dX6_costOf_45 : decode cX6_costOf 45 = .ok (.iaload, 1) := by decide +kernel
theorem dX6_costOf_46 : decode cX6_costOf 46 = .ok (.invokevirtual 89, 3) := by decide +kernel
theorem dX6_costOf_49 : decode cX6_costOf 49 = .ok (.goto 4, 3) := by decide +kernel
theorem dX6_costOf_52 : decode cX6_costOf 52 = .ok (.iconst 0, 1) := by decide +kernel
theorem dX6_costOf_53 : decode cX6_costOf 53 = .ok (.iadd, 1) := by decide +kernel
theorem dX6_costOf_54 : decode cX6_costOf 54 = .ok (.istore_n 2, 1) := by decide +kernel
theorem dX6_costOf_55 : decode cX6_costOf 55 = .ok (.iinc 3 1, 3) := by decide +kernel
theorem dX6_costOf_58 : decode cX6_costOf 58 = .ok (.goto (-54), 3) := by decide +kernel
theorem dX6_costOf_61 : decode cX6_costOf 61 = .ok (.iload_n 2, 1) := by decide +kernel
theorem dX6_costOf_62 : decode cX6_costOf 62 = .ok (.ireturn, 1) := by decide +kernel
theorem dX6_isFree_0 : decode cX6_isFree 0 = .ok (.iconst 1, 1) := by decide +kernel
theorem dX6_isFree_1 : decode cX6_isFree 1 = .ok (.istore_n 3, 1) := by decide +kernel
theorem dX6_isFree_2 : decode cX6_isFree 2 = .ok (.iconst 0, 1) := by decide +kernel
theorem dX6_isFree_3 : decode cX6_isFree 3 = .ok (.istore 4, 2) := by decide +kernel
theorem dX6_isFree_5 : decode cX6_isFree 5 = .ok (.iload 4, 2) := by decide +kernel
theorem dX6_isFree_7 : decode cX6_isFree 7 = .ok (.iload_n 2, 1) := by decide +kernel
theorem dX6_isFree_8 : decode cX6_isFree 8 = .ok (.if_icmp .ge 30, 3) := by decide +kernel
theorem dX6_isFree_11 : decode cX6_isFree 11 = .ok (.iload_n 3, 1) := by decide +kernel
theorem dX6_isFree_12 : decode cX6_isFree 12 = .ok (.ifCond .eq 18, 3) := by decide +kernel
theorem dX6_isFree_15 : decode cX6_isFree 15 = .ok (.aload_n 0, 1) := by decide +kernel
theorem dX6_isFree_16 : decode cX6_isFree 16 = .ok (.getfield 24, 3) := by decide +kernel
theorem dX6_isFree_19 : decode cX6_isFree 19 = .ok (.iload 4, 2) := by decide +kernel
theorem dX6_isFree_21 : decode cX6_isFree 21 = .ok (.iaload, 1) := by decide +kernel
theorem dX6_isFree_22 : decode cX6_isFree 22 = .ok (.iload_n 1, 1) := by decide +kernel
theorem dX6_isFree_23 : decode cX6_isFree 23 = .ok (.if_icmp .eq 7, 3) := by decide +kernel
theorem dX6_isFree_26 : decode cX6_isFree 26 = .ok (.iconst 1, 1) := by decide +kernel
theorem dX6_isFree_27 : decode cX6_isFree 27 = .ok (.goto 4, 3) := by decide +kernel
theorem dX6_isFree_30 : decode cX6_isFree 30 = .ok (.iconst 0, 1) := by decide +kernel
theorem dX6_isFree_31 : decode cX6_isFree 31 = .ok (.istore_n 3, 1) := by decide +kernel
theorem dX6_isFree_32 : decode cX6_isFree 32 = .ok (.iinc 4 1, 3) := by decide +kernel
theorem dX6_isFree_35 : decode cX6_isFree 35 = .ok (.goto (-30), 3) := by decide +kernel
theorem dX6_isFree_38 : decode cX6_isFree 38 = .ok (.iload_n 3, 1) := by decide +kernel
theorem dX6_isFree_39 : decode cX6_isFree 39 = .ok (.ireturn, 1) := by decide +kernel
theorem dX6_canHave_0 : decode cX6_canHave 0 = .ok (.iload_n 2, 1) := by decide +kernel
theorem dX6_canHave_1 : decode cX6_canHave 1 = .ok (.iload_n 1, 1) := by decide +kernel
theorem dX6_canHave_2 : decode cX6_canHave 2 = .ok (.if_icmp .ge 19, 3) := by decide +kernel
theorem dX6_canHave_5 : decode cX6_canHave 5 = .ok (.aload_n 0, 1) := by decide +kernel
theorem dX6_canHave_6 : decode cX6_canHave 6 = .ok (.getfield 24, 3) := by decide +kernel
theorem dX6_canHave_9 : decode cX6_canHave 9 = .ok (.iload_n 2, 1) := by decide +kernel
theorem dX6_canHave_10 : decode cX6_canHave 10 = .ok (.iaload, 1) := by decide +kernel
theorem dX6_canHave_11 : decode cX6_canHave 11 = .ok (.iload_n 1, 1) := by decide +kernel
theorem dX6_canHave_12 : decode cX6_canHave 12 = .ok (.if_icmp .ne 7, 3) := by decide +kernel
theorem dX6_canHave_15 : decode cX6_canHave 15 = .ok (.iconst 1, 1) := by decide +kernel
theorem dX6_canHave_16 : decode cX6_canHave 16 = .ok (.goto 4, 3) := by decide +kernel
theorem dX6_canHave_19 : decode cX6_canHave 19 = .ok (.iconst 0, 1) := by decide +kernel
theorem dX6_canHave_20 : decode cX6_canHave 20 = .ok (.ireturn, 1) := by decide +kernel
theorem dX6_canHave_21 : decode cX6_canHave 21 = .ok (.aload_n 0, 1) := by decide +kernel
theorem dX6_canHave_22 : decode cX6_canHave 22 = .ok (.iload_n 1, 1) := by decide +kernel
theorem dX6_canHave_23 : decode cX6_canHave 23 = .ok (.iload_n 1, 1) := by decide +kernel
theorem dX6_canHave_24 : decode cX6_canHave 24 = .ok (.invokevirtual 92, 3) := by decide +kernel
theorem dX6_canHave_27 : decode cX6_canHave 27 = .ok (.ifCond .eq 31, 3) := by decide +kernel
theorem dX6_canHave_30 : decode cX6_canHave 30 = .ok (.iload_n 2, 1) := by decide +kernel
theorem dX6_canHave_31 : decode cX6_canHave 31 = .ok (.iload_n 1, 1) := by decide +kernel
theorem dX6_canHave_32 : decode cX6_canHave 32 = .ok (.if_icmp .eq 22, 3) := by decide +kernel
theorem dX6_canHave_35 : decode cX6_canHave 35 = .ok (.aload_n 0, 1) := by decide +kernel
theorem dX6_canHave_36 : decode cX6_canHave 36 = .ok (.iload_n 2, 1) := by decide +kernel
theorem dX6_canHave_37 : decode cX6_canHave 37 = .ok (.iload_n 1, 1) := by decide +kernel
theorem dX6_canHave_38 : decode cX6_canHave 38 = .ok (.invokevirtual 92, 3) := by decide +kernel
theorem dX6_canHave_41 : decode cX6_canHave 41 = .ok (.ifCond .eq 17, 3) := by decide +kernel
theorem dX6_canHave_44 : decode cX6_canHave 44 = .ok (.aload_n 0, 1) := by decide +kernel
theorem dX6_canHave_45 : decode cX6_canHave 45 = .ok (.iload_n 1, 1) := by decide +kernel
theorem dX6_canHave_46 : decode cX6_canHave 46 = .ok (.iload_n 2, 1) := by decide +kernel
theorem dX6_canHave_47 : decode cX6_canHave 47 = .ok (.invokevirtual 89, 3) := by decide +kernel
theorem dX6_canHave_50 : decode cX6_canHave 50 = .ok (.iconst (-1), 1) := by decide +kernel
theorem dX6_canHave_51 : decode cX6_canHave 51 = .ok (.if_icmp .eq 7, 3) := by decide +kernel
theorem dX6_canHave_54 : decode cX6_canHave 54 = .ok (.iconst 1, 1) := by decide +kernel
theorem dX6_canHave_55 : decode cX6_canHave 55 = .ok (.goto 4, 3) := by decide +kernel
theorem dX6_canHave_58 : decode cX6_canHave 58 = .ok (.iconst 0, 1) := by decide +kernel
theorem dX6_canHave_59 : decode cX6_canHave 59 = .ok (.ireturn, 1) := by decide +kernel
theorem dX6_byTrying_0 : decode cX6_byTrying 0 = .ok (.aload_n 0, 1) := by decide +kernel
theorem dX6_byTrying_1 : decode cX6_byTrying 1 = .ok (.getfield 7, 3) := by decide +kernel
theorem dX6_byTrying_4 : decode cX6_byTrying 4 = .ok (.bipush 20, 2) := by decide +kernel
theorem dX6_byTrying_6 : decode cX6_byTrying 6 = .ok (.iaload, 1) := by decide +kernel
theorem dX6_byTrying_7 : decode cX6_byTrying 7 = .ok (.istore_n 1, 1) := by decide +kernel
theorem dX6_byTrying_8 : decode cX6_byTrying 8 = .ok (.iconst (-1), 1) := by decide +kernel
theorem dX6_byTrying_9 : decode cX6_byTrying 9 = .ok (.istore_n 2, 1) := by decide +kernel
theorem dX6_byTrying_10 : decode cX6_byTrying 10 = .ok (.iconst 0, 1) := by decide +kernel
theorem dX6_byTrying_11 : decode cX6_byTrying 11 = .ok (.istore_n 3, 1) := by decide +kernel
theorem dX6_byTrying_12 : decode cX6_byTrying 12 = .ok (.iconst 0, 1) := by decide +kernel
theorem dX6_byTrying_13 : decode cX6_byTrying 13 = .ok (.istore 4, 2) := by decide +kernel
theorem dX6_byTrying_15 : decode cX6_byTrying 15 = .ok (.iload 4, 2) := by decide +kernel
theorem dX6_byTrying_17 : decode cX6_byTrying 17 = .ok (.iload_n 1, 1) := by decide +kernel
theorem dX6_byTrying_18 : decode cX6_byTrying 18 = .ok (.if_icmp .ge 17, 3) := by decide +kernel
theorem dX6_byTrying_21 : decode cX6_byTrying 21 = .ok (.aload_n 0, 1) := by decide +kernel
theorem dX6_byTrying_22 : decode cX6_byTrying 22 = .ok (.getfield 24, 3) := by decide +kernel
theorem dX6_byTrying_25 : decode cX6_byTrying 25 = .ok (.iload 4, 2) := by decide +kernel
theorem dX6_byTrying_27 : decode cX6_byTrying 27 = .ok (.iconst (-1), 1) := by decide +kernel
theorem dX6_byTrying_28 : decode cX6_byTrying 28 = .ok (.iastore, 1) := by decide +kernel
theorem dX6_byTrying_29 : decode cX6_byTrying 29 = .ok (.iinc 4 1, 3) := by decide +kernel
theorem dX6_byTrying_32 : decode cX6_byTrying 32 = .ok (.goto (-17), 3) := by decide +kernel
theorem dX6_byTrying_35 : decode cX6_byTrying 35 = .ok (.iload_n 3, 1) := by decide +kernel
theorem dX6_byTrying_36 : decode cX6_byTrying 36 = .ok (.ifCond .lt 115, 3) := by decide +kernel
theorem dX6_byTrying_39 : decode cX6_byTrying 39 = .ok (.iload_n 3, 1) := by decide +kernel
theorem dX6_byTrying_40 : decode cX6_byTrying 40 = .ok (.iload_n 1, 1) := by decide +kernel
theorem dX6_byTrying_41 : decode cX6_byTrying 41 = .ok (.if_icmp .ne 34, 3) := by decide +kernel
theorem dX6_byTrying_44 : decode cX6_byTrying 44 = .ok (.aload_n 0, 1) := by decide +kernel
theorem dX6_byTrying_45 : decode cX6_byTrying 45 = .ok (.iload_n 1, 1) := by decide +kernel
theorem dX6_byTrying_46 : decode cX6_byTrying 46 = .ok (.invokevirtual 95, 3) := by decide +kernel
theorem dX6_byTrying_49 : decode cX6_byTrying 49 = .ok (.istore 4, 2) := by decide +kernel
theorem dX6_byTrying_51 : decode cX6_byTrying 51 = .ok (.iload_n 2, 1) := by decide +kernel
theorem dX6_byTrying_52 : decode cX6_byTrying 52 = .ok (.iconst (-1), 1) := by decide +kernel
theorem dX6_byTrying_53 : decode cX6_byTrying 53 = .ok (.if_icmp .eq 9, 3) := by decide +kernel
theorem dX6_byTrying_56 : decode cX6_byTrying 56 = .ok (.iload 4, 2) := by decide +kernel
theorem dX6_byTrying_58 : decode cX6_byTrying 58 = .ok (.iload_n 2, 1) := by decide +kernel
theorem dX6_byTrying_59 : decode cX6_byTrying 59 = .ok (.if_icmp .ge 8, 3) := by decide +kernel
theorem dX6_byTrying_62 : decode cX6_byTrying 62 = .ok (.iload 4, 2) := by decide +kernel
theorem dX6_byTrying_64 : decode cX6_byTrying 64 = .ok (.goto 4, 3) := by decide +kernel
theorem dX6_byTrying_67 : decode cX6_byTrying 67 = .ok (.iload_n 2, 1) := by decide +kernel
theorem dX6_byTrying_68 : decode cX6_byTrying 68 = .ok (.istore_n 2, 1) := by decide +kernel
theorem dX6_byTrying_69 : decode cX6_byTrying 69 = .ok (.iinc 3 (-1), 3) := by decide +kernel
theorem dX6_byTrying_72 : decode cX6_byTrying 72 = .ok (.goto (-37), 3) := by decide +kernel
theorem dX6_byTrying_75 : decode cX6_byTrying 75 = .ok (.aload_n 0, 1) := by decide +kernel
theorem dX6_byTrying_76 : decode cX6_byTrying 76 = .ok (.getfield 24, 3) := by decide +kernel
theorem dX6_byTrying_79 : decode cX6_byTrying 79 = .ok (.iload_n 3, 1) := by decide +kernel
theorem dX6_byTrying_80 : decode cX6_byTrying 80 = .ok (.dup2, 1) := by decide +kernel
theorem dX6_byTrying_81 : decode cX6_byTrying 81 = .ok (.iaload, 1) := by decide +kernel
theorem dX6_byTrying_82 : decode cX6_byTrying 82 = .ok (.iconst 1, 1) := by decide +kernel
theorem dX6_byTrying_83 : decode cX6_byTrying 83 = .ok (.iadd, 1) := by decide +kernel
theorem dX6_byTrying_84 : decode cX6_byTrying 84 = .ok (.iastore, 1) := by decide +kernel
theorem dX6_byTrying_85 : decode cX6_byTrying 85 = .ok (.aload_n 0, 1) := by decide +kernel
theorem dX6_byTrying_86 : decode cX6_byTrying 86 = .ok (.getfield 24, 3) := by decide +kernel
theorem dX6_byTrying_89 : decode cX6_byTrying 89 = .ok (.iload_n 3, 1) := by decide +kernel
theorem dX6_byTrying_90 : decode cX6_byTrying 90 = .ok (.iaload, 1) := by decide +kernel
theorem dX6_byTrying_91 : decode cX6_byTrying 91 = .ok (.iload_n 1, 1) := by decide +kernel
theorem dX6_byTrying_92 : decode cX6_byTrying 92 = .ok (.if_icmp .ge 30, 3) := by decide +kernel
theorem dX6_byTrying_95 : decode cX6_byTrying 95 = .ok (.aload_n 0, 1) := by decide +kernel
theorem dX6_byTrying_96 : decode cX6_byTrying 96 = .ok (.iload_n 3, 1) := by decide +kernel
theorem dX6_byTrying_97 : decode cX6_byTrying 97 = .ok (.aload_n 0, 1) := by decide +kernel
theorem dX6_byTrying_98 : decode cX6_byTrying 98 = .ok (.getfield 24, 3) := by decide +kernel
theorem dX6_byTrying_101 : decode cX6_byTrying 101 = .ok (.iload_n 3, 1) := by decide +kernel
theorem dX6_byTrying_102 : decode cX6_byTrying 102 = .ok (.iaload, 1) := by decide +kernel
theorem dX6_byTrying_103 : decode cX6_byTrying 103 = .ok (.invokevirtual 98, 3) := by decide +kernel
theorem dX6_byTrying_106 : decode cX6_byTrying 106 = .ok (.ifCond .ne 16, 3) := by decide +kernel
theorem dX6_byTrying_109 : decode cX6_byTrying 109 = .ok (.aload_n 0, 1) := by decide +kernel
theorem dX6_byTrying_110 : decode cX6_byTrying 110 = .ok (.getfield 24, 3) := by decide +kernel
theorem dX6_byTrying_113 : decode cX6_byTrying 113 = .ok (.iload_n 3, 1) := by decide +kernel
theorem dX6_byTrying_114 : decode cX6_byTrying 114 = .ok (.dup2, 1) := by decide +kernel
theorem dX6_byTrying_115 : decode cX6_byTrying 115 = .ok (.iaload, 1) := by decide +kernel
theorem dX6_byTrying_116 : decode cX6_byTrying 116 = .ok (.iconst 1, 1) := by decide +kernel
theorem dX6_byTrying_117 : decode cX6_byTrying 117 = .ok (.iadd, 1) := by decide +kernel
theorem dX6_byTrying_118 : decode cX6_byTrying 118 = .ok (.iastore, 1) := by decide +kernel
theorem dX6_byTrying_119 : decode cX6_byTrying 119 = .ok (.goto (-34), 3) := by decide +kernel
theorem dX6_byTrying_122 : decode cX6_byTrying 122 = .ok (.aload_n 0, 1) := by decide +kernel
theorem dX6_byTrying_123 : decode cX6_byTrying 123 = .ok (.getfield 24, 3) := by decide +kernel
theorem dX6_byTrying_126 : decode cX6_byTrying 126 = .ok (.iload_n 3, 1) := by decide +kernel
theorem dX6_byTrying_127 : decode cX6_byTrying 127 = .ok (.iaload, 1) := by decide +kernel
theorem dX6_byTrying_128 : decode cX6_byTrying 128 = .ok (.iload_n 1, 1) := by decide +kernel
theorem dX6_byTrying_129 : decode cX6_byTrying 129 = .ok (.if_icmp .ne 16, 3) := by decide +kernel
theorem dX6_byTrying_132 : decode cX6_byTrying 132 = .ok (.aload_n 0, 1) := by decide +kernel
theorem dX6_byTrying_133 : decode cX6_byTrying 133 = .ok (.getfield 24, 3) := by decide +kernel
theorem dX6_byTrying_136 : decode cX6_byTrying 136 = .ok (.iload_n 3, 1) := by decide +kernel
theorem dX6_byTrying_137 : decode cX6_byTrying 137 = .ok (.iconst (-1), 1) := by decide +kernel
theorem dX6_byTrying_138 : decode cX6_byTrying 138 = .ok (.iastore, 1) := by decide +kernel
theorem dX6_byTrying_139 : decode cX6_byTrying 139 = .ok (.iinc 3 (-1), 3) := by decide +kernel
theorem dX6_byTrying_142 : decode cX6_byTrying 142 = .ok (.goto (-107), 3) := by decide +kernel
theorem dX6_byTrying_145 : decode cX6_byTrying 145 = .ok (.iinc 3 1, 3) := by decide +kernel
theorem dX6_byTrying_148 : decode cX6_byTrying 148 = .ok (.goto (-113), 3) := by decide +kernel
theorem dX6_byTrying_151 : decode cX6_byTrying 151 = .ok (.iload_n 2, 1) := by decide +kernel
theorem dX6_byTrying_152 : decode cX6_byTrying 152 = .ok (.ireturn, 1) := by decide +kernel
theorem dX6_least_0 : decode cX6_least 0 = .ok (.iload_n 1, 1) := by decide +kernel
theorem dX6_least_1 : decode cX6_least 1 = .ok (.ifCond .ne 10, 3) := by decide +kernel
theorem dX6_least_4 : decode cX6_least 4 = .ok (.aload_n 0, 1) := by decide +kernel
theorem dX6_least_5 : decode cX6_least 5 = .ok (.invokevirtual 101, 3) := by decide +kernel
theorem dX6_least_8 : decode cX6_least 8 = .ok (.goto 7, 3) := by decide +kernel
theorem dX6_least_11 : decode cX6_least 11 = .ok (.aload_n 0, 1) := by decide +kernel
theorem dX6_least_12 : decode cX6_least 12 = .ok (.invokevirtual 105, 3) := by decide +kernel
theorem dX6_least_15 : decode cX6_least 15 = .ok (.ireturn, 1) := by decide +kernel
theorem dX6_comes_0 : decode cX6_comes 0 = .ok (.aload_n 0, 1) := by decide +kernel
theorem dX6_comes_1 : decode cX6_comes 1 = .ok (.getfield 7, 3) := by decide +kernel
theorem dX6_comes_4 : decode cX6_comes 4 = .ok (.bipush 20, 2) := by decide +kernel
theorem dX6_comes_6 : decode cX6_comes 6 = .ok (.iaload, 1) := by decide +kernel
theorem dX6_comes_7 : decode cX6_comes 7 = .ok (.bipush 7, 2) := by decide +kernel
theorem dX6_comes_9 : decode cX6_comes 9 = .ok (.if_icmp .ne 16, 3) := by decide +kernel
theorem dX6_comes_12 : decode cX6_comes 12 = .ok (.aload_n 0, 1) := by decide +kernel
theorem dX6_comes_13 : decode cX6_comes 13 = .ok (.getfield 7, 3) := by decide +kernel
theorem dX6_comes_16 : decode cX6_comes 16 = .ok (.bipush 74, 2) := by decide +kernel
theorem dX6_comes_18 : decode cX6_comes 18 = .ok (.dup2, 1) := by decide +kernel
theorem dX6_comes_19 : decode cX6_comes 19 = .ok (.iaload, 1) := by decide +kernel
theorem dX6_comes_20 : decode cX6_comes 20 = .ok (.iconst 1, 1) := by decide +kernel
theorem dX6_comes_21 : decode cX6_comes 21 = .ok (.iadd, 1) := by decide +kernel
theorem dX6_comes_22 : decode cX6_comes 22 = .ok (.iastore, 1) := by decide +kernel
theorem dX6_comes_23 : decode cX6_comes 23 = .ok (.iconst (-1), 1) := by decide +kernel
theorem dX6_comes_24 : decode cX6_comes 24 = .ok (.ireturn, 1) := by decide +kernel
theorem dX6_comes_25 : decode cX6_comes 25 = .ok (.aload_n 0, 1) := by decide +kernel
theorem dX6_comes_26 : decode cX6_comes 26 = .ok (.getfield 7, 3) := by decide +kernel
theorem dX6_comes_29 : decode cX6_comes 29 = .ok (.bipush 20, 2) := by decide +kernel
theorem dX6_comes_31 : decode cX6_comes 31 = .ok (.iaload, 1) := by decide +kernel
theorem dX6_comes_32 : decode cX6_comes 32 = .ok (.invokestatic 69, 3) := by decide +kernel
theorem dX6_comes_35 : decode cX6_comes 35 = .ok (.istore 7, 2) := by decide +kernel
theorem dX6_comes_37 : decode cX6_comes 37 = .ok (.aload_n 0, 1) := by decide +kernel
theorem dX6_comes_38 : decode cX6_comes 38 = .ok (.iload 7, 2) := by decide +kernel
theorem dX6_comes_40 : decode cX6_comes 40 = .ok (.iload_n 1, 1) := by decide +kernel
theorem dX6_comes_41 : decode cX6_comes 41 = .ok (.iload_n 2, 1) := by decide +kernel
theorem dX6_comes_42 : decode cX6_comes 42 = .ok (.iload_n 3, 1) := by decide +kernel
theorem dX6_comes_43 : decode cX6_comes 43 = .ok (.invokevirtual 72, 3) := by decide +kernel
theorem dX6_comes_46 : decode cX6_comes 46 = .ok (.aload_n 0, 1) := by decide +kernel
theorem dX6_comes_47 : decode cX6_comes 47 = .ok (.getfield 7, 3) := by decide +kernel
theorem dX6_comes_50 : decode cX6_comes 50 = .ok (.iload 7, 2) := by decide +kernel
theorem dX6_comes_52 : decode cX6_comes 52 = .ok (.iconst 3, 1) := by decide +kernel
theorem dX6_comes_53 : decode cX6_comes 53 = .ok (.iadd, 1) := by decide +kernel
theorem dX6_comes_54 : decode cX6_comes 54 = .ok (.iload 4, 2) := by decide +kernel
theorem dX6_comes_56 : decode cX6_comes 56 = .ok (.iastore, 1) := by decide +kernel
theorem dX6_comes_57 : decode cX6_comes 57 = .ok (.aload_n 0, 1) := by decide +kernel
theorem dX6_comes_58 : decode cX6_comes 58 = .ok (.getfield 7, 3) := by decide +kernel
theorem dX6_comes_61 : decode cX6_comes 61 = .ok (.iload 7, 2) := by decide +kernel
theorem dX6_comes_63 : decode cX6_comes 63 = .ok (.iconst 4, 1) := by decide +kernel
theorem dX6_comes_64 : decode cX6_comes 64 = .ok (.iadd, 1) := by decide +kernel
theorem dX6_comes_65 : decode cX6_comes 65 = .ok (.iload 5, 2) := by decide +kernel
theorem dX6_comes_67 : decode cX6_comes 67 = .ok (.iastore, 1) := by decide +kernel
theorem dX6_comes_68 : decode cX6_comes 68 = .ok (.aload_n 0, 1) := by decide +kernel
theorem dX6_comes_69 : decode cX6_comes 69 = .ok (.getfield 7, 3) := by decide +kernel
theorem dX6_comes_72 : decode cX6_comes 72 = .ok (.iload 7, 2) := by decide +kernel
theorem dX6_comes_74 : decode cX6_comes 74 = .ok (.iconst 5, 1) := by decide +kernel
theorem dX6_comes_75 : decode cX6_comes 75 = .ok (.iadd, 1) := by decide +kernel
theorem dX6_comes_76 : decode cX6_comes 76 = .ok (.iconst 0, 1) := by decide +kernel
theorem dX6_comes_77 : decode cX6_comes 77 = .ok (.iastore, 1) := by decide +kernel
theorem dX6_comes_78 : decode cX6_comes 78 = .ok (.aload_n 0, 1) := by decide +kernel
theorem dX6_comes_79 : decode cX6_comes 79 = .ok (.getfield 7, 3) := by decide +kernel
theorem dX6_comes_82 : decode cX6_comes 82 = .ok (.iload 7, 2) := by decide +kernel
theorem dX6_comes_84 : decode cX6_comes 84 = .ok (.bipush 6, 2) := by decide +kernel
theorem dX6_comes_86 : decode cX6_comes 86 = .ok (.iadd, 1) := by decide +kernel
theorem dX6_comes_87 : decode cX6_comes 87 = .ok (.iload 6, 2) := by decide +kernel
theorem dX6_comes_89 : decode cX6_comes 89 = .ok (.iastore, 1) := by decide +kernel
theorem dX6_comes_90 : decode cX6_comes 90 = .ok (.aload_n 0, 1) := by decide +kernel
theorem dX6_comes_91 : decode cX6_comes 91 = .ok (.getfield 7, 3) := by decide +kernel
theorem dX6_comes_94 : decode cX6_comes 94 = .ok (.bipush 20, 2) := by decide +kernel
theorem dX6_comes_96 : decode cX6_comes 96 = .ok (.dup2, 1) := by decide +kernel
theorem dX6_comes_97 : decode cX6_comes 97 = .ok (.iaload, 1) := by decide +kernel
theorem dX6_comes_98 : decode cX6_comes 98 = .ok (.iconst 1, 1) := by decide +kernel
theorem dX6_comes_99 : decode cX6_comes 99 = .ok (.iadd, 1) := by decide +kernel
theorem dX6_comes_100 : decode cX6_comes 100 = .ok (.iastore, 1) := by decide +kernel
theorem dX6_comes_101 : decode cX6_comes 101 = .ok (.aload_n 0, 1) := by decide +kernel
theorem dX6_comes_102 : decode cX6_comes 102 = .ok (.getfield 7, 3) := by decide +kernel
theorem dX6_comes_105 : decode cX6_comes 105 = .ok (.bipush 20, 2) := by decide +kernel
theorem dX6_comes_107 : decode cX6_comes 107 = .ok (.iaload, 1) := by decide +kernel
theorem dX6_comes_108 : decode cX6_comes 108 = .ok (.iconst 1, 1) := by decide +kernel
theorem dX6_comes_109 : decode cX6_comes 109 = .ok (.isub, 1) := by decide +kernel
theorem dX6_comes_110 : decode cX6_comes 110 = .ok (.ireturn, 1) := by decide +kernel
theorem dX6_isGone_0 : decode cX6_isGone 0 = .ok (.aload_n 0, 1) := by decide +kernel
theorem dX6_isGone_1 : decode cX6_isGone 1 = .ok (.getfield 7, 3) := by decide +kernel
theorem dX6_isGone_4 : decode cX6_isGone 4 = .ok (.bipush 20, 2) := by decide +kernel
theorem dX6_isGone_6 : decode cX6_isGone 6 = .ok (.dup2, 1) := by decide +kernel
theorem dX6_isGone_7 : decode cX6_isGone 7 = .ok (.iaload, 1) := by decide +kernel
theorem dX6_isGone_8 : decode cX6_isGone 8 = .ok (.iconst 1, 1) := by decide +kernel
theorem dX6_isGone_9 : decode cX6_isGone 9 = .ok (.isub, 1) := by decide +kernel
theorem dX6_isGone_10 : decode cX6_isGone 10 = .ok (.iastore, 1) := by decide +kernel
theorem dX6_isGone_11 : decode cX6_isGone 11 = .ok (.iload_n 1, 1) := by decide +kernel
theorem dX6_isGone_12 : decode cX6_isGone 12 = .ok (.invokestatic 69, 3) := by decide +kernel
theorem dX6_isGone_15 : decode cX6_isGone 15 = .ok (.istore_n 2, 1) := by decide +kernel
theorem dX6_isGone_16 : decode cX6_isGone 16 = .ok (.iload_n 2, 1) := by decide +kernel
theorem dX6_isGone_17 : decode cX6_isGone 17 = .ok (.aload_n 0, 1) := by decide +kernel
theorem dX6_isGone_18 : decode cX6_isGone 18 = .ok (.getfield 7, 3) := by decide +kernel
theorem dX6_isGone_21 : decode cX6_isGone 21 = .ok (.bipush 20, 2) := by decide +kernel
theorem dX6_isGone_23 : decode cX6_isGone 23 = .ok (.iaload, 1) := by decide +kernel
theorem dX6_isGone_24 : decode cX6_isGone 24 = .ok (.invokestatic 69, 3) := by decide +kernel
theorem dX6_isGone_27 : decode cX6_isGone 27 = .ok (.if_icmp .ge 24, 3) := by decide +kernel
theorem dX6_isGone_30 : decode cX6_isGone 30 = .ok (.aload_n 0, 1) := by decide +kernel
theorem dX6_isGone_31 : decode cX6_isGone 31 = .ok (.getfield 7, 3) := by decide +kernel
theorem dX6_isGone_34 : decode cX6_isGone 34 = .ok (.iload_n 2, 1) := by decide +kernel
theorem dX6_isGone_35 : decode cX6_isGone 35 = .ok (.aload_n 0, 1) := by decide +kernel
theorem dX6_isGone_36 : decode cX6_isGone 36 = .ok (.getfield 7, 3) := by decide +kernel
theorem dX6_isGone_39 : decode cX6_isGone 39 = .ok (.iload_n 2, 1) := by decide +kernel
theorem dX6_isGone_40 : decode cX6_isGone 40 = .ok (.bipush 7, 2) := by decide +kernel
theorem dX6_isGone_42 : decode cX6_isGone 42 = .ok (.iadd, 1) := by decide +kernel
theorem dX6_isGone_43 : decode cX6_isGone 43 = .ok (.iaload, 1) := by decide +kernel
theorem dX6_isGone_44 : decode cX6_isGone 44 = .ok (.iastore, 1) := by decide +kernel
theorem dX6_isGone_45 : decode cX6_isGone 45 = .ok (.iinc 2 1, 3) := by decide +kernel
theorem dX6_isGone_48 : decode cX6_isGone 48 = .ok (.goto (-32), 3) := by decide +kernel
theorem dX6_isGone_51 : decode cX6_isGone 51 = .ok (.return_, 1) := by decide +kernel
theorem dX6_isSide_0 : decode cX6_isSide 0 = .ok (.iload_n 0, 1) := by decide +kernel
theorem dX6_isSide_1 : decode cX6_isSide 1 = .ok (.iconst 1, 1) := by decide +kernel
theorem dX6_isSide_2 : decode cX6_isSide 2 = .ok (.bipush 60, 2) := by decide +kernel
theorem dX6_isSide_4 : decode cX6_isSide 4 = .ok (.invokestatic 41, 3) := by decide +kernel
theorem dX6_isSide_7 : decode cX6_isSide 7 = .ok (.ireturn, 1) := by decide +kernel
theorem dX6_bring_0 : decode cX6_bring 0 = .ok (.aload_n 0, 1) := by decide +kernel
theorem dX6_bring_1 : decode cX6_bring 1 = .ok (.iload_n 1, 1) := by decide +kernel
theorem dX6_bring_2 : decode cX6_bring 2 = .ok (.invokestatic 108, 3) := by decide +kernel
theorem dX6_bring_5 : decode cX6_bring 5 = .ok (.ifCond .eq 42, 3) := by decide +kernel
theorem dX6_bring_8 : decode cX6_bring 8 = .ok (.iload_n 2, 1) := by decide +kernel
theorem dX6_bring_9 : decode cX6_bring 9 = .ok (.invokestatic 108, 3) := by decide +kernel
theorem dX6_bring_12 : decode cX6_bring 12 = .ok (.ifCond .eq 35, 3) := by decide +kernel
theorem dX6_bring_15 : decode cX6_bring 15 = .ok (.iload_n 3, 1) := by decide +kernel
theorem dX6_bring_16 : decode cX6_bring 16 = .ok (.invokestatic 108, 3) := by decide +kernel
theorem dX6_bring_19 : decode cX6_bring 19 = .ok (.ifCond .eq 28, 3) := by decide +kernel
theorem dX6_bring_22 : decode cX6_bring 22 = .ok (.iload 4, 2) := by decide +kernel
theorem dX6_bring_24 : decode cX6_bring 24 = .ok (.iconst 1, 1) := by decide +kernel
theorem dX6_bring_25 : decode cX6_bring 25 = .ok (.bipush 99, 2) := by decide +kernel
theorem dX6_bring_27 : decode cX6_bring 27 = .ok (.invokestatic 41, 3) := by decide +kernel
theorem dX6_bring_30 : decode cX6_bring 30 = .ok (.ifCond .eq 17, 3) := by decide +kernel
theorem dX6_bring_33 : decode cX6_bring 33 = .ok (.iload 5, 2) := by decide +kernel
theorem dX6_bring_35 : decode cX6_bring 35 = .ok (.iconst 0, 1) := by decide +kernel
theorem dX6_bring_36 : decode cX6_bring 36 = .ok (.iconst 3, 1) := by decide +kernel
theorem dX6_bring_37 : decode cX6_bring 37 = .ok (.invokestatic 41, 3) := by decide +kernel
theorem dX6_bring_40 : decode cX6_bring 40 = .ok (.ifCond .eq 7, 3) := by decide +kernel
theorem dX6_bring_43 : decode cX6_bring 43 = .ok (.iconst 1, 1) := by decide +kernel
theorem dX6_bring_44 : decode cX6_bring 44 = .ok (.goto 4, 3) := by decide +kernel
theorem dX6_bring_47 : decode cX6_bring 47 = .ok (.iconst 0, 1) := by decide +kernel
theorem dX6_bring_48 : decode cX6_bring 48 = .ok (.iconst 1, 1) := by decide +kernel
theorem dX6_bring_49 : decode cX6_bring 49 = .ok (.invokevirtual 111, 3) := by decide +kernel
theorem dX6_bring_52 : decode cX6_bring 52 = .ok (.ifCond .ne 5, 3) := by decide +kernel
theorem dX6_bring_55 : decode cX6_bring 55 = .ok (.iconst 0, 1) := by decide +kernel
theorem dX6_bring_56 : decode cX6_bring 56 = .ok (.ireturn, 1) := by decide +kernel
theorem dX6_bring_57 : decode cX6_bring 57 = .ok (.aload_n 0, 1) := by decide +kernel
theorem dX6_bring_58 : decode cX6_bring 58 = .ok (.invokevirtual 38, 3) := by decide +kernel
theorem dX6_bring_61 : decode cX6_bring 61 = .ok (.aload_n 0, 1) := by decide +kernel
theorem dX6_bring_62 : decode cX6_bring 62 = .ok (.iload_n 1, 1) := by decide +kernel
theorem dX6_bring_63 : decode cX6_bring 63 = .ok (.iload_n 2, 1) := by decide +kernel
theorem dX6_bring_64 : decode cX6_bring 64 = .ok (.iload_n 3, 1) := by decide +kernel
theorem dX6_bring_65 : decode cX6_bring 65 = .ok (.iload 4, 2) := by decide +kernel
theorem dX6_bring_67 : decode cX6_bring 67 = .ok (.iload 5, 2) := by decide +kernel
theorem dX6_bring_69 : decode cX6_bring 69 = .ok (.iconst 0, 1) := by decide +kernel
theorem dX6_bring_70 : decode cX6_bring 70 = .ok (.invokevirtual 115, 3) := by decide +kernel
theorem dX6_bring_73 : decode cX6_bring 73 = .ok (.ireturn, 1) := by decide +kernel
theorem dX6_change_0 : decode cX6_change 0 = .ok (.aload_n 0, 1) := by decide +kernel
theorem dX6_change_1 : decode cX6_change 1 = .ok (.aload_n 0, 1) := by decide +kernel
theorem dX6_change_2 : decode cX6_change 2 = .ok (.iload_n 1, 1) := by decide +kernel
theorem dX6_change_3 : decode cX6_change 3 = .ok (.invokevirtual 119, 3) := by decide +kernel
theorem dX6_change_6 : decode cX6_change 6 = .ok (.iload_n 2, 1) := by decide +kernel
theorem dX6_change_7 : decode cX6_change 7 = .ok (.iconst 0, 1) := by decide +kernel
theorem dX6_change_8 : decode cX6_change 8 = .ok (.iconst 1, 1) := by decide +kernel
theorem dX6_change_9 : decode cX6_change 9 = .ok (.invokestatic 41, 3) := by decide +kernel
theorem dX6_change_12 : decode cX6_change 12 = .ok (.ifCond .eq 25, 3) := by decide +kernel
theorem dX6_change_15 : decode cX6_change 15 = .ok (.iload_n 3, 1) := by decide +kernel
theorem dX6_change_16 : decode cX6_change 16 = .ok (.iconst 0, 1) := by decide +kernel
theorem dX6_change_17 : decode cX6_change 17 = .ok (.iload_n 2, 1) := by decide +kernel
theorem dX6_change_18 : decode cX6_change 18 = .ok (.ifCond .ne 7, 3) := by decide +kernel
theorem dX6_change_21 : decode cX6_change 21 = .ok (.iconst 2, 1) := by decide +kernel
theorem dX6_change_22 : decode cX6_change 22 = .ok (.goto 5, 3) := by decide +kernel
theorem dX6_change_25 : decode cX6_change 25 = .ok (.bipush 8, 2) := by decide +kernel
theorem dX6_change_27 : decode cX6_change 27 = .ok (.invokestatic 41, 3) := by decide +kernel
theorem dX6_change_30 : decode cX6_change 30 = .ok (.ifCond .eq 7, 3) := by decide +kernel
theorem dX6_change_33 : decode cX6_change 33 = .ok (.iconst 1, 1) := by decide +kernel
theorem dX6_change_34 : decode cX6_change 34 = .ok (.goto 4, 3) := by decide +kernel
theorem dX6_change_37 : decode cX6_change 37 = .ok (.iconst 0, 1) := by decide +kernel
theorem dX6_change_38 : decode cX6_change 38 = .ok (.invokevirtual 111, 3) := by decide +kernel
theorem dX6_change_41 : decode cX6_change 41 = .ok (.ifCond .eq 26, 3) := by decide +kernel
theorem dX6_change_44 : decode cX6_change 44 = .ok (.aload_n 0, 1) := by decide +kernel
theorem dX6_change_45 : decode cX6_change 45 = .ok (.iload_n 1, 1) := by decide +kernel
theorem dX6_change_46 : decode cX6_change 46 = .ok (.invokestatic 69, 3) := by decide +kernel
theorem dX6_change_49 : decode cX6_change 49 = .ok (.iload_n 2, 1) := by decide +kernel
theorem dX6_change_50 : decode cX6_change 50 = .ok (.ifCond .ne 8, 3) := by decide +kernel
theorem dX6_change_53 : decode cX6_change 53 = .ok (.bipush 6, 2) := by decide +kernel
theorem dX6_change_55 : decode cX6_change 55 = .ok (.goto 4, 3) := by decide +kernel
theorem dX6_change_58 : decode cX6_change 58 = .ok (.iconst 5, 1) := by decide +kernel
theorem dX6_change_59 : decode cX6_change 59 = .ok (.iadd, 1) := by decide +kernel
theorem dX6_change_60 : decode cX6_change 60 = .ok (.iload_n 3, 1) := by decide +kernel
theorem dX6_change_61 : decode cX6_change 61 = .ok (.invokevirtual 122, 3) := by decide +kernel
theorem dX6_change_64 : decode cX6_change 64 = .ok (.goto 4, 3) := by decide +kernel
theorem dX6_change_67 : decode cX6_change 67 = .ok (.iconst 0, 1) := by decide +kernel
theorem dX6_change_68 : decode cX6_change 68 = .ok (.ireturn, 1) := by decide +kernel
theorem dX6_sends_0 : decode cX6_sends 0 = .ok (.aload_n 0, 1) := by decide +kernel
theorem dX6_sends_1 : decode cX6_sends 1 = .ok (.getfield 7, 3) := by decide +kernel
theorem dX6_sends_4 : decode cX6_sends 4 = .ok (.bipush 70, 2) := by decide +kernel
theorem dX6_sends_6 : decode cX6_sends 6 = .ok (.dup2, 1) := by decide +kernel
theorem dX6_sends_7 : decode cX6_sends 7 = .ok (.iaload, 1) := by decide +kernel
theorem dX6_sends_8 : decode cX6_sends 8 = .ok (.iload_n 2, 1) := by decide +kernel
theorem dX6_sends_9 : decode cX6_sends 9 = .ok (.iadd, 1) := by decide +kernel
theorem dX6_sends_10 : decode cX6_sends 10 = .ok (.iastore, 1) := by decide +kernel
theorem dX6_sends_11 : decode cX6_sends 11 = .ok (.aload_n 0, 1) := by decide +kernel
theorem dX6_sends_12 : decode cX6_sends 12 = .ok (.getfield 7, 3) := by decide +kernel
theorem dX6_sends_15 : decode cX6_sends 15 = .ok (.bipush 71, 2) := by decide +kernel
theorem dX6_sends_17 : decode cX6_sends 17 = .ok (.dup2, 1) := by decide +kernel
theorem dX6_sends_18 : decode cX6_sends 18 = .ok (.iaload, 1) := by decide +kernel
theorem dX6_sends_19 : decode cX6_sends 19 = .ok (.iconst 1, 1) := by decide +kernel
theorem dX6_sends_20 : decode cX6_sends 20 = .ok (.iadd, 1) := by decide +kernel
theorem dX6_sends_21 : decode cX6_sends 21 = .ok (.iastore, 1) := by decide +kernel
theorem dX6_sends_22 : decode cX6_sends 22 = .ok (.aload_n 0, 1) := by decide +kernel
theorem dX6_sends_23 : decode cX6_sends 23 = .ok (.iload_n 1, 1) := by decide +kernel
theorem dX6_sends_24 : decode cX6_sends 24 = .ok (.invokevirtual 125, 3) := by decide +kernel
theorem dX6_sends_27 : decode cX6_sends 27 = .ok (.bipush 10, 2) := by decide +kernel
theorem dX6_sends_29 : decode cX6_sends 29 = .ok (.iload_n 2, 1) := by decide +kernel
theorem dX6_sends_30 : decode cX6_sends 30 = .ok (.iadd, 1) := by decide +kernel
theorem dX6_sends_31 : decode cX6_sends 31 = .ok (.ireturn, 1) := by decide +kernel
theorem dX6_send_0 : decode cX6_send 0 = .ok (.aload_n 0, 1) := by decide +kernel
theorem dX6_send_1 : decode cX6_send 1 = .ok (.aload_n 0, 1) := by decide +kernel
theorem dX6_send_2 : decode cX6_send 2 = .ok (.iload_n 1, 1) := by decide +kernel
theorem dX6_send_3 : decode cX6_send 3 = .ok (.invokevirtual 119, 3) := by decide +kernel
theorem dX6_send_6 : decode cX6_send 6 = .ok (.iconst 1, 1) := by decide +kernel
theorem dX6_send_7 : decode cX6_send 7 = .ok (.invokevirtual 111, 3) := by decide +kernel
theorem dX6_send_10 : decode cX6_send 10 = .ok (.ifCond .ne 5, 3) := by decide +kernel
theorem dX6_send_13 : decode cX6_send 13 = .ok (.iconst 0, 1) := by decide +kernel
theorem dX6_send_14 : decode cX6_send 14 = .ok (.ireturn, 1) := by decide +kernel
theorem dX6_send_15 : decode cX6_send 15 = .ok (.aload_n 0, 1) := by decide +kernel
theorem dX6_send_16 : decode cX6_send 16 = .ok (.invokevirtual 38, 3) := by decide +kernel
theorem dX6_send_19 : decode cX6_send 19 = .ok (.aload_n 0, 1) := by decide +kernel
theorem dX6_send_20 : decode cX6_send 20 = .ok (.iload_n 1, 1) := by decide +kernel
theorem dX6_send_21 : decode cX6_send 21 = .ok (.invokestatic 69, 3) := by decide +kernel
theorem dX6_send_24 : decode cX6_send 24 = .ok (.invokevirtual 76, 3) := by decide +kernel
theorem dX6_send_27 : decode cX6_send 27 = .ok (.istore_n 2, 1) := by decide +kernel
theorem dX6_send_28 : decode cX6_send 28 = .ok (.aload_n 0, 1) := by decide +kernel
theorem dX6_send_29 : decode cX6_send 29 = .ok (.getfield 7, 3) := by decide +kernel
theorem dX6_send_32 : decode cX6_send 32 = .ok (.bipush 74, 2) := by decide +kernel
theorem dX6_send_34 : decode cX6_send 34 = .ok (.dup2, 1) := by decide +kernel
theorem dX6_send_35 : decode cX6_send 35 = .ok (.iaload, 1) := by decide +kernel
theorem dX6_send_36 : decode cX6_send 36 = .ok (.iload_n 2, 1) := by decide +kernel
theorem dX6_send_37 : decode cX6_send 37 = .ok (.ifCond .le 7, 3) := by decide +kernel
theorem dX6_send_40 : decode cX6_send 40 = .ok (.iconst 1, 1) := by decide +kernel
theorem dX6_send_41 : decode cX6_send 41 = .ok (.goto 4, 3) := by decide +kernel
theorem dX6_send_44 : decode cX6_send 44 = .ok (.iconst 0, 1) := by decide +kernel
theorem dX6_send_45 : decode cX6_send 45 = .ok (.iadd, 1) := by decide +kernel
theorem dX6_send_46 : decode cX6_send 46 = .ok (.iastore, 1) := by decide +kernel
theorem dX6_send_47 : decode cX6_send 47 = .ok (.iload_n 2, 1) := by decide +kernel
theorem dX6_send_48 : decode cX6_send 48 = .ok (.ifCond .le 7, 3) := by decide +kernel
theorem dX6_send_51 : decode cX6_send 51 = .ok (.iload_n 2, 1) := by decide +kernel
theorem dX6_send_52 : decode cX6_send 52 = .ok (.goto 16, 3) := by decide +kernel
theorem dX6_send_55 : decode cX6_send 55 = .ok (.aload_n 0, 1) := by decide +kernel
theorem dX6_send_56 : decode cX6_send 56 = .ok (.iload_n 1, 1) := by decide +kernel
theorem dX6_send_57 : decode cX6_send 57 = .ok (.aload_n 0, 1) := by decide +kernel
theorem dX6_send_58 : decode cX6_send 58 = .ok (.iload_n 1, 1) := by decide +kernel
theorem dX6_send_59 : decode cX6_send 59 = .ok (.invokestatic 69, 3) := by decide +kernel
theorem dX6_send_62 : decode cX6_send 62 = .ok (.invokevirtual 83, 3) := by decide +kernel
theorem dX6_send_65 : decode cX6_send 65 = .ok (.invokevirtual 129, 3) := by decide +kernel
theorem dX6_send_68 : decode cX6_send 68 = .ok (.ireturn, 1) := by decide +kernel
theorem dX6_dispute_0 : decode cX6_dispute 0 = .ok (.aload_n 0, 1) := by decide +kernel
theorem dX6_dispute_1 : decode cX6_dispute 1 = .ok (.aload_n 0, 1) := by decide +kernel
theorem dX6_dispute_2 : decode cX6_dispute 2 = .ok (.iload_n 1, 1) := by decide +kernel
theorem dX6_dispute_3 : decode cX6_dispute 3 = .ok (.invokevirtual 119, 3) := by decide +kernel
theorem dX6_dispute_6 : decode cX6_dispute 6 = .ok (.iload_n 2, 1) := by decide +kernel
theorem dX6_dispute_7 : decode cX6_dispute 7 = .ok (.iconst 1, 1) := by decide +kernel
theorem dX6_dispute_8 : decode cX6_dispute 8 = .ok (.sipush 999, 3) := by decide +kernel
theorem dX6_dispute_11 : decode cX6_dispute 11 = .ok (.invokestatic 41, 3) := by decide +kernel
theorem dX6_dispute_14 : decode cX6_dispute 14 = .ok (.invokevirtual 111, 3) := by decide +kernel
theorem dX6_dispute_17 : decode cX6_dispute 17 = .ok (.ifCond .ne 5, 3) := by decide +kernel
theorem dX6_dispute_20 : decode cX6_dispute 20 = .ok (.iconst 0, 1) := by decide +kernel
theorem dX6_dispute_21 : decode cX6_dispute 21 = .ok (.ireturn, 1) := by decide +kernel
theorem dX6_dispute_22 : decode cX6_dispute 22 = .ok (.aload_n 0, 1) := by decide +kernel
theorem dX6_dispute_23 : decode cX6_dispute 23 = .ok (.invokevirtual 38, 3) := by decide +kernel
theorem dX6_dispute_26 : decode cX6_dispute 26 = .ok (.aload_n 0, 1) := by decide +kernel
theorem dX6_dispute_27 : decode cX6_dispute 27 = .ok (.iload_n 1, 1) := by decide +kernel
theorem dX6_dispute_28 : decode cX6_dispute 28 = .ok (.invokestatic 69, 3) := by decide +kernel
theorem dX6_dispute_31 : decode cX6_dispute 31 = .ok (.invokevirtual 76, 3) := by decide +kernel
theorem dX6_dispute_34 : decode cX6_dispute 34 = .ok (.istore_n 3, 1) := by decide +kernel
theorem dX6_dispute_35 : decode cX6_dispute 35 = .ok (.iload_n 3, 1) := by decide +kernel
theorem dX6_dispute_36 : decode cX6_dispute 36 = .ok (.ifCond .le 16, 3) := by decide +kernel
theorem dX6_dispute_39 : decode cX6_dispute 39 = .ok (.aload_n 0, 1) := by decide +kernel
theorem dX6_dispute_40 : decode cX6_dispute 40 = .ok (.getfield 7, 3) := by decide +kernel
theorem dX6_dispute_43 : decode cX6_dispute 43 = .ok (.bipush 74, 2) := by decide +kernel
theorem dX6_dispute_45 : decode cX6_dispute 45 = .ok (.dup2, 1) := by decide +kernel
theorem dX6_dispute_46 : decode cX6_dispute 46 = .ok (.iaload, 1) := by decide +kernel
theorem dX6_dispute_47 : decode cX6_dispute 47 = .ok (.iconst 1, 1) := by decide +kernel
theorem dX6_dispute_48 : decode cX6_dispute 48 = .ok (.iadd, 1) := by decide +kernel
theorem dX6_dispute_49 : decode cX6_dispute 49 = .ok (.iastore, 1) := by decide +kernel
theorem dX6_dispute_50 : decode cX6_dispute 50 = .ok (.iload_n 3, 1) := by decide +kernel
theorem dX6_dispute_51 : decode cX6_dispute 51 = .ok (.ireturn, 1) := by decide +kernel
theorem dX6_dispute_52 : decode cX6_dispute 52 = .ok (.iload_n 2, 1) := by decide +kernel
theorem dX6_dispute_53 : decode cX6_dispute 53 = .ok (.aload_n 0, 1) := by decide +kernel
theorem dX6_dispute_54 : decode cX6_dispute 54 = .ok (.iload_n 1, 1) := by decide +kernel
theorem dX6_dispute_55 : decode cX6_dispute 55 = .ok (.invokestatic 69, 3) := by decide +kernel
theorem dX6_dispute_58 : decode cX6_dispute 58 = .ok (.invokevirtual 63, 3) := by decide +kernel
theorem dX6_dispute_61 : decode cX6_dispute 61 = .ok (.isub, 1) := by decide +kernel
theorem dX6_dispute_62 : decode cX6_dispute 62 = .ok (.istore 4, 2) := by decide +kernel
theorem dX6_dispute_64 : decode cX6_dispute 64 = .ok (.iload 4, 2) := by decide +kernel
theorem dX6_dispute_66 : decode cX6_dispute 66 = .ok (.aload_n 0, 1) := by decide +kernel
theorem dX6_dispute_67 : decode cX6_dispute 67 = .ok (.getfield 7, 3) := by decide +kernel
theorem dX6_dispute_70 : decode cX6_dispute 70 = .ok (.iconst 3, 1) := by decide +kernel
theorem dX6_dispute_71 : decode cX6_dispute 71 = .ok (.iaload, 1) := by decide +kernel
theorem dX6_dispute_72 : decode cX6_dispute 72 = .ok (.ineg, 1) := by decide +kernel
theorem dX6_dispute_73 : decode cX6_dispute 73 = .ok (.aload_n 0, 1) := by decide +kernel
theorem dX6_dispute_74 : decode cX6_dispute 74 = .ok (.getfield 7, 3) := by decide +kernel
theorem dX6_dispute_77 : decode cX6_dispute 77 = .ok (.iconst 3, 1) := by decide +kernel
theorem dX6_dispute_78 : decode cX6_dispute 78 = .ok (.iaload, 1) := by decide +kernel
theorem dX6_dispute_79 : decode cX6_dispute 79 = .ok (.invokestatic 41, 3) := by decide +kernel
theorem dX6_dispute_82 : decode cX6_dispute 82 = .ok (.ifCond .ne 16, 3) := by decide +kernel
theorem dX6_dispute_85 : decode cX6_dispute 85 = .ok (.aload_n 0, 1) := by decide +kernel
theorem dX6_dispute_86 : decode cX6_dispute 86 = .ok (.getfield 7, 3) := by decide +kernel
theorem dX6_dispute_89 : decode cX6_dispute 89 = .ok (.bipush 73, 2) := by decide +kernel
theorem dX6_dispute_91 : decode cX6_dispute 91 = .ok (.dup2, 1) := by decide +kernel
theorem dX6_dispute_92 : decode cX6_dispute 92 = .ok (.iaload, 1) := by decide +kernel
theorem dX6_dispute_93 : decode cX6_dispute 93 = .ok (.iconst 1, 1) := by decide +kernel
theorem dX6_dispute_94 : decode cX6_dispute 94 = .ok (.iadd, 1) := by decide +kernel
theorem dX6_dispute_95 : decode cX6_dispute 95 = .ok (.iastore, 1) := by decide +kernel
theorem dX6_dispute_96 : decode cX6_dispute 96 = .ok (.iconst 4, 1) := by decide +kernel
theorem dX6_dispute_97 : decode cX6_dispute 97 = .ok (.ireturn, 1) := by decide +kernel
theorem dX6_dispute_98 : decode cX6_dispute 98 = .ok (.aload_n 0, 1) := by decide +kernel
theorem dX6_dispute_99 : decode cX6_dispute 99 = .ok (.getfield 7, 3) := by decide +kernel
theorem dX6_dispute_102 : decode cX6_dispute 102 = .ok (.bipush 72, 2) := by decide +kernel
theorem dX6_dispute_104 : decode cX6_dispute 104 = .ok (.dup2, 1) := by decide +kernel
theorem dX6_dispute_105 : decode cX6_dispute 105 = .ok (.iaload, 1) := by decide +kernel
theorem dX6_dispute_106 : decode cX6_dispute 106 = .ok (.iconst 1, 1) := by decide +kernel
theorem dX6_dispute_107 : decode cX6_dispute 107 = .ok (.iadd, 1) := by decide +kernel
theorem dX6_dispute_108 : decode cX6_dispute 108 = .ok (.iastore, 1) := by decide +kernel
theorem dX6_dispute_109 : decode cX6_dispute 109 = .ok (.aload_n 0, 1) := by decide +kernel
theorem dX6_dispute_110 : decode cX6_dispute 110 = .ok (.iload_n 1, 1) := by decide +kernel
theorem dX6_dispute_111 : decode cX6_dispute 111 = .ok (.aload_n 0, 1) := by decide +kernel
theorem dX6_dispute_112 : decode cX6_dispute 112 = .ok (.iload_n 1, 1) := by decide +kernel
theorem dX6_dispute_113 : decode cX6_dispute 113 = .ok (.invokestatic 69, 3) := by decide +kernel
theorem dX6_dispute_116 : decode cX6_dispute 116 = .ok (.iload_n 2, 1) := by decide +kernel
theorem dX6_dispute_117 : decode cX6_dispute 117 = .ok (.invokevirtual 66, 3) := by decide +kernel
theorem dX6_dispute_120 : decode cX6_dispute 120 = .ok (.invokevirtual 129, 3) := by decide +kernel
theorem dX6_dispute_123 : decode cX6_dispute 123 = .ok (.ireturn, 1) := by decide +kernel
theorem dX6_takeBack_0 : decode cX6_takeBack 0 = .ok (.aload_n 0, 1) := by decide +kernel
theorem dX6_takeBack_1 : decode cX6_takeBack 1 = .ok (.aload_n 0, 1) := by decide +kernel
theorem dX6_takeBack_2 : decode cX6_takeBack 2 = .ok (.iload_n 1, 1) := by decide +kernel
theorem dX6_takeBack_3 : decode cX6_takeBack 3 = .ok (.invokevirtual 119, 3) := by decide +kernel
theorem dX6_takeBack_6 : decode cX6_takeBack 6 = .ok (.iconst 1, 1) := by decide +kernel
theorem dX6_takeBack_7 : decode cX6_takeBack 7 = .ok (.invokevirtual 111, 3) := by decide +kernel
theorem dX6_takeBack_10 : decode cX6_takeBack 10 = .ok (.ifCond .ne 5, 3) := by decide +kernel
theorem dX6_takeBack_13 : decode cX6_takeBack 13 = .ok (.iconst 0, 1) := by decide +kernel
theorem dX6_takeBack_14 : decode cX6_takeBack 14 = .ok (.ireturn, 1) := by decide +kernel
theorem dX6_takeBack_15 : decode cX6_takeBack 15 = .ok (.aload_n 0, 1) := by decide +kernel
theorem dX6_takeBack_16 : decode cX6_takeBack 16 = .ok (.invokevirtual 38, 3) := by decide +kernel
theorem dX6_takeBack_19 : decode cX6_takeBack 19 = .ok (.aload_n 0, 1) := by decide +kernel
theorem dX6_takeBack_20 : decode cX6_takeBack 20 = .ok (.iload_n 1, 1) := by decide +kernel
theorem dX6_takeBack_21 : decode cX6_takeBack 21 = .ok (.invokevirtual 125, 3) := by decide +kernel
theorem dX6_takeBack_24 : decode cX6_takeBack 24 = .ok (.aload_n 0, 1) := by decide +kernel
theorem dX6_takeBack_25 : decode cX6_takeBack 25 = .ok (.getfield 7, 3) := by decide +kernel
theorem dX6_takeBack_28 : decode cX6_takeBack 28 = .ok (.bipush 20, 2) := by decide +kernel
theorem dX6_takeBack_30 : decode cX6_takeBack 30 = .ok (.iaload, 1) := by decide +kernel
theorem dX6_takeBack_31 : decode cX6_takeBack 31 = .ok (.ireturn, 1) := by decide +kernel
theorem dX6_price_0 : decode cX6_price 0 = .ok (.aload_n 0, 1) := by decide +kernel
theorem dX6_price_1 : decode cX6_price 1 = .ok (.iload_n 1, 1) := by decide +kernel
theorem dX6_price_2 : decode cX6_price 2 = .ok (.iconst 0, 1) := by decide +kernel
theorem dX6_price_3 : decode cX6_price 3 = .ok (.bipush 11, 2) := by decide +kernel
theorem dX6_price_5 : decode cX6_price 5 = .ok (.invokestatic 41, 3) := by decide +kernel
theorem dX6_price_8 : decode cX6_price 8 = .ok (.iload_n 2, 1) := by decide +kernel
theorem dX6_price_9 : decode cX6_price 9 = .ok (.iconst 0, 1) := by decide +kernel
theorem dX6_price_10 : decode cX6_price 10 = .ok (.bipush 99, 2) := by decide +kernel
theorem dX6_price_12 : decode cX6_price 12 = .ok (.invokestatic 41, 3) := by decide +kernel
theorem dX6_price_15 : decode cX6_price 15 = .ok (.invokevirtual 111, 3) := by decide +kernel
theorem dX6_price_18 : decode cX6_price 18 = .ok (.ifCond .eq 14, 3) := by decide +kernel
theorem dX6_price_21 : decode cX6_price 21 = .ok (.aload_n 0, 1) := by decide +kernel
theorem dX6_price_22 : decode cX6_price 22 = .ok (.iconst 4, 1) := by decide +kernel
theorem dX6_price_23 : decode cX6_price 23 = .ok (.iload_n 1, 1) := by decide +kernel
theorem dX6_price_24 : decode cX6_price 24 = .ok (.iadd, 1) := by decide +kernel
theorem dX6_price_25 : decode cX6_price 25 = .ok (.iload_n 2, 1) := by decide +kernel
theorem dX6_price_26 : decode cX6_price 26 = .ok (.invokevirtual 122, 3) := by decide +kernel
theorem dX6_price_29 : decode cX6_price 29 = .ok (.goto 4, 3) := by decide +kernel
theorem dX6_price_32 : decode cX6_price 32 = .ok (.iconst 0, 1) := by decide +kernel
theorem dX6_price_33 : decode cX6_price 33 = .ok (.ireturn, 1) := by decide +kernel
theorem dX6_zone_0 : decode cX6_zone 0 = .ok (.aload_n 0, 1) := by decide +kernel
theorem dX6_zone_1 : decode cX6_zone 1 = .ok (.iload_n 1, 1) := by decide +kernel
theorem dX6_zone_2 : decode cX6_zone 2 = .ok (.iconst 0, 1) := by decide +kernel
theorem dX6_zone_3 : decode cX6_zone 3 = .ok (.iconst 3, 1) := by decide +kernel
theorem dX6_zone_4 : decode cX6_zone 4 = .ok (.invokestatic 41, 3) := by decide +kernel
theorem dX6_zone_7 : decode cX6_zone 7 = .ok (.iload_n 2, 1) := by decide +kernel
theorem dX6_zone_8 : decode cX6_zone 8 = .ok (.iconst 1, 1) := by decide +kernel
theorem dX6_zone_9 : decode cX6_zone 9 = .ok (.bipush 9, 2) := by decide +kernel
theorem dX6_zone_11 : decode cX6_zone 11 = .ok (.invokestatic 41, 3) := by decide +kernel
theorem dX6_zone_14 : decode cX6_zone 14 = .ok (.invokevirtual 111, 3) := by decide +kernel
theorem dX6_zone_17 : decode cX6_zone 17 = .ok (.ifCond .eq 15, 3) := by decide +kernel
theorem dX6_zone_20 : decode cX6_zone 20 = .ok (.aload_n 0, 1) := by decide +kernel
theorem dX6_zone_21 : decode cX6_zone 21 = .ok (.bipush 16, 2) := by decide +kernel
theorem dX6_zone_23 : decode cX6_zone 23 = .ok (.iload_n 1, 1) := by decide +kernel
theorem dX6_zone_24 : decode cX6_zone 24 = .ok (.iadd, 1) := by decide +kernel
theorem dX6_zone_25 : decode cX6_zone 25 = .ok (.iload_n 2, 1) := by decide +kernel
theorem dX6_zone_26 : decode cX6_zone 26 = .ok (.invokevirtual 122, 3) := by decide +kernel
theorem dX6_zone_29 : decode cX6_zone 29 = .ok (.goto 4, 3) := by decide +kernel
theorem dX6_zone_32 : decode cX6_zone 32 = .ok (.iconst 0, 1) := by decide +kernel
theorem dX6_zone_33 : decode cX6_zone 33 = .ok (.ireturn, 1) := by decide +kernel
theorem dX6_isValue_0 : decode cX6_isValue 0 = .ok (.iload_n 1, 1) := by decide +kernel
theorem dX6_isValue_1 : decode cX6_isValue 1 = .ok (.iload_n 0, 1) := by decide +kernel
theorem dX6_isValue_2 : decode cX6_isValue 2 = .ok (.iconst 1, 1) := by decide +kernel
theorem dX6_isValue_3 : decode cX6_isValue 3 = .ok (.if_icmp .ne 8, 3) := by decide +kernel
theorem dX6_isValue_6 : decode cX6_isValue 6 = .ok (.bipush 50, 2) := by decide +kernel
theorem dX6_isValue_8 : decode cX6_isValue 8 = .ok (.goto 4, 3) := by decide +kernel
theorem dX6_isValue_11 : decode cX6_isValue 11 = .ok (.iconst 0, 1) := by decide +kernel
theorem dX6_isValue_12 : decode cX6_isValue 12 = .ok (.iload_n 0, 1) := by decide +kernel
theorem dX6_isValue_13 : decode cX6_isValue 13 = .ok (.iconst 1, 1) := by decide +kernel
theorem dX6_isValue_14 : decode cX6_isValue 14 = .ok (.if_icmp .ne 9, 3) := by decide +kernel
theorem dX6_isValue_17 : decode cX6_isValue 17 = .ok (.sipush 300, 3) := by decide +kernel
theorem dX6_isValue_20 : decode cX6_isValue 20 = .ok (.goto 15, 3) := by decide +kernel
theorem dX6_isValue_23 : decode cX6_isValue 23 = .ok (.iload_n 0, 1) := by decide +kernel
theorem dX6_isValue_24 : decode cX6_isValue 24 = .ok (.iconst 3, 1) := by decide +kernel
theorem dX6_isValue_25 : decode cX6_isValue 25 = .ok (.if_icmp .ne 8, 3) := by decide +kernel
theorem dX6_isValue_28 : decode cX6_isValue 28 = .ok (.bipush 50, 2) := by decide +kernel
theorem dX6_isValue_30 : decode cX6_isValue 30 = .ok (.goto 5, 3) := by decide +kernel
theorem dX6_isValue_33 : decode cX6_isValue 33 = .ok (.bipush 20, 2) := by decide +kernel
theorem dX6_isValue_35 : decode cX6_isValue 35 = .ok (.invokestatic 41, 3) := by decide +kernel
theorem dX6_isValue_38 : decode cX6_isValue 38 = .ok (.ireturn, 1) := by decide +kernel
theorem dX6_set_0 : decode cX6_set 0 = .ok (.aload_n 0, 1) := by decide +kernel
theorem dX6_set_1 : decode cX6_set 1 = .ok (.iload_n 1, 1) := by decide +kernel
theorem dX6_set_2 : decode cX6_set 2 = .ok (.iconst 0, 1) := by decide +kernel
theorem dX6_set_3 : decode cX6_set 3 = .ok (.iconst 3, 1) := by decide +kernel
theorem dX6_set_4 : decode cX6_set 4 = .ok (.invokestatic 41, 3) := by decide +kernel
theorem dX6_set_7 : decode cX6_set 7 = .ok (.iload_n 1, 1) := by decide +kernel
theorem dX6_set_8 : decode cX6_set 8 = .ok (.iload_n 2, 1) := by decide +kernel
theorem dX6_set_9 : decode cX6_set 9 = .ok (.invokestatic 132, 3) := by decide +kernel
theorem dX6_set_12 : decode cX6_set 12 = .ok (.invokevirtual 111, 3) := by decide +kernel
theorem dX6_set_15 : decode cX6_set 15 = .ok (.ifCond .eq 12, 3) := by decide +kernel
theorem dX6_set_18 : decode cX6_set 18 = .ok (.aload_n 0, 1) := by decide +kernel
theorem dX6_set_19 : decode cX6_set 19 = .ok (.iload_n 1, 1) := by decide +kernel
theorem dX6_set_20 : decode cX6_set 20 = .ok (.iload_n 2, 1) := by decide +kernel
theorem dX6_set_21 : decode cX6_set 21 = .ok (.invokevirtual 122, 3) := by decide +kernel
theorem dX6_set_24 : decode cX6_set 24 = .ok (.goto 4, 3) := by decide +kernel
theorem dX6_set_27 : decode cX6_set 27 = .ok (.iconst 0, 1) := by decide +kernel
theorem dX6_set_28 : decode cX6_set 28 = .ok (.ireturn, 1) := by decide +kernel
theorem dX6_append_0 : decode cX6_append 0 = .ok (.aload_n 0, 1) := by decide +kernel
theorem dX6_append_1 : decode cX6_append 1 = .ok (.iload_n 1, 1) := by decide +kernel
theorem dX6_append_2 : decode cX6_append 2 = .ok (.bipush 33, 2) := by decide +kernel
theorem dX6_append_4 : decode cX6_append 4 = .ok (.bipush 126, 2) := by decide +kernel
theorem dX6_append_6 : decode cX6_append 6 = .ok (.invokestatic 41, 3) := by decide +kernel
theorem dX6_append_9 : decode cX6_append 9 = .ok (.aload_n 0, 1) := by decide +kernel
theorem dX6_append_10 : decode cX6_append 10 = .ok (.getfield 135, 3) := by decide +kernel
theorem dX6_append_13 : decode cX6_append 13 = .ok (.bipush 60, 2) := by decide +kernel
theorem dX6_append_15 : decode cX6_append 15 = .ok (.if_icmp .ge 7, 3) := by decide +kernel
theorem dX6_append_18 : decode cX6_append 18 = .ok (.iconst 1, 1) := by decide +kernel
theorem dX6_append_19 : decode cX6_append 19 = .ok (.goto 4, 3) := by decide +kernel
theorem dX6_append_22 : decode cX6_append 22 = .ok (.iconst 0, 1) := by decide +kernel
theorem dX6_append_23 : decode cX6_append 23 = .ok (.invokevirtual 111, 3) := by decide +kernel
theorem dX6_append_26 : decode cX6_append 26 = .ok (.ifCond .ne 5, 3) := by decide +kernel
theorem dX6_append_29 : decode cX6_append 29 = .ok (.iconst 0, 1) := by decide +kernel
theorem dX6_append_30 : decode cX6_append 30 = .ok (.ireturn, 1) := by decide +kernel
theorem dX6_append_31 : decode cX6_append 31 = .ok (.aload_n 0, 1) := by decide +kernel
theorem dX6_append_32 : decode cX6_append 32 = .ok (.getfield 17, 3) := by decide +kernel
theorem dX6_append_35 : decode cX6_append 35 = .ok (.aload_n 0, 1) := by decide +kernel
theorem dX6_append_36 : decode cX6_append 36 = .ok (.getfield 135, 3) := by decide +kernel
theorem dX6_append_39 : decode cX6_append 39 = .ok (.iload_n 1, 1) := by decide +kernel
theorem dX6_append_40 : decode cX6_append 40 = .ok (.i2c, 1) := by decide +kernel
theorem dX6_append_41 : decode cX6_append 41 = .ok (.castore, 1) := by decide +kernel
theorem dX6_append_42 : decode cX6_append 42 = .ok (.aload_n 0, 1) := by decide +kernel
theorem dX6_append_43 : decode cX6_append 43 = .ok (.dup, 1) := by decide +kernel
theorem dX6_append_44 : decode cX6_append 44 = .ok (.getfield 135, 3) := by decide +kernel
theorem dX6_append_47 : decode cX6_append 47 = .ok (.iconst 1, 1) := by decide +kernel
theorem dX6_append_48 : decode cX6_append 48 = .ok (.iadd, 1) := by decide +kernel
theorem dX6_append_49 : decode cX6_append 49 = .ok (.putfield 135, 3) := by decide +kernel
theorem dX6_append_52 : decode cX6_append 52 = .ok (.aload_n 0, 1) := by decide +kernel
theorem dX6_append_53 : decode cX6_append 53 = .ok (.getfield 135, 3) := by decide +kernel
theorem dX6_append_56 : decode cX6_append 56 = .ok (.ireturn, 1) := by decide +kernel
theorem dX6_clearBuffer_0 : decode cX6_clearBuffer 0 = .ok (.aload_n 0, 1) := by decide +kernel
theorem dX6_clearBuffer_1 : decode cX6_clearBuffer 1 = .ok (.iconst 0, 1) := by decide +kernel
theorem dX6_clearBuffer_2 : decode cX6_clearBuffer 2 = .ok (.putfield 27, 3) := by decide +kernel
theorem dX6_clearBuffer_5 : decode cX6_clearBuffer 5 = .ok (.aload_n 0, 1) := by decide +kernel
theorem dX6_clearBuffer_6 : decode cX6_clearBuffer 6 = .ok (.getfield 135, 3) := by decide +kernel
theorem dX6_clearBuffer_9 : decode cX6_clearBuffer 9 = .ok (.istore_n 1, 1) := by decide +kernel
theorem dX6_clearBuffer_10 : decode cX6_clearBuffer 10 = .ok (.aload_n 0, 1) := by decide +kernel
theorem dX6_clearBuffer_11 : decode cX6_clearBuffer 11 = .ok (.iconst 0, 1) := by decide +kernel
theorem dX6_clearBuffer_12 : decode cX6_clearBuffer 12 = .ok (.putfield 135, 3) := by decide +kernel
theorem dX6_clearBuffer_15 : decode cX6_clearBuffer 15 = .ok (.iload_n 1, 1) := by decide +kernel
theorem dX6_clearBuffer_16 : decode cX6_clearBuffer 16 = .ok (.ireturn, 1) := by decide +kernel
theorem dX6_isHere_0 : decode cX6_isHere 0 = .ok (.aload_n 0, 1) := by decide +kernel
theorem dX6_isHere_1 : decode cX6_isHere 1 = .ok (.getfield 138, 3) := by decide +kernel
theorem dX6_isHere_4 : decode cX6_isHere 4 = .ok (.aload_n 0, 1) := by decide +kernel
theorem dX6_isHere_5 : decode cX6_isHere 5 = .ok (.getfield 135, 3) := by decide +kernel
theorem dX6_isHere_8 : decode cX6_isHere 8 = .ok (.if_icmp .ge 24, 3) := by decide +kernel
theorem dX6_isHere_11 : decode cX6_isHere 11 = .ok (.aload_n 0, 1) := by decide +kernel
theorem dX6_isHere_12 : decode cX6_isHere 12 = .ok (.getfield 17, 3) := by decide +kernel
theorem dX6_isHere_15 : decode cX6_isHere 15 = .ok (.aload_n 0, 1) := by decide +kernel
theorem dX6_isHere_16 : decode cX6_isHere 16 = .ok (.getfield 138, 3) := by decide +kernel
theorem dX6_isHere_19 : decode cX6_isHere 19 = .ok (.caload, 1) := by decide +kernel
theorem dX6_isHere_20 : decode cX6_isHere 20 = .ok (.iload_n 1, 1) := by decide +kernel
theorem dX6_isHere_21 : decode cX6_isHere 21 = .ok (.iload_n 2, 1) := by decide +kernel
theorem dX6_isHere_22 : decode cX6_isHere 22 = .ok (.invokestatic 41, 3) := by decide +kernel
theorem dX6_isHere_25 : decode cX6_isHere 25 = .ok (.ifCond .eq 7, 3) := by decide +kernel
theorem dX6_isHere_28 : decode cX6_isHere 28 = .ok (.iconst 1, 1) := by decide +kernel
theorem dX6_isHere_29 : decode cX6_isHere 29 = .ok (.goto 4, 3) := by decide +kernel
theorem dX6_isHere_32 : decode cX6_isHere 32 = .ok (.iconst 0, 1) := by decide +kernel
theorem dX6_isHere_33 : decode cX6_isHere 33 = .ok (.ireturn, 1) := by decide +kernel
theorem dX6_takes_0 : decode cX6_takes 0 = .ok (.aload_n 0, 1) := by decide +kernel
theorem dX6_takes_1 : decode cX6_takes 1 = .ok (.iload_n 1, 1) := by decide +kernel
theorem dX6_takes_2 : decode cX6_takes 2 = .ok (.iload_n 1, 1) := by decide +kernel
theorem dX6_takes_3 : decode cX6_takes 3 = .ok (.invokevirtual 141, 3) := by decide +kernel
theorem dX6_takes_6 : decode cX6_takes 6 = .ok (.istore_n 2, 1) := by decide +kernel
theorem dX6_takes_7 : decode cX6_takes 7 = .ok (.aload_n 0, 1) := by decide +kernel
theorem dX6_takes_8 : decode cX6_takes 8 = .ok (.dup, 1) := by decide +kernel
theorem dX6_takes_9 : decode cX6_takes 9 = .ok (.getfield 138, 3) := by decide +kernel
theorem dX6_takes_12 : decode cX6_takes 12 = .ok (.iload_n 2, 1) := by decide +kernel
theorem dX6_takes_13 : decode cX6_takes 13 = .ok (.ifCond .eq 7, 3) := by decide +kernel
theorem dX6_takes_16 : decode cX6_takes 16 = .ok (.iconst 1, 1) := by decide +kernel
theorem dX6_takes_17 : decode cX6_takes 17 = .ok (.goto 4, 3) := by decide +kernel
theorem dX6_takes_20 : decode cX6_takes 20 = .ok (.iconst 0, 1) := by decide +kernel
theorem dX6_takes_21 : decode cX6_takes 21 = .ok (.iadd, 1) := by decide +kernel
theorem dX6_takes_22 : decode cX6_takes 22 = .ok (.putfield 138, 3) := by decide +kernel
theorem dX6_takes_25 : decode cX6_takes 25 = .ok (.iload_n 2, 1) := by decide +kernel
theorem dX6_takes_26 : decode cX6_takes 26 = .ok (.ireturn, 1) := by decide +kernel
theorem dX6_number_0 : decode cX6_number 0 = .ok (.aload_n 0, 1) := by decide +kernel
theorem dX6_number_1 : decode cX6_number 1 = .ok (.bipush 49, 2) := by decide +kernel
theorem dX6_number_3 : decode cX6_number 3 = .ok (.bipush 57, 2) := by decide +kernel
theorem dX6_number_5 : decode cX6_number 5 = .ok (.invokevirtual 141, 3) := by decide +kernel
theorem dX6_number_8 : decode cX6_number 8 = .ok (.ifCond .eq 18, 3) := by decide +kernel
theorem dX6_number_11 : decode cX6_number 11 = .ok (.aload_n 0, 1) := by decide +kernel
theorem dX6_number_12 : decode cX6_number 12 = .ok (.getfield 17, 3) := by decide +kernel
theorem dX6_number_15 : decode cX6_number 15 = .ok (.aload_n 0, 1) := by decide +kernel
theorem dX6_number_16 : decode cX6_number 16 = .ok (.getfield 138, 3) := by decide +kernel
theorem dX6_number_19 : decode cX6_number 19 = .ok (.caload, 1) := by decide +kernel
theorem dX6_number_20 : decode cX6_number 20 = .ok (.bipush 48, 2) := by decide +kernel
theorem dX6_number_22 : decode cX6_number 22 = .ok (.isub, 1) := by decide +kernel
theorem dX6_number_23 : decode cX6_number 23 = .ok (.goto 4, 3) := by decide +kernel
theorem dX6_number_26 : decode cX6_number 26 = .ok (.iconst (-1), 1) := by decide +kernel
theorem dX6_number_27 : decode cX6_number 27 = .ok (.istore_n 2, 1) := by decide +kernel
theorem dX6_number_28 : decode cX6_number 28 = .ok (.aload_n 0, 1) := by decide +kernel
end
section
theorem dX6_number_29 : decode cX6_number 29 = .ok (.dup, 1) := by decide +kernel
theorem dX6_number_30 : decode cX6_number 30 = .ok (.getfield 138, 3) := by decide +kernel
theorem dX6_number_33 : decode cX6_number 33 = .ok (.iload_n 2, 1) := by decide +kernel
theorem dX6_number_34 : decode cX6_number 34 = .ok (.iconst (-1), 1) := by decide +kernel
theorem dX6_number_35 : decode cX6_number 35 = .ok (.if_icmp .ne 7, 3) := by decide +kernel
theorem dX6_number_38 : decode cX6_number 38 = .ok (.iconst 0, 1) := by decide +kernel
theorem dX6_number_39 : decode cX6_number 39 = .ok (.goto 4, 3) := by decide +kernel
theorem dX6_number_42 : decode cX6_number 42 = .ok (.iconst 1, 1) := by decide +kernel
theorem dX6_number_43 : decode cX6_number 43 = .ok (.iadd, 1) := by decide +kernel
theorem dX6_number_44 : decode cX6_number 44 = .ok (.putfield 138, 3) := by decide +kernel
theorem dX6_number_47 : decode cX6_number 47 = .ok (.iload_n 2, 1) := by decide +kernel
theorem dX6_number_48 : decode cX6_number 48 = .ok (.iconst (-1), 1) := by decide +kernel
theorem dX6_number_49 : decode cX6_number 49 = .ok (.if_icmp .eq 63, 3) := by decide +kernel
theorem dX6_number_52 : decode cX6_number 52 = .ok (.aload_n 0, 1) := by decide +kernel
theorem dX6_number_53 : decode cX6_number 53 = .ok (.bipush 48, 2) := by decide +kernel
theorem dX6_number_55 : decode cX6_number 55 = .ok (.bipush 57, 2) := by decide +kernel
theorem dX6_number_57 : decode cX6_number 57 = .ok (.invokevirtual 141, 3) := by decide +kernel
theorem dX6_number_60 : decode cX6_number 60 = .ok (.ifCond .eq 52, 3) := by decide +kernel
theorem dX6_number_63 : decode cX6_number 63 = .ok (.bipush 10, 2) := by decide +kernel
theorem dX6_number_65 : decode cX6_number 65 = .ok (.iload_n 2, 1) := by decide +kernel
theorem dX6_number_66 : decode cX6_number 66 = .ok (.imul, 1) := by decide +kernel
theorem dX6_number_67 : decode cX6_number 67 = .ok (.aload_n 0, 1) := by decide +kernel
theorem dX6_number_68 : decode cX6_number 68 = .ok (.getfield 17, 3) := by decide +kernel
theorem dX6_number_71 : decode cX6_number 71 = .ok (.aload_n 0, 1) := by decide +kernel
theorem dX6_number_72 : decode cX6_number 72 = .ok (.getfield 138, 3) := by decide +kernel
theorem dX6_number_75 : decode cX6_number 75 = .ok (.caload, 1) := by decide +kernel
theorem dX6_number_76 : decode cX6_number 76 = .ok (.iadd, 1) := by decide +kernel
theorem dX6_number_77 : decode cX6_number 77 = .ok (.bipush 48, 2) := by decide +kernel
theorem dX6_number_79 : decode cX6_number 79 = .ok (.isub, 1) := by decide +kernel
theorem dX6_number_80 : decode cX6_number 80 = .ok (.iload_n 1, 1) := by decide +kernel
theorem dX6_number_81 : decode cX6_number 81 = .ok (.if_icmp .gt 31, 3) := by decide +kernel
theorem dX6_number_84 : decode cX6_number 84 = .ok (.bipush 10, 2) := by decide +kernel
theorem dX6_number_86 : decode cX6_number 86 = .ok (.iload_n 2, 1) := by decide +kernel
theorem dX6_number_87 : decode cX6_number 87 = .ok (.imul, 1) := by decide +kernel
theorem dX6_number_88 : decode cX6_number 88 = .ok (.aload_n 0, 1) := by decide +kernel
theorem dX6_number_89 : decode cX6_number 89 = .ok (.getfield 17, 3) := by decide +kernel
theorem dX6_number_92 : decode cX6_number 92 = .ok (.aload_n 0, 1) := by decide +kernel
theorem dX6_number_93 : decode cX6_number 93 = .ok (.getfield 138, 3) := by decide +kernel
theorem dX6_number_96 : decode cX6_number 96 = .ok (.caload, 1) := by decide +kernel
theorem dX6_number_97 : decode cX6_number 97 = .ok (.iadd, 1) := by decide +kernel
theorem dX6_number_98 : decode cX6_number 98 = .ok (.bipush 48, 2) := by decide +kernel
theorem dX6_number_100 : decode cX6_number 100 = .ok (.isub, 1) := by decide +kernel
theorem dX6_number_101 : decode cX6_number 101 = .ok (.istore_n 2, 1) := by decide +kernel
theorem dX6_number_102 : decode cX6_number 102 = .ok (.aload_n 0, 1) := by decide +kernel
theorem dX6_number_103 : decode cX6_number 103 = .ok (.dup, 1) := by decide +kernel
theorem dX6_number_104 : decode cX6_number 104 = .ok (.getfield 138, 3) := by decide +kernel
theorem dX6_number_107 : decode cX6_number 107 = .ok (.iconst 1, 1) := by decide +kernel
theorem dX6_number_108 : decode cX6_number 108 = .ok (.iadd, 1) := by decide +kernel
theorem dX6_number_109 : decode cX6_number 109 = .ok (.putfield 138, 3) := by decide +kernel
theorem dX6_number_112 : decode cX6_number 112 = .ok (.iload_n 2, 1) := by decide +kernel
theorem dX6_number_113 : decode cX6_number 113 = .ok (.ireturn, 1) := by decide +kernel
theorem dX6_readsParcel_0 : decode cX6_readsParcel 0 = .ok (.iconst 0, 1) := by decide +kernel
theorem dX6_readsParcel_1 : decode cX6_readsParcel 1 = .ok (.istore_n 1, 1) := by decide +kernel
theorem dX6_readsParcel_2 : decode cX6_readsParcel 2 = .ok (.iload_n 1, 1) := by decide +kernel
theorem dX6_readsParcel_3 : decode cX6_readsParcel 3 = .ok (.iconst 4, 1) := by decide +kernel
theorem dX6_readsParcel_4 : decode cX6_readsParcel 4 = .ok (.if_icmp .ge 76, 3) := by decide +kernel
theorem dX6_readsParcel_7 : decode cX6_readsParcel 7 = .ok (.iload_n 1, 1) := by decide +kernel
theorem dX6_readsParcel_8 : decode cX6_readsParcel 8 = .ok (.ifCond .le 24, 3) := by decide +kernel
theorem dX6_readsParcel_11 : decode cX6_readsParcel 11 = .ok (.aload_n 0, 1) := by decide +kernel
theorem dX6_readsParcel_12 : decode cX6_readsParcel 12 = .ok (.iload_n 1, 1) := by decide +kernel
theorem dX6_readsParcel_13 : decode cX6_readsParcel 13 = .ok (.iconst 3, 1) := by decide +kernel
theorem dX6_readsParcel_14 : decode cX6_readsParcel 14 = .ok (.if_icmp .ge 8, 3) := by decide +kernel
theorem dX6_readsParcel_17 : decode cX6_readsParcel 17 = .ok (.bipush 120, 2) := by decide +kernel
theorem dX6_readsParcel_19 : decode cX6_readsParcel 19 = .ok (.goto 5, 3) := by decide +kernel
theorem dX6_readsParcel_22 : decode cX6_readsParcel 22 = .ok (.bipush 42, 2) := by decide +kernel
theorem dX6_readsParcel_24 : decode cX6_readsParcel 24 = .ok (.invokevirtual 145, 3) := by decide +kernel
theorem dX6_readsParcel_27 : decode cX6_readsParcel 27 = .ok (.ifCond .ne 5, 3) := by decide +kernel
theorem dX6_readsParcel_30 : decode cX6_readsParcel 30 = .ok (.iconst 0, 1) := by decide +kernel
theorem dX6_readsParcel_31 : decode cX6_readsParcel 31 = .ok (.ireturn, 1) := by decide +kernel
theorem dX6_readsParcel_32 : decode cX6_readsParcel 32 = .ok (.aload_n 0, 1) := by decide +kernel
theorem dX6_readsParcel_33 : decode cX6_readsParcel 33 = .ok (.getfield 7, 3) := by decide +kernel
theorem dX6_readsParcel_36 : decode cX6_readsParcel 36 = .ok (.sipush 675, 3) := by decide +kernel
theorem dX6_readsParcel_39 : decode cX6_readsParcel 39 = .ok (.iload_n 1, 1) := by decide +kernel
theorem dX6_readsParcel_40 : decode cX6_readsParcel 40 = .ok (.iadd, 1) := by decide +kernel
theorem dX6_readsParcel_41 : decode cX6_readsParcel 41 = .ok (.aload_n 0, 1) := by decide +kernel
theorem dX6_readsParcel_42 : decode cX6_readsParcel 42 = .ok (.iload_n 1, 1) := by decide +kernel
theorem dX6_readsParcel_43 : decode cX6_readsParcel 43 = .ok (.iconst 3, 1) := by decide +kernel
theorem dX6_readsParcel_44 : decode cX6_readsParcel 44 = .ok (.if_icmp .ge 8, 3) := by decide +kernel
theorem dX6_readsParcel_47 : decode cX6_readsParcel 47 = .ok (.bipush 60, 2) := by decide +kernel
theorem dX6_readsParcel_49 : decode cX6_readsParcel 49 = .ok (.goto 5, 3) := by decide +kernel
theorem dX6_readsParcel_52 : decode cX6_readsParcel 52 = .ok (.bipush 99, 2) := by decide +kernel
theorem dX6_readsParcel_54 : decode cX6_readsParcel 54 = .ok (.invokevirtual 149, 3) := by decide +kernel
theorem dX6_readsParcel_57 : decode cX6_readsParcel 57 = .ok (.iastore, 1) := by decide +kernel
theorem dX6_readsParcel_58 : decode cX6_readsParcel 58 = .ok (.aload_n 0, 1) := by decide +kernel
theorem dX6_readsParcel_59 : decode cX6_readsParcel 59 = .ok (.getfield 7, 3) := by decide +kernel
theorem dX6_readsParcel_62 : decode cX6_readsParcel 62 = .ok (.sipush 675, 3) := by decide +kernel
theorem dX6_readsParcel_65 : decode cX6_readsParcel 65 = .ok (.iload_n 1, 1) := by decide +kernel
theorem dX6_readsParcel_66 : decode cX6_readsParcel 66 = .ok (.iadd, 1) := by decide +kernel
theorem dX6_readsParcel_67 : decode cX6_readsParcel 67 = .ok (.iaload, 1) := by decide +kernel
theorem dX6_readsParcel_68 : decode cX6_readsParcel 68 = .ok (.iconst (-1), 1) := by decide +kernel
theorem dX6_readsParcel_69 : decode cX6_readsParcel 69 = .ok (.if_icmp .ne 5, 3) := by decide +kernel
theorem dX6_readsParcel_72 : decode cX6_readsParcel 72 = .ok (.iconst 0, 1) := by decide +kernel
theorem dX6_readsParcel_73 : decode cX6_readsParcel 73 = .ok (.ireturn, 1) := by decide +kernel
theorem dX6_readsParcel_74 : decode cX6_readsParcel 74 = .ok (.iinc 1 1, 3) := by decide +kernel
theorem dX6_readsParcel_77 : decode cX6_readsParcel 77 = .ok (.goto (-75), 3) := by decide +kernel
theorem dX6_readsParcel_80 : decode cX6_readsParcel 80 = .ok (.aload_n 0, 1) := by decide +kernel
theorem dX6_readsParcel_81 : decode cX6_readsParcel 81 = .ok (.bipush 122, 2) := by decide +kernel
theorem dX6_readsParcel_83 : decode cX6_readsParcel 83 = .ok (.invokevirtual 145, 3) := by decide +kernel
theorem dX6_readsParcel_86 : decode cX6_readsParcel 86 = .ok (.ifCond .eq 14, 3) := by decide +kernel
theorem dX6_readsParcel_89 : decode cX6_readsParcel 89 = .ok (.aload_n 0, 1) := by decide +kernel
theorem dX6_readsParcel_90 : decode cX6_readsParcel 90 = .ok (.bipush 48, 2) := by decide +kernel
theorem dX6_readsParcel_92 : decode cX6_readsParcel 92 = .ok (.bipush 51, 2) := by decide +kernel
theorem dX6_readsParcel_94 : decode cX6_readsParcel 94 = .ok (.invokevirtual 141, 3) := by decide +kernel
theorem dX6_readsParcel_97 : decode cX6_readsParcel 97 = .ok (.ifCond .ne 5, 3) := by decide +kernel
theorem dX6_readsParcel_100 : decode cX6_readsParcel 100 = .ok (.iconst 0, 1) := by decide +kernel
theorem dX6_readsParcel_101 : decode cX6_readsParcel 101 = .ok (.ireturn, 1) := by decide +kernel
theorem dX6_readsParcel_102 : decode cX6_readsParcel 102 = .ok (.aload_n 0, 1) := by decide +kernel
theorem dX6_readsParcel_103 : decode cX6_readsParcel 103 = .ok (.getfield 7, 3) := by decide +kernel
theorem dX6_readsParcel_106 : decode cX6_readsParcel 106 = .ok (.sipush 679, 3) := by decide +kernel
theorem dX6_readsParcel_109 : decode cX6_readsParcel 109 = .ok (.aload_n 0, 1) := by decide +kernel
theorem dX6_readsParcel_110 : decode cX6_readsParcel 110 = .ok (.getfield 17, 3) := by decide +kernel
theorem dX6_readsParcel_113 : decode cX6_readsParcel 113 = .ok (.aload_n 0, 1) := by decide +kernel
theorem dX6_readsParcel_114 : decode cX6_readsParcel 114 = .ok (.getfield 138, 3) := by decide +kernel
theorem dX6_readsParcel_117 : decode cX6_readsParcel 117 = .ok (.caload, 1) := by decide +kernel
theorem dX6_readsParcel_118 : decode cX6_readsParcel 118 = .ok (.bipush 48, 2) := by decide +kernel
theorem dX6_readsParcel_120 : decode cX6_readsParcel 120 = .ok (.isub, 1) := by decide +kernel
theorem dX6_readsParcel_121 : decode cX6_readsParcel 121 = .ok (.iastore, 1) := by decide +kernel
theorem dX6_readsParcel_122 : decode cX6_readsParcel 122 = .ok (.aload_n 0, 1) := by decide +kernel
theorem dX6_readsParcel_123 : decode cX6_readsParcel 123 = .ok (.dup, 1) := by decide +kernel
theorem dX6_readsParcel_124 : decode cX6_readsParcel 124 = .ok (.getfield 138, 3) := by decide +kernel
theorem dX6_readsParcel_127 : decode cX6_readsParcel 127 = .ok (.iconst 1, 1) := by decide +kernel
theorem dX6_readsParcel_128 : decode cX6_readsParcel 128 = .ok (.iadd, 1) := by decide +kernel
theorem dX6_readsParcel_129 : decode cX6_readsParcel 129 = .ok (.putfield 138, 3) := by decide +kernel
theorem dX6_readsParcel_132 : decode cX6_readsParcel 132 = .ok (.aload_n 0, 1) := by decide +kernel
theorem dX6_readsParcel_133 : decode cX6_readsParcel 133 = .ok (.getfield 7, 3) := by decide +kernel
theorem dX6_readsParcel_136 : decode cX6_readsParcel 136 = .ok (.sipush 681, 3) := by decide +kernel
theorem dX6_readsParcel_139 : decode cX6_readsParcel 139 = .ok (.aload_n 0, 1) := by decide +kernel
theorem dX6_readsParcel_140 : decode cX6_readsParcel 140 = .ok (.bipush 114, 2) := by decide +kernel
theorem dX6_readsParcel_142 : decode cX6_readsParcel 142 = .ok (.invokevirtual 145, 3) := by decide +kernel
theorem dX6_readsParcel_145 : decode cX6_readsParcel 145 = .ok (.ifCond .eq 7, 3) := by decide +kernel
theorem dX6_readsParcel_148 : decode cX6_readsParcel 148 = .ok (.iconst 0, 1) := by decide +kernel
theorem dX6_readsParcel_149 : decode cX6_readsParcel 149 = .ok (.goto 30, 3) := by decide +kernel
theorem dX6_readsParcel_152 : decode cX6_readsParcel 152 = .ok (.aload_n 0, 1) := by decide +kernel
theorem dX6_readsParcel_153 : decode cX6_readsParcel 153 = .ok (.bipush 99, 2) := by decide +kernel
theorem dX6_readsParcel_155 : decode cX6_readsParcel 155 = .ok (.invokevirtual 145, 3) := by decide +kernel
theorem dX6_readsParcel_158 : decode cX6_readsParcel 158 = .ok (.ifCond .eq 7, 3) := by decide +kernel
theorem dX6_readsParcel_161 : decode cX6_readsParcel 161 = .ok (.iconst 1, 1) := by decide +kernel
theorem dX6_readsParcel_162 : decode cX6_readsParcel 162 = .ok (.goto 17, 3) := by decide +kernel
theorem dX6_readsParcel_165 : decode cX6_readsParcel 165 = .ok (.aload_n 0, 1) := by decide +kernel
theorem dX6_readsParcel_166 : decode cX6_readsParcel 166 = .ok (.bipush 100, 2) := by decide +kernel
theorem dX6_readsParcel_168 : decode cX6_readsParcel 168 = .ok (.invokevirtual 145, 3) := by decide +kernel
theorem dX6_readsParcel_171 : decode cX6_readsParcel 171 = .ok (.ifCond .eq 7, 3) := by decide +kernel
theorem dX6_readsParcel_174 : decode cX6_readsParcel 174 = .ok (.iconst 2, 1) := by decide +kernel
theorem dX6_readsParcel_175 : decode cX6_readsParcel 175 = .ok (.goto 4, 3) := by decide +kernel
theorem dX6_readsParcel_178 : decode cX6_readsParcel 178 = .ok (.iconst (-1), 1) := by decide +kernel
theorem dX6_readsParcel_179 : decode cX6_readsParcel 179 = .ok (.iastore, 1) := by decide +kernel
theorem dX6_readsParcel_180 : decode cX6_readsParcel 180 = .ok (.aload_n 0, 1) := by decide +kernel
theorem dX6_readsParcel_181 : decode cX6_readsParcel 181 = .ok (.getfield 7, 3) := by decide +kernel
theorem dX6_readsParcel_184 : decode cX6_readsParcel 184 = .ok (.sipush 681, 3) := by decide +kernel
theorem dX6_readsParcel_187 : decode cX6_readsParcel 187 = .ok (.iaload, 1) := by decide +kernel
theorem dX6_readsParcel_188 : decode cX6_readsParcel 188 = .ok (.iconst (-1), 1) := by decide +kernel
theorem dX6_readsParcel_189 : decode cX6_readsParcel 189 = .ok (.if_icmp .eq 7, 3) := by decide +kernel
theorem dX6_readsParcel_192 : decode cX6_readsParcel 192 = .ok (.iconst 1, 1) := by decide +kernel
theorem dX6_readsParcel_193 : decode cX6_readsParcel 193 = .ok (.goto 4, 3) := by decide +kernel
theorem dX6_readsParcel_196 : decode cX6_readsParcel 196 = .ok (.iconst 0, 1) := by decide +kernel
theorem dX6_readsParcel_197 : decode cX6_readsParcel 197 = .ok (.ireturn, 1) := by decide +kernel
theorem dX6_error_0 : decode cX6_error 0 = .ok (.aload_n 0, 1) := by decide +kernel
theorem dX6_error_1 : decode cX6_error 1 = .ok (.iconst 0, 1) := by decide +kernel
theorem dX6_error_2 : decode cX6_error 2 = .ok (.putfield 138, 3) := by decide +kernel
theorem dX6_error_5 : decode cX6_error 5 = .ok (.aload_n 0, 1) := by decide +kernel
theorem dX6_error_6 : decode cX6_error 6 = .ok (.invokevirtual 152, 3) := by decide +kernel
theorem dX6_error_9 : decode cX6_error 9 = .ok (.ifCond .eq 30, 3) := by decide +kernel
theorem dX6_error_12 : decode cX6_error 12 = .ok (.aload_n 0, 1) := by decide +kernel
theorem dX6_error_13 : decode cX6_error 13 = .ok (.getfield 138, 3) := by decide +kernel
theorem dX6_error_16 : decode cX6_error 16 = .ok (.aload_n 0, 1) := by decide +kernel
theorem dX6_error_17 : decode cX6_error 17 = .ok (.getfield 135, 3) := by decide +kernel
theorem dX6_error_20 : decode cX6_error 20 = .ok (.if_icmp .ne 5, 3) := by decide +kernel
theorem dX6_error_23 : decode cX6_error 23 = .ok (.iconst (-1), 1) := by decide +kernel
theorem dX6_error_24 : decode cX6_error 24 = .ok (.ireturn, 1) := by decide +kernel
theorem dX6_error_25 : decode cX6_error 25 = .ok (.aload_n 0, 1) := by decide +kernel
theorem dX6_error_26 : decode cX6_error 26 = .ok (.bipush 59, 2) := by decide +kernel
theorem dX6_error_28 : decode cX6_error 28 = .ok (.invokevirtual 145, 3) := by decide +kernel
theorem dX6_error_31 : decode cX6_error 31 = .ok (.ifCond .ne (-26), 3) := by decide +kernel
theorem dX6_error_34 : decode cX6_error 34 = .ok (.aload_n 0, 1) := by decide +kernel
theorem dX6_error_35 : decode cX6_error 35 = .ok (.getfield 138, 3) := by decide +kernel
theorem dX6_error_38 : decode cX6_error 38 = .ok (.ireturn, 1) := by decide +kernel
theorem dX6_error_39 : decode cX6_error 39 = .ok (.aload_n 0, 1) := by decide +kernel
theorem dX6_error_40 : decode cX6_error 40 = .ok (.getfield 138, 3) := by decide +kernel
theorem dX6_error_43 : decode cX6_error 43 = .ok (.ireturn, 1) := by decide +kernel
theorem dX6_firstError_0 : decode cX6_firstError 0 = .ok (.aload_n 0, 1) := by decide +kernel
theorem dX6_firstError_1 : decode cX6_firstError 1 = .ok (.iconst 0, 1) := by decide +kernel
theorem dX6_firstError_2 : decode cX6_firstError 2 = .ok (.putfield 27, 3) := by decide +kernel
theorem dX6_firstError_5 : decode cX6_firstError 5 = .ok (.aload_n 0, 1) := by decide +kernel
theorem dX6_firstError_6 : decode cX6_firstError 6 = .ok (.invokevirtual 156, 3) := by decide +kernel
theorem dX6_firstError_9 : decode cX6_firstError 9 = .ok (.istore_n 1, 1) := by decide +kernel
theorem dX6_firstError_10 : decode cX6_firstError 10 = .ok (.iload_n 1, 1) := by decide +kernel
theorem dX6_firstError_11 : decode cX6_firstError 11 = .ok (.iconst (-1), 1) := by decide +kernel
theorem dX6_firstError_12 : decode cX6_firstError 12 = .ok (.if_icmp .ne 10, 3) := by decide +kernel
theorem dX6_firstError_15 : decode cX6_firstError 15 = .ok (.aload_n 0, 1) := by decide +kernel
theorem dX6_firstError_16 : decode cX6_firstError 16 = .ok (.getfield 135, 3) := by decide +kernel
theorem dX6_firstError_19 : decode cX6_firstError 19 = .ok (.goto 4, 3) := by decide +kernel
theorem dX6_firstError_22 : decode cX6_firstError 22 = .ok (.iload_n 1, 1) := by decide +kernel
theorem dX6_firstError_23 : decode cX6_firstError 23 = .ok (.ireturn, 1) := by decide +kernel
theorem dX6_run_0 : decode cX6_run 0 = .ok (.aload_n 0, 1) := by decide +kernel
theorem dX6_run_1 : decode cX6_run 1 = .ok (.aload_n 0, 1) := by decide +kernel
theorem dX6_run_2 : decode cX6_run 2 = .ok (.invokevirtual 156, 3) := by decide +kernel
theorem dX6_run_5 : decode cX6_run 5 = .ok (.iconst (-1), 1) := by decide +kernel
theorem dX6_run_6 : decode cX6_run 6 = .ok (.if_icmp .ne 7, 3) := by decide +kernel
theorem dX6_run_9 : decode cX6_run 9 = .ok (.iconst 1, 1) := by decide +kernel
theorem dX6_run_10 : decode cX6_run 10 = .ok (.goto 4, 3) := by decide +kernel
theorem dX6_run_13 : decode cX6_run 13 = .ok (.iconst 0, 1) := by decide +kernel
theorem dX6_run_14 : decode cX6_run 14 = .ok (.iconst 1, 1) := by decide +kernel
theorem dX6_run_15 : decode cX6_run 15 = .ok (.invokevirtual 111, 3) := by decide +kernel
theorem dX6_run_18 : decode cX6_run 18 = .ok (.ifCond .ne 5, 3) := by decide +kernel
theorem dX6_run_21 : decode cX6_run 21 = .ok (.iconst 0, 1) := by decide +kernel
theorem dX6_run_22 : decode cX6_run 22 = .ok (.ireturn, 1) := by decide +kernel
theorem dX6_run_23 : decode cX6_run 23 = .ok (.aload_n 0, 1) := by decide +kernel
theorem dX6_run_24 : decode cX6_run 24 = .ok (.invokevirtual 38, 3) := by decide +kernel
theorem dX6_run_27 : decode cX6_run 27 = .ok (.aload_n 0, 1) := by decide +kernel
theorem dX6_run_28 : decode cX6_run 28 = .ok (.iconst 0, 1) := by decide +kernel
theorem dX6_run_29 : decode cX6_run 29 = .ok (.putfield 138, 3) := by decide +kernel
theorem dX6_run_32 : decode cX6_run 32 = .ok (.iconst 0, 1) := by decide +kernel
theorem dX6_run_33 : decode cX6_run 33 = .ok (.istore_n 1, 1) := by decide +kernel
theorem dX6_run_34 : decode cX6_run 34 = .ok (.iconst 1, 1) := by decide +kernel
theorem dX6_run_35 : decode cX6_run 35 = .ok (.istore_n 2, 1) := by decide +kernel
theorem dX6_run_36 : decode cX6_run 36 = .ok (.iload_n 2, 1) := by decide +kernel
theorem dX6_run_37 : decode cX6_run 37 = .ok (.ifCond .eq 107, 3) := by decide +kernel
theorem dX6_run_40 : decode cX6_run 40 = .ok (.aload_n 0, 1) := by decide +kernel
theorem dX6_run_41 : decode cX6_run 41 = .ok (.invokevirtual 152, 3) := by decide +kernel
theorem dX6_run_44 : decode cX6_run 44 = .ok (.istore_n 3, 1) := by decide +kernel
theorem dX6_run_45 : decode cX6_run 45 = .ok (.aload_n 0, 1) := by decide +kernel
theorem dX6_run_46 : decode cX6_run 46 = .ok (.aload_n 0, 1) := by decide +kernel
theorem dX6_run_47 : decode cX6_run 47 = .ok (.getfield 7, 3) := by decide +kernel
theorem dX6_run_50 : decode cX6_run 50 = .ok (.sipush 675, 3) := by decide +kernel
theorem dX6_run_53 : decode cX6_run 53 = .ok (.iaload, 1) := by decide +kernel
theorem dX6_run_54 : decode cX6_run 54 = .ok (.aload_n 0, 1) := by decide +kernel
theorem dX6_run_55 : decode cX6_run 55 = .ok (.getfield 7, 3) := by decide +kernel
theorem dX6_run_58 : decode cX6_run 58 = .ok (.sipush 676, 3) := by decide +kernel
theorem dX6_run_61 : decode cX6_run 61 = .ok (.iaload, 1) := by decide +kernel
theorem dX6_run_62 : decode cX6_run 62 = .ok (.aload_n 0, 1) := by decide +kernel
theorem dX6_run_63 : decode cX6_run 63 = .ok (.getfield 7, 3) := by decide +kernel
theorem dX6_run_66 : decode cX6_run 66 = .ok (.sipush 677, 3) := by decide +kernel
theorem dX6_run_69 : decode cX6_run 69 = .ok (.iaload, 1) := by decide +kernel
theorem dX6_run_70 : decode cX6_run 70 = .ok (.aload_n 0, 1) := by decide +kernel
theorem dX6_run_71 : decode cX6_run 71 = .ok (.getfield 7, 3) := by decide +kernel
theorem dX6_run_74 : decode cX6_run 74 = .ok (.sipush 678, 3) := by decide +kernel
theorem dX6_run_77 : decode cX6_run 77 = .ok (.iaload, 1) := by decide +kernel
theorem dX6_run_78 : decode cX6_run 78 = .ok (.aload_n 0, 1) := by decide +kernel
theorem dX6_run_79 : decode cX6_run 79 = .ok (.getfield 7, 3) := by decide +kernel
theorem dX6_run_82 : decode cX6_run 82 = .ok (.sipush 679, 3) := by decide +kernel
theorem dX6_run_85 : decode cX6_run 85 = .ok (.iaload, 1) := by decide +kernel
theorem dX6_run_86 : decode cX6_run 86 = .ok (.aload_n 0, 1) := by decide +kernel
theorem dX6_run_87 : decode cX6_run 87 = .ok (.getfield 7, 3) := by decide +kernel
theorem dX6_run_90 : decode cX6_run 90 = .ok (.sipush 681, 3) := by decide +kernel
theorem dX6_run_93 : decode cX6_run 93 = .ok (.iaload, 1) := by decide +kernel
theorem dX6_run_94 : decode cX6_run 94 = .ok (.invokevirtual 115, 3) := by decide +kernel
theorem dX6_run_97 : decode cX6_run 97 = .ok (.iconst (-1), 1) := by decide +kernel
theorem dX6_run_98 : decode cX6_run 98 = .ok (.if_icmp .eq 7, 3) := by decide +kernel
theorem dX6_run_101 : decode cX6_run 101 = .ok (.iconst 1, 1) := by decide +kernel
theorem dX6_run_102 : decode cX6_run 102 = .ok (.goto 4, 3) := by decide +kernel
theorem dX6_run_105 : decode cX6_run 105 = .ok (.iconst 0, 1) := by decide +kernel
theorem dX6_run_106 : decode cX6_run 106 = .ok (.istore 4, 2) := by decide +kernel
theorem dX6_run_108 : decode cX6_run 108 = .ok (.iload_n 1, 1) := by decide +kernel
theorem dX6_run_109 : decode cX6_run 109 = .ok (.iload 4, 2) := by decide +kernel
theorem dX6_run_111 : decode cX6_run 111 = .ok (.ifCond .eq 7, 3) := by decide +kernel
theorem dX6_run_114 : decode cX6_run 114 = .ok (.iconst 1, 1) := by decide +kernel
theorem dX6_run_115 : decode cX6_run 115 = .ok (.goto 4, 3) := by decide +kernel
theorem dX6_run_118 : decode cX6_run 118 = .ok (.iconst 0, 1) := by decide +kernel
theorem dX6_run_119 : decode cX6_run 119 = .ok (.iadd, 1) := by decide +kernel
theorem dX6_run_120 : decode cX6_run 120 = .ok (.istore_n 1, 1) := by decide +kernel
theorem dX6_run_121 : decode cX6_run 121 = .ok (.iload 4, 2) := by decide +kernel
theorem dX6_run_123 : decode cX6_run 123 = .ok (.ifCond .eq 16, 3) := by decide +kernel
theorem dX6_run_126 : decode cX6_run 126 = .ok (.aload_n 0, 1) := by decide +kernel
theorem dX6_run_127 : decode cX6_run 127 = .ok (.bipush 59, 2) := by decide +kernel
theorem dX6_run_129 : decode cX6_run 129 = .ok (.invokevirtual 145, 3) := by decide +kernel
theorem dX6_run_132 : decode cX6_run 132 = .ok (.ifCond .eq 7, 3) := by decide +kernel
theorem dX6_run_135 : decode cX6_run 135 = .ok (.iconst 1, 1) := by decide +kernel
theorem dX6_run_136 : decode cX6_run 136 = .ok (.goto 4, 3) := by decide +kernel
theorem dX6_run_139 : decode cX6_run 139 = .ok (.iconst 0, 1) := by decide +kernel
theorem dX6_run_140 : decode cX6_run 140 = .ok (.istore_n 2, 1) := by decide +kernel
theorem dX6_run_141 : decode cX6_run 141 = .ok (.goto (-105), 3) := by decide +kernel
theorem dX6_run_144 : decode cX6_run 144 = .ok (.aload_n 0, 1) := by decide +kernel
theorem dX6_run_145 : decode cX6_run 145 = .ok (.iconst 0, 1) := by decide +kernel
theorem dX6_run_146 : decode cX6_run 146 = .ok (.putfield 135, 3) := by decide +kernel
theorem dX6_run_149 : decode cX6_run 149 = .ok (.iload_n 1, 1) := by decide +kernel
theorem dX6_run_150 : decode cX6_run 150 = .ok (.ireturn, 1) := by decide +kernel
theorem dX6_isSlot_0 : decode cX6_isSlot 0 = .ok (.iload_n 0, 1) := by decide +kernel
theorem dX6_isSlot_1 : decode cX6_isSlot 1 = .ok (.ifCond .eq 8, 3) := by decide +kernel
theorem dX6_isSlot_4 : decode cX6_isSlot 4 = .ok (.iload_n 0, 1) := by decide +kernel
theorem dX6_isSlot_5 : decode cX6_isSlot 5 = .ok (.iconst 1, 1) := by decide +kernel
theorem dX6_isSlot_6 : decode cX6_isSlot 6 = .ok (.if_icmp .ne 7, 3) := by decide +kernel
theorem dX6_isSlot_9 : decode cX6_isSlot 9 = .ok (.iconst 1, 1) := by decide +kernel
theorem dX6_isSlot_10 : decode cX6_isSlot 10 = .ok (.goto 4, 3) := by decide +kernel
theorem dX6_isSlot_13 : decode cX6_isSlot 13 = .ok (.iconst 0, 1) := by decide +kernel
theorem dX6_isSlot_14 : decode cX6_isSlot 14 = .ok (.ireturn, 1) := by decide +kernel
theorem dX6_keep_0 : decode cX6_keep 0 = .ok (.aload_n 0, 1) := by decide +kernel
theorem dX6_keep_1 : decode cX6_keep 1 = .ok (.iload_n 1, 1) := by decide +kernel
theorem dX6_keep_2 : decode cX6_keep 2 = .ok (.invokestatic 159, 3) := by decide +kernel
theorem dX6_keep_5 : decode cX6_keep 5 = .ok (.iconst 1, 1) := by decide +kernel
theorem dX6_keep_6 : decode cX6_keep 6 = .ok (.invokevirtual 111, 3) := by decide +kernel
theorem dX6_keep_9 : decode cX6_keep 9 = .ok (.ifCond .ne 5, 3) := by decide +kernel
theorem dX6_keep_12 : decode cX6_keep 12 = .ok (.iconst 0, 1) := by decide +kernel
theorem dX6_keep_13 : decode cX6_keep 13 = .ok (.ireturn, 1) := by decide +kernel
theorem dX6_keep_14 : decode cX6_keep 14 = .ok (.aload_n 0, 1) := by decide +kernel
theorem dX6_keep_15 : decode cX6_keep 15 = .ok (.iconst 0, 1) := by decide +kernel
theorem dX6_keep_16 : decode cX6_keep 16 = .ok (.bipush 7, 2) := by decide +kernel
theorem dX6_keep_18 : decode cX6_keep 18 = .ok (.iload_n 1, 1) := by decide +kernel
theorem dX6_keep_19 : decode cX6_keep 19 = .ok (.iadd, 1) := by decide +kernel
theorem dX6_keep_20 : decode cX6_keep 20 = .ok (.invokevirtual 34, 3) := by decide +kernel
theorem dX6_keep_23 : decode cX6_keep 23 = .ok (.aload_n 0, 1) := by decide +kernel
theorem dX6_keep_24 : decode cX6_keep 24 = .ok (.getfield 13, 3) := by decide +kernel
theorem dX6_keep_27 : decode cX6_keep 27 = .ok (.iload_n 1, 1) := by decide +kernel
theorem dX6_keep_28 : decode cX6_keep 28 = .ok (.iconst 1, 1) := by decide +kernel
theorem dX6_keep_29 : decode cX6_keep 29 = .ok (.bastore, 1) := by decide +kernel
theorem dX6_keep_30 : decode cX6_keep 30 = .ok (.aload_n 0, 1) := by decide +kernel
theorem dX6_keep_31 : decode cX6_keep 31 = .ok (.getfield 7, 3) := by decide +kernel
theorem dX6_keep_34 : decode cX6_keep 34 = .ok (.bipush 70, 2) := by decide +kernel
theorem dX6_keep_36 : decode cX6_keep 36 = .ok (.iaload, 1) := by decide +kernel
theorem dX6_keep_37 : decode cX6_keep 37 = .ok (.ireturn, 1) := by decide +kernel
theorem dX6_goBack_0 : decode cX6_goBack 0 = .ok (.aload_n 0, 1) := by decide +kernel
theorem dX6_goBack_1 : decode cX6_goBack 1 = .ok (.iload_n 1, 1) := by decide +kernel
theorem dX6_goBack_2 : decode cX6_goBack 2 = .ok (.invokestatic 159, 3) := by decide +kernel
theorem dX6_goBack_5 : decode cX6_goBack 5 = .ok (.iload_n 1, 1) := by decide +kernel
theorem dX6_goBack_6 : decode cX6_goBack 6 = .ok (.invokestatic 159, 3) := by decide +kernel
theorem dX6_goBack_9 : decode cX6_goBack 9 = .ok (.ifCond .eq 16, 3) := by decide +kernel
theorem dX6_goBack_12 : decode cX6_goBack 12 = .ok (.aload_n 0, 1) := by decide +kernel
theorem dX6_goBack_13 : decode cX6_goBack 13 = .ok (.getfield 13, 3) := by decide +kernel
theorem dX6_goBack_16 : decode cX6_goBack 16 = .ok (.iload_n 1, 1) := by decide +kernel
theorem dX6_goBack_17 : decode cX6_goBack 17 = .ok (.baload, 1) := by decide +kernel
theorem dX6_goBack_18 : decode cX6_goBack 18 = .ok (.ifCond .eq 7, 3) := by decide +kernel
theorem dX6_goBack_21 : decode cX6_goBack 21 = .ok (.iconst 1, 1) := by decide +kernel
theorem dX6_goBack_22 : decode cX6_goBack 22 = .ok (.goto 4, 3) := by decide +kernel
theorem dX6_goBack_25 : decode cX6_goBack 25 = .ok (.iconst 0, 1) := by decide +kernel
theorem dX6_goBack_26 : decode cX6_goBack 26 = .ok (.invokevirtual 111, 3) := by decide +kernel
theorem dX6_goBack_29 : decode cX6_goBack 29 = .ok (.ifCond .ne 5, 3) := by decide +kernel
theorem dX6_goBack_32 : decode cX6_goBack 32 = .ok (.iconst 0, 1) := by decide +kernel
theorem dX6_goBack_33 : decode cX6_goBack 33 = .ok (.ireturn, 1) := by decide +kernel
theorem dX6_goBack_34 : decode cX6_goBack 34 = .ok (.aload_n 0, 1) := by decide +kernel
theorem dX6_goBack_35 : decode cX6_goBack 35 = .ok (.invokevirtual 38, 3) := by decide +kernel
theorem dX6_goBack_38 : decode cX6_goBack 38 = .ok (.aload_n 0, 1) := by decide +kernel
theorem dX6_goBack_39 : decode cX6_goBack 39 = .ok (.bipush 7, 2) := by decide +kernel
theorem dX6_goBack_41 : decode cX6_goBack 41 = .ok (.iload_n 1, 1) := by decide +kernel
theorem dX6_goBack_42 : decode cX6_goBack 42 = .ok (.iadd, 1) := by decide +kernel
theorem dX6_goBack_43 : decode cX6_goBack 43 = .ok (.iconst 0, 1) := by decide +kernel
theorem dX6_goBack_44 : decode cX6_goBack 44 = .ok (.invokevirtual 34, 3) := by decide +kernel
theorem dX6_goBack_47 : decode cX6_goBack 47 = .ok (.aload_n 0, 1) := by decide +kernel
theorem dX6_goBack_48 : decode cX6_goBack 48 = .ok (.getfield 7, 3) := by decide +kernel
theorem dX6_goBack_51 : decode cX6_goBack 51 = .ok (.bipush 70, 2) := by decide +kernel
theorem dX6_goBack_53 : decode cX6_goBack 53 = .ok (.iaload, 1) := by decide +kernel
theorem dX6_goBack_54 : decode cX6_goBack 54 = .ok (.ireturn, 1) := by decide +kernel
theorem dX6_undo_0 : decode cX6_undo 0 = .ok (.aload_n 0, 1) := by decide +kernel
theorem dX6_undo_1 : decode cX6_undo 1 = .ok (.aload_n 0, 1) := by decide +kernel
theorem dX6_undo_2 : decode cX6_undo 2 = .ok (.getfield 31, 3) := by decide +kernel
theorem dX6_undo_5 : decode cX6_undo 5 = .ok (.ifCond .le 7, 3) := by decide +kernel
theorem dX6_undo_8 : decode cX6_undo 8 = .ok (.iconst 1, 1) := by decide +kernel
theorem dX6_undo_9 : decode cX6_undo 9 = .ok (.goto 4, 3) := by decide +kernel
theorem dX6_undo_12 : decode cX6_undo 12 = .ok (.iconst 0, 1) := by decide +kernel
theorem dX6_undo_13 : decode cX6_undo 13 = .ok (.iconst 1, 1) := by decide +kernel
theorem dX6_undo_14 : decode cX6_undo 14 = .ok (.invokevirtual 111, 3) := by decide +kernel
theorem dX6_undo_17 : decode cX6_undo 17 = .ok (.ifCond .ne 5, 3) := by decide +kernel
theorem dX6_undo_20 : decode cX6_undo 20 = .ok (.iconst 0, 1) := by decide +kernel
theorem dX6_undo_21 : decode cX6_undo 21 = .ok (.ireturn, 1) := by decide +kernel
theorem dX6_undo_22 : decode cX6_undo 22 = .ok (.aload_n 0, 1) := by decide +kernel
theorem dX6_undo_23 : decode cX6_undo 23 = .ok (.aload_n 0, 1) := by decide +kernel
theorem dX6_undo_24 : decode cX6_undo 24 = .ok (.getfield 31, 3) := by decide +kernel
theorem dX6_undo_27 : decode cX6_undo 27 = .ok (.iconst 0, 1) := by decide +kernel
theorem dX6_undo_28 : decode cX6_undo 28 = .ok (.invokevirtual 34, 3) := by decide +kernel
theorem dX6_undo_31 : decode cX6_undo 31 = .ok (.aload_n 0, 1) := by decide +kernel
theorem dX6_undo_32 : decode cX6_undo 32 = .ok (.dup, 1) := by decide +kernel
theorem dX6_undo_33 : decode cX6_undo 33 = .ok (.getfield 31, 3) := by decide +kernel
theorem dX6_undo_36 : decode cX6_undo 36 = .ok (.iconst 1, 1) := by decide +kernel
theorem dX6_undo_37 : decode cX6_undo 37 = .ok (.isub, 1) := by decide +kernel
theorem dX6_undo_38 : decode cX6_undo 38 = .ok (.putfield 31, 3) := by decide +kernel
theorem dX6_undo_41 : decode cX6_undo 41 = .ok (.aload_n 0, 1) := by decide +kernel
theorem dX6_undo_42 : decode cX6_undo 42 = .ok (.getfield 31, 3) := by decide +kernel
theorem dX6_undo_45 : decode cX6_undo 45 = .ok (.ireturn, 1) := by decide +kernel
theorem dX6_property_0 : decode cX6_property 0 = .ok (.iload_n 1, 1) := by decide +kernel
theorem dX6_property_1 : decode cX6_property 1 = .ok (.invokestatic 69, 3) := by decide +kernel
theorem dX6_property_4 : decode cX6_property 4 = .ok (.istore_n 3, 1) := by decide +kernel
theorem dX6_property_5 : decode cX6_property 5 = .ok (.iload_n 2, 1) := by decide +kernel
theorem dX6_property_6 : decode cX6_property 6 = .ok (.tableswitch 54 7 10 #[30, 36, 42, 48], 30) := by decide +kernel
theorem dX6_property_36 : decode cX6_property 36 = .ok (.aload_n 0, 1) := by decide +kernel
theorem dX6_property_37 : decode cX6_property 37 = .ok (.iload_n 3, 1) := by decide +kernel
theorem dX6_property_38 : decode cX6_property 38 = .ok (.invokevirtual 53, 3) := by decide +kernel
theorem dX6_property_41 : decode cX6_property 41 = .ok (.ireturn, 1) := by decide +kernel
theorem dX6_property_42 : decode cX6_property 42 = .ok (.aload_n 0, 1) := by decide +kernel
theorem dX6_property_43 : decode cX6_property 43 = .ok (.iload_n 3, 1) := by decide +kernel
theorem dX6_property_44 : decode cX6_property 44 = .ok (.invokevirtual 63, 3) := by decide +kernel
theorem dX6_property_47 : decode cX6_property 47 = .ok (.ireturn, 1) := by decide +kernel
theorem dX6_property_48 : decode cX6_property 48 = .ok (.aload_n 0, 1) := by decide +kernel
theorem dX6_property_49 : decode cX6_property 49 = .ok (.iload_n 3, 1) := by decide +kernel
theorem dX6_property_50 : decode cX6_property 50 = .ok (.invokevirtual 83, 3) := by decide +kernel
theorem dX6_property_53 : decode cX6_property 53 = .ok (.ireturn, 1) := by decide +kernel
theorem dX6_property_54 : decode cX6_property 54 = .ok (.aload_n 0, 1) := by decide +kernel
theorem dX6_property_55 : decode cX6_property 55 = .ok (.iload_n 3, 1) := by decide +kernel
theorem dX6_property_56 : decode cX6_property 56 = .ok (.invokevirtual 76, 3) := by decide +kernel
theorem dX6_property_59 : decode cX6_property 59 = .ok (.ireturn, 1) := by decide +kernel
theorem dX6_property_60 : decode cX6_property 60 = .ok (.aload_n 0, 1) := by decide +kernel
theorem dX6_property_61 : decode cX6_property 61 = .ok (.getfield 7, 3) := by decide +kernel
theorem dX6_property_64 : decode cX6_property 64 = .ok (.iload_n 3, 1) := by decide +kernel
theorem dX6_property_65 : decode cX6_property 65 = .ok (.iload_n 2, 1) := by decide +kernel
theorem dX6_property_66 : decode cX6_property 66 = .ok (.iadd, 1) := by decide +kernel
theorem dX6_property_67 : decode cX6_property 67 = .ok (.iaload, 1) := by decide +kernel
theorem dX6_property_68 : decode cX6_property 68 = .ok (.ireturn, 1) := by decide +kernel
theorem dX6_parcelOf_0 : decode cX6_parcelOf 0 = .ok (.aload_n 0, 1) := by decide +kernel
theorem dX6_parcelOf_1 : decode cX6_parcelOf 1 = .ok (.aload_n 0, 1) := by decide +kernel
theorem dX6_parcelOf_2 : decode cX6_parcelOf 2 = .ok (.iload_n 1, 1) := by decide +kernel
theorem dX6_parcelOf_3 : decode cX6_parcelOf 3 = .ok (.invokevirtual 119, 3) := by decide +kernel
theorem dX6_parcelOf_6 : decode cX6_parcelOf 6 = .ok (.iload_n 2, 1) := by decide +kernel
theorem dX6_parcelOf_7 : decode cX6_parcelOf 7 = .ok (.iconst 0, 1) := by decide +kernel
theorem dX6_parcelOf_8 : decode cX6_parcelOf 8 = .ok (.bipush 10, 2) := by decide +kernel
theorem dX6_parcelOf_10 : decode cX6_parcelOf 10 = .ok (.invokestatic 41, 3) := by decide +kernel
theorem dX6_parcelOf_13 : decode cX6_parcelOf 13 = .ok (.invokevirtual 111, 3) := by decide +kernel
theorem dX6_parcelOf_16 : decode cX6_parcelOf 16 = .ok (.ifCond .eq 12, 3) := by decide +kernel
theorem dX6_parcelOf_19 : decode cX6_parcelOf 19 = .ok (.aload_n 0, 1) := by decide +kernel
theorem dX6_parcelOf_20 : decode cX6_parcelOf 20 = .ok (.iload_n 1, 1) := by decide +kernel
theorem dX6_parcelOf_21 : decode cX6_parcelOf 21 = .ok (.iload_n 2, 1) := by decide +kernel
theorem dX6_parcelOf_22 : decode cX6_parcelOf 22 = .ok (.invokevirtual 162, 3) := by decide +kernel
theorem dX6_parcelOf_25 : decode cX6_parcelOf 25 = .ok (.goto 4, 3) := by decide +kernel
theorem dX6_parcelOf_28 : decode cX6_parcelOf 28 = .ok (.iconst 0, 1) := by decide +kernel
theorem dX6_parcelOf_29 : decode cX6_parcelOf 29 = .ok (.ireturn, 1) := by decide +kernel
theorem dX6_rateDown_0 : decode cX6_rateDown 0 = .ok (.iload_n 1, 1) := by decide +kernel
theorem dX6_rateDown_1 : decode cX6_rateDown 1 = .ok (.invokestatic 45, 3) := by decide +kernel
theorem dX6_rateDown_4 : decode cX6_rateDown 4 = .ok (.istore_n 2, 1) := by decide +kernel
theorem dX6_rateDown_5 : decode cX6_rateDown 5 = .ok (.iload_n 1, 1) := by decide +kernel
theorem dX6_rateDown_6 : decode cX6_rateDown 6 = .ok (.invokestatic 45, 3) := by decide +kernel
theorem dX6_rateDown_9 : decode cX6_rateDown 9 = .ok (.iconst 1, 1) := by decide +kernel
theorem dX6_rateDown_10 : decode cX6_rateDown 10 = .ok (.isub, 1) := by decide +kernel
theorem dX6_rateDown_11 : decode cX6_rateDown 11 = .ok (.istore_n 3, 1) := by decide +kernel
theorem dX6_rateDown_12 : decode cX6_rateDown 12 = .ok (.iload_n 3, 1) := by decide +kernel
theorem dX6_rateDown_13 : decode cX6_rateDown 13 = .ok (.ifCond .lt 34, 3) := by decide +kernel
theorem dX6_rateDown_16 : decode cX6_rateDown 16 = .ok (.aload_n 0, 1) := by decide +kernel
theorem dX6_rateDown_17 : decode cX6_rateDown 17 = .ok (.getfield 7, 3) := by decide +kernel
theorem dX6_rateDown_20 : decode cX6_rateDown 20 = .ok (.iconst 4, 1) := by decide +kernel
theorem dX6_rateDown_21 : decode cX6_rateDown 21 = .ok (.iload_n 3, 1) := by decide +kernel
theorem dX6_rateDown_22 : decode cX6_rateDown 22 = .ok (.iadd, 1) := by decide +kernel
theorem dX6_rateDown_23 : decode cX6_rateDown 23 = .ok (.iaload, 1) := by decide +kernel
theorem dX6_rateDown_24 : decode cX6_rateDown 24 = .ok (.aload_n 0, 1) := by decide +kernel
theorem dX6_rateDown_25 : decode cX6_rateDown 25 = .ok (.getfield 7, 3) := by decide +kernel
theorem dX6_rateDown_28 : decode cX6_rateDown 28 = .ok (.iconst 4, 1) := by decide +kernel
theorem dX6_rateDown_29 : decode cX6_rateDown 29 = .ok (.iload_n 2, 1) := by decide +kernel
theorem dX6_rateDown_30 : decode cX6_rateDown 30 = .ok (.iadd, 1) := by decide +kernel
theorem dX6_rateDown_31 : decode cX6_rateDown 31 = .ok (.iaload, 1) := by decide +kernel
theorem dX6_rateDown_32 : decode cX6_rateDown 32 = .ok (.if_icmp .le 7, 3) := by decide +kernel
theorem dX6_rateDown_35 : decode cX6_rateDown 35 = .ok (.iload_n 3, 1) := by decide +kernel
theorem dX6_rateDown_36 : decode cX6_rateDown 36 = .ok (.goto 4, 3) := by decide +kernel
theorem dX6_rateDown_39 : decode cX6_rateDown 39 = .ok (.iload_n 2, 1) := by decide +kernel
theorem dX6_rateDown_40 : decode cX6_rateDown 40 = .ok (.istore_n 2, 1) := by decide +kernel
theorem dX6_rateDown_41 : decode cX6_rateDown 41 = .ok (.iinc 3 (-1), 3) := by decide +kernel
theorem dX6_rateDown_44 : decode cX6_rateDown 44 = .ok (.goto (-32), 3) := by decide +kernel
theorem dX6_rateDown_47 : decode cX6_rateDown 47 = .ok (.aload_n 0, 1) := by decide +kernel
theorem dX6_rateDown_48 : decode cX6_rateDown 48 = .ok (.getfield 7, 3) := by decide +kernel
theorem dX6_rateDown_51 : decode cX6_rateDown 51 = .ok (.iconst 4, 1) := by decide +kernel
theorem dX6_rateDown_52 : decode cX6_rateDown 52 = .ok (.iload_n 2, 1) := by decide +kernel
theorem dX6_rateDown_53 : decode cX6_rateDown 53 = .ok (.iadd, 1) := by decide +kernel
theorem dX6_rateDown_54 : decode cX6_rateDown 54 = .ok (.iaload, 1) := by decide +kernel
theorem dX6_rateDown_55 : decode cX6_rateDown 55 = .ok (.ireturn, 1) := by decide +kernel
theorem dX6_rated_0 : decode cX6_rated 0 = .ok (.iload_n 2, 1) := by decide +kernel
theorem dX6_rated_1 : decode cX6_rated 1 = .ok (.ifCond .ne 11, 3) := by decide +kernel
theorem dX6_rated_4 : decode cX6_rated 4 = .ok (.aload_n 0, 1) := by decide +kernel
theorem dX6_rated_5 : decode cX6_rated 5 = .ok (.iload_n 1, 1) := by decide +kernel
theorem dX6_rated_6 : decode cX6_rated 6 = .ok (.invokevirtual 56, 3) := by decide +kernel
theorem dX6_rated_9 : decode cX6_rated 9 = .ok (.goto 8, 3) := by decide +kernel
theorem dX6_rated_12 : decode cX6_rated 12 = .ok (.aload_n 0, 1) := by decide +kernel
theorem dX6_rated_13 : decode cX6_rated 13 = .ok (.iload_n 1, 1) := by decide +kernel
theorem dX6_rated_14 : decode cX6_rated 14 = .ok (.invokevirtual 165, 3) := by decide +kernel
theorem dX6_rated_17 : decode cX6_rated 17 = .ok (.ireturn, 1) := by decide +kernel
theorem dX6_rate_0 : decode cX6_rate 0 = .ok (.aload_n 0, 1) := by decide +kernel
theorem dX6_rate_1 : decode cX6_rate 1 = .ok (.iload_n 1, 1) := by decide +kernel
theorem dX6_rate_2 : decode cX6_rate 2 = .ok (.iconst 1, 1) := by decide +kernel
theorem dX6_rate_3 : decode cX6_rate 3 = .ok (.sipush 999, 3) := by decide +kernel
theorem dX6_rate_6 : decode cX6_rate 6 = .ok (.invokestatic 41, 3) := by decide +kernel
theorem dX6_rate_9 : decode cX6_rate 9 = .ok (.ifCond .eq 16, 3) := by decide +kernel
theorem dX6_rate_12 : decode cX6_rate 12 = .ok (.iload_n 2, 1) := by decide +kernel
theorem dX6_rate_13 : decode cX6_rate 13 = .ok (.iconst 0, 1) := by decide +kernel
theorem dX6_rate_14 : decode cX6_rate 14 = .ok (.iconst 1, 1) := by decide +kernel
theorem dX6_rate_15 : decode cX6_rate 15 = .ok (.invokestatic 41, 3) := by decide +kernel
theorem dX6_rate_18 : decode cX6_rate 18 = .ok (.ifCond .eq 7, 3) := by decide +kernel
theorem dX6_rate_21 : decode cX6_rate 21 = .ok (.iconst 1, 1) := by decide +kernel
theorem dX6_rate_22 : decode cX6_rate 22 = .ok (.goto 4, 3) := by decide +kernel
theorem dX6_rate_25 : decode cX6_rate 25 = .ok (.iconst 0, 1) := by decide +kernel
theorem dX6_rate_26 : decode cX6_rate 26 = .ok (.iconst 1, 1) := by decide +kernel
theorem dX6_rate_27 : decode cX6_rate 27 = .ok (.invokevirtual 111, 3) := by decide +kernel
theorem dX6_rate_30 : decode cX6_rate 30 = .ok (.ifCond .eq 12, 3) := by decide +kernel
theorem dX6_rate_33 : decode cX6_rate 33 = .ok (.aload_n 0, 1) := by decide +kernel
theorem dX6_rate_34 : decode cX6_rate 34 = .ok (.iload_n 1, 1) := by decide +kernel
theorem dX6_rate_35 : decode cX6_rate 35 = .ok (.iload_n 2, 1) := by decide +kernel
theorem dX6_rate_36 : decode cX6_rate 36 = .ok (.invokevirtual 168, 3) := by decide +kernel
theorem dX6_rate_39 : decode cX6_rate 39 = .ok (.goto 4, 3) := by decide +kernel
theorem dX6_rate_42 : decode cX6_rate 42 = .ok (.iconst 0, 1) := by decide +kernel
theorem dX6_rate_43 : decode cX6_rate 43 = .ok (.ireturn, 1) := by decide +kernel
theorem dX6_parcels_0 : decode cX6_parcels 0 = .ok (.iconst 0, 1) := by decide +kernel
theorem dX6_parcels_1 : decode cX6_parcels 1 = .ok (.istore_n 2, 1) := by decide +kernel
theorem dX6_parcels_2 : decode cX6_parcels 2 = .ok (.iconst 0, 1) := by decide +kernel
theorem dX6_parcels_3 : decode cX6_parcels 3 = .ok (.istore_n 3, 1) := by decide +kernel
theorem dX6_parcels_4 : decode cX6_parcels 4 = .ok (.iload_n 3, 1) := by decide +kernel
theorem dX6_parcels_5 : decode cX6_parcels 5 = .ok (.aload_n 0, 1) := by decide +kernel
theorem dX6_parcels_6 : decode cX6_parcels 6 = .ok (.getfield 7, 3) := by decide +kernel
theorem dX6_parcels_9 : decode cX6_parcels 9 = .ok (.bipush 20, 2) := by decide +kernel
theorem dX6_parcels_11 : decode cX6_parcels 11 = .ok (.iaload, 1) := by decide +kernel
theorem dX6_parcels_12 : decode cX6_parcels 12 = .ok (.if_icmp .ge 46, 3) := by decide +kernel
theorem dX6_parcels_15 : decode cX6_parcels 15 = .ok (.iload_n 2, 1) := by decide +kernel
theorem dX6_parcels_16 : decode cX6_parcels 16 = .ok (.iload_n 1, 1) := by decide +kernel
theorem dX6_parcels_17 : decode cX6_parcels 17 = .ok (.ifCond .eq 17, 3) := by decide +kernel
theorem dX6_parcels_20 : decode cX6_parcels 20 = .ok (.aload_n 0, 1) := by decide +kernel
theorem dX6_parcels_21 : decode cX6_parcels 21 = .ok (.iload_n 3, 1) := by decide +kernel
theorem dX6_parcels_22 : decode cX6_parcels 22 = .ok (.invokestatic 69, 3) := by decide +kernel
theorem dX6_parcels_25 : decode cX6_parcels 25 = .ok (.invokevirtual 59, 3) := by decide +kernel
theorem dX6_parcels_28 : decode cX6_parcels 28 = .ok (.ifCond .eq 21, 3) := by decide +kernel
theorem dX6_parcels_31 : decode cX6_parcels 31 = .ok (.goto 14, 3) := by decide +kernel
theorem dX6_parcels_34 : decode cX6_parcels 34 = .ok (.aload_n 0, 1) := by decide +kernel
theorem dX6_parcels_35 : decode cX6_parcels 35 = .ok (.iload_n 3, 1) := by decide +kernel
theorem dX6_parcels_36 : decode cX6_parcels 36 = .ok (.invokestatic 69, 3) := by decide +kernel
theorem dX6_parcels_39 : decode cX6_parcels 39 = .ok (.invokevirtual 76, 3) := by decide +kernel
theorem dX6_parcels_42 : decode cX6_parcels 42 = .ok (.ifCond .ne 7, 3) := by decide +kernel
theorem dX6_parcels_45 : decode cX6_parcels 45 = .ok (.iconst 1, 1) := by decide +kernel
theorem dX6_parcels_46 : decode cX6_parcels 46 = .ok (.goto 4, 3) := by decide +kernel
theorem dX6_parcels_49 : decode cX6_parcels 49 = .ok (.iconst 0, 1) := by decide +kernel
theorem dX6_parcels_50 : decode cX6_parcels 50 = .ok (.iadd, 1) := by decide +kernel
theorem dX6_parcels_51 : decode cX6_parcels 51 = .ok (.istore_n 2, 1) := by decide +kernel
theorem dX6_parcels_52 : decode cX6_parcels 52 = .ok (.iinc 3 1, 3) := by decide +kernel
theorem dX6_parcels_55 : decode cX6_parcels 55 = .ok (.goto (-51), 3) := by decide +kernel
theorem dX6_parcels_58 : decode cX6_parcels 58 = .ok (.iload_n 2, 1) := by decide +kernel
theorem dX6_parcels_59 : decode cX6_parcels 59 = .ok (.ireturn, 1) := by decide +kernel
theorem dX6_lowBands_0 : decode cX6_lowBands 0 = .ok (.iconst 0, 1) := by decide +kernel
theorem dX6_lowBands_1 : decode cX6_lowBands 1 = .ok (.istore_n 1, 1) := by decide +kernel
theorem dX6_lowBands_2 : decode cX6_lowBands 2 = .ok (.iconst 0, 1) := by decide +kernel
theorem dX6_lowBands_3 : decode cX6_lowBands 3 = .ok (.istore_n 2, 1) := by decide +kernel
theorem dX6_lowBands_4 : decode cX6_lowBands 4 = .ok (.iconst 0, 1) := by decide +kernel
theorem dX6_lowBands_5 : decode cX6_lowBands 5 = .ok (.istore_n 3, 1) := by decide +kernel
theorem dX6_lowBands_6 : decode cX6_lowBands 6 = .ok (.iload_n 3, 1) := by decide +kernel
theorem dX6_lowBands_7 : decode cX6_lowBands 7 = .ok (.bipush 12, 2) := by decide +kernel
theorem dX6_lowBands_9 : decode cX6_lowBands 9 = .ok (.if_icmp .ge 42, 3) := by decide +kernel
theorem dX6_lowBands_12 : decode cX6_lowBands 12 = .ok (.iload_n 1, 1) := by decide +kernel
theorem dX6_lowBands_13 : decode cX6_lowBands 13 = .ok (.aload_n 0, 1) := by decide +kernel
theorem dX6_lowBands_14 : decode cX6_lowBands 14 = .ok (.getfield 7, 3) := by decide +kernel
theorem dX6_lowBands_17 : decode cX6_lowBands 17 = .ok (.iconst 4, 1) := by decide +kernel
theorem dX6_lowBands_18 : decode cX6_lowBands 18 = .ok (.iload_n 3, 1) := by decide +kernel
theorem dX6_lowBands_19 : decode cX6_lowBands 19 = .ok (.iadd, 1) := by decide +kernel
theorem dX6_lowBands_20 : decode cX6_lowBands 20 = .ok (.iaload, 1) := by decide +kernel
theorem dX6_lowBands_21 : decode cX6_lowBands 21 = .ok (.iload_n 2, 1) := by decide +kernel
theorem dX6_lowBands_22 : decode cX6_lowBands 22 = .ok (.if_icmp .ge 7, 3) := by decide +kernel
theorem dX6_lowBands_25 : decode cX6_lowBands 25 = .ok (.iconst 1, 1) := by decide +kernel
theorem dX6_lowBands_26 : decode cX6_lowBands 26 = .ok (.goto 4, 3) := by decide +kernel
theorem dX6_lowBands_29 : decode cX6_lowBands 29 = .ok (.iconst 0, 1) := by decide +kernel
theorem dX6_lowBands_30 : decode cX6_lowBands 30 = .ok (.iadd, 1) := by decide +kernel
theorem dX6_lowBands_31 : decode cX6_lowBands 31 = .ok (.istore_n 1, 1) := by decide +kernel
theorem dX6_lowBands_32 : decode cX6_lowBands 32 = .ok (.aload_n 0, 1) := by decide +kernel
theorem dX6_lowBands_33 : decode cX6_lowBands 33 = .ok (.getfield 7, 3) := by decide +kernel
theorem dX6_lowBands_36 : decode cX6_lowBands 36 = .ok (.iconst 4, 1) := by decide +kernel
theorem dX6_lowBands_37 : decode cX6_lowBands 37 = .ok (.iload_n 3, 1) := by decide +kernel
theorem dX6_lowBands_38 : decode cX6_lowBands 38 = .ok (.iadd, 1) := by decide +kernel
theorem dX6_lowBands_39 : decode cX6_lowBands 39 = .ok (.iaload, 1) := by decide +kernel
theorem dX6_lowBands_40 : decode cX6_lowBands 40 = .ok (.iload_n 2, 1) := by decide +kernel
theorem dX6_lowBands_41 : decode cX6_lowBands 41 = .ok (.invokestatic 49, 3) := by decide +kernel
theorem dX6_lowBands_44 : decode cX6_lowBands 44 = .ok (.istore_n 2, 1) := by decide +kernel
theorem dX6_lowBands_45 : decode cX6_lowBands 45 = .ok (.iinc 3 1, 3) := by decide +kernel
theorem dX6_lowBands_48 : decode cX6_lowBands 48 = .ok (.goto (-42), 3) := by decide +kernel
theorem dX6_lowBands_51 : decode cX6_lowBands 51 = .ok (.iload_n 1, 1) := by decide +kernel
theorem dX6_lowBands_52 : decode cX6_lowBands 52 = .ok (.ireturn, 1) := by decide +kernel
theorem dX6_counted_0 : decode cX6_counted 0 = .ok (.iload_n 1, 1) := by decide +kernel
theorem dX6_counted_1 : decode cX6_counted 1 = .ok (.tableswitch 88 0 9 #[55, 63, 63, 88, 88, 88, 88, 88, 78, 83], 55) := by decide +kernel
theorem dX6_counted_56 : decode cX6_counted 56 = .ok (.aload_n 0, 1) := by decide +kernel
theorem dX6_counted_57 : decode cX6_counted 57 = .ok (.getfield 7, 3) := by decide +kernel
theorem dX6_counted_60 : decode cX6_counted 60 = .ok (.bipush 20, 2) := by decide +kernel
theorem dX6_counted_62 : decode cX6_counted 62 = .ok (.iaload, 1) := by decide +kernel
theorem dX6_counted_63 : decode cX6_counted 63 = .ok (.ireturn, 1) := by decide +kernel
theorem dX6_counted_64 : decode cX6_counted 64 = .ok (.aload_n 0, 1) := by decide +kernel
theorem dX6_counted_65 : decode cX6_counted 65 = .ok (.iload_n 1, 1) := by decide +kernel
theorem dX6_counted_66 : decode cX6_counted 66 = .ok (.iconst 2, 1) := by decide +kernel
theorem dX6_counted_67 : decode cX6_counted 67 = .ok (.if_icmp .ne 7, 3) := by decide +kernel
theorem dX6_counted_70 : decode cX6_counted 70 = .ok (.iconst 1, 1) := by decide +kernel
theorem dX6_counted_71 : decode cX6_counted 71 = .ok (.goto 4, 3) := by decide +kernel
theorem dX6_counted_74 : decode cX6_counted 74 = .ok (.iconst 0, 1) := by decide +kernel
theorem dX6_counted_75 : decode cX6_counted 75 = .ok (.invokevirtual 171, 3) := by decide +kernel
theorem dX6_counted_78 : decode cX6_counted 78 = .ok (.ireturn, 1) := by decide +kernel
theorem dX6_counted_79 : decode cX6_counted 79 = .ok (.aload_n 0, 1) := by decide +kernel
theorem dX6_counted_80 : decode cX6_counted 80 = .ok (.invokevirtual 175, 3) := by decide +kernel
theorem dX6_counted_83 : decode cX6_counted 83 = .ok (.ireturn, 1) := by decide +kernel
theorem dX6_counted_84 : decode cX6_counted 84 = .ok (.aload_n 0, 1) := by decide +kernel
theorem dX6_counted_85 : decode cX6_counted 85 = .ok (.getfield 31, 3) := by decide +kernel
theorem dX6_counted_88 : decode cX6_counted 88 = .ok (.ireturn, 1) := by decide +kernel
theorem dX6_counted_89 : decode cX6_counted 89 = .ok (.aload_n 0, 1) := by decide +kernel
theorem dX6_counted_90 : decode cX6_counted 90 = .ok (.getfield 7, 3) := by decide +kernel
theorem dX6_counted_93 : decode cX6_counted 93 = .ok (.bipush 70, 2) := by decide +kernel
theorem dX6_counted_95 : decode cX6_counted 95 = .ok (.iload_n 1, 1) := by decide +kernel
theorem dX6_counted_96 : decode cX6_counted 96 = .ok (.iadd, 1) := by decide +kernel
theorem dX6_counted_97 : decode cX6_counted 97 = .ok (.iconst 3, 1) := by decide +kernel
theorem dX6_counted_98 : decode cX6_counted 98 = .ok (.isub, 1) := by decide +kernel
theorem dX6_counted_99 : decode cX6_counted 99 = .ok (.iaload, 1) := by decide +kernel
theorem dX6_counted_100 : decode cX6_counted 100 = .ok (.ireturn, 1) := by decide +kernel
theorem dX6_count_0 : decode cX6_count 0 = .ok (.aload_n 0, 1) := by decide +kernel
theorem dX6_count_1 : decode cX6_count 1 = .ok (.iload_n 1, 1) := by decide +kernel
theorem dX6_count_2 : decode cX6_count 2 = .ok (.iconst 0, 1) := by decide +kernel
theorem dX6_count_3 : decode cX6_count 3 = .ok (.bipush 9, 2) := by decide +kernel
theorem dX6_count_5 : decode cX6_count 5 = .ok (.invokestatic 41, 3) := by decide +kernel
theorem dX6_count_8 : decode cX6_count 8 = .ok (.iconst 1, 1) := by decide +kernel
theorem dX6_count_9 : decode cX6_count 9 = .ok (.invokevirtual 111, 3) := by decide +kernel
theorem dX6_count_12 : decode cX6_count 12 = .ok (.ifCond .eq 11, 3) := by decide +kernel
theorem dX6_count_15 : decode cX6_count 15 = .ok (.aload_n 0, 1) := by decide +kernel
theorem dX6_count_16 : decode cX6_count 16 = .ok (.iload_n 1, 1) := by decide +kernel
theorem dX6_count_17 : decode cX6_count 17 = .ok (.invokevirtual 178, 3) := by decide +kernel
theorem dX6_count_20 : decode cX6_count 20 = .ok (.goto 4, 3) := by decide +kernel
theorem dX6_count_23 : decode cX6_count 23 = .ok (.iconst 0, 1) := by decide +kernel
theorem dX6_count_24 : decode cX6_count 24 = .ok (.ireturn, 1) := by decide +kernel
theorem dX6_setting_0 : decode cX6_setting 0 = .ok (.aload_n 0, 1) := by decide +kernel
theorem dX6_setting_1 : decode cX6_setting 1 = .ok (.iload_n 1, 1) := by decide +kernel
theorem dX6_setting_2 : decode cX6_setting 2 = .ok (.iconst 0, 1) := by decide +kernel
theorem dX6_setting_3 : decode cX6_setting 3 = .ok (.iconst 3, 1) := by decide +kernel
theorem dX6_setting_4 : decode cX6_setting 4 = .ok (.invokestatic 41, 3) := by decide +kernel
theorem dX6_setting_7 : decode cX6_setting 7 = .ok (.iconst 1, 1) := by decide +kernel
theorem dX6_setting_8 : decode cX6_setting 8 = .ok (.invokevirtual 111, 3) := by decide +kernel
theorem dX6_setting_11 : decode cX6_setting 11 = .ok (.ifCond .eq 12, 3) := by decide +kernel
theorem dX6_setting_14 : decode cX6_setting 14 = .ok (.aload_n 0, 1) := by decide +kernel
theorem dX6_setting_15 : decode cX6_setting 15 = .ok (.getfield 7, 3) := by decide +kernel
theorem dX6_setting_18 : decode cX6_setting 18 = .ok (.iload_n 1, 1) := by decide +kernel
theorem dX6_setting_19 : decode cX6_setting 19 = .ok (.iaload, 1) := by decide +kernel
theorem dX6_setting_20 : decode cX6_setting 20 = .ok (.goto 4, 3) := by decide +kernel
theorem dX6_setting_23 : decode cX6_setting 23 = .ok (.iconst 0, 1) := by decide +kernel
theorem dX6_setting_24 : decode cX6_setting 24 = .ok (.ireturn, 1) := by decide +kernel
theorem dX6_wayFor_0 : decode cX6_wayFor 0 = .ok (.iconst (-1), 1) := by decide +kernel
theorem dX6_wayFor_1 : decode cX6_wayFor 1 = .ok (.istore_n 2, 1) := by decide +kernel
theorem dX6_wayFor_2 : decode cX6_wayFor 2 = .ok (.iconst 0, 1) := by decide +kernel
theorem dX6_wayFor_3 : decode cX6_wayFor 3 = .ok (.istore_n 3, 1) := by decide +kernel
theorem dX6_wayFor_4 : decode cX6_wayFor 4 = .ok (.iconst 0, 1) := by decide +kernel
theorem dX6_wayFor_5 : decode cX6_wayFor 5 = .ok (.istore 4, 2) := by decide +kernel
theorem dX6_wayFor_7 : decode cX6_wayFor 7 = .ok (.iload 4, 2) := by decide +kernel
theorem dX6_wayFor_9 : decode cX6_wayFor 9 = .ok (.bipush 7, 2) := by decide +kernel
theorem dX6_wayFor_11 : decode cX6_wayFor 11 = .ok (.if_icmp .ge 32, 3) := by decide +kernel
theorem dX6_wayFor_14 : decode cX6_wayFor 14 = .ok (.aload_n 0, 1) := by decide +kernel
theorem dX6_wayFor_15 : decode cX6_wayFor 15 = .ok (.getfield 7, 3) := by decide +kernel
theorem dX6_wayFor_18 : decode cX6_wayFor 18 = .ok (.sipush 675, 3) := by decide +kernel
theorem dX6_wayFor_21 : decode cX6_wayFor 21 = .ok (.iload 4, 2) := by decide +kernel
theorem dX6_wayFor_23 : decode cX6_wayFor 23 = .ok (.iadd, 1) := by decide +kernel
theorem dX6_wayFor_24 : decode cX6_wayFor 24 = .ok (.aload_n 0, 1) := by decide +kernel
theorem dX6_wayFor_25 : decode cX6_wayFor 25 = .ok (.getfield 7, 3) := by decide +kernel
theorem dX6_wayFor_28 : decode cX6_wayFor 28 = .ok (.iload_n 1, 1) := by decide +kernel
theorem dX6_wayFor_29 : decode cX6_wayFor 29 = .ok (.invokestatic 69, 3) := by decide +kernel
theorem dX6_wayFor_32 : decode cX6_wayFor 32 = .ok (.iload 4, 2) := by decide +kernel
theorem dX6_wayFor_34 : decode cX6_wayFor 34 = .ok (.iadd, 1) := by decide +kernel
theorem dX6_wayFor_35 : decode cX6_wayFor 35 = .ok (.iaload, 1) := by decide +kernel
theorem dX6_wayFor_36 : decode cX6_wayFor 36 = .ok (.iastore, 1) := by decide +kernel
theorem dX6_wayFor_37 : decode cX6_wayFor 37 = .ok (.iinc 4 1, 3) := by decide +kernel
theorem dX6_wayFor_40 : decode cX6_wayFor 40 = .ok (.goto (-33), 3) := by decide +kernel
theorem dX6_wayFor_43 : decode cX6_wayFor 43 = .ok (.iconst 0, 1) := by decide +kernel
theorem dX6_wayFor_44 : decode cX6_wayFor 44 = .ok (.istore 4, 2) := by decide +kernel
theorem dX6_wayFor_46 : decode cX6_wayFor 46 = .ok (.iload 4, 2) := by decide +kernel
theorem dX6_wayFor_48 : decode cX6_wayFor 48 = .ok (.iconst 3, 1) := by decide +kernel
theorem dX6_wayFor_49 : decode cX6_wayFor 49 = .ok (.if_icmp .ge 81, 3) := by decide +kernel
theorem dX6_wayFor_52 : decode cX6_wayFor 52 = .ok (.aload_n 0, 1) := by decide +kernel
theorem dX6_wayFor_53 : decode cX6_wayFor 53 = .ok (.getfield 7, 3) := by decide +kernel
theorem dX6_wayFor_56 : decode cX6_wayFor 56 = .ok (.sipush 681, 3) := by decide +kernel
theorem dX6_wayFor_59 : decode cX6_wayFor 59 = .ok (.iload 4, 2) := by decide +kernel
theorem dX6_wayFor_61 : decode cX6_wayFor 61 = .ok (.iastore, 1) := by decide +kernel
theorem dX6_wayFor_62 : decode cX6_wayFor 62 = .ok (.aload_n 0, 1) := by decide +kernel
theorem dX6_wayFor_63 : decode cX6_wayFor 63 = .ok (.sipush 675, 3) := by decide +kernel
theorem dX6_wayFor_66 : decode cX6_wayFor 66 = .ok (.invokevirtual 76, 3) := by decide +kernel
theorem dX6_wayFor_69 : decode cX6_wayFor 69 = .ok (.ifCond .ne 23, 3) := by decide +kernel
theorem dX6_wayFor_72 : decode cX6_wayFor 72 = .ok (.iload_n 2, 1) := by decide +kernel
theorem dX6_wayFor_73 : decode cX6_wayFor 73 = .ok (.iconst (-1), 1) := by decide +kernel
theorem dX6_wayFor_74 : decode cX6_wayFor 74 = .ok (.if_icmp .eq 14, 3) := by decide +kernel
theorem dX6_wayFor_77 : decode cX6_wayFor 77 = .ok (.aload_n 0, 1) := by decide +kernel
theorem dX6_wayFor_78 : decode cX6_wayFor 78 = .ok (.sipush 675, 3) := by decide +kernel
theorem dX6_wayFor_81 : decode cX6_wayFor 81 = .ok (.invokevirtual 83, 3) := by decide +kernel
theorem dX6_wayFor_84 : decode cX6_wayFor 84 = .ok (.iload_n 3, 1) := by decide +kernel
theorem dX6_wayFor_85 : decode cX6_wayFor 85 = .ok (.if_icmp .ge 7, 3) := by decide +kernel
theorem dX6_wayFor_88 : decode cX6_wayFor 88 = .ok (.iconst 1, 1) := by decide +kernel
theorem dX6_wayFor_89 : decode cX6_wayFor 89 = .ok (.goto 4, 3) := by decide +kernel
theorem dX6_wayFor_92 : decode cX6_wayFor 92 = .ok (.iconst 0, 1) := by decide +kernel
theorem dX6_wayFor_93 : decode cX6_wayFor 93 = .ok (.istore 5, 2) := by decide +kernel
theorem dX6_wayFor_95 : decode cX6_wayFor 95 = .ok (.iload 5, 2) := by decide +kernel
theorem dX6_wayFor_97 : decode cX6_wayFor 97 = .ok (.ifCond .eq 8, 3) := by decide +kernel
theorem dX6_wayFor_100 : decode cX6_wayFor 100 = .ok (.iload 4, 2) := by decide +kernel
theorem dX6_wayFor_102 : decode cX6_wayFor 102 = .ok (.goto 4, 3) := by decide +kernel
theorem dX6_wayFor_105 : decode cX6_wayFor 105 = .ok (.iload_n 2, 1) := by decide +kernel
theorem dX6_wayFor_106 : decode cX6_wayFor 106 = .ok (.istore_n 2, 1) := by decide +kernel
theorem dX6_wayFor_107 : decode cX6_wayFor 107 = .ok (.iload 5, 2) := by decide +kernel
theorem dX6_wayFor_109 : decode cX6_wayFor 109 = .ok (.ifCond .eq 13, 3) := by decide +kernel
theorem dX6_wayFor_112 : decode cX6_wayFor 112 = .ok (.aload_n 0, 1) := by decide +kernel
theorem dX6_wayFor_113 : decode cX6_wayFor 113 = .ok (.sipush 675, 3) := by decide +kernel
theorem dX6_wayFor_116 : decode cX6_wayFor 116 = .ok (.invokevirtual 83, 3) := by decide +kernel
theorem dX6_wayFor_119 : decode cX6_wayFor 119 = .ok (.goto 4, 3) := by decide +kernel
theorem dX6_wayFor_122 : decode cX6_wayFor 122 = .ok (.iload_n 3, 1) := by decide +kernel
theorem dX6_wayFor_123 : decode cX6_wayFor 123 = .ok (.istore_n 3, 1) := by decide +kernel
theorem dX6_wayFor_124 : decode cX6_wayFor 124 = .ok (.iinc 4 1, 3) := by decide +kernel
theorem dX6_wayFor_127 : decode cX6_wayFor 127 = .ok (.goto (-81), 3) := by decide +kernel
theorem dX6_wayFor_130 : decode cX6_wayFor 130 = .ok (.iload_n 2, 1) := by decide +kernel
theorem dX6_wayFor_131 : decode cX6_wayFor 131 = .ok (.ireturn, 1) := by decide +kernel
theorem dX6_cheapestWay_0 : decode cX6_cheapestWay 0 = .ok (.aload_n 0, 1) := by decide +kernel
theorem dX6_cheapestWay_1 : decode cX6_cheapestWay 1 = .ok (.aload_n 0, 1) := by decide +kernel
theorem dX6_cheapestWay_2 : decode cX6_cheapestWay 2 = .ok (.iload_n 1, 1) := by decide +kernel
theorem dX6_cheapestWay_3 : decode cX6_cheapestWay 3 = .ok (.invokevirtual 119, 3) := by decide +kernel
theorem dX6_cheapestWay_6 : decode cX6_cheapestWay 6 = .ok (.iconst 1, 1) := by decide +kernel
theorem dX6_cheapestWay_7 : decode cX6_cheapestWay 7 = .ok (.invokevirtual 111, 3) := by decide +kernel
theorem dX6_cheapestWay_10 : decode cX6_cheapestWay 10 = .ok (.ifCond .eq 11, 3) := by decide +kernel
theorem dX6_cheapestWay_13 : decode cX6_cheapestWay 13 = .ok (.aload_n 0, 1) := by decide +kernel
theorem dX6_cheapestWay_14 : decode cX6_cheapestWay 14 = .ok (.iload_n 1, 1) := by decide +kernel
theorem dX6_cheapestWay_15 : decode cX6_cheapestWay 15 = .ok (.invokevirtual 181, 3) := by decide +kernel
theorem dX6_cheapestWay_18 : decode cX6_cheapestWay 18 = .ok (.goto 4, 3) := by decide +kernel
theorem dX6_cheapestWay_21 : decode cX6_cheapestWay 21 = .ok (.iconst 0, 1) := by decide +kernel
theorem dX6_cheapestWay_22 : decode cX6_cheapestWay 22 = .ok (.ireturn, 1) := by decide +kernel
theorem dX6_ifBundled_0 : decode cX6_ifBundled 0 = .ok (.aload_n 0, 1) := by decide +kernel
theorem dX6_ifBundled_1 : decode cX6_ifBundled 1 = .ok (.aload_n 0, 1) := by decide +kernel
theorem dX6_ifBundled_2 : decode cX6_ifBundled 2 = .ok (.iload_n 1, 1) := by decide +kernel
theorem dX6_ifBundled_3 : decode cX6_ifBundled 3 = .ok (.invokevirtual 119, 3) := by decide +kernel
theorem dX6_ifBundled_6 : decode cX6_ifBundled 6 = .ok (.ifCond .eq 15, 3) := by decide +kernel
theorem dX6_ifBundled_9 : decode cX6_ifBundled 9 = .ok (.aload_n 0, 1) := by decide +kernel
theorem dX6_ifBundled_10 : decode cX6_ifBundled 10 = .ok (.iload_n 2, 1) := by decide +kernel
theorem dX6_ifBundled_11 : decode cX6_ifBundled 11 = .ok (.invokevirtual 119, 3) := by decide +kernel
theorem dX6_ifBundled_14 : decode cX6_ifBundled 14 = .ok (.ifCond .eq 7, 3) := by decide +kernel
theorem dX6_ifBundled_17 : decode cX6_ifBundled 17 = .ok (.iconst 1, 1) := by decide +kernel
theorem dX6_ifBundled_18 : decode cX6_ifBundled 18 = .ok (.goto 4, 3) := by decide +kernel
theorem dX6_ifBundled_21 : decode cX6_ifBundled 21 = .ok (.iconst 0, 1) := by decide +kernel
theorem dX6_ifBundled_22 : decode cX6_ifBundled 22 = .ok (.iload_n 1, 1) := by decide +kernel
theorem dX6_ifBundled_23 : decode cX6_ifBundled 23 = .ok (.iload_n 2, 1) := by decide +kernel
theorem dX6_ifBundled_24 : decode cX6_ifBundled 24 = .ok (.if_icmp .eq 7, 3) := by decide +kernel
theorem dX6_ifBundled_27 : decode cX6_ifBundled 27 = .ok (.iconst 1, 1) := by decide +kernel
theorem dX6_ifBundled_28 : decode cX6_ifBundled 28 = .ok (.goto 4, 3) := by decide +kernel
theorem dX6_ifBundled_31 : decode cX6_ifBundled 31 = .ok (.iconst 0, 1) := by decide +kernel
theorem dX6_ifBundled_32 : decode cX6_ifBundled 32 = .ok (.invokevirtual 111, 3) := by decide +kernel
theorem dX6_ifBundled_35 : decode cX6_ifBundled 35 = .ok (.ifCond .eq 12, 3) := by decide +kernel
theorem dX6_ifBundled_38 : decode cX6_ifBundled 38 = .ok (.aload_n 0, 1) := by decide +kernel
theorem dX6_ifBundled_39 : decode cX6_ifBundled 39 = .ok (.iload_n 1, 1) := by decide +kernel
theorem dX6_ifBundled_40 : decode cX6_ifBundled 40 = .ok (.iload_n 2, 1) := by decide +kernel
theorem dX6_ifBundled_41 : decode cX6_ifBundled 41 = .ok (.invokevirtual 89, 3) := by decide +kernel
theorem dX6_ifBundled_44 : decode cX6_ifBundled 44 = .ok (.goto 4, 3) := by decide +kernel
theorem dX6_ifBundled_47 : decode cX6_ifBundled 47 = .ok (.iconst 0, 1) := by decide +kernel
theorem dX6_ifBundled_48 : decode cX6_ifBundled 48 = .ok (.ireturn, 1) := by decide +kernel
theorem dX6_cheapest_0 : decode cX6_cheapest 0 = .ok (.aload_n 0, 1) := by decide +kernel
theorem dX6_cheapest_1 : decode cX6_cheapest 1 = .ok (.iload_n 1, 1) := by decide +kernel
theorem dX6_cheapest_2 : decode cX6_cheapest 2 = .ok (.iconst 0, 1) := by decide +kernel
theorem dX6_cheapest_3 : decode cX6_cheapest 3 = .ok (.iconst 1, 1) := by decide +kernel
theorem dX6_cheapest_4 : decode cX6_cheapest 4 = .ok (.invokestatic 41, 3) := by decide +kernel
theorem dX6_cheapest_7 : decode cX6_cheapest 7 = .ok (.iconst 1, 1) := by decide +kernel
theorem dX6_cheapest_8 : decode cX6_cheapest 8 = .ok (.invokevirtual 111, 3) := by decide +kernel
theorem dX6_cheapest_11 : decode cX6_cheapest 11 = .ok (.ifCond .eq 11, 3) := by decide +kernel
theorem dX6_cheapest_14 : decode cX6_cheapest 14 = .ok (.aload_n 0, 1) := by decide +kernel
theorem dX6_cheapest_15 : decode cX6_cheapest 15 = .ok (.iload_n 1, 1) := by decide +kernel
theorem dX6_cheapest_16 : decode cX6_cheapest 16 = .ok (.invokevirtual 184, 3) := by decide +kernel
theorem dX6_cheapest_19 : decode cX6_cheapest 19 = .ok (.goto 4, 3) := by decide +kernel
theorem dX6_cheapest_22 : decode cX6_cheapest 22 = .ok (.iconst 0, 1) := by decide +kernel
theorem dX6_cheapest_23 : decode cX6_cheapest 23 = .ok (.ireturn, 1) := by decide +kernel
theorem dX6_dearestParcel_0 : decode cX6_dearestParcel 0 = .ok (.iconst (-1), 1) := by decide +kernel
theorem dX6_dearestParcel_1 : decode cX6_dearestParcel 1 = .ok (.istore_n 1, 1) := by decide +kernel
theorem dX6_dearestParcel_2 : decode cX6_dearestParcel 2 = .ok (.iconst 0, 1) := by decide +kernel
theorem dX6_dearestParcel_3 : decode cX6_dearestParcel 3 = .ok (.istore_n 2, 1) := by decide +kernel
theorem dX6_dearestParcel_4 : decode cX6_dearestParcel 4 = .ok (.iload_n 2, 1) := by decide +kernel
theorem dX6_dearestParcel_5 : decode cX6_dearestParcel 5 = .ok (.aload_n 0, 1) := by decide +kernel
theorem dX6_dearestParcel_6 : decode cX6_dearestParcel 6 = .ok (.getfield 7, 3) := by decide +kernel
theorem dX6_dearestParcel_9 : decode cX6_dearestParcel 9 = .ok (.bipush 20, 2) := by decide +kernel
theorem dX6_dearestParcel_11 : decode cX6_dearestParcel 11 = .ok (.iaload, 1) := by decide +kernel
theorem dX6_dearestParcel_12 : decode cX6_dearestParcel 12 = .ok (.if_icmp .ge 50, 3) := by decide +kernel
theorem dX6_dearestParcel_15 : decode cX6_dearestParcel 15 = .ok (.aload_n 0, 1) := by decide +kernel
theorem dX6_dearestParcel_16 : decode cX6_dearestParcel 16 = .ok (.iload_n 2, 1) := by decide +kernel
theorem dX6_dearestParcel_17 : decode cX6_dearestParcel 17 = .ok (.invokestatic 69, 3) := by decide +kernel
theorem dX6_dearestParcel_20 : decode cX6_dearestParcel 20 = .ok (.invokevirtual 76, 3) := by decide +kernel
theorem dX6_dearestParcel_23 : decode cX6_dearestParcel 23 = .ok (.ifCond .ne 31, 3) := by decide +kernel
theorem dX6_dearestParcel_26 : decode cX6_dearestParcel 26 = .ok (.iload_n 1, 1) := by decide +kernel
theorem dX6_dearestParcel_27 : decode cX6_dearestParcel 27 = .ok (.iconst (-1), 1) := by decide +kernel
theorem dX6_dearestParcel_28 : decode cX6_dearestParcel 28 = .ok (.if_icmp .eq 22, 3) := by decide +kernel
theorem dX6_dearestParcel_31 : decode cX6_dearestParcel 31 = .ok (.aload_n 0, 1) := by decide +kernel
theorem dX6_dearestParcel_32 : decode cX6_dearestParcel 32 = .ok (.iload_n 2, 1) := by decide +kernel
theorem dX6_dearestParcel_33 : decode cX6_dearestParcel 33 = .ok (.invokestatic 69, 3) := by decide +kernel
theorem dX6_dearestParcel_36 : decode cX6_dearestParcel 36 = .ok (.invokevirtual 83, 3) := by decide +kernel
theorem dX6_dearestParcel_39 : decode cX6_dearestParcel 39 = .ok (.aload_n 0, 1) := by decide +kernel
theorem dX6_dearestParcel_40 : decode cX6_dearestParcel 40 = .ok (.iload_n 1, 1) := by decide +kernel
theorem dX6_dearestParcel_41 : decode cX6_dearestParcel 41 = .ok (.invokestatic 69, 3) := by decide +kernel
theorem dX6_dearestParcel_44 : decode cX6_dearestParcel 44 = .ok (.invokevirtual 83, 3) := by decide +kernel
theorem dX6_dearestParcel_47 : decode cX6_dearestParcel 47 = .ok (.if_icmp .le 7, 3) := by decide +kernel
theorem dX6_dearestParcel_50 : decode cX6_dearestParcel 50 = .ok (.iload_n 2, 1) := by decide +kernel
theorem dX6_dearestParcel_51 : decode cX6_dearestParcel 51 = .ok (.goto 4, 3) := by decide +kernel
theorem dX6_dearestParcel_54 : decode cX6_dearestParcel 54 = .ok (.iload_n 1, 1) := by decide +kernel
theorem dX6_dearestParcel_55 : decode cX6_dearestParcel 55 = .ok (.istore_n 1, 1) := by decide +kernel
theorem dX6_dearestParcel_56 : decode cX6_dearestParcel 56 = .ok (.iinc 2 1, 3) := by decide +kernel
theorem dX6_dearestParcel_59 : decode cX6_dearestParcel 59 = .ok (.goto (-55), 3) := by decide +kernel
theorem dX6_dearestParcel_62 : decode cX6_dearestParcel 62 = .ok (.iload_n 1, 1) := by decide +kernel
theorem dX6_dearestParcel_63 : decode cX6_dearestParcel 63 = .ok (.ireturn, 1) := by decide +kernel
theorem dX6_dearest_0 : decode cX6_dearest 0 = .ok (.aload_n 0, 1) := by decide +kernel
theorem dX6_dearest_1 : decode cX6_dearest 1 = .ok (.iconst 0, 1) := by decide +kernel
theorem dX6_dearest_2 : decode cX6_dearest 2 = .ok (.putfield 27, 3) := by decide +kernel
theorem dX6_dearest_5 : decode cX6_dearest 5 = .ok (.aload_n 0, 1) := by decide +kernel
theorem dX6_dearest_6 : decode cX6_dearest 6 = .ok (.invokevirtual 187, 3) := by decide +kernel
theorem dX6_dearest_9 : decode cX6_dearest 9 = .ok (.ireturn, 1) := by decide +kernel
theorem dX6_savedShare_0 : decode cX6_savedShare 0 = .ok (.aload_n 0, 1) := by decide +kernel
theorem dX6_savedShare_1 : decode cX6_savedShare 1 = .ok (.iconst 0, 1) := by decide +kernel
theorem dX6_savedShare_2 : decode cX6_savedShare 2 = .ok (.putfield 27, 3) := by decide +kernel
theorem dX6_savedShare_5 : decode cX6_savedShare 5 = .ok (.iconst 0, 1) := by decide +kernel
theorem dX6_savedShare_6 : decode cX6_savedShare 6 = .ok (.istore_n 1, 1) := by decide +kernel
theorem dX6_savedShare_7 : decode cX6_savedShare 7 = .ok (.iconst 0, 1) := by decide +kernel
theorem dX6_savedShare_8 : decode cX6_savedShare 8 = .ok (.istore_n 2, 1) := by decide +kernel
theorem dX6_savedShare_9 : decode cX6_savedShare 9 = .ok (.iload_n 2, 1) := by decide +kernel
theorem dX6_savedShare_10 : decode cX6_savedShare 10 = .ok (.aload_n 0, 1) := by decide +kernel
theorem dX6_savedShare_11 : decode cX6_savedShare 11 = .ok (.getfield 7, 3) := by decide +kernel
theorem dX6_savedShare_14 : decode cX6_savedShare 14 = .ok (.bipush 20, 2) := by decide +kernel
theorem dX6_savedShare_16 : decode cX6_savedShare 16 = .ok (.iaload, 1) := by decide +kernel
theorem dX6_savedShare_17 : decode cX6_savedShare 17 = .ok (.if_icmp .ge 17, 3) := by decide +kernel
theorem dX6_savedShare_20 : decode cX6_savedShare 20 = .ok (.iload_n 1, 1) := by decide +kernel
theorem dX6_savedShare_21 : decode cX6_savedShare 21 = .ok (.aload_n 0, 1) := by decide +kernel
theorem dX6_savedShare_22 : decode cX6_savedShare 22 = .ok (.iload_n 2, 1) := by decide +kernel
theorem dX6_savedShare_23 : decode cX6_savedShare 23 = .ok (.invokevirtual 86, 3) := by decide +kernel
theorem dX6_savedShare_26 : decode cX6_savedShare 26 = .ok (.iadd, 1) := by decide +kernel
theorem dX6_savedShare_27 : decode cX6_savedShare 27 = .ok (.istore_n 1, 1) := by decide +kernel
theorem dX6_savedShare_28 : decode cX6_savedShare 28 = .ok (.iinc 2 1, 3) := by decide +kernel
theorem dX6_savedShare_31 : decode cX6_savedShare 31 = .ok (.goto (-22), 3) := by decide +kernel
theorem dX6_savedShare_34 : decode cX6_savedShare 34 = .ok (.iload_n 1, 1) := by decide +kernel
theorem dX6_savedShare_35 : decode cX6_savedShare 35 = .ok (.ifCond .ne 7, 3) := by decide +kernel
theorem dX6_savedShare_38 : decode cX6_savedShare 38 = .ok (.dconst 0, 1) := by decide +kernel
theorem dX6_savedShare_39 : decode cX6_savedShare 39 = .ok (.goto 13, 3) := by decide +kernel
theorem dX6_savedShare_42 : decode cX6_savedShare 42 = .ok (.iload_n 1, 1) := by decide +kernel
theorem dX6_savedShare_43 : decode cX6_savedShare 43 = .ok (.aload_n 0, 1) := by decide +kernel
end
section
theorem dX6_savedShare_44 : decode cX6_savedShare 44 = .ok (.invokevirtual 101, 3) := by decide +kernel
theorem dX6_savedShare_47 : decode cX6_savedShare 47 = .ok (.isub, 1) := by decide +kernel
theorem dX6_savedShare_48 : decode cX6_savedShare 48 = .ok (.i2d, 1) := by decide +kernel
theorem dX6_savedShare_49 : decode cX6_savedShare 49 = .ok (.iload_n 1, 1) := by decide +kernel
theorem dX6_savedShare_50 : decode cX6_savedShare 50 = .ok (.i2d, 1) := by decide +kernel
theorem dX6_savedShare_51 : decode cX6_savedShare 51 = .ok (.ddiv, 1) := by decide +kernel
theorem dX6_savedShare_52 : decode cX6_savedShare 52 = .ok (.dreturn, 1) := by decide +kernel
theorem dX6_ofParcel_0 : decode cX6_ofParcel 0 = .ok (.lload_n 1, 1) := by decide +kernel
theorem dX6_ofParcel_1 : decode cX6_ofParcel 1 = .ok (.lstore 4, 2) := by decide +kernel
theorem dX6_ofParcel_3 : decode cX6_ofParcel 3 = .ok (.iconst 0, 1) := by decide +kernel
theorem dX6_ofParcel_4 : decode cX6_ofParcel 4 = .ok (.istore 6, 2) := by decide +kernel
theorem dX6_ofParcel_6 : decode cX6_ofParcel 6 = .ok (.iload 6, 2) := by decide +kernel
theorem dX6_ofParcel_8 : decode cX6_ofParcel 8 = .ok (.bipush 11, 2) := by decide +kernel
theorem dX6_ofParcel_10 : decode cX6_ofParcel 10 = .ok (.if_icmp .ge 26, 3) := by decide +kernel
theorem dX6_ofParcel_13 : decode cX6_ofParcel 13 = .ok (.ldc2_w 190, 3) := by decide +kernel
theorem dX6_ofParcel_16 : decode cX6_ofParcel 16 = .ok (.lload 4, 2) := by decide +kernel
theorem dX6_ofParcel_18 : decode cX6_ofParcel 18 = .ok (.lmul, 1) := by decide +kernel
theorem dX6_ofParcel_19 : decode cX6_ofParcel 19 = .ok (.aload_n 0, 1) := by decide +kernel
theorem dX6_ofParcel_20 : decode cX6_ofParcel 20 = .ok (.iload_n 3, 1) := by decide +kernel
theorem dX6_ofParcel_21 : decode cX6_ofParcel 21 = .ok (.iload 6, 2) := by decide +kernel
theorem dX6_ofParcel_23 : decode cX6_ofParcel 23 = .ok (.invokevirtual 162, 3) := by decide +kernel
theorem dX6_ofParcel_26 : decode cX6_ofParcel 26 = .ok (.i2l, 1) := by decide +kernel
theorem dX6_ofParcel_27 : decode cX6_ofParcel 27 = .ok (.ladd, 1) := by decide +kernel
theorem dX6_ofParcel_28 : decode cX6_ofParcel 28 = .ok (.lstore 4, 2) := by decide +kernel
theorem dX6_ofParcel_30 : decode cX6_ofParcel 30 = .ok (.iinc 6 1, 3) := by decide +kernel
theorem dX6_ofParcel_33 : decode cX6_ofParcel 33 = .ok (.goto (-27), 3) := by decide +kernel
theorem dX6_ofParcel_36 : decode cX6_ofParcel 36 = .ok (.ldc2_w 190, 3) := by decide +kernel
theorem dX6_ofParcel_39 : decode cX6_ofParcel 39 = .ok (.lload 4, 2) := by decide +kernel
theorem dX6_ofParcel_41 : decode cX6_ofParcel 41 = .ok (.lmul, 1) := by decide +kernel
theorem dX6_ofParcel_42 : decode cX6_ofParcel 42 = .ok (.aload_n 0, 1) := by decide +kernel
theorem dX6_ofParcel_43 : decode cX6_ofParcel 43 = .ok (.iload_n 3, 1) := by decide +kernel
theorem dX6_ofParcel_44 : decode cX6_ofParcel 44 = .ok (.invokevirtual 181, 3) := by decide +kernel
theorem dX6_ofParcel_47 : decode cX6_ofParcel 47 = .ok (.i2l, 1) := by decide +kernel
theorem dX6_ofParcel_48 : decode cX6_ofParcel 48 = .ok (.ladd, 1) := by decide +kernel
theorem dX6_ofParcel_49 : decode cX6_ofParcel 49 = .ok (.lstore 4, 2) := by decide +kernel
theorem dX6_ofParcel_51 : decode cX6_ofParcel 51 = .ok (.iconst 0, 1) := by decide +kernel
theorem dX6_ofParcel_52 : decode cX6_ofParcel 52 = .ok (.istore 6, 2) := by decide +kernel
theorem dX6_ofParcel_54 : decode cX6_ofParcel 54 = .ok (.iload 6, 2) := by decide +kernel
theorem dX6_ofParcel_56 : decode cX6_ofParcel 56 = .ok (.aload_n 0, 1) := by decide +kernel
theorem dX6_ofParcel_57 : decode cX6_ofParcel 57 = .ok (.getfield 7, 3) := by decide +kernel
theorem dX6_ofParcel_60 : decode cX6_ofParcel 60 = .ok (.bipush 20, 2) := by decide +kernel
theorem dX6_ofParcel_62 : decode cX6_ofParcel 62 = .ok (.iaload, 1) := by decide +kernel
theorem dX6_ofParcel_63 : decode cX6_ofParcel 63 = .ok (.if_icmp .ge 37, 3) := by decide +kernel
theorem dX6_ofParcel_66 : decode cX6_ofParcel 66 = .ok (.iload 6, 2) := by decide +kernel
theorem dX6_ofParcel_68 : decode cX6_ofParcel 68 = .ok (.iload_n 3, 1) := by decide +kernel
theorem dX6_ofParcel_69 : decode cX6_ofParcel 69 = .ok (.if_icmp .ne 8, 3) := by decide +kernel
theorem dX6_ofParcel_72 : decode cX6_ofParcel 72 = .ok (.lload 4, 2) := by decide +kernel
theorem dX6_ofParcel_74 : decode cX6_ofParcel 74 = .ok (.goto 18, 3) := by decide +kernel
theorem dX6_ofParcel_77 : decode cX6_ofParcel 77 = .ok (.ldc2_w 190, 3) := by decide +kernel
theorem dX6_ofParcel_80 : decode cX6_ofParcel 80 = .ok (.lload 4, 2) := by decide +kernel
theorem dX6_ofParcel_82 : decode cX6_ofParcel 82 = .ok (.lmul, 1) := by decide +kernel
theorem dX6_ofParcel_83 : decode cX6_ofParcel 83 = .ok (.aload_n 0, 1) := by decide +kernel
theorem dX6_ofParcel_84 : decode cX6_ofParcel 84 = .ok (.iload_n 3, 1) := by decide +kernel
theorem dX6_ofParcel_85 : decode cX6_ofParcel 85 = .ok (.iload 6, 2) := by decide +kernel
theorem dX6_ofParcel_87 : decode cX6_ofParcel 87 = .ok (.invokevirtual 89, 3) := by decide +kernel
theorem dX6_ofParcel_90 : decode cX6_ofParcel 90 = .ok (.i2l, 1) := by decide +kernel
theorem dX6_ofParcel_91 : decode cX6_ofParcel 91 = .ok (.ladd, 1) := by decide +kernel
theorem dX6_ofParcel_92 : decode cX6_ofParcel 92 = .ok (.lstore 4, 2) := by decide +kernel
theorem dX6_ofParcel_94 : decode cX6_ofParcel 94 = .ok (.iinc 6 1, 3) := by decide +kernel
theorem dX6_ofParcel_97 : decode cX6_ofParcel 97 = .ok (.goto (-43), 3) := by decide +kernel
theorem dX6_ofParcel_100 : decode cX6_ofParcel 100 = .ok (.lload 4, 2) := by decide +kernel
theorem dX6_ofParcel_102 : decode cX6_ofParcel 102 = .ok (.lreturn, 1) := by decide +kernel
theorem dX6_digest_0 : decode cX6_digest 0 = .ok (.ldc2_w 192, 3) := by decide +kernel
theorem dX6_digest_3 : decode cX6_digest 3 = .ok (.lstore_n 1, 1) := by decide +kernel
theorem dX6_digest_4 : decode cX6_digest 4 = .ok (.iconst 0, 1) := by decide +kernel
theorem dX6_digest_5 : decode cX6_digest 5 = .ok (.istore_n 3, 1) := by decide +kernel
theorem dX6_digest_6 : decode cX6_digest 6 = .ok (.iload_n 3, 1) := by decide +kernel
theorem dX6_digest_7 : decode cX6_digest 7 = .ok (.bipush 10, 2) := by decide +kernel
theorem dX6_digest_9 : decode cX6_digest 9 = .ok (.if_icmp .ge 22, 3) := by decide +kernel
theorem dX6_digest_12 : decode cX6_digest 12 = .ok (.ldc2_w 190, 3) := by decide +kernel
theorem dX6_digest_15 : decode cX6_digest 15 = .ok (.lload_n 1, 1) := by decide +kernel
theorem dX6_digest_16 : decode cX6_digest 16 = .ok (.lmul, 1) := by decide +kernel
theorem dX6_digest_17 : decode cX6_digest 17 = .ok (.aload_n 0, 1) := by decide +kernel
theorem dX6_digest_18 : decode cX6_digest 18 = .ok (.iload_n 3, 1) := by decide +kernel
theorem dX6_digest_19 : decode cX6_digest 19 = .ok (.invokevirtual 178, 3) := by decide +kernel
theorem dX6_digest_22 : decode cX6_digest 22 = .ok (.i2l, 1) := by decide +kernel
theorem dX6_digest_23 : decode cX6_digest 23 = .ok (.ladd, 1) := by decide +kernel
theorem dX6_digest_24 : decode cX6_digest 24 = .ok (.lstore_n 1, 1) := by decide +kernel
theorem dX6_digest_25 : decode cX6_digest 25 = .ok (.iinc 3 1, 3) := by decide +kernel
theorem dX6_digest_28 : decode cX6_digest 28 = .ok (.goto (-22), 3) := by decide +kernel
theorem dX6_digest_31 : decode cX6_digest 31 = .ok (.iconst 0, 1) := by decide +kernel
theorem dX6_digest_32 : decode cX6_digest 32 = .ok (.istore_n 3, 1) := by decide +kernel
theorem dX6_digest_33 : decode cX6_digest 33 = .ok (.iload_n 3, 1) := by decide +kernel
theorem dX6_digest_34 : decode cX6_digest 34 = .ok (.bipush 20, 2) := by decide +kernel
theorem dX6_digest_36 : decode cX6_digest 36 = .ok (.if_icmp .ge 23, 3) := by decide +kernel
theorem dX6_digest_39 : decode cX6_digest 39 = .ok (.ldc2_w 190, 3) := by decide +kernel
theorem dX6_digest_42 : decode cX6_digest 42 = .ok (.lload_n 1, 1) := by decide +kernel
theorem dX6_digest_43 : decode cX6_digest 43 = .ok (.lmul, 1) := by decide +kernel
theorem dX6_digest_44 : decode cX6_digest 44 = .ok (.aload_n 0, 1) := by decide +kernel
theorem dX6_digest_45 : decode cX6_digest 45 = .ok (.getfield 7, 3) := by decide +kernel
theorem dX6_digest_48 : decode cX6_digest 48 = .ok (.iload_n 3, 1) := by decide +kernel
theorem dX6_digest_49 : decode cX6_digest 49 = .ok (.iaload, 1) := by decide +kernel
theorem dX6_digest_50 : decode cX6_digest 50 = .ok (.i2l, 1) := by decide +kernel
theorem dX6_digest_51 : decode cX6_digest 51 = .ok (.ladd, 1) := by decide +kernel
theorem dX6_digest_52 : decode cX6_digest 52 = .ok (.lstore_n 1, 1) := by decide +kernel
theorem dX6_digest_53 : decode cX6_digest 53 = .ok (.iinc 3 1, 3) := by decide +kernel
theorem dX6_digest_56 : decode cX6_digest 56 = .ok (.goto (-23), 3) := by decide +kernel
theorem dX6_digest_59 : decode cX6_digest 59 = .ok (.ldc2_w 190, 3) := by decide +kernel
theorem dX6_digest_62 : decode cX6_digest 62 = .ok (.lload_n 1, 1) := by decide +kernel
theorem dX6_digest_63 : decode cX6_digest 63 = .ok (.lmul, 1) := by decide +kernel
theorem dX6_digest_64 : decode cX6_digest 64 = .ok (.aload_n 0, 1) := by decide +kernel
theorem dX6_digest_65 : decode cX6_digest 65 = .ok (.bipush 120, 2) := by decide +kernel
theorem dX6_digest_67 : decode cX6_digest 67 = .ok (.iconst 0, 1) := by decide +kernel
theorem dX6_digest_68 : decode cX6_digest 68 = .ok (.invokevirtual 168, 3) := by decide +kernel
theorem dX6_digest_71 : decode cX6_digest 71 = .ok (.i2l, 1) := by decide +kernel
theorem dX6_digest_72 : decode cX6_digest 72 = .ok (.ladd, 1) := by decide +kernel
theorem dX6_digest_73 : decode cX6_digest 73 = .ok (.lstore_n 1, 1) := by decide +kernel
theorem dX6_digest_74 : decode cX6_digest 74 = .ok (.ldc2_w 190, 3) := by decide +kernel
theorem dX6_digest_77 : decode cX6_digest 77 = .ok (.lload_n 1, 1) := by decide +kernel
theorem dX6_digest_78 : decode cX6_digest 78 = .ok (.lmul, 1) := by decide +kernel
theorem dX6_digest_79 : decode cX6_digest 79 = .ok (.aload_n 0, 1) := by decide +kernel
theorem dX6_digest_80 : decode cX6_digest 80 = .ok (.bipush 120, 2) := by decide +kernel
theorem dX6_digest_82 : decode cX6_digest 82 = .ok (.iconst 1, 1) := by decide +kernel
theorem dX6_digest_83 : decode cX6_digest 83 = .ok (.invokevirtual 168, 3) := by decide +kernel
theorem dX6_digest_86 : decode cX6_digest 86 = .ok (.i2l, 1) := by decide +kernel
theorem dX6_digest_87 : decode cX6_digest 87 = .ok (.ladd, 1) := by decide +kernel
theorem dX6_digest_88 : decode cX6_digest 88 = .ok (.lstore_n 1, 1) := by decide +kernel
theorem dX6_digest_89 : decode cX6_digest 89 = .ok (.ldc2_w 190, 3) := by decide +kernel
theorem dX6_digest_92 : decode cX6_digest 92 = .ok (.lload_n 1, 1) := by decide +kernel
theorem dX6_digest_93 : decode cX6_digest 93 = .ok (.lmul, 1) := by decide +kernel
theorem dX6_digest_94 : decode cX6_digest 94 = .ok (.aload_n 0, 1) := by decide +kernel
theorem dX6_digest_95 : decode cX6_digest 95 = .ok (.sipush 999, 3) := by decide +kernel
theorem dX6_digest_98 : decode cX6_digest 98 = .ok (.iconst 0, 1) := by decide +kernel
theorem dX6_digest_99 : decode cX6_digest 99 = .ok (.invokevirtual 168, 3) := by decide +kernel
theorem dX6_digest_102 : decode cX6_digest 102 = .ok (.i2l, 1) := by decide +kernel
theorem dX6_digest_103 : decode cX6_digest 103 = .ok (.ladd, 1) := by decide +kernel
theorem dX6_digest_104 : decode cX6_digest 104 = .ok (.lstore_n 1, 1) := by decide +kernel
theorem dX6_digest_105 : decode cX6_digest 105 = .ok (.ldc2_w 190, 3) := by decide +kernel
theorem dX6_digest_108 : decode cX6_digest 108 = .ok (.lload_n 1, 1) := by decide +kernel
theorem dX6_digest_109 : decode cX6_digest 109 = .ok (.lmul, 1) := by decide +kernel
theorem dX6_digest_110 : decode cX6_digest 110 = .ok (.aload_n 0, 1) := by decide +kernel
theorem dX6_digest_111 : decode cX6_digest 111 = .ok (.sipush 999, 3) := by decide +kernel
theorem dX6_digest_114 : decode cX6_digest 114 = .ok (.iconst 1, 1) := by decide +kernel
theorem dX6_digest_115 : decode cX6_digest 115 = .ok (.invokevirtual 168, 3) := by decide +kernel
theorem dX6_digest_118 : decode cX6_digest 118 = .ok (.i2l, 1) := by decide +kernel
theorem dX6_digest_119 : decode cX6_digest 119 = .ok (.ladd, 1) := by decide +kernel
theorem dX6_digest_120 : decode cX6_digest 120 = .ok (.lstore_n 1, 1) := by decide +kernel
theorem dX6_digest_121 : decode cX6_digest 121 = .ok (.iconst 0, 1) := by decide +kernel
theorem dX6_digest_122 : decode cX6_digest 122 = .ok (.istore_n 3, 1) := by decide +kernel
theorem dX6_digest_123 : decode cX6_digest 123 = .ok (.iload_n 3, 1) := by decide +kernel
theorem dX6_digest_124 : decode cX6_digest 124 = .ok (.aload_n 0, 1) := by decide +kernel
theorem dX6_digest_125 : decode cX6_digest 125 = .ok (.getfield 7, 3) := by decide +kernel
theorem dX6_digest_128 : decode cX6_digest 128 = .ok (.bipush 20, 2) := by decide +kernel
theorem dX6_digest_130 : decode cX6_digest 130 = .ok (.iaload, 1) := by decide +kernel
theorem dX6_digest_131 : decode cX6_digest 131 = .ok (.if_icmp .ge 16, 3) := by decide +kernel
theorem dX6_digest_134 : decode cX6_digest 134 = .ok (.aload_n 0, 1) := by decide +kernel
theorem dX6_digest_135 : decode cX6_digest 135 = .ok (.lload_n 1, 1) := by decide +kernel
theorem dX6_digest_136 : decode cX6_digest 136 = .ok (.iload_n 3, 1) := by decide +kernel
theorem dX6_digest_137 : decode cX6_digest 137 = .ok (.invokevirtual 194, 3) := by decide +kernel
theorem dX6_digest_140 : decode cX6_digest 140 = .ok (.lstore_n 1, 1) := by decide +kernel
theorem dX6_digest_141 : decode cX6_digest 141 = .ok (.iinc 3 1, 3) := by decide +kernel
theorem dX6_digest_144 : decode cX6_digest 144 = .ok (.goto (-21), 3) := by decide +kernel
theorem dX6_digest_147 : decode cX6_digest 147 = .ok (.ldc2_w 190, 3) := by decide +kernel
theorem dX6_digest_150 : decode cX6_digest 150 = .ok (.lload_n 1, 1) := by decide +kernel
theorem dX6_digest_151 : decode cX6_digest 151 = .ok (.lmul, 1) := by decide +kernel
theorem dX6_digest_152 : decode cX6_digest 152 = .ok (.aload_n 0, 1) := by decide +kernel
theorem dX6_digest_153 : decode cX6_digest 153 = .ok (.iconst 0, 1) := by decide +kernel
theorem dX6_digest_154 : decode cX6_digest 154 = .ok (.invokevirtual 184, 3) := by decide +kernel
theorem dX6_digest_157 : decode cX6_digest 157 = .ok (.i2l, 1) := by decide +kernel
theorem dX6_digest_158 : decode cX6_digest 158 = .ok (.ladd, 1) := by decide +kernel
theorem dX6_digest_159 : decode cX6_digest 159 = .ok (.lstore_n 1, 1) := by decide +kernel
theorem dX6_digest_160 : decode cX6_digest 160 = .ok (.ldc2_w 190, 3) := by decide +kernel
theorem dX6_digest_163 : decode cX6_digest 163 = .ok (.lload_n 1, 1) := by decide +kernel
theorem dX6_digest_164 : decode cX6_digest 164 = .ok (.lmul, 1) := by decide +kernel
theorem dX6_digest_165 : decode cX6_digest 165 = .ok (.aload_n 0, 1) := by decide +kernel
theorem dX6_digest_166 : decode cX6_digest 166 = .ok (.iconst 1, 1) := by decide +kernel
theorem dX6_digest_167 : decode cX6_digest 167 = .ok (.invokevirtual 184, 3) := by decide +kernel
theorem dX6_digest_170 : decode cX6_digest 170 = .ok (.i2l, 1) := by decide +kernel
theorem dX6_digest_171 : decode cX6_digest 171 = .ok (.ladd, 1) := by decide +kernel
theorem dX6_digest_172 : decode cX6_digest 172 = .ok (.lstore_n 1, 1) := by decide +kernel
theorem dX6_digest_173 : decode cX6_digest 173 = .ok (.ldc2_w 190, 3) := by decide +kernel
theorem dX6_digest_176 : decode cX6_digest 176 = .ok (.lload_n 1, 1) := by decide +kernel
theorem dX6_digest_177 : decode cX6_digest 177 = .ok (.lmul, 1) := by decide +kernel
theorem dX6_digest_178 : decode cX6_digest 178 = .ok (.aload_n 0, 1) := by decide +kernel
theorem dX6_digest_179 : decode cX6_digest 179 = .ok (.invokevirtual 187, 3) := by decide +kernel
theorem dX6_digest_182 : decode cX6_digest 182 = .ok (.i2l, 1) := by decide +kernel
theorem dX6_digest_183 : decode cX6_digest 183 = .ok (.ladd, 1) := by decide +kernel
theorem dX6_digest_184 : decode cX6_digest 184 = .ok (.lstore_n 1, 1) := by decide +kernel
theorem dX6_digest_185 : decode cX6_digest 185 = .ok (.ldc2_w 190, 3) := by decide +kernel
theorem dX6_digest_188 : decode cX6_digest 188 = .ok (.lload_n 1, 1) := by decide +kernel
theorem dX6_digest_189 : decode cX6_digest 189 = .ok (.lmul, 1) := by decide +kernel
theorem dX6_digest_190 : decode cX6_digest 190 = .ok (.aload_n 0, 1) := by decide +kernel
theorem dX6_digest_191 : decode cX6_digest 191 = .ok (.invokevirtual 198, 3) := by decide +kernel
theorem dX6_digest_194 : decode cX6_digest 194 = .ok (.invokestatic 202, 3) := by decide +kernel
theorem dX6_digest_197 : decode cX6_digest 197 = .ok (.ladd, 1) := by decide +kernel
theorem dX6_digest_198 : decode cX6_digest 198 = .ok (.lstore_n 1, 1) := by decide +kernel
theorem dX6_digest_199 : decode cX6_digest 199 = .ok (.ldc2_w 190, 3) := by decide +kernel
theorem dX6_digest_202 : decode cX6_digest 202 = .ok (.lload_n 1, 1) := by decide +kernel
theorem dX6_digest_203 : decode cX6_digest 203 = .ok (.lmul, 1) := by decide +kernel
theorem dX6_digest_204 : decode cX6_digest 204 = .ok (.aload_n 0, 1) := by decide +kernel
theorem dX6_digest_205 : decode cX6_digest 205 = .ok (.getfield 13, 3) := by decide +kernel
theorem dX6_digest_208 : decode cX6_digest 208 = .ok (.iconst 0, 1) := by decide +kernel
theorem dX6_digest_209 : decode cX6_digest 209 = .ok (.baload, 1) := by decide +kernel
theorem dX6_digest_210 : decode cX6_digest 210 = .ok (.ifCond .eq 7, 3) := by decide +kernel
theorem dX6_digest_213 : decode cX6_digest 213 = .ok (.iconst 1, 1) := by decide +kernel
theorem dX6_digest_214 : decode cX6_digest 214 = .ok (.goto 4, 3) := by decide +kernel
theorem dX6_digest_217 : decode cX6_digest 217 = .ok (.iconst 0, 1) := by decide +kernel
theorem dX6_digest_218 : decode cX6_digest 218 = .ok (.i2l, 1) := by decide +kernel
theorem dX6_digest_219 : decode cX6_digest 219 = .ok (.ladd, 1) := by decide +kernel
theorem dX6_digest_220 : decode cX6_digest 220 = .ok (.lstore_n 1, 1) := by decide +kernel
theorem dX6_digest_221 : decode cX6_digest 221 = .ok (.ldc2_w 190, 3) := by decide +kernel
theorem dX6_digest_224 : decode cX6_digest 224 = .ok (.lload_n 1, 1) := by decide +kernel
theorem dX6_digest_225 : decode cX6_digest 225 = .ok (.lmul, 1) := by decide +kernel
theorem dX6_digest_226 : decode cX6_digest 226 = .ok (.aload_n 0, 1) := by decide +kernel
theorem dX6_digest_227 : decode cX6_digest 227 = .ok (.getfield 13, 3) := by decide +kernel
theorem dX6_digest_230 : decode cX6_digest 230 = .ok (.iconst 1, 1) := by decide +kernel
theorem dX6_digest_231 : decode cX6_digest 231 = .ok (.baload, 1) := by decide +kernel
theorem dX6_digest_232 : decode cX6_digest 232 = .ok (.ifCond .eq 7, 3) := by decide +kernel
theorem dX6_digest_235 : decode cX6_digest 235 = .ok (.iconst 1, 1) := by decide +kernel
theorem dX6_digest_236 : decode cX6_digest 236 = .ok (.goto 4, 3) := by decide +kernel
theorem dX6_digest_239 : decode cX6_digest 239 = .ok (.iconst 0, 1) := by decide +kernel
theorem dX6_digest_240 : decode cX6_digest 240 = .ok (.i2l, 1) := by decide +kernel
theorem dX6_digest_241 : decode cX6_digest 241 = .ok (.ladd, 1) := by decide +kernel
theorem dX6_digest_242 : decode cX6_digest 242 = .ok (.lstore_n 1, 1) := by decide +kernel
theorem dX6_digest_243 : decode cX6_digest 243 = .ok (.ldc2_w 190, 3) := by decide +kernel
theorem dX6_digest_246 : decode cX6_digest 246 = .ok (.lload_n 1, 1) := by decide +kernel
theorem dX6_digest_247 : decode cX6_digest 247 = .ok (.lmul, 1) := by decide +kernel
theorem dX6_digest_248 : decode cX6_digest 248 = .ok (.aload_n 0, 1) := by decide +kernel
theorem dX6_digest_249 : decode cX6_digest 249 = .ok (.getfield 135, 3) := by decide +kernel
theorem dX6_digest_252 : decode cX6_digest 252 = .ok (.i2l, 1) := by decide +kernel
theorem dX6_digest_253 : decode cX6_digest 253 = .ok (.ladd, 1) := by decide +kernel
theorem dX6_digest_254 : decode cX6_digest 254 = .ok (.lstore_n 1, 1) := by decide +kernel
theorem dX6_digest_255 : decode cX6_digest 255 = .ok (.iconst 0, 1) := by decide +kernel
theorem dX6_digest_256 : decode cX6_digest 256 = .ok (.istore_n 3, 1) := by decide +kernel
theorem dX6_digest_257 : decode cX6_digest 257 = .ok (.iload_n 3, 1) := by decide +kernel
theorem dX6_digest_258 : decode cX6_digest 258 = .ok (.aload_n 0, 1) := by decide +kernel
theorem dX6_digest_259 : decode cX6_digest 259 = .ok (.getfield 135, 3) := by decide +kernel
theorem dX6_digest_262 : decode cX6_digest 262 = .ok (.if_icmp .ge 23, 3) := by decide +kernel
theorem dX6_digest_265 : decode cX6_digest 265 = .ok (.ldc2_w 190, 3) := by decide +kernel
theorem dX6_digest_268 : decode cX6_digest 268 = .ok (.lload_n 1, 1) := by decide +kernel
theorem dX6_digest_269 : decode cX6_digest 269 = .ok (.lmul, 1) := by decide +kernel
theorem dX6_digest_270 : decode cX6_digest 270 = .ok (.aload_n 0, 1) := by decide +kernel
theorem dX6_digest_271 : decode cX6_digest 271 = .ok (.getfield 17, 3) := by decide +kernel
theorem dX6_digest_274 : decode cX6_digest 274 = .ok (.iload_n 3, 1) := by decide +kernel
theorem dX6_digest_275 : decode cX6_digest 275 = .ok (.caload, 1) := by decide +kernel
theorem dX6_digest_276 : decode cX6_digest 276 = .ok (.i2l, 1) := by decide +kernel
theorem dX6_digest_277 : decode cX6_digest 277 = .ok (.ladd, 1) := by decide +kernel
theorem dX6_digest_278 : decode cX6_digest 278 = .ok (.lstore_n 1, 1) := by decide +kernel
theorem dX6_digest_279 : decode cX6_digest 279 = .ok (.iinc 3 1, 3) := by decide +kernel
theorem dX6_digest_282 : decode cX6_digest 282 = .ok (.goto (-25), 3) := by decide +kernel
theorem dX6_digest_285 : decode cX6_digest 285 = .ok (.lload_n 1, 1) := by decide +kernel
theorem dX6_digest_286 : decode cX6_digest 286 = .ok (.lreturn, 1) := by decide +kernel
theorem dJxe99ae_isNaN_b9ae7_0 : decode cJxe99ae_isNaN_b9ae7 0 = .ok (.dload_n 0, 1) := by decide +kernel
theorem dJxe99ae_isNaN_b9ae7_1 : decode cJxe99ae_isNaN_b9ae7 1 = .ok (.dload_n 0, 1) := by decide +kernel
theorem dJxe99ae_isNaN_b9ae7_2 : decode cJxe99ae_isNaN_b9ae7 2 = .ok (.dcmp .l, 1) := by decide +kernel
theorem dJxe99ae_isNaN_b9ae7_3 : decode cJxe99ae_isNaN_b9ae7 3 = .ok (.ifCond .eq 7, 3) := by decide +kernel
theorem dJxe99ae_isNaN_b9ae7_6 : decode cJxe99ae_isNaN_b9ae7 6 = .ok (.iconst 1, 1) := by decide +kernel
theorem dJxe99ae_isNaN_b9ae7_7 : decode cJxe99ae_isNaN_b9ae7 7 = .ok (.goto 4, 3) := by decide +kernel
theorem dJxe99ae_isNaN_b9ae7_10 : decode cJxe99ae_isNaN_b9ae7 10 = .ok (.iconst 0, 1) := by decide +kernel
theorem dJxe99ae_isNaN_b9ae7_11 : decode cJxe99ae_isNaN_b9ae7 11 = .ok (.ireturn, 1) := by decide +kernel
theorem dJxe99ae_doubleToLongBits_ccdee_0 : decode cJxe99ae_doubleToLongBits_ccdee 0 = .ok (.dload_n 0, 1) := by decide +kernel
theorem dJxe99ae_doubleToLongBits_ccdee_1 : decode cJxe99ae_doubleToLongBits_ccdee 1 = .ok (.invokestatic 122, 3) := by decide +kernel
theorem dJxe99ae_doubleToLongBits_ccdee_4 : decode cJxe99ae_doubleToLongBits_ccdee 4 = .ok (.ifCond .ne 8, 3) := by decide +kernel
theorem dJxe99ae_doubleToLongBits_ccdee_7 : decode cJxe99ae_doubleToLongBits_ccdee 7 = .ok (.dload_n 0, 1) := by decide +kernel
theorem dJxe99ae_doubleToLongBits_ccdee_8 : decode cJxe99ae_doubleToLongBits_ccdee 8 = .ok (.invokestatic 134, 3) := by decide +kernel
theorem dJxe99ae_doubleToLongBits_ccdee_11 : decode cJxe99ae_doubleToLongBits_ccdee 11 = .ok (.lreturn, 1) := by decide +kernel
theorem dJxe99ae_doubleToLongBits_ccdee_12 : decode cJxe99ae_doubleToLongBits_ccdee 12 = .ok (.ldc2_w 137, 3) := by decide +kernel
theorem dJxe99ae_doubleToLongBits_ccdee_15 : decode cJxe99ae_doubleToLongBits_ccdee 15 = .ok (.lreturn, 1) := by decide +kernel
theorem dJ9_abs_0f7a4_0 : decode cJ9_abs_0f7a4 0 = .ok (.iload_n 0, 1) := by decide +kernel
theorem dJ9_abs_0f7a4_1 : decode cJ9_abs_0f7a4 1 = .ok (.ifCond .ge 8, 3) := by decide +kernel
theorem dJ9_abs_0f7a4_4 : decode cJ9_abs_0f7a4 4 = .ok (.iload_n 0, 1) := by decide +kernel
theorem dJ9_abs_0f7a4_5 : decode cJ9_abs_0f7a4 5 = .ok (.ineg, 1) := by decide +kernel
theorem dJ9_abs_0f7a4_6 : decode cJ9_abs_0f7a4 6 = .ok (.goto 4, 3) := by decide +kernel
theorem dJ9_abs_0f7a4_9 : decode cJ9_abs_0f7a4 9 = .ok (.iload_n 0, 1) := by decide +kernel
theorem dJ9_abs_0f7a4_10 : decode cJ9_abs_0f7a4 10 = .ok (.ireturn, 1) := by decide +kernel
theorem dJ9_max_7cf53_0 : decode cJ9_max_7cf53 0 = .ok (.iload_n 0, 1) := by decide +kernel
theorem dJ9_max_7cf53_1 : decode cJ9_max_7cf53 1 = .ok (.iload_n 1, 1) := by decide +kernel
theorem dJ9_max_7cf53_2 : decode cJ9_max_7cf53 2 = .ok (.if_icmp .lt 7, 3) := by decide +kernel
theorem dJ9_max_7cf53_5 : decode cJ9_max_7cf53 5 = .ok (.iload_n 0, 1) := by decide +kernel
theorem dJ9_max_7cf53_6 : decode cJ9_max_7cf53 6 = .ok (.goto 4, 3) := by decide +kernel
theorem dJ9_max_7cf53_9 : decode cJ9_max_7cf53 9 = .ok (.iload_n 1, 1) := by decide +kernel
theorem dJ9_max_7cf53_10 : decode cJ9_max_7cf53 10 = .ok (.ireturn, 1) := by decide +kernel
theorem dJ9_min_7cf53_0 : decode cJ9_min_7cf53 0 = .ok (.iload_n 0, 1) := by decide +kernel
theorem dJ9_min_7cf53_1 : decode cJ9_min_7cf53 1 = .ok (.iload_n 1, 1) := by decide +kernel
theorem dJ9_min_7cf53_2 : decode cJ9_min_7cf53 2 = .ok (.if_icmp .gt 7, 3) := by decide +kernel
theorem dJ9_min_7cf53_5 : decode cJ9_min_7cf53 5 = .ok (.iload_n 0, 1) := by decide +kernel
theorem dJ9_min_7cf53_6 : decode cJ9_min_7cf53 6 = .ok (.goto 4, 3) := by decide +kernel
theorem dJ9_min_7cf53_9 : decode cJ9_min_7cf53 9 = .ok (.iload_n 1, 1) := by decide +kernel
theorem dJ9_min_7cf53_10 : decode cJ9_min_7cf53 10 = .ok (.ireturn, 1) := by decide +kernel
theorem dL_bring_0 : decode cL_bring 0 = .ok (.aload 6, 2) := by decide +kernel
theorem dL_bring_2 : decode cL_bring 2 = .ok (.iconst 0, 1) := by decide +kernel
theorem dL_bring_3 : decode cL_bring 3 = .ok (.aload_n 0, 1) := by decide +kernel
theorem dL_bring_4 : decode cL_bring 4 = .ok (.iload_n 1, 1) := by decide +kernel
theorem dL_bring_5 : decode cL_bring 5 = .ok (.iload_n 2, 1) := by decide +kernel
theorem dL_bring_6 : decode cL_bring 6 = .ok (.iload_n 3, 1) := by decide +kernel
theorem dL_bring_7 : decode cL_bring 7 = .ok (.iload 4, 2) := by decide +kernel
theorem dL_bring_9 : decode cL_bring 9 = .ok (.iload 5, 2) := by decide +kernel
theorem dL_bring_11 : decode cL_bring 11 = .ok (.invokevirtual 7, 3) := by decide +kernel
theorem dL_bring_14 : decode cL_bring 14 = .ok (.i2l, 1) := by decide +kernel
theorem dL_bring_15 : decode cL_bring 15 = .ok (.lastore, 1) := by decide +kernel
theorem dL_bring_16 : decode cL_bring 16 = .ok (.goto 7, 3) := by decide +kernel
theorem dL_bring_19 : decode cL_bring 19 = .ok (.astore 7, 2) := by decide +kernel
theorem dL_bring_21 : decode cL_bring 21 = .ok (.iconst 1, 1) := by decide +kernel
theorem dL_bring_22 : decode cL_bring 22 = .ok (.ireturn, 1) := by decide +kernel
theorem dL_bring_23 : decode cL_bring 23 = .ok (.iconst 0, 1) := by decide +kernel
theorem dL_bring_24 : decode cL_bring 24 = .ok (.ireturn, 1) := by decide +kernel
theorem dL_change_0 : decode cL_change 0 = .ok (.aload 4, 2) := by decide +kernel
theorem dL_change_2 : decode cL_change 2 = .ok (.iconst 0, 1) := by decide +kernel
theorem dL_change_3 : decode cL_change 3 = .ok (.aload_n 0, 1) := by decide +kernel
theorem dL_change_4 : decode cL_change 4 = .ok (.iload_n 1, 1) := by decide +kernel
theorem dL_change_5 : decode cL_change 5 = .ok (.iload_n 2, 1) := by decide +kernel
theorem dL_change_6 : decode cL_change 6 = .ok (.iload_n 3, 1) := by decide +kernel
theorem dL_change_7 : decode cL_change 7 = .ok (.invokevirtual 15, 3) := by decide +kernel
theorem dL_change_10 : decode cL_change 10 = .ok (.i2l, 1) := by decide +kernel
theorem dL_change_11 : decode cL_change 11 = .ok (.lastore, 1) := by decide +kernel
theorem dL_change_12 : decode cL_change 12 = .ok (.goto 11, 3) := by decide +kernel
theorem dL_change_15 : decode cL_change 15 = .ok (.astore 5, 2) := by decide +kernel
theorem dL_change_17 : decode cL_change 17 = .ok (.iconst 1, 1) := by decide +kernel
theorem dL_change_18 : decode cL_change 18 = .ok (.ireturn, 1) := by decide +kernel
theorem dL_change_19 : decode cL_change 19 = .ok (.astore 5, 2) := by decide +kernel
theorem dL_change_21 : decode cL_change 21 = .ok (.iconst 2, 1) := by decide +kernel
theorem dL_change_22 : decode cL_change 22 = .ok (.ireturn, 1) := by decide +kernel
theorem dL_change_23 : decode cL_change 23 = .ok (.iconst 0, 1) := by decide +kernel
theorem dL_change_24 : decode cL_change 24 = .ok (.ireturn, 1) := by decide +kernel
theorem dL_send_0 : decode cL_send 0 = .ok (.aload_n 2, 1) := by decide +kernel
theorem dL_send_1 : decode cL_send 1 = .ok (.iconst 0, 1) := by decide +kernel
theorem dL_send_2 : decode cL_send 2 = .ok (.aload_n 0, 1) := by decide +kernel
theorem dL_send_3 : decode cL_send 3 = .ok (.iload_n 1, 1) := by decide +kernel
theorem dL_send_4 : decode cL_send 4 = .ok (.invokevirtual 21, 3) := by decide +kernel
theorem dL_send_7 : decode cL_send 7 = .ok (.i2l, 1) := by decide +kernel
theorem dL_send_8 : decode cL_send 8 = .ok (.lastore, 1) := by decide +kernel
theorem dL_send_9 : decode cL_send 9 = .ok (.goto 6, 3) := by decide +kernel
theorem dL_send_12 : decode cL_send 12 = .ok (.astore_n 3, 1) := by decide +kernel
theorem dL_send_13 : decode cL_send 13 = .ok (.iconst 1, 1) := by decide +kernel
theorem dL_send_14 : decode cL_send 14 = .ok (.ireturn, 1) := by decide +kernel
theorem dL_send_15 : decode cL_send 15 = .ok (.iconst 0, 1) := by decide +kernel
theorem dL_send_16 : decode cL_send 16 = .ok (.ireturn, 1) := by decide +kernel
theorem dL_dispute_0 : decode cL_dispute 0 = .ok (.aload_n 3, 1) := by decide +kernel
theorem dL_dispute_1 : decode cL_dispute 1 = .ok (.iconst 0, 1) := by decide +kernel
theorem dL_dispute_2 : decode cL_dispute 2 = .ok (.aload_n 0, 1) := by decide +kernel
theorem dL_dispute_3 : decode cL_dispute 3 = .ok (.iload_n 1, 1) := by decide +kernel
theorem dL_dispute_4 : decode cL_dispute 4 = .ok (.iload_n 2, 1) := by decide +kernel
theorem dL_dispute_5 : decode cL_dispute 5 = .ok (.invokevirtual 25, 3) := by decide +kernel
theorem dL_dispute_8 : decode cL_dispute 8 = .ok (.i2l, 1) := by decide +kernel
theorem dL_dispute_9 : decode cL_dispute 9 = .ok (.lastore, 1) := by decide +kernel
theorem dL_dispute_10 : decode cL_dispute 10 = .ok (.goto 11, 3) := by decide +kernel
theorem dL_dispute_13 : decode cL_dispute 13 = .ok (.astore 4, 2) := by decide +kernel
theorem dL_dispute_15 : decode cL_dispute 15 = .ok (.iconst 1, 1) := by decide +kernel
theorem dL_dispute_16 : decode cL_dispute 16 = .ok (.ireturn, 1) := by decide +kernel
theorem dL_dispute_17 : decode cL_dispute 17 = .ok (.astore 4, 2) := by decide +kernel
theorem dL_dispute_19 : decode cL_dispute 19 = .ok (.iconst 2, 1) := by decide +kernel
theorem dL_dispute_20 : decode cL_dispute 20 = .ok (.ireturn, 1) := by decide +kernel
theorem dL_dispute_21 : decode cL_dispute 21 = .ok (.iconst 0, 1) := by decide +kernel
theorem dL_dispute_22 : decode cL_dispute 22 = .ok (.ireturn, 1) := by decide +kernel
theorem dL_takeBack_0 : decode cL_takeBack 0 = .ok (.aload_n 2, 1) := by decide +kernel
theorem dL_takeBack_1 : decode cL_takeBack 1 = .ok (.iconst 0, 1) := by decide +kernel
theorem dL_takeBack_2 : decode cL_takeBack 2 = .ok (.aload_n 0, 1) := by decide +kernel
theorem dL_takeBack_3 : decode cL_takeBack 3 = .ok (.iload_n 1, 1) := by decide +kernel
theorem dL_takeBack_4 : decode cL_takeBack 4 = .ok (.invokevirtual 29, 3) := by decide +kernel
theorem dL_takeBack_7 : decode cL_takeBack 7 = .ok (.i2l, 1) := by decide +kernel
theorem dL_takeBack_8 : decode cL_takeBack 8 = .ok (.lastore, 1) := by decide +kernel
theorem dL_takeBack_9 : decode cL_takeBack 9 = .ok (.goto 6, 3) := by decide +kernel
theorem dL_takeBack_12 : decode cL_takeBack 12 = .ok (.astore_n 3, 1) := by decide +kernel
theorem dL_takeBack_13 : decode cL_takeBack 13 = .ok (.iconst 1, 1) := by decide +kernel
theorem dL_takeBack_14 : decode cL_takeBack 14 = .ok (.ireturn, 1) := by decide +kernel
theorem dL_takeBack_15 : decode cL_takeBack 15 = .ok (.iconst 0, 1) := by decide +kernel
theorem dL_takeBack_16 : decode cL_takeBack 16 = .ok (.ireturn, 1) := by decide +kernel
theorem dL_price_0 : decode cL_price 0 = .ok (.aload_n 3, 1) := by decide +kernel
theorem dL_price_1 : decode cL_price 1 = .ok (.iconst 0, 1) := by decide +kernel
theorem dL_price_2 : decode cL_price 2 = .ok (.aload_n 0, 1) := by decide +kernel
theorem dL_price_3 : decode cL_price 3 = .ok (.iload_n 1, 1) := by decide +kernel
theorem dL_price_4 : decode cL_price 4 = .ok (.iload_n 2, 1) := by decide +kernel
theorem dL_price_5 : decode cL_price 5 = .ok (.invokevirtual 32, 3) := by decide +kernel
theorem dL_price_8 : decode cL_price 8 = .ok (.i2l, 1) := by decide +kernel
theorem dL_price_9 : decode cL_price 9 = .ok (.lastore, 1) := by decide +kernel
theorem dL_price_10 : decode cL_price 10 = .ok (.goto 11, 3) := by decide +kernel
theorem dL_price_13 : decode cL_price 13 = .ok (.astore 4, 2) := by decide +kernel
theorem dL_price_15 : decode cL_price 15 = .ok (.iconst 1, 1) := by decide +kernel
theorem dL_price_16 : decode cL_price 16 = .ok (.ireturn, 1) := by decide +kernel
theorem dL_price_17 : decode cL_price 17 = .ok (.astore 4, 2) := by decide +kernel
theorem dL_price_19 : decode cL_price 19 = .ok (.iconst 2, 1) := by decide +kernel
theorem dL_price_20 : decode cL_price 20 = .ok (.ireturn, 1) := by decide +kernel
theorem dL_price_21 : decode cL_price 21 = .ok (.iconst 0, 1) := by decide +kernel
theorem dL_price_22 : decode cL_price 22 = .ok (.ireturn, 1) := by decide +kernel
theorem dL_zone_0 : decode cL_zone 0 = .ok (.aload_n 3, 1) := by decide +kernel
theorem dL_zone_1 : decode cL_zone 1 = .ok (.iconst 0, 1) := by decide +kernel
theorem dL_zone_2 : decode cL_zone 2 = .ok (.aload_n 0, 1) := by decide +kernel
theorem dL_zone_3 : decode cL_zone 3 = .ok (.iload_n 1, 1) := by decide +kernel
theorem dL_zone_4 : decode cL_zone 4 = .ok (.iload_n 2, 1) := by decide +kernel
theorem dL_zone_5 : decode cL_zone 5 = .ok (.invokevirtual 35, 3) := by decide +kernel
theorem dL_zone_8 : decode cL_zone 8 = .ok (.i2l, 1) := by decide +kernel
theorem dL_zone_9 : decode cL_zone 9 = .ok (.lastore, 1) := by decide +kernel
theorem dL_zone_10 : decode cL_zone 10 = .ok (.goto 11, 3) := by decide +kernel
theorem dL_zone_13 : decode cL_zone 13 = .ok (.astore 4, 2) := by decide +kernel
theorem dL_zone_15 : decode cL_zone 15 = .ok (.iconst 1, 1) := by decide +kernel
theorem dL_zone_16 : decode cL_zone 16 = .ok (.ireturn, 1) := by decide +kernel
theorem dL_zone_17 : decode cL_zone 17 = .ok (.astore 4, 2) := by decide +kernel
theorem dL_zone_19 : decode cL_zone 19 = .ok (.iconst 2, 1) := by decide +kernel
theorem dL_zone_20 : decode cL_zone 20 = .ok (.ireturn, 1) := by decide +kernel
theorem dL_zone_21 : decode cL_zone 21 = .ok (.iconst 0, 1) := by decide +kernel
theorem dL_zone_22 : decode cL_zone 22 = .ok (.ireturn, 1) := by decide +kernel
theorem dL_set_0 : decode cL_set 0 = .ok (.aload_n 3, 1) := by decide +kernel
theorem dL_set_1 : decode cL_set 1 = .ok (.iconst 0, 1) := by decide +kernel
theorem dL_set_2 : decode cL_set 2 = .ok (.aload_n 0, 1) := by decide +kernel
theorem dL_set_3 : decode cL_set 3 = .ok (.iload_n 1, 1) := by decide +kernel
theorem dL_set_4 : decode cL_set 4 = .ok (.iload_n 2, 1) := by decide +kernel
theorem dL_set_5 : decode cL_set 5 = .ok (.invokevirtual 38, 3) := by decide +kernel
theorem dL_set_8 : decode cL_set 8 = .ok (.i2l, 1) := by decide +kernel
theorem dL_set_9 : decode cL_set 9 = .ok (.lastore, 1) := by decide +kernel
theorem dL_set_10 : decode cL_set 10 = .ok (.goto 11, 3) := by decide +kernel
theorem dL_set_13 : decode cL_set 13 = .ok (.astore 4, 2) := by decide +kernel
theorem dL_set_15 : decode cL_set 15 = .ok (.iconst 1, 1) := by decide +kernel
theorem dL_set_16 : decode cL_set 16 = .ok (.ireturn, 1) := by decide +kernel
theorem dL_set_17 : decode cL_set 17 = .ok (.astore 4, 2) := by decide +kernel
theorem dL_set_19 : decode cL_set 19 = .ok (.iconst 2, 1) := by decide +kernel
theorem dL_set_20 : decode cL_set 20 = .ok (.ireturn, 1) := by decide +kernel
theorem dL_set_21 : decode cL_set 21 = .ok (.iconst 0, 1) := by decide +kernel
theorem dL_set_22 : decode cL_set 22 = .ok (.ireturn, 1) := by decide +kernel
theorem dL_append_0 : decode cL_append 0 = .ok (.aload_n 2, 1) := by decide +kernel
theorem dL_append_1 : decode cL_append 1 = .ok (.iconst 0, 1) := by decide +kernel
theorem dL_append_2 : decode cL_append 2 = .ok (.aload_n 0, 1) := by decide +kernel
theorem dL_append_3 : decode cL_append 3 = .ok (.iload_n 1, 1) := by decide +kernel
theorem dL_append_4 : decode cL_append 4 = .ok (.invokevirtual 41, 3) := by decide +kernel
theorem dL_append_7 : decode cL_append 7 = .ok (.i2l, 1) := by decide +kernel
theorem dL_append_8 : decode cL_append 8 = .ok (.lastore, 1) := by decide +kernel
theorem dL_append_9 : decode cL_append 9 = .ok (.goto 9, 3) := by decide +kernel
theorem dL_append_12 : decode cL_append 12 = .ok (.astore_n 3, 1) := by decide +kernel
theorem dL_append_13 : decode cL_append 13 = .ok (.iconst 1, 1) := by decide +kernel
theorem dL_append_14 : decode cL_append 14 = .ok (.ireturn, 1) := by decide +kernel
theorem dL_append_15 : decode cL_append 15 = .ok (.astore_n 3, 1) := by decide +kernel
theorem dL_append_16 : decode cL_append 16 = .ok (.iconst 2, 1) := by decide +kernel
theorem dL_append_17 : decode cL_append 17 = .ok (.ireturn, 1) := by decide +kernel
theorem dL_append_18 : decode cL_append 18 = .ok (.iconst 0, 1) := by decide +kernel
theorem dL_append_19 : decode cL_append 19 = .ok (.ireturn, 1) := by decide +kernel
theorem dL_run_0 : decode cL_run 0 = .ok (.aload_n 1, 1) := by decide +kernel
theorem dL_run_1 : decode cL_run 1 = .ok (.iconst 0, 1) := by decide +kernel
theorem dL_run_2 : decode cL_run 2 = .ok (.aload_n 0, 1) := by decide +kernel
theorem dL_run_3 : decode cL_run 3 = .ok (.invokevirtual 46, 3) := by decide +kernel
theorem dL_run_6 : decode cL_run 6 = .ok (.i2l, 1) := by decide +kernel
theorem dL_run_7 : decode cL_run 7 = .ok (.lastore, 1) := by decide +kernel
theorem dL_run_8 : decode cL_run 8 = .ok (.goto 6, 3) := by decide +kernel
theorem dL_run_11 : decode cL_run 11 = .ok (.astore_n 2, 1) := by decide +kernel
theorem dL_run_12 : decode cL_run 12 = .ok (.iconst 1, 1) := by decide +kernel
theorem dL_run_13 : decode cL_run 13 = .ok (.ireturn, 1) := by decide +kernel
theorem dL_run_14 : decode cL_run 14 = .ok (.iconst 0, 1) := by decide +kernel
theorem dL_run_15 : decode cL_run 15 = .ok (.ireturn, 1) := by decide +kernel
theorem dL_keep_0 : decode cL_keep 0 = .ok (.aload_n 2, 1) := by decide +kernel
theorem dL_keep_1 : decode cL_keep 1 = .ok (.iconst 0, 1) := by decide +kernel
theorem dL_keep_2 : decode cL_keep 2 = .ok (.aload_n 0, 1) := by decide +kernel
theorem dL_keep_3 : decode cL_keep 3 = .ok (.iload_n 1, 1) := by decide +kernel
theorem dL_keep_4 : decode cL_keep 4 = .ok (.invokevirtual 50, 3) := by decide +kernel
theorem dL_keep_7 : decode cL_keep 7 = .ok (.i2l, 1) := by decide +kernel
theorem dL_keep_8 : decode cL_keep 8 = .ok (.lastore, 1) := by decide +kernel
theorem dL_keep_9 : decode cL_keep 9 = .ok (.goto 6, 3) := by decide +kernel
theorem dL_keep_12 : decode cL_keep 12 = .ok (.astore_n 3, 1) := by decide +kernel
theorem dL_keep_13 : decode cL_keep 13 = .ok (.iconst 1, 1) := by decide +kernel
theorem dL_keep_14 : decode cL_keep 14 = .ok (.ireturn, 1) := by decide +kernel
theorem dL_keep_15 : decode cL_keep 15 = .ok (.iconst 0, 1) := by decide +kernel
theorem dL_keep_16 : decode cL_keep 16 = .ok (.ireturn, 1) := by decide +kernel
theorem dL_goBack_0 : decode cL_goBack 0 = .ok (.aload_n 2, 1) := by decide +kernel
theorem dL_goBack_1 : decode cL_goBack 1 = .ok (.iconst 0, 1) := by decide +kernel
theorem dL_goBack_2 : decode cL_goBack 2 = .ok (.aload_n 0, 1) := by decide +kernel
theorem dL_goBack_3 : decode cL_goBack 3 = .ok (.iload_n 1, 1) := by decide +kernel
theorem dL_goBack_4 : decode cL_goBack 4 = .ok (.invokevirtual 53, 3) := by decide +kernel
theorem dL_goBack_7 : decode cL_goBack 7 = .ok (.i2l, 1) := by decide +kernel
theorem dL_goBack_8 : decode cL_goBack 8 = .ok (.lastore, 1) := by decide +kernel
theorem dL_goBack_9 : decode cL_goBack 9 = .ok (.goto 9, 3) := by decide +kernel
theorem dL_goBack_12 : decode cL_goBack 12 = .ok (.astore_n 3, 1) := by decide +kernel
theorem dL_goBack_13 : decode cL_goBack 13 = .ok (.iconst 1, 1) := by decide +kernel
theorem dL_goBack_14 : decode cL_goBack 14 = .ok (.ireturn, 1) := by decide +kernel
theorem dL_goBack_15 : decode cL_goBack 15 = .ok (.astore_n 3, 1) := by decide +kernel
theorem dL_goBack_16 : decode cL_goBack 16 = .ok (.iconst 2, 1) := by decide +kernel
theorem dL_goBack_17 : decode cL_goBack 17 = .ok (.ireturn, 1) := by decide +kernel
theorem dL_goBack_18 : decode cL_goBack 18 = .ok (.iconst 0, 1) := by decide +kernel
theorem dL_goBack_19 : decode cL_goBack 19 = .ok (.ireturn, 1) := by decide +kernel
theorem dL_undo_0 : decode cL_undo 0 = .ok (.aload_n 1, 1) := by decide +kernel
theorem dL_undo_1 : decode cL_undo 1 = .ok (.iconst 0, 1) := by decide +kernel
theorem dL_undo_2 : decode cL_undo 2 = .ok (.aload_n 0, 1) := by decide +kernel
theorem dL_undo_3 : decode cL_undo 3 = .ok (.invokevirtual 56, 3) := by decide +kernel
theorem dL_undo_6 : decode cL_undo 6 = .ok (.i2l, 1) := by decide +kernel
theorem dL_undo_7 : decode cL_undo 7 = .ok (.lastore, 1) := by decide +kernel
theorem dL_undo_8 : decode cL_undo 8 = .ok (.goto 6, 3) := by decide +kernel
theorem dL_undo_11 : decode cL_undo 11 = .ok (.astore_n 2, 1) := by decide +kernel
theorem dL_undo_12 : decode cL_undo 12 = .ok (.iconst 1, 1) := by decide +kernel
theorem dL_undo_13 : decode cL_undo 13 = .ok (.ireturn, 1) := by decide +kernel
theorem dL_undo_14 : decode cL_undo 14 = .ok (.iconst 0, 1) := by decide +kernel
theorem dL_undo_15 : decode cL_undo 15 = .ok (.ireturn, 1) := by decide +kernel
theorem dL_parcelOf_0 : decode cL_parcelOf 0 = .ok (.aload_n 3, 1) := by decide +kernel
theorem dL_parcelOf_1 : decode cL_parcelOf 1 = .ok (.iconst 0, 1) := by decide +kernel
theorem dL_parcelOf_2 : decode cL_parcelOf 2 = .ok (.aload_n 0, 1) := by decide +kernel
theorem dL_parcelOf_3 : decode cL_parcelOf 3 = .ok (.iload_n 1, 1) := by decide +kernel
theorem dL_parcelOf_4 : decode cL_parcelOf 4 = .ok (.iload_n 2, 1) := by decide +kernel
theorem dL_parcelOf_5 : decode cL_parcelOf 5 = .ok (.invokevirtual 59, 3) := by decide +kernel
theorem dL_parcelOf_8 : decode cL_parcelOf 8 = .ok (.i2l, 1) := by decide +kernel
theorem dL_parcelOf_9 : decode cL_parcelOf 9 = .ok (.lastore, 1) := by decide +kernel
theorem dL_parcelOf_10 : decode cL_parcelOf 10 = .ok (.goto 11, 3) := by decide +kernel
theorem dL_parcelOf_13 : decode cL_parcelOf 13 = .ok (.astore 4, 2) := by decide +kernel
theorem dL_parcelOf_15 : decode cL_parcelOf 15 = .ok (.iconst 1, 1) := by decide +kernel
theorem dL_parcelOf_16 : decode cL_parcelOf 16 = .ok (.ireturn, 1) := by decide +kernel
theorem dL_parcelOf_17 : decode cL_parcelOf 17 = .ok (.astore 4, 2) := by decide +kernel
theorem dL_parcelOf_19 : decode cL_parcelOf 19 = .ok (.iconst 2, 1) := by decide +kernel
theorem dL_parcelOf_20 : decode cL_parcelOf 20 = .ok (.ireturn, 1) := by decide +kernel
theorem dL_parcelOf_21 : decode cL_parcelOf 21 = .ok (.iconst 0, 1) := by decide +kernel
theorem dL_parcelOf_22 : decode cL_parcelOf 22 = .ok (.ireturn, 1) := by decide +kernel
theorem dL_rate_0 : decode cL_rate 0 = .ok (.aload_n 3, 1) := by decide +kernel
theorem dL_rate_1 : decode cL_rate 1 = .ok (.iconst 0, 1) := by decide +kernel
theorem dL_rate_2 : decode cL_rate 2 = .ok (.aload_n 0, 1) := by decide +kernel
theorem dL_rate_3 : decode cL_rate 3 = .ok (.iload_n 1, 1) := by decide +kernel
theorem dL_rate_4 : decode cL_rate 4 = .ok (.iload_n 2, 1) := by decide +kernel
theorem dL_rate_5 : decode cL_rate 5 = .ok (.invokevirtual 62, 3) := by decide +kernel
theorem dL_rate_8 : decode cL_rate 8 = .ok (.i2l, 1) := by decide +kernel
theorem dL_rate_9 : decode cL_rate 9 = .ok (.lastore, 1) := by decide +kernel
theorem dL_rate_10 : decode cL_rate 10 = .ok (.goto 7, 3) := by decide +kernel
theorem dL_rate_13 : decode cL_rate 13 = .ok (.astore 4, 2) := by decide +kernel
theorem dL_rate_15 : decode cL_rate 15 = .ok (.iconst 1, 1) := by decide +kernel
theorem dL_rate_16 : decode cL_rate 16 = .ok (.ireturn, 1) := by decide +kernel
theorem dL_rate_17 : decode cL_rate 17 = .ok (.iconst 0, 1) := by decide +kernel
theorem dL_rate_18 : decode cL_rate 18 = .ok (.ireturn, 1) := by decide +kernel
theorem dL_count_0 : decode cL_count 0 = .ok (.aload_n 2, 1) := by decide +kernel
theorem dL_count_1 : decode cL_count 1 = .ok (.iconst 0, 1) := by decide +kernel
theorem dL_count_2 : decode cL_count 2 = .ok (.aload_n 0, 1) := by decide +kernel
theorem dL_count_3 : decode cL_count 3 = .ok (.iload_n 1, 1) := by decide +kernel
theorem dL_count_4 : decode cL_count 4 = .ok (.invokevirtual 65, 3) := by decide +kernel
theorem dL_count_7 : decode cL_count 7 = .ok (.i2l, 1) := by decide +kernel
theorem dL_count_8 : decode cL_count 8 = .ok (.lastore, 1) := by decide +kernel
theorem dL_count_9 : decode cL_count 9 = .ok (.goto 6, 3) := by decide +kernel
theorem dL_count_12 : decode cL_count 12 = .ok (.astore_n 3, 1) := by decide +kernel
theorem dL_count_13 : decode cL_count 13 = .ok (.iconst 1, 1) := by decide +kernel
theorem dL_count_14 : decode cL_count 14 = .ok (.ireturn, 1) := by decide +kernel
theorem dL_count_15 : decode cL_count 15 = .ok (.iconst 0, 1) := by decide +kernel
theorem dL_count_16 : decode cL_count 16 = .ok (.ireturn, 1) := by decide +kernel
theorem dL_setting_0 : decode cL_setting 0 = .ok (.aload_n 2, 1) := by decide +kernel
theorem dL_setting_1 : decode cL_setting 1 = .ok (.iconst 0, 1) := by decide +kernel
theorem dL_setting_2 : decode cL_setting 2 = .ok (.aload_n 0, 1) := by decide +kernel
theorem dL_setting_3 : decode cL_setting 3 = .ok (.iload_n 1, 1) := by decide +kernel
theorem dL_setting_4 : decode cL_setting 4 = .ok (.invokevirtual 68, 3) := by decide +kernel
theorem dL_setting_7 : decode cL_setting 7 = .ok (.i2l, 1) := by decide +kernel
theorem dL_setting_8 : decode cL_setting 8 = .ok (.lastore, 1) := by decide +kernel
theorem dL_setting_9 : decode cL_setting 9 = .ok (.goto 6, 3) := by decide +kernel
theorem dL_setting_12 : decode cL_setting 12 = .ok (.astore_n 3, 1) := by decide +kernel
theorem dL_setting_13 : decode cL_setting 13 = .ok (.iconst 1, 1) := by decide +kernel
theorem dL_setting_14 : decode cL_setting 14 = .ok (.ireturn, 1) := by decide +kernel
theorem dL_setting_15 : decode cL_setting 15 = .ok (.iconst 0, 1) := by decide +kernel
theorem dL_setting_16 : decode cL_setting 16 = .ok (.ireturn, 1) := by decide +kernel
theorem dL_cheapestWay_0 : decode cL_cheapestWay 0 = .ok (.aload_n 2, 1) := by decide +kernel
theorem dL_cheapestWay_1 : decode cL_cheapestWay 1 = .ok (.iconst 0, 1) := by decide +kernel
theorem dL_cheapestWay_2 : decode cL_cheapestWay 2 = .ok (.aload_n 0, 1) := by decide +kernel
theorem dL_cheapestWay_3 : decode cL_cheapestWay 3 = .ok (.iload_n 1, 1) := by decide +kernel
theorem dL_cheapestWay_4 : decode cL_cheapestWay 4 = .ok (.invokevirtual 71, 3) := by decide +kernel
theorem dL_cheapestWay_7 : decode cL_cheapestWay 7 = .ok (.i2l, 1) := by decide +kernel
theorem dL_cheapestWay_8 : decode cL_cheapestWay 8 = .ok (.lastore, 1) := by decide +kernel
theorem dL_cheapestWay_9 : decode cL_cheapestWay 9 = .ok (.goto 6, 3) := by decide +kernel
theorem dL_cheapestWay_12 : decode cL_cheapestWay 12 = .ok (.astore_n 3, 1) := by decide +kernel
theorem dL_cheapestWay_13 : decode cL_cheapestWay 13 = .ok (.iconst 1, 1) := by decide +kernel
theorem dL_cheapestWay_14 : decode cL_cheapestWay 14 = .ok (.ireturn, 1) := by decide +kernel
theorem dL_cheapestWay_15 : decode cL_cheapestWay 15 = .ok (.iconst 0, 1) := by decide +kernel
theorem dL_cheapestWay_16 : decode cL_cheapestWay 16 = .ok (.ireturn, 1) := by decide +kernel
theorem dL_ifBundled_0 : decode cL_ifBundled 0 = .ok (.aload_n 3, 1) := by decide +kernel
theorem dL_ifBundled_1 : decode cL_ifBundled 1 = .ok (.iconst 0, 1) := by decide +kernel
theorem dL_ifBundled_2 : decode cL_ifBundled 2 = .ok (.aload_n 0, 1) := by decide +kernel
theorem dL_ifBundled_3 : decode cL_ifBundled 3 = .ok (.iload_n 1, 1) := by decide +kernel
theorem dL_ifBundled_4 : decode cL_ifBundled 4 = .ok (.iload_n 2, 1) := by decide +kernel
theorem dL_ifBundled_5 : decode cL_ifBundled 5 = .ok (.invokevirtual 74, 3) := by decide +kernel
theorem dL_ifBundled_8 : decode cL_ifBundled 8 = .ok (.i2l, 1) := by decide +kernel
theorem dL_ifBundled_9 : decode cL_ifBundled 9 = .ok (.lastore, 1) := by decide +kernel
theorem dL_ifBundled_10 : decode cL_ifBundled 10 = .ok (.goto 11, 3) := by decide +kernel
theorem dL_ifBundled_13 : decode cL_ifBundled 13 = .ok (.astore 4, 2) := by decide +kernel
theorem dL_ifBundled_15 : decode cL_ifBundled 15 = .ok (.iconst 1, 1) := by decide +kernel
theorem dL_ifBundled_16 : decode cL_ifBundled 16 = .ok (.ireturn, 1) := by decide +kernel
theorem dL_ifBundled_17 : decode cL_ifBundled 17 = .ok (.astore 4, 2) := by decide +kernel
theorem dL_ifBundled_19 : decode cL_ifBundled 19 = .ok (.iconst 2, 1) := by decide +kernel
theorem dL_ifBundled_20 : decode cL_ifBundled 20 = .ok (.ireturn, 1) := by decide +kernel
theorem dL_ifBundled_21 : decode cL_ifBundled 21 = .ok (.iconst 0, 1) := by decide +kernel
theorem dL_ifBundled_22 : decode cL_ifBundled 22 = .ok (.ireturn, 1) := by decide +kernel
theorem dL_cheapest_0 : decode cL_cheapest 0 = .ok (.aload_n 2, 1) := by decide +kernel
theorem dL_cheapest_1 : decode cL_cheapest 1 = .ok (.iconst 0, 1) := by decide +kernel
theorem dL_cheapest_2 : decode cL_cheapest 2 = .ok (.aload_n 0, 1) := by decide +kernel
theorem dL_cheapest_3 : decode cL_cheapest 3 = .ok (.iload_n 1, 1) := by decide +kernel
theorem dL_cheapest_4 : decode cL_cheapest 4 = .ok (.invokevirtual 77, 3) := by decide +kernel
theorem dL_cheapest_7 : decode cL_cheapest 7 = .ok (.i2l, 1) := by decide +kernel
theorem dL_cheapest_8 : decode cL_cheapest 8 = .ok (.lastore, 1) := by decide +kernel
theorem dL_cheapest_9 : decode cL_cheapest 9 = .ok (.goto 6, 3) := by decide +kernel
theorem dL_cheapest_12 : decode cL_cheapest 12 = .ok (.astore_n 3, 1) := by decide +kernel
theorem dL_cheapest_13 : decode cL_cheapest 13 = .ok (.iconst 1, 1) := by decide +kernel
theorem dL_cheapest_14 : decode cL_cheapest 14 = .ok (.ireturn, 1) := by decide +kernel
theorem dL_cheapest_15 : decode cL_cheapest 15 = .ok (.iconst 0, 1) := by decide +kernel
theorem dL_cheapest_16 : decode cL_cheapest 16 = .ok (.ireturn, 1) := by decide +kernel
theorem dL_law_0 : decode cL_law 0 = .ok (.new 8, 3) := by decide +kernel
theorem dL_law_3 : decode cL_law 3 = .ok (.dup, 1) := by decide +kernel
theorem dL_law_4 : decode cL_law 4 = .ok (.invokespecial 80, 3) := by decide +kernel
theorem dL_law_7 : decode cL_law 7 = .ok (.astore_n 1, 1) := by decide +kernel
theorem dL_law_8 : decode cL_law 8 = .ok (.new 81, 3) := by decide +kernel
theorem dL_law_11 : decode cL_law 11 = .ok (.dup, 1) := by decide +kernel
theorem dL_law_12 : decode cL_law 12 = .ok (.invokespecial 83, 3) := by decide +kernel
theorem dL_law_15 : decode cL_law 15 = .ok (.astore_n 2, 1) := by decide +kernel
theorem dL_law_16 : decode cL_law 16 = .ok (.iconst 1, 1) := by decide +kernel
theorem dL_law_17 : decode cL_law 17 = .ok (.newarray .long, 2) := by decide +kernel
theorem dL_law_19 : decode cL_law 19 = .ok (.astore_n 3, 1) := by decide +kernel
theorem dL_law_20 : decode cL_law 20 = .ok (.iconst 0, 1) := by decide +kernel
theorem dL_law_21 : decode cL_law 21 = .ok (.istore 4, 2) := by decide +kernel
theorem dL_law_23 : decode cL_law 23 = .ok (.iload 4, 2) := by decide +kernel
theorem dL_law_25 : decode cL_law 25 = .ok (.aload_n 0, 1) := by decide +kernel
theorem dL_law_26 : decode cL_law 26 = .ok (.arraylength, 1) := by decide +kernel
theorem dL_law_27 : decode cL_law 27 = .ok (.bipush 6, 2) := by decide +kernel
theorem dL_law_29 : decode cL_law 29 = .ok (.isub, 1) := by decide +kernel
theorem dL_law_30 : decode cL_law 30 = .ok (.if_icmp .gt 1478, 3) := by decide +kernel
theorem dL_law_33 : decode cL_law 33 = .ok (.aload_n 0, 1) := by decide +kernel
theorem dL_law_34 : decode cL_law 34 = .ok (.iload 4, 2) := by decide +kernel
theorem dL_law_36 : decode cL_law 36 = .ok (.iaload, 1) := by decide +kernel
theorem dL_law_37 : decode cL_law 37 = .ok (.bipush 31, 2) := by decide +kernel
theorem dL_law_39 : decode cL_law 39 = .ok (.iand, 1) := by decide +kernel
theorem dL_law_40 : decode cL_law 40 = .ok (.tableswitch 1462 0 24 #[116, 220, 300, 356, 424, 480, 548, 616, 684, 740, 753, 766, 810, 866, 922, 966, 1034, 1102, 1158, 1214, 1270, 1338, 1394, 1407, 1448], 116) := by decide +kernel
theorem dL_law_156 : decode cL_law 156 = .ok (.aload_n 1, 1) := by decide +kernel
theorem dL_law_157 : decode cL_law 157 = .ok (.aload_n 0, 1) := by decide +kernel
theorem dL_law_158 : decode cL_law 158 = .ok (.iload 4, 2) := by decide +kernel
theorem dL_law_160 : decode cL_law 160 = .ok (.iconst 1, 1) := by decide +kernel
theorem dL_law_161 : decode cL_law 161 = .ok (.iadd, 1) := by decide +kernel
theorem dL_law_162 : decode cL_law 162 = .ok (.iaload, 1) := by decide +kernel
theorem dL_law_163 : decode cL_law 163 = .ok (.aload_n 0, 1) := by decide +kernel
theorem dL_law_164 : decode cL_law 164 = .ok (.iload 4, 2) := by decide +kernel
theorem dL_law_166 : decode cL_law 166 = .ok (.iconst 2, 1) := by decide +kernel
theorem dL_law_167 : decode cL_law 167 = .ok (.iadd, 1) := by decide +kernel
theorem dL_law_168 : decode cL_law 168 = .ok (.iaload, 1) := by decide +kernel
theorem dL_law_169 : decode cL_law 169 = .ok (.aload_n 0, 1) := by decide +kernel
theorem dL_law_170 : decode cL_law 170 = .ok (.iload 4, 2) := by decide +kernel
theorem dL_law_172 : decode cL_law 172 = .ok (.iconst 3, 1) := by decide +kernel
theorem dL_law_173 : decode cL_law 173 = .ok (.iadd, 1) := by decide +kernel
theorem dL_law_174 : decode cL_law 174 = .ok (.iaload, 1) := by decide +kernel
theorem dL_law_175 : decode cL_law 175 = .ok (.aload_n 0, 1) := by decide +kernel
theorem dL_law_176 : decode cL_law 176 = .ok (.iload 4, 2) := by decide +kernel
theorem dL_law_178 : decode cL_law 178 = .ok (.iconst 4, 1) := by decide +kernel
theorem dL_law_179 : decode cL_law 179 = .ok (.iadd, 1) := by decide +kernel
theorem dL_law_180 : decode cL_law 180 = .ok (.iaload, 1) := by decide +kernel
theorem dL_law_181 : decode cL_law 181 = .ok (.aload_n 0, 1) := by decide +kernel
theorem dL_law_182 : decode cL_law 182 = .ok (.iload 4, 2) := by decide +kernel
theorem dL_law_184 : decode cL_law 184 = .ok (.iconst 5, 1) := by decide +kernel
theorem dL_law_185 : decode cL_law 185 = .ok (.iadd, 1) := by decide +kernel
theorem dL_law_186 : decode cL_law 186 = .ok (.iaload, 1) := by decide +kernel
theorem dL_law_187 : decode cL_law 187 = .ok (.aload_n 3, 1) := by decide +kernel
theorem dL_law_188 : decode cL_law 188 = .ok (.invokestatic 84, 3) := by decide +kernel
theorem dL_law_191 : decode cL_law 191 = .ok (.istore 5, 2) := by decide +kernel
theorem dL_law_193 : decode cL_law 193 = .ok (.aload_n 2, 1) := by decide +kernel
theorem dL_law_194 : decode cL_law 194 = .ok (.aload_n 0, 1) := by decide +kernel
theorem dL_law_195 : decode cL_law 195 = .ok (.iload 4, 2) := by decide +kernel
theorem dL_law_197 : decode cL_law 197 = .ok (.iconst 1, 1) := by decide +kernel
theorem dL_law_198 : decode cL_law 198 = .ok (.iadd, 1) := by decide +kernel
theorem dL_law_199 : decode cL_law 199 = .ok (.iaload, 1) := by decide +kernel
theorem dL_law_200 : decode cL_law 200 = .ok (.aload_n 0, 1) := by decide +kernel
theorem dL_law_201 : decode cL_law 201 = .ok (.iload 4, 2) := by decide +kernel
theorem dL_law_203 : decode cL_law 203 = .ok (.iconst 2, 1) := by decide +kernel
theorem dL_law_204 : decode cL_law 204 = .ok (.iadd, 1) := by decide +kernel
theorem dL_law_205 : decode cL_law 205 = .ok (.iaload, 1) := by decide +kernel
theorem dL_law_206 : decode cL_law 206 = .ok (.aload_n 0, 1) := by decide +kernel
theorem dL_law_207 : decode cL_law 207 = .ok (.iload 4, 2) := by decide +kernel
theorem dL_law_209 : decode cL_law 209 = .ok (.iconst 3, 1) := by decide +kernel
theorem dL_law_210 : decode cL_law 210 = .ok (.iadd, 1) := by decide +kernel
theorem dL_law_211 : decode cL_law 211 = .ok (.iaload, 1) := by decide +kernel
theorem dL_law_212 : decode cL_law 212 = .ok (.aload_n 0, 1) := by decide +kernel
theorem dL_law_213 : decode cL_law 213 = .ok (.iload 4, 2) := by decide +kernel
theorem dL_law_215 : decode cL_law 215 = .ok (.iconst 4, 1) := by decide +kernel
theorem dL_law_216 : decode cL_law 216 = .ok (.iadd, 1) := by decide +kernel
theorem dL_law_217 : decode cL_law 217 = .ok (.iaload, 1) := by decide +kernel
theorem dL_law_218 : decode cL_law 218 = .ok (.aload_n 0, 1) := by decide +kernel
theorem dL_law_219 : decode cL_law 219 = .ok (.iload 4, 2) := by decide +kernel
theorem dL_law_221 : decode cL_law 221 = .ok (.iconst 5, 1) := by decide +kernel
theorem dL_law_222 : decode cL_law 222 = .ok (.iadd, 1) := by decide +kernel
theorem dL_law_223 : decode cL_law 223 = .ok (.iaload, 1) := by decide +kernel
theorem dL_law_224 : decode cL_law 224 = .ok (.invokevirtual 89, 3) := by decide +kernel
theorem dL_law_227 : decode cL_law 227 = .ok (.istore 6, 2) := by decide +kernel
theorem dL_law_229 : decode cL_law 229 = .ok (.aload_n 2, 1) := by decide +kernel
theorem dL_law_230 : decode cL_law 230 = .ok (.invokevirtual 90, 3) := by decide +kernel
theorem dL_law_233 : decode cL_law 233 = .ok (.iload 5, 2) := by decide +kernel
theorem dL_law_235 : decode cL_law 235 = .ok (.if_icmp .eq 5, 3) := by decide +kernel
theorem dL_law_238 : decode cL_law 238 = .ok (.iconst 0, 1) := by decide +kernel
theorem dL_law_239 : decode cL_law 239 = .ok (.ireturn, 1) := by decide +kernel
theorem dL_law_240 : decode cL_law 240 = .ok (.iload 5, 2) := by decide +kernel
theorem dL_law_242 : decode cL_law 242 = .ok (.ifCond .ne 15, 3) := by decide +kernel
theorem dL_law_245 : decode cL_law 245 = .ok (.aload_n 3, 1) := by decide +kernel
theorem dL_law_246 : decode cL_law 246 = .ok (.iconst 0, 1) := by decide +kernel
theorem dL_law_247 : decode cL_law 247 = .ok (.laload, 1) := by decide +kernel
theorem dL_law_248 : decode cL_law 248 = .ok (.iload 6, 2) := by decide +kernel
theorem dL_law_250 : decode cL_law 250 = .ok (.i2l, 1) := by decide +kernel
theorem dL_law_251 : decode cL_law 251 = .ok (.lcmp, 1) := by decide +kernel
theorem dL_law_252 : decode cL_law 252 = .ok (.ifCond .eq 5, 3) := by decide +kernel
theorem dL_law_255 : decode cL_law 255 = .ok (.iconst 0, 1) := by decide +kernel
theorem dL_law_256 : decode cL_law 256 = .ok (.ireturn, 1) := by decide +kernel
theorem dL_law_257 : decode cL_law 257 = .ok (.goto 1245, 3) := by decide +kernel
theorem dL_law_260 : decode cL_law 260 = .ok (.aload_n 1, 1) := by decide +kernel
theorem dL_law_261 : decode cL_law 261 = .ok (.aload_n 0, 1) := by decide +kernel
theorem dL_law_262 : decode cL_law 262 = .ok (.iload 4, 2) := by decide +kernel
theorem dL_law_264 : decode cL_law 264 = .ok (.iconst 1, 1) := by decide +kernel
theorem dL_law_265 : decode cL_law 265 = .ok (.iadd, 1) := by decide +kernel
theorem dL_law_266 : decode cL_law 266 = .ok (.iaload, 1) := by decide +kernel
theorem dL_law_267 : decode cL_law 267 = .ok (.aload_n 0, 1) := by decide +kernel
theorem dL_law_268 : decode cL_law 268 = .ok (.iload 4, 2) := by decide +kernel
theorem dL_law_270 : decode cL_law 270 = .ok (.iconst 2, 1) := by decide +kernel
theorem dL_law_271 : decode cL_law 271 = .ok (.iadd, 1) := by decide +kernel
theorem dL_law_272 : decode cL_law 272 = .ok (.iaload, 1) := by decide +kernel
theorem dL_law_273 : decode cL_law 273 = .ok (.aload_n 0, 1) := by decide +kernel
theorem dL_law_274 : decode cL_law 274 = .ok (.iload 4, 2) := by decide +kernel
theorem dL_law_276 : decode cL_law 276 = .ok (.iconst 3, 1) := by decide +kernel
theorem dL_law_277 : decode cL_law 277 = .ok (.iadd, 1) := by decide +kernel
theorem dL_law_278 : decode cL_law 278 = .ok (.iaload, 1) := by decide +kernel
theorem dL_law_279 : decode cL_law 279 = .ok (.aload_n 3, 1) := by decide +kernel
theorem dL_law_280 : decode cL_law 280 = .ok (.invokestatic 93, 3) := by decide +kernel
theorem dL_law_283 : decode cL_law 283 = .ok (.istore 5, 2) := by decide +kernel
theorem dL_law_285 : decode cL_law 285 = .ok (.aload_n 2, 1) := by decide +kernel
theorem dL_law_286 : decode cL_law 286 = .ok (.aload_n 0, 1) := by decide +kernel
theorem dL_law_287 : decode cL_law 287 = .ok (.iload 4, 2) := by decide +kernel
theorem dL_law_289 : decode cL_law 289 = .ok (.iconst 1, 1) := by decide +kernel
theorem dL_law_290 : decode cL_law 290 = .ok (.iadd, 1) := by decide +kernel
theorem dL_law_291 : decode cL_law 291 = .ok (.iaload, 1) := by decide +kernel
theorem dL_law_292 : decode cL_law 292 = .ok (.aload_n 0, 1) := by decide +kernel
theorem dL_law_293 : decode cL_law 293 = .ok (.iload 4, 2) := by decide +kernel
theorem dL_law_295 : decode cL_law 295 = .ok (.iconst 2, 1) := by decide +kernel
theorem dL_law_296 : decode cL_law 296 = .ok (.iadd, 1) := by decide +kernel
theorem dL_law_297 : decode cL_law 297 = .ok (.iaload, 1) := by decide +kernel
theorem dL_law_298 : decode cL_law 298 = .ok (.aload_n 0, 1) := by decide +kernel
theorem dL_law_299 : decode cL_law 299 = .ok (.iload 4, 2) := by decide +kernel
theorem dL_law_301 : decode cL_law 301 = .ok (.iconst 3, 1) := by decide +kernel
theorem dL_law_302 : decode cL_law 302 = .ok (.iadd, 1) := by decide +kernel
theorem dL_law_303 : decode cL_law 303 = .ok (.iaload, 1) := by decide +kernel
theorem dL_law_304 : decode cL_law 304 = .ok (.invokevirtual 96, 3) := by decide +kernel
theorem dL_law_307 : decode cL_law 307 = .ok (.istore 6, 2) := by decide +kernel
theorem dL_law_309 : decode cL_law 309 = .ok (.aload_n 2, 1) := by decide +kernel
theorem dL_law_310 : decode cL_law 310 = .ok (.invokevirtual 90, 3) := by decide +kernel
theorem dL_law_313 : decode cL_law 313 = .ok (.iload 5, 2) := by decide +kernel
theorem dL_law_315 : decode cL_law 315 = .ok (.if_icmp .eq 5, 3) := by decide +kernel
theorem dL_law_318 : decode cL_law 318 = .ok (.iconst 0, 1) := by decide +kernel
theorem dL_law_319 : decode cL_law 319 = .ok (.ireturn, 1) := by decide +kernel
theorem dL_law_320 : decode cL_law 320 = .ok (.iload 5, 2) := by decide +kernel
theorem dL_law_322 : decode cL_law 322 = .ok (.ifCond .ne 15, 3) := by decide +kernel
theorem dL_law_325 : decode cL_law 325 = .ok (.aload_n 3, 1) := by decide +kernel
theorem dL_law_326 : decode cL_law 326 = .ok (.iconst 0, 1) := by decide +kernel
theorem dL_law_327 : decode cL_law 327 = .ok (.laload, 1) := by decide +kernel
theorem dL_law_328 : decode cL_law 328 = .ok (.iload 6, 2) := by decide +kernel
theorem dL_law_330 : decode cL_law 330 = .ok (.i2l, 1) := by decide +kernel
theorem dL_law_331 : decode cL_law 331 = .ok (.lcmp, 1) := by decide +kernel
theorem dL_law_332 : decode cL_law 332 = .ok (.ifCond .eq 5, 3) := by decide +kernel
theorem dL_law_335 : decode cL_law 335 = .ok (.iconst 0, 1) := by decide +kernel
theorem dL_law_336 : decode cL_law 336 = .ok (.ireturn, 1) := by decide +kernel
theorem dL_law_337 : decode cL_law 337 = .ok (.goto 1165, 3) := by decide +kernel
theorem dL_law_340 : decode cL_law 340 = .ok (.aload_n 1, 1) := by decide +kernel
theorem dL_law_341 : decode cL_law 341 = .ok (.aload_n 0, 1) := by decide +kernel
theorem dL_law_342 : decode cL_law 342 = .ok (.iload 4, 2) := by decide +kernel
theorem dL_law_344 : decode cL_law 344 = .ok (.iconst 1, 1) := by decide +kernel
theorem dL_law_345 : decode cL_law 345 = .ok (.iadd, 1) := by decide +kernel
theorem dL_law_346 : decode cL_law 346 = .ok (.iaload, 1) := by decide +kernel
theorem dL_law_347 : decode cL_law 347 = .ok (.aload_n 3, 1) := by decide +kernel
theorem dL_law_348 : decode cL_law 348 = .ok (.invokestatic 97, 3) := by decide +kernel
theorem dL_law_351 : decode cL_law 351 = .ok (.istore 5, 2) := by decide +kernel
theorem dL_law_353 : decode cL_law 353 = .ok (.aload_n 2, 1) := by decide +kernel
theorem dL_law_354 : decode cL_law 354 = .ok (.aload_n 0, 1) := by decide +kernel
theorem dL_law_355 : decode cL_law 355 = .ok (.iload 4, 2) := by decide +kernel
theorem dL_law_357 : decode cL_law 357 = .ok (.iconst 1, 1) := by decide +kernel
theorem dL_law_358 : decode cL_law 358 = .ok (.iadd, 1) := by decide +kernel
theorem dL_law_359 : decode cL_law 359 = .ok (.iaload, 1) := by decide +kernel
theorem dL_law_360 : decode cL_law 360 = .ok (.invokevirtual 100, 3) := by decide +kernel
theorem dL_law_363 : decode cL_law 363 = .ok (.istore 6, 2) := by decide +kernel
theorem dL_law_365 : decode cL_law 365 = .ok (.aload_n 2, 1) := by decide +kernel
theorem dL_law_366 : decode cL_law 366 = .ok (.invokevirtual 90, 3) := by decide +kernel
theorem dL_law_369 : decode cL_law 369 = .ok (.iload 5, 2) := by decide +kernel
theorem dL_law_371 : decode cL_law 371 = .ok (.if_icmp .eq 5, 3) := by decide +kernel
theorem dL_law_374 : decode cL_law 374 = .ok (.iconst 0, 1) := by decide +kernel
theorem dL_law_375 : decode cL_law 375 = .ok (.ireturn, 1) := by decide +kernel
theorem dL_law_376 : decode cL_law 376 = .ok (.iload 5, 2) := by decide +kernel
theorem dL_law_378 : decode cL_law 378 = .ok (.ifCond .ne 15, 3) := by decide +kernel
theorem dL_law_381 : decode cL_law 381 = .ok (.aload_n 3, 1) := by decide +kernel
theorem dL_law_382 : decode cL_law 382 = .ok (.iconst 0, 1) := by decide +kernel
theorem dL_law_383 : decode cL_law 383 = .ok (.laload, 1) := by decide +kernel
theorem dL_law_384 : decode cL_law 384 = .ok (.iload 6, 2) := by decide +kernel
theorem dL_law_386 : decode cL_law 386 = .ok (.i2l, 1) := by decide +kernel
theorem dL_law_387 : decode cL_law 387 = .ok (.lcmp, 1) := by decide +kernel
theorem dL_law_388 : decode cL_law 388 = .ok (.ifCond .eq 5, 3) := by decide +kernel
theorem dL_law_391 : decode cL_law 391 = .ok (.iconst 0, 1) := by decide +kernel
theorem dL_law_392 : decode cL_law 392 = .ok (.ireturn, 1) := by decide +kernel
theorem dL_law_393 : decode cL_law 393 = .ok (.goto 1109, 3) := by decide +kernel
theorem dL_law_396 : decode cL_law 396 = .ok (.aload_n 1, 1) := by decide +kernel
theorem dL_law_397 : decode cL_law 397 = .ok (.aload_n 0, 1) := by decide +kernel
theorem dL_law_398 : decode cL_law 398 = .ok (.iload 4, 2) := by decide +kernel
theorem dL_law_400 : decode cL_law 400 = .ok (.iconst 1, 1) := by decide +kernel
theorem dL_law_401 : decode cL_law 401 = .ok (.iadd, 1) := by decide +kernel
theorem dL_law_402 : decode cL_law 402 = .ok (.iaload, 1) := by decide +kernel
theorem dL_law_403 : decode cL_law 403 = .ok (.aload_n 0, 1) := by decide +kernel
theorem dL_law_404 : decode cL_law 404 = .ok (.iload 4, 2) := by decide +kernel
theorem dL_law_406 : decode cL_law 406 = .ok (.iconst 2, 1) := by decide +kernel
theorem dL_law_407 : decode cL_law 407 = .ok (.iadd, 1) := by decide +kernel
theorem dL_law_408 : decode cL_law 408 = .ok (.iaload, 1) := by decide +kernel
theorem dL_law_409 : decode cL_law 409 = .ok (.aload_n 3, 1) := by decide +kernel
theorem dL_law_410 : decode cL_law 410 = .ok (.invokestatic 101, 3) := by decide +kernel
theorem dL_law_413 : decode cL_law 413 = .ok (.istore 5, 2) := by decide +kernel
theorem dL_law_415 : decode cL_law 415 = .ok (.aload_n 2, 1) := by decide +kernel
theorem dL_law_416 : decode cL_law 416 = .ok (.aload_n 0, 1) := by decide +kernel
theorem dL_law_417 : decode cL_law 417 = .ok (.iload 4, 2) := by decide +kernel
theorem dL_law_419 : decode cL_law 419 = .ok (.iconst 1, 1) := by decide +kernel
theorem dL_law_420 : decode cL_law 420 = .ok (.iadd, 1) := by decide +kernel
theorem dL_law_421 : decode cL_law 421 = .ok (.iaload, 1) := by decide +kernel
theorem dL_law_422 : decode cL_law 422 = .ok (.aload_n 0, 1) := by decide +kernel
theorem dL_law_423 : decode cL_law 423 = .ok (.iload 4, 2) := by decide +kernel
theorem dL_law_425 : decode cL_law 425 = .ok (.iconst 2, 1) := by decide +kernel
theorem dL_law_426 : decode cL_law 426 = .ok (.iadd, 1) := by decide +kernel
theorem dL_law_427 : decode cL_law 427 = .ok (.iaload, 1) := by decide +kernel
theorem dL_law_428 : decode cL_law 428 = .ok (.invokevirtual 104, 3) := by decide +kernel
theorem dL_law_431 : decode cL_law 431 = .ok (.istore 6, 2) := by decide +kernel
theorem dL_law_433 : decode cL_law 433 = .ok (.aload_n 2, 1) := by decide +kernel
theorem dL_law_434 : decode cL_law 434 = .ok (.invokevirtual 90, 3) := by decide +kernel
theorem dL_law_437 : decode cL_law 437 = .ok (.iload 5, 2) := by decide +kernel
theorem dL_law_439 : decode cL_law 439 = .ok (.if_icmp .eq 5, 3) := by decide +kernel
theorem dL_law_442 : decode cL_law 442 = .ok (.iconst 0, 1) := by decide +kernel
theorem dL_law_443 : decode cL_law 443 = .ok (.ireturn, 1) := by decide +kernel
end
section
theorem dL_law_444 : decode cL_law 444 = .ok (.iload 5, 2) := by decide +kernel
theorem dL_law_446 : decode cL_law 446 = .ok (.ifCond .ne 15, 3) := by decide +kernel
theorem dL_law_449 : decode cL_law 449 = .ok (.aload_n 3, 1) := by decide +kernel
theorem dL_law_450 : decode cL_law 450 = .ok (.iconst 0, 1) := by decide +kernel
theorem dL_law_451 : decode cL_law 451 = .ok (.laload, 1) := by decide +kernel
theorem dL_law_452 : decode cL_law 452 = .ok (.iload 6, 2) := by decide +kernel
theorem dL_law_454 : decode cL_law 454 = .ok (.i2l, 1) := by decide +kernel
theorem dL_law_455 : decode cL_law 455 = .ok (.lcmp, 1) := by decide +kernel
theorem dL_law_456 : decode cL_law 456 = .ok (.ifCond .eq 5, 3) := by decide +kernel
theorem dL_law_459 : decode cL_law 459 = .ok (.iconst 0, 1) := by decide +kernel
theorem dL_law_460 : decode cL_law 460 = .ok (.ireturn, 1) := by decide +kernel
theorem dL_law_461 : decode cL_law 461 = .ok (.goto 1041, 3) := by decide +kernel
theorem dL_law_464 : decode cL_law 464 = .ok (.aload_n 1, 1) := by decide +kernel
theorem dL_law_465 : decode cL_law 465 = .ok (.aload_n 0, 1) := by decide +kernel
theorem dL_law_466 : decode cL_law 466 = .ok (.iload 4, 2) := by decide +kernel
theorem dL_law_468 : decode cL_law 468 = .ok (.iconst 1, 1) := by decide +kernel
theorem dL_law_469 : decode cL_law 469 = .ok (.iadd, 1) := by decide +kernel
theorem dL_law_470 : decode cL_law 470 = .ok (.iaload, 1) := by decide +kernel
theorem dL_law_471 : decode cL_law 471 = .ok (.aload_n 3, 1) := by decide +kernel
theorem dL_law_472 : decode cL_law 472 = .ok (.invokestatic 105, 3) := by decide +kernel
theorem dL_law_475 : decode cL_law 475 = .ok (.istore 5, 2) := by decide +kernel
theorem dL_law_477 : decode cL_law 477 = .ok (.aload_n 2, 1) := by decide +kernel
theorem dL_law_478 : decode cL_law 478 = .ok (.aload_n 0, 1) := by decide +kernel
theorem dL_law_479 : decode cL_law 479 = .ok (.iload 4, 2) := by decide +kernel
theorem dL_law_481 : decode cL_law 481 = .ok (.iconst 1, 1) := by decide +kernel
theorem dL_law_482 : decode cL_law 482 = .ok (.iadd, 1) := by decide +kernel
theorem dL_law_483 : decode cL_law 483 = .ok (.iaload, 1) := by decide +kernel
theorem dL_law_484 : decode cL_law 484 = .ok (.invokevirtual 107, 3) := by decide +kernel
theorem dL_law_487 : decode cL_law 487 = .ok (.istore 6, 2) := by decide +kernel
theorem dL_law_489 : decode cL_law 489 = .ok (.aload_n 2, 1) := by decide +kernel
theorem dL_law_490 : decode cL_law 490 = .ok (.invokevirtual 90, 3) := by decide +kernel
theorem dL_law_493 : decode cL_law 493 = .ok (.iload 5, 2) := by decide +kernel
theorem dL_law_495 : decode cL_law 495 = .ok (.if_icmp .eq 5, 3) := by decide +kernel
theorem dL_law_498 : decode cL_law 498 = .ok (.iconst 0, 1) := by decide +kernel
theorem dL_law_499 : decode cL_law 499 = .ok (.ireturn, 1) := by decide +kernel
theorem dL_law_500 : decode cL_law 500 = .ok (.iload 5, 2) := by decide +kernel
theorem dL_law_502 : decode cL_law 502 = .ok (.ifCond .ne 15, 3) := by decide +kernel
theorem dL_law_505 : decode cL_law 505 = .ok (.aload_n 3, 1) := by decide +kernel
theorem dL_law_506 : decode cL_law 506 = .ok (.iconst 0, 1) := by decide +kernel
theorem dL_law_507 : decode cL_law 507 = .ok (.laload, 1) := by decide +kernel
theorem dL_law_508 : decode cL_law 508 = .ok (.iload 6, 2) := by decide +kernel
theorem dL_law_510 : decode cL_law 510 = .ok (.i2l, 1) := by decide +kernel
theorem dL_law_511 : decode cL_law 511 = .ok (.lcmp, 1) := by decide +kernel
theorem dL_law_512 : decode cL_law 512 = .ok (.ifCond .eq 5, 3) := by decide +kernel
theorem dL_law_515 : decode cL_law 515 = .ok (.iconst 0, 1) := by decide +kernel
theorem dL_law_516 : decode cL_law 516 = .ok (.ireturn, 1) := by decide +kernel
theorem dL_law_517 : decode cL_law 517 = .ok (.goto 985, 3) := by decide +kernel
theorem dL_law_520 : decode cL_law 520 = .ok (.aload_n 1, 1) := by decide +kernel
theorem dL_law_521 : decode cL_law 521 = .ok (.aload_n 0, 1) := by decide +kernel
theorem dL_law_522 : decode cL_law 522 = .ok (.iload 4, 2) := by decide +kernel
theorem dL_law_524 : decode cL_law 524 = .ok (.iconst 1, 1) := by decide +kernel
theorem dL_law_525 : decode cL_law 525 = .ok (.iadd, 1) := by decide +kernel
theorem dL_law_526 : decode cL_law 526 = .ok (.iaload, 1) := by decide +kernel
theorem dL_law_527 : decode cL_law 527 = .ok (.aload_n 0, 1) := by decide +kernel
theorem dL_law_528 : decode cL_law 528 = .ok (.iload 4, 2) := by decide +kernel
theorem dL_law_530 : decode cL_law 530 = .ok (.iconst 2, 1) := by decide +kernel
theorem dL_law_531 : decode cL_law 531 = .ok (.iadd, 1) := by decide +kernel
theorem dL_law_532 : decode cL_law 532 = .ok (.iaload, 1) := by decide +kernel
theorem dL_law_533 : decode cL_law 533 = .ok (.aload_n 3, 1) := by decide +kernel
theorem dL_law_534 : decode cL_law 534 = .ok (.invokestatic 108, 3) := by decide +kernel
theorem dL_law_537 : decode cL_law 537 = .ok (.istore 5, 2) := by decide +kernel
theorem dL_law_539 : decode cL_law 539 = .ok (.aload_n 2, 1) := by decide +kernel
theorem dL_law_540 : decode cL_law 540 = .ok (.aload_n 0, 1) := by decide +kernel
theorem dL_law_541 : decode cL_law 541 = .ok (.iload 4, 2) := by decide +kernel
theorem dL_law_543 : decode cL_law 543 = .ok (.iconst 1, 1) := by decide +kernel
theorem dL_law_544 : decode cL_law 544 = .ok (.iadd, 1) := by decide +kernel
theorem dL_law_545 : decode cL_law 545 = .ok (.iaload, 1) := by decide +kernel
theorem dL_law_546 : decode cL_law 546 = .ok (.aload_n 0, 1) := by decide +kernel
theorem dL_law_547 : decode cL_law 547 = .ok (.iload 4, 2) := by decide +kernel
theorem dL_law_549 : decode cL_law 549 = .ok (.iconst 2, 1) := by decide +kernel
theorem dL_law_550 : decode cL_law 550 = .ok (.iadd, 1) := by decide +kernel
theorem dL_law_551 : decode cL_law 551 = .ok (.iaload, 1) := by decide +kernel
theorem dL_law_552 : decode cL_law 552 = .ok (.invokevirtual 110, 3) := by decide +kernel
theorem dL_law_555 : decode cL_law 555 = .ok (.istore 6, 2) := by decide +kernel
theorem dL_law_557 : decode cL_law 557 = .ok (.aload_n 2, 1) := by decide +kernel
theorem dL_law_558 : decode cL_law 558 = .ok (.invokevirtual 90, 3) := by decide +kernel
theorem dL_law_561 : decode cL_law 561 = .ok (.iload 5, 2) := by decide +kernel
theorem dL_law_563 : decode cL_law 563 = .ok (.if_icmp .eq 5, 3) := by decide +kernel
theorem dL_law_566 : decode cL_law 566 = .ok (.iconst 0, 1) := by decide +kernel
theorem dL_law_567 : decode cL_law 567 = .ok (.ireturn, 1) := by decide +kernel
theorem dL_law_568 : decode cL_law 568 = .ok (.iload 5, 2) := by decide +kernel
theorem dL_law_570 : decode cL_law 570 = .ok (.ifCond .ne 15, 3) := by decide +kernel
theorem dL_law_573 : decode cL_law 573 = .ok (.aload_n 3, 1) := by decide +kernel
theorem dL_law_574 : decode cL_law 574 = .ok (.iconst 0, 1) := by decide +kernel
theorem dL_law_575 : decode cL_law 575 = .ok (.laload, 1) := by decide +kernel
theorem dL_law_576 : decode cL_law 576 = .ok (.iload 6, 2) := by decide +kernel
theorem dL_law_578 : decode cL_law 578 = .ok (.i2l, 1) := by decide +kernel
theorem dL_law_579 : decode cL_law 579 = .ok (.lcmp, 1) := by decide +kernel
theorem dL_law_580 : decode cL_law 580 = .ok (.ifCond .eq 5, 3) := by decide +kernel
theorem dL_law_583 : decode cL_law 583 = .ok (.iconst 0, 1) := by decide +kernel
theorem dL_law_584 : decode cL_law 584 = .ok (.ireturn, 1) := by decide +kernel
theorem dL_law_585 : decode cL_law 585 = .ok (.goto 917, 3) := by decide +kernel
theorem dL_law_588 : decode cL_law 588 = .ok (.aload_n 1, 1) := by decide +kernel
theorem dL_law_589 : decode cL_law 589 = .ok (.aload_n 0, 1) := by decide +kernel
theorem dL_law_590 : decode cL_law 590 = .ok (.iload 4, 2) := by decide +kernel
theorem dL_law_592 : decode cL_law 592 = .ok (.iconst 1, 1) := by decide +kernel
theorem dL_law_593 : decode cL_law 593 = .ok (.iadd, 1) := by decide +kernel
theorem dL_law_594 : decode cL_law 594 = .ok (.iaload, 1) := by decide +kernel
theorem dL_law_595 : decode cL_law 595 = .ok (.aload_n 0, 1) := by decide +kernel
theorem dL_law_596 : decode cL_law 596 = .ok (.iload 4, 2) := by decide +kernel
theorem dL_law_598 : decode cL_law 598 = .ok (.iconst 2, 1) := by decide +kernel
theorem dL_law_599 : decode cL_law 599 = .ok (.iadd, 1) := by decide +kernel
theorem dL_law_600 : decode cL_law 600 = .ok (.iaload, 1) := by decide +kernel
theorem dL_law_601 : decode cL_law 601 = .ok (.aload_n 3, 1) := by decide +kernel
theorem dL_law_602 : decode cL_law 602 = .ok (.invokestatic 111, 3) := by decide +kernel
theorem dL_law_605 : decode cL_law 605 = .ok (.istore 5, 2) := by decide +kernel
theorem dL_law_607 : decode cL_law 607 = .ok (.aload_n 2, 1) := by decide +kernel
theorem dL_law_608 : decode cL_law 608 = .ok (.aload_n 0, 1) := by decide +kernel
theorem dL_law_609 : decode cL_law 609 = .ok (.iload 4, 2) := by decide +kernel
theorem dL_law_611 : decode cL_law 611 = .ok (.iconst 1, 1) := by decide +kernel
theorem dL_law_612 : decode cL_law 612 = .ok (.iadd, 1) := by decide +kernel
theorem dL_law_613 : decode cL_law 613 = .ok (.iaload, 1) := by decide +kernel
theorem dL_law_614 : decode cL_law 614 = .ok (.aload_n 0, 1) := by decide +kernel
theorem dL_law_615 : decode cL_law 615 = .ok (.iload 4, 2) := by decide +kernel
theorem dL_law_617 : decode cL_law 617 = .ok (.iconst 2, 1) := by decide +kernel
theorem dL_law_618 : decode cL_law 618 = .ok (.iadd, 1) := by decide +kernel
theorem dL_law_619 : decode cL_law 619 = .ok (.iaload, 1) := by decide +kernel
theorem dL_law_620 : decode cL_law 620 = .ok (.invokevirtual 113, 3) := by decide +kernel
theorem dL_law_623 : decode cL_law 623 = .ok (.istore 6, 2) := by decide +kernel
theorem dL_law_625 : decode cL_law 625 = .ok (.aload_n 2, 1) := by decide +kernel
theorem dL_law_626 : decode cL_law 626 = .ok (.invokevirtual 90, 3) := by decide +kernel
theorem dL_law_629 : decode cL_law 629 = .ok (.iload 5, 2) := by decide +kernel
theorem dL_law_631 : decode cL_law 631 = .ok (.if_icmp .eq 5, 3) := by decide +kernel
theorem dL_law_634 : decode cL_law 634 = .ok (.iconst 0, 1) := by decide +kernel
theorem dL_law_635 : decode cL_law 635 = .ok (.ireturn, 1) := by decide +kernel
theorem dL_law_636 : decode cL_law 636 = .ok (.iload 5, 2) := by decide +kernel
theorem dL_law_638 : decode cL_law 638 = .ok (.ifCond .ne 15, 3) := by decide +kernel
theorem dL_law_641 : decode cL_law 641 = .ok (.aload_n 3, 1) := by decide +kernel
theorem dL_law_642 : decode cL_law 642 = .ok (.iconst 0, 1) := by decide +kernel
theorem dL_law_643 : decode cL_law 643 = .ok (.laload, 1) := by decide +kernel
theorem dL_law_644 : decode cL_law 644 = .ok (.iload 6, 2) := by decide +kernel
theorem dL_law_646 : decode cL_law 646 = .ok (.i2l, 1) := by decide +kernel
theorem dL_law_647 : decode cL_law 647 = .ok (.lcmp, 1) := by decide +kernel
theorem dL_law_648 : decode cL_law 648 = .ok (.ifCond .eq 5, 3) := by decide +kernel
theorem dL_law_651 : decode cL_law 651 = .ok (.iconst 0, 1) := by decide +kernel
theorem dL_law_652 : decode cL_law 652 = .ok (.ireturn, 1) := by decide +kernel
theorem dL_law_653 : decode cL_law 653 = .ok (.goto 849, 3) := by decide +kernel
theorem dL_law_656 : decode cL_law 656 = .ok (.aload_n 1, 1) := by decide +kernel
theorem dL_law_657 : decode cL_law 657 = .ok (.aload_n 0, 1) := by decide +kernel
theorem dL_law_658 : decode cL_law 658 = .ok (.iload 4, 2) := by decide +kernel
theorem dL_law_660 : decode cL_law 660 = .ok (.iconst 1, 1) := by decide +kernel
theorem dL_law_661 : decode cL_law 661 = .ok (.iadd, 1) := by decide +kernel
theorem dL_law_662 : decode cL_law 662 = .ok (.iaload, 1) := by decide +kernel
theorem dL_law_663 : decode cL_law 663 = .ok (.aload_n 0, 1) := by decide +kernel
theorem dL_law_664 : decode cL_law 664 = .ok (.iload 4, 2) := by decide +kernel
theorem dL_law_666 : decode cL_law 666 = .ok (.iconst 2, 1) := by decide +kernel
theorem dL_law_667 : decode cL_law 667 = .ok (.iadd, 1) := by decide +kernel
theorem dL_law_668 : decode cL_law 668 = .ok (.iaload, 1) := by decide +kernel
theorem dL_law_669 : decode cL_law 669 = .ok (.aload_n 3, 1) := by decide +kernel
theorem dL_law_670 : decode cL_law 670 = .ok (.invokestatic 114, 3) := by decide +kernel
theorem dL_law_673 : decode cL_law 673 = .ok (.istore 5, 2) := by decide +kernel
theorem dL_law_675 : decode cL_law 675 = .ok (.aload_n 2, 1) := by decide +kernel
theorem dL_law_676 : decode cL_law 676 = .ok (.aload_n 0, 1) := by decide +kernel
theorem dL_law_677 : decode cL_law 677 = .ok (.iload 4, 2) := by decide +kernel
theorem dL_law_679 : decode cL_law 679 = .ok (.iconst 1, 1) := by decide +kernel
theorem dL_law_680 : decode cL_law 680 = .ok (.iadd, 1) := by decide +kernel
theorem dL_law_681 : decode cL_law 681 = .ok (.iaload, 1) := by decide +kernel
theorem dL_law_682 : decode cL_law 682 = .ok (.aload_n 0, 1) := by decide +kernel
theorem dL_law_683 : decode cL_law 683 = .ok (.iload 4, 2) := by decide +kernel
theorem dL_law_685 : decode cL_law 685 = .ok (.iconst 2, 1) := by decide +kernel
theorem dL_law_686 : decode cL_law 686 = .ok (.iadd, 1) := by decide +kernel
theorem dL_law_687 : decode cL_law 687 = .ok (.iaload, 1) := by decide +kernel
theorem dL_law_688 : decode cL_law 688 = .ok (.invokevirtual 116, 3) := by decide +kernel
theorem dL_law_691 : decode cL_law 691 = .ok (.istore 6, 2) := by decide +kernel
theorem dL_law_693 : decode cL_law 693 = .ok (.aload_n 2, 1) := by decide +kernel
theorem dL_law_694 : decode cL_law 694 = .ok (.invokevirtual 90, 3) := by decide +kernel
theorem dL_law_697 : decode cL_law 697 = .ok (.iload 5, 2) := by decide +kernel
theorem dL_law_699 : decode cL_law 699 = .ok (.if_icmp .eq 5, 3) := by decide +kernel
theorem dL_law_702 : decode cL_law 702 = .ok (.iconst 0, 1) := by decide +kernel
theorem dL_law_703 : decode cL_law 703 = .ok (.ireturn, 1) := by decide +kernel
theorem dL_law_704 : decode cL_law 704 = .ok (.iload 5, 2) := by decide +kernel
theorem dL_law_706 : decode cL_law 706 = .ok (.ifCond .ne 15, 3) := by decide +kernel
theorem dL_law_709 : decode cL_law 709 = .ok (.aload_n 3, 1) := by decide +kernel
theorem dL_law_710 : decode cL_law 710 = .ok (.iconst 0, 1) := by decide +kernel
theorem dL_law_711 : decode cL_law 711 = .ok (.laload, 1) := by decide +kernel
theorem dL_law_712 : decode cL_law 712 = .ok (.iload 6, 2) := by decide +kernel
theorem dL_law_714 : decode cL_law 714 = .ok (.i2l, 1) := by decide +kernel
theorem dL_law_715 : decode cL_law 715 = .ok (.lcmp, 1) := by decide +kernel
theorem dL_law_716 : decode cL_law 716 = .ok (.ifCond .eq 5, 3) := by decide +kernel
theorem dL_law_719 : decode cL_law 719 = .ok (.iconst 0, 1) := by decide +kernel
theorem dL_law_720 : decode cL_law 720 = .ok (.ireturn, 1) := by decide +kernel
theorem dL_law_721 : decode cL_law 721 = .ok (.goto 781, 3) := by decide +kernel
theorem dL_law_724 : decode cL_law 724 = .ok (.aload_n 1, 1) := by decide +kernel
theorem dL_law_725 : decode cL_law 725 = .ok (.aload_n 0, 1) := by decide +kernel
theorem dL_law_726 : decode cL_law 726 = .ok (.iload 4, 2) := by decide +kernel
theorem dL_law_728 : decode cL_law 728 = .ok (.iconst 1, 1) := by decide +kernel
theorem dL_law_729 : decode cL_law 729 = .ok (.iadd, 1) := by decide +kernel
theorem dL_law_730 : decode cL_law 730 = .ok (.iaload, 1) := by decide +kernel
theorem dL_law_731 : decode cL_law 731 = .ok (.aload_n 3, 1) := by decide +kernel
theorem dL_law_732 : decode cL_law 732 = .ok (.invokestatic 117, 3) := by decide +kernel
theorem dL_law_735 : decode cL_law 735 = .ok (.istore 5, 2) := by decide +kernel
theorem dL_law_737 : decode cL_law 737 = .ok (.aload_n 2, 1) := by decide +kernel
theorem dL_law_738 : decode cL_law 738 = .ok (.aload_n 0, 1) := by decide +kernel
theorem dL_law_739 : decode cL_law 739 = .ok (.iload 4, 2) := by decide +kernel
theorem dL_law_741 : decode cL_law 741 = .ok (.iconst 1, 1) := by decide +kernel
theorem dL_law_742 : decode cL_law 742 = .ok (.iadd, 1) := by decide +kernel
theorem dL_law_743 : decode cL_law 743 = .ok (.iaload, 1) := by decide +kernel
theorem dL_law_744 : decode cL_law 744 = .ok (.invokevirtual 119, 3) := by decide +kernel
theorem dL_law_747 : decode cL_law 747 = .ok (.istore 6, 2) := by decide +kernel
theorem dL_law_749 : decode cL_law 749 = .ok (.aload_n 2, 1) := by decide +kernel
theorem dL_law_750 : decode cL_law 750 = .ok (.invokevirtual 90, 3) := by decide +kernel
theorem dL_law_753 : decode cL_law 753 = .ok (.iload 5, 2) := by decide +kernel
theorem dL_law_755 : decode cL_law 755 = .ok (.if_icmp .eq 5, 3) := by decide +kernel
theorem dL_law_758 : decode cL_law 758 = .ok (.iconst 0, 1) := by decide +kernel
theorem dL_law_759 : decode cL_law 759 = .ok (.ireturn, 1) := by decide +kernel
theorem dL_law_760 : decode cL_law 760 = .ok (.iload 5, 2) := by decide +kernel
theorem dL_law_762 : decode cL_law 762 = .ok (.ifCond .ne 15, 3) := by decide +kernel
theorem dL_law_765 : decode cL_law 765 = .ok (.aload_n 3, 1) := by decide +kernel
theorem dL_law_766 : decode cL_law 766 = .ok (.iconst 0, 1) := by decide +kernel
theorem dL_law_767 : decode cL_law 767 = .ok (.laload, 1) := by decide +kernel
theorem dL_law_768 : decode cL_law 768 = .ok (.iload 6, 2) := by decide +kernel
theorem dL_law_770 : decode cL_law 770 = .ok (.i2l, 1) := by decide +kernel
theorem dL_law_771 : decode cL_law 771 = .ok (.lcmp, 1) := by decide +kernel
theorem dL_law_772 : decode cL_law 772 = .ok (.ifCond .eq 5, 3) := by decide +kernel
theorem dL_law_775 : decode cL_law 775 = .ok (.iconst 0, 1) := by decide +kernel
theorem dL_law_776 : decode cL_law 776 = .ok (.ireturn, 1) := by decide +kernel
theorem dL_law_777 : decode cL_law 777 = .ok (.goto 725, 3) := by decide +kernel
theorem dL_law_780 : decode cL_law 780 = .ok (.aload_n 1, 1) := by decide +kernel
theorem dL_law_781 : decode cL_law 781 = .ok (.invokevirtual 120, 3) := by decide +kernel
theorem dL_law_784 : decode cL_law 784 = .ok (.aload_n 2, 1) := by decide +kernel
theorem dL_law_785 : decode cL_law 785 = .ok (.invokevirtual 123, 3) := by decide +kernel
theorem dL_law_788 : decode cL_law 788 = .ok (.if_icmp .eq 714, 3) := by decide +kernel
theorem dL_law_791 : decode cL_law 791 = .ok (.iconst 0, 1) := by decide +kernel
theorem dL_law_792 : decode cL_law 792 = .ok (.ireturn, 1) := by decide +kernel
theorem dL_law_793 : decode cL_law 793 = .ok (.aload_n 1, 1) := by decide +kernel
theorem dL_law_794 : decode cL_law 794 = .ok (.invokevirtual 124, 3) := by decide +kernel
theorem dL_law_797 : decode cL_law 797 = .ok (.aload_n 2, 1) := by decide +kernel
theorem dL_law_798 : decode cL_law 798 = .ok (.invokevirtual 127, 3) := by decide +kernel
theorem dL_law_801 : decode cL_law 801 = .ok (.if_icmp .eq 701, 3) := by decide +kernel
theorem dL_law_804 : decode cL_law 804 = .ok (.iconst 0, 1) := by decide +kernel
theorem dL_law_805 : decode cL_law 805 = .ok (.ireturn, 1) := by decide +kernel
theorem dL_law_806 : decode cL_law 806 = .ok (.aload_n 1, 1) := by decide +kernel
theorem dL_law_807 : decode cL_law 807 = .ok (.aload_n 3, 1) := by decide +kernel
theorem dL_law_808 : decode cL_law 808 = .ok (.invokestatic 128, 3) := by decide +kernel
theorem dL_law_811 : decode cL_law 811 = .ok (.istore 5, 2) := by decide +kernel
theorem dL_law_813 : decode cL_law 813 = .ok (.aload_n 2, 1) := by decide +kernel
theorem dL_law_814 : decode cL_law 814 = .ok (.invokevirtual 131, 3) := by decide +kernel
theorem dL_law_817 : decode cL_law 817 = .ok (.istore 6, 2) := by decide +kernel
theorem dL_law_819 : decode cL_law 819 = .ok (.aload_n 2, 1) := by decide +kernel
theorem dL_law_820 : decode cL_law 820 = .ok (.invokevirtual 90, 3) := by decide +kernel
theorem dL_law_823 : decode cL_law 823 = .ok (.iload 5, 2) := by decide +kernel
theorem dL_law_825 : decode cL_law 825 = .ok (.if_icmp .eq 5, 3) := by decide +kernel
theorem dL_law_828 : decode cL_law 828 = .ok (.iconst 0, 1) := by decide +kernel
theorem dL_law_829 : decode cL_law 829 = .ok (.ireturn, 1) := by decide +kernel
theorem dL_law_830 : decode cL_law 830 = .ok (.iload 5, 2) := by decide +kernel
theorem dL_law_832 : decode cL_law 832 = .ok (.ifCond .ne 15, 3) := by decide +kernel
theorem dL_law_835 : decode cL_law 835 = .ok (.aload_n 3, 1) := by decide +kernel
theorem dL_law_836 : decode cL_law 836 = .ok (.iconst 0, 1) := by decide +kernel
theorem dL_law_837 : decode cL_law 837 = .ok (.laload, 1) := by decide +kernel
theorem dL_law_838 : decode cL_law 838 = .ok (.iload 6, 2) := by decide +kernel
theorem dL_law_840 : decode cL_law 840 = .ok (.i2l, 1) := by decide +kernel
theorem dL_law_841 : decode cL_law 841 = .ok (.lcmp, 1) := by decide +kernel
theorem dL_law_842 : decode cL_law 842 = .ok (.ifCond .eq 5, 3) := by decide +kernel
theorem dL_law_845 : decode cL_law 845 = .ok (.iconst 0, 1) := by decide +kernel
theorem dL_law_846 : decode cL_law 846 = .ok (.ireturn, 1) := by decide +kernel
theorem dL_law_847 : decode cL_law 847 = .ok (.goto 655, 3) := by decide +kernel
theorem dL_law_850 : decode cL_law 850 = .ok (.aload_n 1, 1) := by decide +kernel
theorem dL_law_851 : decode cL_law 851 = .ok (.aload_n 0, 1) := by decide +kernel
theorem dL_law_852 : decode cL_law 852 = .ok (.iload 4, 2) := by decide +kernel
theorem dL_law_854 : decode cL_law 854 = .ok (.iconst 1, 1) := by decide +kernel
theorem dL_law_855 : decode cL_law 855 = .ok (.iadd, 1) := by decide +kernel
theorem dL_law_856 : decode cL_law 856 = .ok (.iaload, 1) := by decide +kernel
theorem dL_law_857 : decode cL_law 857 = .ok (.aload_n 3, 1) := by decide +kernel
theorem dL_law_858 : decode cL_law 858 = .ok (.invokestatic 132, 3) := by decide +kernel
theorem dL_law_861 : decode cL_law 861 = .ok (.istore 5, 2) := by decide +kernel
theorem dL_law_863 : decode cL_law 863 = .ok (.aload_n 2, 1) := by decide +kernel
theorem dL_law_864 : decode cL_law 864 = .ok (.aload_n 0, 1) := by decide +kernel
theorem dL_law_865 : decode cL_law 865 = .ok (.iload 4, 2) := by decide +kernel
theorem dL_law_867 : decode cL_law 867 = .ok (.iconst 1, 1) := by decide +kernel
theorem dL_law_868 : decode cL_law 868 = .ok (.iadd, 1) := by decide +kernel
theorem dL_law_869 : decode cL_law 869 = .ok (.iaload, 1) := by decide +kernel
theorem dL_law_870 : decode cL_law 870 = .ok (.invokevirtual 134, 3) := by decide +kernel
theorem dL_law_873 : decode cL_law 873 = .ok (.istore 6, 2) := by decide +kernel
theorem dL_law_875 : decode cL_law 875 = .ok (.aload_n 2, 1) := by decide +kernel
theorem dL_law_876 : decode cL_law 876 = .ok (.invokevirtual 90, 3) := by decide +kernel
theorem dL_law_879 : decode cL_law 879 = .ok (.iload 5, 2) := by decide +kernel
theorem dL_law_881 : decode cL_law 881 = .ok (.if_icmp .eq 5, 3) := by decide +kernel
theorem dL_law_884 : decode cL_law 884 = .ok (.iconst 0, 1) := by decide +kernel
theorem dL_law_885 : decode cL_law 885 = .ok (.ireturn, 1) := by decide +kernel
theorem dL_law_886 : decode cL_law 886 = .ok (.iload 5, 2) := by decide +kernel
theorem dL_law_888 : decode cL_law 888 = .ok (.ifCond .ne 15, 3) := by decide +kernel
theorem dL_law_891 : decode cL_law 891 = .ok (.aload_n 3, 1) := by decide +kernel
theorem dL_law_892 : decode cL_law 892 = .ok (.iconst 0, 1) := by decide +kernel
theorem dL_law_893 : decode cL_law 893 = .ok (.laload, 1) := by decide +kernel
theorem dL_law_894 : decode cL_law 894 = .ok (.iload 6, 2) := by decide +kernel
theorem dL_law_896 : decode cL_law 896 = .ok (.i2l, 1) := by decide +kernel
theorem dL_law_897 : decode cL_law 897 = .ok (.lcmp, 1) := by decide +kernel
theorem dL_law_898 : decode cL_law 898 = .ok (.ifCond .eq 5, 3) := by decide +kernel
theorem dL_law_901 : decode cL_law 901 = .ok (.iconst 0, 1) := by decide +kernel
theorem dL_law_902 : decode cL_law 902 = .ok (.ireturn, 1) := by decide +kernel
theorem dL_law_903 : decode cL_law 903 = .ok (.goto 599, 3) := by decide +kernel
theorem dL_law_906 : decode cL_law 906 = .ok (.aload_n 1, 1) := by decide +kernel
theorem dL_law_907 : decode cL_law 907 = .ok (.aload_n 0, 1) := by decide +kernel
theorem dL_law_908 : decode cL_law 908 = .ok (.iload 4, 2) := by decide +kernel
theorem dL_law_910 : decode cL_law 910 = .ok (.iconst 1, 1) := by decide +kernel
theorem dL_law_911 : decode cL_law 911 = .ok (.iadd, 1) := by decide +kernel
theorem dL_law_912 : decode cL_law 912 = .ok (.iaload, 1) := by decide +kernel
theorem dL_law_913 : decode cL_law 913 = .ok (.aload_n 3, 1) := by decide +kernel
theorem dL_law_914 : decode cL_law 914 = .ok (.invokestatic 135, 3) := by decide +kernel
theorem dL_law_917 : decode cL_law 917 = .ok (.istore 5, 2) := by decide +kernel
theorem dL_law_919 : decode cL_law 919 = .ok (.aload_n 2, 1) := by decide +kernel
theorem dL_law_920 : decode cL_law 920 = .ok (.aload_n 0, 1) := by decide +kernel
theorem dL_law_921 : decode cL_law 921 = .ok (.iload 4, 2) := by decide +kernel
theorem dL_law_923 : decode cL_law 923 = .ok (.iconst 1, 1) := by decide +kernel
theorem dL_law_924 : decode cL_law 924 = .ok (.iadd, 1) := by decide +kernel
theorem dL_law_925 : decode cL_law 925 = .ok (.iaload, 1) := by decide +kernel
theorem dL_law_926 : decode cL_law 926 = .ok (.invokevirtual 137, 3) := by decide +kernel
theorem dL_law_929 : decode cL_law 929 = .ok (.istore 6, 2) := by decide +kernel
theorem dL_law_931 : decode cL_law 931 = .ok (.aload_n 2, 1) := by decide +kernel
theorem dL_law_932 : decode cL_law 932 = .ok (.invokevirtual 90, 3) := by decide +kernel
theorem dL_law_935 : decode cL_law 935 = .ok (.iload 5, 2) := by decide +kernel
theorem dL_law_937 : decode cL_law 937 = .ok (.if_icmp .eq 5, 3) := by decide +kernel
theorem dL_law_940 : decode cL_law 940 = .ok (.iconst 0, 1) := by decide +kernel
theorem dL_law_941 : decode cL_law 941 = .ok (.ireturn, 1) := by decide +kernel
theorem dL_law_942 : decode cL_law 942 = .ok (.iload 5, 2) := by decide +kernel
theorem dL_law_944 : decode cL_law 944 = .ok (.ifCond .ne 15, 3) := by decide +kernel
theorem dL_law_947 : decode cL_law 947 = .ok (.aload_n 3, 1) := by decide +kernel
theorem dL_law_948 : decode cL_law 948 = .ok (.iconst 0, 1) := by decide +kernel
theorem dL_law_949 : decode cL_law 949 = .ok (.laload, 1) := by decide +kernel
theorem dL_law_950 : decode cL_law 950 = .ok (.iload 6, 2) := by decide +kernel
theorem dL_law_952 : decode cL_law 952 = .ok (.i2l, 1) := by decide +kernel
theorem dL_law_953 : decode cL_law 953 = .ok (.lcmp, 1) := by decide +kernel
theorem dL_law_954 : decode cL_law 954 = .ok (.ifCond .eq 5, 3) := by decide +kernel
theorem dL_law_957 : decode cL_law 957 = .ok (.iconst 0, 1) := by decide +kernel
theorem dL_law_958 : decode cL_law 958 = .ok (.ireturn, 1) := by decide +kernel
theorem dL_law_959 : decode cL_law 959 = .ok (.goto 543, 3) := by decide +kernel
theorem dL_law_962 : decode cL_law 962 = .ok (.aload_n 1, 1) := by decide +kernel
theorem dL_law_963 : decode cL_law 963 = .ok (.aload_n 3, 1) := by decide +kernel
theorem dL_law_964 : decode cL_law 964 = .ok (.invokestatic 138, 3) := by decide +kernel
theorem dL_law_967 : decode cL_law 967 = .ok (.istore 5, 2) := by decide +kernel
theorem dL_law_969 : decode cL_law 969 = .ok (.aload_n 2, 1) := by decide +kernel
theorem dL_law_970 : decode cL_law 970 = .ok (.invokevirtual 140, 3) := by decide +kernel
theorem dL_law_973 : decode cL_law 973 = .ok (.istore 6, 2) := by decide +kernel
theorem dL_law_975 : decode cL_law 975 = .ok (.aload_n 2, 1) := by decide +kernel
theorem dL_law_976 : decode cL_law 976 = .ok (.invokevirtual 90, 3) := by decide +kernel
theorem dL_law_979 : decode cL_law 979 = .ok (.iload 5, 2) := by decide +kernel
theorem dL_law_981 : decode cL_law 981 = .ok (.if_icmp .eq 5, 3) := by decide +kernel
theorem dL_law_984 : decode cL_law 984 = .ok (.iconst 0, 1) := by decide +kernel
theorem dL_law_985 : decode cL_law 985 = .ok (.ireturn, 1) := by decide +kernel
theorem dL_law_986 : decode cL_law 986 = .ok (.iload 5, 2) := by decide +kernel
theorem dL_law_988 : decode cL_law 988 = .ok (.ifCond .ne 15, 3) := by decide +kernel
theorem dL_law_991 : decode cL_law 991 = .ok (.aload_n 3, 1) := by decide +kernel
theorem dL_law_992 : decode cL_law 992 = .ok (.iconst 0, 1) := by decide +kernel
theorem dL_law_993 : decode cL_law 993 = .ok (.laload, 1) := by decide +kernel
theorem dL_law_994 : decode cL_law 994 = .ok (.iload 6, 2) := by decide +kernel
theorem dL_law_996 : decode cL_law 996 = .ok (.i2l, 1) := by decide +kernel
theorem dL_law_997 : decode cL_law 997 = .ok (.lcmp, 1) := by decide +kernel
theorem dL_law_998 : decode cL_law 998 = .ok (.ifCond .eq 5, 3) := by decide +kernel
theorem dL_law_1001 : decode cL_law 1001 = .ok (.iconst 0, 1) := by decide +kernel
theorem dL_law_1002 : decode cL_law 1002 = .ok (.ireturn, 1) := by decide +kernel
theorem dL_law_1003 : decode cL_law 1003 = .ok (.goto 499, 3) := by decide +kernel
theorem dL_law_1006 : decode cL_law 1006 = .ok (.aload_n 1, 1) := by decide +kernel
theorem dL_law_1007 : decode cL_law 1007 = .ok (.aload_n 0, 1) := by decide +kernel
theorem dL_law_1008 : decode cL_law 1008 = .ok (.iload 4, 2) := by decide +kernel
theorem dL_law_1010 : decode cL_law 1010 = .ok (.iconst 1, 1) := by decide +kernel
theorem dL_law_1011 : decode cL_law 1011 = .ok (.iadd, 1) := by decide +kernel
theorem dL_law_1012 : decode cL_law 1012 = .ok (.iaload, 1) := by decide +kernel
theorem dL_law_1013 : decode cL_law 1013 = .ok (.aload_n 0, 1) := by decide +kernel
theorem dL_law_1014 : decode cL_law 1014 = .ok (.iload 4, 2) := by decide +kernel
theorem dL_law_1016 : decode cL_law 1016 = .ok (.iconst 2, 1) := by decide +kernel
theorem dL_law_1017 : decode cL_law 1017 = .ok (.iadd, 1) := by decide +kernel
theorem dL_law_1018 : decode cL_law 1018 = .ok (.iaload, 1) := by decide +kernel
theorem dL_law_1019 : decode cL_law 1019 = .ok (.aload_n 3, 1) := by decide +kernel
theorem dL_law_1020 : decode cL_law 1020 = .ok (.invokestatic 141, 3) := by decide +kernel
theorem dL_law_1023 : decode cL_law 1023 = .ok (.istore 5, 2) := by decide +kernel
theorem dL_law_1025 : decode cL_law 1025 = .ok (.aload_n 2, 1) := by decide +kernel
theorem dL_law_1026 : decode cL_law 1026 = .ok (.aload_n 0, 1) := by decide +kernel
theorem dL_law_1027 : decode cL_law 1027 = .ok (.iload 4, 2) := by decide +kernel
theorem dL_law_1029 : decode cL_law 1029 = .ok (.iconst 1, 1) := by decide +kernel
theorem dL_law_1030 : decode cL_law 1030 = .ok (.iadd, 1) := by decide +kernel
theorem dL_law_1031 : decode cL_law 1031 = .ok (.iaload, 1) := by decide +kernel
theorem dL_law_1032 : decode cL_law 1032 = .ok (.aload_n 0, 1) := by decide +kernel
theorem dL_law_1033 : decode cL_law 1033 = .ok (.iload 4, 2) := by decide +kernel
theorem dL_law_1035 : decode cL_law 1035 = .ok (.iconst 2, 1) := by decide +kernel
theorem dL_law_1036 : decode cL_law 1036 = .ok (.iadd, 1) := by decide +kernel
theorem dL_law_1037 : decode cL_law 1037 = .ok (.iaload, 1) := by decide +kernel
theorem dL_law_1038 : decode cL_law 1038 = .ok (.invokevirtual 143, 3) := by decide +kernel
theorem dL_law_1041 : decode cL_law 1041 = .ok (.istore 6, 2) := by decide +kernel
theorem dL_law_1043 : decode cL_law 1043 = .ok (.aload_n 2, 1) := by decide +kernel
theorem dL_law_1044 : decode cL_law 1044 = .ok (.invokevirtual 90, 3) := by decide +kernel
theorem dL_law_1047 : decode cL_law 1047 = .ok (.iload 5, 2) := by decide +kernel
theorem dL_law_1049 : decode cL_law 1049 = .ok (.if_icmp .eq 5, 3) := by decide +kernel
theorem dL_law_1052 : decode cL_law 1052 = .ok (.iconst 0, 1) := by decide +kernel
theorem dL_law_1053 : decode cL_law 1053 = .ok (.ireturn, 1) := by decide +kernel
theorem dL_law_1054 : decode cL_law 1054 = .ok (.iload 5, 2) := by decide +kernel
theorem dL_law_1056 : decode cL_law 1056 = .ok (.ifCond .ne 15, 3) := by decide +kernel
theorem dL_law_1059 : decode cL_law 1059 = .ok (.aload_n 3, 1) := by decide +kernel
theorem dL_law_1060 : decode cL_law 1060 = .ok (.iconst 0, 1) := by decide +kernel
theorem dL_law_1061 : decode cL_law 1061 = .ok (.laload, 1) := by decide +kernel
theorem dL_law_1062 : decode cL_law 1062 = .ok (.iload 6, 2) := by decide +kernel
theorem dL_law_1064 : decode cL_law 1064 = .ok (.i2l, 1) := by decide +kernel
theorem dL_law_1065 : decode cL_law 1065 = .ok (.lcmp, 1) := by decide +kernel
theorem dL_law_1066 : decode cL_law 1066 = .ok (.ifCond .eq 5, 3) := by decide +kernel
theorem dL_law_1069 : decode cL_law 1069 = .ok (.iconst 0, 1) := by decide +kernel
theorem dL_law_1070 : decode cL_law 1070 = .ok (.ireturn, 1) := by decide +kernel
theorem dL_law_1071 : decode cL_law 1071 = .ok (.goto 431, 3) := by decide +kernel
theorem dL_law_1074 : decode cL_law 1074 = .ok (.aload_n 1, 1) := by decide +kernel
theorem dL_law_1075 : decode cL_law 1075 = .ok (.aload_n 0, 1) := by decide +kernel
theorem dL_law_1076 : decode cL_law 1076 = .ok (.iload 4, 2) := by decide +kernel
theorem dL_law_1078 : decode cL_law 1078 = .ok (.iconst 1, 1) := by decide +kernel
theorem dL_law_1079 : decode cL_law 1079 = .ok (.iadd, 1) := by decide +kernel
theorem dL_law_1080 : decode cL_law 1080 = .ok (.iaload, 1) := by decide +kernel
theorem dL_law_1081 : decode cL_law 1081 = .ok (.aload_n 0, 1) := by decide +kernel
theorem dL_law_1082 : decode cL_law 1082 = .ok (.iload 4, 2) := by decide +kernel
theorem dL_law_1084 : decode cL_law 1084 = .ok (.iconst 2, 1) := by decide +kernel
theorem dL_law_1085 : decode cL_law 1085 = .ok (.iadd, 1) := by decide +kernel
theorem dL_law_1086 : decode cL_law 1086 = .ok (.iaload, 1) := by decide +kernel
theorem dL_law_1087 : decode cL_law 1087 = .ok (.aload_n 3, 1) := by decide +kernel
theorem dL_law_1088 : decode cL_law 1088 = .ok (.invokestatic 144, 3) := by decide +kernel
theorem dL_law_1091 : decode cL_law 1091 = .ok (.istore 5, 2) := by decide +kernel
theorem dL_law_1093 : decode cL_law 1093 = .ok (.aload_n 2, 1) := by decide +kernel
theorem dL_law_1094 : decode cL_law 1094 = .ok (.aload_n 0, 1) := by decide +kernel
theorem dL_law_1095 : decode cL_law 1095 = .ok (.iload 4, 2) := by decide +kernel
theorem dL_law_1097 : decode cL_law 1097 = .ok (.iconst 1, 1) := by decide +kernel
theorem dL_law_1098 : decode cL_law 1098 = .ok (.iadd, 1) := by decide +kernel
theorem dL_law_1099 : decode cL_law 1099 = .ok (.iaload, 1) := by decide +kernel
theorem dL_law_1100 : decode cL_law 1100 = .ok (.aload_n 0, 1) := by decide +kernel
theorem dL_law_1101 : decode cL_law 1101 = .ok (.iload 4, 2) := by decide +kernel
theorem dL_law_1103 : decode cL_law 1103 = .ok (.iconst 2, 1) := by decide +kernel
theorem dL_law_1104 : decode cL_law 1104 = .ok (.iadd, 1) := by decide +kernel
theorem dL_law_1105 : decode cL_law 1105 = .ok (.iaload, 1) := by decide +kernel
theorem dL_law_1106 : decode cL_law 1106 = .ok (.invokevirtual 146, 3) := by decide +kernel
theorem dL_law_1109 : decode cL_law 1109 = .ok (.istore 6, 2) := by decide +kernel
theorem dL_law_1111 : decode cL_law 1111 = .ok (.aload_n 2, 1) := by decide +kernel
theorem dL_law_1112 : decode cL_law 1112 = .ok (.invokevirtual 90, 3) := by decide +kernel
theorem dL_law_1115 : decode cL_law 1115 = .ok (.iload 5, 2) := by decide +kernel
theorem dL_law_1117 : decode cL_law 1117 = .ok (.if_icmp .eq 5, 3) := by decide +kernel
theorem dL_law_1120 : decode cL_law 1120 = .ok (.iconst 0, 1) := by decide +kernel
theorem dL_law_1121 : decode cL_law 1121 = .ok (.ireturn, 1) := by decide +kernel
theorem dL_law_1122 : decode cL_law 1122 = .ok (.iload 5, 2) := by decide +kernel
theorem dL_law_1124 : decode cL_law 1124 = .ok (.ifCond .ne 15, 3) := by decide +kernel
theorem dL_law_1127 : decode cL_law 1127 = .ok (.aload_n 3, 1) := by decide +kernel
theorem dL_law_1128 : decode cL_law 1128 = .ok (.iconst 0, 1) := by decide +kernel
theorem dL_law_1129 : decode cL_law 1129 = .ok (.laload, 1) := by decide +kernel
theorem dL_law_1130 : decode cL_law 1130 = .ok (.iload 6, 2) := by decide +kernel
theorem dL_law_1132 : decode cL_law 1132 = .ok (.i2l, 1) := by decide +kernel
theorem dL_law_1133 : decode cL_law 1133 = .ok (.lcmp, 1) := by decide +kernel
theorem dL_law_1134 : decode cL_law 1134 = .ok (.ifCond .eq 5, 3) := by decide +kernel
theorem dL_law_1137 : decode cL_law 1137 = .ok (.iconst 0, 1) := by decide +kernel
theorem dL_law_1138 : decode cL_law 1138 = .ok (.ireturn, 1) := by decide +kernel
theorem dL_law_1139 : decode cL_law 1139 = .ok (.goto 363, 3) := by decide +kernel
theorem dL_law_1142 : decode cL_law 1142 = .ok (.aload_n 1, 1) := by decide +kernel
theorem dL_law_1143 : decode cL_law 1143 = .ok (.aload_n 0, 1) := by decide +kernel
theorem dL_law_1144 : decode cL_law 1144 = .ok (.iload 4, 2) := by decide +kernel
theorem dL_law_1146 : decode cL_law 1146 = .ok (.iconst 1, 1) := by decide +kernel
theorem dL_law_1147 : decode cL_law 1147 = .ok (.iadd, 1) := by decide +kernel
theorem dL_law_1148 : decode cL_law 1148 = .ok (.iaload, 1) := by decide +kernel
theorem dL_law_1149 : decode cL_law 1149 = .ok (.aload_n 3, 1) := by decide +kernel
theorem dL_law_1150 : decode cL_law 1150 = .ok (.invokestatic 147, 3) := by decide +kernel
theorem dL_law_1153 : decode cL_law 1153 = .ok (.istore 5, 2) := by decide +kernel
theorem dL_law_1155 : decode cL_law 1155 = .ok (.aload_n 2, 1) := by decide +kernel
theorem dL_law_1156 : decode cL_law 1156 = .ok (.aload_n 0, 1) := by decide +kernel
theorem dL_law_1157 : decode cL_law 1157 = .ok (.iload 4, 2) := by decide +kernel
theorem dL_law_1159 : decode cL_law 1159 = .ok (.iconst 1, 1) := by decide +kernel
theorem dL_law_1160 : decode cL_law 1160 = .ok (.iadd, 1) := by decide +kernel
theorem dL_law_1161 : decode cL_law 1161 = .ok (.iaload, 1) := by decide +kernel
theorem dL_law_1162 : decode cL_law 1162 = .ok (.invokevirtual 149, 3) := by decide +kernel
theorem dL_law_1165 : decode cL_law 1165 = .ok (.istore 6, 2) := by decide +kernel
theorem dL_law_1167 : decode cL_law 1167 = .ok (.aload_n 2, 1) := by decide +kernel
theorem dL_law_1168 : decode cL_law 1168 = .ok (.invokevirtual 90, 3) := by decide +kernel
theorem dL_law_1171 : decode cL_law 1171 = .ok (.iload 5, 2) := by decide +kernel
theorem dL_law_1173 : decode cL_law 1173 = .ok (.if_icmp .eq 5, 3) := by decide +kernel
theorem dL_law_1176 : decode cL_law 1176 = .ok (.iconst 0, 1) := by decide +kernel
theorem dL_law_1177 : decode cL_law 1177 = .ok (.ireturn, 1) := by decide +kernel
theorem dL_law_1178 : decode cL_law 1178 = .ok (.iload 5, 2) := by decide +kernel
theorem dL_law_1180 : decode cL_law 1180 = .ok (.ifCond .ne 15, 3) := by decide +kernel
theorem dL_law_1183 : decode cL_law 1183 = .ok (.aload_n 3, 1) := by decide +kernel
theorem dL_law_1184 : decode cL_law 1184 = .ok (.iconst 0, 1) := by decide +kernel
theorem dL_law_1185 : decode cL_law 1185 = .ok (.laload, 1) := by decide +kernel
theorem dL_law_1186 : decode cL_law 1186 = .ok (.iload 6, 2) := by decide +kernel
theorem dL_law_1188 : decode cL_law 1188 = .ok (.i2l, 1) := by decide +kernel
theorem dL_law_1189 : decode cL_law 1189 = .ok (.lcmp, 1) := by decide +kernel
theorem dL_law_1190 : decode cL_law 1190 = .ok (.ifCond .eq 5, 3) := by decide +kernel
theorem dL_law_1193 : decode cL_law 1193 = .ok (.iconst 0, 1) := by decide +kernel
theorem dL_law_1194 : decode cL_law 1194 = .ok (.ireturn, 1) := by decide +kernel
theorem dL_law_1195 : decode cL_law 1195 = .ok (.goto 307, 3) := by decide +kernel
theorem dL_law_1198 : decode cL_law 1198 = .ok (.aload_n 1, 1) := by decide +kernel
theorem dL_law_1199 : decode cL_law 1199 = .ok (.aload_n 0, 1) := by decide +kernel
theorem dL_law_1200 : decode cL_law 1200 = .ok (.iload 4, 2) := by decide +kernel
theorem dL_law_1202 : decode cL_law 1202 = .ok (.iconst 1, 1) := by decide +kernel
theorem dL_law_1203 : decode cL_law 1203 = .ok (.iadd, 1) := by decide +kernel
theorem dL_law_1204 : decode cL_law 1204 = .ok (.iaload, 1) := by decide +kernel
theorem dL_law_1205 : decode cL_law 1205 = .ok (.aload_n 3, 1) := by decide +kernel
theorem dL_law_1206 : decode cL_law 1206 = .ok (.invokestatic 150, 3) := by decide +kernel
theorem dL_law_1209 : decode cL_law 1209 = .ok (.istore 5, 2) := by decide +kernel
theorem dL_law_1211 : decode cL_law 1211 = .ok (.aload_n 2, 1) := by decide +kernel
theorem dL_law_1212 : decode cL_law 1212 = .ok (.aload_n 0, 1) := by decide +kernel
theorem dL_law_1213 : decode cL_law 1213 = .ok (.iload 4, 2) := by decide +kernel
theorem dL_law_1215 : decode cL_law 1215 = .ok (.iconst 1, 1) := by decide +kernel
theorem dL_law_1216 : decode cL_law 1216 = .ok (.iadd, 1) := by decide +kernel
theorem dL_law_1217 : decode cL_law 1217 = .ok (.iaload, 1) := by decide +kernel
theorem dL_law_1218 : decode cL_law 1218 = .ok (.invokevirtual 152, 3) := by decide +kernel
theorem dL_law_1221 : decode cL_law 1221 = .ok (.istore 6, 2) := by decide +kernel
theorem dL_law_1223 : decode cL_law 1223 = .ok (.aload_n 2, 1) := by decide +kernel
theorem dL_law_1224 : decode cL_law 1224 = .ok (.invokevirtual 90, 3) := by decide +kernel
theorem dL_law_1227 : decode cL_law 1227 = .ok (.iload 5, 2) := by decide +kernel
theorem dL_law_1229 : decode cL_law 1229 = .ok (.if_icmp .eq 5, 3) := by decide +kernel
theorem dL_law_1232 : decode cL_law 1232 = .ok (.iconst 0, 1) := by decide +kernel
theorem dL_law_1233 : decode cL_law 1233 = .ok (.ireturn, 1) := by decide +kernel
theorem dL_law_1234 : decode cL_law 1234 = .ok (.iload 5, 2) := by decide +kernel
theorem dL_law_1236 : decode cL_law 1236 = .ok (.ifCond .ne 15, 3) := by decide +kernel
theorem dL_law_1239 : decode cL_law 1239 = .ok (.aload_n 3, 1) := by decide +kernel
theorem dL_law_1240 : decode cL_law 1240 = .ok (.iconst 0, 1) := by decide +kernel
theorem dL_law_1241 : decode cL_law 1241 = .ok (.laload, 1) := by decide +kernel
theorem dL_law_1242 : decode cL_law 1242 = .ok (.iload 6, 2) := by decide +kernel
theorem dL_law_1244 : decode cL_law 1244 = .ok (.i2l, 1) := by decide +kernel
theorem dL_law_1245 : decode cL_law 1245 = .ok (.lcmp, 1) := by decide +kernel
theorem dL_law_1246 : decode cL_law 1246 = .ok (.ifCond .eq 5, 3) := by decide +kernel
theorem dL_law_1249 : decode cL_law 1249 = .ok (.iconst 0, 1) := by decide +kernel
theorem dL_law_1250 : decode cL_law 1250 = .ok (.ireturn, 1) := by decide +kernel
theorem dL_law_1251 : decode cL_law 1251 = .ok (.goto 251, 3) := by decide +kernel
theorem dL_law_1254 : decode cL_law 1254 = .ok (.aload_n 1, 1) := by decide +kernel
theorem dL_law_1255 : decode cL_law 1255 = .ok (.aload_n 0, 1) := by decide +kernel
theorem dL_law_1256 : decode cL_law 1256 = .ok (.iload 4, 2) := by decide +kernel
theorem dL_law_1258 : decode cL_law 1258 = .ok (.iconst 1, 1) := by decide +kernel
theorem dL_law_1259 : decode cL_law 1259 = .ok (.iadd, 1) := by decide +kernel
theorem dL_law_1260 : decode cL_law 1260 = .ok (.iaload, 1) := by decide +kernel
theorem dL_law_1261 : decode cL_law 1261 = .ok (.aload_n 3, 1) := by decide +kernel
theorem dL_law_1262 : decode cL_law 1262 = .ok (.invokestatic 153, 3) := by decide +kernel
theorem dL_law_1265 : decode cL_law 1265 = .ok (.istore 5, 2) := by decide +kernel
theorem dL_law_1267 : decode cL_law 1267 = .ok (.aload_n 2, 1) := by decide +kernel
theorem dL_law_1268 : decode cL_law 1268 = .ok (.aload_n 0, 1) := by decide +kernel
theorem dL_law_1269 : decode cL_law 1269 = .ok (.iload 4, 2) := by decide +kernel
theorem dL_law_1271 : decode cL_law 1271 = .ok (.iconst 1, 1) := by decide +kernel
theorem dL_law_1272 : decode cL_law 1272 = .ok (.iadd, 1) := by decide +kernel
theorem dL_law_1273 : decode cL_law 1273 = .ok (.iaload, 1) := by decide +kernel
theorem dL_law_1274 : decode cL_law 1274 = .ok (.invokevirtual 155, 3) := by decide +kernel
theorem dL_law_1277 : decode cL_law 1277 = .ok (.istore 6, 2) := by decide +kernel
theorem dL_law_1279 : decode cL_law 1279 = .ok (.aload_n 2, 1) := by decide +kernel
theorem dL_law_1280 : decode cL_law 1280 = .ok (.invokevirtual 90, 3) := by decide +kernel
theorem dL_law_1283 : decode cL_law 1283 = .ok (.iload 5, 2) := by decide +kernel
theorem dL_law_1285 : decode cL_law 1285 = .ok (.if_icmp .eq 5, 3) := by decide +kernel
theorem dL_law_1288 : decode cL_law 1288 = .ok (.iconst 0, 1) := by decide +kernel
theorem dL_law_1289 : decode cL_law 1289 = .ok (.ireturn, 1) := by decide +kernel
theorem dL_law_1290 : decode cL_law 1290 = .ok (.iload 5, 2) := by decide +kernel
theorem dL_law_1292 : decode cL_law 1292 = .ok (.ifCond .ne 15, 3) := by decide +kernel
theorem dL_law_1295 : decode cL_law 1295 = .ok (.aload_n 3, 1) := by decide +kernel
theorem dL_law_1296 : decode cL_law 1296 = .ok (.iconst 0, 1) := by decide +kernel
theorem dL_law_1297 : decode cL_law 1297 = .ok (.laload, 1) := by decide +kernel
theorem dL_law_1298 : decode cL_law 1298 = .ok (.iload 6, 2) := by decide +kernel
theorem dL_law_1300 : decode cL_law 1300 = .ok (.i2l, 1) := by decide +kernel
theorem dL_law_1301 : decode cL_law 1301 = .ok (.lcmp, 1) := by decide +kernel
theorem dL_law_1302 : decode cL_law 1302 = .ok (.ifCond .eq 5, 3) := by decide +kernel
theorem dL_law_1305 : decode cL_law 1305 = .ok (.iconst 0, 1) := by decide +kernel
theorem dL_law_1306 : decode cL_law 1306 = .ok (.ireturn, 1) := by decide +kernel
theorem dL_law_1307 : decode cL_law 1307 = .ok (.goto 195, 3) := by decide +kernel
theorem dL_law_1310 : decode cL_law 1310 = .ok (.aload_n 1, 1) := by decide +kernel
theorem dL_law_1311 : decode cL_law 1311 = .ok (.aload_n 0, 1) := by decide +kernel
theorem dL_law_1312 : decode cL_law 1312 = .ok (.iload 4, 2) := by decide +kernel
theorem dL_law_1314 : decode cL_law 1314 = .ok (.iconst 1, 1) := by decide +kernel
theorem dL_law_1315 : decode cL_law 1315 = .ok (.iadd, 1) := by decide +kernel
theorem dL_law_1316 : decode cL_law 1316 = .ok (.iaload, 1) := by decide +kernel
theorem dL_law_1317 : decode cL_law 1317 = .ok (.aload_n 0, 1) := by decide +kernel
theorem dL_law_1318 : decode cL_law 1318 = .ok (.iload 4, 2) := by decide +kernel
theorem dL_law_1320 : decode cL_law 1320 = .ok (.iconst 2, 1) := by decide +kernel
theorem dL_law_1321 : decode cL_law 1321 = .ok (.iadd, 1) := by decide +kernel
theorem dL_law_1322 : decode cL_law 1322 = .ok (.iaload, 1) := by decide +kernel
theorem dL_law_1323 : decode cL_law 1323 = .ok (.aload_n 3, 1) := by decide +kernel
theorem dL_law_1324 : decode cL_law 1324 = .ok (.invokestatic 156, 3) := by decide +kernel
theorem dL_law_1327 : decode cL_law 1327 = .ok (.istore 5, 2) := by decide +kernel
theorem dL_law_1329 : decode cL_law 1329 = .ok (.aload_n 2, 1) := by decide +kernel
theorem dL_law_1330 : decode cL_law 1330 = .ok (.aload_n 0, 1) := by decide +kernel
theorem dL_law_1331 : decode cL_law 1331 = .ok (.iload 4, 2) := by decide +kernel
theorem dL_law_1333 : decode cL_law 1333 = .ok (.iconst 1, 1) := by decide +kernel
theorem dL_law_1334 : decode cL_law 1334 = .ok (.iadd, 1) := by decide +kernel
theorem dL_law_1335 : decode cL_law 1335 = .ok (.iaload, 1) := by decide +kernel
theorem dL_law_1336 : decode cL_law 1336 = .ok (.aload_n 0, 1) := by decide +kernel
theorem dL_law_1337 : decode cL_law 1337 = .ok (.iload 4, 2) := by decide +kernel
theorem dL_law_1339 : decode cL_law 1339 = .ok (.iconst 2, 1) := by decide +kernel
theorem dL_law_1340 : decode cL_law 1340 = .ok (.iadd, 1) := by decide +kernel
theorem dL_law_1341 : decode cL_law 1341 = .ok (.iaload, 1) := by decide +kernel
theorem dL_law_1342 : decode cL_law 1342 = .ok (.invokevirtual 158, 3) := by decide +kernel
theorem dL_law_1345 : decode cL_law 1345 = .ok (.istore 6, 2) := by decide +kernel
theorem dL_law_1347 : decode cL_law 1347 = .ok (.aload_n 2, 1) := by decide +kernel
theorem dL_law_1348 : decode cL_law 1348 = .ok (.invokevirtual 90, 3) := by decide +kernel
theorem dL_law_1351 : decode cL_law 1351 = .ok (.iload 5, 2) := by decide +kernel
theorem dL_law_1353 : decode cL_law 1353 = .ok (.if_icmp .eq 5, 3) := by decide +kernel
theorem dL_law_1356 : decode cL_law 1356 = .ok (.iconst 0, 1) := by decide +kernel
theorem dL_law_1357 : decode cL_law 1357 = .ok (.ireturn, 1) := by decide +kernel
theorem dL_law_1358 : decode cL_law 1358 = .ok (.iload 5, 2) := by decide +kernel
theorem dL_law_1360 : decode cL_law 1360 = .ok (.ifCond .ne 15, 3) := by decide +kernel
theorem dL_law_1363 : decode cL_law 1363 = .ok (.aload_n 3, 1) := by decide +kernel
theorem dL_law_1364 : decode cL_law 1364 = .ok (.iconst 0, 1) := by decide +kernel
theorem dL_law_1365 : decode cL_law 1365 = .ok (.laload, 1) := by decide +kernel
theorem dL_law_1366 : decode cL_law 1366 = .ok (.iload 6, 2) := by decide +kernel
theorem dL_law_1368 : decode cL_law 1368 = .ok (.i2l, 1) := by decide +kernel
theorem dL_law_1369 : decode cL_law 1369 = .ok (.lcmp, 1) := by decide +kernel
theorem dL_law_1370 : decode cL_law 1370 = .ok (.ifCond .eq 5, 3) := by decide +kernel
theorem dL_law_1373 : decode cL_law 1373 = .ok (.iconst 0, 1) := by decide +kernel
theorem dL_law_1374 : decode cL_law 1374 = .ok (.ireturn, 1) := by decide +kernel
theorem dL_law_1375 : decode cL_law 1375 = .ok (.goto 127, 3) := by decide +kernel
theorem dL_law_1378 : decode cL_law 1378 = .ok (.aload_n 1, 1) := by decide +kernel
theorem dL_law_1379 : decode cL_law 1379 = .ok (.aload_n 0, 1) := by decide +kernel
theorem dL_law_1380 : decode cL_law 1380 = .ok (.iload 4, 2) := by decide +kernel
theorem dL_law_1382 : decode cL_law 1382 = .ok (.iconst 1, 1) := by decide +kernel
theorem dL_law_1383 : decode cL_law 1383 = .ok (.iadd, 1) := by decide +kernel
theorem dL_law_1384 : decode cL_law 1384 = .ok (.iaload, 1) := by decide +kernel
theorem dL_law_1385 : decode cL_law 1385 = .ok (.aload_n 3, 1) := by decide +kernel
theorem dL_law_1386 : decode cL_law 1386 = .ok (.invokestatic 159, 3) := by decide +kernel
theorem dL_law_1389 : decode cL_law 1389 = .ok (.istore 5, 2) := by decide +kernel
theorem dL_law_1391 : decode cL_law 1391 = .ok (.aload_n 2, 1) := by decide +kernel
theorem dL_law_1392 : decode cL_law 1392 = .ok (.aload_n 0, 1) := by decide +kernel
theorem dL_law_1393 : decode cL_law 1393 = .ok (.iload 4, 2) := by decide +kernel
theorem dL_law_1395 : decode cL_law 1395 = .ok (.iconst 1, 1) := by decide +kernel
theorem dL_law_1396 : decode cL_law 1396 = .ok (.iadd, 1) := by decide +kernel
theorem dL_law_1397 : decode cL_law 1397 = .ok (.iaload, 1) := by decide +kernel
theorem dL_law_1398 : decode cL_law 1398 = .ok (.invokevirtual 161, 3) := by decide +kernel
theorem dL_law_1401 : decode cL_law 1401 = .ok (.istore 6, 2) := by decide +kernel
theorem dL_law_1403 : decode cL_law 1403 = .ok (.aload_n 2, 1) := by decide +kernel
theorem dL_law_1404 : decode cL_law 1404 = .ok (.invokevirtual 90, 3) := by decide +kernel
theorem dL_law_1407 : decode cL_law 1407 = .ok (.iload 5, 2) := by decide +kernel
theorem dL_law_1409 : decode cL_law 1409 = .ok (.if_icmp .eq 5, 3) := by decide +kernel
theorem dL_law_1412 : decode cL_law 1412 = .ok (.iconst 0, 1) := by decide +kernel
theorem dL_law_1413 : decode cL_law 1413 = .ok (.ireturn, 1) := by decide +kernel
theorem dL_law_1414 : decode cL_law 1414 = .ok (.iload 5, 2) := by decide +kernel
theorem dL_law_1416 : decode cL_law 1416 = .ok (.ifCond .ne 15, 3) := by decide +kernel
theorem dL_law_1419 : decode cL_law 1419 = .ok (.aload_n 3, 1) := by decide +kernel
theorem dL_law_1420 : decode cL_law 1420 = .ok (.iconst 0, 1) := by decide +kernel
theorem dL_law_1421 : decode cL_law 1421 = .ok (.laload, 1) := by decide +kernel
theorem dL_law_1422 : decode cL_law 1422 = .ok (.iload 6, 2) := by decide +kernel
theorem dL_law_1424 : decode cL_law 1424 = .ok (.i2l, 1) := by decide +kernel
theorem dL_law_1425 : decode cL_law 1425 = .ok (.lcmp, 1) := by decide +kernel
theorem dL_law_1426 : decode cL_law 1426 = .ok (.ifCond .eq 5, 3) := by decide +kernel
theorem dL_law_1429 : decode cL_law 1429 = .ok (.iconst 0, 1) := by decide +kernel
theorem dL_law_1430 : decode cL_law 1430 = .ok (.ireturn, 1) := by decide +kernel
theorem dL_law_1431 : decode cL_law 1431 = .ok (.goto 71, 3) := by decide +kernel
theorem dL_law_1434 : decode cL_law 1434 = .ok (.aload_n 1, 1) := by decide +kernel
theorem dL_law_1435 : decode cL_law 1435 = .ok (.invokevirtual 162, 3) := by decide +kernel
theorem dL_law_1438 : decode cL_law 1438 = .ok (.aload_n 2, 1) := by decide +kernel
theorem dL_law_1439 : decode cL_law 1439 = .ok (.invokevirtual 165, 3) := by decide +kernel
theorem dL_law_1442 : decode cL_law 1442 = .ok (.if_icmp .eq 60, 3) := by decide +kernel
theorem dL_law_1445 : decode cL_law 1445 = .ok (.iconst 0, 1) := by decide +kernel
theorem dL_law_1446 : decode cL_law 1446 = .ok (.ireturn, 1) := by decide +kernel
theorem dL_law_1447 : decode cL_law 1447 = .ok (.aload_n 1, 1) := by decide +kernel
theorem dL_law_1448 : decode cL_law 1448 = .ok (.invokevirtual 166, 3) := by decide +kernel
theorem dL_law_1451 : decode cL_law 1451 = .ok (.dstore 5, 2) := by decide +kernel
theorem dL_law_1453 : decode cL_law 1453 = .ok (.aload_n 2, 1) := by decide +kernel
theorem dL_law_1454 : decode cL_law 1454 = .ok (.invokevirtual 170, 3) := by decide +kernel
theorem dL_law_1457 : decode cL_law 1457 = .ok (.dstore 7, 2) := by decide +kernel
theorem dL_law_1459 : decode cL_law 1459 = .ok (.dload 5, 2) := by decide +kernel
theorem dL_law_1461 : decode cL_law 1461 = .ok (.dload 7, 2) := by decide +kernel
theorem dL_law_1463 : decode cL_law 1463 = .ok (.dcmp .l, 1) := by decide +kernel
theorem dL_law_1464 : decode cL_law 1464 = .ok (.ifCond .eq 21, 3) := by decide +kernel
theorem dL_law_1467 : decode cL_law 1467 = .ok (.dload 5, 2) := by decide +kernel
theorem dL_law_1469 : decode cL_law 1469 = .ok (.dload 5, 2) := by decide +kernel
theorem dL_law_1471 : decode cL_law 1471 = .ok (.dcmp .l, 1) := by decide +kernel
theorem dL_law_1472 : decode cL_law 1472 = .ok (.ifCond .eq 11, 3) := by decide +kernel
theorem dL_law_1475 : decode cL_law 1475 = .ok (.dload 7, 2) := by decide +kernel
theorem dL_law_1477 : decode cL_law 1477 = .ok (.dload 7, 2) := by decide +kernel
theorem dL_law_1479 : decode cL_law 1479 = .ok (.dcmp .l, 1) := by decide +kernel
theorem dL_law_1480 : decode cL_law 1480 = .ok (.ifCond .ne 5, 3) := by decide +kernel
theorem dL_law_1483 : decode cL_law 1483 = .ok (.iconst 0, 1) := by decide +kernel
theorem dL_law_1484 : decode cL_law 1484 = .ok (.ireturn, 1) := by decide +kernel
theorem dL_law_1485 : decode cL_law 1485 = .ok (.goto 17, 3) := by decide +kernel
theorem dL_law_1488 : decode cL_law 1488 = .ok (.aload_n 1, 1) := by decide +kernel
theorem dL_law_1489 : decode cL_law 1489 = .ok (.invokevirtual 171, 3) := by decide +kernel
theorem dL_law_1492 : decode cL_law 1492 = .ok (.aload_n 2, 1) := by decide +kernel
theorem dL_law_1493 : decode cL_law 1493 = .ok (.invokevirtual 175, 3) := by decide +kernel
theorem dL_law_1496 : decode cL_law 1496 = .ok (.lcmp, 1) := by decide +kernel
theorem dL_law_1497 : decode cL_law 1497 = .ok (.ifCond .eq 5, 3) := by decide +kernel
theorem dL_law_1500 : decode cL_law 1500 = .ok (.iconst 0, 1) := by decide +kernel
theorem dL_law_1501 : decode cL_law 1501 = .ok (.ireturn, 1) := by decide +kernel
theorem dL_law_1502 : decode cL_law 1502 = .ok (.iinc 4 6, 3) := by decide +kernel
theorem dL_law_1505 : decode cL_law 1505 = .ok (.goto (-1482), 3) := by decide +kernel
theorem dL_law_1508 : decode cL_law 1508 = .ok (.iconst 1, 1) := by decide +kernel
theorem dL_law_1509 : decode cL_law 1509 = .ok (.ireturn, 1) := by decide +kernel
end
section
/-! ===== an abstract memory: cells by number, behind a base; values whose references are such numbers ===== -/
abbrev kC : Type := (Nat × (Nat → Value)) ⊕ ((Nat × Nat × (Nat → Int32)) ⊕ ((Nat × Nat × (Nat → Value)) ⊕ Unit))
abbrev kO (c : Nat) (F : Nat → Value) : kC := Sum.inl (c, F)
abbrev kI (t N : Nat) (f : Nat → Int32) : kC := Sum.inr (Sum.inl (t, N, f))
abbrev kV (t N : Nat) (f : Nat → Value) : kC := Sum.inr (Sum.inr (Sum.inl (t, N, f)))
abbrev kX : kC := Sum.inr (Sum.inr (Sum.inr ()))
abbrev kM : Type := Nat → kC
/-- class numbers and field places; array classes; static arrays; String constants -/
abbrev kG : Type := va_G × (Nat → ClassId) × (Nat → Nat) × (Nat → Nat)
def kcv (G : kG) (b : Nat) : Value → Value
  | .ref k => .ref (b + k)
  | .retAddr k => .ref (G.2.2.1 k)
  | v => v
theorem kcv_cat (G : kG) (b : Nat) (v : Value) : (kcv G b v).category = v.category := by cases v <;> rfl
abbrev kcl : List vw_C := [(RX0, TX0, 5), (RX1, TX1, 10), (RX2, TX2, 7), (RX3, TX3, 4), (RX4, TX4, 2), (RX5, TX5, 6), (RX6, TX6, 9)]
def kaT : Nat → FieldType
  | 0 => .int
  | 1 => .boolean
  | 2 => .char
  | 3 => .long
  | 4 => .array .int
  | 5 => .object "StringRates$Parcel"
  | _ => .object "StringRates$Office"
def kAt (G : kG) (b a : Nat) (c : kC) (H : Heap) : Prop := match c with
  | .inl o => ∃ r : vw_C, kcl[o.1]? = some r ∧ t_OB (b + a) (G.1.1 o.1) r.2.2 (G.1.2 o.1) H (fun k => kcv G b (o.2 k))
  | .inr (.inl x) => x.1 < 7 ∧ H[b + a]? = some (arrV (G.2.1 x.1) x.2.1 (fun j => .int (x.2.2 j)))
  | .inr (.inr (.inl x)) => x.1 < 7 ∧ H[b + a]? = some (arrV (G.2.1 x.1) x.2.1 (fun j => kcv G b (x.2.2 j)))
  | .inr (.inr (.inr _)) => True
theorem kAt.kept {G : kG} {b a : Nat} {c : kC} {H H1 : Heap} (h : kAt G b a c H) (hq : H1[b + a]? = H[b + a]?) : kAt G b a c H1 := by
  rcases c with o | x | x | x
  · obtain ⟨r, h1, h2⟩ := h
    exact ⟨r, h1, h2.kept hq⟩
  · exact ⟨h.1, hq.trans h.2⟩
  · exact ⟨h.1, hq.trans h.2⟩
  · trivial
def kup (w : kM) (a : Nat) (c : kC) : kM := fun k => if k = a then c else w k
theorem kup_self (w : kM) (a : Nat) (c : kC) : kup w a c a = c := if_pos rfl
theorem kup_ne {w : kM} {a k : Nat} {c : kC} (h : k ≠ a) : kup w a c k = w k := if_neg h
def kRp (G : kG) (b n : Nat) (w : kM) (H : Heap) : Prop := H.size = b + n ∧ (∀ k, n ≤ k → w k = kX) ∧ ∀ k, kAt G b k (w k) H
theorem kRp.lt {G : kG} {b n a : Nat} {w : kM} {H : Heap} (h : kRp G b n w H) (ha : w a ≠ kX) : a < n := by
  rcases Nat.lt_or_ge a n with q | q
  · exact q
  · exact absurd (h.2.1 a q) ha
theorem kRp.put {G : kG} {b n a : Nat} {w : kM} {c : kC} {H H1 : Heap} (h : kRp G b n w H) (ha : a < n) (he : kAt G b a c H1) (z : H1.size = H.size) (oq : ∀ q : Nat, q ≠ b + a → H1[q]? = H[q]?) : kRp G b n (kup w a c) H1 := by
  refine ⟨z.trans h.1, fun k hk => ?_, fun k => ?_⟩
  · rw [kup_ne (by omega)]; exact h.2.1 k hk
  · by_cases hka : k = a
    · subst hka; rw [kup_self]; exact he
    · rw [kup_ne hka]; exact (h.2.2 k).kept (oq _ (by omega))
theorem kAt.grow {G : kG} {b a : Nat} {c : kC} {H H1 : Heap} (h : kAt G b a c H) (oq : ∀ q : Nat, q < H.size → H1[q]? = H[q]?) : kAt G b a c H1 := by
  rcases c with o | x | x | x
  · obtain ⟨r, h1, cell, h2, h3⟩ := h
    exact ⟨r, h1, cell, by rw [oq _ (Array.getElem?_eq_some_iff.mp h2).1]; exact h2, h3⟩
  · exact ⟨h.1, by rw [oq _ (Array.getElem?_eq_some_iff.mp h.2).1]; exact h.2⟩
  · exact ⟨h.1, by rw [oq _ (Array.getElem?_eq_some_iff.mp h.2).1]; exact h.2⟩
  · trivial
theorem kRp.push {G : kG} {b n : Nat} {w : kM} {c : kC} {H H1 : Heap} (h : kRp G b n w H) (he : kAt G b n c H1) (z : H1.size = H.size + 1) (oq : ∀ q : Nat, q < H.size → H1[q]? = H[q]?) : kRp G b (n + 1) (kup w n c) H1 := by
  refine ⟨by rw [z, h.1]; omega, fun k hk => ?_, fun k => ?_⟩
  · rw [kup_ne (by omega)]; exact h.2.1 k (by omega)
  · by_cases hka : k = n
    · subst hka; rw [kup_self]; exact he
    · rw [kup_ne hka]; exact (h.2.2 k).grow oq
/-- cells nobody speaks of may come -/
theorem kRp.more {G : kG} {b n n' : Nat} {w : kM} {H H1 : Heap} (h : kRp G b n w H) (hn : H1.size = b + n') (hle : n ≤ n') (oq : ∀ q : Nat, q < H.size → H1[q]? = H[q]?) : kRp G b n' w H1 :=
  ⟨hn, fun k hk => h.2.1 k (Nat.le_trans hle hk), fun k => (h.2.2 k).grow oq⟩
/-! ===== words ===== -/
def kTb : List Cond := lw_tbl.filter goodWord
theorem kin {w : Cond} (i : Nat) (h : tables_1[i]? = some w) (g : goodWord w = true) : w ∈ kTb := List.mem_filter.mpr ⟨List.mem_append_right _ (List.mem_of_getElem? h), g⟩
theorem kinS {w : Cond} (i : Nat) (h : (k2_sels lw_privs)[i]? = some w) (g : goodWord w = true) : w ∈ kTb := List.mem_filter.mpr ⟨List.mem_append_left _ (List.mem_of_getElem? h), g⟩
theorem kin_all {l : List Cond} (ps : List Nat) (h : (ps.map fun i => tables_1[i]?) = l.map some) (g : l.all goodWord = true) : ∀ w ∈ l, w ∈ kTb := by
  intro w hw
  obtain ⟨k, hk⟩ := List.getElem?_of_mem hw
  have h1 : (ps.map fun i => tables_1[i]?)[k]? = some (some w) := by rw [h, List.getElem?_map, hk]; rfl
  rw [List.getElem?_map] at h1
  cases hi : ps[k]? with
  | none => rw [hi] at h1; cases h1
  | some i =>
    rw [hi] at h1
    exact kin i (Option.some.inj h1) (List.all_eq_true.mp g w hw)
/-- a method: name, bytes, locals, what it returns, its handlers -/
abbrev kMi : Type := MethodName × ByteArray × Nat × Option FieldType × List (Nat × Nat × Nat × Nat)
def kcw (M : kMi) : Cond := match M.2.2.2.2 with
  | [] => .code M.1 M.2.1 M.2.2.1 M.2.2.2.1
  | h :: t => .codeWith M.1 M.2.1 M.2.2.1 M.2.2.2.1 (h :: t)
def kws (M : kMi) : List Cond := kcw M :: kTb
theorem kws_good {M My : kMi} (hc : kcw My ∈ kTb) : GoodIn (kws M) (kws My) := by
  intro w hw
  have h1 : w ∈ kTb := by
    rcases List.mem_cons.mp hw with h | h
    · rw [h]; exact hc
    · exact h
  exact ⟨List.mem_cons_of_mem _ h1, good_of_word (List.mem_filter.mp h1).2⟩
/-! ===== what a state knows ===== -/
abbrev kIAE : String := "java/lang/IllegalArgumentException"
abbrev kIOB : String := "java/lang/IndexOutOfBoundsException"
abbrev kISE : String := "java/lang/IllegalStateException"
def kNest : List Cond := [.methodLinkNest RX1 27 yX2_init "StringRates", .fieldLinkNest RX1 28 "StringRates" "FIRST_SETTING" "[I" "StringRates", .methodLinkNest RX5 33 yX3_init "StringRates", .methodLinkNest RX5 40 yX0_init "StringRates", .methodLinkNest RX0 11 yX2_init "StringRates", .castable kIAE kIAE, .castable kIOB kIOB, .castable kISE kISE,
  .declares ⟨"java/lang/RuntimeException", "<init>", "()V"⟩, .declares ⟨"java/lang/RuntimeException", "<init>", "(Ljava/lang/String;)V"⟩, .declares ⟨"java/lang/Exception", "<init>", "()V"⟩, .declares ⟨"java/lang/Exception", "<init>", "(Ljava/lang/String;)V"⟩, .declares ⟨"java/lang/Throwable", "<init>", "()V"⟩, .declares ⟨"java/lang/Throwable", "<init>", "(Ljava/lang/String;)V"⟩]
def kStr : List (Nat × String × Nat) := [(231, "an argument is out of range", 0), (236, "there is no such number", 1), (118, "the buffer is full", 2), (148, "there is no snapshot in the slot", 3), (151, "there is no saved state", 4)]
def kNc : List (String × String) := [(kIAE, kIOB), (kISE, kIAE)]
theorem kao_moved {t : FieldType} {u U : State} (hvm : u.vm.Alike U.vm) (h : va_AOA t u) : va_AOA t U := by
  obtain ⟨comp, c, k, h1, h2, h3, h4, h5⟩ := arrayOverA_spec h
  obtain ⟨k', hk', he⟩ := hvm.2.2 _ _ h3
  have hi : (U.vm.classes.findIdx? fun (x : Class) => match x.kind with | .array component _ => component == comp | _ => false) = some c := by
    rw [hvm.findIdx?_eq _ (fun _ => rfl)]
    exact h2
  have hkind : k'.kind = .array comp (.array t) := by rw [he]; exact h4
  have f1 : U.vm.findClass (FieldType.array t).toString = some comp := by rw [hvm.findClass]; exact h1
  have f2 : U.vm.findClass ("[" ++ (FieldType.array t).toString) = some c := by rw [hvm.findClass]; exact h5
  unfold va_AOA Cond.before Cond.holds
  simp only [Cond.value]
  rw [f1, Option.bind_some]
  refine (congrArg (fun o : Option Nat => (o.bind (fun c => (U.vm.classes[c]?).map fun (k : Class) => match k.kind with | .array _ ty => decide (ty = FieldType.array t) && decide (U.vm.findClass ("[" ++ (FieldType.array t).toString) = some c) | _ => false) == some true)) hi).trans ?_
  simp [hk', hkind, f2]
def kK (G : kG) (U : State) : Prop :=
  (∀ (c : Nat) (q : vw_C), kcl[c]? = some q → u_Kn U q.1 q.2.1 q.2.2 (G.1.1 c) (G.1.2 c)) ∧
  (∀ t, t < 7 → ArrOfT U (G.2.1 t) (kaT t) ∧ va_RA U (G.2.1 t) (kaT t)) ∧
  (∀ w ∈ kNest, va_Nw w U) ∧ (va_AO "StringRates$Parcel" U ∧ va_AO "StringRates$Office" U ∧ va_AOA .int U) ∧
  (∀ q ∈ kStr, vk_R RX5 q.1 q.2.1 (G.2.2.2 q.2.2) U) ∧ ∀ q ∈ kNc, va_Nc q.1 q.2 U
theorem kNest_warm {s U : State} (hW : s.WarmedH U.vm) : ∀ w ∈ kNest, va_Nw w s → va_Nw w U := by
  intro w hw h
  simp only [kNest, List.mem_cons, List.not_mem_nil, or_false] at hw
  rcases hw with rfl | rfl | rfl | rfl | rfl | rfl | rfl | rfl | rfl | rfl | rfl | rfl | rfl | rfl
  · exact va_Nw.warmM hW h
  · exact va_Nw.warmF hW h
  · exact va_Nw.warmM hW h
  · exact va_Nw.warmM hW h
  · exact va_Nw.warmM hW h
  · exact va_Nw.warmC hW h
  · exact va_Nw.warmC hW h
  · exact va_Nw.warmC hW h
  · exact va_Nw.warmD hW h
  · exact va_Nw.warmD hW h
  · exact va_Nw.warmD hW h
  · exact va_Nw.warmD hW h
  · exact va_Nw.warmD hW h
  · exact va_Nw.warmD hW h
theorem kK.warm {G : kG} {s U : State} (hW : s.WarmedH U.vm) (h : kK G s) : kK G U := by
  obtain ⟨h1, h2, h3, ⟨h4, h5, h6⟩, h7, h8⟩ := h
  exact ⟨fun c q hq => u_Kn_moved hW.alike (h1 c q hq), fun t ht => ⟨arrOfT_moved hW.alike (h2 t ht).1, (h2 t ht).2.moved hW.alike⟩, fun w hw => kNest_warm hW w hw (h3 w hw),
    ⟨va_AO.moved hW.alike h4, va_AO.moved hW.alike h5, kao_moved hW.alike h6⟩, fun q hq => vk_R.warm hW (h7 q hq), fun q hq => va_Nc.moved hW.alike (h8 q hq)⟩
abbrev kSt1 : Type := String × String × String × Nat × FieldType × Nat × (Nat → Int32)
def kSta : List kSt1 := [(RX5, "FIRST_SETTING", "[I", 0, .int, 4, fun j => ([5, 150, 2, 10] : List Int32).getD j 0), (RX5, "LEAST_SETTING", "[I", 1, .int, 4, fun j => ([0, 50, 0, 0] : List Int32).getD j 0), (RX5, "MOST_SETTING", "[I", 2, .int, 4, fun j => ([20, 300, 20, 50] : List Int32).getD j 0),
  (RX3, "MOST_NUMBER", "[I", 3, .int, 4, fun j => ([60, 60, 60, 99] : List Int32).getD j 0), (RX3, "NUMBER_END", "[C", 4, .char, 4, fun j => ([120, 120, 42, 122] : List Int32).getD j 0)]
def kSt (G : kG) (b : Nat) (U : State) (H : Heap) : Prop :=
  (∀ q ∈ kSta, va_Z q.1 q.2.1 q.2.2.1 (.ref (G.2.2.1 q.2.2.2.1)) (fun a => b ≤ a) U H ∧ va_T q.2.2.2.2.1 (G.2.2.1 q.2.2.2.1) q.2.2.2.2.2.1 (fun j => .int (q.2.2.2.2.2.2 j)) (fun a => b ≤ a) U H) ∧
  vx_Zq Bundle.tN "UNASSIGNED_STACK" Bundle.steD (fun a => b ≤ a) U H ∧ vx_Zq Bundle.tN "SUPPRESSED_SENTINEL" Bundle.listD (fun a => b ≤ a) U H
theorem kSt.moved {G : kG} {b : Nat} {u U : State} {H : Heap} (hvm : u.vm.Alike U.vm) (h : kSt G b u H) : kSt G b U H :=
  ⟨fun q hq => ⟨va_Z.moved hvm (h.1 q hq).1, va_T.moved hvm (h.1 q hq).2⟩, vx_Zq.moved hvm h.2.1, vx_Zq.moved hvm h.2.2⟩
theorem kSt.kept {G : kG} {b : Nat} {U : State} {H H1 : Heap} (h : kSt G b U H) (hq : ∀ a : Nat, a < H.size → ¬ b ≤ a → H1[a]? = H[a]?) : kSt G b U H1 :=
  ⟨fun q hm => ⟨va_Z.kept (h.1 q hm).1 hq, va_T.kept (h.1 q hm).2 hq⟩, vx_Zq.kept h.2.1 hq, vx_Zq.kept h.2.2 hq⟩
/-! ===== contracts and the judgement ===== -/
abbrev kQ : Type := (Option Value ⊕ String) → kM → Nat → Prop
def kQc (G : kG) (b : Nat) (Q : kQ) : Array Value → State → Outcome → State → Prop := fun _ st o t =>
  (∃ (v : Option Value) (w' : kM) (n' : Nat), o = .returned (v.map (kcv G b)) ∧ Q (.inl v) w' n' ∧ kRp G b n' w' t.heap) ∧ va_F (fun q => b ≤ q) st t
def kXC (G : kG) (b : Nat) (Q : kQ) : String → State → State → Prop := fun E st t =>
  (∃ (w' : kM) (n' : Nat), Q (.inr E) w' n' ∧ kRp G b n' w' t.heap) ∧ va_F (fun q => b ≤ q) st t
def kPc (G : kG) (b : Nat) (As : List Value) (w : kM) (n : Nat) : Array Value → State → Prop := va_Pc (As.map (kcv G b)) (fun U => kRp G b n w U.heap ∧ kK G U ∧ kSt G b U U.heap)
def kRm (d mc ms : Nat) : Room := { frames := d, cells := mc, slots := ms, locals := 60 * d }
def kCtr (M : kMi) (d mc ms : Nat) (As : List Value) (w : kM) (n : Nat) (Q : kQ) : Prop :=
  ∀ (l : Launch), l.stackTraces = false → ∀ (G : kG) (b : Nat), vx_Met l M.1 (kws M) (kRm d mc ms) (kPc G b As w n) (kQc G b Q) (kXC G b Q) mc ms (fun q => b ≤ q)
def kOK (M : kMi) (G : kG) (b d : Nat) (p : Program) (l : Launch) (R : Room) (s : State) (m : MethodId) (args : Array Value) (meth : Method) (c : Code) : Prop :=
  p.tables.exec = Jvm.exec ∧ c.code = M.2.1 ∧ c.maxLocals = M.2.2.1 ∧ s.vm.findClass M.1.cls = some m.cls ∧ (∀ w ∈ kws M, w.before args s = true) ∧ meth.sig.returnType = M.2.2.2.1 ∧ meth.locks = false ∧ meth.name = M.1.name ∧ l.stackTraces = false ∧
  kK G s ∧ kSt G b s s.heap ∧ d ≤ R.frames ∧ 60 * d ≤ R.locals ∧ b ≤ s.heap.size ∧ (M.1.name ≠ "law" → c.exceptionTable.toList = tableOf M.2.2.2.2)
def kEnd (X : Nat × (Nat → Int32)) (M : kMi) (G : kG) (b : Nat) (Q : kQ) (p : Program) (l : Launch) (e : Env) (R : Room) (s : State) (m : MethodId) (args : Array Value) (below : List Frame) (meth : Method) (c : Code) (Z : State → Prop) : Prop :=
  (M.1.name ≠ "law" ∧ Z = vx_MQ below (kQc G b Q) (kXC G b Q) args s R.cells R.slots (fun q => b ≤ q)) ∨
  (M.1.name = "law" ∧ (va_X (G.2.2.1 9) X.1 X.2 s s.heap ∧ G.2.2.1 9 < s.heap.size ∧ ¬ b ≤ G.2.2.1 9) ∧
    ∀ (pc : Nat) (ls : Array Slot) (w' : kM) (n' : Nat) (H' : Heap) (locs' : List Loc) (cells' slots' : Nat), decode M.2.1 pc = .ok (.ireturn, 1) → Q (.inl (some (.int 1))) w' n' → va_S (fun q => b ≤ q) s.heap H' locs' → cells' ≤ R.cells → slots' ≤ R.slots →
      W p l e R s m args below meth c H' locs' cells' slots' Z (F0 m pc ls [.int 1]))
/-- the method M stands at pc, over the memory w of n cells, with the locals L and the stack st, and may still make rc cells of rs slots: it comes to an end of which Q speaks -/
def kW (X : Nat × (Nat → Int32)) (M : kMi) (d : Nat) (Q : kQ) (rc rs n : Nat) (w : kM) (pc : Nat) (L : List (Nat × Value)) (st : List Value) : Prop :=
  ∀ (G : kG) (b : Nat) (p : Program) (l : Launch) (e : Env) (R : Room) (s : State) (m : MethodId) (args : Array Value) (below : List Frame) (meth : Method) (c : Code) (H : Heap) (locs : List Loc) (cells slots : Nat) (ls : Array Slot) (Z : State → Prop),
    kOK M G b d p l R s m args meth c → kEnd X M G b Q p l e R s m args below meth c Z → kRp G b n w H → va_S (fun q => b ≤ q) s.heap H locs → cells + rc ≤ R.cells → slots + rs ≤ R.slots → lv_has ls M.2.2.1 (L.map fun q => (q.1, kcv G b q.2)) →
    W p l e R s m args below meth c H locs cells slots Z (F0 m pc ls (st.map (kcv G b)))
/-- .. with an exception of the class E thrown over it -/
def kWX (X : Nat × (Nat → Int32)) (M : kMi) (d : Nat) (Q : kQ) (rc rs n : Nat) (w : kM) (pc : Nat) (L : List (Nat × Value)) (E : String) : Prop :=
  ∀ (G : kG) (b : Nat) (p : Program) (l : Launch) (e : Env) (R : Room) (s : State) (m : MethodId) (args : Array Value) (below : List Frame) (meth : Method) (c : Code) (H : Heap) (locs : List Loc) (cells slots : Nat) (ls : Array Slot) (Z : State → Prop) (q : Addr) (ce : Cell) (rest : List Value),
    kOK M G b d p l R s m args meth c → kEnd X M G b Q p l e R s m args below meth c Z → kRp G b n w H → va_S (fun q => b ≤ q) s.heap H locs → cells + rc ≤ R.cells → slots + rs ≤ R.slots → lv_has ls M.2.2.1 (L.map fun q => (q.1, kcv G b q.2)) →
    H[q]? = some ce → ce.vm = .none → s.vm.findClass E = some ce.cls → vx_W p l e R s m args below meth c H locs cells slots Z (F0 m pc ls rest) q
theorem k_args (G : kG) (b : Nat) : ∀ (As : List Value) (i : Nat), lv_args i (As.map (kcv G b)) = (lv_args i As).map fun q => (q.1, kcv G b q.2)
  | [], _ => rfl
  | v :: vs, i => by
    simp only [List.map_cons, lv_args, kcv_cat]
    rw [k_args G b vs]
theorem k_sl (G : kG) (b : Nat) (As : List Value) : (lg_sl (As.map (kcv G b))).length = (lg_sl As).length := by
  induction As with
  | nil => rfl
  | cons v vs ih =>
    simp only [lg_sl, List.map_cons, List.flatMap_cons, List.length_append] at ih ⊢
    rw [ih, kcv_cat]
    by_cases h : v.category = 2 <;> simp [h]
theorem kPc_blind (G : kG) (b : Nat) (As : List Value) (w : kM) (n : Nat) : FrameBlind (kPc G b As w n) := by
  intro a U g mk h
  obtain ⟨h1, h2, h3, h4⟩ := h
  exact ⟨h1, h2, kK.warm (s := U) (U := U.calling g mk a) (State.WarmedH.refl U) h3, kSt.moved (u := U) (U := U.calling g mk a) (Vm.Alike.refl U.vm) h4⟩
theorem kCtr.of {X : Nat × (Nat → Int32)} {M : kMi} {d mc ms : Nat} {As : List Value} {w : kM} {n : Nat} {Q : kQ} (hy : plainName M.1.cls = true) (hn : M.1.name ≠ "law") (hh : M.2.2.2.2 = []) (hl : (lg_sl As).length ≤ M.2.2.1)
    (h : kW X M d Q mc ms n w 0 (lv_args 0 As) []) : kCtr M d mc ms As w n Q := by
  intro l hst G b
  have hcw : kcw M = .code M.1 M.2.1 M.2.2.1 M.2.2.2.1 := by unfold kcw; rw [hh]
  refine vx_ofW (cc := M.2.1) (maxL := M.2.2.1) (ret := M.2.2.2.1) (ws' := kTb) hy (by unfold kws; rw [hcw]) ?_
  intro p e s m args below meth c s₁ B hml ht hv
  obtain ⟨rfl, hR, hK, hS⟩ := hv
  have hts := atoms_spec (ws := kws M) B.pre
  have htab : c.exceptionTable.toList = tableOf M.2.2.2.2 := by
    rw [hh]
    cases hc : c.exceptionTable.toList with
    | nil => rfl
    | cons x t => exact (ht x (by rw [hc]; exact List.mem_cons_self)).elim
  have hl1 := lv_entry (As.map (kcv G b)) (n := M.2.2.1) (by rw [k_sl]; exact hl)
  rw [k_args] at hl1
  rw [lg_entry_eq]
  exact h G b p l e (kRm d mc ms) s m _ below meth c s.heap [] 0 0 _ _
    ⟨B.exec, B.bytes, hml, findClass_of_methodNamed B.named, hts, B.returns, B.notSynchronized, (name_of_methodNamed B.named B.method).1, hst, hK, hS, Nat.le_refl _, Nat.le_refl _, by rw [hR.1]; exact Nat.le_add_right _ _, fun _ => htab⟩
    (Or.inl ⟨hn, rfl⟩) hR va_S.rf (by rw [Nat.zero_add]; exact Nat.le_refl mc) (by rw [Nat.zero_add]; exact Nat.le_refl ms) hl1
theorem kCtr.ofH {X : Nat × (Nat → Int32)} {M : kMi} {d mc ms : Nat} {As : List Value} {w : kM} {n : Nat} {Q : kQ} (hy : plainName M.1.cls = true) (hn : M.1.name ≠ "law") (hh : M.2.2.2.2 ≠ []) (hl : (lg_sl As).length ≤ M.2.2.1)
    (h : kW X M d Q mc ms n w 0 (lv_args 0 As) []) : kCtr M d mc ms As w n Q := by
  intro l hst G b
  have hcw : kcw M = .codeWith M.1 M.2.1 M.2.2.1 M.2.2.2.1 M.2.2.2.2 := by
    unfold kcw
    cases h : M.2.2.2.2 with
    | nil => exact absurd h hh
    | cons x t => rfl
  refine vx_ofWH (cc := M.2.1) (maxL := M.2.2.1) (ret := M.2.2.2.1) (hh := M.2.2.2.2) (ws' := kTb) hy (by unfold kws; rw [hcw]) ?_
  intro p e s m args below meth c s₁ B hml hv
  obtain ⟨rfl, hR, hK, hS⟩ := hv
  have hts := atoms_spec (ws := kws M) B.pre
  have htab : c.exceptionTable.toList = tableOf M.2.2.2.2 := vx_table (x := M.1) B (by rw [← hcw]; exact hts _ List.mem_cons_self)
  have hl1 := lv_entry (As.map (kcv G b)) (n := M.2.2.1) (by rw [k_sl]; exact hl)
  rw [k_args] at hl1
  rw [lg_entry_eq]
  exact h G b p l e (kRm d mc ms) s m _ below meth c s.heap [] 0 0 _ _
    ⟨B.exec, B.bytes, hml, findClass_of_methodNamed B.named, hts, B.returns, B.notSynchronized, (name_of_methodNamed B.named B.method).1, hst, hK, hS, Nat.le_refl _, Nat.le_refl _, by rw [hR.1]; exact Nat.le_add_right _ _, fun _ => htab⟩
    (Or.inl ⟨hn, rfl⟩) hR va_S.rf (by rw [Nat.zero_add]; exact Nat.le_refl mc) (by rw [Nat.zero_add]; exact Nat.le_refl ms) hl1
end
section
section KR
variable {X : Nat × (Nat → Int32)} {M : kMi} {dd : Nat} {Q : kQ} {rc rs n : Nat} {w : kM} {L : List (Nat × Value)} {st : List Value}
theorem lv_mono {ls : Array Slot} {nL : Nat} {l l' : List (Nat × Value)} (h : lv_has ls nL l) (hs : ∀ q ∈ l', q ∈ l) : lv_has ls nL l' := ⟨h.1, h.2.1, fun q hq => h.2.2 q (hs q hq)⟩
def kget : List (Nat × Value) → Nat → Option Value
  | [], _ => none
  | q :: t, i => bif Nat.beq q.1 i then some q.2 else kget t i
theorem kget_mem {i : Nat} {v : Value} : ∀ {L : List (Nat × Value)}, kget L i = some v → (i, v) ∈ L
  | [], h => by cases h
  | q :: t, h => by
    unfold kget at h
    cases hb : Nat.beq q.1 i with
    | true =>
      rw [hb] at h
      have h1 : q.2 = v := Option.some.inj h
      have h2 : q.1 = i := Nat.eq_of_beq_eq_true hb
      rw [← h1, ← h2]
      exact List.mem_cons_self
    | false =>
      rw [hb] at h
      exact List.mem_cons_of_mem _ (kget_mem h)
theorem kget_at {ls : Array Slot} {nL i : Nat} {v : Value} {G : kG} {b : Nat} (hl : lv_has ls nL (L.map fun q => (q.1, kcv G b q.2))) (h : kget L i = some v) : ls[i]? = some (.val (kcv G b v)) :=
  hl.2.2 (i, kcv G b v) (List.mem_map.mpr ⟨(i, v), kget_mem h, rfl⟩)
/-- a local of one slot is written: what stood at i goes; nothing of two slots ends there -/
def kset (L : List (Nat × Value)) (i : Nat) (v : Value) : List (Nat × Value) := (i, v) :: L.filter (fun q => !(Nat.beq q.1 i))
def kset2 (L : List (Nat × Value)) (i : Nat) (v : Value) : List (Nat × Value) := (i, v) :: L.filter (fun q => !(Nat.beq q.1 i) && !(Nat.beq q.1 (i + 1)))
def kok : List (Nat × Value) → Nat → Bool
  | [], _ => true
  | q :: t, i => bif Nat.beq (q.1 + 1) i then (Nat.beq q.2.category 1 && kok t i) else kok t i
theorem kok_all {i : Nat} : ∀ {L : List (Nat × Value)}, kok L i = true → ∀ q ∈ L, q.1 + 1 = i → q.2.category = 1
  | [], _, q, hq, _ => by cases hq
  | a :: t, h, q, hq, he => by
    unfold kok at h
    cases hb : Nat.beq (a.1 + 1) i with
    | true =>
      rw [hb] at h
      simp only [cond_true, Bool.and_eq_true] at h
      rcases List.mem_cons.mp hq with e | e
      · rw [e]; exact Nat.eq_of_beq_eq_true h.1
      · exact kok_all h.2 q e he
    | false =>
      rw [hb] at h
      rcases List.mem_cons.mp hq with e | e
      · rw [← e, he] at hb
        rw [Nat.beq_refl] at hb
        cases hb
      · exact kok_all h q e he
theorem kset_in {G : kG} {b i : Nat} {v : Value} (h : kok L i = true) : ∀ q ∈ ((kset L i v).map fun q => (q.1, kcv G b q.2)), q ∈ (i, kcv G b v) :: (L.map fun q => (q.1, kcv G b q.2)).filter (fun q => !(q.1 == i) && !(q.1 + 1 == i && q.2.category == 2)) := by
  intro q hq
  obtain ⟨z, hz, rfl⟩ := List.mem_map.mp hq
  rcases List.mem_cons.mp hz with e | e
  · rw [e]; exact List.mem_cons_self
  · obtain ⟨h1, h2⟩ := List.mem_filter.mp e
    refine List.mem_cons_of_mem _ (List.mem_filter.mpr ⟨List.mem_map.mpr ⟨z, h1, rfl⟩, ?_⟩)
    have hne : ¬ z.1 = i := fun q => by
      rw [q] at h2
      simp at h2
    have hcat : z.1 + 1 = i → z.2.category = 1 := kok_all h z h1
    simp only [kcv_cat]
    by_cases h3 : z.1 + 1 = i
    · simp [hne, hcat h3]
    · simp [hne, h3]
theorem kset2_in {G : kG} {b i : Nat} {v : Value} (h : kok L i = true) : ∀ q ∈ ((kset2 L i v).map fun q => (q.1, kcv G b q.2)), q ∈ (i, kcv G b v) :: (L.map fun q => (q.1, kcv G b q.2)).filter (fun q => !(q.1 == i) && (!(q.1 == i + 1) && !(q.1 + 1 == i && q.2.category == 2))) := by
  intro q hq
  obtain ⟨z, hz, rfl⟩ := List.mem_map.mp hq
  rcases List.mem_cons.mp hz with e | e
  · rw [e]; exact List.mem_cons_self
  · obtain ⟨h1, h2⟩ := List.mem_filter.mp e
    refine List.mem_cons_of_mem _ (List.mem_filter.mpr ⟨List.mem_map.mpr ⟨z, h1, rfl⟩, ?_⟩)
    have hne : ¬ z.1 = i := fun q => by
      rw [q] at h2
      simp at h2
    have hne2 : ¬ z.1 = i + 1 := fun q => by
      rw [q] at h2
      simp at h2
    have hcat : z.1 + 1 = i → z.2.category = 1 := kok_all h z h1
    simp only [kcv_cat]
    by_cases h3 : z.1 + 1 = i
    · simp [hne, hne2, hcat h3]
    · simp [hne, hne2, h3]
/-- other words for the locals, the stack, the memory -/
theorem kW.loc {pc : Nat} {L' : List (Nat × Value)} (h : ∀ q ∈ L', q ∈ L) (k : kW X M dd Q rc rs n w pc L' st) : kW X M dd Q rc rs n w pc L st := by
  intro G b p l e R s m args below meth c H locs cells slots ls Z hO hE hR hS hc hs hl
  exact k G b p l e R s m args below meth c H locs cells slots ls Z hO hE hR hS hc hs (lv_mono hl (fun q hq => by
    obtain ⟨z, hz, rfl⟩ := List.mem_map.mp hq
    exact List.mem_map.mpr ⟨z, h z hz, rfl⟩))
theorem kW.eq {pc : Nat} {w' : kM} {st' : List Value} (hw : w = w') (hst : st = st') (k : kW X M dd Q rc rs n w' pc L st') : kW X M dd Q rc rs n w pc L st := by
  subst hw; subst hst; exact k
/-- fewer cells to be made -/
theorem kW.less {pc rc' rs' : Nat} (h1 : rc' ≤ rc) (h2 : rs' ≤ rs) (k : kW X M dd Q rc' rs' n w pc L st) : kW X M dd Q rc rs n w pc L st := by
  intro G b p l e R s m args below meth c H locs cells slots ls Z hO hE hR hS hc hs hl
  exact k G b p l e R s m args below meth c H locs cells slots ls Z hO hE hR hS (by omega) (by omega) hl
theorem kw_iconst {pc : Nat} {z : Int} {v : Int32} (d : decode M.2.1 pc = .ok (.iconst z, 1)) (hv : Int32.ofInt z = v) (k : kW X M dd Q rc rs n w (pc + 1) L (.int v :: st)) : kW X M dd Q rc rs n w pc L (st) := by
  intro G b p l e R s m args below meth c H locs cells slots ls Z hO hE hR hS hc hs hl
  exact lv_iconst hO.1 hO.2.1 d hv (k G b p l e R s m args below meth c H locs cells slots ls Z hO hE hR hS hc hs hl)
theorem kw_bipush {pc : Nat} {z : Int} {v : Int32} (d : decode M.2.1 pc = .ok (.bipush z, 2)) (hv : (Int8.ofInt z).toInt32 = v) (k : kW X M dd Q rc rs n w (pc + 2) L (.int v :: st)) : kW X M dd Q rc rs n w pc L (st) := by
  intro G b p l e R s m args below meth c H locs cells slots ls Z hO hE hR hS hc hs hl
  exact lv_bipush hO.1 hO.2.1 d hv (k G b p l e R s m args below meth c H locs cells slots ls Z hO hE hR hS hc hs hl)
theorem kw_sipush {pc : Nat} {z : Int} {v : Int32} (d : decode M.2.1 pc = .ok (.sipush z, 3)) (hv : (Int16.ofInt z).toInt32 = v) (k : kW X M dd Q rc rs n w (pc + 3) L (.int v :: st)) : kW X M dd Q rc rs n w pc L (st) := by
  intro G b p l e R s m args below meth c H locs cells slots ls Z hO hE hR hS hc hs hl
  exact lv_sipush hO.1 hO.2.1 d hv (k G b p l e R s m args below meth c H locs cells slots ls Z hO hE hR hS hc hs hl)
theorem kw_lconst {pc : Nat} {z : Fin 2} {v : Int64} (d : decode M.2.1 pc = .ok (.lconst z, 1)) (hv : Int64.ofNat (z : Nat) = v) (k : kW X M dd Q rc rs n w (pc + 1) L (.long v :: st)) : kW X M dd Q rc rs n w pc L (st) := by
  intro G b p l e R s m args below meth c H locs cells slots ls Z hO hE hR hS hc hs hl
  exact lv_lconst hO.1 hO.2.1 d hv (k G b p l e R s m args below meth c H locs cells slots ls Z hO hE hR hS hc hs hl)
theorem kw_dconst0 {pc : Nat} (d : decode M.2.1 pc = .ok (.dconst 0, 1)) (k : kW X M dd Q rc rs n w (pc + 1) L (.double FP.dconst0 :: st)) : kW X M dd Q rc rs n w pc L (st) := by
  intro G b p l e R s m args below meth c H locs cells slots ls Z hO hE hR hS hc hs hl
  exact lv_dconst0 hO.1 hO.2.1 d (k G b p l e R s m args below meth c H locs cells slots ls Z hO hE hR hS hc hs hl)
theorem kw_dconst1 {pc : Nat} (d : decode M.2.1 pc = .ok (.dconst 1, 1)) (k : kW X M dd Q rc rs n w (pc + 1) L (.double FP.dconst1 :: st)) : kW X M dd Q rc rs n w pc L (st) := by
  intro G b p l e R s m args below meth c H locs cells slots ls Z hO hE hR hS hc hs hl
  exact lv_dconst1 hO.1 hO.2.1 d (k G b p l e R s m args below meth c H locs cells slots ls Z hO hE hR hS hc hs hl)
theorem kw_iadd {pc : Nat} {x y : Int32} (d : decode M.2.1 pc = .ok (.iadd, 1)) (k : kW X M dd Q rc rs n w (pc + 1) L (.int (x + y) :: st)) : kW X M dd Q rc rs n w pc L (.int y :: .int x :: st) := by
  intro G b p l e R s m args below meth c H locs cells slots ls Z hO hE hR hS hc hs hl
  exact lv_iadd hO.1 hO.2.1 d (k G b p l e R s m args below meth c H locs cells slots ls Z hO hE hR hS hc hs hl)
theorem kw_isub {pc : Nat} {x y : Int32} (d : decode M.2.1 pc = .ok (.isub, 1)) (k : kW X M dd Q rc rs n w (pc + 1) L (.int (x - y) :: st)) : kW X M dd Q rc rs n w pc L (.int y :: .int x :: st) := by
  intro G b p l e R s m args below meth c H locs cells slots ls Z hO hE hR hS hc hs hl
  exact lv_isub hO.1 hO.2.1 d (k G b p l e R s m args below meth c H locs cells slots ls Z hO hE hR hS hc hs hl)
theorem kw_imul {pc : Nat} {x y : Int32} (d : decode M.2.1 pc = .ok (.imul, 1)) (k : kW X M dd Q rc rs n w (pc + 1) L (.int (x * y) :: st)) : kW X M dd Q rc rs n w pc L (.int y :: .int x :: st) := by
  intro G b p l e R s m args below meth c H locs cells slots ls Z hO hE hR hS hc hs hl
  exact lv_imul hO.1 hO.2.1 d (k G b p l e R s m args below meth c H locs cells slots ls Z hO hE hR hS hc hs hl)
theorem kw_iand {pc : Nat} {x y : Int32} (d : decode M.2.1 pc = .ok (.iand, 1)) (k : kW X M dd Q rc rs n w (pc + 1) L (.int (x &&& y) :: st)) : kW X M dd Q rc rs n w pc L (.int y :: .int x :: st) := by
  intro G b p l e R s m args below meth c H locs cells slots ls Z hO hE hR hS hc hs hl
  exact lv_iand hO.1 hO.2.1 d (k G b p l e R s m args below meth c H locs cells slots ls Z hO hE hR hS hc hs hl)
theorem kw_ior {pc : Nat} {x y : Int32} (d : decode M.2.1 pc = .ok (.ior, 1)) (k : kW X M dd Q rc rs n w (pc + 1) L (.int (x ||| y) :: st)) : kW X M dd Q rc rs n w pc L (.int y :: .int x :: st) := by
  intro G b p l e R s m args below meth c H locs cells slots ls Z hO hE hR hS hc hs hl
  exact lv_ior hO.1 hO.2.1 d (k G b p l e R s m args below meth c H locs cells slots ls Z hO hE hR hS hc hs hl)
theorem kw_ixor {pc : Nat} {x y : Int32} (d : decode M.2.1 pc = .ok (.ixor, 1)) (k : kW X M dd Q rc rs n w (pc + 1) L (.int (x ^^^ y) :: st)) : kW X M dd Q rc rs n w pc L (.int y :: .int x :: st) := by
  intro G b p l e R s m args below meth c H locs cells slots ls Z hO hE hR hS hc hs hl
  exact lv_ixor hO.1 hO.2.1 d (k G b p l e R s m args below meth c H locs cells slots ls Z hO hE hR hS hc hs hl)
theorem kw_idiv {pc : Nat} {x y : Int32} (d : decode M.2.1 pc = .ok (.idiv, 1)) (hne : ¬ y = 0) (k : kW X M dd Q rc rs n w (pc + 1) L (.int (x / y) :: st)) : kW X M dd Q rc rs n w pc L (.int y :: .int x :: st) := by
  intro G b p l e R s m args below meth c H locs cells slots ls Z hO hE hR hS hc hs hl
  exact lv_idiv hO.1 hO.2.1 d hne (k G b p l e R s m args below meth c H locs cells slots ls Z hO hE hR hS hc hs hl)
theorem kw_ineg {pc : Nat} {x : Int32} (d : decode M.2.1 pc = .ok (.ineg, 1)) (k : kW X M dd Q rc rs n w (pc + 1) L (.int (-x) :: st)) : kW X M dd Q rc rs n w pc L (.int x :: st) := by
  intro G b p l e R s m args below meth c H locs cells slots ls Z hO hE hR hS hc hs hl
  exact lv_ineg hO.1 hO.2.1 d (k G b p l e R s m args below meth c H locs cells slots ls Z hO hE hR hS hc hs hl)
theorem kw_ishl {pc : Nat} {x y : Int32} (d : decode M.2.1 pc = .ok (.ishl, 1)) (k : kW X M dd Q rc rs n w (pc + 1) L (.int (x <<< (y &&& 31)) :: st)) : kW X M dd Q rc rs n w pc L (.int y :: .int x :: st) := by
  intro G b p l e R s m args below meth c H locs cells slots ls Z hO hE hR hS hc hs hl
  exact lv_ishl hO.1 hO.2.1 d (k G b p l e R s m args below meth c H locs cells slots ls Z hO hE hR hS hc hs hl)
theorem kw_ishr {pc : Nat} {x y : Int32} (d : decode M.2.1 pc = .ok (.ishr, 1)) (k : kW X M dd Q rc rs n w (pc + 1) L (.int (x >>> (y &&& 31)) :: st)) : kW X M dd Q rc rs n w pc L (.int y :: .int x :: st) := by
  intro G b p l e R s m args below meth c H locs cells slots ls Z hO hE hR hS hc hs hl
  exact lv_ishr hO.1 hO.2.1 d (k G b p l e R s m args below meth c H locs cells slots ls Z hO hE hR hS hc hs hl)
theorem kw_ladd {pc : Nat} {x y : Int64} (d : decode M.2.1 pc = .ok (.ladd, 1)) (k : kW X M dd Q rc rs n w (pc + 1) L (.long (x + y) :: st)) : kW X M dd Q rc rs n w pc L (.long y :: .long x :: st) := by
  intro G b p l e R s m args below meth c H locs cells slots ls Z hO hE hR hS hc hs hl
  exact lv_ladd hO.1 hO.2.1 d (k G b p l e R s m args below meth c H locs cells slots ls Z hO hE hR hS hc hs hl)
theorem kw_lsub {pc : Nat} {x y : Int64} (d : decode M.2.1 pc = .ok (.lsub, 1)) (k : kW X M dd Q rc rs n w (pc + 1) L (.long (x - y) :: st)) : kW X M dd Q rc rs n w pc L (.long y :: .long x :: st) := by
  intro G b p l e R s m args below meth c H locs cells slots ls Z hO hE hR hS hc hs hl
  exact lv_lsub hO.1 hO.2.1 d (k G b p l e R s m args below meth c H locs cells slots ls Z hO hE hR hS hc hs hl)
theorem kw_lmul {pc : Nat} {x y : Int64} (d : decode M.2.1 pc = .ok (.lmul, 1)) (k : kW X M dd Q rc rs n w (pc + 1) L (.long (x * y) :: st)) : kW X M dd Q rc rs n w pc L (.long y :: .long x :: st) := by
  intro G b p l e R s m args below meth c H locs cells slots ls Z hO hE hR hS hc hs hl
  exact lv_lmul hO.1 hO.2.1 d (k G b p l e R s m args below meth c H locs cells slots ls Z hO hE hR hS hc hs hl)
theorem kw_lshl {pc : Nat} {x : Int64} {y : Int32} (d : decode M.2.1 pc = .ok (.lshl, 1)) (k : kW X M dd Q rc rs n w (pc + 1) L (.long (x <<< (y.toInt64 &&& 63)) :: st)) : kW X M dd Q rc rs n w pc L (.int y :: .long x :: st) := by
  intro G b p l e R s m args below meth c H locs cells slots ls Z hO hE hR hS hc hs hl
  exact lv_lshl hO.1 hO.2.1 d rfl (k G b p l e R s m args below meth c H locs cells slots ls Z hO hE hR hS hc hs hl)
theorem kw_lcmp {pc : Nat} {x y : Int64} (d : decode M.2.1 pc = .ok (.lcmp, 1)) (k : kW X M dd Q rc rs n w (pc + 1) L (.int (lg_cmp x y) :: st)) : kW X M dd Q rc rs n w pc L (.long y :: .long x :: st) := by
  intro G b p l e R s m args below meth c H locs cells slots ls Z hO hE hR hS hc hs hl
  exact W.lcmp hO.1 hO.2.1 d (k G b p l e R s m args below meth c H locs cells slots ls Z hO hE hR hS hc hs hl)
theorem kw_i2l {pc : Nat} {x : Int32} (d : decode M.2.1 pc = .ok (.i2l, 1)) (k : kW X M dd Q rc rs n w (pc + 1) L (.long x.toInt64 :: st)) : kW X M dd Q rc rs n w pc L (.int x :: st) := by
  intro G b p l e R s m args below meth c H locs cells slots ls Z hO hE hR hS hc hs hl
  exact lv_i2l hO.1 hO.2.1 d rfl (k G b p l e R s m args below meth c H locs cells slots ls Z hO hE hR hS hc hs hl)
theorem kw_i2c {pc : Nat} {x : Int32} (d : decode M.2.1 pc = .ok (.i2c, 1)) (k : kW X M dd Q rc rs n w (pc + 1) L (.int (x.toUInt32 % 65536).toInt32 :: st)) : kW X M dd Q rc rs n w pc L (.int x :: st) := by
  intro G b p l e R s m args below meth c H locs cells slots ls Z hO hE hR hS hc hs hl
  exact lv_i2c hO.1 hO.2.1 d rfl (k G b p l e R s m args below meth c H locs cells slots ls Z hO hE hR hS hc hs hl)
theorem kw_i2d {pc : Nat} {x : Int32} (d : decode M.2.1 pc = .ok (.i2d, 1)) (k : kW X M dd Q rc rs n w (pc + 1) L (.double (FP.i2d x) :: st)) : kW X M dd Q rc rs n w pc L (.int x :: st) := by
  intro G b p l e R s m args below meth c H locs cells slots ls Z hO hE hR hS hc hs hl
  exact lv_i2d hO.1 hO.2.1 d (k G b p l e R s m args below meth c H locs cells slots ls Z hO hE hR hS hc hs hl)
theorem kw_d2l {pc : Nat} {x : UInt64} (d : decode M.2.1 pc = .ok (.d2l, 1)) (k : kW X M dd Q rc rs n w (pc + 1) L (.long (FP.d2l x) :: st)) : kW X M dd Q rc rs n w pc L (.double x :: st) := by
  intro G b p l e R s m args below meth c H locs cells slots ls Z hO hE hR hS hc hs hl
  exact lv_d2l hO.1 hO.2.1 d (k G b p l e R s m args below meth c H locs cells slots ls Z hO hE hR hS hc hs hl)
theorem kw_dcmp {pc : Nat} {x y : UInt64} {op : CmpOp} (d : decode M.2.1 pc = .ok (.dcmp op, 1)) (k : kW X M dd Q rc rs n w (pc + 1) L (.int (Op.cmpValue (FP.dcmp x y) op) :: st)) : kW X M dd Q rc rs n w pc L (.double y :: .double x :: st) := by
  intro G b p l e R s m args below meth c H locs cells slots ls Z hO hE hR hS hc hs hl
  exact lv_dcmp hO.1 hO.2.1 d (k G b p l e R s m args below meth c H locs cells slots ls Z hO hE hR hS hc hs hl)
theorem kw_ddiv {pc : Nat} {x y : UInt64} (d : decode M.2.1 pc = .ok (.ddiv, 1)) (hne : vf_n64 (FP.ddiv x y)) (k : kW X M dd Q rc rs n w (pc + 1) L (.double (FP.ddiv x y) :: st)) : kW X M dd Q rc rs n w pc L (.double y :: .double x :: st) := by
  intro G b p l e R s m args below meth c H locs cells slots ls Z hO hE hR hS hc hs hl
  exact lv_ddiv hO.1 hO.2.1 d hne (k G b p l e R s m args below meth c H locs cells slots ls Z hO hE hR hS hc hs hl)
theorem kw_dsub {pc : Nat} {x y : UInt64} (d : decode M.2.1 pc = .ok (.dsub, 1)) (hne : vf_n64 (FP.dsub x y)) (k : kW X M dd Q rc rs n w (pc + 1) L (.double (FP.dsub x y) :: st)) : kW X M dd Q rc rs n w pc L (.double y :: .double x :: st) := by
  intro G b p l e R s m args below meth c H locs cells slots ls Z hO hE hR hS hc hs hl
  exact lv_dsub hO.1 hO.2.1 d hne (k G b p l e R s m args below meth c H locs cells slots ls Z hO hE hR hS hc hs hl)
theorem kw_dmul {pc : Nat} {x y : UInt64} (d : decode M.2.1 pc = .ok (.dmul, 1)) (hne : vf_n64 (FP.dmul x y)) (k : kW X M dd Q rc rs n w (pc + 1) L (.double (FP.dmul x y) :: st)) : kW X M dd Q rc rs n w pc L (.double y :: .double x :: st) := by
  intro G b p l e R s m args below meth c H locs cells slots ls Z hO hE hR hS hc hs hl
  exact lv_dmul hO.1 hO.2.1 d hne (k G b p l e R s m args below meth c H locs cells slots ls Z hO hE hR hS hc hs hl)
theorem kw_dup {pc : Nat} {v : Value} (d : decode M.2.1 pc = .ok (.dup, 1)) (hv : v.category = 1) (k : kW X M dd Q rc rs n w (pc + 1) L (v :: v :: st)) : kW X M dd Q rc rs n w pc L (v :: st) := by
  intro G b p l e R s m args below meth c H locs cells slots ls Z hO hE hR hS hc hs hl
  exact lv_dup hO.1 hO.2.1 d (by rw [kcv_cat]; exact hv) (k G b p l e R s m args below meth c H locs cells slots ls Z hO hE hR hS hc hs hl)
theorem kw_pop {pc : Nat} {v : Value} (d : decode M.2.1 pc = .ok (.pop, 1)) (hv : v.category = 1) (k : kW X M dd Q rc rs n w (pc + 1) L (st)) : kW X M dd Q rc rs n w pc L (v :: st) := by
  intro G b p l e R s m args below meth c H locs cells slots ls Z hO hE hR hS hc hs hl
  exact lv_pop hO.1 hO.2.1 d (by rw [kcv_cat]; exact hv) (k G b p l e R s m args below meth c H locs cells slots ls Z hO hE hR hS hc hs hl)
theorem kw_dup2 {pc : Nat} {v v2 : Value} (d : decode M.2.1 pc = .ok (.dup2, 1)) (hv : v.category = 1) (hv2 : v2.category = 1) (k : kW X M dd Q rc rs n w (pc + 1) L (v :: v2 :: v :: v2 :: st)) : kW X M dd Q rc rs n w pc L (v :: v2 :: st) := by
  intro G b p l e R s m args below meth c H locs cells slots ls Z hO hE hR hS hc hs hl
  exact lv_dup2_11 hO.1 hO.2.1 d (by rw [kcv_cat]; exact hv) (by rw [kcv_cat]; exact hv2) (k G b p l e R s m args below meth c H locs cells slots ls Z hO hE hR hS hc hs hl)
theorem kw_iload_n {pc : Nat} {z : Fin 4} {x : Int32} (d : decode M.2.1 pc = .ok (.iload_n z, 1)) (hg : kget L z.val = some (.int x)) (k : kW X M dd Q rc rs n w (pc + 1) L (.int x :: st)) : kW X M dd Q rc rs n w pc L st := by
  intro G b p l e R s m args below meth c H locs cells slots ls Z hO hE hR hS hc hs hl
  exact lv_iload_n hO.1 hO.2.1 d rfl (kget_at hl hg) (k G b p l e R s m args below meth c H locs cells slots ls Z hO hE hR hS hc hs hl)
theorem kw_iload {pc i : Nat} {x : Int32} (d : decode M.2.1 pc = .ok (.iload i, 2)) (hg : kget L i = some (.int x)) (k : kW X M dd Q rc rs n w (pc + 2) L (.int x :: st)) : kW X M dd Q rc rs n w pc L st := by
  intro G b p l e R s m args below meth c H locs cells slots ls Z hO hE hR hS hc hs hl
  exact lv_iload hO.1 hO.2.1 d (kget_at hl hg) (k G b p l e R s m args below meth c H locs cells slots ls Z hO hE hR hS hc hs hl)
theorem kw_lload_n {pc : Nat} {z : Fin 4} {x : Int64} (d : decode M.2.1 pc = .ok (.lload_n z, 1)) (hg : kget L z.val = some (.long x)) (k : kW X M dd Q rc rs n w (pc + 1) L (.long x :: st)) : kW X M dd Q rc rs n w pc L st := by
  intro G b p l e R s m args below meth c H locs cells slots ls Z hO hE hR hS hc hs hl
  exact lv_lload_n hO.1 hO.2.1 d rfl (kget_at hl hg) (k G b p l e R s m args below meth c H locs cells slots ls Z hO hE hR hS hc hs hl)
theorem kw_lload {pc i : Nat} {x : Int64} (d : decode M.2.1 pc = .ok (.lload i, 2)) (hg : kget L i = some (.long x)) (k : kW X M dd Q rc rs n w (pc + 2) L (.long x :: st)) : kW X M dd Q rc rs n w pc L st := by
  intro G b p l e R s m args below meth c H locs cells slots ls Z hO hE hR hS hc hs hl
  exact lv_lload hO.1 hO.2.1 d (kget_at hl hg) (k G b p l e R s m args below meth c H locs cells slots ls Z hO hE hR hS hc hs hl)
theorem kw_dload_n {pc : Nat} {z : Fin 4} {x : UInt64} (d : decode M.2.1 pc = .ok (.dload_n z, 1)) (hg : kget L z.val = some (.double x)) (k : kW X M dd Q rc rs n w (pc + 1) L (.double x :: st)) : kW X M dd Q rc rs n w pc L st := by
  intro G b p l e R s m args below meth c H locs cells slots ls Z hO hE hR hS hc hs hl
  exact lv_dload_n hO.1 hO.2.1 d rfl (kget_at hl hg) (k G b p l e R s m args below meth c H locs cells slots ls Z hO hE hR hS hc hs hl)
theorem kw_dload {pc i : Nat} {x : UInt64} (d : decode M.2.1 pc = .ok (.dload i, 2)) (hg : kget L i = some (.double x)) (k : kW X M dd Q rc rs n w (pc + 2) L (.double x :: st)) : kW X M dd Q rc rs n w pc L st := by
  intro G b p l e R s m args below meth c H locs cells slots ls Z hO hE hR hS hc hs hl
  exact lv_dload hO.1 hO.2.1 d (kget_at hl hg) (k G b p l e R s m args below meth c H locs cells slots ls Z hO hE hR hS hc hs hl)
theorem kw_aload_n {pc : Nat} {z : Fin 4} {x : Nat} (d : decode M.2.1 pc = .ok (.aload_n z, 1)) (hg : kget L z.val = some (.ref x)) (k : kW X M dd Q rc rs n w (pc + 1) L (.ref x :: st)) : kW X M dd Q rc rs n w pc L st := by
  intro G b p l e R s m args below meth c H locs cells slots ls Z hO hE hR hS hc hs hl
  exact lv_aload_n (x := b + x) hO.1 hO.2.1 d rfl (kget_at hl hg) (k G b p l e R s m args below meth c H locs cells slots ls Z hO hE hR hS hc hs hl)
theorem kw_aload {pc i : Nat} {x : Nat} (d : decode M.2.1 pc = .ok (.aload i, 2)) (hg : kget L i = some (.ref x)) (k : kW X M dd Q rc rs n w (pc + 2) L (.ref x :: st)) : kW X M dd Q rc rs n w pc L st := by
  intro G b p l e R s m args below meth c H locs cells slots ls Z hO hE hR hS hc hs hl
  exact lv_aload (x := b + x) hO.1 hO.2.1 d (kget_at hl hg) (k G b p l e R s m args below meth c H locs cells slots ls Z hO hE hR hS hc hs hl)
theorem kw_aload_nS {pc : Nat} {z : Fin 4} {x : Nat} (d : decode M.2.1 pc = .ok (.aload_n z, 1)) (hg : kget L z.val = some (.retAddr x)) (k : kW X M dd Q rc rs n w (pc + 1) L (.retAddr x :: st)) : kW X M dd Q rc rs n w pc L st := by
  intro G b p l e R s m args below meth c H locs cells slots ls Z hO hE hR hS hc hs hl
  exact lv_aload_n (x := G.2.2.1 x) hO.1 hO.2.1 d rfl (kget_at hl hg) (k G b p l e R s m args below meth c H locs cells slots ls Z hO hE hR hS hc hs hl)
theorem kw_aloadS {pc i : Nat} {x : Nat} (d : decode M.2.1 pc = .ok (.aload i, 2)) (hg : kget L i = some (.retAddr x)) (k : kW X M dd Q rc rs n w (pc + 2) L (.retAddr x :: st)) : kW X M dd Q rc rs n w pc L st := by
  intro G b p l e R s m args below meth c H locs cells slots ls Z hO hE hR hS hc hs hl
  exact lv_aload (x := G.2.2.1 x) hO.1 hO.2.1 d (kget_at hl hg) (k G b p l e R s m args below meth c H locs cells slots ls Z hO hE hR hS hc hs hl)
theorem kw_istore_n {pc : Nat} {z : Fin 4} {x : Int32} (d : decode M.2.1 pc = .ok (.istore_n z, 1)) (hn : z.val < M.2.2.1) (hk : kok L z.val = true) (k : kW X M dd Q rc rs n w (pc + 1) (kset L z.val (.int x)) st) : kW X M dd Q rc rs n w pc L (.int x :: st) := by
  intro G b p l e R s m args below meth c H locs cells slots ls Z hO hE hR hS hc hs hl
  exact lv_istore_n hO.1 hO.2.1 d rfl hl hn rfl (fun ls' hl' => k G b p l e R s m args below meth c H locs cells slots ls' Z hO hE hR hS hc hs (lv_mono hl' (kset_in hk)))
theorem kw_istore {pc i : Nat} {x : Int32} (d : decode M.2.1 pc = .ok (.istore i, 2)) (hn : i < M.2.2.1) (hk : kok L i = true) (k : kW X M dd Q rc rs n w (pc + 2) (kset L i (.int x)) st) : kW X M dd Q rc rs n w pc L (.int x :: st) := by
  intro G b p l e R s m args below meth c H locs cells slots ls Z hO hE hR hS hc hs hl
  exact lv_istore hO.1 hO.2.1 d hl hn rfl (fun ls' hl' => k G b p l e R s m args below meth c H locs cells slots ls' Z hO hE hR hS hc hs (lv_mono hl' (kset_in hk)))
theorem kw_astore_n {pc : Nat} {z : Fin 4} {x : Nat} (d : decode M.2.1 pc = .ok (.astore_n z, 1)) (hn : z.val < M.2.2.1) (hk : kok L z.val = true) (k : kW X M dd Q rc rs n w (pc + 1) (kset L z.val (.ref x)) st) : kW X M dd Q rc rs n w pc L (.ref x :: st) := by
  intro G b p l e R s m args below meth c H locs cells slots ls Z hO hE hR hS hc hs hl
  exact lv_astore_n (x := b + x) hO.1 hO.2.1 d rfl hl hn rfl (fun ls' hl' => k G b p l e R s m args below meth c H locs cells slots ls' Z hO hE hR hS hc hs (lv_mono hl' (kset_in hk)))
theorem kw_astore {pc i : Nat} {x : Nat} (d : decode M.2.1 pc = .ok (.astore i, 2)) (hn : i < M.2.2.1) (hk : kok L i = true) (k : kW X M dd Q rc rs n w (pc + 2) (kset L i (.ref x)) st) : kW X M dd Q rc rs n w pc L (.ref x :: st) := by
  intro G b p l e R s m args below meth c H locs cells slots ls Z hO hE hR hS hc hs hl
  exact lv_astore (x := b + x) hO.1 hO.2.1 d hl hn rfl (fun ls' hl' => k G b p l e R s m args below meth c H locs cells slots ls' Z hO hE hR hS hc hs (lv_mono hl' (kset_in hk)))
theorem kw_lstore_n {pc : Nat} {z : Fin 4} {x : Int64} (d : decode M.2.1 pc = .ok (.lstore_n z, 1)) (hn : z.val + 1 < M.2.2.1) (hk : kok L z.val = true) (k : kW X M dd Q rc rs n w (pc + 1) (kset2 L z.val (.long x)) st) : kW X M dd Q rc rs n w pc L (.long x :: st) := by
  intro G b p l e R s m args below meth c H locs cells slots ls Z hO hE hR hS hc hs hl
  exact lv_lstore_n hO.1 hO.2.1 d rfl hl hn rfl (fun ls' hl' => k G b p l e R s m args below meth c H locs cells slots ls' Z hO hE hR hS hc hs (lv_mono hl' (kset2_in hk)))
theorem kw_lstore {pc i : Nat} {x : Int64} (d : decode M.2.1 pc = .ok (.lstore i, 2)) (hn : i + 1 < M.2.2.1) (hk : kok L i = true) (k : kW X M dd Q rc rs n w (pc + 2) (kset2 L i (.long x)) st) : kW X M dd Q rc rs n w pc L (.long x :: st) := by
  intro G b p l e R s m args below meth c H locs cells slots ls Z hO hE hR hS hc hs hl
  exact lv_lstore hO.1 hO.2.1 d hl hn rfl (fun ls' hl' => k G b p l e R s m args below meth c H locs cells slots ls' Z hO hE hR hS hc hs (lv_mono hl' (kset2_in hk)))
theorem kw_dstore_n {pc : Nat} {z : Fin 4} {x : UInt64} (d : decode M.2.1 pc = .ok (.dstore_n z, 1)) (hn : z.val + 1 < M.2.2.1) (hk : kok L z.val = true) (k : kW X M dd Q rc rs n w (pc + 1) (kset2 L z.val (.double x)) st) : kW X M dd Q rc rs n w pc L (.double x :: st) := by
  intro G b p l e R s m args below meth c H locs cells slots ls Z hO hE hR hS hc hs hl
  exact lv_dstore_n hO.1 hO.2.1 d rfl hl hn rfl (fun ls' hl' => k G b p l e R s m args below meth c H locs cells slots ls' Z hO hE hR hS hc hs (lv_mono hl' (kset2_in hk)))
theorem kw_dstore {pc i : Nat} {x : UInt64} (d : decode M.2.1 pc = .ok (.dstore i, 2)) (hn : i + 1 < M.2.2.1) (hk : kok L i = true) (k : kW X M dd Q rc rs n w (pc + 2) (kset2 L i (.double x)) st) : kW X M dd Q rc rs n w pc L (.double x :: st) := by
  intro G b p l e R s m args below meth c H locs cells slots ls Z hO hE hR hS hc hs hl
  exact lv_dstore hO.1 hO.2.1 d hl hn rfl (fun ls' hl' => k G b p l e R s m args below meth c H locs cells slots ls' Z hO hE hR hS hc hs (lv_mono hl' (kset2_in hk)))
theorem kw_iinc {pc i : Nat} {z : Int} {x v : Int32} (d : decode M.2.1 pc = .ok (.iinc i z, 3)) (hn : i < M.2.2.1) (hk : kok L i = true) (hg : kget L i = some (.int x)) (hv : x + Int32.ofInt z = v) (k : kW X M dd Q rc rs n w (pc + 3) (kset L i (.int v)) st) : kW X M dd Q rc rs n w pc L st := by
  intro G b p l e R s m args below meth c H locs cells slots ls Z hO hE hR hS hc hs hl
  obtain ⟨kp, hkp⟩ := List.getElem?_of_mem (List.mem_map.mpr ⟨(i, Value.int x), kget_mem hg, rfl⟩ : (i, Value.int x) ∈ L.map fun q => (q.1, kcv G b q.2))
  exact lv_iinc hO.1 hO.2.1 d hl hkp hv hn rfl (fun ls' hl' => k G b p l e R s m args below meth c H locs cells slots ls' Z hO hE hR hS hc hs (lv_mono hl' (kset_in hk)))
theorem kw_if_eq {pc tgt : Nat} {x : Int32} {off : Int} (d : decode M.2.1 pc = .ok (.ifCond .eq off, 3)) (ht : (pc : Int) + off = (tgt : Int)) (kt : x = 0 → kW X M dd Q rc rs n w tgt L st) (kf : ¬ x = 0 → kW X M dd Q rc rs n w (pc + 3) L st) : kW X M dd Q rc rs n w pc L (.int x :: st) := by
  intro G b p l e R s m args below meth c H locs cells slots ls Z hO hE hR hS hc hs hl
  exact lv_if_eq hO.1 hO.2.1 d ht (fun h => kt h G b p l e R s m args below meth c H locs cells slots ls Z hO hE hR hS hc hs hl) (fun h => kf h G b p l e R s m args below meth c H locs cells slots ls Z hO hE hR hS hc hs hl)
theorem kw_icmp_eq {pc tgt : Nat} {x y : Int32} {off : Int} (d : decode M.2.1 pc = .ok (.if_icmp .eq off, 3)) (ht : (pc : Int) + off = (tgt : Int)) (kt : x = y → kW X M dd Q rc rs n w tgt L st) (kf : ¬ x = y → kW X M dd Q rc rs n w (pc + 3) L st) : kW X M dd Q rc rs n w pc L (.int y :: .int x :: st) := by
  intro G b p l e R s m args below meth c H locs cells slots ls Z hO hE hR hS hc hs hl
  exact lv_icmp_eq hO.1 hO.2.1 d ht (fun h => kt h G b p l e R s m args below meth c H locs cells slots ls Z hO hE hR hS hc hs hl) (fun h => kf h G b p l e R s m args below meth c H locs cells slots ls Z hO hE hR hS hc hs hl)
theorem kw_if_ne {pc tgt : Nat} {x : Int32} {off : Int} (d : decode M.2.1 pc = .ok (.ifCond .ne off, 3)) (ht : (pc : Int) + off = (tgt : Int)) (kt : ¬ x = 0 → kW X M dd Q rc rs n w tgt L st) (kf : x = 0 → kW X M dd Q rc rs n w (pc + 3) L st) : kW X M dd Q rc rs n w pc L (.int x :: st) := by
  intro G b p l e R s m args below meth c H locs cells slots ls Z hO hE hR hS hc hs hl
  exact lv_if_ne hO.1 hO.2.1 d ht (fun h => kt h G b p l e R s m args below meth c H locs cells slots ls Z hO hE hR hS hc hs hl) (fun h => kf h G b p l e R s m args below meth c H locs cells slots ls Z hO hE hR hS hc hs hl)
theorem kw_icmp_ne {pc tgt : Nat} {x y : Int32} {off : Int} (d : decode M.2.1 pc = .ok (.if_icmp .ne off, 3)) (ht : (pc : Int) + off = (tgt : Int)) (kt : ¬ x = y → kW X M dd Q rc rs n w tgt L st) (kf : x = y → kW X M dd Q rc rs n w (pc + 3) L st) : kW X M dd Q rc rs n w pc L (.int y :: .int x :: st) := by
  intro G b p l e R s m args below meth c H locs cells slots ls Z hO hE hR hS hc hs hl
  exact lv_icmp_ne hO.1 hO.2.1 d ht (fun h => kt h G b p l e R s m args below meth c H locs cells slots ls Z hO hE hR hS hc hs hl) (fun h => kf h G b p l e R s m args below meth c H locs cells slots ls Z hO hE hR hS hc hs hl)
theorem kw_if_lt {pc tgt : Nat} {x : Int32} {off : Int} (d : decode M.2.1 pc = .ok (.ifCond .lt off, 3)) (ht : (pc : Int) + off = (tgt : Int)) (kt : x < 0 → kW X M dd Q rc rs n w tgt L st) (kf : ¬ x < 0 → kW X M dd Q rc rs n w (pc + 3) L st) : kW X M dd Q rc rs n w pc L (.int x :: st) := by
  intro G b p l e R s m args below meth c H locs cells slots ls Z hO hE hR hS hc hs hl
  exact lv_if_lt hO.1 hO.2.1 d ht (fun h => kt h G b p l e R s m args below meth c H locs cells slots ls Z hO hE hR hS hc hs hl) (fun h => kf h G b p l e R s m args below meth c H locs cells slots ls Z hO hE hR hS hc hs hl)
theorem kw_icmp_lt {pc tgt : Nat} {x y : Int32} {off : Int} (d : decode M.2.1 pc = .ok (.if_icmp .lt off, 3)) (ht : (pc : Int) + off = (tgt : Int)) (kt : x < y → kW X M dd Q rc rs n w tgt L st) (kf : ¬ x < y → kW X M dd Q rc rs n w (pc + 3) L st) : kW X M dd Q rc rs n w pc L (.int y :: .int x :: st) := by
  intro G b p l e R s m args below meth c H locs cells slots ls Z hO hE hR hS hc hs hl
  exact lv_icmp_lt hO.1 hO.2.1 d ht (fun h => kt h G b p l e R s m args below meth c H locs cells slots ls Z hO hE hR hS hc hs hl) (fun h => kf h G b p l e R s m args below meth c H locs cells slots ls Z hO hE hR hS hc hs hl)
theorem kw_if_ge {pc tgt : Nat} {x : Int32} {off : Int} (d : decode M.2.1 pc = .ok (.ifCond .ge off, 3)) (ht : (pc : Int) + off = (tgt : Int)) (kt : 0 ≤ x → kW X M dd Q rc rs n w tgt L st) (kf : ¬ 0 ≤ x → kW X M dd Q rc rs n w (pc + 3) L st) : kW X M dd Q rc rs n w pc L (.int x :: st) := by
  intro G b p l e R s m args below meth c H locs cells slots ls Z hO hE hR hS hc hs hl
  exact lv_if_ge hO.1 hO.2.1 d ht (fun h => kt h G b p l e R s m args below meth c H locs cells slots ls Z hO hE hR hS hc hs hl) (fun h => kf h G b p l e R s m args below meth c H locs cells slots ls Z hO hE hR hS hc hs hl)
theorem kw_icmp_ge {pc tgt : Nat} {x y : Int32} {off : Int} (d : decode M.2.1 pc = .ok (.if_icmp .ge off, 3)) (ht : (pc : Int) + off = (tgt : Int)) (kt : y ≤ x → kW X M dd Q rc rs n w tgt L st) (kf : ¬ y ≤ x → kW X M dd Q rc rs n w (pc + 3) L st) : kW X M dd Q rc rs n w pc L (.int y :: .int x :: st) := by
  intro G b p l e R s m args below meth c H locs cells slots ls Z hO hE hR hS hc hs hl
  exact lv_icmp_ge hO.1 hO.2.1 d ht (fun h => kt h G b p l e R s m args below meth c H locs cells slots ls Z hO hE hR hS hc hs hl) (fun h => kf h G b p l e R s m args below meth c H locs cells slots ls Z hO hE hR hS hc hs hl)
theorem kw_if_gt {pc tgt : Nat} {x : Int32} {off : Int} (d : decode M.2.1 pc = .ok (.ifCond .gt off, 3)) (ht : (pc : Int) + off = (tgt : Int)) (kt : 0 < x → kW X M dd Q rc rs n w tgt L st) (kf : ¬ 0 < x → kW X M dd Q rc rs n w (pc + 3) L st) : kW X M dd Q rc rs n w pc L (.int x :: st) := by
  intro G b p l e R s m args below meth c H locs cells slots ls Z hO hE hR hS hc hs hl
  exact lv_if_gt hO.1 hO.2.1 d ht (fun h => kt h G b p l e R s m args below meth c H locs cells slots ls Z hO hE hR hS hc hs hl) (fun h => kf h G b p l e R s m args below meth c H locs cells slots ls Z hO hE hR hS hc hs hl)
theorem kw_icmp_gt {pc tgt : Nat} {x y : Int32} {off : Int} (d : decode M.2.1 pc = .ok (.if_icmp .gt off, 3)) (ht : (pc : Int) + off = (tgt : Int)) (kt : y < x → kW X M dd Q rc rs n w tgt L st) (kf : ¬ y < x → kW X M dd Q rc rs n w (pc + 3) L st) : kW X M dd Q rc rs n w pc L (.int y :: .int x :: st) := by
  intro G b p l e R s m args below meth c H locs cells slots ls Z hO hE hR hS hc hs hl
  exact lv_icmp_gt hO.1 hO.2.1 d ht (fun h => kt h G b p l e R s m args below meth c H locs cells slots ls Z hO hE hR hS hc hs hl) (fun h => kf h G b p l e R s m args below meth c H locs cells slots ls Z hO hE hR hS hc hs hl)
theorem kw_if_le {pc tgt : Nat} {x : Int32} {off : Int} (d : decode M.2.1 pc = .ok (.ifCond .le off, 3)) (ht : (pc : Int) + off = (tgt : Int)) (kt : x ≤ 0 → kW X M dd Q rc rs n w tgt L st) (kf : ¬ x ≤ 0 → kW X M dd Q rc rs n w (pc + 3) L st) : kW X M dd Q rc rs n w pc L (.int x :: st) := by
  intro G b p l e R s m args below meth c H locs cells slots ls Z hO hE hR hS hc hs hl
  exact lv_if_le hO.1 hO.2.1 d ht (fun h => kt h G b p l e R s m args below meth c H locs cells slots ls Z hO hE hR hS hc hs hl) (fun h => kf h G b p l e R s m args below meth c H locs cells slots ls Z hO hE hR hS hc hs hl)
theorem kw_icmp_le {pc tgt : Nat} {x y : Int32} {off : Int} (d : decode M.2.1 pc = .ok (.if_icmp .le off, 3)) (ht : (pc : Int) + off = (tgt : Int)) (kt : x ≤ y → kW X M dd Q rc rs n w tgt L st) (kf : ¬ x ≤ y → kW X M dd Q rc rs n w (pc + 3) L st) : kW X M dd Q rc rs n w pc L (.int y :: .int x :: st) := by
  intro G b p l e R s m args below meth c H locs cells slots ls Z hO hE hR hS hc hs hl
  exact lv_icmp_le hO.1 hO.2.1 d ht (fun h => kt h G b p l e R s m args below meth c H locs cells slots ls Z hO hE hR hS hc hs hl) (fun h => kf h G b p l e R s m args below meth c H locs cells slots ls Z hO hE hR hS hc hs hl)
theorem kw_goto {pc tgt : Nat} {off : Int} (d : decode M.2.1 pc = .ok (.goto off, 3)) (ht : (pc : Int) + off = (tgt : Int)) (k : kW X M dd Q rc rs n w tgt L st) : kW X M dd Q rc rs n w pc L st := by
  intro G b p l e R s m args below meth c H locs cells slots ls Z hO hE hR hS hc hs hl
  exact lv_goto hO.1 hO.2.1 d ht (k G b p l e R s m args below meth c H locs cells slots ls Z hO hE hR hS hc hs hl)
theorem kw_tableOut {pc tgt len : Nat} {dflt lo hi : Int} {offs : Array Int} {x : Int32} (d : decode M.2.1 pc = .ok (.tableswitch dflt lo hi offs, len)) (h : x.toInt < lo ∨ hi < x.toInt) (ht : (pc : Int) + dflt = (tgt : Int)) (k : kW X M dd Q rc rs n w tgt L st) : kW X M dd Q rc rs n w pc L (.int x :: st) := by
  intro G b p l e R s m args below meth c H locs cells slots ls Z hO hE hR hS hc hs hl
  exact lv_tableOut hO.1 hO.2.1 d h ht (k G b p l e R s m args below meth c H locs cells slots ls Z hO hE hR hS hc hs hl)
theorem kw_tableIn {pc tgt len : Nat} {dflt lo hi off : Int} {offs : Array Int} {x : Int32} (d : decode M.2.1 pc = .ok (.tableswitch dflt lo hi offs, len)) (h1 : ¬ x.toInt < lo) (h2 : ¬ hi < x.toInt) (ho : offs[(x.toInt - lo).toNat]? = some off) (ht : (pc : Int) + off = (tgt : Int)) (k : kW X M dd Q rc rs n w tgt L st) : kW X M dd Q rc rs n w pc L (.int x :: st) := by
  intro G b p l e R s m args below meth c H locs cells slots ls Z hO hE hR hS hc hs hl
  exact lv_tableIn hO.1 hO.2.1 d h1 h2 ho ht (k G b p l e R s m args below meth c H locs cells slots ls Z hO hE hR hS hc hs hl)
theorem kw_lookup {pc tgt len : Nat} {dflt off : Int} {ps : Array (Int × Int)} {x : Int32} (d : decode M.2.1 pc = .ok (.lookupswitch dflt ps, len)) (hp : (ps.toList.zip (ps.toList.drop 1)).all (fun (a, next) => a.1 < next.1) = true) (ho : Op.lookupswitch.offset ps.toList dflt x.toInt = off) (ht : (pc : Int) + off = (tgt : Int)) (k : kW X M dd Q rc rs n w tgt L st) : kW X M dd Q rc rs n w pc L (.int x :: st) := by
  intro G b p l e R s m args below meth c H locs cells slots ls Z hO hE hR hS hc hs hl
  exact lv_lookup hO.1 hO.2.1 d hp ho ht (k G b p l e R s m args below meth c H locs cells slots ls Z hO hE hR hS hc hs hl)
end KR
end
section
section KMEM
variable {X : Nat × (Nat → Int32)} {M : kMi} {dd : Nat} {Q : kQ} {rc rs n : Nat} {w : kM} {L : List (Nat × Value)} {st : List Value}
def kuF (F : Nat → Value) (k : Nat) (v : Value) : Nat → Value := fun j => if j = k then v else F j
def kuf (f : Nat → Int32) (k : Nat) (v : Int32) : Nat → Int32 := fun j => if j = k then v else f j
theorem kcv_uF (G : kG) (b : Nat) (F : Nat → Value) (k : Nat) (v : Value) : (fun j => kcv G b (kuF F k v j)) = updV (fun j => kcv G b (F j)) k (kcv G b v) := by
  funext j
  unfold kuF updV
  by_cases h : j = k <;> simp [h]
theorem kint_uf (f : Nat → Int32) (k : Nat) (v : Int32) : (fun j => Value.int (kuf f k v j)) = updV (fun j => Value.int (f j)) k (.int v) := by
  funext j
  unfold kuf updV
  by_cases h : j = k <;> simp [h]
/-- what the tables say of a field of the class ci, read or written by own's code at idx -/
def kFl (own : String) (idx ci k : Nat) (fin : Bool) (ty : FieldType) : Prop := ∃ r : vw_C, kcl[ci]? = some r ∧ k < r.2.2 ∧ Cond.fieldLink own idx (r.2.1 k).1 (r.2.1 k).2.1 (r.2.1 k).2.2.1 ∈ kTb ∧ (r.2.1 k).2.2.2 = fin ∧ (r.2.1 k).1 = r.1 ∧ parseFieldDescriptor (r.2.1 k).2.2.1 = some ty
def kFW : Prop := ∀ (ci : Nat) (r : vw_C), kcl[ci]? = some r → (∀ w ∈ u_ws r.1 r.2.1 r.2.2, w ∈ kTb) ∧ (∀ a, a < r.2.2 → ∀ b, b < r.2.2 → a ≠ b → (r.2.1 a).2.1 ≠ (r.2.1 b).2.1) ∧ ∃ ty0 : Nat → FieldType, ∀ k, k < r.2.2 → parseFieldDescriptor (r.2.1 k).2.2.1 = some (ty0 k)
theorem kw_getfield {pc idx o ci k : Nat} {fin : Bool} {ty : FieldType} {F : Nat → Value} {v : Value} (hFW : kFW) (d : decode M.2.1 pc = .ok (.getfield idx, 3)) (hf : kFl M.1.cls idx ci k fin ty) (h : w o = kO ci F) (hv : F k = v) (kk : kW X M dd Q rc rs n w (pc + 3) L (v :: st)) : kW X M dd Q rc rs n w pc L (.ref o :: st) := by
  intro G b p l e R s m args below meth c H locs cells slots ls Z hO hE hR hS hc hs hl
  obtain ⟨r, hr1, hk, hlink, -, -, -⟩ := hf
  have hts := hO.2.2.2.2.1
  have hK := hO.2.2.2.2.2.2.2.2.2.1
  have hA := hR.2.2 o
  rw [h] at hA
  obtain ⟨r', h1, cell, q1, q2, q3, q4⟩ := hA
  cases hr1.symm.trans h1
  obtain ⟨hSl, hfc, kC', hkC, hkind⟩ := hK.1 ci _ hr1
  obtain ⟨cf, kf, fi, f, hi, hsl⟩ := hSl k hk
  refine W.getf hO.1 hO.2.1 hO.2.2.2.1 (hts _ (List.mem_cons_of_mem _ hlink)) hi (u_facts hfc hkC (u_lays hts (fun z hz => List.mem_cons_of_mem _ ((hFW ci r hr1).1 z hz)) hk) hi).1 q1 (by rw [q3]; exact fun h => by cases h) (v := kcv G b v) ?_ rfl rfl d (kk G b p l e R s m args below meth c H locs cells slots ls Z hO hE hR hS hc hs hl)
  rw [hsl]
  exact (q4 k hk).trans (by show some (kcv G b (F k)) = _; rw [hv])
theorem kw_putfield {pc idx o ci k : Nat} {ty : FieldType} {F : Nat → Value} {v : Value} (hFW : kFW) (d : decode M.2.1 pc = .ok (.putfield idx, 3)) (hf : kFl M.1.cls idx ci k false ty) (h : w o = kO ci F) (hn : ∀ G b, narrow ty (kcv G b v) = kcv G b v) (hfit : ∀ G b, fits ty (kcv G b v) = true) (kk : kW X M dd Q rc rs n (kup w o (kO ci (kuF F k v))) (pc + 3) L st) : kW X M dd Q rc rs n w pc L (v :: .ref o :: st) := by
  intro G b p l e R s m args below meth c H locs cells slots ls Z hO hE hR hS hc hs hl
  obtain ⟨r, hr1, hk, hlink, hfin, -, hd⟩ := hf
  have hts := hO.2.2.2.2.1
  have hK := hO.2.2.2.2.2.2.2.2.2.1
  obtain ⟨hin0, hnm, ty0, hty⟩ := hFW ci r hr1
  have hin : ∀ z ∈ u_ws r.1 r.2.1 r.2.2, z ∈ kws M := fun z hz => List.mem_cons_of_mem _ (hin0 z hz)
  have hlt : o < n := hR.lt (by rw [h]; intro q; cases q)
  have hA := hR.2.2 o
  rw [h] at hA
  obtain ⟨r', h1, cell, q1, q2, q3, q4⟩ := hA
  cases hr1.symm.trans h1
  have hap : ∀ x y, x < r.2.2 → y < r.2.2 → x ≠ y → (G.1.2 ci) x ≠ (G.1.2 ci) y := by
    intro x y hx hy hne
    obtain ⟨hS0, -⟩ := hK.1 ci _ hr1
    obtain ⟨_, _, _, fa, hia, ea⟩ := hS0 x hx
    obtain ⟨_, _, _, fb, hib, eb⟩ := hS0 y hy
    rw [← ea, ← eb]
    refine u_apart (u_lays hts hin hx) (u_lays hts hin hy) hia hib ?_
    rw [(State.fieldFound?_type hia (hty x hx)).1, (State.fieldFound?_type hib (hty y hy)).1]
    exact hnm x hx y hy hne
  obtain ⟨hSl, hfc, kC', hkC, hkind⟩ := hK.1 ci _ hr1
  obtain ⟨cf, kf, fi, f, hi, hsl⟩ := hSl k hk
  have hlay := hts _ (hin _ (u_in_lay hk))
  unfold u_lay at hlay
  rw [if_neg (by rw [hfin]; decide)] at hlay
  have hst := (u_facts hfc hkC (u_lays hts hin hk) hi).1
  have h6 := u_store hfc hkC hkind hlay hi hd (hn G b) (hfit G b)
  refine W.putK hO.1 hO.2.1 (f := f) ⟨hO.2.2.2.1, hts _ (List.mem_cons_of_mem _ hlink), ⟨_, _, _, hi⟩, hst⟩ (by rw [q2]; exact h6) q1 q3 (by rw [hsl]; exact k2_hasslot (q4 k hk)) rfl rfl d fun H' e1 e2 e3 => ?_
  rw [hsl] at e1 ⊢
  refine kk G b p l e R s m args below meth c H' _ cells slots ls Z hO hE (hR.put hlt ⟨r, hr1, ?_⟩ e2 e3) (hS.put e2 e3 (Nat.le_add_right _ _)) hc hs hl
  show t_OB (b + o) (G.1.1 ci) r.2.2 (G.1.2 ci) H' (fun j => kcv G b (kuF F k v j))
  rw [kcv_uF]
  exact ⟨_, e1, q2, q3, t_set q4 hap hk _⟩
theorem kw_putfieldF {pc idx o ci k : Nat} {ty : FieldType} {F : Nat → Value} {v : Value} (hFW : kFW) (d : decode M.2.1 pc = .ok (.putfield idx, 3)) (hf : kFl M.1.cls idx ci k true ty) (hini : M.1.name = "<init>") (hdecl : (kcl[ci]?).map (fun r => r.1) = some M.1.cls) (h : w o = kO ci F) (hn : ∀ G b, narrow ty (kcv G b v) = kcv G b v) (hfit : ∀ G b, fits ty (kcv G b v) = true) (kk : kW X M dd Q rc rs n (kup w o (kO ci (kuF F k v))) (pc + 3) L st) : kW X M dd Q rc rs n w pc L (v :: .ref o :: st) := by
  intro G b p l e R s m args below meth c H locs cells slots ls Z hO hE hR hS hc hs hl
  obtain ⟨r, hr1, hk, hlink, hfin, hown1, hd⟩ := hf
  rw [hr1] at hdecl
  have hdecl : r.1 = M.1.cls := Option.some.inj hdecl
  have hts := hO.2.2.2.2.1
  have hown := hO.2.2.2.1
  have hK := hO.2.2.2.2.2.2.2.2.2.1
  obtain ⟨hin0, hnm, ty0, hty⟩ := hFW ci r hr1
  have hin : ∀ z ∈ u_ws r.1 r.2.1 r.2.2, z ∈ kws M := fun z hz => List.mem_cons_of_mem _ (hin0 z hz)
  have hlt : o < n := hR.lt (by rw [h]; intro q; cases q)
  have hA := hR.2.2 o
  rw [h] at hA
  obtain ⟨r', h1, cell, q1, q2, q3, q4⟩ := hA
  cases hr1.symm.trans h1
  have hap : ∀ x y, x < r.2.2 → y < r.2.2 → x ≠ y → (G.1.2 ci) x ≠ (G.1.2 ci) y := by
    intro x y hx hy hne
    obtain ⟨hS0, -⟩ := hK.1 ci _ hr1
    obtain ⟨_, _, _, fa, hia, ea⟩ := hS0 x hx
    obtain ⟨_, _, _, fb, hib, eb⟩ := hS0 y hy
    rw [← ea, ← eb]
    refine u_apart (u_lays hts hin hx) (u_lays hts hin hy) hia hib ?_
    rw [(State.fieldFound?_type hia (hty x hx)).1, (State.fieldFound?_type hib (hty y hy)).1]
    exact hnm x hx y hy hne
  obtain ⟨hSl, hfc, kC', hkC, hkind⟩ := hK.1 ci _ hr1
  obtain ⟨cf, kf, fi, f, hi, hsl⟩ := hSl k hk
  have hlay := hts _ (hin _ (u_in_lay hk))
  unfold u_lay at hlay
  rw [if_pos hfin] at hlay
  have hst := (u_facts hfc hkC (u_lays hts hin hk) hi).1
  have hcf : m.cls = cf := by
    obtain ⟨_, _, c', _, _, _, -, -, hf', -, -, -, hown2, -⟩ := Cond.laysFinal_spec hlay
    have e1 : c' = cf := by have := hi.symm.trans hf'; simp at this; exact this.1.symm
    rw [hown1, hdecl] at hown2
    rw [← e1]; exact Option.some.inj (hown.symm.trans hown2)
  have h6 := u_fits hfc hkC hkind (Or.inr hlay) hi hd (hn G b) (hfit G b)
  refine W.putFinK hO.1 hO.2.1 hown (hts _ (List.mem_cons_of_mem _ hlink)) hi hst hcf (hO.2.2.2.2.2.2.2.1.trans hini) (by rw [q2]; exact h6) q1 q3 (by rw [hsl]; exact k2_hasslot (q4 k hk)) rfl rfl d fun H' e1 e2 e3 => ?_
  rw [hsl] at e1 ⊢
  refine kk G b p l e R s m args below meth c H' _ cells slots ls Z hO hE (hR.put hlt ⟨r, hr1, ?_⟩ e2 e3) (hS.put e2 e3 (Nat.le_add_right _ _)) hc hs hl
  show t_OB (b + o) (G.1.1 ci) r.2.2 (G.1.2 ci) H' (fun j => kcv G b (kuF F k v j))
  rw [kcv_uF]
  exact ⟨_, e1, q2, q3, t_set q4 hap hk _⟩
theorem kw_iaload {pc a N : Nat} {f : Nat → Int32} {j : Int32} (d : decode M.2.1 pc = .ok (.iaload, 1)) (h : w a = kI 0 N f) (hin : vp_in j N) (kk : kW X M dd Q rc rs n w (pc + 1) L (.int (f j.toNatClampNeg) :: st)) : kW X M dd Q rc rs n w pc L (.int j :: .ref a :: st) := by
  intro G b p l e R s m args below meth c H locs cells slots ls Z hO hE hR hS hc hs hl
  have hK := hO.2.2.2.2.2.2.2.2.2.1
  have hlt : j.toNatClampNeg < N := Nat.not_le.mp fun q => hin (Or.inr q)
  have hA := hR.2.2 a
  rw [h] at hA
  exact W.iald (v := .int (f j.toNatClampNeg)) hO.1 hO.2.1 hA.2 ((hK.2.1 0 (by decide)).1 N (fun j => .int (f j))) (fun q => by cases q) (by show ¬ (j < 0 ∨ (arrV _ _ _).slots.size ≤ _); rw [arrV_size]; exact hin) (by show (arrV _ _ _).slots[_]? = _; rw [arrV_read _ _ hlt]) rfl rfl d (kk G b p l e R s m args below meth c H locs cells slots ls Z hO hE hR hS hc hs hl)
theorem kw_zaload {pc a N : Nat} {f : Nat → Int32} {j : Int32} (d : decode M.2.1 pc = .ok (.baload, 1)) (h : w a = kI 1 N f) (hin : vp_in j N) (kk : kW X M dd Q rc rs n w (pc + 1) L (.int (f j.toNatClampNeg) :: st)) : kW X M dd Q rc rs n w pc L (.int j :: .ref a :: st) := by
  intro G b p l e R s m args below meth c H locs cells slots ls Z hO hE hR hS hc hs hl
  have hK := hO.2.2.2.2.2.2.2.2.2.1
  have hlt : j.toNatClampNeg < N := Nat.not_le.mp fun q => hin (Or.inr q)
  have hA := hR.2.2 a
  rw [h] at hA
  exact W.zald (v := .int (f j.toNatClampNeg)) hO.1 hO.2.1 hA.2 ((hK.2.1 1 (by decide)).1 N (fun j => .int (f j))) (fun q => by cases q) (by show ¬ (j < 0 ∨ (arrV _ _ _).slots.size ≤ _); rw [arrV_size]; exact hin) (by show (arrV _ _ _).slots[_]? = _; rw [arrV_read _ _ hlt]) rfl rfl d (kk G b p l e R s m args below meth c H locs cells slots ls Z hO hE hR hS hc hs hl)
theorem kw_caload {pc a N : Nat} {f : Nat → Int32} {j : Int32} (d : decode M.2.1 pc = .ok (.caload, 1)) (h : w a = kI 2 N f) (hin : vp_in j N) (kk : kW X M dd Q rc rs n w (pc + 1) L (.int (f j.toNatClampNeg) :: st)) : kW X M dd Q rc rs n w pc L (.int j :: .ref a :: st) := by
  intro G b p l e R s m args below meth c H locs cells slots ls Z hO hE hR hS hc hs hl
  have hK := hO.2.2.2.2.2.2.2.2.2.1
  have hlt : j.toNatClampNeg < N := Nat.not_le.mp fun q => hin (Or.inr q)
  have hA := hR.2.2 a
  rw [h] at hA
  exact W.cald (v := .int (f j.toNatClampNeg)) hO.1 hO.2.1 hA.2 ((hK.2.1 2 (by decide)).1 N (fun j => .int (f j))) (fun q => by cases q) (by show ¬ (j < 0 ∨ (arrV _ _ _).slots.size ≤ _); rw [arrV_size]; exact hin) (by show (arrV _ _ _).slots[_]? = _; rw [arrV_read _ _ hlt]) rfl rfl d (kk G b p l e R s m args below meth c H locs cells slots ls Z hO hE hR hS hc hs hl)
theorem kw_iastore {pc a N : Nat} {f : Nat → Int32} {j x : Int32} (d : decode M.2.1 pc = .ok (.iastore, 1)) (h : w a = kI 0 N f) (hin : vp_in j N) (kk : kW X M dd Q rc rs n (kup w a (kI 0 N (kuf f j.toNatClampNeg x))) (pc + 1) L st) : kW X M dd Q rc rs n w pc L (.int x :: .int j :: .ref a :: st) := by
  intro G b p l e R s m args below meth c H locs cells slots ls Z hO hE hR hS hc hs hl
  have hK := hO.2.2.2.2.2.2.2.2.2.1
  have hlt : j.toNatClampNeg < N := Nat.not_le.mp fun q => hin (Or.inr q)
  have hal : a < n := hR.lt (by rw [h]; intro q; cases q)
  have hA := hR.2.2 a
  rw [h] at hA
  refine W.iast (x := x) hO.1 hO.2.1 hA.2 ((hK.2.1 0 (by decide)).1 N (fun j => .int (f j))) (fun q => by cases q) (by show ¬ (j < 0 ∨ (arrV _ _ _).slots.size ≤ _); rw [arrV_size]; exact hin) rfl rfl d fun H' e1 e2 e3 => ?_
  refine kk G b p l e R s m args below meth c H' _ cells slots ls Z hO hE (hR.put hal ⟨hA.1, ?_⟩ e2 e3) (hS.put e2 e3 (Nat.le_add_right _ _)) hc hs hl
  rw [e1]
  skip
  show some ((arrV _ _ _).setSlot _ _) = some (arrV _ _ _)
  rw [arrV_store, kint_uf]
theorem kw_zastore {pc a N : Nat} {f : Nat → Int32} {j x : Int32} (d : decode M.2.1 pc = .ok (.bastore, 1)) (h : w a = kI 1 N f) (hin : vp_in j N) (hz : narrow .boolean (.int x) = .int x) (kk : kW X M dd Q rc rs n (kup w a (kI 1 N (kuf f j.toNatClampNeg x))) (pc + 1) L st) : kW X M dd Q rc rs n w pc L (.int x :: .int j :: .ref a :: st) := by
  intro G b p l e R s m args below meth c H locs cells slots ls Z hO hE hR hS hc hs hl
  have hK := hO.2.2.2.2.2.2.2.2.2.1
  have hlt : j.toNatClampNeg < N := Nat.not_le.mp fun q => hin (Or.inr q)
  have hal : a < n := hR.lt (by rw [h]; intro q; cases q)
  have hA := hR.2.2 a
  rw [h] at hA
  refine W.zast (x := x) hO.1 hO.2.1 hA.2 ((hK.2.1 1 (by decide)).1 N (fun j => .int (f j))) (fun q => by cases q) (by show ¬ (j < 0 ∨ (arrV _ _ _).slots.size ≤ _); rw [arrV_size]; exact hin) rfl rfl d fun H' e1 e2 e3 => ?_
  refine kk G b p l e R s m args below meth c H' _ cells slots ls Z hO hE (hR.put hal ⟨hA.1, ?_⟩ e2 e3) (hS.put e2 e3 (Nat.le_add_right _ _)) hc hs hl
  rw [e1]
  rw [hz]
  show some ((arrV _ _ _).setSlot _ _) = some (arrV _ _ _)
  rw [arrV_store, kint_uf]
theorem kw_castore {pc a N : Nat} {f : Nat → Int32} {j x : Int32} (d : decode M.2.1 pc = .ok (.castore, 1)) (h : w a = kI 2 N f) (hin : vp_in j N) (hz : narrow .char (.int x) = .int x) (kk : kW X M dd Q rc rs n (kup w a (kI 2 N (kuf f j.toNatClampNeg x))) (pc + 1) L st) : kW X M dd Q rc rs n w pc L (.int x :: .int j :: .ref a :: st) := by
  intro G b p l e R s m args below meth c H locs cells slots ls Z hO hE hR hS hc hs hl
  have hK := hO.2.2.2.2.2.2.2.2.2.1
  have hlt : j.toNatClampNeg < N := Nat.not_le.mp fun q => hin (Or.inr q)
  have hal : a < n := hR.lt (by rw [h]; intro q; cases q)
  have hA := hR.2.2 a
  rw [h] at hA
  refine W.cast (x := x) hO.1 hO.2.1 hA.2 ((hK.2.1 2 (by decide)).1 N (fun j => .int (f j))) (fun q => by cases q) (by show ¬ (j < 0 ∨ (arrV _ _ _).slots.size ≤ _); rw [arrV_size]; exact hin) rfl rfl d fun H' e1 e2 e3 => ?_
  refine kk G b p l e R s m args below meth c H' _ cells slots ls Z hO hE (hR.put hal ⟨hA.1, ?_⟩ e2 e3) (hS.put e2 e3 (Nat.le_add_right _ _)) hc hs hl
  rw [e1]
  rw [hz]
  show some ((arrV _ _ _).setSlot _ _) = some (arrV _ _ _)
  rw [arrV_store, kint_uf]
theorem kw_laload {pc a N : Nat} {f : Nat → Int64} {j : Int32} (d : decode M.2.1 pc = .ok (.laload, 1)) (h : w a = kV 3 N (fun i => .long (f i))) (hin : vp_in j N) (kk : kW X M dd Q rc rs n w (pc + 1) L (.long (f j.toNatClampNeg) :: st)) : kW X M dd Q rc rs n w pc L (.int j :: .ref a :: st) := by
  intro G b p l e R s m args below meth c H locs cells slots ls Z hO hE hR hS hc hs hl
  have hK := hO.2.2.2.2.2.2.2.2.2.1
  have hlt : j.toNatClampNeg < N := Nat.not_le.mp fun q => hin (Or.inr q)
  have hA := hR.2.2 a
  rw [h] at hA
  exact W.lald (v := .long (f j.toNatClampNeg)) hO.1 hO.2.1 hA.2 ((hK.2.1 3 (by decide)).1 N _) (fun q => by cases q) (by show ¬ (j < 0 ∨ (arrV _ _ _).slots.size ≤ _); rw [arrV_size]; exact hin) (by show (arrV _ _ _).slots[_]? = _; rw [arrV_read _ _ hlt]; rfl) rfl rfl d (kk G b p l e R s m args below meth c H locs cells slots ls Z hO hE hR hS hc hs hl)
theorem kw_lastore {pc a N : Nat} {f : Nat → Value} {j : Int32} {x : Int64} (d : decode M.2.1 pc = .ok (.lastore, 1)) (h : w a = kV 3 N f) (hin : vp_in j N) (kk : kW X M dd Q rc rs n (kup w a (kV 3 N (kuF f j.toNatClampNeg (.long x)))) (pc + 1) L st) : kW X M dd Q rc rs n w pc L (.long x :: .int j :: .ref a :: st) := by
  intro G b p l e R s m args below meth c H locs cells slots ls Z hO hE hR hS hc hs hl
  have hK := hO.2.2.2.2.2.2.2.2.2.1
  have hal : a < n := hR.lt (by rw [h]; intro q; cases q)
  have hA := hR.2.2 a
  rw [h] at hA
  refine W.last (x := x) hO.1 hO.2.1 hA.2 ((hK.2.1 3 (by decide)).1 N _) (fun q => by cases q) (by show ¬ (j < 0 ∨ (arrV _ _ _).slots.size ≤ _); rw [arrV_size]; exact hin) rfl rfl d fun H' e1 e2 e3 => ?_
  refine kk G b p l e R s m args below meth c H' _ cells slots ls Z hO hE (hR.put hal ⟨hA.1, ?_⟩ e2 e3) (hS.put e2 e3 (Nat.le_add_right _ _)) hc hs hl
  rw [e1]
  show some ((arrV _ _ _).setSlot _ _) = some (arrV _ _ _)
  rw [arrV_store]
  show _ = some (arrV _ _ (fun j => kcv G b (kuF f _ _ j)))
  rw [kcv_uF]
  rfl
theorem kw_aaload {pc a N t o : Nat} {f : Nat → Value} {j : Int32} (d : decode M.2.1 pc = .ok (.aaload, 1)) (h : w a = kV t N f) (ht : (kaT t).isReference = true) (hin : vp_in j N) (ho : f j.toNatClampNeg = .ref o) (kk : kW X M dd Q rc rs n w (pc + 1) L (.ref o :: st)) : kW X M dd Q rc rs n w pc L (.int j :: .ref a :: st) := by
  intro G b p l e R s m args below meth c H locs cells slots ls Z hO hE hR hS hc hs hl
  have hK := hO.2.2.2.2.2.2.2.2.2.1
  have hlt : j.toNatClampNeg < N := Nat.not_le.mp fun q => hin (Or.inr q)
  have hA := hR.2.2 a
  rw [h] at hA
  exact W.aald (v := .ref (b + o)) hO.1 hO.2.1 hA.2 ((hK.2.1 t hA.1).1 N _) ht (fun q => by cases q) (by show ¬ (j < 0 ∨ (arrV _ _ _).slots.size ≤ _); rw [arrV_size]; exact hin) (by show (arrV _ _ _).slots[_]? = _; rw [arrV_read _ _ hlt]; show some (kcv G b (f _)) = _; rw [ho]; rfl) rfl rfl d (kk G b p l e R s m args below meth c H locs cells slots ls Z hO hE hR hS hc hs hl)
/-- a reference to an object into an array of its class -/
theorem kw_aastore {pc a N t o ci : Nat} {r : vw_C} {f F : Nat → Value} {j : Int32} (d : decode M.2.1 pc = .ok (.aastore, 1)) (h : w a = kV t N f) (hr : kcl[ci]? = some r) (ht : kaT t = .object r.1) (hin : vp_in j N) (ho : w o = kO ci F) (kk : kW X M dd Q rc rs n (kup w a (kV t N (kuF f j.toNatClampNeg (.ref o)))) (pc + 1) L st) : kW X M dd Q rc rs n w pc L (.ref o :: .int j :: .ref a :: st) := by
  intro G b p l e R s m args below meth c H locs cells slots ls Z hO hE hR hS hc hs hl
  have hK := hO.2.2.2.2.2.2.2.2.2.1
  have hlt : j.toNatClampNeg < N := Nat.not_le.mp fun q => hin (Or.inr q)
  have h0 : ¬ j < 0 := fun q => hin (Or.inl q)
  have hal : a < n := hR.lt (by rw [h]; intro q; cases q)
  have hA := hR.2.2 a
  rw [h] at hA
  have hB := hR.2.2 o
  rw [ho] at hB
  obtain ⟨r', h1, cellV, g1, g2, g3, -⟩ := hB
  have hcls := (hK.1 ci r hr).2
  have hra := (hK.2.1 t hA.1).2
  rw [ht] at hra
  obtain ⟨kA, comp, k1, k2, k3, -⟩ := hra
  have hcomp : comp = G.1.1 ci := Option.some.inj (k3.symm.trans hcls.1)
  subst hcomp
  obtain ⟨kC, hkC, -⟩ := hcls.2
  refine W.aast hO.1 hO.2.1 hA.2 (fun q h => by cases h) (fun h => by cases h) k1 k2 rfl hkC ⟨h0, by show _ < (arrV _ _ _).slots.size; rw [arrV_size]; exact hlt⟩ g1 (fun q h => by rw [g3] at h; cases h) (by rw [g2]; exact hkC) (by rw [g2]; exact va_assign hcls) rfl rfl d fun H' e1 e2 e3 => ?_
  refine kk G b p l e R s m args below meth c H' _ cells slots ls Z hO hE (hR.put hal ⟨hA.1, ?_⟩ e2 e3) (hS.put e2 e3 (Nat.le_add_right _ _)) hc hs hl
  rw [e1]
  show some ((arrV _ _ _).setSlot _ _) = some (arrV _ _ _)
  rw [arrV_store]
  show _ = some (arrV _ _ (fun j => kcv G b (kuF f _ _ j)))
  rw [kcv_uF]
  rfl
theorem kw_alenI {pc a t N : Nat} {f : Nat → Int32} {v : Int32} (d : decode M.2.1 pc = .ok (.arraylength, 1)) (h : w a = kI t N f) (hv : Int32.ofNat N = v) (kk : kW X M dd Q rc rs n w (pc + 1) L (.int v :: st)) : kW X M dd Q rc rs n w pc L (.ref a :: st) := by
  intro G b p l e R s m args below meth c H locs cells slots ls Z hO hE hR hS hc hs hl
  have hK := hO.2.2.2.2.2.2.2.2.2.1
  have hA := hR.2.2 a
  rw [h] at hA
  exact W.alen (n := v) hO.1 hO.2.1 hA.2 ((hK.2.1 t hA.1).1 N _) (by rw [arrV_size]; exact hv) rfl rfl d (kk G b p l e R s m args below meth c H locs cells slots ls Z hO hE hR hS hc hs hl)
theorem kw_alenV {pc a t N : Nat} {f : Nat → Value} {v : Int32} (d : decode M.2.1 pc = .ok (.arraylength, 1)) (h : w a = kV t N f) (hv : Int32.ofNat N = v) (kk : kW X M dd Q rc rs n w (pc + 1) L (.int v :: st)) : kW X M dd Q rc rs n w pc L (.ref a :: st) := by
  intro G b p l e R s m args below meth c H locs cells slots ls Z hO hE hR hS hc hs hl
  have hK := hO.2.2.2.2.2.2.2.2.2.1
  have hA := hR.2.2 a
  rw [h] at hA
  exact W.alen (n := v) hO.1 hO.2.1 hA.2 ((hK.2.1 t hA.1).1 N _) (by rw [arrV_size]; exact hv) rfl rfl d (kk G b p l e R s m args below meth c H locs cells slots ls Z hO hE hR hS hc hs hl)
/-- a static array -/
theorem kw_getstatic {pc idx i : Nat} {q : kSt1} (d : decode M.2.1 pc = .ok (.getstatic idx, 3)) (hq : kSta[i]? = some q) (hid : q.2.2.2.1 = i) (hlink : Cond.fieldLink M.1.cls idx q.1 q.2.1 q.2.2.1 ∈ kTb) (kk : kW X M dd Q rc rs n w (pc + 3) L (.retAddr i :: st)) : kW X M dd Q rc rs n w pc L st := by
  intro G b p l e R s m args below meth c H locs cells slots ls Z hO hE hR hS hc hs hl
  have hts := hO.2.2.2.2.1
  have hSt := hO.2.2.2.2.2.2.2.2.2.2.1
  have hz := (hSt.1 q (List.mem_of_getElem? hq)).1
  rw [hid] at hz
  exact va_gets hO.1 hO.2.1 hz hS hO.2.2.2.1 (hts _ (List.mem_cons_of_mem _ hlink)) (fun _ h => h) d (kk G b p l e R s m args below meth c H locs cells slots ls Z hO hE hR hS hc hs hl)
theorem kw_getstaticN {pc idx i : Nat} {q : kSt1} {host : String} (d : decode M.2.1 pc = .ok (.getstatic idx, 3)) (hq : kSta[i]? = some q) (hid : q.2.2.2.1 = i) (hlink : Cond.fieldLinkNest M.1.cls idx q.1 q.2.1 q.2.2.1 host ∈ kNest) (kk : kW X M dd Q rc rs n w (pc + 3) L (.retAddr i :: st)) : kW X M dd Q rc rs n w pc L st := by
  intro G b p l e R s m args below meth c H locs cells slots ls Z hO hE hR hS hc hs hl
  have hK := hO.2.2.2.2.2.2.2.2.2.1
  have hSt := hO.2.2.2.2.2.2.2.2.2.2.1
  have hz := (hSt.1 q (List.mem_of_getElem? hq)).1
  rw [hid] at hz
  exact va_getsN hO.1 hO.2.1 hz hS hO.2.2.2.1 (va_Nw.use rfl (hK.2.2.1 _ hlink)) (fun _ h => h) d (kk G b p l e R s m args below meth c H locs cells slots ls Z hO hE hR hS hc hs hl)
theorem kw_ialoadS {pc i : Nat} {q : kSt1} {j : Int32} (d : decode M.2.1 pc = .ok (.iaload, 1)) (hq : kSta[i]? = some q) (hid : q.2.2.2.1 = i) (hty : q.2.2.2.2.1 = .int) (hin : vp_in j q.2.2.2.2.2.1) (kk : kW X M dd Q rc rs n w (pc + 1) L (.int (q.2.2.2.2.2.2 j.toNatClampNeg) :: st)) : kW X M dd Q rc rs n w pc L (.int j :: .retAddr i :: st) := by
  intro G b p l e R s m args below meth c H locs cells slots ls Z hO hE hR hS hc hs hl
  have hSt := hO.2.2.2.2.2.2.2.2.2.2.1
  have hz := (hSt.1 q (List.mem_of_getElem? hq)).2
  rw [hid, hty] at hz
  exact va_ti hO.1 hO.2.1 hz hS hin rfl d (kk G b p l e R s m args below meth c H locs cells slots ls Z hO hE hR hS hc hs hl)
theorem kw_caloadS {pc i : Nat} {q : kSt1} {j : Int32} (d : decode M.2.1 pc = .ok (.caload, 1)) (hq : kSta[i]? = some q) (hid : q.2.2.2.1 = i) (hty : q.2.2.2.2.1 = .char) (hin : vp_in j q.2.2.2.2.2.1) (kk : kW X M dd Q rc rs n w (pc + 1) L (.int (q.2.2.2.2.2.2 j.toNatClampNeg) :: st)) : kW X M dd Q rc rs n w pc L (.int j :: .retAddr i :: st) := by
  intro G b p l e R s m args below meth c H locs cells slots ls Z hO hE hR hS hc hs hl
  have hSt := hO.2.2.2.2.2.2.2.2.2.2.1
  have hz := (hSt.1 q (List.mem_of_getElem? hq)).2
  rw [hid, hty] at hz
  exact va_tc hO.1 hO.2.1 hz hS hin rfl d (kk G b p l e R s m args below meth c H locs cells slots ls Z hO hE hR hS hc hs hl)
theorem kw_alenS {pc i : Nat} {q : kSt1} {v : Int32} (d : decode M.2.1 pc = .ok (.arraylength, 1)) (hq : kSta[i]? = some q) (hid : q.2.2.2.1 = i) (hv : Int32.ofNat q.2.2.2.2.2.1 = v) (kk : kW X M dd Q rc rs n w (pc + 1) L (.int v :: st)) : kW X M dd Q rc rs n w pc L (.retAddr i :: st) := by
  intro G b p l e R s m args below meth c H locs cells slots ls Z hO hE hR hS hc hs hl
  have hSt := hO.2.2.2.2.2.2.2.2.2.2.1
  have hz := (hSt.1 q (List.mem_of_getElem? hq)).2
  rw [hid] at hz
  exact va_tlen hO.1 hO.2.1 hz hS hv d (kk G b p l e R s m args below meth c H locs cells slots ls Z hO hE hR hS hc hs hl)
/-- the script -/
theorem kw_sld {pc : Nat} {j : Int32} (hM : M.1.name = "law") (d : decode M.2.1 pc = .ok (.iaload, 1)) (hin : vp_in j X.1) (kk : kW X M dd Q rc rs n w (pc + 1) L (.int (X.2 j.toNatClampNeg) :: st)) : kW X M dd Q rc rs n w pc L (.int j :: .retAddr 9 :: st) := by
  intro G b p l e R s m args below meth c H locs cells slots ls Z hO hE hR hS hc hs hl
  rcases id hE with ⟨h, -⟩ | ⟨-, ⟨h1, h2, h3⟩, -⟩
  · exact absurd hM h
  · exact va_sld hO.1 hO.2.1 h1 h2 h3 hS hin d (kk G b p l e R s m args below meth c H locs cells slots ls Z hO hE hR hS hc hs hl)
theorem kw_slen {pc : Nat} {v : Int32} (hM : M.1.name = "law") (d : decode M.2.1 pc = .ok (.arraylength, 1)) (hv : Int32.ofNat X.1 = v) (kk : kW X M dd Q rc rs n w (pc + 1) L (.int v :: st)) : kW X M dd Q rc rs n w pc L (.retAddr 9 :: st) := by
  intro G b p l e R s m args below meth c H locs cells slots ls Z hO hE hR hS hc hs hl
  subst hv
  rcases id hE with ⟨h, -⟩ | ⟨-, ⟨h1, h2, h3⟩, -⟩
  · exact absurd hM h
  · exact va_slen hO.1 hO.2.1 h1 h2 h3 hS d (kk G b p l e R s m args below meth c H locs cells slots ls Z hO hE hR hS hc hs hl)
end KMEM
end
section
section KCALL
variable {X : Nat × (Nat → Int32)} {M : kMi} {dd : Nat} {Q : kQ} {rc rs n : Nat} {w : kM} {L : List (Nat × Value)} {st : List Value}
/-- the method's class and its parameters, as a call's row asks of them -/
def kPl (y : MethodName) (k : Nat) : Prop := y.cls ≠ "java/lang/invoke/MethodHandle" ∧ y.cls ≠ "java/lang/invoke/VarHandle" ∧ (parseMethodDescriptor y.desc).map (fun d => d.parameters.length) = some k
/-- the words of a virtual call -/
def kLV (own : String) (idx : Nat) (My : kMi) (k : Nat) : Prop := Cond.methodLink own idx My.1 ∈ kTb ∧ Cond.instanceMethod My.1 ∈ kTb ∧ Cond.selects My.1.cls My.1 My.1 ∈ kTb ∧ Cond.initialized My.1.cls ∈ kTb ∧ kcw My ∈ kTb ∧ My.2.2.2.2 = [] ∧ kPl My.1 k
/-- .. of a static one, without and with a table -/
def kLS (own : String) (idx : Nat) (My : kMi) (k : Nat) : Prop := Cond.methodLink own idx My.1 ∈ kTb ∧ Cond.static My.1 ∈ kTb ∧ Cond.initialized My.1.cls ∈ kTb ∧ kcw My ∈ kTb ∧ kPl My.1 k
/-- .. of a constructor's, its link a word of the tables or a nest mate's -/
def kLI (own : String) (idx : Nat) (My : kMi) (k : Nat) : Prop := Cond.methodLink own idx My.1 ∈ kTb ∧ Cond.instanceMethod My.1 ∈ kTb ∧ Cond.initialized My.1.cls ∈ kTb ∧ kcw My ∈ kTb ∧ My.2.2.2.2 = [] ∧ My.2.2.2.1 = none ∧ My.1.name = "<init>" ∧ kPl My.1 k
def kLN (own : String) (idx : Nat) (My : kMi) (host : String) (k : Nat) : Prop := Cond.methodLinkNest own idx My.1 host ∈ kNest ∧ Cond.instanceMethod My.1 ∈ kTb ∧ Cond.initialized My.1.cls ∈ kTb ∧ kcw My ∈ kTb ∧ My.2.2.2.2 = [] ∧ My.2.2.2.1 = none ∧ My.1.name = "<init>" ∧ kPl My.1 k
theorem kgood {z : Cond} (h : z ∈ kTb) : z ∈ kws M ∧ ((z.onTables && z.keeps) = true ∨ ∃ ty, z = .arrayClass ty) := ⟨List.mem_cons_of_mem _ h, good_of_word (List.mem_filter.mp h).2⟩
theorem kcw_nil {My : kMi} (h : My.2.2.2.2 = []) : kcw My = .code My.1 My.2.1 My.2.2.1 My.2.2.2.1 := by unfold kcw; rw [h]
theorem kcw_cons {My : kMi} (h : My.2.2.2.2 ≠ []) : kcw My = .codeWith My.1 My.2.1 My.2.2.1 My.2.2.2.1 My.2.2.2.2 := by
  unfold kcw
  cases h2 : My.2.2.2.2 with
  | nil => exact absurd h2 h
  | cons x t => rfl
/-- what holds at a call's start in any state with this heap and warmer tables -/
theorem kpre {G : kG} {b : Nat} {p : Program} {l : Launch} {R : Room} {s : State} {m : MethodId} {args : Array Value} {meth : Method} {c : Code} {H : Heap} {locs : List Loc} (hO : kOK M G b dd p l R s m args meth c) (hR : kRp G b n w H) (hS : va_S (fun q => b ≤ q) s.heap H locs) {U : State} (hU : U.heap = H) (hW : s.WarmedH U.vm) : kRp G b n w U.heap ∧ kK G U ∧ kSt G b U U.heap := by
  have hK := hO.2.2.2.2.2.2.2.2.2.1
  have hSt := hO.2.2.2.2.2.2.2.2.2.2.1
  refine ⟨by rw [hU]; exact hR, hK.warm hW, ?_⟩
  rw [hU]
  exact (hSt.kept hS.2.1).moved hW.alike
theorem kstk (G : kG) (b : Nat) (v : Option Value) (rest : List Value) : (v.map (kcv G b)).toList ++ rest.map (kcv G b) = (v.toList ++ rest).map (kcv G b) := by cases v <;> simp
theorem kcats (G : kG) (b : Nat) (rest : List Value) : ((rest.map (kcv G b)).map fun v => v.category).sum = (rest.map fun v => v.category).sum := by
  rw [List.map_map]
  congr 1
  exact List.map_congr_left fun v _ => kcv_cat G b v
theorem kw_ofRun {Q' : kQ} {mc ms pc : Nat} {rest st0 : List Value} {a : Array Value} {G : kG} {b : Nat} {p : Program} {l : Launch} {e : Env} {R : Room} {s : State} {m : MethodId} {args : Array Value} {below : List Frame} {meth : Method} {c : Code} {H : Heap} {locs : List Loc} {cells slots : Nat} {ls : Array Slot} {Z : State → Prop}
    (hr : vx_Run p l e R s m args below meth c H locs cells slots mc ms (F0 m pc ls st0) (rest.map (kcv G b)) (kQc G b Q' a) (kXC G b Q') (fun q => b ≤ q))
    (hO : kOK M G b dd p l R s m args meth c) (hE : kEnd X M G b Q p l e R s m args below meth c Z) (hS : va_S (fun q => b ≤ q) s.heap H locs) (hc : cells + rc ≤ R.cells) (hs : slots + rs ≤ R.slots) (hl : lv_has ls M.2.2.1 (L.map fun q => (q.1, kcv G b q.2))) (hmc : mc ≤ rc) (hms : ms ≤ rs)
    (kx : ∀ (E : String) (w' : kM) (n' : Nat), Q' (.inr E) w' n' → kWX X M dd Q (rc - mc) (rs - ms) n' w' pc L E)
    (kk : ∀ (v : Option Value) (w' : kM) (n' : Nat), Q' (.inl v) w' n' → kW X M dd Q (rc - mc) (rs - ms) n' w' (pc + 3) L (v.toList ++ rest)) : W p l e R s m args below meth c H locs cells slots Z (F0 m pc ls st0) := by
  intro T hT X0
  rcases hr T hT X0 with ⟨v, st₀, t, T', L', h0, X', hL, e1, e2, ⟨⟨v', w', n', ho, hq, hRp'⟩, hF⟩, stp⟩ | ⟨q, st₀, t, T', L', E, ce, h0, X', hL, e1, e2, ⟨⟨w', n', hq, hRp'⟩, hF⟩, hce, hcv, hcl, stp⟩
  · cases ho
    obtain ⟨-, -, k3⟩ := vx_keep h0 e1 hS (fun q _ h => h) (fun q h => h) hL hF
    obtain ⟨t2, a1, b1⟩ := kk v' w' n' hq G b p l e R s m args below meth c T'.heap (locs ++ L') (cells + mc) (slots + ms) ls Z hO hE (by rw [e1]; exact hRp') k3 (by omega) (by omega) hl T' rfl X'
    rw [← kstk] at a1
    exact ⟨t2, stp t2 a1, b1⟩
  · obtain ⟨-, -, k3⟩ := vx_keep h0 e1 hS (fun q _ h => h) (fun q h => h) hL hF
    obtain ⟨t2, a1, b1⟩ := kx E w' n' hq G b p l e R s m args below meth c T'.heap (locs ++ L') (cells + mc) (slots + ms) ls Z q ce (rest.map (kcv G b)) hO hE (by rw [e1]; exact hRp') k3 (by omega) (by omega) hl (by rw [e1]; exact hce) hcv hcl T' rfl X'
    exact ⟨t2, stp.trans a1, b1⟩
theorem kw_callV {My : kMi} {dy mc ms pc idx o ci k : Nat} {F : Nat → Value} {As rest st0 : List Value} {Q' : kQ} (d : decode M.2.1 pc = .ok (.invokevirtual idx, 3)) (hl0 : kLV M.1.cls idx My k) (hC : kCtr My dy mc ms (.ref o :: As) w n Q') (ho : w o = kO ci F) (hci : (kcl[ci]?).map (fun r => r.1) = some My.1.cls) (hst : st0 = As.reverse ++ .ref o :: rest) (hk : As.length = k)
    (hroom : dy + 1 ≤ dd ∧ My.2.2.1 ≤ 40 ∧ (rest.map fun v => v.category).sum ≤ 8 ∧ mc ≤ rc ∧ ms ≤ rs)
    (kx : ∀ (E : String) (w' : kM) (n' : Nat), Q' (.inr E) w' n' → kWX X M dd Q (rc - mc) (rs - ms) n' w' pc L E)
    (kk : ∀ (v : Option Value) (w' : kM) (n' : Nat), Q' (.inl v) w' n' → kW X M dd Q (rc - mc) (rs - ms) n' w' (pc + 3) L (v.toList ++ rest)) : kW X M dd Q rc rs n w pc L st0 := by
  subst hst
  intro G b p l e R s m args below meth c H locs cells slots ls Z hO hE hR hS hc hs hl
  obtain ⟨w1, w2, w3, w4, w5, w6, w7⟩ := hl0
  obtain ⟨r1, r2, r3, r4, r5⟩ := hroom
  obtain ⟨hx, hb, hml, hown, hts, -, -, -, hstt, hK, hSt, hdR, hlR, -, -⟩ := id hO
  have hG : GoodIn (kws M) (wsV M.1.cls idx My.1.cls My.1 (kws My)) := by
    intro z hz
    unfold wsV at hz
    rcases List.mem_append.mp hz with h | h
    · simp only [List.mem_cons, List.not_mem_nil, or_false] at h
      rcases h with rfl | rfl | rfl | rfl
      · exact kgood w1
      · exact kgood w2
      · exact kgood w3
      · exact kgood w4
    · exact kws_good w5 z h
  have hA := hR.2.2 o
  rw [ho] at hA
  obtain ⟨r, h1, cell, q1, q2, q3, q4⟩ := hA
  have hcls : r.1 = My.1.cls := by rw [h1] at hci; exact Option.some.inj hci
  refine kw_ofRun (vx_runV (As := As.map (kcv G b)) (b := b + o) (rest := rest.map (kcv G b)) ⟨hx, hb, hml, hown, hts⟩ (hC l hstt G b) (cwV k hts hG (by unfold kws; rw [kcw_nil w6]) rfl rfl ⟨rfl, w7⟩ ⟨by show dy + 1 ≤ R.frames; omega, by show 8 + (My.2.2.1 + 11) + 60 * dy ≤ R.locals; omega⟩) ⟨kPc_blind G b _ w n, ⟨cell, q1, by rw [q3]; rfl, by rw [q2, ← hcls]; exact (hK.1 ci r h1).2.1⟩, fun U hU hW => ⟨rfl, kpre hO hR hS hU hW⟩⟩ rfl (by rw [List.length_map]; exact hk) hl.1 ?_ (lv_room (by rw [kcats]; exact r3)) d ⟨by omega, by omega⟩) hO hE hS hc hs hl r4 r5 kx kk
  show List.map (kcv G b) (As.reverse ++ .ref o :: rest) = _
  rw [List.map_append, List.map_reverse]
  rfl
theorem kw_callS {My : kMi} {dy mc ms pc idx k : Nat} {As rest st0 : List Value} {Q' : kQ} (d : decode M.2.1 pc = .ok (.invokestatic idx, 3)) (hl0 : kLS M.1.cls idx My k) (hC : kCtr My dy mc ms As w n Q') (hst : st0 = As.reverse ++ rest) (hk : As.length = k)
    (hroom : dy + 1 ≤ dd ∧ My.2.2.1 ≤ 40 ∧ (rest.map fun v => v.category).sum ≤ 8 ∧ mc ≤ rc ∧ ms ≤ rs)
    (kx : ∀ (E : String) (w' : kM) (n' : Nat), Q' (.inr E) w' n' → kWX X M dd Q (rc - mc) (rs - ms) n' w' pc L E)
    (kk : ∀ (v : Option Value) (w' : kM) (n' : Nat), Q' (.inl v) w' n' → kW X M dd Q (rc - mc) (rs - ms) n' w' (pc + 3) L (v.toList ++ rest)) : kW X M dd Q rc rs n w pc L st0 := by
  subst hst
  intro G b p l e R s m args below meth c H locs cells slots ls Z hO hE hR hS hc hs hl
  obtain ⟨w1, w2, w4, w5, w7⟩ := hl0
  obtain ⟨r1, r2, r3, r4, r5⟩ := hroom
  obtain ⟨hx, hb, hml, hown, hts, -, -, -, hstt, hK, hSt, hdR, hlR, -, -⟩ := id hO
  have hG : GoodIn (kws M) (va_wsS M.1.cls idx My.1 (kws My)) := by
    intro z hz
    unfold va_wsS at hz
    rcases List.mem_append.mp hz with h | h
    · simp only [List.mem_cons, List.not_mem_nil, or_false] at h
      rcases h with rfl | rfl | rfl
      · exact kgood w1
      · exact kgood w2
      · exact kgood w4
    · exact kws_good w5 z h
  have hstk : List.map (kcv G b) (As.reverse ++ rest) = (As.map (kcv G b)).reverse ++ rest.map (kcv G b) := by rw [List.map_append, List.map_reverse]
  by_cases w6 : My.2.2.2.2 = []
  · exact kw_ofRun (vx_runS (As := As.map (kcv G b)) (rest := rest.map (kcv G b)) ⟨hx, hb, hml, hown, hts⟩ (hC l hstt G b) (va_cwS k hts hG (by unfold kws; rw [kcw_nil w6]) rfl rfl w7 ⟨by show dy + 1 ≤ R.frames; omega, by show 8 + (My.2.2.1 + 11) + 60 * dy ≤ R.locals; omega⟩) ⟨kPc_blind G b _ w n, fun U hU hW => ⟨rfl, kpre hO hR hS hU hW⟩⟩ rfl (by rw [List.length_map]; exact hk) hl.1 hstk (lv_room (by rw [kcats]; exact r3)) d ⟨by omega, by omega⟩) hO hE hS hc hs hl r4 r5 kx kk
  · exact kw_ofRun (vx_runSX (As := As.map (kcv G b)) (rest := rest.map (kcv G b)) ⟨hx, hb, hml, hown, hts⟩ (hC l hstt G b) (vx_cwSW k hts hG (by unfold kws; rw [kcw_cons w6]) rfl rfl w7 ⟨by show dy + 1 ≤ R.frames; omega, by show 8 + (My.2.2.1 + 11) + 60 * dy ≤ R.locals; omega⟩) ⟨kPc_blind G b _ w n, fun U hU hW => ⟨rfl, kpre hO hR hS hU hW⟩⟩ rfl (by rw [List.length_map]; exact hk) hl.1 hstk (lv_room (by rw [kcats]; exact r3)) d ⟨by omega, by omega⟩) hO hE hS hc hs hl r4 r5 kx kk
/-- a contract that never throws, as the kit's plain one -/
theorem kCtr.met {My : kMi} {dy mc ms : Nat} {As : List Value} {Q' : kQ} (hC : kCtr My dy mc ms As w n Q') (hno : ∀ E w' n', ¬ Q' (.inr E) w' n') {l : Launch} (hst : l.stackTraces = false) (G : kG) (b : Nat) : Met l My.1 (kws My) (kRm dy mc ms) (kPc G b As w n) (kQc G b Q') mc ms (fun q => b ≤ q) := by
  intro p e h1 h2 h3 s m args below hf ha hP hK
  obtain ⟨k, o, a1, a2, a3, hq⟩ := hC l hst G b p e h1 h2 h3 s m args below hf ha hP hK
  rcases hq with hq | ⟨q, -, E, ce, L', hX, -⟩
  · exact ⟨k, o, a1, a2, a3, hq⟩
  · obtain ⟨⟨w', n', hz, -⟩, -⟩ := hX
    exact absurd hz (hno E w' n')
theorem kw_ofRunV {Q' : kQ} {mc ms pc : Nat} {rest st0 : List Value} {a : Array Value} {G : kG} {b : Nat} {p : Program} {l : Launch} {e : Env} {R : Room} {s : State} {m : MethodId} {args : Array Value} {below : List Frame} {meth : Method} {c : Code} {H : Heap} {locs : List Loc} {cells slots : Nat} {ls : Array Slot} {Z : State → Prop}
    (hr : va_Run p l e R s m args below meth c H locs cells slots mc ms (F0 m pc ls st0) (rest.map (kcv G b)) (kQc G b Q' a) (fun q => b ≤ q))
    (hO : kOK M G b dd p l R s m args meth c) (hE : kEnd X M G b Q p l e R s m args below meth c Z) (hS : va_S (fun q => b ≤ q) s.heap H locs) (hc : cells + rc ≤ R.cells) (hs : slots + rs ≤ R.slots) (hl : lv_has ls M.2.2.1 (L.map fun q => (q.1, kcv G b q.2))) (hmc : mc ≤ rc) (hms : ms ≤ rs)
    (kk : ∀ (v : Option Value) (w' : kM) (n' : Nat), Q' (.inl v) w' n' → kW X M dd Q (rc - mc) (rs - ms) n' w' (pc + 3) L (v.toList ++ rest)) : W p l e R s m args below meth c H locs cells slots Z (F0 m pc ls st0) := by
  intro T hT X0
  obtain ⟨v, st₀, t, T', L', h0, X', hL, e1, e2, ⟨⟨v', w', n', ho, hq, hRp'⟩, hF⟩, stp⟩ := hr T hT X0
  cases ho
  obtain ⟨-, -, k3⟩ := vx_keep h0 e1 hS (fun q _ h => h) (fun q h => h) hL hF
  obtain ⟨t2, a1, b1⟩ := kk v' w' n' hq G b p l e R s m args below meth c T'.heap (locs ++ L') (cells + mc) (slots + ms) ls Z hO hE (by rw [e1]; exact hRp') k3 (by omega) (by omega) hl T' rfl X'
  rw [← kstk] at a1
  exact ⟨t2, stp t2 a1, b1⟩
theorem kw_callI {My : kMi} {dy mc ms pc idx o k : Nat} {As rest st0 : List Value} {Q' : kQ} (d : decode M.2.1 pc = .ok (.invokespecial idx, 3)) (hl0 : kLI M.1.cls idx My k) (hC : kCtr My dy mc ms (.ref o :: As) w n Q') (hno : ∀ E w' n', ¬ Q' (.inr E) w' n') {ci : Nat} {F : Nat → Value} (ho : w o = kO ci F) (hst : st0 = As.reverse ++ .ref o :: rest) (hk : As.length = k)
    (hroom : dy + 1 ≤ dd ∧ My.2.2.1 ≤ 40 ∧ (rest.map fun v => v.category).sum ≤ 8 ∧ mc ≤ rc ∧ ms ≤ rs)
    (kk : ∀ (v : Option Value) (w' : kM) (n' : Nat), Q' (.inl v) w' n' → kW X M dd Q (rc - mc) (rs - ms) n' w' (pc + 3) L (v.toList ++ rest)) : kW X M dd Q rc rs n w pc L st0 := by
  subst hst
  intro G b p l e R s m args below meth c H locs cells slots ls Z hO hE hR hS hc hs hl
  obtain ⟨w1, w2, w4, w5, w6, w8, w9, w7⟩ := hl0
  obtain ⟨r1, r2, r3, r4, r5⟩ := hroom
  obtain ⟨hx, hb, hml, hown, hts, -, -, -, hstt, hK, hSt, hdR, hlR, -, -⟩ := id hO
  refine kw_ofRunV (va_runI (As := As.map (kcv G b)) (b := b + o) (rest := rest.map (kcv G b)) ⟨hx, hb, hml, hown, hts⟩ (hC.met hno hstt G b) (cwI k hts (kws_good w5) (by unfold kws; rw [kcw_nil w6, w8]) rfl rfl (hts _ (List.mem_cons_of_mem _ w4)) (hts _ (List.mem_cons_of_mem _ w1)) (hts _ (List.mem_cons_of_mem _ w2)) w9 w7 ⟨by show dy + 1 ≤ R.frames; omega, by show 8 + (My.2.2.1 + 11) + 60 * dy ≤ R.locals; omega⟩) ⟨kPc_blind G b _ w n, fun U hU hW => ⟨rfl, kpre hO hR hS hU hW⟩⟩ rfl (by rw [List.length_map]; exact hk) hl.1 ?_ (lv_room (by rw [kcats]; exact r3)) d ⟨by omega, by omega⟩) hO hE hS hc hs hl r4 r5 kk
  show List.map (kcv G b) (As.reverse ++ .ref o :: rest) = _
  rw [List.map_append, List.map_reverse]
  rfl
theorem kw_callN {My : kMi} {host : String} {dy mc ms pc idx o k : Nat} {As rest st0 : List Value} {Q' : kQ} (d : decode M.2.1 pc = .ok (.invokespecial idx, 3)) (hl0 : kLN M.1.cls idx My host k) (hC : kCtr My dy mc ms (.ref o :: As) w n Q') (hno : ∀ E w' n', ¬ Q' (.inr E) w' n') {ci : Nat} {F : Nat → Value} (ho : w o = kO ci F) (hst : st0 = As.reverse ++ .ref o :: rest) (hk : As.length = k)
    (hroom : dy + 1 ≤ dd ∧ My.2.2.1 ≤ 40 ∧ (rest.map fun v => v.category).sum ≤ 8 ∧ mc ≤ rc ∧ ms ≤ rs)
    (kk : ∀ (v : Option Value) (w' : kM) (n' : Nat), Q' (.inl v) w' n' → kW X M dd Q (rc - mc) (rs - ms) n' w' (pc + 3) L (v.toList ++ rest)) : kW X M dd Q rc rs n w pc L st0 := by
  subst hst
  intro G b p l e R s m args below meth c H locs cells slots ls Z hO hE hR hS hc hs hl
  obtain ⟨w1, w2, w4, w5, w6, w8, w9, w7⟩ := hl0
  obtain ⟨r1, r2, r3, r4, r5⟩ := hroom
  obtain ⟨hx, hb, hml, hown, hts, -, -, -, hstt, hK, hSt, hdR, hlR, -, -⟩ := id hO
  refine kw_ofRunV (va_runIN (As := As.map (kcv G b)) (b := b + o) (rest := rest.map (kcv G b)) ⟨hx, hb, hml, hown, hts⟩ (hC.met hno hstt G b) ⟨va_cnB k hts (kws_good w5) (by unfold kws; rw [kcw_nil w6, w8]) rfl rfl (hK.2.2.1 _ w1) (hts _ (List.mem_cons_of_mem _ w4)) w7 ⟨by show dy + 1 ≤ R.frames; omega, by show 8 + (My.2.2.1 + 11) + 60 * dy ≤ R.locals; omega⟩, w9, hts _ (List.mem_cons_of_mem _ w2)⟩ ⟨kPc_blind G b _ w n, fun U hU hW => ⟨rfl, kpre hO hR hS hU hW⟩⟩ rfl (by rw [List.length_map]; exact hk) hl.1 ?_ (lv_room (by rw [kcats]; exact r3)) d ⟨by omega, by omega⟩) hO hE hS hc hs hl r4 r5 kk
  show List.map (kcv G b) (As.reverse ++ .ref o :: rest) = _
  rw [List.map_append, List.map_reverse]
  rfl
/-- java.lang.Object's constructor -/
theorem kw_objInit {pc idx o : Nat} (d : decode M.2.1 pc = .ok (.invokespecial idx, 3)) (h1 : Cond.methodLink M.1.cls idx Lib.objectInit ∈ kTb) (h2 : Cond.instanceMethod Lib.objectInit ∈ kTb) (h3 : Cond.code Lib.objectInit ⟨#[0xb1]⟩ 1 none ∈ kTb) (hd1 : 1 ≤ dd) (hcat : (st.map fun v => v.category).sum ≤ 40) (k : kW X M dd Q rc rs n w (pc + 3) L st) : kW X M dd Q rc rs n w pc L (.ref o :: st) := by
  intro G b p l e R s m args below meth c H locs cells slots ls Z hO hE hR hS hc hs hl
  obtain ⟨hx, hb, hml, hown, hts, -, -, -, hstt, hK, hSt, hdR, hlR, -, -⟩ := id hO
  exact W.objInit hx hb hown (hts _ (List.mem_cons_of_mem _ h1)) (hts _ (List.mem_cons_of_mem _ h2)) (hts _ (List.mem_cons_of_mem _ h3)) rfl (by rw [hml]; exact hl.1) rfl d (by omega) (by rw [kcats]; show 2 * 0 + _ + 12 ≤ _; omega) (k G b p l e R s m args below meth c H locs cells slots ls Z hO hE hR hS hc hs hl)
/-- the ends -/
theorem kw_ireturn {pc : Nat} {v : Int32} {ty : FieldType} (hM : M.1.name ≠ "law") (d : decode M.2.1 pc = .ok (.ireturn, 1)) (hr : M.2.2.2.1 = some ty) (hn : narrow ty (.int v) = .int v) (hq : Q (.inl (some (.int v))) w n) : kW X M dd Q rc rs n w pc L [.int v] := by
  intro G b p l e R s m args below meth c H locs cells slots ls Z hO hE hR hS hc hs hl
  obtain ⟨hx, hb, hml, hown, hts, hret, hlk, -⟩ := id hO
  rcases hE with ⟨-, rfl⟩ | ⟨h, -⟩
  · refine W.widen (k := R.cells) (n := R.slots) (by omega) (by omega) (vx_ret ?_)
    exact W.zret hx hb (hret.trans hr) hn (fun t ht _ => ⟨⟨some (.int v), w, n, rfl, hq, by rw [ht]; exact hR⟩, hS.F ht⟩) hS.2.2 d hlk
  · exact absurd h hM
theorem kw_lreturn {pc : Nat} {v : Int64} (hM : M.1.name ≠ "law") (d : decode M.2.1 pc = .ok (.lreturn, 1)) (hr : M.2.2.2.1 = some .long) (hq : Q (.inl (some (.long v))) w n) : kW X M dd Q rc rs n w pc L [.long v] := by
  intro G b p l e R s m args below meth c H locs cells slots ls Z hO hE hR hS hc hs hl
  obtain ⟨hx, hb, hml, hown, hts, hret, hlk, -⟩ := id hO
  rcases hE with ⟨-, rfl⟩ | ⟨h, -⟩
  · refine W.widen (k := R.cells) (n := R.slots) (by omega) (by omega) (vx_ret ?_)
    exact W.lret hx hb (hret.trans hr) (fun t ht _ => ⟨⟨some (.long v), w, n, rfl, hq, by rw [ht]; exact hR⟩, hS.F ht⟩) hS.2.2 d hlk
  · exact absurd h hM
theorem kw_dreturn {pc : Nat} {v : UInt64} (hM : M.1.name ≠ "law") (d : decode M.2.1 pc = .ok (.dreturn, 1)) (hr : M.2.2.2.1 = some .double) (hq : Q (.inl (some (.double v))) w n) : kW X M dd Q rc rs n w pc L [.double v] := by
  intro G b p l e R s m args below meth c H locs cells slots ls Z hO hE hR hS hc hs hl
  obtain ⟨hx, hb, hml, hown, hts, hret, hlk, -⟩ := id hO
  rcases hE with ⟨-, rfl⟩ | ⟨h, -⟩
  · refine W.widen (k := R.cells) (n := R.slots) (by omega) (by omega) (vx_ret ?_)
    exact W.dret hx hb (hret.trans hr) (fun t ht _ => ⟨⟨some (.double v), w, n, rfl, hq, by rw [ht]; exact hR⟩, hS.F ht⟩) hS.2.2 d hlk
  · exact absurd h hM
theorem kw_return {pc : Nat} (hM : M.1.name ≠ "law") (d : decode M.2.1 pc = .ok (.return_, 1)) (hr : M.2.2.2.1 = none) (hq : Q (.inl none) w n) : kW X M dd Q rc rs n w pc L [] := by
  intro G b p l e R s m args below meth c H locs cells slots ls Z hO hE hR hS hc hs hl
  obtain ⟨hx, hb, hml, hown, hts, hret, hlk, -⟩ := id hO
  rcases hE with ⟨-, rfl⟩ | ⟨h, -⟩
  · refine W.widen (k := R.cells) (n := R.slots) (by omega) (by omega) (vx_ret ?_)
    exact W.vret hx hb (hret.trans hr) (fun t ht _ => ⟨⟨none, w, n, rfl, hq, by rw [ht]; exact hR⟩, hS.F ht⟩) hS.2.2 d hlk
  · exact absurd h hM
theorem kw_lawReturn {pc : Nat} (hM : M.1.name = "law") (d : decode M.2.1 pc = .ok (.ireturn, 1)) (hq : Q (.inl (some (.int 1))) w n) : kW X M dd Q rc rs n w pc L [.int 1] := by
  intro G b p l e R s m args below meth c H locs cells slots ls Z hO hE hR hS hc hs hl
  rcases hE with ⟨h, -⟩ | ⟨-, -, h⟩
  · exact absurd hM h
  · exact h pc ls w n H locs cells slots d hq hS (by omega) (by omega)
/-- an exception that no row of the table takes -/
theorem kwx_out {pc : Nat} {E : String} (hM : M.1.name ≠ "law") (hh : (tableOf M.2.2.2.2).all (fun x => !covers x pc) = true) (hq : Q (.inr E) w n) : kWX X M dd Q rc rs n w pc L E := by
  intro G b p l e R s m args below meth c H locs cells slots ls Z q ce rest hO hE hR hS hc hs hl hce hcv hcl
  obtain ⟨hx, hb, hml, hown, hts, hret, hlk, -, -, -, -, -, -, -, htab⟩ := id hO
  rcases hE with ⟨-, rfl⟩ | ⟨h, -⟩
  · refine vx_out (fun x hx => ?_) hlk hce hcv hcl (fun t ht _ => ⟨⟨w, n, hq, by rw [ht]; exact hR⟩, hS.F ht⟩) hS.2.2 (by omega) (by omega)
    rw [htab hM] at hx
    have h9 := List.all_eq_true.mp hh x hx
    cases hcov : covers x pc with
    | false => rfl
    | true => rw [hcov] at h9; cases h9
  · exact absurd h hM
/-- throw new E("..") -/
theorem kw_throw {pc ik is ic si : Nat} {cls text : String} {names : List String} (hM : M.1.name ≠ "law") (hown0 : M.1.cls = RX5) (hnil : M.2.2.2.2 = []) (hcls : Bundle.fit cls = true) (hnames : ∀ z ∈ names, Bundle.fit z = true) (hk : Cond.classLink RX5 ik cls ∈ kTb) (hini : Cond.initialized cls ∈ kTb) (hstr : (is, text, si) ∈ kStr)
    (hat1 : ∀ z ∈ (vx_atS RX5 ic cls names).filter goodWord, z ∈ kTb) (hat2 : ∀ z ∈ (vx_atS RX5 ic cls names).filter (fun z => !goodWord z), z ∈ kNest) (hot : (Cond.classLink RX5 ik cls :: Cond.initialized cls :: vx_atS RX5 ic cls names).all vx_ot = true) (hnest : kNest.all (fun z => z.onTables) = true)
    (d0 : decode M.2.1 pc = .ok (.new ik, 3)) (d3 : decode M.2.1 (pc + 3) = .ok (.dup, 1)) (d4 : decode M.2.1 (pc + 4) = .ok (.ldc is, 2)) (d6 : decode M.2.1 (pc + 6) = .ok (.invokespecial ic, 3)) (d9 : decode M.2.1 (pc + 9) = .ok (.athrow, 1))
    (hroom : names.length + 4 ≤ dd ∧ names.length ≤ 3 ∧ 1 ≤ rc ∧ 6 ≤ rs) (hq : ∀ n', n ≤ n' → Q (.inr cls) w n') : kW X M dd Q rc rs n w pc L [] := by
  intro G b p l e R s m args below meth c H locs cells slots ls Z hO hE hR hS hc hs hl
  obtain ⟨hx, hb, hml, hown, hts, hret, hlk, -, hstt, hK, hSt, hdR, hlR, hbs, htab⟩ := id hO
  obtain ⟨r1, r2, r3, r4⟩ := hroom
  rw [hown0] at hown
  rcases hE with ⟨-, rfl⟩ | ⟨h, -⟩
  · refine vx_throwS hx hb hstt hown hcls hnames (hts _ (List.mem_cons_of_mem _ hk)) (hts _ (List.mem_cons_of_mem _ hini)) (hK.2.2.2.2.1 _ hstr) (vx_hat (B := kNest) (fun z hz => hts _ (List.mem_cons_of_mem _ (hat1 z hz))) hat2 (fun z hz => va_Nw.use (List.all_eq_true.mp hnest z hz) (hK.2.2.1 z hz))) (fun z hz => List.all_eq_true.mp hot z hz) hSt.2.1 hSt.2.2 hS (by rw [hml]; exact hl.1) d0 d3 d4 d6 d9 (fun x hx => ?_) (by omega) (by show 0 + (13 * (names.length + 1) + 43) ≤ R.locals; omega) (by omega) (by omega) hlk (fun t hal hsz hkp => ?_) hS.2.2 (by omega) (by omega)
    · rw [htab hM, hnil] at hx
      cases hx
    · have hbH : b ≤ H.size := by rw [hR.1]; exact Nat.le_add_right _ _
      obtain ⟨n', hn'⟩ : ∃ n', t.heap.size = b + n' := ⟨t.heap.size - b, by omega⟩
      have hle : n ≤ n' := by
        have := hR.1
        omega
      refine ⟨⟨w, n', hq n' hle, hR.more hn' hle hkp⟩, Nat.le_trans hS.1 hsz, fun q h1 h2 => ?_⟩
      rw [hkp q (Nat.lt_of_lt_of_le h1 hS.1)]
      exact hS.2.1 q h1 h2
  · exact absurd h hM
/-- caught: the handler keeps the exception in a local that nobody reads -/
theorem kwx_catch {pc hpc i len : Nat} {E nm : String} (hM : M.1.name ≠ "law") (pre : List ExceptionTableEntry) (x : ExceptionTableEntry) (suf : List ExceptionTableEntry) (hsplit : tableOf M.2.2.2.2 = pre ++ x :: suf)
    (hpass : ∀ z ∈ pre, z.catchType ≠ 0 ∧ ∃ nm2 : String, Cond.classLink M.1.cls z.catchType nm2 ∈ kTb ∧ (E, nm2) ∈ kNc) (hx : covers x pc = true) (h0 : x.catchType ≠ 0) (hlink : Cond.classLink M.1.cls x.catchType nm ∈ kTb) (hcast : Cond.castable E nm ∈ kNest) (hh : x.handlerPc = hpc)
    (d : decode M.2.1 hpc = .ok (.astore i, 2)) (hn : i < M.2.2.1) (hk : kok L i = true) (kk : kW X M dd Q rc rs n w (hpc + 2) (L.filter (fun q => !(Nat.beq q.1 i))) []) : kWX X M dd Q rc rs n w pc L E := by
  intro G b p l e R s m args below meth c H locs cells slots ls Z q ce rest hO hE hR hS hc hs hl hce hcv hcl
  obtain ⟨hx1, hb, hml, hown, hts, hret, hlk, -, hstt, hK, hSt, hdR, hlR, hbs, htab⟩ := id hO
  subst hh
  refine vx_catch (pc := pc) hown pre x suf ((htab hM).trans hsplit) (fun z hz => Or.inr ?_) hx h0 (hts _ (List.mem_cons_of_mem _ hlink)) (va_Nw.use rfl (hK.2.2.1 _ hcast)) hce hcv hcl ?_
  · obtain ⟨g1, nm2, g2, g3⟩ := hpass z hz
    exact ⟨g1, nm2, hts _ (List.mem_cons_of_mem _ g2), hK.2.2.2.2.2 _ g3⟩
  · refine lv_astore hx1 hb d hl hn rfl (fun ls' hl' => kk G b p l e R s m args below meth c H locs cells slots ls' Z hO hE hR hS hc hs (lv_mono hl' (fun z hz => ?_)))
    have hz2 := kset_in (G := G) (b := b) (v := .ref 0) hk z (by
      obtain ⟨y, hy, rfl⟩ := List.mem_map.mp hz
      exact List.mem_map.mpr ⟨y, List.mem_cons_of_mem _ hy, rfl⟩)
    rcases List.mem_cons.mp hz2 with h | h
    · obtain ⟨y, hy, rfl⟩ := List.mem_map.mp hz
      have hy2 := (List.mem_filter.mp hy).2
      have hy3 : y.1 = i := congrArg Prod.fst h
      rw [hy3] at hy2
      simp at hy2
    · exact List.mem_cons_of_mem _ h
theorem kwx_catch_n {pc hpc : Nat} {i : Fin 4} {E nm : String} (hM : M.1.name ≠ "law") (pre : List ExceptionTableEntry) (x : ExceptionTableEntry) (suf : List ExceptionTableEntry) (hsplit : tableOf M.2.2.2.2 = pre ++ x :: suf)
    (hpass : ∀ z ∈ pre, z.catchType ≠ 0 ∧ ∃ nm2 : String, Cond.classLink M.1.cls z.catchType nm2 ∈ kTb ∧ (E, nm2) ∈ kNc) (hx : covers x pc = true) (h0 : x.catchType ≠ 0) (hlink : Cond.classLink M.1.cls x.catchType nm ∈ kTb) (hcast : Cond.castable E nm ∈ kNest) (hh : x.handlerPc = hpc)
    (d : decode M.2.1 hpc = .ok (.astore_n i, 1)) (hn : i.val < M.2.2.1) (hk : kok L i.val = true) (kk : kW X M dd Q rc rs n w (hpc + 1) (L.filter (fun q => !(Nat.beq q.1 i.val))) []) : kWX X M dd Q rc rs n w pc L E := by
  intro G b p l e R s m args below meth c H locs cells slots ls Z q ce rest hO hE hR hS hc hs hl hce hcv hcl
  obtain ⟨hx1, hb, hml, hown, hts, hret, hlk, -, hstt, hK, hSt, hdR, hlR, hbs, htab⟩ := id hO
  subst hh
  refine vx_catch (pc := pc) hown pre x suf ((htab hM).trans hsplit) (fun z hz => Or.inr ?_) hx h0 (hts _ (List.mem_cons_of_mem _ hlink)) (va_Nw.use rfl (hK.2.2.1 _ hcast)) hce hcv hcl ?_
  · obtain ⟨g1, nm2, g2, g3⟩ := hpass z hz
    exact ⟨g1, nm2, hts _ (List.mem_cons_of_mem _ g2), hK.2.2.2.2.2 _ g3⟩
  · refine lv_astore_n hx1 hb d rfl hl hn rfl (fun ls' hl' => kk G b p l e R s m args below meth c H locs cells slots ls' Z hO hE hR hS hc hs (lv_mono hl' (fun z hz => ?_)))
    have hz2 := kset_in (G := G) (b := b) (v := .ref 0) hk z (by
      obtain ⟨y, hy, rfl⟩ := List.mem_map.mp hz
      exact List.mem_map.mpr ⟨y, List.mem_cons_of_mem _ hy, rfl⟩)
    rcases List.mem_cons.mp hz2 with h | h
    · obtain ⟨y, hy, rfl⟩ := List.mem_map.mp hz
      have hy2 := (List.mem_filter.mp hy).2
      have hy3 : y.1 = i.val := congrArg Prod.fst h
      rw [hy3] at hy2
      simp at hy2
    · exact List.mem_cons_of_mem _ h
end KCALL
end
section
section KNEW
variable {X : Nat × (Nat → Int32)} {M : kMi} {dd : Nat} {Q : kQ} {rc rs n : Nat} {w : kM} {L : List (Nat × Value)} {st : List Value}
theorem kcv_def (G : kG) (b : Nat) (t : FieldType) : kcv G b (defaultValue t) = defaultValue t := by cases t <;> rfl
theorem kw_new {pc idx ci N : Nat} {C : String} {T : u_T} (ty : Nat → FieldType) (hFW : kFW) (d : decode M.2.1 pc = .ok (.new idx, 3)) (hci : kcl[ci]? = some (C, T, N)) (hty : ∀ k, k < N → parseFieldDescriptor (T k).2.2.1 = some (ty k)) (h1 : Cond.classLink M.1.cls idx C ∈ kTb) (h2 : Cond.instantiable C N ∈ kTb) (h3 : Cond.initialized C ∈ kTb) (hrc : 1 ≤ rc) (hrs : N ≤ rs) (kk : kW X M dd Q (rc - 1) (rs - N) (n + 1) (kup w n (kO ci (fun k => defaultValue (ty k)))) (pc + 3) L (.ref n :: st)) : kW X M dd Q rc rs n w pc L st := by
  intro G b p l e R s m args below meth c H locs cells slots ls Z hO hE hR hS hc hs hl
  obtain ⟨hx, hb, hml, hown, hts, hret, hlk, -, hstt, hK, hSt, hdR, hlR, hbs, htab⟩ := id hO
  have hKn := hK.1 ci _ hci
  refine W.newcK hx hb hown (hts _ (List.mem_cons_of_mem _ h1)) (hts _ (List.mem_cons_of_mem _ h2)) (hts _ (List.mem_cons_of_mem _ h3)) rfl d (by omega) (by omega) hKn.2.1 rfl fun H1 kC hkC e1 z1 o1 => ?_
  have hbn : H.size = b + n := hR.1
  have hat : kAt G b n (kO ci (fun k => defaultValue (ty k))) H1 := by
    refine ⟨_, hci, ?_⟩
    rw [← hbn]
    refine (u_born (iS := G.1.2 ci) ty hts (fun z hz => List.mem_cons_of_mem _ ((hFW ci _ hci).1 z hz)) hKn hkC e1 hty).to (fun k hk => ?_)
    exact (kcv_def G b (ty k)).symm
  have hk := kk G b p l e R s m args below meth c H1 locs (cells + 1) (slots + N) ls Z hO hE (hR.push hat (by omega) o1) ⟨Nat.le_trans hS.1 (by omega), fun x y1 y2 => (o1 x (Nat.lt_of_lt_of_le y1 hS.1)).trans (hS.2.1 x y1 y2), hS.2.2⟩ (by omega) (by omega) hl
  rw [hbn]
  exact hk
theorem kw_newarray {pc t N : Nat} {atype : ArrayType} {z : Int32} (d : decode M.2.1 pc = .ok (.newarray atype, 2)) (ht7 : t < 3) (hat0 : newarray.typeOf atype = kaT t) (h1 : Cond.arrayClass (newarray.typeOf atype) ∈ kTb) (hz0 : ¬ z < 0) (hz : z.toNatClampNeg = N) (hbytes : N * componentBytes (newarray.typeOf atype) ≤ 536870912) (hrc : 1 ≤ rc) (hrs : N ≤ rs) (kk : kW X M dd Q (rc - 1) (rs - N) (n + 1) (kup w n (kI t N (fun _ => 0))) (pc + 2) L (.ref n :: st)) : kW X M dd Q rc rs n w pc L (.int z :: st) := by
  intro G b p l e R s m args below meth c H locs cells slots ls Z hO hE hR hS hc hs hl
  obtain ⟨hx, hb, hml, hown, hts, hret, hlk, -, hstt, hK, hSt, hdR, hlR, hbs, htab⟩ := id hO
  have hbn : H.size = b + n := hR.1
  subst hz
  refine W.newa hx hb (hts _ (List.mem_cons_of_mem _ h1)) rfl d rfl hz0 hbytes (by omega) (by omega) fun cA kA comp g1 g2 g3 => ?_
  have hcA : cA = G.2.1 t := by
    have h9 := (hK.2.1 t (by omega)).2
    rw [hat0] at g1
    match t, ht7, h9, g1 with
    | 0, _, h9, g1 => exact Option.some.inj (g1.symm.trans h9)
    | 1, _, h9, g1 => exact Option.some.inj (g1.symm.trans h9)
    | 2, _, h9, g1 => exact Option.some.inj (g1.symm.trans h9)
  have hdv : defaultValue (newarray.typeOf atype) = .int 0 := by
    rw [hat0]
    match t, ht7 with
    | 0, _ => rfl
    | 1, _ => rfl
    | 2, _ => rfl
  have hat : kAt G b n (kI t z.toNatClampNeg (fun _ => 0)) (H.push { cls := cA, slots := Array.replicate z.toNatClampNeg (defaultValue (newarray.typeOf atype)), vm := .none }) := by
    refine ⟨by show t < 7; omega, ?_⟩
    show (H.push _)[b + n]? = some (arrV (G.2.1 t) _ (fun _ => .int 0))
    rw [← hbn, ← hcA, hdv, arrV_new]
    simp
  have hk := kk G b p l e R s m args below meth c _ locs (cells + 1) (slots + z.toNatClampNeg) ls Z hO hE (hR.push hat (by simp) (fun q hq => by rw [Array.getElem?_push, if_neg (Nat.ne_of_lt hq)])) ⟨Nat.le_trans hS.1 (by simp), fun x y1 y2 => by rw [Array.getElem?_push, if_neg (Nat.ne_of_lt (Nat.lt_of_lt_of_le y1 hS.1))]; exact hS.2.1 x y1 y2, hS.2.2⟩ (by omega) (by omega) hl
  show W p l e R s m args below meth c _ locs _ _ Z (F0 m (pc + 2) ls (.ref H.size :: st.map (kcv G b)))
  rw [hbn]
  exact hk
theorem kw_newlongs {pc N : Nat} {z : Int32} (d : decode M.2.1 pc = .ok (.newarray .long, 2)) (h1 : Cond.arrayClass .long ∈ kTb) (hz0 : ¬ z < 0) (hz : z.toNatClampNeg = N) (hbytes : N * componentBytes .long ≤ 536870912) (hrc : 1 ≤ rc) (hrs : N ≤ rs) (kk : kW X M dd Q (rc - 1) (rs - N) (n + 1) (kup w n (kV 3 N (fun _ => .long 0))) (pc + 2) L (.ref n :: st)) : kW X M dd Q rc rs n w pc L (.int z :: st) := by
  intro G b p l e R s m args below meth c H locs cells slots ls Z hO hE hR hS hc hs hl
  obtain ⟨hx, hb, hml, hown, hts, hret, hlk, -, hstt, hK, hSt, hdR, hlR, hbs, htab⟩ := id hO
  have hbn : H.size = b + n := hR.1
  subst hz
  refine W.newa (atype := .long) hx hb (hts _ (List.mem_cons_of_mem _ h1)) rfl d rfl hz0 hbytes (by omega) (by omega) fun cA kA comp g1 g2 g3 => ?_
  have hcA : cA = G.2.1 3 := Option.some.inj (g1.symm.trans (hK.2.1 3 (by decide)).2)
  have hat : kAt G b n (kV 3 z.toNatClampNeg (fun _ => .long 0)) (H.push { cls := cA, slots := Array.replicate z.toNatClampNeg (defaultValue (newarray.typeOf .long)), vm := .none }) := by
    refine ⟨by show 3 < 7; omega, ?_⟩
    show (H.push _)[b + n]? = some (arrV (G.2.1 3) _ (fun _ => .long 0))
    rw [← hbn, ← hcA, ← arrV_new, show defaultValue (newarray.typeOf .long) = .long 0 from rfl]
    simp
  have hk := kk G b p l e R s m args below meth c _ locs (cells + 1) (slots + z.toNatClampNeg) ls Z hO hE (hR.push hat (by simp) (fun q hq => by rw [Array.getElem?_push, if_neg (Nat.ne_of_lt hq)])) ⟨Nat.le_trans hS.1 (by simp), fun x y1 y2 => by rw [Array.getElem?_push, if_neg (Nat.ne_of_lt (Nat.lt_of_lt_of_le y1 hS.1))]; exact hS.2.1 x y1 y2, hS.2.2⟩ (by omega) (by omega) hl
  show W p l e R s m args below meth c _ locs _ _ Z (F0 m (pc + 2) ls (.ref H.size :: st.map (kcv G b)))
  rw [hbn]
  exact hk
/-- an array of references to objects of the class C -/
theorem kw_anewarray {pc idx t N : Nat} {C : String} {z : Int32} (d : decode M.2.1 pc = .ok (.anewarray idx, 3)) (ht7 : t < 7) (hat0 : kaT t = .object C) (h1 : Cond.classLink M.1.cls idx C ∈ kTb) (h2 : C = "StringRates$Parcel" ∨ C = "StringRates$Office") (hz0 : ¬ z < 0) (hz : z.toNatClampNeg = N) (hbytes : N * 4 ≤ 536870912) (hrc : 1 ≤ rc) (hrs : N ≤ rs) (kk : kW X M dd Q (rc - 1) (rs - N) (n + 1) (kup w n (kV t N (fun _ => .null))) (pc + 3) L (.ref n :: st)) : kW X M dd Q rc rs n w pc L (.int z :: st) := by
  intro G b p l e R s m args below meth c H locs cells slots ls Z hO hE hR hS hc hs hl
  obtain ⟨hx, hb, hml, hown, hts, hret, hlk, -, hstt, hK, hSt, hdR, hlR, hbs, htab⟩ := id hO
  have hbn : H.size = b + n := hR.1
  subst hz
  have hao : va_AO C s := by
    rcases h2 with rfl | rfl
    · exact hK.2.2.2.1.1
    · exact hK.2.2.2.1.2.1
  refine W.anew hx hb hown (hts _ (List.mem_cons_of_mem _ h1)) (va_AO.use hao) rfl d rfl hz0 hbytes (by omega) (by omega) fun cA kA comp g1 g2 g3 g4 => ?_
  have hcA : cA = G.2.1 t := by
    have h9 := (hK.2.1 t ht7).2
    rw [hat0] at h9
    obtain ⟨kA2, comp2, j1, j2, j3, j4⟩ := h9
    exact Option.some.inj (g1.symm.trans j4)
  have hat : kAt G b n (kV t z.toNatClampNeg (fun _ => .null)) (H.push { cls := cA, slots := Array.replicate z.toNatClampNeg .null, vm := .none }) := by
    refine ⟨ht7, ?_⟩
    show (H.push _)[b + n]? = some (arrV (G.2.1 t) _ (fun _ => .null))
    rw [← hbn, ← hcA, arrV_new]
    simp
  have hk := kk G b p l e R s m args below meth c _ locs (cells + 1) (slots + z.toNatClampNeg) ls Z hO hE (hR.push hat (by simp) (fun q hq => by rw [Array.getElem?_push, if_neg (Nat.ne_of_lt hq)])) ⟨Nat.le_trans hS.1 (by simp), fun x y1 y2 => by rw [Array.getElem?_push, if_neg (Nat.ne_of_lt (Nat.lt_of_lt_of_le y1 hS.1))]; exact hS.2.1 x y1 y2, hS.2.2⟩ (by omega) (by omega) hl
  show W p l e R s m args below meth c _ locs _ _ Z (F0 m (pc + 3) ls (.ref H.size :: st.map (kcv G b)))
  rw [hbn]
  exact hk
/-- java.lang.Math -/
def kLM (own : String) (idx : Nat) (y : MethodName) (code : ByteArray) (nL : Nat) : Prop := Cond.methodLink own idx y ∈ kTb ∧ Cond.static y ∈ kTb ∧ Cond.initialized "java/lang/Math" ∈ kTb ∧ Cond.code y code nL (some .int) ∈ kTb
theorem kw_mmax {pc idx : Nat} {x y : Int32} (d : decode M.2.1 pc = .ok (.invokestatic idx, 3)) (hw : kLM M.1.cls idx Lib.Math.max.name Lib.Math.max.code 2) (hd1 : 1 ≤ dd) (hcat : (st.map fun v => v.category).sum ≤ 40) (k : kW X M dd Q rc rs n w (pc + 3) L (.int (if x < y then y else x) :: st)) : kW X M dd Q rc rs n w pc L (.int y :: .int x :: st) := by
  intro G b p l e R s m args below meth c H locs cells slots ls Z hO hE hR hS hc hs hl
  obtain ⟨hx, hb, hml, hown, hts, -, -, -, hstt, hK, hSt, hdR, hlR, -, -⟩ := id hO
  exact va_mmax hx hb (by rw [hml]; exact hl.1.symm) hown (hts _ (List.mem_cons_of_mem _ hw.1)) (hts _ (List.mem_cons_of_mem _ hw.2.1)) (hts _ (List.mem_cons_of_mem _ hw.2.2.1)) (hts _ (List.mem_cons_of_mem _ hw.2.2.2)) (by omega) (by rw [kcats]; omega) (by omega) (by omega) d (k G b p l e R s m args below meth c H locs cells slots ls Z hO hE hR hS hc hs hl)
theorem kw_mmin {pc idx : Nat} {x y : Int32} (d : decode M.2.1 pc = .ok (.invokestatic idx, 3)) (hw : kLM M.1.cls idx Lib.Math.min.name Lib.Math.min.code 2) (hd1 : 1 ≤ dd) (hcat : (st.map fun v => v.category).sum ≤ 40) (k : kW X M dd Q rc rs n w (pc + 3) L (.int (if y < x then y else x) :: st)) : kW X M dd Q rc rs n w pc L (.int y :: .int x :: st) := by
  intro G b p l e R s m args below meth c H locs cells slots ls Z hO hE hR hS hc hs hl
  obtain ⟨hx, hb, hml, hown, hts, -, -, -, hstt, hK, hSt, hdR, hlR, -, -⟩ := id hO
  exact va_mmin hx hb (by rw [hml]; exact hl.1.symm) hown (hts _ (List.mem_cons_of_mem _ hw.1)) (hts _ (List.mem_cons_of_mem _ hw.2.1)) (hts _ (List.mem_cons_of_mem _ hw.2.2.1)) (hts _ (List.mem_cons_of_mem _ hw.2.2.2)) (by omega) (by rw [kcats]; omega) (by omega) (by omega) d (k G b p l e R s m args below meth c H locs cells slots ls Z hO hE hR hS hc hs hl)
theorem kw_mabs {pc idx : Nat} {x : Int32} (d : decode M.2.1 pc = .ok (.invokestatic idx, 3)) (hw : kLM M.1.cls idx Lib.Math.abs.name Lib.Math.abs.code 1) (hd1 : 1 ≤ dd) (hcat : (st.map fun v => v.category).sum ≤ 40) (k : kW X M dd Q rc rs n w (pc + 3) L (.int (if 0 ≤ x then x else 0 - x) :: st)) : kW X M dd Q rc rs n w pc L (.int x :: st) := by
  intro G b p l e R s m args below meth c H locs cells slots ls Z hO hE hR hS hc hs hl
  obtain ⟨hx, hb, hml, hown, hts, -, -, -, hstt, hK, hSt, hdR, hlR, -, -⟩ := id hO
  exact va_mabs hx hb (by rw [hml]; exact hl.1.symm) hown (hts _ (List.mem_cons_of_mem _ hw.1)) (hts _ (List.mem_cons_of_mem _ hw.2.1)) (hts _ (List.mem_cons_of_mem _ hw.2.2.1)) (hts _ (List.mem_cons_of_mem _ hw.2.2.2)) (by omega) (by rw [kcats]; omega) (by omega) (by omega) d (k G b p l e R s m args below meth c H locs cells slots ls Z hO hE hR hS hc hs hl)
theorem kw_ldc2 {pc idx : Nat} {v : Int64} (d : decode M.2.1 pc = .ok (.ldc2_w idx, 3)) (hw : Cond.constantLong M.1.cls idx v ∈ kTb) (k : kW X M dd Q rc rs n w (pc + 3) L (.long v :: st)) : kW X M dd Q rc rs n w pc L st := by
  intro G b p l e R s m args below meth c H locs cells slots ls Z hO hE hR hS hc hs hl
  obtain ⟨hx, hb, hml, hown, hts, -⟩ := id hO
  exact lv_ldc2 hx hb hown (hts _ (List.mem_cons_of_mem _ hw)) d (k G b p l e R s m args below meth c H locs cells slots ls Z hO hE hR hS hc hs hl)
theorem kw_ldc2d {pc idx : Nat} {v : UInt64} (d : decode M.2.1 pc = .ok (.ldc2_w idx, 3)) (hw : Cond.constantDouble M.1.cls idx v ∈ kTb) (k : kW X M dd Q rc rs n w (pc + 3) L (.double v :: st)) : kW X M dd Q rc rs n w pc L st := by
  intro G b p l e R s m args below meth c H locs cells slots ls Z hO hE hR hS hc hs hl
  obtain ⟨hx, hb, hml, hown, hts, -⟩ := id hO
  exact lv_ldc2d hx hb hown (hts _ (List.mem_cons_of_mem _ hw)) d (k G b p l e R s m args below meth c H locs cells slots ls Z hO hE hR hS hc hs hl)
/-- System.arraycopy of ints between two arrays -/
theorem kw_acopy {pc idx a0 a1 n0 n1 : Nat} {f g : Nat → Int32} {sp dp z : Int32} (d : decode M.2.1 pc = .ok (.invokestatic idx, 3)) (w1 : Cond.methodLink M.1.cls idx arraycopyName ∈ kTb) (w2 : Cond.native arraycopyName ∈ kTb) (w3 : Cond.static arraycopyName ∈ kTb) (w4 : Cond.initialized "java/lang/System" ∈ kTb)
    (ha0 : w a0 = kI 0 n0 f) (ha1 : w a1 = kI 0 n1 g) (hne : a0 ≠ a1) (h1 : ¬ sp < 0) (h2 : ¬ dp < 0) (h3 : ¬ z < 0) (h4 : sp.toNatClampNeg + z.toNatClampNeg ≤ n0) (h5 : dp.toNatClampNeg + z.toNatClampNeg ≤ n1) (hd1 : 1 ≤ dd) (hcat : (st.map fun v => v.category).sum + (nativeFrameWords "java/lang/System" "arraycopy" 5 + 11) ≤ 60)
    (kk : kW X M dd Q rc rs n (kup w a1 (kI 0 n1 (va_cpy f g sp.toNatClampNeg dp.toNatClampNeg z.toNatClampNeg))) (pc + 3) L st) : kW X M dd Q rc rs n w pc L (.int z :: .int dp :: .ref a1 :: .int sp :: .ref a0 :: st) := by
  intro G b p l e R s m args below meth c H locs cells slots ls Z hO hE hR hS hc hs hl
  obtain ⟨hx, hb, hml, hown, hts, -, -, -, hstt, hK, hSt, hdR, hlR, -, -⟩ := id hO
  have hA0 := hR.2.2 a0
  rw [ha0] at hA0
  have hA1 := hR.2.2 a1
  rw [ha1] at hA1
  have hal : a1 < n := hR.lt (by rw [ha1]; intro q; cases q)
  have nn : ∀ y : Int32, ¬ y < 0 → y.toInt = (y.toNatClampNeg : Int) := by
    intro y hz
    have hz0 : (0 : Int) ≤ y.toInt := by
      have := Int32.not_lt.mp hz
      simpa using Int32.le_iff_toInt_le.mp this
    show y.toInt = ((y.toInt.toNat : Nat) : Int)
    omega
  have hA0 : H[b + a0]? = some (arrV (G.2.1 0) n0 (fun j => .int (f j))) := hA0.2
  have hA1 : H[b + a1]? = some (arrV (G.2.1 0) n1 (fun j => .int (g j))) := hA1.2
  obtain ⟨-, k0, hk0, cm0, hkk0⟩ := (hK.2.1 0 (by decide)).1 n0 (fun j => .int (f j))
  obtain ⟨-, k1, hk1, cm1, hkk1⟩ := (hK.2.1 0 (by decide)).1 n1 (fun j => .int (g j))
  intro T hT X0
  obtain ⟨vm', X', step⟩ := X0.arraycopy hx hown (hts _ (List.mem_cons_of_mem _ w1)) (hts _ (List.mem_cons_of_mem _ w2)) (hts _ (List.mem_cons_of_mem _ w3)) (hts _ (List.mem_cons_of_mem _ w4)) (src := b + a0) (dst := b + a1) (cs := arrV (G.2.1 0) n0 (fun j => .int (f j))) (cd := arrV (G.2.1 0) n1 (fun j => .int (g j))) (srcPos := sp) (destPos := dp) (n := z) (by rw [hT]; exact hA0) (by rw [hT]; exact hA1)
    (fun _ h => by cases h) (fun _ h => by cases h) (fun h => by cases h) (fun h => by cases h) hk0 hk1 hkk0 hkk1 (by simp [kaT, refKind]) h1 h2 h3
    (by rw [nn sp h1, nn z h3]; show ¬ _ > ((arrV _ n0 (fun j => .int (f j))).slots.size : Int); rw [arrV_size]; omega)
    (by rw [nn dp h2, nn z h3]; show ¬ _ > ((arrV _ n1 (fun j => .int (g j))).slots.size : Int); rw [arrV_size]; omega)
    (fun vm₁ _ i hi => by
      have e : (arrV (G.2.1 0) n0 (fun j => .int (f j))).slots.getD (sp.toNatClampNeg + i) .null = .int (f (sp.toNatClampNeg + i)) := by
        rw [Array.getD_eq_getD_getElem?, arrV_read _ _ (by omega)]
        rfl
      refine ⟨?_, ?_⟩
      · rw [e]
        rfl
      · rw [e]
        exact trivial)
    (g := F0 m pc ls (.int z :: .int dp :: .ref (b + a1) :: .int sp :: .ref (b + a0) :: st.map (kcv G b))) rfl (by rw [hml]; exact hl.1) (rest := st.map (kcv G b)) rfl (by rw [hb]; exact d) (by omega) (by rw [kcats]; show 2 * 0 + _ + _ ≤ _; omega)
  have e1 : copied (arrV (G.2.1 0) n0 (fun j => .int (f j))) (arrV (G.2.1 0) n1 (fun j => .int (g j))) sp dp z = arrV (G.2.1 0) n1 (fun j => .int (va_cpy f g sp.toNatClampNeg dp.toNatClampNeg z.toNatClampNeg j)) := va_copied (fun z => .int z) _ _ f g h4
  rw [e1] at X' step
  have hl1 : b + a1 < H.size := (Array.getElem?_eq_some_iff.mp hA1).1
  have hheap : ((T.setVm vm').setCell (b + a1) (arrV (G.2.1 0) n1 (fun j => .int (va_cpy f g sp.toNatClampNeg dp.toNatClampNeg z.toNatClampNeg j)))).heap = H.setIfInBounds (b + a1) (arrV (G.2.1 0) n1 (fun j => .int (va_cpy f g sp.toNatClampNeg dp.toNatClampNeg z.toNatClampNeg j))) := by rw [← hT]; rfl
  have oq : ∀ q : Nat, q ≠ b + a1 → (H.setIfInBounds (b + a1) (arrV (G.2.1 0) n1 (fun j => .int (va_cpy f g sp.toNatClampNeg dp.toNatClampNeg z.toNatClampNeg j))))[q]? = H[q]? := fun q hq => by simp [Array.getElem?_setIfInBounds, Ne.symm hq]
  have hR1 := hR.put (H1 := H.setIfInBounds (b + a1) (arrV (G.2.1 0) n1 (fun j => .int (va_cpy f g sp.toNatClampNeg dp.toNatClampNeg z.toNatClampNeg j)))) (c := kI 0 n1 (va_cpy f g sp.toNatClampNeg dp.toNatClampNeg z.toNatClampNeg)) hal ⟨by show 0 < 7; decide, by show (H.setIfInBounds (b + a1) _)[b + a1]? = some _; simp [Array.getElem?_setIfInBounds, hl1]⟩ (by simp) oq
  obtain ⟨t, y1, y2⟩ := kk G b p l e R s m args below meth c _ _ cells slots ls Z hO hE hR1 ⟨by simp; exact hS.1, fun q g1 g2 => by
      rw [oq q (fun e => g2 (by rw [e]; exact Nat.le_add_right _ _))]
      exact hS.2.1 q g1 g2, fun q hq => by
      rcases List.mem_append.mp hq with h | h
      · exact hS.2.2 q h
      · obtain ⟨y, -, hz⟩ := List.mem_map.mp h
        rw [← hz]
        exact Nat.le_add_right _ _⟩ hc hs hl _ hheap X'
  exact ⟨t, step t y1, y2⟩
end KNEW
end
section
abbrev mX0_init : kMi := (yX0_init, cX0_init, 1, none, [])
abbrev mX0_postageOfPair : kMi := (yX0_postageOfPair, cX0_postageOfPair, 4, (some .int), [])
abbrev mX0_weigh : kMi := (yX0_weigh, cX0_weigh, 7, none, [])
abbrev mX0_costUnbundled : kMi := (yX0_costUnbundled, cX0_costUnbundled, 3, (some .int), [])
abbrev mX0_leastBySets : kMi := (yX0_leastBySets, cX0_leastBySets, 3, (some .int), [])
abbrev mX0_leastWithLast : kMi := (yX0_leastWithLast, cX0_leastWithLast, 5, (some .int), [])
abbrev mX0_leastByTrying : kMi := (yX0_leastByTrying, cX0_leastByTrying, 1, (some .int), [])
abbrev mX0_leastFrom : kMi := (yX0_leastFrom, cX0_leastFrom, 6, (some .int), [])
abbrev mX1_init : kMi := (yX1_init, cX1_init, 2, none, [])
abbrev mX1_copyFrom : kMi := (yX1_copyFrom, cX1_copyFrom, 3, none, [])
abbrev mX1_admit : kMi := (yX1_admit, cX1_admit, 7, (some .int), [])
abbrev mX1_remove : kMi := (yX1_remove, cX1_remove, 4, none, [])
abbrev mX1_sendOff : kMi := (yX1_sendOff, cX1_sendOff, 4, (some .int), [])
abbrev mX1_decideDispute : kMi := (yX1_decideDispute, cX1_decideDispute, 5, (some .int), [])
abbrev mX1_dispatch : kMi := (yX1_dispatch, cX1_dispatch, 4, (some .int), [])
abbrev mX1_stringOf : kMi := (yX1_stringOf, cX1_stringOf, 3, (some .int), [])
abbrev mX1_isOdd : kMi := (yX1_isOdd, cX1_isOdd, 2, (some .boolean), [])
abbrev mX1_reasonAgainst : kMi := (yX1_reasonAgainst, cX1_reasonAgainst, 3, (some .int), [])
abbrev mX1_isTaken : kMi := (yX1_isTaken, cX1_isTaken, 2, (some .boolean), [])
abbrev mX1_postageFor : kMi := (yX1_postageFor, cX1_postageFor, 5, (some .int), [])
abbrev mX1_rateUpwards : kMi := (yX1_rateUpwards, cX1_rateUpwards, 5, (some .int), [])
abbrev mX1_rateDownwards : kMi := (yX1_rateDownwards, cX1_rateDownwards, 5, (some .int), [])
abbrev mX1_leastWay : kMi := (yX1_leastWay, cX1_leastWay, 6, (some .int), [])
abbrev mX1_dearestTaken : kMi := (yX1_dearestTaken, cX1_dearestTaken, 6, (some .int), [])
abbrev mX1_numberOf : kMi := (yX1_numberOf, cX1_numberOf, 3, (some .int), [])
abbrev mX1_tally : kMi := (yX1_tally, cX1_tally, 2, (some .int), [])
abbrev mX1_bandOf : kMi := (yX1_bandOf, cX1_bandOf, 2, (some .int), [])
abbrev mX1_takenParcels : kMi := (yX1_takenParcels, cX1_takenParcels, 3, (some .int), [])
abbrev mX1_oddParcels : kMi := (yX1_oddParcels, cX1_oddParcels, 3, (some .int), [])
abbrev mX1_undercutBands : kMi := (yX1_undercutBands, cX1_undercutBands, 4, (some .int), [])
abbrev mX2_init : kMi := (yX2_init, cX2_init, 1, none, [])
abbrev mX2_fill : kMi := (yX2_fill, cX2_fill, 7, none, [])
abbrev mX2_copyFrom : kMi := (yX2_copyFrom, cX2_copyFrom, 2, none, [])
abbrev mX2_becomeBundle : kMi := (yX2_becomeBundle, cX2_becomeBundle, 3, none, [])
abbrev mX2_tie : kMi := (yX2_tie, cX2_tie, 3, (some .int), [])
abbrev mX2_insure : kMi := (yX2_insure, cX2_insure, 3, (some .int), [])
abbrev mX2_girth : kMi := (yX2_girth, cX2_girth, 1, (some .int), [])
abbrev mX2_stringWithoutKnots : kMi := (yX2_stringWithoutKnots, cX2_stringWithoutKnots, 2, (some .int), [])
abbrev mX2_laySides : kMi := (yX2_laySides, cX2_laySides, 4, none, [])
abbrev mX3_init : kMi := (yX3_init, cX3_init, 1, none, [])
abbrev mX3_hasRoom : kMi := (yX3_hasRoom, cX3_hasRoom, 1, (some .boolean), [])
abbrev mX3_add : kMi := (yX3_add, cX3_add, 2, none, [])
abbrev mX3_clear : kMi := (yX3_clear, cX3_clear, 1, none, [])
abbrev mX3_errorPlace : kMi := (yX3_errorPlace, cX3_errorPlace, 2, (some .int), [])
abbrev mX3_tellsParcels : kMi := (yX3_tellsParcels, cX3_tellsParcels, 1, (some .boolean), [])
abbrev mX3_startReading : kMi := (yX3_startReading, cX3_startReading, 1, none, [])
abbrev mX3_isAtParcelEnd : kMi := (yX3_isAtParcelEnd, cX3_isAtParcelEnd, 1, (some .boolean), [])
abbrev mX3_admitReadTo : kMi := (yX3_admitReadTo, cX3_admitReadTo, 2, (some .int), [])
abbrev mX3_reads : kMi := (yX3_reads, cX3_reads, 2, (some .boolean), [])
abbrev mX3_readsInNumber : kMi := (yX3_readsInNumber, cX3_readsInNumber, 3, (some .boolean), [])
abbrev mX3_endsNumber : kMi := (yX3_endsNumber, cX3_endsNumber, 1, (some .boolean), [])
abbrev mX3_readsChoice : kMi := (yX3_readsChoice, cX3_readsChoice, 3, (some .boolean), [])
abbrev mX3_wayOf : kMi := (yX3_wayOf, cX3_wayOf, 1, (some .int), [])
abbrev mX4_init : kMi := (yX4_init, cX4_init, 2, none, [])
abbrev mX4_save : kMi := (yX4_save, cX4_save, 2, none, [])
abbrev mX4_restoreLatest : kMi := (yX4_restoreLatest, cX4_restoreLatest, 2, none, [])
abbrev mX4_dropOldest : kMi := (yX4_dropOldest, cX4_dropOldest, 3, none, [])
abbrev mX5_init : kMi := (yX5_init, cX5_init, 2, none, [])
abbrev mX5_bring : kMi := (yX5_bring, cX5_bring, 6, (some .int), [])
abbrev mX5_change : kMi := (yX5_change, cX5_change, 5, (some .int), [])
abbrev mX5_send : kMi := (yX5_send, cX5_send, 2, (some .int), [])
abbrev mX5_dispute : kMi := (yX5_dispute, cX5_dispute, 3, (some .int), [])
abbrev mX5_takeBack : kMi := (yX5_takeBack, cX5_takeBack, 2, (some .int), [])
abbrev mX5_price : kMi := (yX5_price, cX5_price, 4, (some .int), [])
abbrev mX5_zone : kMi := (yX5_zone, cX5_zone, 4, (some .int), [])
abbrev mX5_set : kMi := (yX5_set, cX5_set, 4, (some .int), [])
abbrev mX5_append : kMi := (yX5_append, cX5_append, 2, (some .int), [])
abbrev mX5_clearBuffer : kMi := (yX5_clearBuffer, cX5_clearBuffer, 2, (some .int), [])
abbrev mX5_firstError : kMi := (yX5_firstError, cX5_firstError, 1, (some .int), [])
abbrev mX5_run : kMi := (yX5_run, cX5_run, 2, (some .int), [])
abbrev mX5_keep : kMi := (yX5_keep, cX5_keep, 2, (some .int), [])
abbrev mX5_goBack : kMi := (yX5_goBack, cX5_goBack, 2, (some .int), [])
abbrev mX5_undo : kMi := (yX5_undo, cX5_undo, 1, (some .int), [])
abbrev mX5_parcelOf : kMi := (yX5_parcelOf, cX5_parcelOf, 3, (some .int), [])
abbrev mX5_rate : kMi := (yX5_rate, cX5_rate, 3, (some .int), [])
abbrev mX5_count : kMi := (yX5_count, cX5_count, 2, (some .int), [])
abbrev mX5_setting : kMi := (yX5_setting, cX5_setting, 2, (some .int), [])
abbrev mX5_cheapestWay : kMi := (yX5_cheapestWay, cX5_cheapestWay, 2, (some .int), [])
abbrev mX5_ifBundled : kMi := (yX5_ifBundled, cX5_ifBundled, 3, (some .int), [])
abbrev mX5_cheapest : kMi := (yX5_cheapest, cX5_cheapest, 2, (some .int), [])
abbrev mX5_dearest : kMi := (yX5_dearest, cX5_dearest, 1, (some .int), [])
abbrev mX5_savedShare : kMi := (yX5_savedShare, cX5_savedShare, 2, (some .double), [])
abbrev mX5_digest : kMi := (yX5_digest, cX5_digest, 4, (some .long), [])
abbrev mX5_isIn : kMi := (yX5_isIn, cX5_isIn, 3, (some .boolean), [])
abbrev mX5_requireArgument : kMi := (yX5_requireArgument, cX5_requireArgument, 1, none, [])
abbrev mX5_requireIndex : kMi := (yX5_requireIndex, cX5_requireIndex, 2, none, [])
abbrev mX5_requireParcel : kMi := (yX5_requireParcel, cX5_requireParcel, 2, none, [])
abbrev mX5_admitAllOfText : kMi := (yX5_admitAllOfText, cX5_admitAllOfText, 3, (some .int), [])
abbrev mX5_fold : kMi := (yX5_fold, cX5_fold, 4, (some .long), [])
abbrev mX5_foldRow : kMi := (yX5_foldRow, cX5_foldRow, 7, (some .long), [])
abbrev mX5_foldParcel : kMi := (yX5_foldParcel, cX5_foldParcel, 7, (some .long), [])
abbrev mX5_bitsOfShare : kMi := (yX5_bitsOfShare, cX5_bitsOfShare, 7, (some .long), [])
abbrev mX6_init : kMi := (yX6_init, cX6_init, 2, none, [])
abbrev mX6_thrown : kMi := (yX6_thrown, cX6_thrown, 1, (some .int), [])
abbrev mX6_in : kMi := (yX6_in, cX6_in, 3, (some .boolean), [])
abbrev mX6_goes : kMi := (yX6_goes, cX6_goes, 3, (some .boolean), [])
abbrev mX6_greater : kMi := (yX6_greater, cX6_greater, 2, (some .int), [])
abbrev mX6_copies : kMi := (yX6_copies, cX6_copies, 4, none, [])
abbrev mX6_saves : kMi := (yX6_saves, cX6_saves, 2, none, [])
abbrev mX6_sets : kMi := (yX6_sets, cX6_sets, 4, (some .int), [])
abbrev mX6_isParcel : kMi := (yX6_isParcel, cX6_isParcel, 2, (some .boolean), [])
abbrev mX6_at : kMi := (yX6_at, cX6_at, 1, (some .int), [])
abbrev mX6_girth : kMi := (yX6_girth, cX6_girth, 2, (some .int), [])
abbrev mX6_string : kMi := (yX6_string, cX6_string, 6, (some .int), [])
abbrev mX6_bandOf : kMi := (yX6_bandOf, cX6_bandOf, 1, (some .int), [])
abbrev mX6_rateOf : kMi := (yX6_rateOf, cX6_rateOf, 4, (some .int), [])
abbrev mX6_isOdd : kMi := (yX6_isOdd, cX6_isOdd, 2, (some .boolean), [])
abbrev mX6_postageWith : kMi := (yX6_postageWith, cX6_postageWith, 4, (some .int), [])
abbrev mX6_postage : kMi := (yX6_postage, cX6_postage, 2, (some .int), [])
abbrev mX6_reason : kMi := (yX6_reason, cX6_reason, 4, (some .int), [])
abbrev mX6_sorts : kMi := (yX6_sorts, cX6_sorts, 7, none, [])
abbrev mX6_laysBundle : kMi := (yX6_laysBundle, cX6_laysBundle, 5, (some .boolean), [])
abbrev mX6_bundled : kMi := (yX6_bundled, cX6_bundled, 3, (some .int), [])
abbrev mX6_alone : kMi := (yX6_alone, cX6_alone, 2, (some .int), [])
abbrev mX6_bySets : kMi := (yX6_bySets, cX6_bySets, 6, (some .int), [])
abbrev mX6_costOf : kMi := (yX6_costOf, cX6_costOf, 4, (some .int), [])
abbrev mX6_isFree : kMi := (yX6_isFree, cX6_isFree, 5, (some .boolean), [])
abbrev mX6_canHave : kMi := (yX6_canHave, cX6_canHave, 3, (some .boolean), [])
abbrev mX6_byTrying : kMi := (yX6_byTrying, cX6_byTrying, 5, (some .int), [])
abbrev mX6_least : kMi := (yX6_least, cX6_least, 2, (some .int), [])
abbrev mX6_comes : kMi := (yX6_comes, cX6_comes, 8, (some .int), [])
abbrev mX6_isGone : kMi := (yX6_isGone, cX6_isGone, 3, none, [])
abbrev mX6_isSide : kMi := (yX6_isSide, cX6_isSide, 1, (some .boolean), [])
abbrev mX6_bring : kMi := (yX6_bring, cX6_bring, 6, (some .int), [])
abbrev mX6_change : kMi := (yX6_change, cX6_change, 4, (some .int), [])
abbrev mX6_sends : kMi := (yX6_sends, cX6_sends, 3, (some .int), [])
abbrev mX6_send : kMi := (yX6_send, cX6_send, 3, (some .int), [])
abbrev mX6_dispute : kMi := (yX6_dispute, cX6_dispute, 5, (some .int), [])
abbrev mX6_takeBack : kMi := (yX6_takeBack, cX6_takeBack, 2, (some .int), [])
abbrev mX6_price : kMi := (yX6_price, cX6_price, 3, (some .int), [])
abbrev mX6_zone : kMi := (yX6_zone, cX6_zone, 3, (some .int), [])
abbrev mX6_isValue : kMi := (yX6_isValue, cX6_isValue, 2, (some .boolean), [])
abbrev mX6_set : kMi := (yX6_set, cX6_set, 3, (some .int), [])
abbrev mX6_append : kMi := (yX6_append, cX6_append, 2, (some .int), [])
abbrev mX6_clearBuffer : kMi := (yX6_clearBuffer, cX6_clearBuffer, 2, (some .int), [])
abbrev mX6_isHere : kMi := (yX6_isHere, cX6_isHere, 3, (some .boolean), [])
abbrev mX6_takes : kMi := (yX6_takes, cX6_takes, 3, (some .boolean), [])
abbrev mX6_number : kMi := (yX6_number, cX6_number, 3, (some .int), [])
abbrev mX6_readsParcel : kMi := (yX6_readsParcel, cX6_readsParcel, 2, (some .boolean), [])
abbrev mX6_error : kMi := (yX6_error, cX6_error, 1, (some .int), [])
abbrev mX6_firstError : kMi := (yX6_firstError, cX6_firstError, 2, (some .int), [])
abbrev mX6_run : kMi := (yX6_run, cX6_run, 5, (some .int), [])
abbrev mX6_isSlot : kMi := (yX6_isSlot, cX6_isSlot, 1, (some .boolean), [])
abbrev mX6_keep : kMi := (yX6_keep, cX6_keep, 2, (some .int), [])
abbrev mX6_goBack : kMi := (yX6_goBack, cX6_goBack, 2, (some .int), [])
abbrev mX6_undo : kMi := (yX6_undo, cX6_undo, 1, (some .int), [])
abbrev mX6_property : kMi := (yX6_property, cX6_property, 4, (some .int), [])
abbrev mX6_parcelOf : kMi := (yX6_parcelOf, cX6_parcelOf, 3, (some .int), [])
abbrev mX6_rateDown : kMi := (yX6_rateDown, cX6_rateDown, 4, (some .int), [])
abbrev mX6_rated : kMi := (yX6_rated, cX6_rated, 3, (some .int), [])
abbrev mX6_rate : kMi := (yX6_rate, cX6_rate, 3, (some .int), [])
abbrev mX6_parcels : kMi := (yX6_parcels, cX6_parcels, 4, (some .int), [])
abbrev mX6_lowBands : kMi := (yX6_lowBands, cX6_lowBands, 4, (some .int), [])
abbrev mX6_counted : kMi := (yX6_counted, cX6_counted, 2, (some .int), [])
abbrev mX6_count : kMi := (yX6_count, cX6_count, 2, (some .int), [])
abbrev mX6_setting : kMi := (yX6_setting, cX6_setting, 2, (some .int), [])
abbrev mX6_wayFor : kMi := (yX6_wayFor, cX6_wayFor, 6, (some .int), [])
abbrev mX6_cheapestWay : kMi := (yX6_cheapestWay, cX6_cheapestWay, 2, (some .int), [])
abbrev mX6_ifBundled : kMi := (yX6_ifBundled, cX6_ifBundled, 3, (some .int), [])
abbrev mX6_cheapest : kMi := (yX6_cheapest, cX6_cheapest, 2, (some .int), [])
abbrev mX6_dearestParcel : kMi := (yX6_dearestParcel, cX6_dearestParcel, 3, (some .int), [])
abbrev mX6_dearest : kMi := (yX6_dearest, cX6_dearest, 1, (some .int), [])
abbrev mX6_savedShare : kMi := (yX6_savedShare, cX6_savedShare, 3, (some .double), [])
abbrev mX6_ofParcel : kMi := (yX6_ofParcel, cX6_ofParcel, 7, (some .long), [])
abbrev mX6_digest : kMi := (yX6_digest, cX6_digest, 4, (some .long), [])
abbrev mL_bring : kMi := (yL_bring, cL_bring, 8, (some .int), [(0, 16, 19, 13)])
abbrev mL_change : kMi := (yL_change, cL_change, 6, (some .int), [(0, 12, 15, 19), (0, 12, 19, 13)])
abbrev mL_send : kMi := (yL_send, cL_send, 4, (some .int), [(0, 9, 12, 19)])
abbrev mL_dispute : kMi := (yL_dispute, cL_dispute, 5, (some .int), [(0, 10, 13, 19), (0, 10, 17, 13)])
abbrev mL_takeBack : kMi := (yL_takeBack, cL_takeBack, 4, (some .int), [(0, 9, 12, 19)])
abbrev mL_price : kMi := (yL_price, cL_price, 5, (some .int), [(0, 10, 13, 19), (0, 10, 17, 13)])
abbrev mL_zone : kMi := (yL_zone, cL_zone, 5, (some .int), [(0, 10, 13, 19), (0, 10, 17, 13)])
abbrev mL_set : kMi := (yL_set, cL_set, 5, (some .int), [(0, 10, 13, 19), (0, 10, 17, 13)])
abbrev mL_append : kMi := (yL_append, cL_append, 4, (some .int), [(0, 9, 12, 13), (0, 9, 15, 44)])
abbrev mL_run : kMi := (yL_run, cL_run, 3, (some .int), [(0, 8, 11, 13)])
abbrev mL_keep : kMi := (yL_keep, cL_keep, 4, (some .int), [(0, 9, 12, 13)])
abbrev mL_goBack : kMi := (yL_goBack, cL_goBack, 4, (some .int), [(0, 9, 12, 13), (0, 9, 15, 44)])
abbrev mL_undo : kMi := (yL_undo, cL_undo, 3, (some .int), [(0, 8, 11, 44)])
abbrev mL_parcelOf : kMi := (yL_parcelOf, cL_parcelOf, 5, (some .int), [(0, 10, 13, 19), (0, 10, 17, 13)])
abbrev mL_rate : kMi := (yL_rate, cL_rate, 5, (some .int), [(0, 10, 13, 13)])
abbrev mL_count : kMi := (yL_count, cL_count, 4, (some .int), [(0, 9, 12, 13)])
abbrev mL_setting : kMi := (yL_setting, cL_setting, 4, (some .int), [(0, 9, 12, 19)])
abbrev mL_cheapestWay : kMi := (yL_cheapestWay, cL_cheapestWay, 4, (some .int), [(0, 9, 12, 19)])
abbrev mL_ifBundled : kMi := (yL_ifBundled, cL_ifBundled, 5, (some .int), [(0, 10, 13, 19), (0, 10, 17, 13)])
abbrev mL_cheapest : kMi := (yL_cheapest, cL_cheapest, 4, (some .int), [(0, 9, 12, 13)])
abbrev mL_law : kMi := (yL_law, cL_law, 9, (some .boolean), [])
set_option maxRecDepth 100000 in
theorem kfw : kFW := by
  intro ci r h
  match ci, h with
  | 0, h => cases h; exact ⟨kin_all [166, 168, 170, 172, 174] (by decide +kernel) (by decide +kernel), nmX0, tyX0, tyX0_ok⟩
  | 1, h => cases h; exact ⟨kin_all [91, 93, 95, 97, 99, 101, 103, 105, 107, 109] (by decide +kernel) (by decide +kernel), nmX1, tyX1, tyX1_ok⟩
  | 2, h => cases h; exact ⟨kin_all [55, 57, 59, 61, 63, 65, 67] (by decide +kernel) (by decide +kernel), nmX2, tyX2, tyX2_ok⟩
  | 3, h => cases h; exact ⟨kin_all [142, 144, 146, 148] (by decide +kernel) (by decide +kernel), nmX3, tyX3, tyX3_ok⟩
  | 4, h => cases h; exact ⟨kin_all [124, 126] (by decide +kernel) (by decide +kernel), nmX4, tyX4, tyX4_ok⟩
  | 5, h => cases h; exact ⟨kin_all [183, 185, 187, 189, 191, 193] (by decide +kernel) (by decide +kernel), nmX5, tyX5, tyX5_ok⟩
  | 6, h => cases h; exact ⟨kin_all [759, 761, 763, 765, 767, 769, 771, 773, 775] (by decide +kernel) (by decide +kernel), nmX6, tyX6, tyX6_ok⟩
  | z + 7, h => simp [kcl] at h
theorem lX5_1 : Cond.methodLink RX5 1 Lib.objectInit ∈ kTb := (kin 22 (by decide +kernel) rfl)
theorem nX5_7 : Cond.classLink RX5 7 "StringRates$Office" ∈ kTb := (kin 25 (by decide +kernel) rfl)
theorem lX5_9 : kLI RX5 9 mX1_init 0 := ⟨(kin 27 (by decide +kernel) rfl), (kin 28 (by decide +kernel) rfl), (kin 2 (by decide +kernel) rfl), (kin 29 (by decide +kernel) rfl), rfl, rfl, rfl, ⟨by decide, by decide, by decide +kernel⟩⟩
theorem fX5_10 : kFl RX5 10 5 0 true (.object "StringRates$Office") := ⟨_, rfl, by decide, (kin 177 (by decide +kernel) rfl), rfl, rfl, by decide +kernel⟩
theorem fX5_16 : kFl RX5 16 5 1 true (.array (.object "StringRates$Office")) := ⟨_, rfl, by decide, (kin 178 (by decide +kernel) rfl), rfl, rfl, by decide +kernel⟩
theorem fX5_20 : kFl RX5 20 5 2 true (.array .boolean) := ⟨_, rfl, by decide, (kin 179 (by decide +kernel) rfl), rfl, rfl, by decide +kernel⟩
theorem nX5_24 : Cond.classLink RX5 24 "StringRates$SavedStates" ∈ kTb := (kin 113 (by decide +kernel) rfl)
theorem lX5_26 : kLI RX5 26 mX4_init 0 := ⟨(kin 115 (by decide +kernel) rfl), (kin 116 (by decide +kernel) rfl), (kin 4 (by decide +kernel) rfl), (kin 117 (by decide +kernel) rfl), rfl, rfl, rfl, ⟨by decide, by decide, by decide +kernel⟩⟩
theorem fX5_27 : kFl RX5 27 5 3 true (.object "StringRates$SavedStates") := ⟨_, rfl, by decide, (kin 180 (by decide +kernel) rfl), rfl, rfl, by decide +kernel⟩
theorem nX5_31 : Cond.classLink RX5 31 "StringRates$ParcelText" ∈ kTb := (kin 130 (by decide +kernel) rfl)
theorem lX5_33 : kLN RX5 33 mX3_init "StringRates" 0 := ⟨by simp [kNest], (kin 133 (by decide +kernel) rfl), (kin 5 (by decide +kernel) rfl), (kin 134 (by decide +kernel) rfl), rfl, rfl, rfl, ⟨by decide, by decide, by decide +kernel⟩⟩
theorem fX5_34 : kFl RX5 34 5 4 true (.object "StringRates$ParcelText") := ⟨_, rfl, by decide, (kin 181 (by decide +kernel) rfl), rfl, rfl, by decide +kernel⟩
theorem nX5_38 : Cond.classLink RX5 38 "StringRates$Bundling" ∈ kTb := (kin 151 (by decide +kernel) rfl)
theorem lX5_40 : kLN RX5 40 mX0_init "StringRates" 0 := ⟨by simp [kNest], (kin 154 (by decide +kernel) rfl), (kin 6 (by decide +kernel) rfl), (kin 155 (by decide +kernel) rfl), rfl, rfl, rfl, ⟨by decide, by decide, by decide +kernel⟩⟩
theorem fX5_41 : kFl RX5 41 5 5 true (.object "StringRates$Bundling") := ⟨_, rfl, by decide, (kin 182 (by decide +kernel) rfl), rfl, rfl, by decide +kernel⟩
theorem lX5_45 : kLS RX5 45 mX5_isIn 3 := ⟨(kin 334 (by decide +kernel) rfl), (kin 335 (by decide +kernel) rfl), (kin 1 (by decide +kernel) rfl), (kin 336 (by decide +kernel) rfl), ⟨by decide, by decide, by decide +kernel⟩⟩
theorem lX5_49 : kLS RX5 49 mX5_requireArgument 1 := ⟨(kin 337 (by decide +kernel) rfl), (kin 338 (by decide +kernel) rfl), (kin 1 (by decide +kernel) rfl), (kin 339 (by decide +kernel) rfl), ⟨by decide, by decide, by decide +kernel⟩⟩
theorem lX5_53 : kLV RX5 53 mX4_save 1 := ⟨(kin 515 (by decide +kernel) rfl), (kin 516 (by decide +kernel) rfl), (kin 517 (by decide +kernel) rfl), (kin 4 (by decide +kernel) rfl), (kin 518 (by decide +kernel) rfl), rfl, ⟨by decide, by decide, by decide +kernel⟩⟩
theorem lX5_57 : kLV RX5 57 mX1_admit 6 := ⟨(kin 534 (by decide +kernel) rfl), (kin 535 (by decide +kernel) rfl), (kin 536 (by decide +kernel) rfl), (kin 2 (by decide +kernel) rfl), (kin 537 (by decide +kernel) rfl), rfl, ⟨by decide, by decide, by decide +kernel⟩⟩
theorem lX5_61 : kLV RX5 61 mX5_requireParcel 1 := ⟨(kin 448 (by decide +kernel) rfl), (kin 450 (by decide +kernel) rfl), (kinS 10 (by decide +kernel) rfl), (kin 1 (by decide +kernel) rfl), (kin 451 (by decide +kernel) rfl), rfl, ⟨by decide, by decide, by decide +kernel⟩⟩
theorem fX5_65 : kFl RX5 65 1 0 true (.array (.object "StringRates$Parcel")) := ⟨_, rfl, by decide, (kin 75 (by decide +kernel) rfl), rfl, rfl, by decide +kernel⟩
theorem lX5_69 : kLV RX5 69 mX2_tie 1 := ⟨(kin 550 (by decide +kernel) rfl), (kin 551 (by decide +kernel) rfl), (kin 552 (by decide +kernel) rfl), (kin 3 (by decide +kernel) rfl), (kin 553 (by decide +kernel) rfl), rfl, ⟨by decide, by decide, by decide +kernel⟩⟩
theorem lX5_75 : kLV RX5 75 mX2_insure 1 := ⟨(kin 554 (by decide +kernel) rfl), (kin 555 (by decide +kernel) rfl), (kin 556 (by decide +kernel) rfl), (kin 3 (by decide +kernel) rfl), (kin 557 (by decide +kernel) rfl), rfl, ⟨by decide, by decide, by decide +kernel⟩⟩
theorem lX5_78 : kLV RX5 78 mX1_sendOff 1 := ⟨(kin 565 (by decide +kernel) rfl), (kin 566 (by decide +kernel) rfl), (kin 567 (by decide +kernel) rfl), (kin 2 (by decide +kernel) rfl), (kin 568 (by decide +kernel) rfl), rfl, ⟨by decide, by decide, by decide +kernel⟩⟩
theorem lX5_81 : kLV RX5 81 mX1_decideDispute 2 := ⟨(kin 584 (by decide +kernel) rfl), (kin 585 (by decide +kernel) rfl), (kin 586 (by decide +kernel) rfl), (kin 2 (by decide +kernel) rfl), (kin 587 (by decide +kernel) rfl), rfl, ⟨by decide, by decide, by decide +kernel⟩⟩
theorem lX5_85 : kLV RX5 85 mX1_remove 1 := ⟨(kin 598 (by decide +kernel) rfl), (kin 574 (by decide +kernel) rfl), (kin 575 (by decide +kernel) rfl), (kin 2 (by decide +kernel) rfl), (kin 576 (by decide +kernel) rfl), rfl, ⟨by decide, by decide, by decide +kernel⟩⟩
theorem fX5_88 : kFl RX5 88 1 4 false .int := ⟨_, rfl, by decide, (kin 84 (by decide +kernel) rfl), rfl, rfl, by decide +kernel⟩
theorem lX5_92 : kLS RX5 92 mX5_requireIndex 2 := ⟨(kin 452 (by decide +kernel) rfl), (kin 453 (by decide +kernel) rfl), (kin 1 (by decide +kernel) rfl), (kin 454 (by decide +kernel) rfl), ⟨by decide, by decide, by decide +kernel⟩⟩
theorem fX5_96 : kFl RX5 96 1 1 true (.array .int) := ⟨_, rfl, by decide, (kin 77 (by decide +kernel) rfl), rfl, rfl, by decide +kernel⟩
theorem fX5_100 : kFl RX5 100 1 2 true (.array .int) := ⟨_, rfl, by decide, (kin 79 (by decide +kernel) rfl), rfl, rfl, by decide +kernel⟩
theorem sX5_103 : Cond.fieldLink RX5 103 RX5 "LEAST_SETTING" "[I" ∈ kTb := (kin 620 (by decide +kernel) rfl)
theorem sX5_106 : Cond.fieldLink RX5 106 RX5 "MOST_SETTING" "[I" ∈ kTb := (kin 622 (by decide +kernel) rfl)
theorem fX5_109 : kFl RX5 109 1 3 true (.array .int) := ⟨_, rfl, by decide, (kin 81 (by decide +kernel) rfl), rfl, rfl, by decide +kernel⟩
theorem lX5_112 : kLV RX5 112 mX3_hasRoom 0 := ⟨(kin 632 (by decide +kernel) rfl), (kin 633 (by decide +kernel) rfl), (kin 634 (by decide +kernel) rfl), (kin 5 (by decide +kernel) rfl), (kin 635 (by decide +kernel) rfl), rfl, ⟨by decide, by decide, by decide +kernel⟩⟩
theorem nX5_116 : Cond.classLink RX5 116 "java/lang/IllegalStateException" ∈ kTb := (kin 636 (by decide +kernel) rfl)
theorem lX5_123 : kLV RX5 123 mX3_add 1 := ⟨(kin 652 (by decide +kernel) rfl), (kin 653 (by decide +kernel) rfl), (kin 654 (by decide +kernel) rfl), (kin 5 (by decide +kernel) rfl), (kin 655 (by decide +kernel) rfl), rfl, ⟨by decide, by decide, by decide +kernel⟩⟩
theorem fX5_126 : kFl RX5 126 3 1 false .int := ⟨_, rfl, by decide, (kin 139 (by decide +kernel) rfl), rfl, rfl, by decide +kernel⟩
theorem lX5_129 : kLV RX5 129 mX3_clear 0 := ⟨(kin 200 (by decide +kernel) rfl), (kin 201 (by decide +kernel) rfl), (kin 202 (by decide +kernel) rfl), (kin 5 (by decide +kernel) rfl), (kin 203 (by decide +kernel) rfl), rfl, ⟨by decide, by decide, by decide +kernel⟩⟩
theorem lX5_132 : kLV RX5 132 mX3_errorPlace 0 := ⟨(kin 208 (by decide +kernel) rfl), (kin 209 (by decide +kernel) rfl), (kin 210 (by decide +kernel) rfl), (kin 5 (by decide +kernel) rfl), (kin 211 (by decide +kernel) rfl), rfl, ⟨by decide, by decide, by decide +kernel⟩⟩
theorem lX5_136 : kLV RX5 136 mX3_tellsParcels 0 := ⟨(kin 664 (by decide +kernel) rfl), (kin 665 (by decide +kernel) rfl), (kin 666 (by decide +kernel) rfl), (kin 5 (by decide +kernel) rfl), (kin 667 (by decide +kernel) rfl), rfl, ⟨by decide, by decide, by decide +kernel⟩⟩
theorem lX5_139 : kLV RX5 139 mX5_admitAllOfText 0 := ⟨(kin 673 (by decide +kernel) rfl), (kin 675 (by decide +kernel) rfl), (kinS 13 (by decide +kernel) rfl), (kin 1 (by decide +kernel) rfl), (kin 676 (by decide +kernel) rfl), rfl, ⟨by decide, by decide, by decide +kernel⟩⟩
theorem lX5_142 : kLV RX5 142 mX1_copyFrom 1 := ⟨(kin 692 (by decide +kernel) rfl), (kin 524 (by decide +kernel) rfl), (kin 525 (by decide +kernel) rfl), (kin 2 (by decide +kernel) rfl), (kin 526 (by decide +kernel) rfl), rfl, ⟨by decide, by decide, by decide +kernel⟩⟩
theorem fX5_145 : kFl RX5 145 1 5 false .int := ⟨_, rfl, by decide, (kin 86 (by decide +kernel) rfl), rfl, rfl, by decide +kernel⟩
theorem fX5_150 : kFl RX5 150 4 1 false .int := ⟨_, rfl, by decide, (kin 123 (by decide +kernel) rfl), rfl, rfl, by decide +kernel⟩
theorem lX5_153 : kLV RX5 153 mX4_restoreLatest 1 := ⟨(kin 709 (by decide +kernel) rfl), (kin 710 (by decide +kernel) rfl), (kin 711 (by decide +kernel) rfl), (kin 4 (by decide +kernel) rfl), (kin 712 (by decide +kernel) rfl), rfl, ⟨by decide, by decide, by decide +kernel⟩⟩
theorem lX5_156 : kLV RX5 156 mX1_numberOf 2 := ⟨(kin 471 (by decide +kernel) rfl), (kin 472 (by decide +kernel) rfl), (kin 473 (by decide +kernel) rfl), (kin 2 (by decide +kernel) rfl), (kin 474 (by decide +kernel) rfl), rfl, ⟨by decide, by decide, by decide +kernel⟩⟩
theorem lX5_160 : kLV RX5 160 mX1_rateUpwards 1 := ⟨(kin 435 (by decide +kernel) rfl), (kin 260 (by decide +kernel) rfl), (kin 261 (by decide +kernel) rfl), (kin 2 (by decide +kernel) rfl), (kin 262 (by decide +kernel) rfl), rfl, ⟨by decide, by decide, by decide +kernel⟩⟩
theorem lX5_163 : kLV RX5 163 mX1_rateDownwards 1 := ⟨(kin 436 (by decide +kernel) rfl), (kin 437 (by decide +kernel) rfl), (kin 438 (by decide +kernel) rfl), (kin 2 (by decide +kernel) rfl), (kin 439 (by decide +kernel) rfl), rfl, ⟨by decide, by decide, by decide +kernel⟩⟩
theorem lX5_166 : kLV RX5 166 mX1_tally 1 := ⟨(kin 408 (by decide +kernel) rfl), (kin 409 (by decide +kernel) rfl), (kin 410 (by decide +kernel) rfl), (kin 2 (by decide +kernel) rfl), (kin 411 (by decide +kernel) rfl), rfl, ⟨by decide, by decide, by decide +kernel⟩⟩
theorem lX5_169 : kLV RX5 169 mX1_leastWay 1 := ⟨(kin 479 (by decide +kernel) rfl), (kin 480 (by decide +kernel) rfl), (kin 481 (by decide +kernel) rfl), (kin 2 (by decide +kernel) rfl), (kin 482 (by decide +kernel) rfl), rfl, ⟨by decide, by decide, by decide +kernel⟩⟩
theorem lX5_173 : kLV RX5 173 mX0_postageOfPair 3 := ⟨(kin 487 (by decide +kernel) rfl), (kin 300 (by decide +kernel) rfl), (kin 301 (by decide +kernel) rfl), (kin 6 (by decide +kernel) rfl), (kin 302 (by decide +kernel) rfl), rfl, ⟨by decide, by decide, by decide +kernel⟩⟩
theorem lX5_177 : kLV RX5 177 mX0_weigh 1 := ⟨(kin 289 (by decide +kernel) rfl), (kin 290 (by decide +kernel) rfl), (kin 291 (by decide +kernel) rfl), (kin 6 (by decide +kernel) rfl), (kin 292 (by decide +kernel) rfl), rfl, ⟨by decide, by decide, by decide +kernel⟩⟩
theorem lX5_180 : kLV RX5 180 mX0_leastBySets 0 := ⟨(kin 317 (by decide +kernel) rfl), (kin 318 (by decide +kernel) rfl), (kin 319 (by decide +kernel) rfl), (kin 6 (by decide +kernel) rfl), (kin 320 (by decide +kernel) rfl), rfl, ⟨by decide, by decide, by decide +kernel⟩⟩
theorem lX5_183 : kLV RX5 183 mX0_leastByTrying 0 := ⟨(kin 492 (by decide +kernel) rfl), (kin 493 (by decide +kernel) rfl), (kin 494 (by decide +kernel) rfl), (kin 6 (by decide +kernel) rfl), (kin 495 (by decide +kernel) rfl), rfl, ⟨by decide, by decide, by decide +kernel⟩⟩
theorem lX5_186 : kLV RX5 186 mX1_dearestTaken 0 := ⟨(kin 243 (by decide +kernel) rfl), (kin 244 (by decide +kernel) rfl), (kin 245 (by decide +kernel) rfl), (kin 2 (by decide +kernel) rfl), (kin 246 (by decide +kernel) rfl), rfl, ⟨by decide, by decide, by decide +kernel⟩⟩
theorem lX5_189 : kLV RX5 189 mX0_costUnbundled 0 := ⟨(kin 313 (by decide +kernel) rfl), (kin 314 (by decide +kernel) rfl), (kin 315 (by decide +kernel) rfl), (kin 6 (by decide +kernel) rfl), (kin 316 (by decide +kernel) rfl), rfl, ⟨by decide, by decide, by decide +kernel⟩⟩
theorem gX5_192 : Cond.constantLong RX5 192 3691 ∈ kTb := (kin 329 (by decide +kernel) rfl)
theorem lX5_194 : kLV RX5 194 mX5_count 1 := ⟨(kin 330 (by decide +kernel) rfl), (kin 331 (by decide +kernel) rfl), (kin 332 (by decide +kernel) rfl), (kin 1 (by decide +kernel) rfl), (kin 333 (by decide +kernel) rfl), rfl, ⟨by decide, by decide, by decide +kernel⟩⟩
theorem lX5_197 : kLS RX5 197 mX5_fold 2 := ⟨(kin 424 (by decide +kernel) rfl), (kin 425 (by decide +kernel) rfl), (kin 1 (by decide +kernel) rfl), (kin 426 (by decide +kernel) rfl), ⟨by decide, by decide, by decide +kernel⟩⟩
theorem lX5_201 : kLS RX5 201 mX5_foldRow 3 := ⟨(kin 428 (by decide +kernel) rfl), (kin 429 (by decide +kernel) rfl), (kin 1 (by decide +kernel) rfl), (kin 430 (by decide +kernel) rfl), ⟨by decide, by decide, by decide +kernel⟩⟩
theorem lX5_205 : kLV RX5 205 mX5_rate 2 := ⟨(kin 431 (by decide +kernel) rfl), (kin 432 (by decide +kernel) rfl), (kin 433 (by decide +kernel) rfl), (kin 1 (by decide +kernel) rfl), (kin 434 (by decide +kernel) rfl), rfl, ⟨by decide, by decide, by decide +kernel⟩⟩
theorem lX5_208 : kLV RX5 208 mX5_foldParcel 2 := ⟨(kin 440 (by decide +kernel) rfl), (kin 442 (by decide +kernel) rfl), (kinS 9 (by decide +kernel) rfl), (kin 1 (by decide +kernel) rfl), (kin 443 (by decide +kernel) rfl), rfl, ⟨by decide, by decide, by decide +kernel⟩⟩
theorem lX5_212 : kLV RX5 212 mX5_cheapest 1 := ⟨(kin 488 (by decide +kernel) rfl), (kin 489 (by decide +kernel) rfl), (kin 490 (by decide +kernel) rfl), (kin 1 (by decide +kernel) rfl), (kin 491 (by decide +kernel) rfl), rfl, ⟨by decide, by decide, by decide +kernel⟩⟩
theorem lX5_215 : kLV RX5 215 mX5_dearest 0 := ⟨(kin 499 (by decide +kernel) rfl), (kin 240 (by decide +kernel) rfl), (kin 241 (by decide +kernel) rfl), (kin 1 (by decide +kernel) rfl), (kin 242 (by decide +kernel) rfl), rfl, ⟨by decide, by decide, by decide +kernel⟩⟩
theorem lX5_218 : kLV RX5 218 mX5_savedShare 0 := ⟨(kin 500 (by decide +kernel) rfl), (kin 286 (by decide +kernel) rfl), (kin 287 (by decide +kernel) rfl), (kin 1 (by decide +kernel) rfl), (kin 288 (by decide +kernel) rfl), rfl, ⟨by decide, by decide, by decide +kernel⟩⟩
theorem lX5_222 : kLS RX5 222 mX5_bitsOfShare 1 := ⟨(kin 501 (by decide +kernel) rfl), (kin 502 (by decide +kernel) rfl), (kin 1 (by decide +kernel) rfl), (kin 503 (by decide +kernel) rfl), ⟨by decide, by decide, by decide +kernel⟩⟩
theorem fX5_226 : kFl RX5 226 3 0 true (.array .int) := ⟨_, rfl, by decide, (kin 137 (by decide +kernel) rfl), rfl, rfl, by decide +kernel⟩
theorem nX5_229 : Cond.classLink RX5 229 "java/lang/IllegalArgumentException" ∈ kTb := (kin 340 (by decide +kernel) rfl)
theorem nX5_234 : Cond.classLink RX5 234 "java/lang/IndexOutOfBoundsException" ∈ kTb := (kin 455 (by decide +kernel) rfl)
theorem lX5_239 : kLV RX5 239 mX3_startReading 0 := ⟨(kin 677 (by decide +kernel) rfl), (kin 213 (by decide +kernel) rfl), (kin 214 (by decide +kernel) rfl), (kin 5 (by decide +kernel) rfl), (kin 215 (by decide +kernel) rfl), rfl, ⟨by decide, by decide, by decide +kernel⟩⟩
theorem lX5_242 : kLV RX5 242 mX3_reads 1 := ⟨(kin 678 (by decide +kernel) rfl), (kin 217 (by decide +kernel) rfl), (kin 218 (by decide +kernel) rfl), (kin 5 (by decide +kernel) rfl), (kin 219 (by decide +kernel) rfl), rfl, ⟨by decide, by decide, by decide +kernel⟩⟩
theorem lX5_246 : kLV RX5 246 mX3_isAtParcelEnd 0 := ⟨(kin 679 (by decide +kernel) rfl), (kin 670 (by decide +kernel) rfl), (kin 671 (by decide +kernel) rfl), (kin 5 (by decide +kernel) rfl), (kin 672 (by decide +kernel) rfl), rfl, ⟨by decide, by decide, by decide +kernel⟩⟩
theorem lX5_249 : kLV RX5 249 mX3_admitReadTo 1 := ⟨(kin 680 (by decide +kernel) rfl), (kin 681 (by decide +kernel) rfl), (kin 682 (by decide +kernel) rfl), (kin 5 (by decide +kernel) rfl), (kin 683 (by decide +kernel) rfl), rfl, ⟨by decide, by decide, by decide +kernel⟩⟩
theorem gX5_253 : Cond.constantLong RX5 253 31 ∈ kTb := (kin 427 (by decide +kernel) rfl)
theorem lX5_255 : kLV RX5 255 mX5_parcelOf 2 := ⟨(kin 444 (by decide +kernel) rfl), (kin 445 (by decide +kernel) rfl), (kin 446 (by decide +kernel) rfl), (kin 1 (by decide +kernel) rfl), (kin 447 (by decide +kernel) rfl), rfl, ⟨by decide, by decide, by decide +kernel⟩⟩
theorem lX5_258 : kLV RX5 258 mX5_cheapestWay 1 := ⟨(kin 475 (by decide +kernel) rfl), (kin 476 (by decide +kernel) rfl), (kin 477 (by decide +kernel) rfl), (kin 1 (by decide +kernel) rfl), (kin 478 (by decide +kernel) rfl), rfl, ⟨by decide, by decide, by decide +kernel⟩⟩
theorem lX5_261 : kLV RX5 261 mX5_ifBundled 2 := ⟨(kin 483 (by decide +kernel) rfl), (kin 484 (by decide +kernel) rfl), (kin 485 (by decide +kernel) rfl), (kin 1 (by decide +kernel) rfl), (kin 486 (by decide +kernel) rfl), rfl, ⟨by decide, by decide, by decide +kernel⟩⟩
theorem gX5_264 : Cond.constantLong RX5 264 1023 ∈ kTb := (kin 504 (by decide +kernel) rfl)
theorem gX5_266 : Cond.constantDouble RX5 266 4611686018427387904 ∈ kTb := (kin 505 (by decide +kernel) rfl)
theorem gX5_268 : Cond.constantDouble RX5 268 4841369599423283200 ∈ kTb := (kin 506 (by decide +kernel) rfl)
theorem lX0_3 : Cond.methodLink RX0 3 Lib.objectInit ∈ kTb := (kin 156 (by decide +kernel) rfl)
theorem nX0_9 : Cond.classLink RX0 9 "StringRates$Parcel" ∈ kTb := (kin 157 (by decide +kernel) rfl)
theorem lX0_11 : kLN RX0 11 mX2_init "StringRates" 0 := ⟨by simp [kNest], (kin 35 (by decide +kernel) rfl), (kin 3 (by decide +kernel) rfl), (kin 36 (by decide +kernel) rfl), rfl, rfl, rfl, ⟨by decide, by decide, by decide +kernel⟩⟩
theorem fX0_12 : kFl RX0 12 0 0 true (.object "StringRates$Parcel") := ⟨_, rfl, by decide, (kin 161 (by decide +kernel) rfl), rfl, rfl, by decide +kernel⟩
theorem fX0_18 : kFl RX0 18 0 1 true (.array .int) := ⟨_, rfl, by decide, (kin 162 (by decide +kernel) rfl), rfl, rfl, by decide +kernel⟩
theorem fX0_24 : kFl RX0 24 0 2 true (.array (.array .int)) := ⟨_, rfl, by decide, (kin 163 (by decide +kernel) rfl), rfl, rfl, by decide +kernel⟩
theorem fX0_27 : kFl RX0 27 0 3 true (.array .int) := ⟨_, rfl, by decide, (kin 164 (by decide +kernel) rfl), rfl, rfl, by decide +kernel⟩
theorem fX0_30 : kFl RX0 30 2 4 false .int := ⟨_, rfl, by decide, (kin 47 (by decide +kernel) rfl), rfl, rfl, by decide +kernel⟩
theorem lX0_34 : kLV RX0 34 mX1_isTaken 1 := ⟨(kin 296 (by decide +kernel) rfl), (kin 278 (by decide +kernel) rfl), (kin 279 (by decide +kernel) rfl), (kin 2 (by decide +kernel) rfl), (kin 280 (by decide +kernel) rfl), rfl, ⟨by decide, by decide, by decide +kernel⟩⟩
theorem lX0_40 : kLV RX0 40 mX2_becomeBundle 2 := ⟨(kin 303 (by decide +kernel) rfl), (kin 304 (by decide +kernel) rfl), (kin 305 (by decide +kernel) rfl), (kin 3 (by decide +kernel) rfl), (kin 306 (by decide +kernel) rfl), rfl, ⟨by decide, by decide, by decide +kernel⟩⟩
theorem fX0_44 : kFl RX0 44 2 3 false .int := ⟨_, rfl, by decide, (kin 45 (by decide +kernel) rfl), rfl, rfl, by decide +kernel⟩
theorem fX0_47 : kFl RX0 47 2 6 false .int := ⟨_, rfl, by decide, (kin 53 (by decide +kernel) rfl), rfl, rfl, by decide +kernel⟩
theorem lX0_50 : kLV RX0 50 mX1_stringOf 2 := ⟨(kin 297 (by decide +kernel) rfl), (kin 248 (by decide +kernel) rfl), (kin 249 (by decide +kernel) rfl), (kin 2 (by decide +kernel) rfl), (kin 250 (by decide +kernel) rfl), rfl, ⟨by decide, by decide, by decide +kernel⟩⟩
theorem lX0_54 : kLV RX0 54 mX1_postageFor 2 := ⟨(kin 298 (by decide +kernel) rfl), (kin 256 (by decide +kernel) rfl), (kin 257 (by decide +kernel) rfl), (kin 2 (by decide +kernel) rfl), (kin 258 (by decide +kernel) rfl), rfl, ⟨by decide, by decide, by decide +kernel⟩⟩
theorem fX0_57 : kFl RX0 57 1 4 false .int := ⟨_, rfl, by decide, (kin 83 (by decide +kernel) rfl), rfl, rfl, by decide +kernel⟩
theorem lX0_60 : kLM RX0 60 Lib.Math.min.name Lib.Math.min.code 2 := ⟨(kin 293 (by decide +kernel) rfl), (kin 294 (by decide +kernel) rfl), (kin 13 (by decide +kernel) rfl), (kin 295 (by decide +kernel) rfl)⟩
theorem fX0_66 : kFl RX0 66 0 4 false .int := ⟨_, rfl, by decide, (kin 165 (by decide +kernel) rfl), rfl, rfl, by decide +kernel⟩
theorem fX0_67 : kFl RX0 67 1 0 true (.array (.object "StringRates$Parcel")) := ⟨_, rfl, by decide, (kin 74 (by decide +kernel) rfl), rfl, rfl, by decide +kernel⟩
theorem lX0_71 : kLV RX0 71 mX0_postageOfPair 3 := ⟨(kin 299 (by decide +kernel) rfl), (kin 300 (by decide +kernel) rfl), (kin 301 (by decide +kernel) rfl), (kin 6 (by decide +kernel) rfl), (kin 302 (by decide +kernel) rfl), rfl, ⟨by decide, by decide, by decide +kernel⟩⟩
theorem lX0_75 : kLV RX0 75 mX0_leastWithLast 2 := ⟨(kin 321 (by decide +kernel) rfl), (kin 323 (by decide +kernel) rfl), (kinS 4 (by decide +kernel) rfl), (kin 6 (by decide +kernel) rfl), (kin 324 (by decide +kernel) rfl), rfl, ⟨by decide, by decide, by decide +kernel⟩⟩
theorem lX0_78 : kLS RX0 78 mX0_leastFrom 3 := ⟨(kin 496 (by decide +kernel) rfl), (kin 497 (by decide +kernel) rfl), (kin 6 (by decide +kernel) rfl), (kin 498 (by decide +kernel) rfl), ⟨by decide, by decide, by decide +kernel⟩⟩
theorem lX1_3 : Cond.methodLink RX1 3 Lib.objectInit ∈ kTb := (kin 30 (by decide +kernel) rfl)
theorem nX1_9 : Cond.classLink RX1 9 "StringRates$Parcel" ∈ kTb := (kin 31 (by decide +kernel) rfl)
theorem fX1_11 : kFl RX1 11 1 0 true (.array (.object "StringRates$Parcel")) := ⟨_, rfl, by decide, (kin 73 (by decide +kernel) rfl), rfl, rfl, by decide +kernel⟩
theorem fX1_17 : kFl RX1 17 1 1 true (.array .int) := ⟨_, rfl, by decide, (kin 76 (by decide +kernel) rfl), rfl, rfl, by decide +kernel⟩
theorem fX1_21 : kFl RX1 21 1 2 true (.array .int) := ⟨_, rfl, by decide, (kin 78 (by decide +kernel) rfl), rfl, rfl, by decide +kernel⟩
theorem fX1_24 : kFl RX1 24 1 3 true (.array .int) := ⟨_, rfl, by decide, (kin 80 (by decide +kernel) rfl), rfl, rfl, by decide +kernel⟩
theorem lX1_27 : kLN RX1 27 mX2_init "StringRates" 0 := ⟨by simp [kNest], (kin 35 (by decide +kernel) rfl), (kin 3 (by decide +kernel) rfl), (kin 36 (by decide +kernel) rfl), rfl, rfl, rfl, ⟨by decide, by decide, by decide +kernel⟩⟩
theorem fX1_31 : kFl RX1 31 1 4 false .int := ⟨_, rfl, by decide, (kin 82 (by decide +kernel) rfl), rfl, rfl, by decide +kernel⟩
theorem lX1_35 : kLV RX1 35 mX2_copyFrom 1 := ⟨(kin 527 (by decide +kernel) rfl), (kin 528 (by decide +kernel) rfl), (kin 529 (by decide +kernel) rfl), (kin 3 (by decide +kernel) rfl), (kin 530 (by decide +kernel) rfl), rfl, ⟨by decide, by decide, by decide +kernel⟩⟩
theorem lX1_39 : Cond.methodLink RX1 39 arraycopyName ∈ kTb := (kin 531 (by decide +kernel) rfl)
theorem kac1 : Cond.native arraycopyName ∈ kTb := (kin 533 (by decide +kernel) rfl)
theorem kac2 : Cond.static arraycopyName ∈ kTb := (kin 532 (by decide +kernel) rfl)
theorem kac3 : Cond.initialized "java/lang/System" ∈ kTb := (kin 12 (by decide +kernel) rfl)
theorem fX1_45 : kFl RX1 45 1 5 false .int := ⟨_, rfl, by decide, (kin 85 (by decide +kernel) rfl), rfl, rfl, by decide +kernel⟩
theorem fX1_48 : kFl RX1 48 1 6 false .int := ⟨_, rfl, by decide, (kin 87 (by decide +kernel) rfl), rfl, rfl, by decide +kernel⟩
theorem fX1_51 : kFl RX1 51 1 7 false .int := ⟨_, rfl, by decide, (kin 88 (by decide +kernel) rfl), rfl, rfl, by decide +kernel⟩
theorem fX1_54 : kFl RX1 54 1 8 false .int := ⟨_, rfl, by decide, (kin 89 (by decide +kernel) rfl), rfl, rfl, by decide +kernel⟩
theorem fX1_57 : kFl RX1 57 1 9 false .int := ⟨_, rfl, by decide, (kin 90 (by decide +kernel) rfl), rfl, rfl, by decide +kernel⟩
theorem lX1_60 : kLV RX1 60 mX2_fill 6 := ⟨(kin 538 (by decide +kernel) rfl), (kin 539 (by decide +kernel) rfl), (kin 540 (by decide +kernel) rfl), (kin 3 (by decide +kernel) rfl), (kin 541 (by decide +kernel) rfl), rfl, ⟨by decide, by decide, by decide +kernel⟩⟩
theorem fX1_64 : kFl RX1 64 2 6 false .int := ⟨_, rfl, by decide, (kin 54 (by decide +kernel) rfl), rfl, rfl, by decide +kernel⟩
theorem lX1_67 : kLV RX1 67 mX1_reasonAgainst 2 := ⟨(kin 281 (by decide +kernel) rfl), (kin 282 (by decide +kernel) rfl), (kin 283 (by decide +kernel) rfl), (kin 2 (by decide +kernel) rfl), (kin 284 (by decide +kernel) rfl), rfl, ⟨by decide, by decide, by decide +kernel⟩⟩
theorem lX1_71 : kLV RX1 71 mX1_stringOf 2 := ⟨(kin 247 (by decide +kernel) rfl), (kin 248 (by decide +kernel) rfl), (kin 249 (by decide +kernel) rfl), (kin 2 (by decide +kernel) rfl), (kin 250 (by decide +kernel) rfl), rfl, ⟨by decide, by decide, by decide +kernel⟩⟩
theorem lX1_74 : kLV RX1 74 mX1_dispatch 2 := ⟨(kin 569 (by decide +kernel) rfl), (kin 571 (by decide +kernel) rfl), (kinS 12 (by decide +kernel) rfl), (kin 2 (by decide +kernel) rfl), (kin 572 (by decide +kernel) rfl), rfl, ⟨by decide, by decide, by decide +kernel⟩⟩
theorem lX1_78 : kLM RX1 78 Lib.Math.abs.name Lib.Math.abs.code 1 := ⟨(kin 588 (by decide +kernel) rfl), (kin 589 (by decide +kernel) rfl), (kin 13 (by decide +kernel) rfl), (kin 590 (by decide +kernel) rfl)⟩
theorem lX1_84 : kLV RX1 84 mX1_postageFor 2 := ⟨(kin 255 (by decide +kernel) rfl), (kin 256 (by decide +kernel) rfl), (kin 257 (by decide +kernel) rfl), (kin 2 (by decide +kernel) rfl), (kin 258 (by decide +kernel) rfl), rfl, ⟨by decide, by decide, by decide +kernel⟩⟩
theorem lX1_87 : kLV RX1 87 mX1_remove 1 := ⟨(kin 573 (by decide +kernel) rfl), (kin 574 (by decide +kernel) rfl), (kin 575 (by decide +kernel) rfl), (kin 2 (by decide +kernel) rfl), (kin 576 (by decide +kernel) rfl), rfl, ⟨by decide, by decide, by decide +kernel⟩⟩
theorem lX1_91 : kLV RX1 91 mX2_stringWithoutKnots 1 := ⟨(kin 251 (by decide +kernel) rfl), (kin 252 (by decide +kernel) rfl), (kin 253 (by decide +kernel) rfl), (kin 3 (by decide +kernel) rfl), (kin 254 (by decide +kernel) rfl), rfl, ⟨by decide, by decide, by decide +kernel⟩⟩
theorem lX1_94 : kLV RX1 94 mX2_girth 0 := ⟨(kin 273 (by decide +kernel) rfl), (kin 274 (by decide +kernel) rfl), (kin 275 (by decide +kernel) rfl), (kin 3 (by decide +kernel) rfl), (kin 276 (by decide +kernel) rfl), rfl, ⟨by decide, by decide, by decide +kernel⟩⟩
theorem fX1_98 : kFl RX1 98 2 3 false .int := ⟨_, rfl, by decide, (kin 46 (by decide +kernel) rfl), rfl, rfl, by decide +kernel⟩
theorem fX1_101 : kFl RX1 101 2 5 false .int := ⟨_, rfl, by decide, (kin 51 (by decide +kernel) rfl), rfl, rfl, by decide +kernel⟩
theorem lX1_104 : kLV RX1 104 mX1_rateUpwards 1 := ⟨(kin 259 (by decide +kernel) rfl), (kin 260 (by decide +kernel) rfl), (kin 261 (by decide +kernel) rfl), (kin 2 (by decide +kernel) rfl), (kin 262 (by decide +kernel) rfl), rfl, ⟨by decide, by decide, by decide +kernel⟩⟩
theorem fX1_107 : kFl RX1 107 2 4 false .int := ⟨_, rfl, by decide, (kin 49 (by decide +kernel) rfl), rfl, rfl, by decide +kernel⟩
theorem lX1_110 : kLV RX1 110 mX1_isOdd 1 := ⟨(kin 269 (by decide +kernel) rfl), (kin 270 (by decide +kernel) rfl), (kin 271 (by decide +kernel) rfl), (kin 2 (by decide +kernel) rfl), (kin 272 (by decide +kernel) rfl), rfl, ⟨by decide, by decide, by decide +kernel⟩⟩
theorem lX1_114 : kLS RX1 114 mX1_bandOf 1 := ⟨(kin 263 (by decide +kernel) rfl), (kin 264 (by decide +kernel) rfl), (kin 2 (by decide +kernel) rfl), (kin 265 (by decide +kernel) rfl), ⟨by decide, by decide, by decide +kernel⟩⟩
theorem lX1_117 : kLM RX1 117 Lib.Math.max.name Lib.Math.max.code 2 := ⟨(kin 266 (by decide +kernel) rfl), (kin 267 (by decide +kernel) rfl), (kin 13 (by decide +kernel) rfl), (kin 268 (by decide +kernel) rfl)⟩
theorem lX1_120 : kLV RX1 120 mX1_isTaken 1 := ⟨(kin 277 (by decide +kernel) rfl), (kin 278 (by decide +kernel) rfl), (kin 279 (by decide +kernel) rfl), (kin 2 (by decide +kernel) rfl), (kin 280 (by decide +kernel) rfl), rfl, ⟨by decide, by decide, by decide +kernel⟩⟩
theorem fX1_123 : kFl RX1 123 2 0 false .int := ⟨_, rfl, by decide, (kin 39 (by decide +kernel) rfl), rfl, rfl, by decide +kernel⟩
theorem fX1_126 : kFl RX1 126 2 1 false .int := ⟨_, rfl, by decide, (kin 41 (by decide +kernel) rfl), rfl, rfl, by decide +kernel⟩
theorem fX1_129 : kFl RX1 129 2 2 false .int := ⟨_, rfl, by decide, (kin 43 (by decide +kernel) rfl), rfl, rfl, by decide +kernel⟩
theorem lX1_132 : kLV RX1 132 mX1_takenParcels 0 := ⟨(kin 412 (by decide +kernel) rfl), (kin 414 (by decide +kernel) rfl), (kinS 6 (by decide +kernel) rfl), (kin 2 (by decide +kernel) rfl), (kin 415 (by decide +kernel) rfl), rfl, ⟨by decide, by decide, by decide +kernel⟩⟩
theorem lX1_135 : kLV RX1 135 mX1_oddParcels 0 := ⟨(kin 416 (by decide +kernel) rfl), (kin 418 (by decide +kernel) rfl), (kinS 7 (by decide +kernel) rfl), (kin 2 (by decide +kernel) rfl), (kin 419 (by decide +kernel) rfl), rfl, ⟨by decide, by decide, by decide +kernel⟩⟩
theorem lX1_138 : kLV RX1 138 mX1_undercutBands 0 := ⟨(kin 420 (by decide +kernel) rfl), (kin 422 (by decide +kernel) rfl), (kinS 8 (by decide +kernel) rfl), (kin 2 (by decide +kernel) rfl), (kin 423 (by decide +kernel) rfl), rfl, ⟨by decide, by decide, by decide +kernel⟩⟩
theorem lX2_3 : Cond.methodLink RX2 3 Lib.objectInit ∈ kTb := (kin 37 (by decide +kernel) rfl)
theorem lX2_9 : kLV RX2 9 mX2_laySides 3 := ⟨(kin 308 (by decide +kernel) rfl), (kin 310 (by decide +kernel) rfl), (kinS 3 (by decide +kernel) rfl), (kin 3 (by decide +kernel) rfl), (kin 311 (by decide +kernel) rfl), rfl, ⟨by decide, by decide, by decide +kernel⟩⟩
theorem fX2_15 : kFl RX2 15 2 3 false .int := ⟨_, rfl, by decide, (kin 44 (by decide +kernel) rfl), rfl, rfl, by decide +kernel⟩
theorem fX2_19 : kFl RX2 19 2 4 false .int := ⟨_, rfl, by decide, (kin 48 (by decide +kernel) rfl), rfl, rfl, by decide +kernel⟩
theorem fX2_22 : kFl RX2 22 2 5 false .int := ⟨_, rfl, by decide, (kin 50 (by decide +kernel) rfl), rfl, rfl, by decide +kernel⟩
theorem fX2_25 : kFl RX2 25 2 6 false .int := ⟨_, rfl, by decide, (kin 52 (by decide +kernel) rfl), rfl, rfl, by decide +kernel⟩
theorem fX2_28 : kFl RX2 28 2 0 false .int := ⟨_, rfl, by decide, (kin 38 (by decide +kernel) rfl), rfl, rfl, by decide +kernel⟩
theorem fX2_31 : kFl RX2 31 2 1 false .int := ⟨_, rfl, by decide, (kin 40 (by decide +kernel) rfl), rfl, rfl, by decide +kernel⟩
theorem fX2_34 : kFl RX2 34 2 2 false .int := ⟨_, rfl, by decide, (kin 42 (by decide +kernel) rfl), rfl, rfl, by decide +kernel⟩
theorem lX2_37 : kLM RX2 37 Lib.Math.max.name Lib.Math.max.code 2 := ⟨(kin 307 (by decide +kernel) rfl), (kin 267 (by decide +kernel) rfl), (kin 13 (by decide +kernel) rfl), (kin 268 (by decide +kernel) rfl)⟩
theorem lX2_43 : kLM RX2 43 Lib.Math.min.name Lib.Math.min.code 2 := ⟨(kin 312 (by decide +kernel) rfl), (kin 294 (by decide +kernel) rfl), (kin 13 (by decide +kernel) rfl), (kin 295 (by decide +kernel) rfl)⟩
theorem lX3_3 : Cond.methodLink RX3 3 Lib.objectInit ∈ kTb := (kin 135 (by decide +kernel) rfl)
theorem fX3_9 : kFl RX3 9 3 0 true (.array .int) := ⟨_, rfl, by decide, (kin 136 (by decide +kernel) rfl), rfl, rfl, by decide +kernel⟩
theorem fX3_15 : kFl RX3 15 3 2 true (.array .int) := ⟨_, rfl, by decide, (kin 140 (by decide +kernel) rfl), rfl, rfl, by decide +kernel⟩
theorem fX3_18 : kFl RX3 18 3 1 false .int := ⟨_, rfl, by decide, (kin 138 (by decide +kernel) rfl), rfl, rfl, by decide +kernel⟩
theorem lX3_22 : kLV RX3 22 mX3_hasRoom 0 := ⟨(kin 656 (by decide +kernel) rfl), (kin 633 (by decide +kernel) rfl), (kin 634 (by decide +kernel) rfl), (kin 5 (by decide +kernel) rfl), (kin 635 (by decide +kernel) rfl), rfl, ⟨by decide, by decide, by decide +kernel⟩⟩
theorem lX3_26 : kLV RX3 26 mX3_startReading 0 := ⟨(kin 212 (by decide +kernel) rfl), (kin 213 (by decide +kernel) rfl), (kin 214 (by decide +kernel) rfl), (kin 5 (by decide +kernel) rfl), (kin 215 (by decide +kernel) rfl), rfl, ⟨by decide, by decide, by decide +kernel⟩⟩
theorem lX3_29 : kLV RX3 29 mX3_reads 1 := ⟨(kin 216 (by decide +kernel) rfl), (kin 217 (by decide +kernel) rfl), (kin 218 (by decide +kernel) rfl), (kin 5 (by decide +kernel) rfl), (kin 219 (by decide +kernel) rfl), rfl, ⟨by decide, by decide, by decide +kernel⟩⟩
theorem lX3_33 : kLV RX3 33 mX3_errorPlace 0 := ⟨(kin 668 (by decide +kernel) rfl), (kin 209 (by decide +kernel) rfl), (kin 210 (by decide +kernel) rfl), (kin 5 (by decide +kernel) rfl), (kin 211 (by decide +kernel) rfl), rfl, ⟨by decide, by decide, by decide +kernel⟩⟩
theorem lX3_37 : kLV RX3 37 mX3_isAtParcelEnd 0 := ⟨(kin 669 (by decide +kernel) rfl), (kin 670 (by decide +kernel) rfl), (kin 671 (by decide +kernel) rfl), (kin 5 (by decide +kernel) rfl), (kin 672 (by decide +kernel) rfl), rfl, ⟨by decide, by decide, by decide +kernel⟩⟩
theorem fX3_40 : kFl RX3 40 3 3 false .int := ⟨_, rfl, by decide, (kin 141 (by decide +kernel) rfl), rfl, rfl, by decide +kernel⟩
theorem lX3_43 : kLV RX3 43 mX1_admit 6 := ⟨(kin 684 (by decide +kernel) rfl), (kin 535 (by decide +kernel) rfl), (kin 536 (by decide +kernel) rfl), (kin 2 (by decide +kernel) rfl), (kin 537 (by decide +kernel) rfl), rfl, ⟨by decide, by decide, by decide +kernel⟩⟩
theorem lX3_49 : kLV RX3 49 mX3_readsInNumber 1 := ⟨(kin 220 (by decide +kernel) rfl), (kin 222 (by decide +kernel) rfl), (kinS 0 (by decide +kernel) rfl), (kin 5 (by decide +kernel) rfl), (kin 223 (by decide +kernel) rfl), rfl, ⟨by decide, by decide, by decide +kernel⟩⟩
theorem lX3_52 : kLV RX3 52 mX3_readsChoice 2 := ⟨(kin 232 (by decide +kernel) rfl), (kin 234 (by decide +kernel) rfl), (kinS 2 (by decide +kernel) rfl), (kin 5 (by decide +kernel) rfl), (kin 235 (by decide +kernel) rfl), rfl, ⟨by decide, by decide, by decide +kernel⟩⟩
theorem lX3_56 : kLS RX3 56 mX3_wayOf 1 := ⟨(kin 236 (by decide +kernel) rfl), (kin 237 (by decide +kernel) rfl), (kin 5 (by decide +kernel) rfl), (kin 238 (by decide +kernel) rfl), ⟨by decide, by decide, by decide +kernel⟩⟩
theorem sX3_60 : Cond.fieldLink RX3 60 RX3 "NUMBER_END" "[C" ∈ kTb := (kin 224 (by decide +kernel) rfl)
theorem lX3_64 : kLV RX3 64 mX3_endsNumber 0 := ⟨(kin 226 (by decide +kernel) rfl), (kin 228 (by decide +kernel) rfl), (kinS 1 (by decide +kernel) rfl), (kin 5 (by decide +kernel) rfl), (kin 229 (by decide +kernel) rfl), rfl, ⟨by decide, by decide, by decide +kernel⟩⟩
theorem sX3_67 : Cond.fieldLink RX3 67 RX3 "MOST_NUMBER" "[I" ∈ kTb := (kin 230 (by decide +kernel) rfl)
theorem lX4_3 : Cond.methodLink RX4 3 Lib.objectInit ∈ kTb := (kin 118 (by decide +kernel) rfl)
theorem nX4_9 : Cond.classLink RX4 9 "StringRates$Office" ∈ kTb := (kin 119 (by decide +kernel) rfl)
theorem fX4_11 : kFl RX4 11 4 0 true (.array (.object "StringRates$Office")) := ⟨_, rfl, by decide, (kin 121 (by decide +kernel) rfl), rfl, rfl, by decide +kernel⟩
theorem lX4_17 : kLI RX4 17 mX1_init 0 := ⟨(kin 120 (by decide +kernel) rfl), (kin 28 (by decide +kernel) rfl), (kin 2 (by decide +kernel) rfl), (kin 29 (by decide +kernel) rfl), rfl, rfl, rfl, ⟨by decide, by decide, by decide +kernel⟩⟩
theorem fX4_18 : kFl RX4 18 4 1 false .int := ⟨_, rfl, by decide, (kin 122 (by decide +kernel) rfl), rfl, rfl, by decide +kernel⟩
theorem lX4_22 : kLV RX4 22 mX4_dropOldest 0 := ⟨(kin 519 (by decide +kernel) rfl), (kin 521 (by decide +kernel) rfl), (kinS 11 (by decide +kernel) rfl), (kin 4 (by decide +kernel) rfl), (kin 522 (by decide +kernel) rfl), rfl, ⟨by decide, by decide, by decide +kernel⟩⟩
theorem lX4_25 : kLV RX4 25 mX1_copyFrom 1 := ⟨(kin 523 (by decide +kernel) rfl), (kin 524 (by decide +kernel) rfl), (kin 525 (by decide +kernel) rfl), (kin 2 (by decide +kernel) rfl), (kin 526 (by decide +kernel) rfl), rfl, ⟨by decide, by decide, by decide +kernel⟩⟩
theorem lL_7 : kLV RL 7 mX5_bring 5 := ⟨(kin 511 (by decide +kernel) rfl), (kin 512 (by decide +kernel) rfl), (kin 513 (by decide +kernel) rfl), (kin 1 (by decide +kernel) rfl), (kin 514 (by decide +kernel) rfl), rfl, ⟨by decide, by decide, by decide +kernel⟩⟩
theorem nL_8 : Cond.classLink RL 8 "StringRates" ∈ kTb := (kin 17 (by decide +kernel) rfl)
theorem lL_15 : kLV RL 15 mX5_change 3 := ⟨(kin 546 (by decide +kernel) rfl), (kin 547 (by decide +kernel) rfl), (kin 548 (by decide +kernel) rfl), (kin 1 (by decide +kernel) rfl), (kin 549 (by decide +kernel) rfl), rfl, ⟨by decide, by decide, by decide +kernel⟩⟩
theorem lL_21 : kLV RL 21 mX5_send 1 := ⟨(kin 561 (by decide +kernel) rfl), (kin 562 (by decide +kernel) rfl), (kin 563 (by decide +kernel) rfl), (kin 1 (by decide +kernel) rfl), (kin 564 (by decide +kernel) rfl), rfl, ⟨by decide, by decide, by decide +kernel⟩⟩
theorem lL_25 : kLV RL 25 mX5_dispute 2 := ⟨(kin 580 (by decide +kernel) rfl), (kin 581 (by decide +kernel) rfl), (kin 582 (by decide +kernel) rfl), (kin 1 (by decide +kernel) rfl), (kin 583 (by decide +kernel) rfl), rfl, ⟨by decide, by decide, by decide +kernel⟩⟩
theorem lL_29 : kLV RL 29 mX5_takeBack 1 := ⟨(kin 594 (by decide +kernel) rfl), (kin 595 (by decide +kernel) rfl), (kin 596 (by decide +kernel) rfl), (kin 1 (by decide +kernel) rfl), (kin 597 (by decide +kernel) rfl), rfl, ⟨by decide, by decide, by decide +kernel⟩⟩
theorem lL_32 : kLV RL 32 mX5_price 2 := ⟨(kin 602 (by decide +kernel) rfl), (kin 603 (by decide +kernel) rfl), (kin 604 (by decide +kernel) rfl), (kin 1 (by decide +kernel) rfl), (kin 605 (by decide +kernel) rfl), rfl, ⟨by decide, by decide, by decide +kernel⟩⟩
theorem lL_35 : kLV RL 35 mX5_zone 2 := ⟨(kin 609 (by decide +kernel) rfl), (kin 610 (by decide +kernel) rfl), (kin 611 (by decide +kernel) rfl), (kin 1 (by decide +kernel) rfl), (kin 612 (by decide +kernel) rfl), rfl, ⟨by decide, by decide, by decide +kernel⟩⟩
theorem lL_38 : kLV RL 38 mX5_set 2 := ⟨(kin 616 (by decide +kernel) rfl), (kin 617 (by decide +kernel) rfl), (kin 618 (by decide +kernel) rfl), (kin 1 (by decide +kernel) rfl), (kin 619 (by decide +kernel) rfl), rfl, ⟨by decide, by decide, by decide +kernel⟩⟩
theorem lL_41 : kLV RL 41 mX5_append 1 := ⟨(kin 628 (by decide +kernel) rfl), (kin 629 (by decide +kernel) rfl), (kin 630 (by decide +kernel) rfl), (kin 1 (by decide +kernel) rfl), (kin 631 (by decide +kernel) rfl), rfl, ⟨by decide, by decide, by decide +kernel⟩⟩
theorem lL_46 : kLV RL 46 mX5_run 0 := ⟨(kin 660 (by decide +kernel) rfl), (kin 661 (by decide +kernel) rfl), (kin 662 (by decide +kernel) rfl), (kin 1 (by decide +kernel) rfl), (kin 663 (by decide +kernel) rfl), rfl, ⟨by decide, by decide, by decide +kernel⟩⟩
theorem lL_50 : kLV RL 50 mX5_keep 1 := ⟨(kin 688 (by decide +kernel) rfl), (kin 689 (by decide +kernel) rfl), (kin 690 (by decide +kernel) rfl), (kin 1 (by decide +kernel) rfl), (kin 691 (by decide +kernel) rfl), rfl, ⟨by decide, by decide, by decide +kernel⟩⟩
theorem lL_53 : kLV RL 53 mX5_goBack 1 := ⟨(kin 696 (by decide +kernel) rfl), (kin 697 (by decide +kernel) rfl), (kin 698 (by decide +kernel) rfl), (kin 1 (by decide +kernel) rfl), (kin 699 (by decide +kernel) rfl), rfl, ⟨by decide, by decide, by decide +kernel⟩⟩
theorem lL_56 : kLV RL 56 mX5_undo 0 := ⟨(kin 704 (by decide +kernel) rfl), (kin 705 (by decide +kernel) rfl), (kin 706 (by decide +kernel) rfl), (kin 1 (by decide +kernel) rfl), (kin 707 (by decide +kernel) rfl), rfl, ⟨by decide, by decide, by decide +kernel⟩⟩
theorem lL_59 : kLV RL 59 mX5_parcelOf 2 := ⟨(kin 716 (by decide +kernel) rfl), (kin 445 (by decide +kernel) rfl), (kin 446 (by decide +kernel) rfl), (kin 1 (by decide +kernel) rfl), (kin 447 (by decide +kernel) rfl), rfl, ⟨by decide, by decide, by decide +kernel⟩⟩
theorem lL_62 : kLV RL 62 mX5_rate 2 := ⟨(kin 720 (by decide +kernel) rfl), (kin 432 (by decide +kernel) rfl), (kin 433 (by decide +kernel) rfl), (kin 1 (by decide +kernel) rfl), (kin 434 (by decide +kernel) rfl), rfl, ⟨by decide, by decide, by decide +kernel⟩⟩
theorem lL_65 : kLV RL 65 mX5_count 1 := ⟨(kin 724 (by decide +kernel) rfl), (kin 331 (by decide +kernel) rfl), (kin 332 (by decide +kernel) rfl), (kin 1 (by decide +kernel) rfl), (kin 333 (by decide +kernel) rfl), rfl, ⟨by decide, by decide, by decide +kernel⟩⟩
theorem lL_68 : kLV RL 68 mX5_setting 1 := ⟨(kin 728 (by decide +kernel) rfl), (kin 729 (by decide +kernel) rfl), (kin 730 (by decide +kernel) rfl), (kin 1 (by decide +kernel) rfl), (kin 731 (by decide +kernel) rfl), rfl, ⟨by decide, by decide, by decide +kernel⟩⟩
theorem lL_71 : kLV RL 71 mX5_cheapestWay 1 := ⟨(kin 735 (by decide +kernel) rfl), (kin 476 (by decide +kernel) rfl), (kin 477 (by decide +kernel) rfl), (kin 1 (by decide +kernel) rfl), (kin 478 (by decide +kernel) rfl), rfl, ⟨by decide, by decide, by decide +kernel⟩⟩
theorem lL_74 : kLV RL 74 mX5_ifBundled 2 := ⟨(kin 739 (by decide +kernel) rfl), (kin 484 (by decide +kernel) rfl), (kin 485 (by decide +kernel) rfl), (kin 1 (by decide +kernel) rfl), (kin 486 (by decide +kernel) rfl), rfl, ⟨by decide, by decide, by decide +kernel⟩⟩
theorem lL_77 : kLV RL 77 mX5_cheapest 1 := ⟨(kin 743 (by decide +kernel) rfl), (kin 489 (by decide +kernel) rfl), (kin 490 (by decide +kernel) rfl), (kin 1 (by decide +kernel) rfl), (kin 491 (by decide +kernel) rfl), rfl, ⟨by decide, by decide, by decide +kernel⟩⟩
theorem lL_80 : kLI RL 80 mX5_init 0 := ⟨(kin 19 (by decide +kernel) rfl), (kin 20 (by decide +kernel) rfl), (kin 1 (by decide +kernel) rfl), (kin 21 (by decide +kernel) rfl), rfl, rfl, rfl, ⟨by decide, by decide, by decide +kernel⟩⟩
theorem nL_81 : Cond.classLink RL 81 "StringRatesModel" ∈ kTb := (kin 744 (by decide +kernel) rfl)
theorem lL_83 : kLI RL 83 mX6_init 0 := ⟨(kin 746 (by decide +kernel) rfl), (kin 747 (by decide +kernel) rfl), (kin 7 (by decide +kernel) rfl), (kin 748 (by decide +kernel) rfl), rfl, rfl, rfl, ⟨by decide, by decide, by decide +kernel⟩⟩
theorem lL_84 : kLS RL 84 mL_bring 7 := ⟨(kin 507 (by decide +kernel) rfl), (kin 508 (by decide +kernel) rfl), (kin 0 (by decide +kernel) rfl), (kin 509 (by decide +kernel) rfl), ⟨by decide, by decide, by decide +kernel⟩⟩
theorem lL_89 : kLV RL 89 mX6_bring 5 := ⟨(kin 783 (by decide +kernel) rfl), (kin 784 (by decide +kernel) rfl), (kin 785 (by decide +kernel) rfl), (kin 7 (by decide +kernel) rfl), (kin 786 (by decide +kernel) rfl), rfl, ⟨by decide, by decide, by decide +kernel⟩⟩
theorem lL_90 : kLV RL 90 mX6_thrown 0 := ⟨(kin 779 (by decide +kernel) rfl), (kin 780 (by decide +kernel) rfl), (kin 781 (by decide +kernel) rfl), (kin 7 (by decide +kernel) rfl), (kin 782 (by decide +kernel) rfl), rfl, ⟨by decide, by decide, by decide +kernel⟩⟩
theorem lL_93 : kLS RL 93 mL_change 5 := ⟨(kin 542 (by decide +kernel) rfl), (kin 543 (by decide +kernel) rfl), (kin 0 (by decide +kernel) rfl), (kin 544 (by decide +kernel) rfl), ⟨by decide, by decide, by decide +kernel⟩⟩
theorem lL_96 : kLV RL 96 mX6_change 3 := ⟨(kin 819 (by decide +kernel) rfl), (kin 820 (by decide +kernel) rfl), (kin 821 (by decide +kernel) rfl), (kin 7 (by decide +kernel) rfl), (kin 822 (by decide +kernel) rfl), rfl, ⟨by decide, by decide, by decide +kernel⟩⟩
theorem lL_97 : kLS RL 97 mL_send 3 := ⟨(kin 558 (by decide +kernel) rfl), (kin 559 (by decide +kernel) rfl), (kin 0 (by decide +kernel) rfl), (kin 560 (by decide +kernel) rfl), ⟨by decide, by decide, by decide +kernel⟩⟩
theorem lL_100 : kLV RL 100 mX6_send 1 := ⟨(kin 831 (by decide +kernel) rfl), (kin 832 (by decide +kernel) rfl), (kin 833 (by decide +kernel) rfl), (kin 7 (by decide +kernel) rfl), (kin 834 (by decide +kernel) rfl), rfl, ⟨by decide, by decide, by decide +kernel⟩⟩
theorem lL_101 : kLS RL 101 mL_dispute 4 := ⟨(kin 577 (by decide +kernel) rfl), (kin 578 (by decide +kernel) rfl), (kin 0 (by decide +kernel) rfl), (kin 579 (by decide +kernel) rfl), ⟨by decide, by decide, by decide +kernel⟩⟩
theorem lL_104 : kLV RL 104 mX6_dispute 2 := ⟨(kin 874 (by decide +kernel) rfl), (kin 875 (by decide +kernel) rfl), (kin 876 (by decide +kernel) rfl), (kin 7 (by decide +kernel) rfl), (kin 877 (by decide +kernel) rfl), rfl, ⟨by decide, by decide, by decide +kernel⟩⟩
theorem lL_105 : kLS RL 105 mL_takeBack 3 := ⟨(kin 591 (by decide +kernel) rfl), (kin 592 (by decide +kernel) rfl), (kin 0 (by decide +kernel) rfl), (kin 593 (by decide +kernel) rfl), ⟨by decide, by decide, by decide +kernel⟩⟩
theorem lL_107 : kLV RL 107 mX6_takeBack 1 := ⟨(kin 878 (by decide +kernel) rfl), (kin 879 (by decide +kernel) rfl), (kin 880 (by decide +kernel) rfl), (kin 7 (by decide +kernel) rfl), (kin 881 (by decide +kernel) rfl), rfl, ⟨by decide, by decide, by decide +kernel⟩⟩
theorem lL_108 : kLS RL 108 mL_price 4 := ⟨(kin 599 (by decide +kernel) rfl), (kin 600 (by decide +kernel) rfl), (kin 0 (by decide +kernel) rfl), (kin 601 (by decide +kernel) rfl), ⟨by decide, by decide, by decide +kernel⟩⟩
theorem lL_110 : kLV RL 110 mX6_price 2 := ⟨(kin 882 (by decide +kernel) rfl), (kin 883 (by decide +kernel) rfl), (kin 884 (by decide +kernel) rfl), (kin 7 (by decide +kernel) rfl), (kin 885 (by decide +kernel) rfl), rfl, ⟨by decide, by decide, by decide +kernel⟩⟩
theorem lL_111 : kLS RL 111 mL_zone 4 := ⟨(kin 606 (by decide +kernel) rfl), (kin 607 (by decide +kernel) rfl), (kin 0 (by decide +kernel) rfl), (kin 608 (by decide +kernel) rfl), ⟨by decide, by decide, by decide +kernel⟩⟩
theorem lL_113 : kLV RL 113 mX6_zone 2 := ⟨(kin 886 (by decide +kernel) rfl), (kin 887 (by decide +kernel) rfl), (kin 888 (by decide +kernel) rfl), (kin 7 (by decide +kernel) rfl), (kin 889 (by decide +kernel) rfl), rfl, ⟨by decide, by decide, by decide +kernel⟩⟩
theorem lL_114 : kLS RL 114 mL_set 4 := ⟨(kin 613 (by decide +kernel) rfl), (kin 614 (by decide +kernel) rfl), (kin 0 (by decide +kernel) rfl), (kin 615 (by decide +kernel) rfl), ⟨by decide, by decide, by decide +kernel⟩⟩
theorem lL_116 : kLV RL 116 mX6_set 2 := ⟨(kin 890 (by decide +kernel) rfl), (kin 891 (by decide +kernel) rfl), (kin 892 (by decide +kernel) rfl), (kin 7 (by decide +kernel) rfl), (kin 893 (by decide +kernel) rfl), rfl, ⟨by decide, by decide, by decide +kernel⟩⟩
theorem lL_117 : kLS RL 117 mL_append 3 := ⟨(kin 624 (by decide +kernel) rfl), (kin 625 (by decide +kernel) rfl), (kin 0 (by decide +kernel) rfl), (kin 626 (by decide +kernel) rfl), ⟨by decide, by decide, by decide +kernel⟩⟩
theorem lL_119 : kLV RL 119 mX6_append 1 := ⟨(kin 897 (by decide +kernel) rfl), (kin 898 (by decide +kernel) rfl), (kin 899 (by decide +kernel) rfl), (kin 7 (by decide +kernel) rfl), (kin 900 (by decide +kernel) rfl), rfl, ⟨by decide, by decide, by decide +kernel⟩⟩
theorem lL_120 : kLV RL 120 mX5_clearBuffer 0 := ⟨(kin 196 (by decide +kernel) rfl), (kin 197 (by decide +kernel) rfl), (kin 198 (by decide +kernel) rfl), (kin 1 (by decide +kernel) rfl), (kin 199 (by decide +kernel) rfl), rfl, ⟨by decide, by decide, by decide +kernel⟩⟩
theorem lL_123 : kLV RL 123 mX6_clearBuffer 0 := ⟨(kin 901 (by decide +kernel) rfl), (kin 902 (by decide +kernel) rfl), (kin 903 (by decide +kernel) rfl), (kin 7 (by decide +kernel) rfl), (kin 904 (by decide +kernel) rfl), rfl, ⟨by decide, by decide, by decide +kernel⟩⟩
theorem lL_124 : kLV RL 124 mX5_firstError 0 := ⟨(kin 204 (by decide +kernel) rfl), (kin 205 (by decide +kernel) rfl), (kin 206 (by decide +kernel) rfl), (kin 1 (by decide +kernel) rfl), (kin 207 (by decide +kernel) rfl), rfl, ⟨by decide, by decide, by decide +kernel⟩⟩
theorem lL_127 : kLV RL 127 mX6_firstError 0 := ⟨(kin 905 (by decide +kernel) rfl), (kin 906 (by decide +kernel) rfl), (kin 907 (by decide +kernel) rfl), (kin 7 (by decide +kernel) rfl), (kin 908 (by decide +kernel) rfl), rfl, ⟨by decide, by decide, by decide +kernel⟩⟩
theorem lL_128 : kLS RL 128 mL_run 2 := ⟨(kin 657 (by decide +kernel) rfl), (kin 658 (by decide +kernel) rfl), (kin 0 (by decide +kernel) rfl), (kin 659 (by decide +kernel) rfl), ⟨by decide, by decide, by decide +kernel⟩⟩
theorem lL_131 : kLV RL 131 mX6_run 0 := ⟨(kin 929 (by decide +kernel) rfl), (kin 930 (by decide +kernel) rfl), (kin 931 (by decide +kernel) rfl), (kin 7 (by decide +kernel) rfl), (kin 932 (by decide +kernel) rfl), rfl, ⟨by decide, by decide, by decide +kernel⟩⟩
theorem lL_132 : kLS RL 132 mL_keep 3 := ⟨(kin 685 (by decide +kernel) rfl), (kin 686 (by decide +kernel) rfl), (kin 0 (by decide +kernel) rfl), (kin 687 (by decide +kernel) rfl), ⟨by decide, by decide, by decide +kernel⟩⟩
theorem lL_134 : kLV RL 134 mX6_keep 1 := ⟨(kin 933 (by decide +kernel) rfl), (kin 934 (by decide +kernel) rfl), (kin 935 (by decide +kernel) rfl), (kin 7 (by decide +kernel) rfl), (kin 936 (by decide +kernel) rfl), rfl, ⟨by decide, by decide, by decide +kernel⟩⟩
theorem lL_135 : kLS RL 135 mL_goBack 3 := ⟨(kin 693 (by decide +kernel) rfl), (kin 694 (by decide +kernel) rfl), (kin 0 (by decide +kernel) rfl), (kin 695 (by decide +kernel) rfl), ⟨by decide, by decide, by decide +kernel⟩⟩
theorem lL_137 : kLV RL 137 mX6_goBack 1 := ⟨(kin 940 (by decide +kernel) rfl), (kin 941 (by decide +kernel) rfl), (kin 942 (by decide +kernel) rfl), (kin 7 (by decide +kernel) rfl), (kin 943 (by decide +kernel) rfl), rfl, ⟨by decide, by decide, by decide +kernel⟩⟩
theorem lL_138 : kLS RL 138 mL_undo 2 := ⟨(kin 701 (by decide +kernel) rfl), (kin 702 (by decide +kernel) rfl), (kin 0 (by decide +kernel) rfl), (kin 703 (by decide +kernel) rfl), ⟨by decide, by decide, by decide +kernel⟩⟩
theorem lL_140 : kLV RL 140 mX6_undo 0 := ⟨(kin 944 (by decide +kernel) rfl), (kin 945 (by decide +kernel) rfl), (kin 946 (by decide +kernel) rfl), (kin 7 (by decide +kernel) rfl), (kin 947 (by decide +kernel) rfl), rfl, ⟨by decide, by decide, by decide +kernel⟩⟩
theorem lL_141 : kLS RL 141 mL_parcelOf 4 := ⟨(kin 713 (by decide +kernel) rfl), (kin 714 (by decide +kernel) rfl), (kin 0 (by decide +kernel) rfl), (kin 715 (by decide +kernel) rfl), ⟨by decide, by decide, by decide +kernel⟩⟩
theorem lL_143 : kLV RL 143 mX6_parcelOf 2 := ⟨(kin 948 (by decide +kernel) rfl), (kin 949 (by decide +kernel) rfl), (kin 950 (by decide +kernel) rfl), (kin 7 (by decide +kernel) rfl), (kin 951 (by decide +kernel) rfl), rfl, ⟨by decide, by decide, by decide +kernel⟩⟩
theorem lL_144 : kLS RL 144 mL_rate 4 := ⟨(kin 717 (by decide +kernel) rfl), (kin 718 (by decide +kernel) rfl), (kin 0 (by decide +kernel) rfl), (kin 719 (by decide +kernel) rfl), ⟨by decide, by decide, by decide +kernel⟩⟩
theorem lL_146 : kLV RL 146 mX6_rate 2 := ⟨(kin 956 (by decide +kernel) rfl), (kin 957 (by decide +kernel) rfl), (kin 958 (by decide +kernel) rfl), (kin 7 (by decide +kernel) rfl), (kin 959 (by decide +kernel) rfl), rfl, ⟨by decide, by decide, by decide +kernel⟩⟩
theorem lL_147 : kLS RL 147 mL_count 3 := ⟨(kin 721 (by decide +kernel) rfl), (kin 722 (by decide +kernel) rfl), (kin 0 (by decide +kernel) rfl), (kin 723 (by decide +kernel) rfl), ⟨by decide, by decide, by decide +kernel⟩⟩
theorem lL_149 : kLV RL 149 mX6_count 1 := ⟨(kin 968 (by decide +kernel) rfl), (kin 969 (by decide +kernel) rfl), (kin 970 (by decide +kernel) rfl), (kin 7 (by decide +kernel) rfl), (kin 971 (by decide +kernel) rfl), rfl, ⟨by decide, by decide, by decide +kernel⟩⟩
theorem lL_150 : kLS RL 150 mL_setting 3 := ⟨(kin 725 (by decide +kernel) rfl), (kin 726 (by decide +kernel) rfl), (kin 0 (by decide +kernel) rfl), (kin 727 (by decide +kernel) rfl), ⟨by decide, by decide, by decide +kernel⟩⟩
theorem lL_152 : kLV RL 152 mX6_setting 1 := ⟨(kin 984 (by decide +kernel) rfl), (kin 985 (by decide +kernel) rfl), (kin 986 (by decide +kernel) rfl), (kin 7 (by decide +kernel) rfl), (kin 987 (by decide +kernel) rfl), rfl, ⟨by decide, by decide, by decide +kernel⟩⟩
theorem lL_153 : kLS RL 153 mL_cheapestWay 3 := ⟨(kin 732 (by decide +kernel) rfl), (kin 733 (by decide +kernel) rfl), (kin 0 (by decide +kernel) rfl), (kin 734 (by decide +kernel) rfl), ⟨by decide, by decide, by decide +kernel⟩⟩
theorem lL_155 : kLV RL 155 mX6_cheapestWay 1 := ⟨(kin 988 (by decide +kernel) rfl), (kin 989 (by decide +kernel) rfl), (kin 990 (by decide +kernel) rfl), (kin 7 (by decide +kernel) rfl), (kin 991 (by decide +kernel) rfl), rfl, ⟨by decide, by decide, by decide +kernel⟩⟩
theorem lL_156 : kLS RL 156 mL_ifBundled 4 := ⟨(kin 736 (by decide +kernel) rfl), (kin 737 (by decide +kernel) rfl), (kin 0 (by decide +kernel) rfl), (kin 738 (by decide +kernel) rfl), ⟨by decide, by decide, by decide +kernel⟩⟩
theorem lL_158 : kLV RL 158 mX6_ifBundled 2 := ⟨(kin 996 (by decide +kernel) rfl), (kin 997 (by decide +kernel) rfl), (kin 998 (by decide +kernel) rfl), (kin 7 (by decide +kernel) rfl), (kin 999 (by decide +kernel) rfl), rfl, ⟨by decide, by decide, by decide +kernel⟩⟩
theorem lL_159 : kLS RL 159 mL_cheapest 3 := ⟨(kin 740 (by decide +kernel) rfl), (kin 741 (by decide +kernel) rfl), (kin 0 (by decide +kernel) rfl), (kin 742 (by decide +kernel) rfl), ⟨by decide, by decide, by decide +kernel⟩⟩
theorem lL_161 : kLV RL 161 mX6_cheapest 1 := ⟨(kin 1008 (by decide +kernel) rfl), (kin 1009 (by decide +kernel) rfl), (kin 1010 (by decide +kernel) rfl), (kin 7 (by decide +kernel) rfl), (kin 1011 (by decide +kernel) rfl), rfl, ⟨by decide, by decide, by decide +kernel⟩⟩
theorem lL_162 : kLV RL 162 mX5_dearest 0 := ⟨(kin 239 (by decide +kernel) rfl), (kin 240 (by decide +kernel) rfl), (kin 241 (by decide +kernel) rfl), (kin 1 (by decide +kernel) rfl), (kin 242 (by decide +kernel) rfl), rfl, ⟨by decide, by decide, by decide +kernel⟩⟩
theorem lL_165 : kLV RL 165 mX6_dearest 0 := ⟨(kin 1040 (by decide +kernel) rfl), (kin 1041 (by decide +kernel) rfl), (kin 1042 (by decide +kernel) rfl), (kin 7 (by decide +kernel) rfl), (kin 1043 (by decide +kernel) rfl), rfl, ⟨by decide, by decide, by decide +kernel⟩⟩
theorem lL_166 : kLV RL 166 mX5_savedShare 0 := ⟨(kin 285 (by decide +kernel) rfl), (kin 286 (by decide +kernel) rfl), (kin 287 (by decide +kernel) rfl), (kin 1 (by decide +kernel) rfl), (kin 288 (by decide +kernel) rfl), rfl, ⟨by decide, by decide, by decide +kernel⟩⟩
theorem lL_170 : kLV RL 170 mX6_savedShare 0 := ⟨(kin 1048 (by decide +kernel) rfl), (kin 1049 (by decide +kernel) rfl), (kin 1050 (by decide +kernel) rfl), (kin 7 (by decide +kernel) rfl), (kin 1051 (by decide +kernel) rfl), rfl, ⟨by decide, by decide, by decide +kernel⟩⟩
theorem lL_171 : kLV RL 171 mX5_digest 0 := ⟨(kin 325 (by decide +kernel) rfl), (kin 326 (by decide +kernel) rfl), (kin 327 (by decide +kernel) rfl), (kin 1 (by decide +kernel) rfl), (kin 328 (by decide +kernel) rfl), rfl, ⟨by decide, by decide, by decide +kernel⟩⟩
theorem lL_175 : kLV RL 175 mX6_digest 0 := ⟨(kin 1052 (by decide +kernel) rfl), (kin 1053 (by decide +kernel) rfl), (kin 1054 (by decide +kernel) rfl), (kin 7 (by decide +kernel) rfl), (kin 1055 (by decide +kernel) rfl), rfl, ⟨by decide, by decide, by decide +kernel⟩⟩
theorem lX6_1 : Cond.methodLink RX6 1 Lib.objectInit ∈ kTb := (kin 749 (by decide +kernel) rfl)
theorem fX6_7 : kFl RX6 7 6 0 true (.array .int) := ⟨_, rfl, by decide, (kin 750 (by decide +kernel) rfl), rfl, rfl, by decide +kernel⟩
theorem fX6_13 : kFl RX6 13 6 2 true (.array .boolean) := ⟨_, rfl, by decide, (kin 752 (by decide +kernel) rfl), rfl, rfl, by decide +kernel⟩
theorem fX6_17 : kFl RX6 17 6 3 true (.array .char) := ⟨_, rfl, by decide, (kin 753 (by decide +kernel) rfl), rfl, rfl, by decide +kernel⟩
theorem fX6_21 : kFl RX6 21 6 6 true (.array .int) := ⟨_, rfl, by decide, (kin 756 (by decide +kernel) rfl), rfl, rfl, by decide +kernel⟩
theorem fX6_24 : kFl RX6 24 6 7 true (.array .int) := ⟨_, rfl, by decide, (kin 757 (by decide +kernel) rfl), rfl, rfl, by decide +kernel⟩
theorem fX6_27 : kFl RX6 27 6 5 false .int := ⟨_, rfl, by decide, (kin 755 (by decide +kernel) rfl), rfl, rfl, by decide +kernel⟩
theorem fX6_31 : kFl RX6 31 6 1 false .int := ⟨_, rfl, by decide, (kin 751 (by decide +kernel) rfl), rfl, rfl, by decide +kernel⟩
theorem lX6_34 : kLV RX6 34 mX6_copies 2 := ⟨(kin 801 (by decide +kernel) rfl), (kin 803 (by decide +kernel) rfl), (kinS 16 (by decide +kernel) rfl), (kin 7 (by decide +kernel) rfl), (kin 804 (by decide +kernel) rfl), rfl, ⟨by decide, by decide, by decide +kernel⟩⟩
theorem lX6_38 : kLV RX6 38 mX6_saves 0 := ⟨(kin 797 (by decide +kernel) rfl), (kin 799 (by decide +kernel) rfl), (kinS 15 (by decide +kernel) rfl), (kin 7 (by decide +kernel) rfl), (kin 800 (by decide +kernel) rfl), rfl, ⟨by decide, by decide, by decide +kernel⟩⟩
theorem lX6_41 : kLS RX6 41 mX6_in 3 := ⟨(kin 790 (by decide +kernel) rfl), (kin 791 (by decide +kernel) rfl), (kin 7 (by decide +kernel) rfl), (kin 792 (by decide +kernel) rfl), ⟨by decide, by decide, by decide +kernel⟩⟩
theorem lX6_45 : kLS RX6 45 mX6_bandOf 1 := ⟨(kin 859 (by decide +kernel) rfl), (kin 860 (by decide +kernel) rfl), (kin 7 (by decide +kernel) rfl), (kin 861 (by decide +kernel) rfl), ⟨by decide, by decide, by decide +kernel⟩⟩
theorem lX6_49 : kLS RX6 49 mX6_greater 2 := ⟨(kin 816 (by decide +kernel) rfl), (kin 817 (by decide +kernel) rfl), (kin 7 (by decide +kernel) rfl), (kin 818 (by decide +kernel) rfl), ⟨by decide, by decide, by decide +kernel⟩⟩
theorem lX6_53 : kLV RX6 53 mX6_girth 1 := ⟨(kin 839 (by decide +kernel) rfl), (kin 841 (by decide +kernel) rfl), (kinS 22 (by decide +kernel) rfl), (kin 7 (by decide +kernel) rfl), (kin 842 (by decide +kernel) rfl), rfl, ⟨by decide, by decide, by decide +kernel⟩⟩
theorem lX6_56 : kLV RX6 56 mX6_rateOf 1 := ⟨(kin 855 (by decide +kernel) rfl), (kin 857 (by decide +kernel) rfl), (kinS 26 (by decide +kernel) rfl), (kin 7 (by decide +kernel) rfl), (kin 858 (by decide +kernel) rfl), rfl, ⟨by decide, by decide, by decide +kernel⟩⟩
theorem lX6_59 : kLV RX6 59 mX6_isOdd 1 := ⟨(kin 862 (by decide +kernel) rfl), (kin 864 (by decide +kernel) rfl), (kinS 27 (by decide +kernel) rfl), (kin 7 (by decide +kernel) rfl), (kin 865 (by decide +kernel) rfl), rfl, ⟨by decide, by decide, by decide +kernel⟩⟩
theorem lX6_63 : kLV RX6 63 mX6_string 1 := ⟨(kin 847 (by decide +kernel) rfl), (kin 849 (by decide +kernel) rfl), (kinS 24 (by decide +kernel) rfl), (kin 7 (by decide +kernel) rfl), (kin 850 (by decide +kernel) rfl), rfl, ⟨by decide, by decide, by decide +kernel⟩⟩
theorem lX6_66 : kLV RX6 66 mX6_postageWith 2 := ⟨(kin 851 (by decide +kernel) rfl), (kin 853 (by decide +kernel) rfl), (kinS 25 (by decide +kernel) rfl), (kin 7 (by decide +kernel) rfl), (kin 854 (by decide +kernel) rfl), rfl, ⟨by decide, by decide, by decide +kernel⟩⟩
theorem lX6_69 : kLS RX6 69 mX6_at 1 := ⟨(kin 809 (by decide +kernel) rfl), (kin 810 (by decide +kernel) rfl), (kin 7 (by decide +kernel) rfl), (kin 811 (by decide +kernel) rfl), ⟨by decide, by decide, by decide +kernel⟩⟩
theorem lX6_72 : kLV RX6 72 mX6_sorts 4 := ⟨(kin 812 (by decide +kernel) rfl), (kin 814 (by decide +kernel) rfl), (kinS 18 (by decide +kernel) rfl), (kin 7 (by decide +kernel) rfl), (kin 815 (by decide +kernel) rfl), rfl, ⟨by decide, by decide, by decide +kernel⟩⟩
theorem lX6_76 : kLV RX6 76 mX6_reason 1 := ⟨(kin 835 (by decide +kernel) rfl), (kin 837 (by decide +kernel) rfl), (kinS 21 (by decide +kernel) rfl), (kin 7 (by decide +kernel) rfl), (kin 838 (by decide +kernel) rfl), rfl, ⟨by decide, by decide, by decide +kernel⟩⟩
theorem lX6_79 : kLV RX6 79 mX6_laysBundle 2 := ⟨(kin 1004 (by decide +kernel) rfl), (kin 1006 (by decide +kernel) rfl), (kinS 43 (by decide +kernel) rfl), (kin 7 (by decide +kernel) rfl), (kin 1007 (by decide +kernel) rfl), rfl, ⟨by decide, by decide, by decide +kernel⟩⟩
theorem lX6_83 : kLV RX6 83 mX6_postage 1 := ⟨(kin 843 (by decide +kernel) rfl), (kin 845 (by decide +kernel) rfl), (kinS 23 (by decide +kernel) rfl), (kin 7 (by decide +kernel) rfl), (kin 846 (by decide +kernel) rfl), rfl, ⟨by decide, by decide, by decide +kernel⟩⟩
theorem lX6_86 : kLV RX6 86 mX6_alone 1 := ⟨(kin 1020 (by decide +kernel) rfl), (kin 1022 (by decide +kernel) rfl), (kinS 46 (by decide +kernel) rfl), (kin 7 (by decide +kernel) rfl), (kin 1023 (by decide +kernel) rfl), rfl, ⟨by decide, by decide, by decide +kernel⟩⟩
theorem lX6_89 : kLV RX6 89 mX6_bundled 2 := ⟨(kin 1000 (by decide +kernel) rfl), (kin 1002 (by decide +kernel) rfl), (kinS 42 (by decide +kernel) rfl), (kin 7 (by decide +kernel) rfl), (kin 1003 (by decide +kernel) rfl), rfl, ⟨by decide, by decide, by decide +kernel⟩⟩
theorem lX6_92 : kLV RX6 92 mX6_isFree 2 := ⟨(kin 1036 (by decide +kernel) rfl), (kin 1038 (by decide +kernel) rfl), (kinS 50 (by decide +kernel) rfl), (kin 7 (by decide +kernel) rfl), (kin 1039 (by decide +kernel) rfl), rfl, ⟨by decide, by decide, by decide +kernel⟩⟩
theorem lX6_95 : kLV RX6 95 mX6_costOf 1 := ⟨(kin 1028 (by decide +kernel) rfl), (kin 1030 (by decide +kernel) rfl), (kinS 48 (by decide +kernel) rfl), (kin 7 (by decide +kernel) rfl), (kin 1031 (by decide +kernel) rfl), rfl, ⟨by decide, by decide, by decide +kernel⟩⟩
theorem lX6_98 : kLV RX6 98 mX6_canHave 2 := ⟨(kin 1032 (by decide +kernel) rfl), (kin 1034 (by decide +kernel) rfl), (kinS 49 (by decide +kernel) rfl), (kin 7 (by decide +kernel) rfl), (kin 1035 (by decide +kernel) rfl), rfl, ⟨by decide, by decide, by decide +kernel⟩⟩
theorem lX6_101 : kLV RX6 101 mX6_bySets 0 := ⟨(kin 1016 (by decide +kernel) rfl), (kin 1018 (by decide +kernel) rfl), (kinS 45 (by decide +kernel) rfl), (kin 7 (by decide +kernel) rfl), (kin 1019 (by decide +kernel) rfl), rfl, ⟨by decide, by decide, by decide +kernel⟩⟩
theorem lX6_105 : kLV RX6 105 mX6_byTrying 0 := ⟨(kin 1024 (by decide +kernel) rfl), (kin 1026 (by decide +kernel) rfl), (kinS 47 (by decide +kernel) rfl), (kin 7 (by decide +kernel) rfl), (kin 1027 (by decide +kernel) rfl), rfl, ⟨by decide, by decide, by decide +kernel⟩⟩
theorem lX6_108 : kLS RX6 108 mX6_isSide 1 := ⟨(kin 787 (by decide +kernel) rfl), (kin 788 (by decide +kernel) rfl), (kin 7 (by decide +kernel) rfl), (kin 789 (by decide +kernel) rfl), ⟨by decide, by decide, by decide +kernel⟩⟩
theorem lX6_111 : kLV RX6 111 mX6_goes 2 := ⟨(kin 793 (by decide +kernel) rfl), (kin 795 (by decide +kernel) rfl), (kinS 14 (by decide +kernel) rfl), (kin 7 (by decide +kernel) rfl), (kin 796 (by decide +kernel) rfl), rfl, ⟨by decide, by decide, by decide +kernel⟩⟩
theorem lX6_115 : kLV RX6 115 mX6_comes 6 := ⟨(kin 805 (by decide +kernel) rfl), (kin 807 (by decide +kernel) rfl), (kinS 17 (by decide +kernel) rfl), (kin 7 (by decide +kernel) rfl), (kin 808 (by decide +kernel) rfl), rfl, ⟨by decide, by decide, by decide +kernel⟩⟩
theorem lX6_119 : kLV RX6 119 mX6_isParcel 1 := ⟨(kin 823 (by decide +kernel) rfl), (kin 825 (by decide +kernel) rfl), (kinS 19 (by decide +kernel) rfl), (kin 7 (by decide +kernel) rfl), (kin 826 (by decide +kernel) rfl), rfl, ⟨by decide, by decide, by decide +kernel⟩⟩
theorem lX6_122 : kLV RX6 122 mX6_sets 2 := ⟨(kin 827 (by decide +kernel) rfl), (kin 829 (by decide +kernel) rfl), (kinS 20 (by decide +kernel) rfl), (kin 7 (by decide +kernel) rfl), (kin 830 (by decide +kernel) rfl), rfl, ⟨by decide, by decide, by decide +kernel⟩⟩
theorem lX6_125 : kLV RX6 125 mX6_isGone 1 := ⟨(kin 870 (by decide +kernel) rfl), (kin 872 (by decide +kernel) rfl), (kinS 29 (by decide +kernel) rfl), (kin 7 (by decide +kernel) rfl), (kin 873 (by decide +kernel) rfl), rfl, ⟨by decide, by decide, by decide +kernel⟩⟩
theorem lX6_129 : kLV RX6 129 mX6_sends 2 := ⟨(kin 866 (by decide +kernel) rfl), (kin 868 (by decide +kernel) rfl), (kinS 28 (by decide +kernel) rfl), (kin 7 (by decide +kernel) rfl), (kin 869 (by decide +kernel) rfl), rfl, ⟨by decide, by decide, by decide +kernel⟩⟩
theorem lX6_132 : kLS RX6 132 mX6_isValue 2 := ⟨(kin 894 (by decide +kernel) rfl), (kin 895 (by decide +kernel) rfl), (kin 7 (by decide +kernel) rfl), (kin 896 (by decide +kernel) rfl), ⟨by decide, by decide, by decide +kernel⟩⟩
theorem fX6_135 : kFl RX6 135 6 4 false .int := ⟨_, rfl, by decide, (kin 754 (by decide +kernel) rfl), rfl, rfl, by decide +kernel⟩
theorem fX6_138 : kFl RX6 138 6 8 false .int := ⟨_, rfl, by decide, (kin 758 (by decide +kernel) rfl), rfl, rfl, by decide +kernel⟩
theorem lX6_141 : kLV RX6 141 mX6_isHere 2 := ⟨(kin 921 (by decide +kernel) rfl), (kin 923 (by decide +kernel) rfl), (kinS 33 (by decide +kernel) rfl), (kin 7 (by decide +kernel) rfl), (kin 924 (by decide +kernel) rfl), rfl, ⟨by decide, by decide, by decide +kernel⟩⟩
theorem lX6_145 : kLV RX6 145 mX6_takes 1 := ⟨(kin 917 (by decide +kernel) rfl), (kin 919 (by decide +kernel) rfl), (kinS 32 (by decide +kernel) rfl), (kin 7 (by decide +kernel) rfl), (kin 920 (by decide +kernel) rfl), rfl, ⟨by decide, by decide, by decide +kernel⟩⟩
theorem lX6_149 : kLV RX6 149 mX6_number 1 := ⟨(kin 925 (by decide +kernel) rfl), (kin 927 (by decide +kernel) rfl), (kinS 34 (by decide +kernel) rfl), (kin 7 (by decide +kernel) rfl), (kin 928 (by decide +kernel) rfl), rfl, ⟨by decide, by decide, by decide +kernel⟩⟩
theorem lX6_152 : kLV RX6 152 mX6_readsParcel 0 := ⟨(kin 913 (by decide +kernel) rfl), (kin 915 (by decide +kernel) rfl), (kinS 31 (by decide +kernel) rfl), (kin 7 (by decide +kernel) rfl), (kin 916 (by decide +kernel) rfl), rfl, ⟨by decide, by decide, by decide +kernel⟩⟩
theorem lX6_156 : kLV RX6 156 mX6_error 0 := ⟨(kin 909 (by decide +kernel) rfl), (kin 911 (by decide +kernel) rfl), (kinS 30 (by decide +kernel) rfl), (kin 7 (by decide +kernel) rfl), (kin 912 (by decide +kernel) rfl), rfl, ⟨by decide, by decide, by decide +kernel⟩⟩
theorem lX6_159 : kLS RX6 159 mX6_isSlot 1 := ⟨(kin 937 (by decide +kernel) rfl), (kin 938 (by decide +kernel) rfl), (kin 7 (by decide +kernel) rfl), (kin 939 (by decide +kernel) rfl), ⟨by decide, by decide, by decide +kernel⟩⟩
theorem lX6_162 : kLV RX6 162 mX6_property 2 := ⟨(kin 952 (by decide +kernel) rfl), (kin 954 (by decide +kernel) rfl), (kinS 35 (by decide +kernel) rfl), (kin 7 (by decide +kernel) rfl), (kin 955 (by decide +kernel) rfl), rfl, ⟨by decide, by decide, by decide +kernel⟩⟩
theorem lX6_165 : kLV RX6 165 mX6_rateDown 1 := ⟨(kin 964 (by decide +kernel) rfl), (kin 966 (by decide +kernel) rfl), (kinS 37 (by decide +kernel) rfl), (kin 7 (by decide +kernel) rfl), (kin 967 (by decide +kernel) rfl), rfl, ⟨by decide, by decide, by decide +kernel⟩⟩
theorem lX6_168 : kLV RX6 168 mX6_rated 2 := ⟨(kin 960 (by decide +kernel) rfl), (kin 962 (by decide +kernel) rfl), (kinS 36 (by decide +kernel) rfl), (kin 7 (by decide +kernel) rfl), (kin 963 (by decide +kernel) rfl), rfl, ⟨by decide, by decide, by decide +kernel⟩⟩
theorem lX6_171 : kLV RX6 171 mX6_parcels 1 := ⟨(kin 976 (by decide +kernel) rfl), (kin 978 (by decide +kernel) rfl), (kinS 39 (by decide +kernel) rfl), (kin 7 (by decide +kernel) rfl), (kin 979 (by decide +kernel) rfl), rfl, ⟨by decide, by decide, by decide +kernel⟩⟩
theorem lX6_175 : kLV RX6 175 mX6_lowBands 0 := ⟨(kin 980 (by decide +kernel) rfl), (kin 982 (by decide +kernel) rfl), (kinS 40 (by decide +kernel) rfl), (kin 7 (by decide +kernel) rfl), (kin 983 (by decide +kernel) rfl), rfl, ⟨by decide, by decide, by decide +kernel⟩⟩
theorem lX6_178 : kLV RX6 178 mX6_counted 1 := ⟨(kin 972 (by decide +kernel) rfl), (kin 974 (by decide +kernel) rfl), (kinS 38 (by decide +kernel) rfl), (kin 7 (by decide +kernel) rfl), (kin 975 (by decide +kernel) rfl), rfl, ⟨by decide, by decide, by decide +kernel⟩⟩
theorem lX6_181 : kLV RX6 181 mX6_wayFor 1 := ⟨(kin 992 (by decide +kernel) rfl), (kin 994 (by decide +kernel) rfl), (kinS 41 (by decide +kernel) rfl), (kin 7 (by decide +kernel) rfl), (kin 995 (by decide +kernel) rfl), rfl, ⟨by decide, by decide, by decide +kernel⟩⟩
theorem lX6_184 : kLV RX6 184 mX6_least 1 := ⟨(kin 1012 (by decide +kernel) rfl), (kin 1014 (by decide +kernel) rfl), (kinS 44 (by decide +kernel) rfl), (kin 7 (by decide +kernel) rfl), (kin 1015 (by decide +kernel) rfl), rfl, ⟨by decide, by decide, by decide +kernel⟩⟩
theorem lX6_187 : kLV RX6 187 mX6_dearestParcel 0 := ⟨(kin 1044 (by decide +kernel) rfl), (kin 1046 (by decide +kernel) rfl), (kinS 51 (by decide +kernel) rfl), (kin 7 (by decide +kernel) rfl), (kin 1047 (by decide +kernel) rfl), rfl, ⟨by decide, by decide, by decide +kernel⟩⟩
theorem gX6_190 : Cond.constantLong RX6 190 31 ∈ kTb := (kin 1057 (by decide +kernel) rfl)
theorem gX6_192 : Cond.constantLong RX6 192 3691 ∈ kTb := (kin 1056 (by decide +kernel) rfl)
theorem lX6_194 : kLV RX6 194 mX6_ofParcel 2 := ⟨(kin 1058 (by decide +kernel) rfl), (kin 1060 (by decide +kernel) rfl), (kinS 52 (by decide +kernel) rfl), (kin 7 (by decide +kernel) rfl), (kin 1061 (by decide +kernel) rfl), rfl, ⟨by decide, by decide, by decide +kernel⟩⟩
theorem lX6_198 : kLV RX6 198 mX6_savedShare 0 := ⟨(kin 1062 (by decide +kernel) rfl), (kin 1049 (by decide +kernel) rfl), (kin 1050 (by decide +kernel) rfl), (kin 7 (by decide +kernel) rfl), (kin 1051 (by decide +kernel) rfl), rfl, ⟨by decide, by decide, by decide +kernel⟩⟩
theorem koi1 : Cond.instanceMethod Lib.objectInit ∈ kTb := (kin 23 (by decide +kernel) rfl)
theorem koi2 : Cond.code Lib.objectInit ⟨#[0xb1]⟩ 1 none ∈ kTb := (kin 24 (by decide +kernel) rfl)
theorem ki_0 : Cond.instantiable RX0 5 ∈ kTb := (kin 152 (by decide +kernel) rfl)
theorem kj_0 : Cond.initialized RX0 ∈ kTb := (kin 6 (by decide +kernel) rfl)
theorem ki_1 : Cond.instantiable RX1 10 ∈ kTb := (kin 26 (by decide +kernel) rfl)
theorem kj_1 : Cond.initialized RX1 ∈ kTb := (kin 2 (by decide +kernel) rfl)
theorem ki_2 : Cond.instantiable RX2 7 ∈ kTb := (kin 33 (by decide +kernel) rfl)
theorem kj_2 : Cond.initialized RX2 ∈ kTb := (kin 3 (by decide +kernel) rfl)
theorem ki_3 : Cond.instantiable RX3 4 ∈ kTb := (kin 131 (by decide +kernel) rfl)
theorem kj_3 : Cond.initialized RX3 ∈ kTb := (kin 5 (by decide +kernel) rfl)
theorem ki_4 : Cond.instantiable RX4 2 ∈ kTb := (kin 114 (by decide +kernel) rfl)
theorem kj_4 : Cond.initialized RX4 ∈ kTb := (kin 4 (by decide +kernel) rfl)
theorem ki_5 : Cond.instantiable RX5 6 ∈ kTb := (kin 18 (by decide +kernel) rfl)
theorem kj_5 : Cond.initialized RX5 ∈ kTb := (kin 1 (by decide +kernel) rfl)
theorem ki_6 : Cond.instantiable RX6 9 ∈ kTb := (kin 745 (by decide +kernel) rfl)
theorem kj_6 : Cond.initialized RX6 ∈ kTb := (kin 7 (by decide +kernel) rfl)
theorem ka_int : Cond.arrayClass .int ∈ kTb := (kin 70 (by decide +kernel) rfl)
theorem ka_boolean : Cond.arrayClass .boolean ∈ kTb := (kin 129 (by decide +kernel) rfl)
theorem ka_char : Cond.arrayClass .char ∈ kTb := (kin 778 (by decide +kernel) rfl)
theorem ka_long : Cond.arrayClass .long ∈ kTb := (kin 1073 (by decide +kernel) rfl)
theorem kj_IAE : Cond.initialized kIAE ∈ kTb := (kin 11 (by decide +kernel) rfl)
theorem kj_IOB : Cond.initialized kIOB ∈ kTb := (kin 14 (by decide +kernel) rfl)
theorem kj_ISE : Cond.initialized kISE ∈ kTb := (kin 15 (by decide +kernel) rfl)
end
section
/-! ===== naturals in ints ===== -/
theorem kA {x y : Int32} {a b : Nat} (h1 : x = nI a) (h2 : y = nI b) : x + y = nI (a + b) := by
  subst h1; subst h2
  unfold nI
  exact (Int32.ofNat_add a b).symm
theorem kMu {x y : Int32} {a b : Nat} (h1 : x = nI a) (h2 : y = nI b) : x * y = nI (a * b) := by
  subst h1; subst h2
  unfold nI
  exact (Int32.ofNat_mul a b).symm
theorem kS {x y : Int32} {a b : Nat} (h1 : x = nI a) (h2 : y = nI b) (h : b ≤ a) : x - y = nI (a - b) := by
  have e := kA (x := nI (a - b)) (y := nI b) rfl rfl
  rw [Nat.sub_add_cancel h] at e
  rw [h1, h2, ← e]
  exact Int32.add_sub_cancel _ _
theorem kEqI {x y : Int32} {a b : Nat} (ha : a < 2147483648) (hb : b < 2147483648) (h1 : x = nI a) (h2 : y = nI b) : x = y ↔ a = b := by
  subst h1; subst h2
  rw [← Int32.toInt_inj, nI_toInt ha, nI_toInt hb]
  omega
theorem kLtI {x y : Int32} {a b : Nat} (ha : a < 2147483648) (hb : b < 2147483648) (h1 : x = nI a) (h2 : y = nI b) : x < y ↔ a < b := by
  subst h1; subst h2
  rw [Int32.lt_iff_toInt_lt, nI_toInt ha, nI_toInt hb]
  omega
theorem kLeI {x y : Int32} {a b : Nat} (ha : a < 2147483648) (hb : b < 2147483648) (h1 : x = nI a) (h2 : y = nI b) : x ≤ y ↔ a ≤ b := by
  subst h1; subst h2
  rw [Int32.le_iff_toInt_le, nI_toInt ha, nI_toInt hb]
  omega
theorem kcl0 {j : Int32} {i : Nat} (hj : j = nI i) (hi : i < 2147483648) : j.toNatClampNeg = i := by
  subst hj
  exact nI_clamp hi
/-- a truth value, as the machine keeps it -/
def b2i (p : Prop) [Decidable p] : Int32 := if p then 1 else 0
theorem b2i_t {p : Prop} [Decidable p] (h : p) : b2i p = 1 := if_pos h
theorem b2i_f {p : Prop} [Decidable p] (h : ¬ p) : b2i p = 0 := if_neg h
theorem b2i_0 {p : Prop} [Decidable p] : b2i p = 0 ↔ ¬ p := by
  unfold b2i
  by_cases h : p <;> simp [h]
theorem b2i_z (p : Prop) [Decidable p] : narrow .boolean (.int (b2i p)) = .int (b2i p) := by
  unfold b2i
  by_cases h : p
  · rw [if_pos h]; rfl
  · rw [if_neg h]; rfl
section KN
variable {X : Nat × (Nat → Int32)} {M : kMi} {dd : Nat} {Q : kQ} {rc rs n : Nat} {w : kM} {L : List (Nat × Value)} {st : List Value}
theorem kw_ialoadN {pc a N i : Nat} {f : Nat → Int32} {j : Int32} (d : decode M.2.1 pc = .ok (.iaload, 1)) (h : w a = kI 0 N f) (hj : j = nI i) (hi : i < N) (hN : N < 100000) (kk : kW X M dd Q rc rs n w (pc + 1) L (.int (f i) :: st)) : kW X M dd Q rc rs n w pc L (.int j :: .ref a :: st) := by
  refine kw_iaload d h (by rw [hj]; exact vp_in_nI hi (by omega)) ?_
  rw [kcl0 hj (by omega)]
  exact kk
theorem kw_zaloadN {pc a N i : Nat} {f : Nat → Int32} {j : Int32} (d : decode M.2.1 pc = .ok (.baload, 1)) (h : w a = kI 1 N f) (hj : j = nI i) (hi : i < N) (hN : N < 100000) (kk : kW X M dd Q rc rs n w (pc + 1) L (.int (f i) :: st)) : kW X M dd Q rc rs n w pc L (.int j :: .ref a :: st) := by
  refine kw_zaload d h (by rw [hj]; exact vp_in_nI hi (by omega)) ?_
  rw [kcl0 hj (by omega)]
  exact kk
theorem kw_caloadN {pc a N i : Nat} {f : Nat → Int32} {j : Int32} (d : decode M.2.1 pc = .ok (.caload, 1)) (h : w a = kI 2 N f) (hj : j = nI i) (hi : i < N) (hN : N < 100000) (kk : kW X M dd Q rc rs n w (pc + 1) L (.int (f i) :: st)) : kW X M dd Q rc rs n w pc L (.int j :: .ref a :: st) := by
  refine kw_caload d h (by rw [hj]; exact vp_in_nI hi (by omega)) ?_
  rw [kcl0 hj (by omega)]
  exact kk
theorem kw_iastoreN {pc a N i : Nat} {f : Nat → Int32} {j x : Int32} (d : decode M.2.1 pc = .ok (.iastore, 1)) (h : w a = kI 0 N f) (hj : j = nI i) (hi : i < N) (hN : N < 100000) (kk : kW X M dd Q rc rs n (kup w a (kI 0 N (kuf f i x))) (pc + 1) L st) : kW X M dd Q rc rs n w pc L (.int x :: .int j :: .ref a :: st) := by
  refine kw_iastore d h (by rw [hj]; exact vp_in_nI hi (by omega)) ?_
  rw [kcl0 hj (by omega)]
  exact kk
theorem kw_zastoreN {pc a N i : Nat} {f : Nat → Int32} {j x : Int32} (d : decode M.2.1 pc = .ok (.bastore, 1)) (h : w a = kI 1 N f) (hj : j = nI i) (hi : i < N) (hN : N < 100000) (hz : narrow .boolean (.int x) = .int x) (kk : kW X M dd Q rc rs n (kup w a (kI 1 N (kuf f i x))) (pc + 1) L st) : kW X M dd Q rc rs n w pc L (.int x :: .int j :: .ref a :: st) := by
  refine kw_zastore d h (by rw [hj]; exact vp_in_nI hi (by omega)) hz ?_
  rw [kcl0 hj (by omega)]
  exact kk
theorem kw_castoreN {pc a N i : Nat} {f : Nat → Int32} {j x : Int32} (d : decode M.2.1 pc = .ok (.castore, 1)) (h : w a = kI 2 N f) (hj : j = nI i) (hi : i < N) (hN : N < 100000) (hz : narrow .char (.int x) = .int x) (kk : kW X M dd Q rc rs n (kup w a (kI 2 N (kuf f i x))) (pc + 1) L st) : kW X M dd Q rc rs n w pc L (.int x :: .int j :: .ref a :: st) := by
  refine kw_castore d h (by rw [hj]; exact vp_in_nI hi (by omega)) hz ?_
  rw [kcl0 hj (by omega)]
  exact kk
/-- a method that reads and answers v -/
def kCtrR (M : kMi) (d : Nat) (As : List Value) (w : kM) (v : Value) : Prop := ∀ n : Nat, kCtr M d 0 0 As w n (fun o w' n' => o = .inl (some v) ∧ w' = w ∧ n' = n)
/-- .. that answers v, in a world that becomes another -/
def kCtrW (M : kMi) (d : Nat) (As : List Value) (w : kM) (v : Option Value) (P : kM → Prop) : Prop := ∀ n : Nat, kCtr M d 0 0 As w n (fun o w' n' => o = .inl v ∧ P w' ∧ n' = n)
theorem kCtrW.weak {d : Nat} {As : List Value} {v : Option Value} {P P' : kM → Prop} (h : kCtrW M d As w v P) (hP : ∀ w', P w' → P' w') : kCtrW M d As w v P' := by
  intro n l hl G b p e h1 h2 h3 s m args below hf ha hPc hK
  obtain ⟨k, o, a1, a2, a3, hq⟩ := h n l hl G b p e h1 h2 h3 s m args below hf ha hPc hK
  refine ⟨k, o, a1, a2, a3, ?_⟩
  rcases hq with ⟨⟨⟨v', w', n', q1, ⟨q2, q3, q4⟩, q5⟩, q6⟩, q7⟩ | ⟨q, q1, E, ce, L', ⟨⟨w', n', ⟨q2, _⟩, _⟩, _⟩, _⟩
  · exact Or.inl ⟨⟨⟨v', w', n', q1, ⟨q2, hP _ q3, q4⟩, q5⟩, q6⟩, q7⟩
  · cases q2
theorem kw_callVr {My : kMi} {dy pc idx o ci k : Nat} {F : Nat → Value} {As rest st0 : List Value} {v : Value} (d : decode M.2.1 pc = .ok (.invokevirtual idx, 3)) (hl0 : kLV M.1.cls idx My k) (hC : kCtrR My dy (.ref o :: As) w v) (ho : w o = kO ci F) (hci : (kcl[ci]?).map (fun r => r.1) = some My.1.cls) (hst : st0 = As.reverse ++ .ref o :: rest) (hk : As.length = k)
    (hroom : dy + 1 ≤ dd ∧ My.2.2.1 ≤ 40 ∧ (rest.map fun v => v.category).sum ≤ 8)
    (kk : kW X M dd Q rc rs n w (pc + 3) L (v :: rest)) : kW X M dd Q rc rs n w pc L st0 := by
  refine kw_callV d hl0 (hC n) ho hci hst hk ⟨hroom.1, hroom.2.1, hroom.2.2, Nat.zero_le _, Nat.zero_le _⟩ (fun E w' n' h => by cases h.1) (fun v' w' n' h => ?_)
  obtain ⟨h1, rfl, rfl⟩ := h
  cases h1
  exact kk
theorem kw_callSr {My : kMi} {dy pc idx k : Nat} {As rest st0 : List Value} {v : Value} (d : decode M.2.1 pc = .ok (.invokestatic idx, 3)) (hl0 : kLS M.1.cls idx My k) (hC : kCtrR My dy As w v) (hst : st0 = As.reverse ++ rest) (hk : As.length = k)
    (hroom : dy + 1 ≤ dd ∧ My.2.2.1 ≤ 40 ∧ (rest.map fun v => v.category).sum ≤ 8)
    (kk : kW X M dd Q rc rs n w (pc + 3) L (v :: rest)) : kW X M dd Q rc rs n w pc L st0 := by
  refine kw_callS d hl0 (hC n) hst hk ⟨hroom.1, hroom.2.1, hroom.2.2, Nat.zero_le _, Nat.zero_le _⟩ (fun E w' n' h => by cases h.1) (fun v' w' n' h => ?_)
  obtain ⟨h1, rfl, rfl⟩ := h
  cases h1
  exact kk
theorem kw_callVw {My : kMi} {dy pc idx o ci k : Nat} {F : Nat → Value} {As rest st0 : List Value} {v : Option Value} {P : kM → Prop} (d : decode M.2.1 pc = .ok (.invokevirtual idx, 3)) (hl0 : kLV M.1.cls idx My k) (hC : kCtrW My dy (.ref o :: As) w v P) (ho : w o = kO ci F) (hci : (kcl[ci]?).map (fun r => r.1) = some My.1.cls) (hst : st0 = As.reverse ++ .ref o :: rest) (hk : As.length = k)
    (hroom : dy + 1 ≤ dd ∧ My.2.2.1 ≤ 40 ∧ (rest.map fun v => v.category).sum ≤ 8)
    (kk : ∀ w', P w' → kW X M dd Q rc rs n w' (pc + 3) L (v.toList ++ rest)) : kW X M dd Q rc rs n w pc L st0 := by
  refine kw_callV d hl0 (hC n) ho hci hst hk ⟨hroom.1, hroom.2.1, hroom.2.2, Nat.zero_le _, Nat.zero_le _⟩ (fun E w' n' h => by cases h.1) (fun v' w' n' h => ?_)
  obtain ⟨h1, h2, rfl⟩ := h
  cases h1
  exact kk w' h2
/-- the judgement of a reading method, and of a writing one: what is proved of its body -/
theorem kCtrR.of {d : Nat} {As : List Value} {v : Value} (hy : plainName M.1.cls = true) (hn : M.1.name ≠ "law") (hh : M.2.2.2.2 = []) (hl : (lg_sl As).length ≤ M.2.2.1) (h : ∀ n, kW (0, fun _ => 0) M d (fun o w' n' => o = .inl (some v) ∧ w' = w ∧ n' = n) 0 0 n w 0 (lv_args 0 As) []) : kCtrR M d As w v := fun n => kCtr.of hy hn hh hl (h n)
theorem kCtrW.of {d : Nat} {As : List Value} {v : Option Value} {P : kM → Prop} (hy : plainName M.1.cls = true) (hn : M.1.name ≠ "law") (hh : M.2.2.2.2 = []) (hl : (lg_sl As).length ≤ M.2.2.1) (h : ∀ n, kW (0, fun _ => 0) M d (fun o w' n' => o = .inl v ∧ P w' ∧ n' = n) 0 0 n w 0 (lv_args 0 As) []) : kCtrW M d As w v P := fun n => kCtr.of hy hn hh hl (h n)
end KN
end
section
theorem nlX0_init : mX0_init.1.name ≠ "law" := by decide +kernel
theorem nlX0_postageOfPair : mX0_postageOfPair.1.name ≠ "law" := by decide +kernel
theorem nlX0_weigh : mX0_weigh.1.name ≠ "law" := by decide +kernel
theorem nlX0_costUnbundled : mX0_costUnbundled.1.name ≠ "law" := by decide +kernel
theorem nlX0_leastBySets : mX0_leastBySets.1.name ≠ "law" := by decide +kernel
theorem nlX0_leastWithLast : mX0_leastWithLast.1.name ≠ "law" := by decide +kernel
theorem nlX0_leastByTrying : mX0_leastByTrying.1.name ≠ "law" := by decide +kernel
theorem nlX0_leastFrom : mX0_leastFrom.1.name ≠ "law" := by decide +kernel
theorem nlX1_init : mX1_init.1.name ≠ "law" := by decide +kernel
theorem nlX1_copyFrom : mX1_copyFrom.1.name ≠ "law" := by decide +kernel
theorem nlX1_admit : mX1_admit.1.name ≠ "law" := by decide +kernel
theorem nlX1_remove : mX1_remove.1.name ≠ "law" := by decide +kernel
theorem nlX1_sendOff : mX1_sendOff.1.name ≠ "law" := by decide +kernel
theorem nlX1_decideDispute : mX1_decideDispute.1.name ≠ "law" := by decide +kernel
theorem nlX1_dispatch : mX1_dispatch.1.name ≠ "law" := by decide +kernel
theorem nlX1_stringOf : mX1_stringOf.1.name ≠ "law" := by decide +kernel
theorem nlX1_isOdd : mX1_isOdd.1.name ≠ "law" := by decide +kernel
theorem nlX1_reasonAgainst : mX1_reasonAgainst.1.name ≠ "law" := by decide +kernel
theorem nlX1_isTaken : mX1_isTaken.1.name ≠ "law" := by decide +kernel
theorem nlX1_postageFor : mX1_postageFor.1.name ≠ "law" := by decide +kernel
theorem nlX1_rateUpwards : mX1_rateUpwards.1.name ≠ "law" := by decide +kernel
theorem nlX1_rateDownwards : mX1_rateDownwards.1.name ≠ "law" := by decide +kernel
theorem nlX1_leastWay : mX1_leastWay.1.name ≠ "law" := by decide +kernel
theorem nlX1_dearestTaken : mX1_dearestTaken.1.name ≠ "law" := by decide +kernel
theorem nlX1_numberOf : mX1_numberOf.1.name ≠ "law" := by decide +kernel
theorem nlX1_tally : mX1_tally.1.name ≠ "law" := by decide +kernel
theorem nlX1_bandOf : mX1_bandOf.1.name ≠ "law" := by decide +kernel
theorem nlX1_takenParcels : mX1_takenParcels.1.name ≠ "law" := by decide +kernel
theorem nlX1_oddParcels : mX1_oddParcels.1.name ≠ "law" := by decide +kernel
theorem nlX1_undercutBands : mX1_undercutBands.1.name ≠ "law" := by decide +kernel
theorem nlX2_init : mX2_init.1.name ≠ "law" := by decide +kernel
theorem nlX2_fill : mX2_fill.1.name ≠ "law" := by decide +kernel
theorem nlX2_copyFrom : mX2_copyFrom.1.name ≠ "law" := by decide +kernel
theorem nlX2_becomeBundle : mX2_becomeBundle.1.name ≠ "law" := by decide +kernel
theorem nlX2_tie : mX2_tie.1.name ≠ "law" := by decide +kernel
theorem nlX2_insure : mX2_insure.1.name ≠ "law" := by decide +kernel
theorem nlX2_girth : mX2_girth.1.name ≠ "law" := by decide +kernel
theorem nlX2_stringWithoutKnots : mX2_stringWithoutKnots.1.name ≠ "law" := by decide +kernel
theorem nlX2_laySides : mX2_laySides.1.name ≠ "law" := by decide +kernel
theorem nlX3_init : mX3_init.1.name ≠ "law" := by decide +kernel
theorem nlX3_hasRoom : mX3_hasRoom.1.name ≠ "law" := by decide +kernel
theorem nlX3_add : mX3_add.1.name ≠ "law" := by decide +kernel
theorem nlX3_clear : mX3_clear.1.name ≠ "law" := by decide +kernel
theorem nlX3_errorPlace : mX3_errorPlace.1.name ≠ "law" := by decide +kernel
theorem nlX3_tellsParcels : mX3_tellsParcels.1.name ≠ "law" := by decide +kernel
theorem nlX3_startReading : mX3_startReading.1.name ≠ "law" := by decide +kernel
theorem nlX3_isAtParcelEnd : mX3_isAtParcelEnd.1.name ≠ "law" := by decide +kernel
theorem nlX3_admitReadTo : mX3_admitReadTo.1.name ≠ "law" := by decide +kernel
theorem nlX3_reads : mX3_reads.1.name ≠ "law" := by decide +kernel
theorem nlX3_readsInNumber : mX3_readsInNumber.1.name ≠ "law" := by decide +kernel
theorem nlX3_endsNumber : mX3_endsNumber.1.name ≠ "law" := by decide +kernel
theorem nlX3_readsChoice : mX3_readsChoice.1.name ≠ "law" := by decide +kernel
theorem nlX3_wayOf : mX3_wayOf.1.name ≠ "law" := by decide +kernel
theorem nlX4_init : mX4_init.1.name ≠ "law" := by decide +kernel
theorem nlX4_save : mX4_save.1.name ≠ "law" := by decide +kernel
theorem nlX4_restoreLatest : mX4_restoreLatest.1.name ≠ "law" := by decide +kernel
theorem nlX4_dropOldest : mX4_dropOldest.1.name ≠ "law" := by decide +kernel
theorem nlX5_init : mX5_init.1.name ≠ "law" := by decide +kernel
theorem nlX5_bring : mX5_bring.1.name ≠ "law" := by decide +kernel
theorem nlX5_change : mX5_change.1.name ≠ "law" := by decide +kernel
theorem nlX5_send : mX5_send.1.name ≠ "law" := by decide +kernel
theorem nlX5_dispute : mX5_dispute.1.name ≠ "law" := by decide +kernel
theorem nlX5_takeBack : mX5_takeBack.1.name ≠ "law" := by decide +kernel
theorem nlX5_price : mX5_price.1.name ≠ "law" := by decide +kernel
theorem nlX5_zone : mX5_zone.1.name ≠ "law" := by decide +kernel
theorem nlX5_set : mX5_set.1.name ≠ "law" := by decide +kernel
theorem nlX5_append : mX5_append.1.name ≠ "law" := by decide +kernel
theorem nlX5_clearBuffer : mX5_clearBuffer.1.name ≠ "law" := by decide +kernel
theorem nlX5_firstError : mX5_firstError.1.name ≠ "law" := by decide +kernel
theorem nlX5_run : mX5_run.1.name ≠ "law" := by decide +kernel
theorem nlX5_keep : mX5_keep.1.name ≠ "law" := by decide +kernel
theorem nlX5_goBack : mX5_goBack.1.name ≠ "law" := by decide +kernel
theorem nlX5_undo : mX5_undo.1.name ≠ "law" := by decide +kernel
theorem nlX5_parcelOf : mX5_parcelOf.1.name ≠ "law" := by decide +kernel
theorem nlX5_rate : mX5_rate.1.name ≠ "law" := by decide +kernel
theorem nlX5_count : mX5_count.1.name ≠ "law" := by decide +kernel
theorem nlX5_setting : mX5_setting.1.name ≠ "law" := by decide +kernel
theorem nlX5_cheapestWay : mX5_cheapestWay.1.name ≠ "law" := by decide +kernel
theorem nlX5_ifBundled : mX5_ifBundled.1.name ≠ "law" := by decide +kernel
theorem nlX5_cheapest : mX5_cheapest.1.name ≠ "law" := by decide +kernel
theorem nlX5_dearest : mX5_dearest.1.name ≠ "law" := by decide +kernel
theorem nlX5_savedShare : mX5_savedShare.1.name ≠ "law" := by decide +kernel
theorem nlX5_digest : mX5_digest.1.name ≠ "law" := by decide +kernel
theorem nlX5_isIn : mX5_isIn.1.name ≠ "law" := by decide +kernel
theorem nlX5_requireArgument : mX5_requireArgument.1.name ≠ "law" := by decide +kernel
theorem nlX5_requireIndex : mX5_requireIndex.1.name ≠ "law" := by decide +kernel
theorem nlX5_requireParcel : mX5_requireParcel.1.name ≠ "law" := by decide +kernel
theorem nlX5_admitAllOfText : mX5_admitAllOfText.1.name ≠ "law" := by decide +kernel
theorem nlX5_fold : mX5_fold.1.name ≠ "law" := by decide +kernel
theorem nlX5_foldRow : mX5_foldRow.1.name ≠ "law" := by decide +kernel
theorem nlX5_foldParcel : mX5_foldParcel.1.name ≠ "law" := by decide +kernel
theorem nlX5_bitsOfShare : mX5_bitsOfShare.1.name ≠ "law" := by decide +kernel
theorem nlX6_init : mX6_init.1.name ≠ "law" := by decide +kernel
theorem nlX6_thrown : mX6_thrown.1.name ≠ "law" := by decide +kernel
theorem nlX6_in : mX6_in.1.name ≠ "law" := by decide +kernel
theorem nlX6_goes : mX6_goes.1.name ≠ "law" := by decide +kernel
theorem nlX6_greater : mX6_greater.1.name ≠ "law" := by decide +kernel
theorem nlX6_copies : mX6_copies.1.name ≠ "law" := by decide +kernel
theorem nlX6_saves : mX6_saves.1.name ≠ "law" := by decide +kernel
theorem nlX6_sets : mX6_sets.1.name ≠ "law" := by decide +kernel
theorem nlX6_isParcel : mX6_isParcel.1.name ≠ "law" := by decide +kernel
theorem nlX6_at : mX6_at.1.name ≠ "law" := by decide +kernel
theorem nlX6_girth : mX6_girth.1.name ≠ "law" := by decide +kernel
theorem nlX6_string : mX6_string.1.name ≠ "law" := by decide +kernel
theorem nlX6_bandOf : mX6_bandOf.1.name ≠ "law" := by decide +kernel
theorem nlX6_rateOf : mX6_rateOf.1.name ≠ "law" := by decide +kernel
theorem nlX6_isOdd : mX6_isOdd.1.name ≠ "law" := by decide +kernel
theorem nlX6_postageWith : mX6_postageWith.1.name ≠ "law" := by decide +kernel
theorem nlX6_postage : mX6_postage.1.name ≠ "law" := by decide +kernel
theorem nlX6_reason : mX6_reason.1.name ≠ "law" := by decide +kernel
theorem nlX6_sorts : mX6_sorts.1.name ≠ "law" := by decide +kernel
theorem nlX6_laysBundle : mX6_laysBundle.1.name ≠ "law" := by decide +kernel
theorem nlX6_bundled : mX6_bundled.1.name ≠ "law" := by decide +kernel
theorem nlX6_alone : mX6_alone.1.name ≠ "law" := by decide +kernel
theorem nlX6_bySets : mX6_bySets.1.name ≠ "law" := by decide +kernel
theorem nlX6_costOf : mX6_costOf.1.name ≠ "law" := by decide +kernel
theorem nlX6_isFree : mX6_isFree.1.name ≠ "law" := by decide +kernel
theorem nlX6_canHave : mX6_canHave.1.name ≠ "law" := by decide +kernel
theorem nlX6_byTrying : mX6_byTrying.1.name ≠ "law" := by decide +kernel
theorem nlX6_least : mX6_least.1.name ≠ "law" := by decide +kernel
theorem nlX6_comes : mX6_comes.1.name ≠ "law" := by decide +kernel
theorem nlX6_isGone : mX6_isGone.1.name ≠ "law" := by decide +kernel
theorem nlX6_isSide : mX6_isSide.1.name ≠ "law" := by decide +kernel
theorem nlX6_bring : mX6_bring.1.name ≠ "law" := by decide +kernel
theorem nlX6_change : mX6_change.1.name ≠ "law" := by decide +kernel
theorem nlX6_sends : mX6_sends.1.name ≠ "law" := by decide +kernel
theorem nlX6_send : mX6_send.1.name ≠ "law" := by decide +kernel
theorem nlX6_dispute : mX6_dispute.1.name ≠ "law" := by decide +kernel
theorem nlX6_takeBack : mX6_takeBack.1.name ≠ "law" := by decide +kernel
theorem nlX6_price : mX6_price.1.name ≠ "law" := by decide +kernel
theorem nlX6_zone : mX6_zone.1.name ≠ "law" := by decide +kernel
theorem nlX6_isValue : mX6_isValue.1.name ≠ "law" := by decide +kernel
theorem nlX6_set : mX6_set.1.name ≠ "law" := by decide +kernel
theorem nlX6_append : mX6_append.1.name ≠ "law" := by decide +kernel
theorem nlX6_clearBuffer : mX6_clearBuffer.1.name ≠ "law" := by decide +kernel
theorem nlX6_isHere : mX6_isHere.1.name ≠ "law" := by decide +kernel
theorem nlX6_takes : mX6_takes.1.name ≠ "law" := by decide +kernel
theorem nlX6_number : mX6_number.1.name ≠ "law" := by decide +kernel
theorem nlX6_readsParcel : mX6_readsParcel.1.name ≠ "law" := by decide +kernel
theorem nlX6_error : mX6_error.1.name ≠ "law" := by decide +kernel
theorem nlX6_firstError : mX6_firstError.1.name ≠ "law" := by decide +kernel
theorem nlX6_run : mX6_run.1.name ≠ "law" := by decide +kernel
theorem nlX6_isSlot : mX6_isSlot.1.name ≠ "law" := by decide +kernel
theorem nlX6_keep : mX6_keep.1.name ≠ "law" := by decide +kernel
theorem nlX6_goBack : mX6_goBack.1.name ≠ "law" := by decide +kernel
theorem nlX6_undo : mX6_undo.1.name ≠ "law" := by decide +kernel
theorem nlX6_property : mX6_property.1.name ≠ "law" := by decide +kernel
theorem nlX6_parcelOf : mX6_parcelOf.1.name ≠ "law" := by decide +kernel
theorem nlX6_rateDown : mX6_rateDown.1.name ≠ "law" := by decide +kernel
theorem nlX6_rated : mX6_rated.1.name ≠ "law" := by decide +kernel
theorem nlX6_rate : mX6_rate.1.name ≠ "law" := by decide +kernel
theorem nlX6_parcels : mX6_parcels.1.name ≠ "law" := by decide +kernel
theorem nlX6_lowBands : mX6_lowBands.1.name ≠ "law" := by decide +kernel
theorem nlX6_counted : mX6_counted.1.name ≠ "law" := by decide +kernel
theorem nlX6_count : mX6_count.1.name ≠ "law" := by decide +kernel
theorem nlX6_setting : mX6_setting.1.name ≠ "law" := by decide +kernel
theorem nlX6_wayFor : mX6_wayFor.1.name ≠ "law" := by decide +kernel
theorem nlX6_cheapestWay : mX6_cheapestWay.1.name ≠ "law" := by decide +kernel
theorem nlX6_ifBundled : mX6_ifBundled.1.name ≠ "law" := by decide +kernel
theorem nlX6_cheapest : mX6_cheapest.1.name ≠ "law" := by decide +kernel
theorem nlX6_dearestParcel : mX6_dearestParcel.1.name ≠ "law" := by decide +kernel
theorem nlX6_dearest : mX6_dearest.1.name ≠ "law" := by decide +kernel
theorem nlX6_savedShare : mX6_savedShare.1.name ≠ "law" := by decide +kernel
theorem nlX6_ofParcel : mX6_ofParcel.1.name ≠ "law" := by decide +kernel
theorem nlX6_digest : mX6_digest.1.name ≠ "law" := by decide +kernel
theorem nlL_bring : mL_bring.1.name ≠ "law" := by decide +kernel
theorem nlL_change : mL_change.1.name ≠ "law" := by decide +kernel
theorem nlL_send : mL_send.1.name ≠ "law" := by decide +kernel
theorem nlL_dispute : mL_dispute.1.name ≠ "law" := by decide +kernel
theorem nlL_takeBack : mL_takeBack.1.name ≠ "law" := by decide +kernel
theorem nlL_price : mL_price.1.name ≠ "law" := by decide +kernel
theorem nlL_zone : mL_zone.1.name ≠ "law" := by decide +kernel
theorem nlL_set : mL_set.1.name ≠ "law" := by decide +kernel
theorem nlL_append : mL_append.1.name ≠ "law" := by decide +kernel
theorem nlL_run : mL_run.1.name ≠ "law" := by decide +kernel
theorem nlL_keep : mL_keep.1.name ≠ "law" := by decide +kernel
theorem nlL_goBack : mL_goBack.1.name ≠ "law" := by decide +kernel
theorem nlL_undo : mL_undo.1.name ≠ "law" := by decide +kernel
theorem nlL_parcelOf : mL_parcelOf.1.name ≠ "law" := by decide +kernel
theorem nlL_rate : mL_rate.1.name ≠ "law" := by decide +kernel
theorem nlL_count : mL_count.1.name ≠ "law" := by decide +kernel
theorem nlL_setting : mL_setting.1.name ≠ "law" := by decide +kernel
theorem nlL_cheapestWay : mL_cheapestWay.1.name ≠ "law" := by decide +kernel
theorem nlL_ifBundled : mL_ifBundled.1.name ≠ "law" := by decide +kernel
theorem nlL_cheapest : mL_cheapest.1.name ≠ "law" := by decide +kernel
theorem pl0 : plainName RX0 = true := by decide +kernel
theorem pl1 : plainName RX1 = true := by decide +kernel
theorem pl2 : plainName RX2 = true := by decide +kernel
theorem pl3 : plainName RX3 = true := by decide +kernel
theorem pl4 : plainName RX4 = true := by decide +kernel
theorem pl5 : plainName RX5 = true := by decide +kernel
theorem pl6 : plainName RX6 = true := by decide +kernel
theorem plL : plainName RL = true := by decide +kernel
end
section
/-! ===== the model's cells: the object at mo, its arrays behind it ===== -/
def mF (mo : Nat) (sv ty th sp : Int32) : Nat → Value := fun k => match k with
  | 0 => .ref (mo + 1)
  | 1 => .int sv
  | 2 => .ref (mo + 2)
  | 3 => .ref (mo + 3)
  | 4 => .int ty
  | 5 => .int th
  | 6 => .ref (mo + 4)
  | 7 => .ref (mo + 5)
  | 8 => .int sp
  | _ => .null
def mM (w0 : kM) (mo : Nat) (s : Nat → Int32) (sv : Int32) (kp bf : Nat → Int32) (ty th : Int32) (co ma : Nat → Int32) (sp : Int32) : kM := fun k =>
  if k = mo then kO 6 (mF mo sv ty th sp) else if k = mo + 1 then kI 0 682 s else if k = mo + 2 then kI 1 2 kp else if k = mo + 3 then kI 2 60 bf else if k = mo + 4 then kI 0 128 co else if k = mo + 5 then kI 0 7 ma else w0 k
section MM
variable {w0 : kM} {mo : Nat} {s : Nat → Int32} {sv : Int32} {kp bf : Nat → Int32} {ty th : Int32} {co ma : Nat → Int32} {sp : Int32}
theorem mM_0 : (mM w0 mo s sv kp bf ty th co ma sp) mo = kO 6 (mF mo sv ty th sp) := by simp [mM]
theorem mM_1 : (mM w0 mo s sv kp bf ty th co ma sp) (mo + 1) = kI 0 682 s := by simp [mM]
theorem mM_2 : (mM w0 mo s sv kp bf ty th co ma sp) (mo + 2) = kI 1 2 kp := by simp [mM]
theorem mM_3 : (mM w0 mo s sv kp bf ty th co ma sp) (mo + 3) = kI 2 60 bf := by simp [mM]
theorem mM_4 : (mM w0 mo s sv kp bf ty th co ma sp) (mo + 4) = kI 0 128 co := by simp [mM]
theorem mM_5 : (mM w0 mo s sv kp bf ty th co ma sp) (mo + 5) = kI 0 7 ma := by simp [mM]
theorem mMs_1 {x : Nat → Int32} : kup (mM w0 mo s sv kp bf ty th co ma sp) (mo + 1) (kI 0 682 x) = mM w0 mo x sv kp bf ty th co ma sp := by
  funext k
  unfold kup mM
  by_cases h : k = mo + 1
  · subst h; simp
  · simp [h]
theorem mMs_2 {x : Nat → Int32} : kup (mM w0 mo s sv kp bf ty th co ma sp) (mo + 2) (kI 1 2 x) = mM w0 mo s sv x bf ty th co ma sp := by
  funext k
  unfold kup mM
  by_cases h : k = mo + 2
  · subst h; simp
  · simp [h]
theorem mMs_3 {x : Nat → Int32} : kup (mM w0 mo s sv kp bf ty th co ma sp) (mo + 3) (kI 2 60 x) = mM w0 mo s sv kp x ty th co ma sp := by
  funext k
  unfold kup mM
  by_cases h : k = mo + 3
  · subst h; simp
  · simp [h]
theorem mMs_4 {x : Nat → Int32} : kup (mM w0 mo s sv kp bf ty th co ma sp) (mo + 4) (kI 0 128 x) = mM w0 mo s sv kp bf ty th x ma sp := by
  funext k
  unfold kup mM
  by_cases h : k = mo + 4
  · subst h; simp
  · simp [h]
theorem mMs_5 {x : Nat → Int32} : kup (mM w0 mo s sv kp bf ty th co ma sp) (mo + 5) (kI 0 7 x) = mM w0 mo s sv kp bf ty th co x sp := by
  funext k
  unfold kup mM
  by_cases h : k = mo + 5
  · subst h; simp
  · simp [h]
theorem mFs_1 {x : Int32} : kuF (mF mo sv ty th sp) 1 (.int x) = mF mo x ty th sp := by
  funext j
  match j with
  | 0 => rfl
  | 1 => rfl
  | 2 => rfl
  | 3 => rfl
  | 4 => rfl
  | 5 => rfl
  | 6 => rfl
  | 7 => rfl
  | 8 => rfl
  | z + 9 => simp [kuF, mF]
theorem mMf_1 {x : Int32} : kup (mM w0 mo s sv kp bf ty th co ma sp) mo (kO 6 (kuF (mF mo sv ty th sp) 1 (.int x))) = mM w0 mo s x kp bf ty th co ma sp := by
  rw [mFs_1]
  funext k
  unfold kup mM
  by_cases h : k = mo
  · subst h; simp
  · simp [h]
theorem mFs_4 {x : Int32} : kuF (mF mo sv ty th sp) 4 (.int x) = mF mo sv x th sp := by
  funext j
  match j with
  | 0 => rfl
  | 1 => rfl
  | 2 => rfl
  | 3 => rfl
  | 4 => rfl
  | 5 => rfl
  | 6 => rfl
  | 7 => rfl
  | 8 => rfl
  | z + 9 => simp [kuF, mF]
theorem mMf_4 {x : Int32} : kup (mM w0 mo s sv kp bf ty th co ma sp) mo (kO 6 (kuF (mF mo sv ty th sp) 4 (.int x))) = mM w0 mo s sv kp bf x th co ma sp := by
  rw [mFs_4]
  funext k
  unfold kup mM
  by_cases h : k = mo
  · subst h; simp
  · simp [h]
theorem mFs_5 {x : Int32} : kuF (mF mo sv ty th sp) 5 (.int x) = mF mo sv ty x sp := by
  funext j
  match j with
  | 0 => rfl
  | 1 => rfl
  | 2 => rfl
  | 3 => rfl
  | 4 => rfl
  | 5 => rfl
  | 6 => rfl
  | 7 => rfl
  | 8 => rfl
  | z + 9 => simp [kuF, mF]
theorem mMf_5 {x : Int32} : kup (mM w0 mo s sv kp bf ty th co ma sp) mo (kO 6 (kuF (mF mo sv ty th sp) 5 (.int x))) = mM w0 mo s sv kp bf ty x co ma sp := by
  rw [mFs_5]
  funext k
  unfold kup mM
  by_cases h : k = mo
  · subst h; simp
  · simp [h]
theorem mFs_8 {x : Int32} : kuF (mF mo sv ty th sp) 8 (.int x) = mF mo sv ty th x := by
  funext j
  match j with
  | 0 => rfl
  | 1 => rfl
  | 2 => rfl
  | 3 => rfl
  | 4 => rfl
  | 5 => rfl
  | 6 => rfl
  | 7 => rfl
  | 8 => rfl
  | z + 9 => simp [kuF, mF]
theorem mMf_8 {x : Int32} : kup (mM w0 mo s sv kp bf ty th co ma sp) mo (kO 6 (kuF (mF mo sv ty th sp) 8 (.int x))) = mM w0 mo s sv kp bf ty th co ma x := by
  rw [mFs_8]
  funext k
  unfold kup mM
  by_cases h : k = mo
  · subst h; simp
  · simp [h]
end MM
/-! ===== what the numbers are: P a parcel's seven, s the office's ===== -/
def gI (a b : Int32) : Int32 := if b < a then a else b
def pG (P : Nat → Int32) : Int32 := P 0 + 2 * (P 1 + P 2)
def pS (s P : Nat → Int32) : Int32 := (P 6 + 1) * s 0 + (if P 6 + 1 = 1 then 2 * (P 1 + P 2) else if P 6 + 1 = 2 then 2 * P 0 + 2 * P 1 + 4 * P 2 else 4 * P 0 + 2 * P 1 + 6 * P 2)
def bnd (z : Int32) : Int32 := if 600 < z then 11 else (z - 1) / 50
def rM (s : Nat → Int32) : Nat → Int32
  | 0 => 0
  | k + 1 => gI (s (4 + k)) (rM s k)
def rateF (s : Nat → Int32) (z : Int32) : Int32 := rM s ((bnd z).toNatClampNeg + 1)
def pW (s P : Nat → Int32) (z : Int32) : Int32 := rateF s z * s (16 + (P 4).toNatClampNeg) + (if s 1 < pG P then rateF s z * s (16 + (P 4).toNatClampNeg) / 2 else 0) + s 2 * P 5
def pP (s P : Nat → Int32) : Int32 := pW s P (pS s P)
def pR (s P : Nat → Int32) : Int32 := if (30 < P 3 ∧ P 6 = 0) ∨ (60 < P 3 ∧ P 6 = 1) then 1 else if 2 * s 1 < pG P then 2 else if 0 < P 5 ∧ P 6 = 0 then 3 else 0
/-- the parcel at the place p of a row -/
abbrev pa (s : Nat → Int32) (p : Nat) : Nat → Int32 := fun k => s (p + k)
end
section
theorem kv_eq {a b : Int32} (h : a = b) : (Sum.inl (some (Value.int a)) : Option Value ⊕ String) = .inl (some (.int b)) := by rw [h]
set_option maxRecDepth 100000 in
set_option maxHeartbeats 4000000 in
theorem c_in {w : kM}  (v lo hi : Int32) : kCtrR mX6_in 0 [.int v, .int lo, .int hi] w (.int (b2i (lo ≤ v ∧ v ≤ hi))) := by
  refine kCtrR.of pl6 nlX6_in rfl (Nat.le_of_ble_eq_true rfl) (fun n => ?_)
  refine kw_iload_n (pc := 0) dX6_in_0 rfl ?_
  refine kw_iload_n (pc := 1) dX6_in_1 rfl ?_
  refine kw_icmp_lt (tgt := 14) (pc := 2) dX6_in_2 (by decide) (fun h2 => ?_) (fun h2 => ?_)
  · refine kw_iconst (v := 0) (pc := 14) dX6_in_14 (by decide) ?_
    exact kw_ireturn nlX6_in (pc := 15) dX6_in_15 rfl (by first | rfl | exact b2i_z _ | exact hbool) ⟨kv_eq (by grind [b2i]), rfl, rfl⟩
  · refine kw_iload_n (pc := 5) dX6_in_5 rfl ?_
    refine kw_iload_n (pc := 6) dX6_in_6 rfl ?_
    refine kw_icmp_gt (tgt := 14) (pc := 7) dX6_in_7 (by decide) (fun h7 => ?_) (fun h7 => ?_)
    · refine kw_iconst (v := 0) (pc := 14) dX6_in_14 (by decide) ?_
      exact kw_ireturn nlX6_in (pc := 15) dX6_in_15 rfl (by first | rfl | exact b2i_z _ | exact hbool) ⟨kv_eq (by grind [b2i]), rfl, rfl⟩
    · refine kw_iconst (v := 1) (pc := 10) dX6_in_10 (by decide) ?_
      refine kw_goto (tgt := 15) (pc := 11) dX6_in_11 (by decide) ?_
      exact kw_ireturn nlX6_in (pc := 15) dX6_in_15 rfl (by first | rfl | exact b2i_z _ | exact hbool) ⟨kv_eq (by grind [b2i]), rfl, rfl⟩
set_option maxRecDepth 100000 in
set_option maxHeartbeats 4000000 in
theorem c_greater {w : kM}  (x y : Int32) : kCtrR mX6_greater 0 [.int x, .int y] w (.int (gI x y)) := by
  refine kCtrR.of pl6 nlX6_greater rfl (Nat.le_of_ble_eq_true rfl) (fun n => ?_)
  refine kw_iload_n (pc := 0) dX6_greater_0 rfl ?_
  refine kw_iload_n (pc := 1) dX6_greater_1 rfl ?_
  refine kw_icmp_le (tgt := 9) (pc := 2) dX6_greater_2 (by decide) (fun h2 => ?_) (fun h2 => ?_)
  · refine kw_iload_n (pc := 9) dX6_greater_9 rfl ?_
    exact kw_ireturn nlX6_greater (pc := 10) dX6_greater_10 rfl rfl ⟨kv_eq (by grind [gI]), rfl, rfl⟩
  · refine kw_iload_n (pc := 5) dX6_greater_5 rfl ?_
    refine kw_goto (tgt := 10) (pc := 6) dX6_greater_6 (by decide) ?_
    exact kw_ireturn nlX6_greater (pc := 10) dX6_greater_10 rfl rfl ⟨kv_eq (by grind [gI]), rfl, rfl⟩
set_option maxRecDepth 100000 in
set_option maxHeartbeats 4000000 in
theorem c_at {w : kM}  (p : Nat) : kCtrR mX6_at 0 [.int (nI p)] w (.int (nI (21 + 7 * p))) := by
  refine kCtrR.of pl6 nlX6_at rfl (Nat.le_of_ble_eq_true rfl) (fun n => ?_)
  refine kw_bipush (v := 21) (pc := 0) dX6_at_0 (by decide) ?_
  refine kw_bipush (v := 7) (pc := 2) dX6_at_2 (by decide) ?_
  refine kw_iload_n (pc := 4) dX6_at_4 rfl ?_
  refine kw_imul (pc := 5) dX6_at_5 ?_
  refine kw_iadd (pc := 6) dX6_at_6 ?_
  exact kw_ireturn nlX6_at (pc := 7) dX6_at_7 rfl rfl ⟨kv_eq (kA (rfl : (21 : Int32) = nI 21) (kMu (rfl : (7 : Int32) = nI 7) rfl)), rfl, rfl⟩
set_option maxRecDepth 100000 in
set_option maxHeartbeats 4000000 in
theorem c_bandOf {w : kM}  (z : Int32) : kCtrR mX6_bandOf 0 [.int z] w (.int (bnd z)) := by
  refine kCtrR.of pl6 nlX6_bandOf rfl (Nat.le_of_ble_eq_true rfl) (fun n => ?_)
  refine kw_iload_n (pc := 0) dX6_bandOf_0 rfl ?_
  refine kw_sipush (v := 600) (pc := 1) dX6_bandOf_1 (by decide) ?_
  refine kw_icmp_le (tgt := 12) (pc := 4) dX6_bandOf_4 (by decide) (fun h4 => ?_) (fun h4 => ?_)
  · refine kw_iload_n (pc := 12) dX6_bandOf_12 rfl ?_
    refine kw_iconst (v := 1) (pc := 13) dX6_bandOf_13 (by decide) ?_
    refine kw_isub (pc := 14) dX6_bandOf_14 ?_
    refine kw_bipush (v := 50) (pc := 15) dX6_bandOf_15 (by decide) ?_
    refine kw_idiv (pc := 17) dX6_bandOf_17 (by decide) ?_
    exact kw_ireturn nlX6_bandOf (pc := 18) dX6_bandOf_18 rfl rfl ⟨kv_eq (by grind [bnd]), rfl, rfl⟩
  · refine kw_bipush (v := 11) (pc := 7) dX6_bandOf_7 (by decide) ?_
    refine kw_goto (tgt := 18) (pc := 9) dX6_bandOf_9 (by decide) ?_
    exact kw_ireturn nlX6_bandOf (pc := 18) dX6_bandOf_18 rfl rfl ⟨kv_eq (by grind [bnd]), rfl, rfl⟩
set_option maxRecDepth 100000 in
set_option maxHeartbeats 4000000 in
theorem c_isSide {w : kM}  (v : Int32) : kCtrR mX6_isSide 1 [.int v] w (.int (b2i (1 ≤ v ∧ v ≤ 60))) := by
  refine kCtrR.of pl6 nlX6_isSide rfl (Nat.le_of_ble_eq_true rfl) (fun n => ?_)
  refine kw_iload_n (pc := 0) dX6_isSide_0 rfl ?_
  refine kw_iconst (v := 1) (pc := 1) dX6_isSide_1 (by decide) ?_
  refine kw_bipush (v := 60) (pc := 2) dX6_isSide_2 (by decide) ?_
  refine kw_callSr (pc := 4) dX6_isSide_4 lX6_41 (c_in _ _ _) rfl rfl ⟨by decide, by decide, by decide⟩ ?_
  exact kw_ireturn nlX6_isSide (pc := 7) dX6_isSide_7 rfl (by first | rfl | exact b2i_z _ | exact hbool) (by exact ⟨rfl, rfl, rfl⟩)
set_option maxRecDepth 100000 in
set_option maxHeartbeats 4000000 in
theorem c_isSlot {w : kM}  (v : Int32) : kCtrR mX6_isSlot 0 [.int v] w (.int (b2i (v = 0 ∨ v = 1))) := by
  refine kCtrR.of pl6 nlX6_isSlot rfl (Nat.le_of_ble_eq_true rfl) (fun n => ?_)
  refine kw_iload_n (pc := 0) dX6_isSlot_0 rfl ?_
  refine kw_if_eq (tgt := 9) (pc := 1) dX6_isSlot_1 (by decide) (fun h1 => ?_) (fun h1 => ?_)
  · refine kw_iconst (v := 1) (pc := 9) dX6_isSlot_9 (by decide) ?_
    refine kw_goto (tgt := 14) (pc := 10) dX6_isSlot_10 (by decide) ?_
    exact kw_ireturn nlX6_isSlot (pc := 14) dX6_isSlot_14 rfl (by first | rfl | exact b2i_z _ | exact hbool) ⟨kv_eq (by grind [b2i]), rfl, rfl⟩
  · refine kw_iload_n (pc := 4) dX6_isSlot_4 rfl ?_
    refine kw_iconst (v := 1) (pc := 5) dX6_isSlot_5 (by decide) ?_
    refine kw_icmp_ne (tgt := 13) (pc := 6) dX6_isSlot_6 (by decide) (fun h6 => ?_) (fun h6 => ?_)
    · refine kw_iconst (v := 0) (pc := 13) dX6_isSlot_13 (by decide) ?_
      exact kw_ireturn nlX6_isSlot (pc := 14) dX6_isSlot_14 rfl (by first | rfl | exact b2i_z _ | exact hbool) ⟨kv_eq (by grind [b2i]), rfl, rfl⟩
    · refine kw_iconst (v := 1) (pc := 9) dX6_isSlot_9 (by decide) ?_
      refine kw_goto (tgt := 14) (pc := 10) dX6_isSlot_10 (by decide) ?_
      exact kw_ireturn nlX6_isSlot (pc := 14) dX6_isSlot_14 rfl (by first | rfl | exact b2i_z _ | exact hbool) ⟨kv_eq (by grind [b2i]), rfl, rfl⟩
set_option maxRecDepth 100000 in
set_option maxHeartbeats 4000000 in
theorem c_thrown {w0 : kM} {mo : Nat} {s : Nat → Int32} {sv : Int32} {kp bf : Nat → Int32} {ty th : Int32} {co ma : Nat → Int32} {sp : Int32}   : kCtrR mX6_thrown 0 [.ref mo] (mM w0 mo s sv kp bf ty th co ma sp) (.int th) := by
  refine kCtrR.of pl6 nlX6_thrown rfl (Nat.le_of_ble_eq_true rfl) (fun n => ?_)
  refine kw_aload_n (pc := 0) dX6_thrown_0 rfl ?_
  refine kw_getfield (pc := 1) kfw dX6_thrown_1 fX6_27 mM_0 rfl ?_
  exact kw_ireturn nlX6_thrown (pc := 4) dX6_thrown_4 rfl rfl (by exact ⟨rfl, rfl, rfl⟩)
set_option maxRecDepth 100000 in
set_option maxHeartbeats 4000000 in
theorem c_girth {w0 : kM} {mo : Nat} {s : Nat → Int32} {sv : Int32} {kp bf : Nat → Int32} {ty th : Int32} {co ma : Nat → Int32} {sp : Int32}  {p : Nat} (hp : p + 6 < 682) : kCtrR mX6_girth 0 [.ref mo, .int (nI p)] (mM w0 mo s sv kp bf ty th co ma sp) (.int (pG (pa s p))) := by
  refine kCtrR.of pl6 nlX6_girth rfl (Nat.le_of_ble_eq_true rfl) (fun n => ?_)
  refine kw_aload_n (pc := 0) dX6_girth_0 rfl ?_
  refine kw_getfield (pc := 1) kfw dX6_girth_1 fX6_7 mM_0 rfl ?_
  refine kw_iload_n (pc := 4) dX6_girth_4 rfl ?_
  refine kw_ialoadN (pc := 5) (i := p) dX6_girth_5 mM_1 rfl (by omega) (by decide) ?_
  refine kw_iconst (v := 2) (pc := 6) dX6_girth_6 (by decide) ?_
  refine kw_aload_n (pc := 7) dX6_girth_7 rfl ?_
  refine kw_getfield (pc := 8) kfw dX6_girth_8 fX6_7 mM_0 rfl ?_
  refine kw_iload_n (pc := 11) dX6_girth_11 rfl ?_
  refine kw_iconst (v := 1) (pc := 12) dX6_girth_12 (by decide) ?_
  refine kw_iadd (pc := 13) dX6_girth_13 ?_
  refine kw_ialoadN (pc := 14) (i := (p + 1)) dX6_girth_14 mM_1 (kA rfl (rfl : (1 : Int32) = nI 1)) (by omega) (by decide) ?_
  refine kw_aload_n (pc := 15) dX6_girth_15 rfl ?_
  refine kw_getfield (pc := 16) kfw dX6_girth_16 fX6_7 mM_0 rfl ?_
  refine kw_iload_n (pc := 19) dX6_girth_19 rfl ?_
  refine kw_iconst (v := 2) (pc := 20) dX6_girth_20 (by decide) ?_
  refine kw_iadd (pc := 21) dX6_girth_21 ?_
  refine kw_ialoadN (pc := 22) (i := (p + 2)) dX6_girth_22 mM_1 (kA rfl (rfl : (2 : Int32) = nI 2)) (by omega) (by decide) ?_
  refine kw_iadd (pc := 23) dX6_girth_23 ?_
  refine kw_imul (pc := 24) dX6_girth_24 ?_
  refine kw_iadd (pc := 25) dX6_girth_25 ?_
  exact kw_ireturn nlX6_girth (pc := 26) dX6_girth_26 rfl rfl (by exact ⟨rfl, rfl, rfl⟩)
set_option maxRecDepth 100000 in
set_option maxHeartbeats 4000000 in
theorem c_string {w0 : kM} {mo : Nat} {s : Nat → Int32} {sv : Int32} {kp bf : Nat → Int32} {ty th : Int32} {co ma : Nat → Int32} {sp : Int32}  {p : Nat} (hp : p + 6 < 682) : kCtrR mX6_string 0 [.ref mo, .int (nI p)] (mM w0 mo s sv kp bf ty th co ma sp) (.int (pS s (pa s p))) := by
  refine kCtrR.of pl6 nlX6_string rfl (Nat.le_of_ble_eq_true rfl) (fun n => ?_)
  refine kw_aload_n (pc := 0) dX6_string_0 rfl ?_
  refine kw_getfield (pc := 1) kfw dX6_string_1 fX6_7 mM_0 rfl ?_
  refine kw_iload_n (pc := 4) dX6_string_4 rfl ?_
  refine kw_ialoadN (pc := 5) (i := p) dX6_string_5 mM_1 rfl (by omega) (by decide) ?_
  refine kw_istore_n (pc := 6) dX6_string_6 (by decide) rfl ?_
  refine kw_aload_n (pc := 7) dX6_string_7 rfl ?_
  refine kw_getfield (pc := 8) kfw dX6_string_8 fX6_7 mM_0 rfl ?_
  refine kw_iload_n (pc := 11) dX6_string_11 rfl ?_
  refine kw_iconst (v := 1) (pc := 12) dX6_string_12 (by decide) ?_
  refine kw_iadd (pc := 13) dX6_string_13 ?_
  refine kw_ialoadN (pc := 14) (i := (p + 1)) dX6_string_14 mM_1 (kA rfl (rfl : (1 : Int32) = nI 1)) (by omega) (by decide) ?_
  refine kw_istore_n (pc := 15) dX6_string_15 (by decide) rfl ?_
  refine kw_aload_n (pc := 16) dX6_string_16 rfl ?_
  refine kw_getfield (pc := 17) kfw dX6_string_17 fX6_7 mM_0 rfl ?_
  refine kw_iload_n (pc := 20) dX6_string_20 rfl ?_
  refine kw_iconst (v := 2) (pc := 21) dX6_string_21 (by decide) ?_
  refine kw_iadd (pc := 22) dX6_string_22 ?_
  refine kw_ialoadN (pc := 23) (i := (p + 2)) dX6_string_23 mM_1 (kA rfl (rfl : (2 : Int32) = nI 2)) (by omega) (by decide) ?_
  refine kw_istore (pc := 24) dX6_string_24 (by decide) rfl ?_
  refine kw_aload_n (pc := 26) dX6_string_26 rfl ?_
  refine kw_getfield (pc := 27) kfw dX6_string_27 fX6_7 mM_0 rfl ?_
  refine kw_iload_n (pc := 30) dX6_string_30 rfl ?_
  refine kw_bipush (v := 6) (pc := 31) dX6_string_31 (by decide) ?_
  refine kw_iadd (pc := 33) dX6_string_33 ?_
  refine kw_ialoadN (pc := 34) (i := (p + 6)) dX6_string_34 mM_1 (kA rfl (rfl : (6 : Int32) = nI 6)) (by omega) (by decide) ?_
  refine kw_iconst (v := 1) (pc := 35) dX6_string_35 (by decide) ?_
  refine kw_iadd (pc := 36) dX6_string_36 ?_
  refine kw_istore (pc := 37) dX6_string_37 (by decide) rfl ?_
  refine kw_iload (pc := 39) dX6_string_39 rfl ?_
  refine kw_aload_n (pc := 41) dX6_string_41 rfl ?_
  refine kw_getfield (pc := 42) kfw dX6_string_42 fX6_7 mM_0 rfl ?_
  refine kw_iconst (v := 0) (pc := 45) dX6_string_45 (by decide) ?_
  refine kw_ialoadN (pc := 46) (i := 0) dX6_string_46 mM_1 (rfl : (0 : Int32) = nI 0) (by omega) (by decide) ?_
  refine kw_imul (pc := 47) dX6_string_47 ?_
  refine kw_iload (pc := 48) dX6_string_48 rfl ?_
  refine kw_iconst (v := 1) (pc := 50) dX6_string_50 (by decide) ?_
  refine kw_icmp_ne (tgt := 63) (pc := 51) dX6_string_51 (by decide) (fun h51 => ?_) (fun h51 => ?_)
  · refine kw_iload (pc := 63) dX6_string_63 rfl ?_
    refine kw_iconst (v := 2) (pc := 65) dX6_string_65 (by decide) ?_
    refine kw_icmp_ne (tgt := 84) (pc := 66) dX6_string_66 (by decide) (fun h66 => ?_) (fun h66 => ?_)
    · refine kw_iconst (v := 4) (pc := 84) dX6_string_84 (by decide) ?_
      refine kw_iload_n (pc := 85) dX6_string_85 rfl ?_
      refine kw_imul (pc := 86) dX6_string_86 ?_
      refine kw_iconst (v := 2) (pc := 87) dX6_string_87 (by decide) ?_
      refine kw_iload_n (pc := 88) dX6_string_88 rfl ?_
      refine kw_imul (pc := 89) dX6_string_89 ?_
      refine kw_iadd (pc := 90) dX6_string_90 ?_
      refine kw_bipush (v := 6) (pc := 91) dX6_string_91 (by decide) ?_
      refine kw_iload (pc := 93) dX6_string_93 rfl ?_
      refine kw_imul (pc := 95) dX6_string_95 ?_
      refine kw_iadd (pc := 96) dX6_string_96 ?_
      refine kw_iadd (pc := 97) dX6_string_97 ?_
      exact kw_ireturn nlX6_string (pc := 98) dX6_string_98 rfl rfl ⟨kv_eq (by grind [pS]), rfl, rfl⟩
    · refine kw_iconst (v := 2) (pc := 69) dX6_string_69 (by decide) ?_
      refine kw_iload_n (pc := 70) dX6_string_70 rfl ?_
      refine kw_imul (pc := 71) dX6_string_71 ?_
      refine kw_iconst (v := 2) (pc := 72) dX6_string_72 (by decide) ?_
      refine kw_iload_n (pc := 73) dX6_string_73 rfl ?_
      refine kw_imul (pc := 74) dX6_string_74 ?_
      refine kw_iadd (pc := 75) dX6_string_75 ?_
      refine kw_iconst (v := 4) (pc := 76) dX6_string_76 (by decide) ?_
      refine kw_iload (pc := 77) dX6_string_77 rfl ?_
      refine kw_imul (pc := 79) dX6_string_79 ?_
      refine kw_iadd (pc := 80) dX6_string_80 ?_
      refine kw_goto (tgt := 97) (pc := 81) dX6_string_81 (by decide) ?_
      refine kw_iadd (pc := 97) dX6_string_97 ?_
      exact kw_ireturn nlX6_string (pc := 98) dX6_string_98 rfl rfl ⟨kv_eq (by grind [pS]), rfl, rfl⟩
  · refine kw_iconst (v := 2) (pc := 54) dX6_string_54 (by decide) ?_
    refine kw_iload_n (pc := 55) dX6_string_55 rfl ?_
    refine kw_iload (pc := 56) dX6_string_56 rfl ?_
    refine kw_iadd (pc := 58) dX6_string_58 ?_
    refine kw_imul (pc := 59) dX6_string_59 ?_
    refine kw_goto (tgt := 97) (pc := 60) dX6_string_60 (by decide) ?_
    refine kw_iadd (pc := 97) dX6_string_97 ?_
    exact kw_ireturn nlX6_string (pc := 98) dX6_string_98 rfl rfl ⟨kv_eq (by grind [pS]), rfl, rfl⟩
set_option maxRecDepth 100000 in
set_option maxHeartbeats 4000000 in
theorem c_isOdd {w0 : kM} {mo : Nat} {s : Nat → Int32} {sv : Int32} {kp bf : Nat → Int32} {ty th : Int32} {co ma : Nat → Int32} {sp : Int32}  {p : Nat} (hp : p + 6 < 682) : kCtrR mX6_isOdd 1 [.ref mo, .int (nI p)] (mM w0 mo s sv kp bf ty th co ma sp) (.int (b2i (s 1 < pG (pa s p)))) := by
  refine kCtrR.of pl6 nlX6_isOdd rfl (Nat.le_of_ble_eq_true rfl) (fun n => ?_)
  refine kw_aload_n (pc := 0) dX6_isOdd_0 rfl ?_
  refine kw_iload_n (pc := 1) dX6_isOdd_1 rfl ?_
  refine kw_callVr (pc := 2) dX6_isOdd_2 lX6_53 (c_girth hp) mM_0 rfl rfl rfl ⟨by decide, by decide, by decide⟩ ?_
  refine kw_aload_n (pc := 5) dX6_isOdd_5 rfl ?_
  refine kw_getfield (pc := 6) kfw dX6_isOdd_6 fX6_7 mM_0 rfl ?_
  refine kw_iconst (v := 1) (pc := 9) dX6_isOdd_9 (by decide) ?_
  refine kw_ialoadN (pc := 10) (i := 1) dX6_isOdd_10 mM_1 (rfl : (1 : Int32) = nI 1) (by omega) (by decide) ?_
  refine kw_icmp_le (tgt := 18) (pc := 11) dX6_isOdd_11 (by decide) (fun h11 => ?_) (fun h11 => ?_)
  · refine kw_iconst (v := 0) (pc := 18) dX6_isOdd_18 (by decide) ?_
    exact kw_ireturn nlX6_isOdd (pc := 19) dX6_isOdd_19 rfl (by first | rfl | exact b2i_z _ | exact hbool) ⟨kv_eq (by grind [b2i]), rfl, rfl⟩
  · refine kw_iconst (v := 1) (pc := 14) dX6_isOdd_14 (by decide) ?_
    refine kw_goto (tgt := 19) (pc := 15) dX6_isOdd_15 (by decide) ?_
    exact kw_ireturn nlX6_isOdd (pc := 19) dX6_isOdd_19 rfl (by first | rfl | exact b2i_z _ | exact hbool) ⟨kv_eq (by grind [b2i]), rfl, rfl⟩
set_option maxRecDepth 100000 in
set_option maxHeartbeats 4000000 in
theorem c_reason {w0 : kM} {mo : Nat} {s : Nat → Int32} {sv : Int32} {kp bf : Nat → Int32} {ty th : Int32} {co ma : Nat → Int32} {sp : Int32}  {p : Nat} (hp : p + 6 < 682) : kCtrR mX6_reason 1 [.ref mo, .int (nI p)] (mM w0 mo s sv kp bf ty th co ma sp) (.int (pR s (pa s p))) := by
  refine kCtrR.of pl6 nlX6_reason rfl (Nat.le_of_ble_eq_true rfl) (fun n => ?_)
  refine kw_aload_n (pc := 0) dX6_reason_0 rfl ?_
  refine kw_getfield (pc := 1) kfw dX6_reason_1 fX6_7 mM_0 rfl ?_
  refine kw_iload_n (pc := 4) dX6_reason_4 rfl ?_
  refine kw_iconst (v := 3) (pc := 5) dX6_reason_5 (by decide) ?_
  refine kw_iadd (pc := 6) dX6_reason_6 ?_
  refine kw_ialoadN (pc := 7) (i := (p + 3)) dX6_reason_7 mM_1 (kA rfl (rfl : (3 : Int32) = nI 3)) (by omega) (by decide) ?_
  refine kw_istore_n (pc := 8) dX6_reason_8 (by decide) rfl ?_
  refine kw_aload_n (pc := 9) dX6_reason_9 rfl ?_
  refine kw_getfield (pc := 10) kfw dX6_reason_10 fX6_7 mM_0 rfl ?_
  refine kw_iload_n (pc := 13) dX6_reason_13 rfl ?_
  refine kw_bipush (v := 6) (pc := 14) dX6_reason_14 (by decide) ?_
  refine kw_iadd (pc := 16) dX6_reason_16 ?_
  refine kw_ialoadN (pc := 17) (i := (p + 6)) dX6_reason_17 mM_1 (kA rfl (rfl : (6 : Int32) = nI 6)) (by omega) (by decide) ?_
  refine kw_istore_n (pc := 18) dX6_reason_18 (by decide) rfl ?_
  refine kw_iload_n (pc := 19) dX6_reason_19 rfl ?_
  refine kw_bipush (v := 30) (pc := 20) dX6_reason_20 (by decide) ?_
  refine kw_icmp_le (tgt := 29) (pc := 22) dX6_reason_22 (by decide) (fun h22 => ?_) (fun h22 => ?_)
  · refine kw_iload_n (pc := 29) dX6_reason_29 rfl ?_
    refine kw_bipush (v := 60) (pc := 30) dX6_reason_30 (by decide) ?_
    refine kw_icmp_le (tgt := 42) (pc := 32) dX6_reason_32 (by decide) (fun h32 => ?_) (fun h32 => ?_)
    · refine kw_aload_n (pc := 42) dX6_reason_42 rfl ?_
      refine kw_iload_n (pc := 43) dX6_reason_43 rfl ?_
      refine kw_callVr (pc := 44) dX6_reason_44 lX6_53 (c_girth hp) mM_0 rfl rfl rfl ⟨by decide, by decide, by decide⟩ ?_
      refine kw_iconst (v := 2) (pc := 47) dX6_reason_47 (by decide) ?_
      refine kw_aload_n (pc := 48) dX6_reason_48 rfl ?_
      refine kw_getfield (pc := 49) kfw dX6_reason_49 fX6_7 mM_0 rfl ?_
      refine kw_iconst (v := 1) (pc := 52) dX6_reason_52 (by decide) ?_
      refine kw_ialoadN (pc := 53) (i := 1) dX6_reason_53 mM_1 (rfl : (1 : Int32) = nI 1) (by omega) (by decide) ?_
      refine kw_imul (pc := 54) dX6_reason_54 ?_
      refine kw_icmp_le (tgt := 62) (pc := 55) dX6_reason_55 (by decide) (fun h55 => ?_) (fun h55 => ?_)
      · refine kw_aload_n (pc := 62) dX6_reason_62 rfl ?_
        refine kw_getfield (pc := 63) kfw dX6_reason_63 fX6_7 mM_0 rfl ?_
        refine kw_iload_n (pc := 66) dX6_reason_66 rfl ?_
        refine kw_iconst (v := 5) (pc := 67) dX6_reason_67 (by decide) ?_
        refine kw_iadd (pc := 68) dX6_reason_68 ?_
        refine kw_ialoadN (pc := 69) (i := (p + 5)) dX6_reason_69 mM_1 (kA rfl (rfl : (5 : Int32) = nI 5)) (by omega) (by decide) ?_
        refine kw_if_le (tgt := 81) (pc := 70) dX6_reason_70 (by decide) (fun h70 => ?_) (fun h70 => ?_)
        · refine kw_iconst (v := 0) (pc := 81) dX6_reason_81 (by decide) ?_
          exact kw_ireturn nlX6_reason (pc := 82) dX6_reason_82 rfl rfl ⟨kv_eq (by grind [pR]), rfl, rfl⟩
        · refine kw_iload_n (pc := 73) dX6_reason_73 rfl ?_
          refine kw_if_ne (tgt := 81) (pc := 74) dX6_reason_74 (by decide) (fun h74 => ?_) (fun h74 => ?_)
          · refine kw_iconst (v := 0) (pc := 81) dX6_reason_81 (by decide) ?_
            exact kw_ireturn nlX6_reason (pc := 82) dX6_reason_82 rfl rfl ⟨kv_eq (by grind [pR]), rfl, rfl⟩
          · refine kw_iconst (v := 3) (pc := 77) dX6_reason_77 (by decide) ?_
            refine kw_goto (tgt := 82) (pc := 78) dX6_reason_78 (by decide) ?_
            exact kw_ireturn nlX6_reason (pc := 82) dX6_reason_82 rfl rfl ⟨kv_eq (by grind [pR]), rfl, rfl⟩
      · refine kw_iconst (v := 2) (pc := 58) dX6_reason_58 (by decide) ?_
        refine kw_goto (tgt := 82) (pc := 59) dX6_reason_59 (by decide) ?_
        exact kw_ireturn nlX6_reason (pc := 82) dX6_reason_82 rfl rfl ⟨kv_eq (by grind [pR]), rfl, rfl⟩
    · refine kw_iload_n (pc := 35) dX6_reason_35 rfl ?_
      refine kw_iconst (v := 1) (pc := 36) dX6_reason_36 (by decide) ?_
      refine kw_icmp_ne (tgt := 42) (pc := 37) dX6_reason_37 (by decide) (fun h37 => ?_) (fun h37 => ?_)
      · refine kw_aload_n (pc := 42) dX6_reason_42 rfl ?_
        refine kw_iload_n (pc := 43) dX6_reason_43 rfl ?_
        refine kw_callVr (pc := 44) dX6_reason_44 lX6_53 (c_girth hp) mM_0 rfl rfl rfl ⟨by decide, by decide, by decide⟩ ?_
        refine kw_iconst (v := 2) (pc := 47) dX6_reason_47 (by decide) ?_
        refine kw_aload_n (pc := 48) dX6_reason_48 rfl ?_
        refine kw_getfield (pc := 49) kfw dX6_reason_49 fX6_7 mM_0 rfl ?_
        refine kw_iconst (v := 1) (pc := 52) dX6_reason_52 (by decide) ?_
        refine kw_ialoadN (pc := 53) (i := 1) dX6_reason_53 mM_1 (rfl : (1 : Int32) = nI 1) (by omega) (by decide) ?_
        refine kw_imul (pc := 54) dX6_reason_54 ?_
        refine kw_icmp_le (tgt := 62) (pc := 55) dX6_reason_55 (by decide) (fun h55 => ?_) (fun h55 => ?_)
        · refine kw_aload_n (pc := 62) dX6_reason_62 rfl ?_
          refine kw_getfield (pc := 63) kfw dX6_reason_63 fX6_7 mM_0 rfl ?_
          refine kw_iload_n (pc := 66) dX6_reason_66 rfl ?_
          refine kw_iconst (v := 5) (pc := 67) dX6_reason_67 (by decide) ?_
          refine kw_iadd (pc := 68) dX6_reason_68 ?_
          refine kw_ialoadN (pc := 69) (i := (p + 5)) dX6_reason_69 mM_1 (kA rfl (rfl : (5 : Int32) = nI 5)) (by omega) (by decide) ?_
          refine kw_if_le (tgt := 81) (pc := 70) dX6_reason_70 (by decide) (fun h70 => ?_) (fun h70 => ?_)
          · refine kw_iconst (v := 0) (pc := 81) dX6_reason_81 (by decide) ?_
            exact kw_ireturn nlX6_reason (pc := 82) dX6_reason_82 rfl rfl ⟨kv_eq (by grind [pR]), rfl, rfl⟩
          · refine kw_iload_n (pc := 73) dX6_reason_73 rfl ?_
            refine kw_if_ne (tgt := 81) (pc := 74) dX6_reason_74 (by decide) (fun h74 => ?_) (fun h74 => ?_)
            · refine kw_iconst (v := 0) (pc := 81) dX6_reason_81 (by decide) ?_
              exact kw_ireturn nlX6_reason (pc := 82) dX6_reason_82 rfl rfl ⟨kv_eq (by grind [pR]), rfl, rfl⟩
            · refine kw_iconst (v := 3) (pc := 77) dX6_reason_77 (by decide) ?_
              refine kw_goto (tgt := 82) (pc := 78) dX6_reason_78 (by decide) ?_
              exact kw_ireturn nlX6_reason (pc := 82) dX6_reason_82 rfl rfl ⟨kv_eq (by grind [pR]), rfl, rfl⟩
        · refine kw_iconst (v := 2) (pc := 58) dX6_reason_58 (by decide) ?_
          refine kw_goto (tgt := 82) (pc := 59) dX6_reason_59 (by decide) ?_
          exact kw_ireturn nlX6_reason (pc := 82) dX6_reason_82 rfl rfl ⟨kv_eq (by grind [pR]), rfl, rfl⟩
      · refine kw_iconst (v := 1) (pc := 40) dX6_reason_40 (by decide) ?_
        exact kw_ireturn nlX6_reason (pc := 41) dX6_reason_41 rfl rfl ⟨kv_eq (by grind [pR]), rfl, rfl⟩
  · refine kw_iload_n (pc := 25) dX6_reason_25 rfl ?_
    refine kw_if_eq (tgt := 40) (pc := 26) dX6_reason_26 (by decide) (fun h26 => ?_) (fun h26 => ?_)
    · refine kw_iconst (v := 1) (pc := 40) dX6_reason_40 (by decide) ?_
      exact kw_ireturn nlX6_reason (pc := 41) dX6_reason_41 rfl rfl ⟨kv_eq (by grind [pR]), rfl, rfl⟩
    · refine kw_iload_n (pc := 29) dX6_reason_29 rfl ?_
      refine kw_bipush (v := 60) (pc := 30) dX6_reason_30 (by decide) ?_
      refine kw_icmp_le (tgt := 42) (pc := 32) dX6_reason_32 (by decide) (fun h32 => ?_) (fun h32 => ?_)
      · refine kw_aload_n (pc := 42) dX6_reason_42 rfl ?_
        refine kw_iload_n (pc := 43) dX6_reason_43 rfl ?_
        refine kw_callVr (pc := 44) dX6_reason_44 lX6_53 (c_girth hp) mM_0 rfl rfl rfl ⟨by decide, by decide, by decide⟩ ?_
        refine kw_iconst (v := 2) (pc := 47) dX6_reason_47 (by decide) ?_
        refine kw_aload_n (pc := 48) dX6_reason_48 rfl ?_
        refine kw_getfield (pc := 49) kfw dX6_reason_49 fX6_7 mM_0 rfl ?_
        refine kw_iconst (v := 1) (pc := 52) dX6_reason_52 (by decide) ?_
        refine kw_ialoadN (pc := 53) (i := 1) dX6_reason_53 mM_1 (rfl : (1 : Int32) = nI 1) (by omega) (by decide) ?_
        refine kw_imul (pc := 54) dX6_reason_54 ?_
        refine kw_icmp_le (tgt := 62) (pc := 55) dX6_reason_55 (by decide) (fun h55 => ?_) (fun h55 => ?_)
        · refine kw_aload_n (pc := 62) dX6_reason_62 rfl ?_
          refine kw_getfield (pc := 63) kfw dX6_reason_63 fX6_7 mM_0 rfl ?_
          refine kw_iload_n (pc := 66) dX6_reason_66 rfl ?_
          refine kw_iconst (v := 5) (pc := 67) dX6_reason_67 (by decide) ?_
          refine kw_iadd (pc := 68) dX6_reason_68 ?_
          refine kw_ialoadN (pc := 69) (i := (p + 5)) dX6_reason_69 mM_1 (kA rfl (rfl : (5 : Int32) = nI 5)) (by omega) (by decide) ?_
          refine kw_if_le (tgt := 81) (pc := 70) dX6_reason_70 (by decide) (fun h70 => ?_) (fun h70 => ?_)
          · refine kw_iconst (v := 0) (pc := 81) dX6_reason_81 (by decide) ?_
            exact kw_ireturn nlX6_reason (pc := 82) dX6_reason_82 rfl rfl ⟨kv_eq (by grind [pR]), rfl, rfl⟩
          · refine kw_iload_n (pc := 73) dX6_reason_73 rfl ?_
            refine kw_if_ne (tgt := 81) (pc := 74) dX6_reason_74 (by decide) (fun h74 => ?_) (fun h74 => ?_)
            · refine kw_iconst (v := 0) (pc := 81) dX6_reason_81 (by decide) ?_
              exact kw_ireturn nlX6_reason (pc := 82) dX6_reason_82 rfl rfl ⟨kv_eq (by grind [pR]), rfl, rfl⟩
            · refine kw_iconst (v := 3) (pc := 77) dX6_reason_77 (by decide) ?_
              refine kw_goto (tgt := 82) (pc := 78) dX6_reason_78 (by decide) ?_
              exact kw_ireturn nlX6_reason (pc := 82) dX6_reason_82 rfl rfl ⟨kv_eq (by grind [pR]), rfl, rfl⟩
        · refine kw_iconst (v := 2) (pc := 58) dX6_reason_58 (by decide) ?_
          refine kw_goto (tgt := 82) (pc := 59) dX6_reason_59 (by decide) ?_
          exact kw_ireturn nlX6_reason (pc := 82) dX6_reason_82 rfl rfl ⟨kv_eq (by grind [pR]), rfl, rfl⟩
      · refine kw_iload_n (pc := 35) dX6_reason_35 rfl ?_
        refine kw_iconst (v := 1) (pc := 36) dX6_reason_36 (by decide) ?_
        refine kw_icmp_ne (tgt := 42) (pc := 37) dX6_reason_37 (by decide) (fun h37 => ?_) (fun h37 => ?_)
        · refine kw_aload_n (pc := 42) dX6_reason_42 rfl ?_
          refine kw_iload_n (pc := 43) dX6_reason_43 rfl ?_
          refine kw_callVr (pc := 44) dX6_reason_44 lX6_53 (c_girth hp) mM_0 rfl rfl rfl ⟨by decide, by decide, by decide⟩ ?_
          refine kw_iconst (v := 2) (pc := 47) dX6_reason_47 (by decide) ?_
          refine kw_aload_n (pc := 48) dX6_reason_48 rfl ?_
          refine kw_getfield (pc := 49) kfw dX6_reason_49 fX6_7 mM_0 rfl ?_
          refine kw_iconst (v := 1) (pc := 52) dX6_reason_52 (by decide) ?_
          refine kw_ialoadN (pc := 53) (i := 1) dX6_reason_53 mM_1 (rfl : (1 : Int32) = nI 1) (by omega) (by decide) ?_
          refine kw_imul (pc := 54) dX6_reason_54 ?_
          refine kw_icmp_le (tgt := 62) (pc := 55) dX6_reason_55 (by decide) (fun h55 => ?_) (fun h55 => ?_)
          · refine kw_aload_n (pc := 62) dX6_reason_62 rfl ?_
            refine kw_getfield (pc := 63) kfw dX6_reason_63 fX6_7 mM_0 rfl ?_
            refine kw_iload_n (pc := 66) dX6_reason_66 rfl ?_
            refine kw_iconst (v := 5) (pc := 67) dX6_reason_67 (by decide) ?_
            refine kw_iadd (pc := 68) dX6_reason_68 ?_
            refine kw_ialoadN (pc := 69) (i := (p + 5)) dX6_reason_69 mM_1 (kA rfl (rfl : (5 : Int32) = nI 5)) (by omega) (by decide) ?_
            refine kw_if_le (tgt := 81) (pc := 70) dX6_reason_70 (by decide) (fun h70 => ?_) (fun h70 => ?_)
            · refine kw_iconst (v := 0) (pc := 81) dX6_reason_81 (by decide) ?_
              exact kw_ireturn nlX6_reason (pc := 82) dX6_reason_82 rfl rfl ⟨kv_eq (by grind [pR]), rfl, rfl⟩
            · refine kw_iload_n (pc := 73) dX6_reason_73 rfl ?_
              refine kw_if_ne (tgt := 81) (pc := 74) dX6_reason_74 (by decide) (fun h74 => ?_) (fun h74 => ?_)
              · refine kw_iconst (v := 0) (pc := 81) dX6_reason_81 (by decide) ?_
                exact kw_ireturn nlX6_reason (pc := 82) dX6_reason_82 rfl rfl ⟨kv_eq (by grind [pR]), rfl, rfl⟩
              · refine kw_iconst (v := 3) (pc := 77) dX6_reason_77 (by decide) ?_
                refine kw_goto (tgt := 82) (pc := 78) dX6_reason_78 (by decide) ?_
                exact kw_ireturn nlX6_reason (pc := 82) dX6_reason_82 rfl rfl ⟨kv_eq (by grind [pR]), rfl, rfl⟩
          · refine kw_iconst (v := 2) (pc := 58) dX6_reason_58 (by decide) ?_
            refine kw_goto (tgt := 82) (pc := 59) dX6_reason_59 (by decide) ?_
            exact kw_ireturn nlX6_reason (pc := 82) dX6_reason_82 rfl rfl ⟨kv_eq (by grind [pR]), rfl, rfl⟩
        · refine kw_iconst (v := 1) (pc := 40) dX6_reason_40 (by decide) ?_
          exact kw_ireturn nlX6_reason (pc := 41) dX6_reason_41 rfl rfl ⟨kv_eq (by grind [pR]), rfl, rfl⟩
end
