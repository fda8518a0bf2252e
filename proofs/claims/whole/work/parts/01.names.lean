-- ===== PART A: goes FIRST, ahead of the names: the tables' words, and 'selects' of the private methods out of them =====
/-- a private method of a class that the tables say can be made, by its rows of tables_1 -/
def lw_okq (q : MethodName × Nat) : Prop := (q.1.cls ≠ "java/lang/invoke/MethodHandle" ∧ q.1.cls ≠ "java/lang/invoke/VarHandle") ∧ Cond.instantiable q.1.cls q.2 ∈ tables_1 ∧ Cond.privateMethod q.1 ∈ tables_1 ∧ Cond.instanceMethod q.1 ∈ tables_1
theorem lw_p0 : lw_okq (⟨"ShopsOnFloor$Ground", "measure", "()V"⟩, 9) := ⟨⟨by decide +kernel, by decide +kernel⟩, List.mem_of_getElem? (i := 23) (by decide +kernel), List.mem_of_getElem? (i := 323) (by decide +kernel), List.mem_of_getElem? (i := 324) (by decide +kernel)⟩
theorem lw_p1 : lw_okq (⟨"ShopsOnFloor$Ground", "flood", "(I)V"⟩, 9) := ⟨⟨by decide +kernel, by decide +kernel⟩, List.mem_of_getElem? (i := 23) (by decide +kernel), List.mem_of_getElem? (i := 327) (by decide +kernel), List.mem_of_getElem? (i := 328) (by decide +kernel)⟩
theorem lw_p2 : lw_okq (⟨"ShopsOnFloor$Ground", "reach", "(II)V"⟩, 9) := ⟨⟨by decide +kernel, by decide +kernel⟩, List.mem_of_getElem? (i := 23) (by decide +kernel), List.mem_of_getElem? (i := 332) (by decide +kernel), List.mem_of_getElem? (i := 333) (by decide +kernel)⟩
theorem lw_p3 : lw_okq (⟨"ShopsOnFloor$Ground", "nearestExit", "()I"⟩, 9) := ⟨⟨by decide +kernel, by decide +kernel⟩, List.mem_of_getElem? (i := 23) (by decide +kernel), List.mem_of_getElem? (i := 336) (by decide +kernel), List.mem_of_getElem? (i := 337) (by decide +kernel)⟩
theorem lw_p4 : lw_okq (⟨"ShopsOnFloor$Seats", "seatBehind", "(III)Z"⟩, 2) := ⟨⟨by decide +kernel, by decide +kernel⟩, List.mem_of_getElem? (i := 141) (by decide +kernel), List.mem_of_getElem? (i := 401) (by decide +kernel), List.mem_of_getElem? (i := 402) (by decide +kernel)⟩
theorem lw_p5 : lw_okq (⟨"ShopsOnFloor$Judge", "areExitsNear", "(LShopsOnFloor$Seats;)Z"⟩, 2) := ⟨⟨by decide +kernel, by decide +kernel⟩, List.mem_of_getElem? (i := 101) (by decide +kernel), List.mem_of_getElem? (i := 496) (by decide +kernel), List.mem_of_getElem? (i := 497) (by decide +kernel)⟩
theorem lw_p6 : lw_okq (⟨"ShopsOnFloor$Judge", "areWishesMet", "(LShopsOnFloor$Seats;)Z"⟩, 2) := ⟨⟨by decide +kernel, by decide +kernel⟩, List.mem_of_getElem? (i := 101) (by decide +kernel), List.mem_of_getElem? (i := 512) (by decide +kernel), List.mem_of_getElem? (i := 513) (by decide +kernel)⟩
theorem lw_p7 : lw_okq (⟨"ShopsOnFloor$Chooser", "compare", "(I)V"⟩, 7) := ⟨⟨by decide +kernel, by decide +kernel⟩, List.mem_of_getElem? (i := 135) (by decide +kernel), List.mem_of_getElem? (i := 549) (by decide +kernel), List.mem_of_getElem? (i := 550) (by decide +kernel)⟩
theorem lw_p8 : lw_okq (⟨"ShopsOnFloor$Lowest", "sortLoads", "(I)I"⟩, 4) := ⟨⟨by decide +kernel, by decide +kernel⟩, List.mem_of_getElem? (i := 114) (by decide +kernel), List.mem_of_getElem? (i := 586) (by decide +kernel), List.mem_of_getElem? (i := 587) (by decide +kernel)⟩
theorem lw_p9 : lw_okq (⟨"ShopsOnFloor$Lowest", "sortWays", "()I"⟩, 4) := ⟨⟨by decide +kernel, by decide +kernel⟩, List.mem_of_getElem? (i := 114) (by decide +kernel), List.mem_of_getElem? (i := 597) (by decide +kernel), List.mem_of_getElem? (i := 598) (by decide +kernel)⟩
theorem lw_p10 : lw_okq (⟨"ShopsOnFloor$Climber", "tryChange", "(III)V"⟩, 6) := ⟨⟨by decide +kernel, by decide +kernel⟩, List.mem_of_getElem? (i := 178) (by decide +kernel), List.mem_of_getElem? (i := 615) (by decide +kernel), List.mem_of_getElem? (i := 616) (by decide +kernel)⟩
theorem lw_p11 : lw_okq (⟨"ShopsOnFloor$Climber", "compare", "(I)V"⟩, 6) := ⟨⟨by decide +kernel, by decide +kernel⟩, List.mem_of_getElem? (i := 178) (by decide +kernel), List.mem_of_getElem? (i := 625) (by decide +kernel), List.mem_of_getElem? (i := 626) (by decide +kernel)⟩
theorem lw_p12 : lw_okq (⟨"ShopsOnFloor$Mover", "asideWeight", "(LShopsOnFloor$Seats;LShopsOnFloor$Seats;I)I"⟩, 3) := ⟨⟨by decide +kernel, by decide +kernel⟩, List.mem_of_getElem? (i := 205) (by decide +kernel), List.mem_of_getElem? (i := 656) (by decide +kernel), List.mem_of_getElem? (i := 657) (by decide +kernel)⟩
theorem lw_p13 : lw_okq (⟨"ShopsOnFloor$Mover", "firstStep", "(LShopsOnFloor$Seats;)I"⟩, 3) := ⟨⟨by decide +kernel, by decide +kernel⟩, List.mem_of_getElem? (i := 205) (by decide +kernel), List.mem_of_getElem? (i := 678) (by decide +kernel), List.mem_of_getElem? (i := 679) (by decide +kernel)⟩
theorem lw_p14 : lw_okq (⟨"ShopsOnFloor$Planner", "reckon", "(IZ)V"⟩, 11) := ⟨⟨by decide +kernel, by decide +kernel⟩, List.mem_of_getElem? (i := 223) (by decide +kernel), List.mem_of_getElem? (i := 692) (by decide +kernel), List.mem_of_getElem? (i := 693) (by decide +kernel)⟩
theorem lw_p15 : lw_okq (⟨"ShopsOnFloor$Planner", "stay", "(I)V"⟩, 11) := ⟨⟨by decide +kernel, by decide +kernel⟩, List.mem_of_getElem? (i := 223) (by decide +kernel), List.mem_of_getElem? (i := 706) (by decide +kernel), List.mem_of_getElem? (i := 707) (by decide +kernel)⟩
def lw_privs_1 : List (MethodName × Nat) := [(⟨"ShopsOnFloor$Ground", "measure", "()V"⟩, 9), (⟨"ShopsOnFloor$Ground", "flood", "(I)V"⟩, 9), (⟨"ShopsOnFloor$Ground", "reach", "(II)V"⟩, 9), (⟨"ShopsOnFloor$Ground", "nearestExit", "()I"⟩, 9), (⟨"ShopsOnFloor$Seats", "seatBehind", "(III)Z"⟩, 2), (⟨"ShopsOnFloor$Judge", "areExitsNear", "(LShopsOnFloor$Seats;)Z"⟩, 2), (⟨"ShopsOnFloor$Judge", "areWishesMet", "(LShopsOnFloor$Seats;)Z"⟩, 2), (⟨"ShopsOnFloor$Chooser", "compare", "(I)V"⟩, 7), (⟨"ShopsOnFloor$Lowest", "sortLoads", "(I)I"⟩, 4), (⟨"ShopsOnFloor$Lowest", "sortWays", "()I"⟩, 4), (⟨"ShopsOnFloor$Climber", "tryChange", "(III)V"⟩, 6), (⟨"ShopsOnFloor$Climber", "compare", "(I)V"⟩, 6), (⟨"ShopsOnFloor$Mover", "asideWeight", "(LShopsOnFloor$Seats;LShopsOnFloor$Seats;I)I"⟩, 3), (⟨"ShopsOnFloor$Mover", "firstStep", "(LShopsOnFloor$Seats;)I"⟩, 3), (⟨"ShopsOnFloor$Planner", "reckon", "(IZ)V"⟩, 11), (⟨"ShopsOnFloor$Planner", "stay", "(I)V"⟩, 11)]
theorem lw_r1 : ∀ q ∈ lw_privs_1, lw_okq q := List.forall_mem_cons.mpr ⟨lw_p0, List.forall_mem_cons.mpr ⟨lw_p1, List.forall_mem_cons.mpr ⟨lw_p2, List.forall_mem_cons.mpr ⟨lw_p3, List.forall_mem_cons.mpr ⟨lw_p4, List.forall_mem_cons.mpr ⟨lw_p5, List.forall_mem_cons.mpr ⟨lw_p6, List.forall_mem_cons.mpr ⟨lw_p7, List.forall_mem_cons.mpr ⟨lw_p8, List.forall_mem_cons.mpr ⟨lw_p9, List.forall_mem_cons.mpr ⟨lw_p10, List.forall_mem_cons.mpr ⟨lw_p11, List.forall_mem_cons.mpr ⟨lw_p12, List.forall_mem_cons.mpr ⟨lw_p13, List.forall_mem_cons.mpr ⟨lw_p14, List.forall_mem_cons.mpr ⟨lw_p15, fun _ h => absurd h List.not_mem_nil⟩⟩⟩⟩⟩⟩⟩⟩⟩⟩⟩⟩⟩⟩⟩⟩
theorem lw_p16 : lw_okq (⟨"ShopsOnFloor$Planner", "toldEnd", "()I"⟩, 11) := ⟨⟨by decide +kernel, by decide +kernel⟩, List.mem_of_getElem? (i := 223) (by decide +kernel), List.mem_of_getElem? (i := 710) (by decide +kernel), List.mem_of_getElem? (i := 711) (by decide +kernel)⟩
theorem lw_p17 : lw_okq (⟨"ShopsOnFloor$Planner", "letAllMove", "()V"⟩, 11) := ⟨⟨by decide +kernel, by decide +kernel⟩, List.mem_of_getElem? (i := 223) (by decide +kernel), List.mem_of_getElem? (i := 714) (by decide +kernel), List.mem_of_getElem? (i := 715) (by decide +kernel)⟩
theorem lw_p18 : lw_okq (⟨"ShopsOnFloor$Planner", "letMove", "(III)V"⟩, 11) := ⟨⟨by decide +kernel, by decide +kernel⟩, List.mem_of_getElem? (i := 223) (by decide +kernel), List.mem_of_getElem? (i := 719) (by decide +kernel), List.mem_of_getElem? (i := 720) (by decide +kernel)⟩
theorem lw_p19 : lw_okq (⟨"ShopsOnFloor$Planner", "choose", "(I)V"⟩, 11) := ⟨⟨by decide +kernel, by decide +kernel⟩, List.mem_of_getElem? (i := 223) (by decide +kernel), List.mem_of_getElem? (i := 723) (by decide +kernel), List.mem_of_getElem? (i := 724) (by decide +kernel)⟩
theorem lw_p20 : lw_okq (⟨"ShopsOnFloorModel", "isSlot", "(I)Z"⟩, 30) := ⟨⟨by decide +kernel, by decide +kernel⟩, List.mem_of_getElem? (i := 749) (by decide +kernel), List.mem_of_getElem? (i := 869) (by decide +kernel), List.mem_of_getElem? (i := 870) (by decide +kernel)⟩
theorem lw_p21 : lw_okq (⟨"ShopsOnFloorModel", "layFloor", "()V"⟩, 30) := ⟨⟨by decide +kernel, by decide +kernel⟩, List.mem_of_getElem? (i := 749) (by decide +kernel), List.mem_of_getElem? (i := 873) (by decide +kernel), List.mem_of_getElem? (i := 874) (by decide +kernel)⟩
theorem lw_p22 : lw_okq (⟨"ShopsOnFloorModel", "walk", "(I)V"⟩, 30) := ⟨⟨by decide +kernel, by decide +kernel⟩, List.mem_of_getElem? (i := 749) (by decide +kernel), List.mem_of_getElem? (i := 877) (by decide +kernel), List.mem_of_getElem? (i := 878) (by decide +kernel)⟩
theorem lw_p23 : lw_okq (⟨"ShopsOnFloorModel", "isShop", "(I)Z"⟩, 30) := ⟨⟨by decide +kernel, by decide +kernel⟩, List.mem_of_getElem? (i := 749) (by decide +kernel), List.mem_of_getElem? (i := 903) (by decide +kernel), List.mem_of_getElem? (i := 904) (by decide +kernel)⟩
theorem lw_p24 : lw_okq (⟨"ShopsOnFloorModel", "layTold", "(I)Z"⟩, 30) := ⟨⟨by decide +kernel, by decide +kernel⟩, List.mem_of_getElem? (i := 749) (by decide +kernel), List.mem_of_getElem? (i := 923) (by decide +kernel), List.mem_of_getElem? (i := 924) (by decide +kernel)⟩
theorem lw_p25 : lw_okq (⟨"ShopsOnFloorModel", "allNumbers", "()I"⟩, 30) := ⟨⟨by decide +kernel, by decide +kernel⟩, List.mem_of_getElem? (i := 749) (by decide +kernel), List.mem_of_getElem? (i := 927) (by decide +kernel), List.mem_of_getElem? (i := 928) (by decide +kernel)⟩
theorem lw_p26 : lw_okq (⟨"ShopsOnFloorModel", "becomeNow", "()V"⟩, 30) := ⟨⟨by decide +kernel, by decide +kernel⟩, List.mem_of_getElem? (i := 749) (by decide +kernel), List.mem_of_getElem? (i := 931) (by decide +kernel), List.mem_of_getElem? (i := 932) (by decide +kernel)⟩
theorem lw_p27 : lw_okq (⟨"ShopsOnFloorModel", "takeNow", "()V"⟩, 30) := ⟨⟨by decide +kernel, by decide +kernel⟩, List.mem_of_getElem? (i := 749) (by decide +kernel), List.mem_of_getElem? (i := 939) (by decide +kernel), List.mem_of_getElem? (i := 940) (by decide +kernel)⟩
theorem lw_p28 : lw_okq (⟨"ShopsOnFloorModel", "toldOf", "()I"⟩, 30) := ⟨⟨by decide +kernel, by decide +kernel⟩, List.mem_of_getElem? (i := 749) (by decide +kernel), List.mem_of_getElem? (i := 943) (by decide +kernel), List.mem_of_getElem? (i := 944) (by decide +kernel)⟩
theorem lw_p29 : lw_okq (⟨"ShopsOnFloorModel", "costOf", "(I)I"⟩, 30) := ⟨⟨by decide +kernel, by decide +kernel⟩, List.mem_of_getElem? (i := 749) (by decide +kernel), List.mem_of_getElem? (i := 951) (by decide +kernel), List.mem_of_getElem? (i := 952) (by decide +kernel)⟩
theorem lw_p30 : lw_okq (⟨"ShopsOnFloorModel", "meets", "(I)Z"⟩, 30) := ⟨⟨by decide +kernel, by decide +kernel⟩, List.mem_of_getElem? (i := 749) (by decide +kernel), List.mem_of_getElem? (i := 955) (by decide +kernel), List.mem_of_getElem? (i := 956) (by decide +kernel)⟩
theorem lw_p31 : lw_okq (⟨"ShopsOnFloorModel", "farOf", "(II)I"⟩, 30) := ⟨⟨by decide +kernel, by decide +kernel⟩, List.mem_of_getElem? (i := 749) (by decide +kernel), List.mem_of_getElem? (i := 959) (by decide +kernel), List.mem_of_getElem? (i := 960) (by decide +kernel)⟩
def lw_privs_2 : List (MethodName × Nat) := [(⟨"ShopsOnFloor$Planner", "toldEnd", "()I"⟩, 11), (⟨"ShopsOnFloor$Planner", "letAllMove", "()V"⟩, 11), (⟨"ShopsOnFloor$Planner", "letMove", "(III)V"⟩, 11), (⟨"ShopsOnFloor$Planner", "choose", "(I)V"⟩, 11), (⟨"ShopsOnFloorModel", "isSlot", "(I)Z"⟩, 30), (⟨"ShopsOnFloorModel", "layFloor", "()V"⟩, 30), (⟨"ShopsOnFloorModel", "walk", "(I)V"⟩, 30), (⟨"ShopsOnFloorModel", "isShop", "(I)Z"⟩, 30), (⟨"ShopsOnFloorModel", "layTold", "(I)Z"⟩, 30), (⟨"ShopsOnFloorModel", "allNumbers", "()I"⟩, 30), (⟨"ShopsOnFloorModel", "becomeNow", "()V"⟩, 30), (⟨"ShopsOnFloorModel", "takeNow", "()V"⟩, 30), (⟨"ShopsOnFloorModel", "toldOf", "()I"⟩, 30), (⟨"ShopsOnFloorModel", "costOf", "(I)I"⟩, 30), (⟨"ShopsOnFloorModel", "meets", "(I)Z"⟩, 30), (⟨"ShopsOnFloorModel", "farOf", "(II)I"⟩, 30)]
theorem lw_r2 : ∀ q ∈ lw_privs_2, lw_okq q := List.forall_mem_cons.mpr ⟨lw_p16, List.forall_mem_cons.mpr ⟨lw_p17, List.forall_mem_cons.mpr ⟨lw_p18, List.forall_mem_cons.mpr ⟨lw_p19, List.forall_mem_cons.mpr ⟨lw_p20, List.forall_mem_cons.mpr ⟨lw_p21, List.forall_mem_cons.mpr ⟨lw_p22, List.forall_mem_cons.mpr ⟨lw_p23, List.forall_mem_cons.mpr ⟨lw_p24, List.forall_mem_cons.mpr ⟨lw_p25, List.forall_mem_cons.mpr ⟨lw_p26, List.forall_mem_cons.mpr ⟨lw_p27, List.forall_mem_cons.mpr ⟨lw_p28, List.forall_mem_cons.mpr ⟨lw_p29, List.forall_mem_cons.mpr ⟨lw_p30, List.forall_mem_cons.mpr ⟨lw_p31, fun _ h => absurd h List.not_mem_nil⟩⟩⟩⟩⟩⟩⟩⟩⟩⟩⟩⟩⟩⟩⟩⟩
theorem lw_p32 : lw_okq (⟨"ShopsOnFloorModel", "bestOf", "(I)I"⟩, 30) := ⟨⟨by decide +kernel, by decide +kernel⟩, List.mem_of_getElem? (i := 749) (by decide +kernel), List.mem_of_getElem? (i := 968) (by decide +kernel), List.mem_of_getElem? (i := 969) (by decide +kernel)⟩
theorem lw_p33 : lw_okq (⟨"ShopsOnFloorModel", "layRow", "(I)Z"⟩, 30) := ⟨⟨by decide +kernel, by decide +kernel⟩, List.mem_of_getElem? (i := 749) (by decide +kernel), List.mem_of_getElem? (i := 972) (by decide +kernel), List.mem_of_getElem? (i := 973) (by decide +kernel)⟩
theorem lw_p34 : lw_okq (⟨"ShopsOnFloorModel", "sortIn", "(II)V"⟩, 30) := ⟨⟨by decide +kernel, by decide +kernel⟩, List.mem_of_getElem? (i := 749) (by decide +kernel), List.mem_of_getElem? (i := 988) (by decide +kernel), List.mem_of_getElem? (i := 989) (by decide +kernel)⟩
theorem lw_p35 : lw_okq (⟨"ShopsOnFloorModel", "findChange", "(I)V"⟩, 30) := ⟨⟨by decide +kernel, by decide +kernel⟩, List.mem_of_getElem? (i := 749) (by decide +kernel), List.mem_of_getElem? (i := 996) (by decide +kernel), List.mem_of_getElem? (i := 997) (by decide +kernel)⟩
theorem lw_p36 : lw_okq (⟨"ShopsOnFloorModel", "look", "(I)V"⟩, 30) := ⟨⟨by decide +kernel, by decide +kernel⟩, List.mem_of_getElem? (i := 749) (by decide +kernel), List.mem_of_getElem? (i := 1000) (by decide +kernel), List.mem_of_getElem? (i := 1001) (by decide +kernel)⟩
theorem lw_p37 : lw_okq (⟨"ShopsOnFloorModel", "numberOf", "()I"⟩, 30) := ⟨⟨by decide +kernel, by decide +kernel⟩, List.mem_of_getElem? (i := 749) (by decide +kernel), List.mem_of_getElem? (i := 1004) (by decide +kernel), List.mem_of_getElem? (i := 1005) (by decide +kernel)⟩
theorem lw_p38 : lw_okq (⟨"ShopsOnFloorModel", "layMoves", "()V"⟩, 30) := ⟨⟨by decide +kernel, by decide +kernel⟩, List.mem_of_getElem? (i := 749) (by decide +kernel), List.mem_of_getElem? (i := 1016) (by decide +kernel), List.mem_of_getElem? (i := 1017) (by decide +kernel)⟩
theorem lw_p39 : lw_okq (⟨"ShopsOnFloorModel", "leastStep", "(I)I"⟩, 30) := ⟨⟨by decide +kernel, by decide +kernel⟩, List.mem_of_getElem? (i := 749) (by decide +kernel), List.mem_of_getElem? (i := 1020) (by decide +kernel), List.mem_of_getElem? (i := 1021) (by decide +kernel)⟩
theorem lw_p40 : lw_okq (⟨"ShopsOnFloorModel", "withStep", "(III)I"⟩, 30) := ⟨⟨by decide +kernel, by decide +kernel⟩, List.mem_of_getElem? (i := 749) (by decide +kernel), List.mem_of_getElem? (i := 1024) (by decide +kernel), List.mem_of_getElem? (i := 1025) (by decide +kernel)⟩
theorem lw_p41 : lw_okq (⟨"ShopsOnFloorModel", "stepTo", "(III)I"⟩, 30) := ⟨⟨by decide +kernel, by decide +kernel⟩, List.mem_of_getElem? (i := 749) (by decide +kernel), List.mem_of_getElem? (i := 1028) (by decide +kernel), List.mem_of_getElem? (i := 1029) (by decide +kernel)⟩
theorem lw_p42 : lw_okq (⟨"ShopsOnFloorModel", "layPlans", "(I)V"⟩, 30) := ⟨⟨by decide +kernel, by decide +kernel⟩, List.mem_of_getElem? (i := 749) (by decide +kernel), List.mem_of_getElem? (i := 1043) (by decide +kernel), List.mem_of_getElem? (i := 1044) (by decide +kernel)⟩
theorem lw_p43 : lw_okq (⟨"ShopsOnFloorModel", "changed", "(II)I"⟩, 30) := ⟨⟨by decide +kernel, by decide +kernel⟩, List.mem_of_getElem? (i := 749) (by decide +kernel), List.mem_of_getElem? (i := 1047) (by decide +kernel), List.mem_of_getElem? (i := 1048) (by decide +kernel)⟩
theorem lw_p44 : lw_okq (⟨"ShopsOnFloorModel", "firstOf", "(II)I"⟩, 30) := ⟨⟨by decide +kernel, by decide +kernel⟩, List.mem_of_getElem? (i := 749) (by decide +kernel), List.mem_of_getElem? (i := 1051) (by decide +kernel), List.mem_of_getElem? (i := 1052) (by decide +kernel)⟩
def lw_privs_3 : List (MethodName × Nat) := [(⟨"ShopsOnFloorModel", "bestOf", "(I)I"⟩, 30), (⟨"ShopsOnFloorModel", "layRow", "(I)Z"⟩, 30), (⟨"ShopsOnFloorModel", "sortIn", "(II)V"⟩, 30), (⟨"ShopsOnFloorModel", "findChange", "(I)V"⟩, 30), (⟨"ShopsOnFloorModel", "look", "(I)V"⟩, 30), (⟨"ShopsOnFloorModel", "numberOf", "()I"⟩, 30), (⟨"ShopsOnFloorModel", "layMoves", "()V"⟩, 30), (⟨"ShopsOnFloorModel", "leastStep", "(I)I"⟩, 30), (⟨"ShopsOnFloorModel", "withStep", "(III)I"⟩, 30), (⟨"ShopsOnFloorModel", "stepTo", "(III)I"⟩, 30), (⟨"ShopsOnFloorModel", "layPlans", "(I)V"⟩, 30), (⟨"ShopsOnFloorModel", "changed", "(II)I"⟩, 30), (⟨"ShopsOnFloorModel", "firstOf", "(II)I"⟩, 30)]
theorem lw_r3 : ∀ q ∈ lw_privs_3, lw_okq q := List.forall_mem_cons.mpr ⟨lw_p32, List.forall_mem_cons.mpr ⟨lw_p33, List.forall_mem_cons.mpr ⟨lw_p34, List.forall_mem_cons.mpr ⟨lw_p35, List.forall_mem_cons.mpr ⟨lw_p36, List.forall_mem_cons.mpr ⟨lw_p37, List.forall_mem_cons.mpr ⟨lw_p38, List.forall_mem_cons.mpr ⟨lw_p39, List.forall_mem_cons.mpr ⟨lw_p40, List.forall_mem_cons.mpr ⟨lw_p41, List.forall_mem_cons.mpr ⟨lw_p42, List.forall_mem_cons.mpr ⟨lw_p43, List.forall_mem_cons.mpr ⟨lw_p44, fun _ h => absurd h List.not_mem_nil⟩⟩⟩⟩⟩⟩⟩⟩⟩⟩⟩⟩⟩
def lw_privs : List (MethodName × Nat) := lw_privs_1 ++ (lw_privs_2 ++ (lw_privs_3))
def lw_tbl : List Cond := k2_sels lw_privs ++ tables_1
theorem lw_privs_ok : ∀ q ∈ lw_privs, lw_okq q := by
  show ∀ q ∈ lw_privs_1 ++ (lw_privs_2 ++ (lw_privs_3)), lw_okq q
  exact List.forall_mem_append.mpr ⟨lw_r1, List.forall_mem_append.mpr ⟨lw_r2, lw_r3⟩⟩
def RX0 : String := "ShopsOnFloor$Chooser"
def TX0 : u_T := fun k => match k with
  | 0 => ("ShopsOnFloor$Chooser", "ground", "LShopsOnFloor$Ground;", true)
  | 1 => ("ShopsOnFloor$Chooser", "trade", "LShopsOnFloor$Trade;", true)
  | 2 => ("ShopsOnFloor$Chooser", "judge", "LShopsOnFloor$Judge;", true)
  | 3 => ("ShopsOnFloor$Chooser", "trial", "LShopsOnFloor$Seats;", true)
  | 4 => ("ShopsOnFloor$Chooser", "firstBest", "LShopsOnFloor$Seats;", true)
  | 5 => ("ShopsOnFloor$Chooser", "leastCost", "I", false)
  | _ => ("ShopsOnFloor$Chooser", "bestCount", "I", false)
def tyX0 : Nat → FieldType := fun k => match k with
  | 0 => .object "ShopsOnFloor$Ground"
  | 1 => .object "ShopsOnFloor$Trade"
  | 2 => .object "ShopsOnFloor$Judge"
  | 3 => .object "ShopsOnFloor$Seats"
  | 4 => .object "ShopsOnFloor$Seats"
  | 5 => .int
  | _ => .int
abbrev wsX00 : List Cond := u_ws RX0 TX0 7
theorem nmX0 : ∀ a, a < 7 → ∀ b, b < 7 → a ≠ b → (TX0 a).2.1 ≠ (TX0 b).2.1 := by decide +kernel
theorem tyX0_ok : ∀ k, k < 7 → parseFieldDescriptor (TX0 k).2.2.1 = some (tyX0 k) := by decide +kernel
abbrev cX0_init : ByteArray := prog_2_method_1_code
def yX0_init : MethodName := ⟨RX0, "<init>", "(LShopsOnFloor$Ground;LShopsOnFloor$Trade;LShopsOnFloor$Judge;)V"⟩
abbrev cX0_least : ByteArray := prog_2_method_2_code
def yX0_least : MethodName := ⟨RX0, "least", "()I"⟩
abbrev cX0_howMany : ByteArray := prog_2_method_3_code
def yX0_howMany : MethodName := ⟨RX0, "howMany", "()I"⟩
abbrev cX0_first : ByteArray := prog_2_method_4_code
def yX0_first : MethodName := ⟨RX0, "first", "()LShopsOnFloor$Seats;"⟩
abbrev cX0_search : ByteArray := prog_2_method_5_code
def yX0_search : MethodName := ⟨RX0, "search", "(I)V"⟩
abbrev cX0_compare : ByteArray := prog_2_method_6_code
def yX0_compare : MethodName := ⟨RX0, "compare", "(I)V"⟩
def RX1 : String := "ShopsOnFloor$Climber"
def TX1 : u_T := fun k => match k with
  | 0 => ("ShopsOnFloor$Climber", "ground", "LShopsOnFloor$Ground;", true)
  | 1 => ("ShopsOnFloor$Climber", "judge", "LShopsOnFloor$Judge;", true)
  | 2 => ("ShopsOnFloor$Climber", "trial", "LShopsOnFloor$Seats;", true)
  | 3 => ("ShopsOnFloor$Climber", "betterSeats", "LShopsOnFloor$Seats;", true)
  | 4 => ("ShopsOnFloor$Climber", "leastCost", "I", false)
  | _ => ("ShopsOnFloor$Climber", "isFound", "Z", false)
def tyX1 : Nat → FieldType := fun k => match k with
  | 0 => .object "ShopsOnFloor$Ground"
  | 1 => .object "ShopsOnFloor$Judge"
  | 2 => .object "ShopsOnFloor$Seats"
  | 3 => .object "ShopsOnFloor$Seats"
  | 4 => .int
  | _ => .boolean
abbrev wsX10 : List Cond := u_ws RX1 TX1 6
theorem nmX1 : ∀ a, a < 6 → ∀ b, b < 6 → a ≠ b → (TX1 a).2.1 ≠ (TX1 b).2.1 := by decide +kernel
theorem tyX1_ok : ∀ k, k < 6 → parseFieldDescriptor (TX1 k).2.2.1 = some (tyX1 k) := by decide +kernel
abbrev cX1_init : ByteArray := prog_3_method_1_code
def yX1_init : MethodName := ⟨RX1, "<init>", "(LShopsOnFloor$Ground;LShopsOnFloor$Judge;)V"⟩
abbrev cX1_found : ByteArray := prog_3_method_2_code
def yX1_found : MethodName := ⟨RX1, "found", "()LShopsOnFloor$Seats;"⟩
abbrev cX1_search : ByteArray := prog_3_method_3_code
def yX1_search : MethodName := ⟨RX1, "search", "(ILShopsOnFloor$Seats;)Z"⟩
abbrev cX1_tryChange : ByteArray := prog_3_method_4_code
def yX1_tryChange : MethodName := ⟨RX1, "tryChange", "(III)V"⟩
abbrev cX1_compare : ByteArray := prog_3_method_5_code
def yX1_compare : MethodName := ⟨RX1, "compare", "(I)V"⟩
def RX2 : String := "ShopsOnFloor$Ground"
def TX2 : u_T := fun k => match k with
  | 0 => ("ShopsOnFloor$Ground", "kinds", "LShopsOnFloor$Row;", true)
  | 1 => ("ShopsOnFloor$Ground", "slotCells", "LShopsOnFloor$Row;", true)
  | 2 => ("ShopsOnFloor$Ground", "ways", "LShopsOnFloor$Row;", true)
  | 3 => ("ShopsOnFloor$Ground", "outs", "LShopsOnFloor$Row;", true)
  | 4 => ("ShopsOnFloor$Ground", "steps", "LShopsOnFloor$Row;", true)
  | 5 => ("ShopsOnFloor$Ground", "waiting", "LShopsOnFloor$Row;", true)
  | 6 => ("ShopsOnFloor$Ground", "waitingEnd", "I", false)
  | 7 => ("ShopsOnFloor$Ground", "slotCount", "I", false)
  | _ => ("ShopsOnFloor$Ground", "exitBound", "I", false)
def tyX2 : Nat → FieldType := fun k => match k with
  | 0 => .object "ShopsOnFloor$Row"
  | 1 => .object "ShopsOnFloor$Row"
  | 2 => .object "ShopsOnFloor$Row"
  | 3 => .object "ShopsOnFloor$Row"
  | 4 => .object "ShopsOnFloor$Row"
  | 5 => .object "ShopsOnFloor$Row"
  | 6 => .int
  | 7 => .int
  | _ => .int
abbrev wsX20 : List Cond := u_ws RX2 TX2 9
theorem nmX2 : ∀ a, a < 9 → ∀ b, b < 9 → a ≠ b → (TX2 a).2.1 ≠ (TX2 b).2.1 := by decide +kernel
theorem tyX2_ok : ∀ k, k < 9 → parseFieldDescriptor (TX2 k).2.2.1 = some (tyX2 k) := by decide +kernel
abbrev cX2_init : ByteArray := prog_4_method_1_code
def yX2_init : MethodName := ⟨RX2, "<init>", "()V"⟩
abbrev cX2_kindOf : ByteArray := prog_4_method_2_code
def yX2_kindOf : MethodName := ⟨RX2, "kindOf", "(I)I"⟩
abbrev cX2_slots : ByteArray := prog_4_method_3_code
def yX2_slots : MethodName := ⟨RX2, "slots", "()I"⟩
abbrev cX2_hasSlot : ByteArray := prog_4_method_4_code
def yX2_hasSlot : MethodName := ⟨RX2, "hasSlot", "(I)Z"⟩
abbrev cX2_cellsOf : ByteArray := prog_4_method_5_code
def yX2_cellsOf : MethodName := ⟨RX2, "cellsOf", "(I)I"⟩
abbrev cX2_wayBetween : ByteArray := prog_4_method_6_code
def yX2_wayBetween : MethodName := ⟨RX2, "wayBetween", "(II)I"⟩
abbrev cX2_wayOut : ByteArray := prog_4_method_7_code
def yX2_wayOut : MethodName := ⟨RX2, "wayOut", "(I)I"⟩
abbrev cX2_changeBound : ByteArray := prog_4_method_8_code
def yX2_changeBound : MethodName := ⟨RX2, "changeBound", "(I)I"⟩
abbrev cX2_isOutNear : ByteArray := prog_4_method_9_code
def yX2_isOutNear : MethodName := ⟨RX2, "isOutNear", "(I)Z"⟩
abbrev cX2_become : ByteArray := prog_4_method_10_code
def yX2_become : MethodName := ⟨RX2, "become", "(II)V"⟩
abbrev cX2_addSlot : ByteArray := prog_4_method_11_code
def yX2_addSlot : MethodName := ⟨RX2, "addSlot", "(I)I"⟩
abbrev cX2_measure : ByteArray := prog_4_method_12_code
def yX2_measure : MethodName := ⟨RX2, "measure", "()V"⟩
abbrev cX2_flood : ByteArray := prog_4_method_13_code
def yX2_flood : MethodName := ⟨RX2, "flood", "(I)V"⟩
abbrev cX2_reach : ByteArray := prog_4_method_14_code
def yX2_reach : MethodName := ⟨RX2, "reach", "(II)V"⟩
abbrev cX2_nearestExit : ByteArray := prog_4_method_15_code
def yX2_nearestExit : MethodName := ⟨RX2, "nearestExit", "()I"⟩
def RX3 : String := "ShopsOnFloor$Judge"
def TX3 : u_T := fun k => match k with
  | 0 => ("ShopsOnFloor$Judge", "ground", "LShopsOnFloor$Ground;", true)
  | _ => ("ShopsOnFloor$Judge", "trade", "LShopsOnFloor$Trade;", true)
def tyX3 : Nat → FieldType := fun k => match k with
  | 0 => .object "ShopsOnFloor$Ground"
  | _ => .object "ShopsOnFloor$Trade"
abbrev wsX30 : List Cond := u_ws RX3 TX3 2
theorem nmX3 : ∀ a, a < 2 → ∀ b, b < 2 → a ≠ b → (TX3 a).2.1 ≠ (TX3 b).2.1 := by decide +kernel
theorem tyX3_ok : ∀ k, k < 2 → parseFieldDescriptor (TX3 k).2.2.1 = some (tyX3 k) := by decide +kernel
abbrev cX3_init : ByteArray := prog_5_method_1_code
def yX3_init : MethodName := ⟨RX3, "<init>", "(LShopsOnFloor$Ground;LShopsOnFloor$Trade;)V"⟩
abbrev cX3_costOf : ByteArray := prog_5_method_2_code
def yX3_costOf : MethodName := ⟨RX3, "costOf", "(ILShopsOnFloor$Seats;)I"⟩
abbrev cX3_areExitsNear : ByteArray := prog_5_method_3_code
def yX3_areExitsNear : MethodName := ⟨RX3, "areExitsNear", "(LShopsOnFloor$Seats;)Z"⟩
abbrev cX3_areWishesMet : ByteArray := prog_5_method_4_code
def yX3_areWishesMet : MethodName := ⟨RX3, "areWishesMet", "(LShopsOnFloor$Seats;)Z"⟩
def RX4 : String := "ShopsOnFloor$Lowest"
def TX4 : u_T := fun k => match k with
  | 0 => ("ShopsOnFloor$Lowest", "ground", "LShopsOnFloor$Ground;", true)
  | 1 => ("ShopsOnFloor$Lowest", "trade", "LShopsOnFloor$Trade;", true)
  | 2 => ("ShopsOnFloor$Lowest", "carried", "LShopsOnFloor$Row;", true)
  | _ => ("ShopsOnFloor$Lowest", "ways", "LShopsOnFloor$Row;", true)
def tyX4 : Nat → FieldType := fun k => match k with
  | 0 => .object "ShopsOnFloor$Ground"
  | 1 => .object "ShopsOnFloor$Trade"
  | 2 => .object "ShopsOnFloor$Row"
  | _ => .object "ShopsOnFloor$Row"
abbrev wsX40 : List Cond := u_ws RX4 TX4 4
theorem nmX4 : ∀ a, a < 4 → ∀ b, b < 4 → a ≠ b → (TX4 a).2.1 ≠ (TX4 b).2.1 := by decide +kernel
theorem tyX4_ok : ∀ k, k < 4 → parseFieldDescriptor (TX4 k).2.2.1 = some (tyX4 k) := by decide +kernel
abbrev cX4_init : ByteArray := prog_6_method_1_code
def yX4_init : MethodName := ⟨RX4, "<init>", "(LShopsOnFloor$Ground;LShopsOnFloor$Trade;)V"⟩
abbrev cX4_of : ByteArray := prog_6_method_2_code
def yX4_of : MethodName := ⟨RX4, "of", "(I)I"⟩
abbrev cX4_sortLoads : ByteArray := prog_6_method_3_code
def yX4_sortLoads : MethodName := ⟨RX4, "sortLoads", "(I)I"⟩
abbrev cX4_sortWays : ByteArray := prog_6_method_4_code
def yX4_sortWays : MethodName := ⟨RX4, "sortWays", "()I"⟩
abbrev cX4_insert : ByteArray := prog_6_method_5_code
def yX4_insert : MethodName := ⟨RX4, "insert", "(LShopsOnFloor$Row;II)V"⟩
def RX5 : String := "ShopsOnFloor$Mover"
def TX5 : u_T := fun k => match k with
  | 0 => ("ShopsOnFloor$Mover", "ground", "LShopsOnFloor$Ground;", true)
  | 1 => ("ShopsOnFloor$Mover", "trade", "LShopsOnFloor$Trade;", true)
  | _ => ("ShopsOnFloor$Mover", "trial", "LShopsOnFloor$Seats;", true)
def tyX5 : Nat → FieldType := fun k => match k with
  | 0 => .object "ShopsOnFloor$Ground"
  | 1 => .object "ShopsOnFloor$Trade"
  | _ => .object "ShopsOnFloor$Seats"
abbrev wsX50 : List Cond := u_ws RX5 TX5 3
theorem nmX5 : ∀ a, a < 3 → ∀ b, b < 3 → a ≠ b → (TX5 a).2.1 ≠ (TX5 b).2.1 := by decide +kernel
theorem tyX5_ok : ∀ k, k < 3 → parseFieldDescriptor (TX5 k).2.2.1 = some (tyX5 k) := by decide +kernel
abbrev cX5_init : ByteArray := prog_7_method_1_code
def yX5_init : MethodName := ⟨RX5, "<init>", "(LShopsOnFloor$Ground;LShopsOnFloor$Trade;)V"⟩
abbrev cX5_least : ByteArray := prog_7_method_2_code
def yX5_least : MethodName := ⟨RX5, "least", "(LShopsOnFloor$Seats;LShopsOnFloor$Seats;)I"⟩
abbrev cX5_asideWeight : ByteArray := prog_7_method_3_code
def yX5_asideWeight : MethodName := ⟨RX5, "asideWeight", "(LShopsOnFloor$Seats;LShopsOnFloor$Seats;I)I"⟩
abbrev cX5_walk : ByteArray := prog_7_method_4_code
def yX5_walk : MethodName := ⟨RX5, "walk", "(LShopsOnFloor$Seats;LShopsOnFloor$Seats;I)I"⟩
abbrev cX5_firstStep : ByteArray := prog_7_method_5_code
def yX5_firstStep : MethodName := ⟨RX5, "firstStep", "(LShopsOnFloor$Seats;)I"⟩
def RX6 : String := "ShopsOnFloor$Planner"
def TX6 : u_T := fun k => match k with
  | 0 => ("ShopsOnFloor$Planner", "ground", "LShopsOnFloor$Ground;", true)
  | 1 => ("ShopsOnFloor$Planner", "trade", "LShopsOnFloor$Trade;", true)
  | 2 => ("ShopsOnFloor$Planner", "judge", "LShopsOnFloor$Judge;", true)
  | 3 => ("ShopsOnFloor$Planner", "trial", "LShopsOnFloor$Seats;", true)
  | 4 => ("ShopsOnFloor$Planner", "before", "LShopsOnFloor$Seats;", true)
  | 5 => ("ShopsOnFloor$Planner", "chosen", "LShopsOnFloor$Seats;", true)
  | 6 => ("ShopsOnFloor$Planner", "onward", "LShopsOnFloor$Row;", true)
  | 7 => ("ShopsOnFloor$Planner", "ahead", "LShopsOnFloor$Row;", true)
  | 8 => ("ShopsOnFloor$Planner", "chosenTold", "LShopsOnFloor$Row;", true)
  | 9 => ("ShopsOnFloor$Planner", "wholePrice", "I", false)
  | _ => ("ShopsOnFloor$Planner", "plannedYears", "I", false)
def tyX6 : Nat → FieldType := fun k => match k with
  | 0 => .object "ShopsOnFloor$Ground"
  | 1 => .object "ShopsOnFloor$Trade"
  | 2 => .object "ShopsOnFloor$Judge"
  | 3 => .object "ShopsOnFloor$Seats"
  | 4 => .object "ShopsOnFloor$Seats"
  | 5 => .object "ShopsOnFloor$Seats"
  | 6 => .object "ShopsOnFloor$Row"
  | 7 => .object "ShopsOnFloor$Row"
  | 8 => .object "ShopsOnFloor$Row"
  | 9 => .int
  | _ => .int
abbrev wsX60 : List Cond := u_ws RX6 TX6 11
theorem nmX6 : ∀ a, a < 11 → ∀ b, b < 11 → a ≠ b → (TX6 a).2.1 ≠ (TX6 b).2.1 := by decide +kernel
theorem tyX6_ok : ∀ k, k < 11 → parseFieldDescriptor (TX6 k).2.2.1 = some (tyX6 k) := by decide +kernel
abbrev cX6_init : ByteArray := prog_8_method_1_code
def yX6_init : MethodName := ⟨RX6, "<init>", "(LShopsOnFloor$Ground;LShopsOnFloor$Trade;LShopsOnFloor$Judge;)V"⟩
abbrev cX6_forget : ByteArray := prog_8_method_2_code
def yX6_forget : MethodName := ⟨RX6, "forget", "()V"⟩
abbrev cX6_price : ByteArray := prog_8_method_3_code
def yX6_price : MethodName := ⟨RX6, "price", "()I"⟩
abbrev cX6_toldOf : ByteArray := prog_8_method_4_code
def yX6_toldOf : MethodName := ⟨RX6, "toldOf", "(I)I"⟩
abbrev cX6_makePlan : ByteArray := prog_8_method_5_code
def yX6_makePlan : MethodName := ⟨RX6, "makePlan", "(I)V"⟩
abbrev cX6_reckon : ByteArray := prog_8_method_6_code
def yX6_reckon : MethodName := ⟨RX6, "reckon", "(IZ)V"⟩
abbrev cX6_stay : ByteArray := prog_8_method_7_code
def yX6_stay : MethodName := ⟨RX6, "stay", "(I)V"⟩
abbrev cX6_letAllMove : ByteArray := prog_8_method_8_code
def yX6_letAllMove : MethodName := ⟨RX6, "letAllMove", "()V"⟩
abbrev cX6_toldEnd : ByteArray := prog_8_method_9_code
def yX6_toldEnd : MethodName := ⟨RX6, "toldEnd", "()I"⟩
abbrev cX6_letMove : ByteArray := prog_8_method_10_code
def yX6_letMove : MethodName := ⟨RX6, "letMove", "(III)V"⟩
abbrev cX6_choose : ByteArray := prog_8_method_11_code
def yX6_choose : MethodName := ⟨RX6, "choose", "(I)V"⟩
def RX7 : String := "ShopsOnFloor$Row"
def TX7 : u_T := fun k => match k with
  | _ => ("ShopsOnFloor$Row", "numbers", "[I", true)
def tyX7 : Nat → FieldType := fun k => match k with
  | _ => .array .int
abbrev wsX70 : List Cond := u_ws RX7 TX7 1
theorem nmX7 : ∀ a, a < 1 → ∀ b, b < 1 → a ≠ b → (TX7 a).2.1 ≠ (TX7 b).2.1 := by decide +kernel
theorem tyX7_ok : ∀ k, k < 1 → parseFieldDescriptor (TX7 k).2.2.1 = some (tyX7 k) := by decide +kernel
abbrev cX7_init : ByteArray := prog_9_method_1_code
def yX7_init : MethodName := ⟨RX7, "<init>", "(I)V"⟩
abbrev cX7_get : ByteArray := prog_9_method_2_code
def yX7_get : MethodName := ⟨RX7, "get", "(I)I"⟩
abbrev cX7_set : ByteArray := prog_9_method_3_code
def yX7_set : MethodName := ⟨RX7, "set", "(II)V"⟩
def RX8 : String := "ShopsOnFloor$Seats"
def TX8 : u_T := fun k => match k with
  | 0 => ("ShopsOnFloor$Seats", "slotOf", "LShopsOnFloor$Row;", true)
  | _ => ("ShopsOnFloor$Seats", "shopCount", "I", false)
def tyX8 : Nat → FieldType := fun k => match k with
  | 0 => .object "ShopsOnFloor$Row"
  | _ => .int
abbrev wsX80 : List Cond := u_ws RX8 TX8 2
theorem nmX8 : ∀ a, a < 2 → ∀ b, b < 2 → a ≠ b → (TX8 a).2.1 ≠ (TX8 b).2.1 := by decide +kernel
theorem tyX8_ok : ∀ k, k < 2 → parseFieldDescriptor (TX8 k).2.2.1 = some (tyX8 k) := by decide +kernel
abbrev cX8_init : ByteArray := prog_10_method_1_code
def yX8_init : MethodName := ⟨RX8, "<init>", "()V"⟩
abbrev cX8_shops : ByteArray := prog_10_method_2_code
def yX8_shops : MethodName := ⟨RX8, "shops", "()I"⟩
abbrev cX8_at : ByteArray := prog_10_method_3_code
def yX8_at : MethodName := ⟨RX8, "at", "(I)I"⟩
abbrev cX8_seat : ByteArray := prog_10_method_4_code
def yX8_seat : MethodName := ⟨RX8, "seat", "(II)V"⟩
abbrev cX8_copy : ByteArray := prog_10_method_5_code
def yX8_copy : MethodName := ⟨RX8, "copy", "(LShopsOnFloor$Seats;)V"⟩
abbrev cX8_whoIsAt : ByteArray := prog_10_method_6_code
def yX8_whoIsAt : MethodName := ⟨RX8, "whoIsAt", "(II)I"⟩
abbrev cX8_addShop : ByteArray := prog_10_method_7_code
def yX8_addShop : MethodName := ⟨RX8, "addShop", "(I)V"⟩
abbrev cX8_seatBehind : ByteArray := prog_10_method_8_code
def yX8_seatBehind : MethodName := ⟨RX8, "seatBehind", "(III)Z"⟩
abbrev cX8_told : ByteArray := prog_10_method_9_code
def yX8_told : MethodName := ⟨RX8, "told", "()I"⟩
abbrev cX8_read : ByteArray := prog_10_method_10_code
def yX8_read : MethodName := ⟨RX8, "read", "(III)Z"⟩
abbrev cX8_begin : ByteArray := prog_10_method_11_code
def yX8_begin : MethodName := ⟨RX8, "begin", "(II)V"⟩
abbrev cX8_goOn : ByteArray := prog_10_method_12_code
def yX8_goOn : MethodName := ⟨RX8, "goOn", "(I)Z"⟩
abbrev cX8_comesBefore : ByteArray := prog_10_method_13_code
def yX8_comesBefore : MethodName := ⟨RX8, "comesBefore", "(LShopsOnFloor$Seats;)Z"⟩
def RX9 : String := "ShopsOnFloor$Trade"
def TX9 : u_T := fun k => match k with
  | 0 => ("ShopsOnFloor$Trade", "loads", "LShopsOnFloor$Row;", true)
  | 1 => ("ShopsOnFloor$Trade", "weights", "LShopsOnFloor$Row;", true)
  | 2 => ("ShopsOnFloor$Trade", "wishOnes", "LShopsOnFloor$Row;", true)
  | 3 => ("ShopsOnFloor$Trade", "wishOthers", "LShopsOnFloor$Row;", true)
  | 4 => ("ShopsOnFloor$Trade", "wishNears", "LShopsOnFloor$Row;", true)
  | 5 => ("ShopsOnFloor$Trade", "wishBounds", "LShopsOnFloor$Row;", true)
  | 6 => ("ShopsOnFloor$Trade", "shopCount", "I", false)
  | _ => ("ShopsOnFloor$Trade", "wishCount", "I", false)
def tyX9 : Nat → FieldType := fun k => match k with
  | 0 => .object "ShopsOnFloor$Row"
  | 1 => .object "ShopsOnFloor$Row"
  | 2 => .object "ShopsOnFloor$Row"
  | 3 => .object "ShopsOnFloor$Row"
  | 4 => .object "ShopsOnFloor$Row"
  | 5 => .object "ShopsOnFloor$Row"
  | 6 => .int
  | _ => .int
abbrev wsX90 : List Cond := u_ws RX9 TX9 8
theorem nmX9 : ∀ a, a < 8 → ∀ b, b < 8 → a ≠ b → (TX9 a).2.1 ≠ (TX9 b).2.1 := by decide +kernel
theorem tyX9_ok : ∀ k, k < 8 → parseFieldDescriptor (TX9 k).2.2.1 = some (tyX9 k) := by decide +kernel
abbrev cX9_init : ByteArray := prog_11_method_1_code
def yX9_init : MethodName := ⟨RX9, "<init>", "()V"⟩
abbrev cX9_shops : ByteArray := prog_11_method_2_code
def yX9_shops : MethodName := ⟨RX9, "shops", "()I"⟩
abbrev cX9_wishes : ByteArray := prog_11_method_3_code
def yX9_wishes : MethodName := ⟨RX9, "wishes", "()I"⟩
abbrev cX9_hasShop : ByteArray := prog_11_method_4_code
def yX9_hasShop : MethodName := ⟨RX9, "hasShop", "(I)Z"⟩
abbrev cX9_areTwo : ByteArray := prog_11_method_5_code
def yX9_areTwo : MethodName := ⟨RX9, "areTwo", "(II)Z"⟩
abbrev cX9_addShop : ByteArray := prog_11_method_6_code
def yX9_addShop : MethodName := ⟨RX9, "addShop", "()I"⟩
abbrev cX9_changeLoad : ByteArray := prog_11_method_7_code
def yX9_changeLoad : MethodName := ⟨RX9, "changeLoad", "(IIII)I"⟩
abbrev cX9_bothWays : ByteArray := prog_11_method_8_code
def yX9_bothWays : MethodName := ⟨RX9, "bothWays", "(III)I"⟩
abbrev cX9_loadAt : ByteArray := prog_11_method_9_code
def yX9_loadAt : MethodName := ⟨RX9, "loadAt", "(III)I"⟩
abbrev cX9_weightOf : ByteArray := prog_11_method_10_code
def yX9_weightOf : MethodName := ⟨RX9, "weightOf", "(I)I"⟩
abbrev cX9_changeWeight : ByteArray := prog_11_method_11_code
def yX9_changeWeight : MethodName := ⟨RX9, "changeWeight", "(II)I"⟩
abbrev cX9_movedWeight : ByteArray := prog_11_method_12_code
def yX9_movedWeight : MethodName := ⟨RX9, "movedWeight", "(LShopsOnFloor$Seats;LShopsOnFloor$Seats;)I"⟩
abbrev cX9_addWish : ByteArray := prog_11_method_13_code
def yX9_addWish : MethodName := ⟨RX9, "addWish", "(IIZI)I"⟩
abbrev cX9_dropWish : ByteArray := prog_11_method_14_code
def yX9_dropWish : MethodName := ⟨RX9, "dropWish", "(I)V"⟩
abbrev cX9_oneOf : ByteArray := prog_11_method_15_code
def yX9_oneOf : MethodName := ⟨RX9, "oneOf", "(I)I"⟩
abbrev cX9_otherOf : ByteArray := prog_11_method_16_code
def yX9_otherOf : MethodName := ⟨RX9, "otherOf", "(I)I"⟩
abbrev cX9_isMet : ByteArray := prog_11_method_17_code
def yX9_isMet : MethodName := ⟨RX9, "isMet", "(II)Z"⟩
def RX10 : String := "ShopsOnFloor"
def TX10 : u_T := fun k => match k with
  | 0 => ("ShopsOnFloor", "ground", "LShopsOnFloor$Ground;", true)
  | 1 => ("ShopsOnFloor", "trade", "LShopsOnFloor$Trade;", true)
  | 2 => ("ShopsOnFloor", "judge", "LShopsOnFloor$Judge;", true)
  | 3 => ("ShopsOnFloor", "lowest", "LShopsOnFloor$Lowest;", true)
  | 4 => ("ShopsOnFloor", "chooser", "LShopsOnFloor$Chooser;", true)
  | 5 => ("ShopsOnFloor", "climber", "LShopsOnFloor$Climber;", true)
  | 6 => ("ShopsOnFloor", "mover", "LShopsOnFloor$Mover;", true)
  | 7 => ("ShopsOnFloor", "planner", "LShopsOnFloor$Planner;", true)
  | 8 => ("ShopsOnFloor", "hand", "LShopsOnFloor$Seats;", true)
  | _ => ("ShopsOnFloor", "aimed", "LShopsOnFloor$Seats;", true)
def tyX10 : Nat → FieldType := fun k => match k with
  | 0 => .object "ShopsOnFloor$Ground"
  | 1 => .object "ShopsOnFloor$Trade"
  | 2 => .object "ShopsOnFloor$Judge"
  | 3 => .object "ShopsOnFloor$Lowest"
  | 4 => .object "ShopsOnFloor$Chooser"
  | 5 => .object "ShopsOnFloor$Climber"
  | 6 => .object "ShopsOnFloor$Mover"
  | 7 => .object "ShopsOnFloor$Planner"
  | 8 => .object "ShopsOnFloor$Seats"
  | _ => .object "ShopsOnFloor$Seats"
abbrev wsX100 : List Cond := u_ws RX10 TX10 10
theorem nmX10 : ∀ a, a < 10 → ∀ b, b < 10 → a ≠ b → (TX10 a).2.1 ≠ (TX10 b).2.1 := by decide +kernel
theorem tyX10_ok : ∀ k, k < 10 → parseFieldDescriptor (TX10 k).2.2.1 = some (tyX10 k) := by decide +kernel
abbrev cX10_init : ByteArray := prog_1_method_1_code
def yX10_init : MethodName := ⟨RX10, "<init>", "()V"⟩
abbrev cX10_column : ByteArray := prog_1_method_2_code
def yX10_column : MethodName := ⟨RX10, "column", "(IIZ)I"⟩
abbrev cX10_slot : ByteArray := prog_1_method_3_code
def yX10_slot : MethodName := ⟨RX10, "slot", "(II)I"⟩
abbrev cX10_exit : ByteArray := prog_1_method_4_code
def yX10_exit : MethodName := ⟨RX10, "exit", "(IIZ)I"⟩
abbrev cX10_far : ByteArray := prog_1_method_5_code
def yX10_far : MethodName := ⟨RX10, "far", "(II)I"⟩
abbrev cX10_out : ByteArray := prog_1_method_6_code
def yX10_out : MethodName := ⟨RX10, "out", "(I)I"⟩
abbrev cX10_bound : ByteArray := prog_1_method_7_code
def yX10_bound : MethodName := ⟨RX10, "bound", "(I)I"⟩
abbrev cX10_shop : ByteArray := prog_1_method_8_code
def yX10_shop : MethodName := ⟨RX10, "shop", "()I"⟩
abbrev cX10_load : ByteArray := prog_1_method_9_code
def yX10_load : MethodName := ⟨RX10, "load", "(IIII)I"⟩
abbrev cX10_weight : ByteArray := prog_1_method_10_code
def yX10_weight : MethodName := ⟨RX10, "weight", "(II)I"⟩
abbrev cX10_wish : ByteArray := prog_1_method_11_code
def yX10_wish : MethodName := ⟨RX10, "wish", "(IIZI)I"⟩
abbrev cX10_unwish : ByteArray := prog_1_method_12_code
def yX10_unwish : MethodName := ⟨RX10, "unwish", "(I)I"⟩
abbrev cX10_put : ByteArray := prog_1_method_13_code
def yX10_put : MethodName := ⟨RX10, "put", "(I)I"⟩
abbrev cX10_places : ByteArray := prog_1_method_14_code
def yX10_places : MethodName := ⟨RX10, "places", "()I"⟩
abbrev cX10_cost : ByteArray := prog_1_method_15_code
def yX10_cost : MethodName := ⟨RX10, "cost", "(I)I"⟩
abbrev cX10_best : ByteArray := prog_1_method_16_code
def yX10_best : MethodName := ⟨RX10, "best", "(I)I"⟩
abbrev cX10_many : ByteArray := prog_1_method_17_code
def yX10_many : MethodName := ⟨RX10, "many", "(I)I"⟩
abbrev cX10_take : ByteArray := prog_1_method_18_code
def yX10_take : MethodName := ⟨RX10, "take", "(I)I"⟩
abbrev cX10_floor : ByteArray := prog_1_method_19_code
def yX10_floor : MethodName := ⟨RX10, "floor", "(I)I"⟩
abbrev cX10_settled : ByteArray := prog_1_method_20_code
def yX10_settled : MethodName := ⟨RX10, "settled", "(I)I"⟩
abbrev cX10_climb : ByteArray := prog_1_method_21_code
def yX10_climb : MethodName := ⟨RX10, "climb", "(I)I"⟩
abbrev cX10_move : ByteArray := prog_1_method_22_code
def yX10_move : MethodName := ⟨RX10, "move", "(I)I"⟩
abbrev cX10_step : ByteArray := prog_1_method_23_code
def yX10_step : MethodName := ⟨RX10, "step", "(II)I"⟩
abbrev cX10_plan : ByteArray := prog_1_method_24_code
def yX10_plan : MethodName := ⟨RX10, "plan", "(I)I"⟩
abbrev cX10_planned : ByteArray := prog_1_method_25_code
def yX10_planned : MethodName := ⟨RX10, "planned", "(II)I"⟩
abbrev cX10_count : ByteArray := prog_1_method_26_code
def yX10_count : MethodName := ⟨RX10, "count", "(I)I"⟩
abbrev cX10_cellAt : ByteArray := prog_1_method_27_code
def yX10_cellAt : MethodName := ⟨RX10, "cellAt", "(II)I"⟩
abbrev cX10_isYear : ByteArray := prog_1_method_28_code
def yX10_isYear : MethodName := ⟨RX10, "isYear", "(I)Z"⟩
def RX11 : String := "ShopsOnFloorModel"
def TX11 : u_T := fun k => match k with
  | 0 => ("ShopsOnFloorModel", "cells", "[I", true)
  | 1 => ("ShopsOnFloorModel", "isExit", "[Z", true)
  | 2 => ("ShopsOnFloorModel", "slots", "I", false)
  | 3 => ("ShopsOnFloorModel", "cellOf", "[I", true)
  | 4 => ("ShopsOnFloorModel", "bound", "I", false)
  | 5 => ("ShopsOnFloorModel", "shops", "I", false)
  | 6 => ("ShopsOnFloorModel", "now", "[I", true)
  | 7 => ("ShopsOnFloorModel", "loads", "[I", true)
  | 8 => ("ShopsOnFloorModel", "weights", "[I", true)
  | 9 => ("ShopsOnFloorModel", "wishes", "I", false)
  | 10 => ("ShopsOnFloorModel", "wishA", "[I", true)
  | 11 => ("ShopsOnFloorModel", "wishB", "[I", true)
  | 12 => ("ShopsOnFloorModel", "wishNear", "[Z", true)
  | 13 => ("ShopsOnFloorModel", "wishFar", "[I", true)
  | 14 => ("ShopsOnFloorModel", "steps", "[I", true)
  | 15 => ("ShopsOnFloorModel", "queue", "[I", true)
  | 16 => ("ShopsOnFloorModel", "fars", "[I", true)
  | 17 => ("ShopsOnFloorModel", "outs", "[I", true)
  | 18 => ("ShopsOnFloorModel", "row", "[I", true)
  | 19 => ("ShopsOnFloorModel", "bestMany", "I", false)
  | 20 => ("ShopsOnFloorModel", "bestNumber", "I", false)
  | 21 => ("ShopsOnFloorModel", "sorted", "[I", true)
  | 22 => ("ShopsOnFloorModel", "heaviest", "[I", true)
  | 23 => ("ShopsOnFloorModel", "changeCost", "I", false)
  | 24 => ("ShopsOnFloorModel", "changeNumber", "I", false)
  | 25 => ("ShopsOnFloorModel", "costs", "[I", true)
  | 26 => ("ShopsOnFloorModel", "rightMany", "I", false)
  | 27 => ("ShopsOnFloorModel", "rights", "[I", true)
  | 28 => ("ShopsOnFloorModel", "plans", "[I", true)
  | _ => ("ShopsOnFloorModel", "other", "[I", true)
def tyX11 : Nat → FieldType := fun k => match k with
  | 0 => .array .int
  | 1 => .array .boolean
  | 2 => .int
  | 3 => .array .int
  | 4 => .int
  | 5 => .int
  | 6 => .array .int
  | 7 => .array .int
  | 8 => .array .int
  | 9 => .int
  | 10 => .array .int
  | 11 => .array .int
  | 12 => .array .boolean
  | 13 => .array .int
  | 14 => .array .int
  | 15 => .array .int
  | 16 => .array .int
  | 17 => .array .int
  | 18 => .array .int
  | 19 => .int
  | 20 => .int
  | 21 => .array .int
  | 22 => .array .int
  | 23 => .int
  | 24 => .int
  | 25 => .array .int
  | 26 => .int
  | 27 => .array .int
  | 28 => .array .int
  | _ => .array .int
abbrev wsX110 : List Cond := u_ws RX11 TX11 30
theorem nmX11 : ∀ a, a < 30 → ∀ b, b < 30 → a ≠ b → (TX11 a).2.1 ≠ (TX11 b).2.1 := by decide +kernel
theorem tyX11_ok : ∀ k, k < 30 → parseFieldDescriptor (TX11 k).2.2.1 = some (tyX11 k) := by decide +kernel
abbrev cX11_init : ByteArray := prog_13_method_1_code
def yX11_init : MethodName := ⟨RX11, "<init>", "()V"⟩
abbrev cX11_in : ByteArray := prog_13_method_2_code
def yX11_in : MethodName := ⟨RX11, "in", "(III)Z"⟩
abbrev cX11_isCell : ByteArray := prog_13_method_3_code
def yX11_isCell : MethodName := ⟨RX11, "isCell", "(II)Z"⟩
abbrev cX11_isSlot : ByteArray := prog_13_method_4_code
def yX11_isSlot : MethodName := ⟨RX11, "isSlot", "(I)Z"⟩
abbrev cX11_isShop : ByteArray := prog_13_method_5_code
def yX11_isShop : MethodName := ⟨RX11, "isShop", "(I)Z"⟩
abbrev cX11_isYear : ByteArray := prog_13_method_6_code
def yX11_isYear : MethodName := ⟨RX11, "isYear", "(I)Z"⟩
abbrev cX11_column : ByteArray := prog_13_method_7_code
def yX11_column : MethodName := ⟨RX11, "column", "(IIZ)I"⟩
abbrev cX11_slot : ByteArray := prog_13_method_8_code
def yX11_slot : MethodName := ⟨RX11, "slot", "(II)I"⟩
abbrev cX11_exit : ByteArray := prog_13_method_9_code
def yX11_exit : MethodName := ⟨RX11, "exit", "(IIZ)I"⟩
abbrev cX11_beside : ByteArray := prog_13_method_10_code
def yX11_beside : MethodName := ⟨RX11, "beside", "(II)I"⟩
abbrev cX11_walk : ByteArray := prog_13_method_11_code
def yX11_walk : MethodName := ⟨RX11, "walk", "(I)V"⟩
abbrev cX11_layFloor : ByteArray := prog_13_method_12_code
def yX11_layFloor : MethodName := ⟨RX11, "layFloor", "()V"⟩
abbrev cX11_far : ByteArray := prog_13_method_13_code
def yX11_far : MethodName := ⟨RX11, "far", "(II)I"⟩
abbrev cX11_out : ByteArray := prog_13_method_14_code
def yX11_out : MethodName := ⟨RX11, "out", "(I)I"⟩
abbrev cX11_bound : ByteArray := prog_13_method_15_code
def yX11_bound : MethodName := ⟨RX11, "bound", "(I)I"⟩
abbrev cX11_shop : ByteArray := prog_13_method_16_code
def yX11_shop : MethodName := ⟨RX11, "shop", "()I"⟩
abbrev cX11_load : ByteArray := prog_13_method_17_code
def yX11_load : MethodName := ⟨RX11, "load", "(IIII)I"⟩
abbrev cX11_weight : ByteArray := prog_13_method_18_code
def yX11_weight : MethodName := ⟨RX11, "weight", "(II)I"⟩
abbrev cX11_wish : ByteArray := prog_13_method_19_code
def yX11_wish : MethodName := ⟨RX11, "wish", "(IIZI)I"⟩
abbrev cX11_unwish : ByteArray := prog_13_method_20_code
def yX11_unwish : MethodName := ⟨RX11, "unwish", "(I)I"⟩
abbrev cX11_allNumbers : ByteArray := prog_13_method_21_code
def yX11_allNumbers : MethodName := ⟨RX11, "allNumbers", "()I"⟩
abbrev cX11_layRow : ByteArray := prog_13_method_22_code
def yX11_layRow : MethodName := ⟨RX11, "layRow", "(I)Z"⟩
abbrev cX11_numberOf : ByteArray := prog_13_method_23_code
def yX11_numberOf : MethodName := ⟨RX11, "numberOf", "()I"⟩
abbrev cX11_takeNow : ByteArray := prog_13_method_24_code
def yX11_takeNow : MethodName := ⟨RX11, "takeNow", "()V"⟩
abbrev cX11_becomeNow : ByteArray := prog_13_method_25_code
def yX11_becomeNow : MethodName := ⟨RX11, "becomeNow", "()V"⟩
abbrev cX11_layTold : ByteArray := prog_13_method_26_code
def yX11_layTold : MethodName := ⟨RX11, "layTold", "(I)Z"⟩
abbrev cX11_toldOf : ByteArray := prog_13_method_27_code
def yX11_toldOf : MethodName := ⟨RX11, "toldOf", "()I"⟩
abbrev cX11_put : ByteArray := prog_13_method_28_code
def yX11_put : MethodName := ⟨RX11, "put", "(I)I"⟩
abbrev cX11_places : ByteArray := prog_13_method_29_code
def yX11_places : MethodName := ⟨RX11, "places", "()I"⟩
abbrev cX11_farOf : ByteArray := prog_13_method_30_code
def yX11_farOf : MethodName := ⟨RX11, "farOf", "(II)I"⟩
abbrev cX11_meets : ByteArray := prog_13_method_31_code
def yX11_meets : MethodName := ⟨RX11, "meets", "(I)Z"⟩
abbrev cX11_costOf : ByteArray := prog_13_method_32_code
def yX11_costOf : MethodName := ⟨RX11, "costOf", "(I)I"⟩
abbrev cX11_cost : ByteArray := prog_13_method_33_code
def yX11_cost : MethodName := ⟨RX11, "cost", "(I)I"⟩
abbrev cX11_bestOf : ByteArray := prog_13_method_34_code
def yX11_bestOf : MethodName := ⟨RX11, "bestOf", "(I)I"⟩
abbrev cX11_best : ByteArray := prog_13_method_35_code
def yX11_best : MethodName := ⟨RX11, "best", "(I)I"⟩
abbrev cX11_many : ByteArray := prog_13_method_36_code
def yX11_many : MethodName := ⟨RX11, "many", "(I)I"⟩
abbrev cX11_take : ByteArray := prog_13_method_37_code
def yX11_take : MethodName := ⟨RX11, "take", "(I)I"⟩
abbrev cX11_sortIn : ByteArray := prog_13_method_38_code
def yX11_sortIn : MethodName := ⟨RX11, "sortIn", "(II)V"⟩
abbrev cX11_floor : ByteArray := prog_13_method_39_code
def yX11_floor : MethodName := ⟨RX11, "floor", "(I)I"⟩
abbrev cX11_look : ByteArray := prog_13_method_40_code
def yX11_look : MethodName := ⟨RX11, "look", "(I)V"⟩
abbrev cX11_findChange : ByteArray := prog_13_method_41_code
def yX11_findChange : MethodName := ⟨RX11, "findChange", "(I)V"⟩
abbrev cX11_settled : ByteArray := prog_13_method_42_code
def yX11_settled : MethodName := ⟨RX11, "settled", "(I)I"⟩
abbrev cX11_climb : ByteArray := prog_13_method_43_code
def yX11_climb : MethodName := ⟨RX11, "climb", "(I)I"⟩
abbrev cX11_stepTo : ByteArray := prog_13_method_44_code
def yX11_stepTo : MethodName := ⟨RX11, "stepTo", "(III)I"⟩
abbrev cX11_withStep : ByteArray := prog_13_method_45_code
def yX11_withStep : MethodName := ⟨RX11, "withStep", "(III)I"⟩
abbrev cX11_leastStep : ByteArray := prog_13_method_46_code
def yX11_leastStep : MethodName := ⟨RX11, "leastStep", "(I)I"⟩
abbrev cX11_layMoves : ByteArray := prog_13_method_47_code
def yX11_layMoves : MethodName := ⟨RX11, "layMoves", "()V"⟩
abbrev cX11_move : ByteArray := prog_13_method_48_code
def yX11_move : MethodName := ⟨RX11, "move", "(I)I"⟩
abbrev cX11_step : ByteArray := prog_13_method_49_code
def yX11_step : MethodName := ⟨RX11, "step", "(II)I"⟩
abbrev cX11_changed : ByteArray := prog_13_method_50_code
def yX11_changed : MethodName := ⟨RX11, "changed", "(II)I"⟩
abbrev cX11_layPlans : ByteArray := prog_13_method_51_code
def yX11_layPlans : MethodName := ⟨RX11, "layPlans", "(I)V"⟩
abbrev cX11_firstOf : ByteArray := prog_13_method_52_code
def yX11_firstOf : MethodName := ⟨RX11, "firstOf", "(II)I"⟩
abbrev cX11_isSpan : ByteArray := prog_13_method_53_code
def yX11_isSpan : MethodName := ⟨RX11, "isSpan", "(I)Z"⟩
abbrev cX11_plan : ByteArray := prog_13_method_54_code
def yX11_plan : MethodName := ⟨RX11, "plan", "(I)I"⟩
abbrev cX11_planned : ByteArray := prog_13_method_55_code
def yX11_planned : MethodName := ⟨RX11, "planned", "(II)I"⟩
abbrev cX11_count : ByteArray := prog_13_method_56_code
def yX11_count : MethodName := ⟨RX11, "count", "(I)I"⟩
abbrev vwCl : List vw_C := [(RX0, TX0, 7), (RX1, TX1, 6), (RX2, TX2, 9), (RX3, TX3, 2), (RX4, TX4, 4), (RX5, TX5, 3), (RX6, TX6, 11), (RX7, TX7, 1), (RX8, TX8, 2), (RX9, TX9, 8), (RX10, TX10, 10), (RX11, TX11, 30)]
