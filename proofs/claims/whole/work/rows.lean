section
-- ===== PART A: goes FIRST, ahead of the names: the tables' words, and 'selects' of the private methods out of them =====
/-- a private method of a class that the tables say can be made, by its rows of tables_1 -/
def lw_okq (q : MethodName × Nat) : Prop := (q.1.cls ≠ "java/lang/invoke/MethodHandle" ∧ q.1.cls ≠ "java/lang/invoke/VarHandle") ∧ Cond.instantiable q.1.cls q.2 ∈ tables_1 ∧ Cond.privateMethod q.1 ∈ tables_1 ∧ Cond.instanceMethod q.1 ∈ tables_1
theorem lw_p0 : lw_okq (⟨"ShopsOnFloor$Ground", "measure", "()V"⟩, 9) := ⟨⟨by decide +kernel, by decide +kernel⟩, List.mem_of_getElem? (i := 23) (by decide +kernel), List.mem_of_getElem? (i := 323) (by decide +kernel), List.mem_of_getElem? (i := 324) (by decide +kernel)⟩
theorem lw_p1 : lw_okq (⟨"ShopsOnFloor$Ground", "flood", "(I)V"⟩, 9) := ⟨⟨by decide +kernel, by decide +kernel⟩, List.mem_of_getElem? (i := 23) (by decide +kernel), List.mem_of_getElem? (i := 327) (by decide +kernel), List.mem_of_getElem? (i := 328) (by decide +kernel)⟩
theorem lw_p2 : lw_okq (⟨"ShopsOnFloor$Ground", "reach", "(II)V"⟩, 9) := ⟨⟨by decide +kernel, by decide +kernel⟩, List.mem_of_getElem? (i := 23) (by decide +kernel), List.mem_of_getElem? (i := 332) (by decide +kernel), List.mem_of_getElem? (i := 333) (by decide +kernel)⟩
theorem lw_p3 : lw_okq (⟨"ShopsOnFloor$Ground", "nearestExit", "()I"⟩, 9) := ⟨⟨by decide +kernel, by decide +kernel⟩, List.mem_of_getElem? (i := 23) (by decide +kernel), List.mem_of_getElem? (i := 336) (by decide +kernel), List.mem_of_getElem? (i := 337) (by decide +kernel)⟩
theorem lw_p4 : lw_okq (⟨"ShopsOnFloor$Seats", "seatBehind", "(III)Z"⟩, 2) := ⟨⟨by decide +kernel, by decide +kernel⟩, List.mem_of_getElem? (i := 141) (by decide +kernel), List.mem_of_getElem? (i := 401) (by decide +kernel), List.mem_of_getElem? (i := 402) (by decide +kernel)⟩
theorem lw_p5 : lw_okq (⟨"ShopsOnFloor$Judge", "areExitsNear", "(LShopsOnFloor$Seats;)Z"⟩, 2) := ⟨⟨by decide +kernel, by decide +kernel⟩, List.mem_of_getElem? (i := 101) (by decide +kernel), List.mem_of_getElem? (i := 496) (by decide +kernel), List.mem_of_getElem? (i := 497) (by decide +kernel)⟩
theorem lw_p6 : lw_okq (⟨"ShopsOnFloor$Judge", "areWishesMet", "(LShopsOnFloor$Seats;)Z"⟩, 2) := ⟨⟨by decide +kernel, by decide +kernel⟩, List.mem_of_getElem? (i := 101) (by decide +kernel), List.mem_of_getElem? (i := 512) (by decide +kernel), List.mem_of_getElem? (i := 513) (by decide +kernel)⟩
theorem lw_p7 : lw_okq (⟨"ShopsOnFloor$Chooser", "compare", "(I)V"⟩, 7) := ⟨⟨by decide +kernel, by decide +kernel⟩, List.mem_of_getElem? (i := 135) (by decide +kernel), List.mem_of_getElem? (i := 549) (by decide +kernel), List.mem_of_getElem? (i := 550) (by decide +kernel)⟩
theorem lw_p8 : lw_okq (⟨"ShopsOnFloor$Lowest", "sortLoads", "(I)I"⟩, 4) := ⟨⟨by decide +kernel, by decide +kernel⟩, List.mem_of_getElem? (i := 114) (by decide +kernel), List.mem_of_getElem? (i := 586) (by decide +kernel), List.mem_of_getElem? (i := 587) (by decide +kernel)⟩
theorem lw_p9 : lw_okq (⟨"ShopsOnFloor$Lowest", "sortWays", "()I"⟩, 4) := ⟨⟨by decide +kernel, by decide +kernel⟩, List.mem_of_getElem? (i := 114) (by decide +kernel), List.mem_of_getElem? (i := 597) (by decide +kernel), List.mem_of_getElem? (i := 598) (by decide +kernel)⟩
theorem lw_p10 : lw_okq (⟨"ShopsOnFloor$Climber", "tryChange", "(III)V"⟩, 6) := ⟨⟨by decide +kernel, by decide +kernel⟩, List.mem_of_getElem? (i := 178) (by decide +kernel), List.mem_of_getElem? (i := 615) (by decide +kernel), List.mem_of_getElem? (i := 616) (by decide +kernel)⟩
theorem lw_p11 : lw_okq (⟨"ShopsOnFloor$Climber", "compare", "(I)V"⟩, 6) := ⟨⟨by decide +kernel, by decide +kernel⟩, List.mem_of_getElem? (i := 178) (by decide +kernel), List.mem_of_getElem? (i := 625) (by decide +kernel), List.mem_of_getElem? (i := 626) (by decide +kernel)⟩
theorem lw_p12 : lw_okq (⟨"ShopsOnFloor$Mover", "asideWeight", "(LShopsOnFloor$Seats;LShopsOnFloor$Seats;I)I"⟩, 3) := ⟨⟨by decide +kernel, by decide +kernel⟩, List.mem_of_getElem? (i := 205) (by decide +kernel), List.mem_of_getElem? (i := 656) (by decide +kernel), List.mem_of_getElem? (i := 657) (by decide +kernel)⟩
theorem lw_p13 : lw_okq (⟨"ShopsOnFloor$Mover", "firstStep", "(LShopsOnFloor$Seats;)I"⟩, 3) := ⟨⟨by decide +kernel, by decide +kernel⟩, List.mem_of_getElem? (i := 205) (by decide +kernel), List.mem_of_getElem? (i := 678) (by decide +kernel), List.mem_of_getElem? (i := 679) (by decide +kernel)⟩
theorem lw_p14 : lw_okq (⟨"ShopsOnFloor$Planner", "reckon", "(IZ)V"⟩, 11) := ⟨⟨by decide +kernel, by decide +kernel⟩, List.mem_of_getElem? (i := 223) (by decide +kernel), List.mem_of_getElem? (i := 692) (by decide +kernel), List.mem_of_getElem? (i := 693) (by decide +kernel)⟩
theorem lw_p15 : lw_okq (⟨"ShopsOnFloor$Planner", "stay", "(I)V"⟩, 11) := ⟨⟨by decide +kernel, by decide +kernel⟩, List.mem_of_getElem? (i := 223) (by decide +kernel), List.mem_of_getElem? (i := 706) (by decide +kernel), List.mem_of_getElem? (i := 707) (by decide +kernel)⟩
def lw_privs_1 : List (MethodName × Nat) := [(⟨"ShopsOnFloor$Ground", "measure", "()V"⟩, 9), (⟨"ShopsOnFloor$Ground", "flood", "(I)V"⟩, 9), (⟨"ShopsOnFloor$Ground", "reach", "(II)V"⟩, 9), (⟨"ShopsOnFloor$Ground", "nearestExit", "()I"⟩, 9), (⟨"ShopsOnFloor$Seats", "seatBehind", "(III)Z"⟩, 2), (⟨"ShopsOnFloor$Judge", "areExitsNear", "(LShopsOnFloor$Seats;)Z"⟩, 2), (⟨"ShopsOnFloor$Judge", "areWishesMet", "(LShopsOnFloor$Seats;)Z"⟩, 2), (⟨"ShopsOnFloor$Chooser", "compare", "(I)V"⟩, 7), (⟨"ShopsOnFloor$Lowest", "sortLoads", "(I)I"⟩, 4), (⟨"ShopsOnFloor$Lowest", "sortWays", "()I"⟩, 4), (⟨"ShopsOnFloor$Climber", "tryChange", "(III)V"⟩, 6), (⟨"ShopsOnFloor$Climber", "compare", "(I)V"⟩, 6), (⟨"ShopsOnFloor$Mover", "asideWeight", "(LShopsOnFloor$Seats;LShopsOnFloor$Seats;I)I"⟩, 3), (⟨"ShopsOnFloor$Mover", "firstStep", "(LShopsOnFloor$Seats;)I"⟩, 3), (⟨"ShopsOnFloor$Planner", "reckon", "(IZ)V"⟩, 11), (⟨"ShopsOnFloor$Planner", "stay", "(I)V"⟩, 11)]
theorem lw_r1 : ∀ q ∈ lw_privs_1, lw_okq q := List.forall_mem_cons.mpr ⟨lw_p0, List.forall_mem_cons.mpr ⟨lw_p1, List.forall_mem_cons.mpr ⟨lw_p2, List.forall_mem_cons.mpr ⟨lw_p3, List.forall_mem_cons.mpr ⟨lw_p4, List.forall_mem_cons.mpr ⟨lw_p5, List.forall_mem_cons.mpr ⟨lw_p6, List.forall_mem_cons.mpr ⟨lw_p7, List.forall_mem_cons.mpr ⟨lw_p8, List.forall_mem_cons.mpr ⟨lw_p9, List.forall_mem_cons.mpr ⟨lw_p10, List.forall_mem_cons.mpr ⟨lw_p11, List.forall_mem_cons.mpr ⟨lw_p12, List.forall_mem_cons.mpr ⟨lw_p13, List.forall_mem_cons.mpr ⟨lw_p14, List.forall_mem_cons.mpr ⟨lw_p15, fun _ h => absurd h List.not_mem_nil⟩⟩⟩⟩⟩⟩⟩⟩⟩⟩⟩⟩⟩⟩⟩⟩
theorem lw_p16 : lw_okq (⟨"ShopsOnFloor$Planner", "toldEnd", "()I"⟩, 11) := ⟨⟨by decide +kernel, by decide +kernel⟩, List.mem_of_getElem? (i := 223) (by decide +kernel), List.mem_of_getElem? (i := 710) (by decide +kernel), List.mem_of_getElem? (i := 711) (by decide +kernel)⟩
theorem lw_p17 : lw_okq (⟨"ShopsOnFloor$Planner", "letAllMove", "()V"⟩, 11) := ⟨⟨by decide +kernel, by decide +kernel⟩, List.mem_of_getElem? (i := 223) (by decide +kernel), List.mem_of_getElem? (i := 714) (by decide +kernel), List.mem_of_getElem? (i := 715) (by decide +kernel)⟩
theorem lw_p18 : lw_okq (⟨"ShopsOnFloor$Planner", "letMove", "(III)V"⟩, 11) := ⟨⟨by decide +kernel, by decide +kernel⟩, List.mem_of_getElem? (i := 223) (by decide +kernel), List.mem_of_getElem? (i := 719) (by decide +kernel), List.mem_of_getElem? (i := 720) (by decide +kernel)⟩
theorem lw_p19 : lw_okq (⟨"ShopsOnFloor$Planner", "choose", "(I)V"⟩, 11) := ⟨⟨by decide +kernel, by decide +kernel⟩, List.mem_of_getElem? (i := 223) (by decide +kernel), List.mem_of_getElem? (i := 723) (by decide +kernel), List.mem_of_getElem? (i := 724) (by decide +kernel)⟩
theorem lw_p20 : lw_okq (⟨"ShopsOnFloorModel", "isSlot", "(I)Z"⟩, 30) := ⟨⟨by decide +kernel, by decide +kernel⟩, List.mem_of_getElem? (i := 749) (by decide +kernel), List.mem_of_getElem? (i := 869) (by decide +kernel), List.mem_of_getElem? (i := 870) (by decide +kernel)⟩
theorem lw_p21 : lw_okq (⟨"ShopsOnFloorModel", "layFloor", "()V"⟩, 30) := ⟨⟨by decide +kernel, by decide +kernel⟩, List.mem_of_getElem? (i := 749) (by decide +kernel), List.mem_of_getElem? (i := 873) (by decide +kernel), List.mem_of_getElem? (i := 874) (by decide +kernel)⟩
theorem lw_p22 : lw_okq (⟨"ShopsOnFloorModel", "walk", "(I)V"⟩, 30) := ⟨⟨by decide +kernel, by decide +kernel⟩, List.mem_of_getElem? (i := 749) (by decide +kernel), List.mem_of_getElem? (i := 877) (by decide +kernel), List.mem_of_getElem? (i := 878) (by decide +kernel)⟩
theorem lw_p23 : lw_okq (⟨"ShopsOnFloorModel", "isShop", "(I)Z"⟩, 30) := ⟨⟨by decide +kernel, by decide +kernel⟩, List.mem_of_getElem? (i := 749) (by decide +kernel), List.mem_of_getElem? (i := 903) (by decide +kernel), List.mem_of_getElem? (i := 904) (by decide +kernel)⟩
theorem lw_p24 : lw_okq (⟨"ShopsOnFloorModel", "layTold", "(I)Z"⟩, 30) := ⟨⟨by decide +kernel, by decide +kernel⟩, List.mem_of_getElem? (i := 749) (by decide +kernel), List.mem_of_getElem? (i := 923) (by decide +kernel), List.mem_of_getElem? (i := 924) (by decide +kernel)⟩
theorem lw_p25 : lw_okq (⟨"ShopsOnFloorModel", "allNumbers", "()I"⟩, 30) := ⟨⟨by decide +kernel, by decide +kernel⟩, List.mem_of_getElem? (i := 749) (by decide +kernel), List.mem_of_getElem? (i := 927) (by decide +kernel), List.mem_of_getElem? (i := 928) (by decide +kernel)⟩
theorem lw_p26 : lw_okq (⟨"ShopsOnFloorModel", "becomeNow", "()V"⟩, 30) := ⟨⟨by decide +kernel, by decide +kernel⟩, List.mem_of_getElem? (i := 749) (by decide +kernel), List.mem_of_getElem? (i := 931) (by decide +kernel), List.mem_of_getElem? (i := 932) (by decide +kernel)⟩
theorem lw_p27 : lw_okq (⟨"ShopsOnFloorModel", "takeNow", "()V"⟩, 30) := ⟨⟨by decide +kernel, by decide +kernel⟩, List.mem_of_getElem? (i := 749) (by decide +kernel), List.mem_of_getElem? (i := 939) (by decide +kernel), List.mem_of_getElem? (i := 940) (by decide +kernel)⟩
theorem lw_p28 : lw_okq (⟨"ShopsOnFloorModel", "toldOf", "()I"⟩, 30) := ⟨⟨by decide +kernel, by decide +kernel⟩, List.mem_of_getElem? (i := 749) (by decide +kernel), List.mem_of_getElem? (i := 943) (by decide +kernel), List.mem_of_getElem? (i := 944) (by decide +kernel)⟩
theorem lw_p29 : lw_okq (⟨"ShopsOnFloorModel", "costOf", "(I)I"⟩, 30) := ⟨⟨by decide +kernel, by decide +kernel⟩, List.mem_of_getElem? (i := 749) (by decide +kernel), List.mem_of_getElem? (i := 951) (by decide +kernel), List.mem_of_getElem? (i := 952) (by decide +kernel)⟩
theorem lw_p30 : lw_okq (⟨"ShopsOnFloorModel", "meets", "(I)Z"⟩, 30) := ⟨⟨by decide +kernel, by decide +kernel⟩, List.mem_of_getElem? (i := 749) (by decide +kernel), List.mem_of_getElem? (i := 955) (by decide +kernel), List.mem_of_getElem? (i := 956) (by decide +kernel)⟩
theorem lw_p31 : lw_okq (⟨"ShopsOnFloorModel", "farOf", "(II)I"⟩, 30) := ⟨⟨by decide +kernel, by decide +kernel⟩, List.mem_of_getElem? (i := 749) (by decide +kernel), List.mem_of_getElem? (i := 959) (by decide +kernel), List.mem_of_getElem? (i := 960) (by decide +kernel)⟩
def lw_privs_2 : List (MethodName × Nat) := [(⟨"ShopsOnFloor$Planner", "toldEnd", "()I"⟩, 11), (⟨"ShopsOnFloor$Planner", "letAllMove", "()V"⟩, 11), (⟨"ShopsOnFloor$Planner", "letMove", "(III)V"⟩, 11), (⟨"ShopsOnFloor$Planner", "choose", "(I)V"⟩, 11), (⟨"ShopsOnFloorModel", "isSlot", "(I)Z"⟩, 30), (⟨"ShopsOnFloorModel", "layFloor", "()V"⟩, 30), (⟨"ShopsOnFloorModel", "walk", "(I)V"⟩, 30), (⟨"ShopsOnFloorModel", "isShop", "(I)Z"⟩, 30), (⟨"ShopsOnFloorModel", "layTold", "(I)Z"⟩, 30), (⟨"ShopsOnFloorModel", "allNumbers", "()I"⟩, 30), (⟨"ShopsOnFloorModel", "becomeNow", "()V"⟩, 30), (⟨"ShopsOnFloorModel", "takeNow", "()V"⟩, 30), (⟨"ShopsOnFloorModel", "toldOf", "()I"⟩, 30), (⟨"ShopsOnFloorModel", "costOf", "(I)I"⟩, 30), (⟨"ShopsOnFloorModel", "meets", "(I)Z"⟩, 30), (⟨"ShopsOnFloorModel", "farOf", "(II)I"⟩, 30)]
theorem lw_r2 : ∀ q ∈ lw_privs_2, lw_okq q := List.forall_mem_cons.mpr ⟨lw_p16, List.forall_mem_cons.mpr ⟨lw_p17, List.forall_mem_cons.mpr ⟨lw_p18, List.forall_mem_cons.mpr ⟨lw_p19, List.forall_mem_cons.mpr ⟨lw_p20, List.forall_mem_cons.mpr ⟨lw_p21, List.forall_mem_cons.mpr ⟨lw_p22, List.forall_mem_cons.mpr ⟨lw_p23, List.forall_mem_cons.mpr ⟨lw_p24, List.forall_mem_cons.mpr ⟨lw_p25, List.forall_mem_cons.mpr ⟨lw_p26, List.forall_mem_cons.mpr ⟨lw_p27, List.forall_mem_cons.mpr ⟨lw_p28, List.forall_mem_cons.mpr ⟨lw_p29, List.forall_mem_cons.mpr ⟨lw_p30, List.forall_mem_cons.mpr ⟨lw_p31, fun _ h => absurd h List.not_mem_nil⟩⟩⟩⟩⟩⟩⟩⟩⟩⟩⟩⟩⟩⟩⟩⟩
theorem lw_p32 : lw_okq (⟨"ShopsOnFloorModel", "bestOf", "(I)I"⟩, 30) := ⟨⟨by decide +kernel, by decide +kernel⟩, List.mem_of_getElem? (i := 749) (by decide +kernel), List.mem_of_getElem? (i := 968) (by decide +kernel), List.mem_of_getElem? (i := 969) (by decide +kernel)⟩
theorem lw_p33 : lw_okq (⟨"ShopsOnFloorModel", "layRow", "(I)Z"⟩, 30) := ⟨⟨by decide +kernel, by decide +kernel⟩, List.mem_of_getElem? (i := 749) (by decide +kernel), List.mem_of_getElem? (i := 972) (by decide +kernel), List.mem_of_getElem? (i := 973) (by decide +kernel)⟩
theorem lw_p34 : lw_okq (⟨"ShopsOnFloorModel", "sortIn", "(II)V"⟩, 30) := ⟨⟨by decide +kernel, by decide +kernel⟩, List.mem_of_getElem? (i := 749) (by decide +kernel), List.mem_of_getElem? (i := 988) (by decide +kernel), List.mem_of_getElem? (i := 989) (by decide +kernel)⟩
theorem lw_p35 : lw_okq (⟨"ShopsOnFloorModel", "findChange", "(I)V"⟩, 30) := ⟨⟨by decide +kernel, by decide +kernel⟩, List.mem_of_getElem? (i := 749) (by decide +kernel), List.mem_of_getElem? (i := 996) (by decide +kernel), List.mem_of_getElem? (i := 997) (by decide +kernel)⟩
theorem lw_p36 : lw_okq (⟨"ShopsOnFloorModel", "look", "(I)V"⟩, 30) := ⟨⟨by decide +kernel, by decide +kernel⟩, List.mem_of_getElem? (i := 749) (by decide +kernel), List.mem_of_getElem? (i := 1000) (by decide +kernel), List.mem_of_getElem? (i := 1001) (by decide +kernel)⟩
theorem lw_p37 : lw_okq (⟨"ShopsOnFloorModel", "numberOf", "()I"⟩, 30) := ⟨⟨by decide +kernel, by decide +kernel⟩, List.mem_of_getElem? (i := 749) (by decide +kernel), List.mem_of_getElem? (i := 1004) (by decide +kernel), List.mem_of_getElem? (i := 1005) (by decide +kernel)⟩
theorem lw_p38 : lw_okq (⟨"ShopsOnFloorModel", "layMoves", "()V"⟩, 30) := ⟨⟨by decide +kernel, by decide +kernel⟩, List.mem_of_getElem? (i := 749) (by decide +kernel), List.mem_of_getElem? (i := 1016) (by decide +kernel), List.mem_of_getElem? (i := 1017) (by decide +kernel)⟩
theorem lw_p39 : lw_okq (⟨"ShopsOnFloorModel", "leastStep", "(I)I"⟩, 30) := ⟨⟨by decide +kernel, by decide +kernel⟩, List.mem_of_getElem? (i := 749) (by decide +kernel), List.mem_of_getElem? (i := 1020) (by decide +kernel), List.mem_of_getElem? (i := 1021) (by decide +kernel)⟩
theorem lw_p40 : lw_okq (⟨"ShopsOnFloorModel", "withStep", "(III)I"⟩, 30) := ⟨⟨by decide +kernel, by decide +kernel⟩, List.mem_of_getElem? (i := 749) (by decide +kernel), List.mem_of_getElem? (i := 1024) (by decide +kernel), List.mem_of_getElem? (i := 1025) (by decide +kernel)⟩
theorem lw_p41 : lw_okq (⟨"ShopsOnFloorModel", "stepTo", "(III)I"⟩, 30) := ⟨⟨by decide +kernel, by decide +kernel⟩, List.mem_of_getElem? (i := 749) (by decide +kernel), List.mem_of_getElem? (i := 1028) (by decide +kernel), List.mem_of_getElem? (i := 1029) (by decide +kernel)⟩
theorem lw_p42 : lw_okq (⟨"ShopsOnFloorModel", "layPlans", "(I)V"⟩, 30) := ⟨⟨by decide +kernel, by decide +kernel⟩, List.mem_of_getElem? (i := 749) (by decide +kernel), List.mem_of_getElem? (i := 1043) (by decide +kernel), List.mem_of_getElem? (i := 1044) (by decide +kernel)⟩
theorem lw_p43 : lw_okq (⟨"ShopsOnFloorModel", "changed", "(II)I"⟩, 30) := ⟨⟨by decide +kernel, by decide +kernel⟩, List.mem_of_getElem? (i := 749) (by decide +kernel), List.mem_of_getElem? (i := 1047) (by decide +kernel), List.mem_of_getElem? (i := 1048) (by decide +kernel)⟩
theorem lw_p44 : lw_okq (⟨"ShopsOnFloorModel", "firstOf", "(II)I"⟩, 30) := ⟨⟨by decide +kernel, by decide +kernel⟩, List.mem_of_getElem? (i := 749) (by decide +kernel), List.mem_of_getElem? (i := 1051) (by decide +kernel), List.mem_of_getElem? (i := 1052) (by decide +kernel)⟩
def lw_privs_3 : List (MethodName × Nat) := [(⟨"ShopsOnFloorModel", "bestOf", "(I)I"⟩, 30), (⟨"ShopsOnFloorModel", "layRow", "(I)Z"⟩, 30), (⟨"ShopsOnFloorModel", "sortIn", "(II)V"⟩, 30), (⟨"ShopsOnFloorModel", "findChange", "(I)V"⟩, 30), (⟨"ShopsOnFloorModel", "look", "(I)V"⟩, 30), (⟨"ShopsOnFloorModel", "numberOf", "()I"⟩, 30), (⟨"ShopsOnFloorModel", "layMoves", "()V"⟩, 30), (⟨"ShopsOnFloorModel", "leastStep", "(I)I"⟩, 30), (⟨"ShopsOnFloorModel", "withStep", "(III)I"⟩, 30), (⟨"ShopsOnFloorModel", "stepTo", "(III)I"⟩, 30), (⟨"ShopsOnFloorModel", "layPlans", "(I)V"⟩, 30), (⟨"ShopsOnFloorModel", "changed", "(II)I"⟩, 30), (⟨"ShopsOnFloorModel", "firstOf", "(II)I"⟩, 30)]
theorem lw_r3 : ∀ q ∈ lw_privs_3, lw_okq q := List.forall_mem_cons.mpr ⟨lw_p32, List.forall_mem_cons.mpr ⟨lw_p33, List.forall_mem_cons.mpr ⟨lw_p34, List.forall_mem_cons.mpr ⟨lw_p35, List.forall_mem_cons.mpr ⟨lw_p36, List.forall_mem_cons.mpr ⟨lw_p37, List.forall_mem_cons.mpr ⟨lw_p38, List.forall_mem_cons.mpr ⟨lw_p39, List.forall_mem_cons.mpr ⟨lw_p40, List.forall_mem_cons.mpr ⟨lw_p41, List.forall_mem_cons.mpr ⟨lw_p42, List.forall_mem_cons.mpr ⟨lw_p43, List.forall_mem_cons.mpr ⟨lw_p44, fun _ h => absurd h List.not_mem_nil⟩⟩⟩⟩⟩⟩⟩⟩⟩⟩⟩⟩⟩
def lw_privs : List (MethodName × Nat) := lw_privs_1 ++ (lw_privs_2 ++ (lw_privs_3))
def lw_tbl : List Cond := k2_sels lw_privs ++ tables_1
theorem lw_privs_ok : ∀ q ∈ lw_privs, lw_okq q := by
  show ∀ q ∈ lw_privs_1 ++ (lw_privs_2 ++ (lw_privs_3)), lw_okq q
  exact List.forall_mem_append.mpr ⟨lw_r1, List.forall_mem_append.mpr ⟨lw_r2, lw_r3⟩⟩
def RX0 : String := "ShopsOnFloor$Chooser"
def TX0 : u_T := fun k => match k with
  | 0 => ("ShopsOnFloor$Chooser", "ground", "LShopsOnFloor$Ground;", true)
  | 1 => ("ShopsOnFloor$Chooser", "trade", "LShopsOnFloor$Trade;", true)
  | 2 => ("ShopsOnFloor$Chooser", "judge", "LShopsOnFloor$Judge;", true)
  | 3 => ("ShopsOnFloor$Chooser", "trial", "LShopsOnFloor$Seats;", true)
  | 4 => ("ShopsOnFloor$Chooser", "firstBest", "LShopsOnFloor$Seats;", true)
  | 5 => ("ShopsOnFloor$Chooser", "leastCost", "I", false)
  | _ => ("ShopsOnFloor$Chooser", "bestCount", "I", false)
def tyX0 : Nat → FieldType := fun k => match k with
  | 0 => .object "ShopsOnFloor$Ground"
  | 1 => .object "ShopsOnFloor$Trade"
  | 2 => .object "ShopsOnFloor$Judge"
  | 3 => .object "ShopsOnFloor$Seats"
  | 4 => .object "ShopsOnFloor$Seats"
  | 5 => .int
  | _ => .int
abbrev wsX00 : List Cond := u_ws RX0 TX0 7
theorem nmX0 : ∀ a, a < 7 → ∀ b, b < 7 → a ≠ b → (TX0 a).2.1 ≠ (TX0 b).2.1 := by decide +kernel
theorem tyX0_ok : ∀ k, k < 7 → parseFieldDescriptor (TX0 k).2.2.1 = some (tyX0 k) := by decide +kernel
abbrev cX0_init : ByteArray := prog_2_method_1_code
def yX0_init : MethodName := ⟨RX0, "<init>", "(LShopsOnFloor$Ground;LShopsOnFloor$Trade;LShopsOnFloor$Judge;)V"⟩
abbrev cX0_least : ByteArray := prog_2_method_2_code
def yX0_least : MethodName := ⟨RX0, "least", "()I"⟩
abbrev cX0_howMany : ByteArray := prog_2_method_3_code
def yX0_howMany : MethodName := ⟨RX0, "howMany", "()I"⟩
abbrev cX0_first : ByteArray := prog_2_method_4_code
def yX0_first : MethodName := ⟨RX0, "first", "()LShopsOnFloor$Seats;"⟩
abbrev cX0_search : ByteArray := prog_2_method_5_code
def yX0_search : MethodName := ⟨RX0, "search", "(I)V"⟩
abbrev cX0_compare : ByteArray := prog_2_method_6_code
def yX0_compare : MethodName := ⟨RX0, "compare", "(I)V"⟩
def RX1 : String := "ShopsOnFloor$Climber"
def TX1 : u_T := fun k => match k with
  | 0 => ("ShopsOnFloor$Climber", "ground", "LShopsOnFloor$Ground;", true)
  | 1 => ("ShopsOnFloor$Climber", "judge", "LShopsOnFloor$Judge;", true)
  | 2 => ("ShopsOnFloor$Climber", "trial", "LShopsOnFloor$Seats;", true)
  | 3 => ("ShopsOnFloor$Climber", "betterSeats", "LShopsOnFloor$Seats;", true)
  | 4 => ("ShopsOnFloor$Climber", "leastCost", "I", false)
  | _ => ("ShopsOnFloor$Climber", "isFound", "Z", false)
def tyX1 : Nat → FieldType := fun k => match k with
  | 0 => .object "ShopsOnFloor$Ground"
  | 1 => .object "ShopsOnFloor$Judge"
  | 2 => .object "ShopsOnFloor$Seats"
  | 3 => .object "ShopsOnFloor$Seats"
  | 4 => .int
  | _ => .boolean
abbrev wsX10 : List Cond := u_ws RX1 TX1 6
theorem nmX1 : ∀ a, a < 6 → ∀ b, b < 6 → a ≠ b → (TX1 a).2.1 ≠ (TX1 b).2.1 := by decide +kernel
theorem tyX1_ok : ∀ k, k < 6 → parseFieldDescriptor (TX1 k).2.2.1 = some (tyX1 k) := by decide +kernel
abbrev cX1_init : ByteArray := prog_3_method_1_code
def yX1_init : MethodName := ⟨RX1, "<init>", "(LShopsOnFloor$Ground;LShopsOnFloor$Judge;)V"⟩
abbrev cX1_found : ByteArray := prog_3_method_2_code
def yX1_found : MethodName := ⟨RX1, "found", "()LShopsOnFloor$Seats;"⟩
abbrev cX1_search : ByteArray := prog_3_method_3_code
def yX1_search : MethodName := ⟨RX1, "search", "(ILShopsOnFloor$Seats;)Z"⟩
abbrev cX1_tryChange : ByteArray := prog_3_method_4_code
def yX1_tryChange : MethodName := ⟨RX1, "tryChange", "(III)V"⟩
abbrev cX1_compare : ByteArray := prog_3_method_5_code
def yX1_compare : MethodName := ⟨RX1, "compare", "(I)V"⟩
def RX2 : String := "ShopsOnFloor$Ground"
def TX2 : u_T := fun k => match k with
  | 0 => ("ShopsOnFloor$Ground", "kinds", "LShopsOnFloor$Row;", true)
  | 1 => ("ShopsOnFloor$Ground", "slotCells", "LShopsOnFloor$Row;", true)
  | 2 => ("ShopsOnFloor$Ground", "ways", "LShopsOnFloor$Row;", true)
  | 3 => ("ShopsOnFloor$Ground", "outs", "LShopsOnFloor$Row;", true)
  | 4 => ("ShopsOnFloor$Ground", "steps", "LShopsOnFloor$Row;", true)
  | 5 => ("ShopsOnFloor$Ground", "waiting", "LShopsOnFloor$Row;", true)
  | 6 => ("ShopsOnFloor$Ground", "waitingEnd", "I", false)
  | 7 => ("ShopsOnFloor$Ground", "slotCount", "I", false)
  | _ => ("ShopsOnFloor$Ground", "exitBound", "I", false)
def tyX2 : Nat → FieldType := fun k => match k with
  | 0 => .object "ShopsOnFloor$Row"
  | 1 => .object "ShopsOnFloor$Row"
  | 2 => .object "ShopsOnFloor$Row"
  | 3 => .object "ShopsOnFloor$Row"
  | 4 => .object "ShopsOnFloor$Row"
  | 5 => .object "ShopsOnFloor$Row"
  | 6 => .int
  | 7 => .int
  | _ => .int
abbrev wsX20 : List Cond := u_ws RX2 TX2 9
theorem nmX2 : ∀ a, a < 9 → ∀ b, b < 9 → a ≠ b → (TX2 a).2.1 ≠ (TX2 b).2.1 := by decide +kernel
theorem tyX2_ok : ∀ k, k < 9 → parseFieldDescriptor (TX2 k).2.2.1 = some (tyX2 k) := by decide +kernel
abbrev cX2_init : ByteArray := prog_4_method_1_code
def yX2_init : MethodName := ⟨RX2, "<init>", "()V"⟩
abbrev cX2_kindOf : ByteArray := prog_4_method_2_code
def yX2_kindOf : MethodName := ⟨RX2, "kindOf", "(I)I"⟩
abbrev cX2_slots : ByteArray := prog_4_method_3_code
def yX2_slots : MethodName := ⟨RX2, "slots", "()I"⟩
abbrev cX2_hasSlot : ByteArray := prog_4_method_4_code
def yX2_hasSlot : MethodName := ⟨RX2, "hasSlot", "(I)Z"⟩
abbrev cX2_cellsOf : ByteArray := prog_4_method_5_code
def yX2_cellsOf : MethodName := ⟨RX2, "cellsOf", "(I)I"⟩
abbrev cX2_wayBetween : ByteArray := prog_4_method_6_code
def yX2_wayBetween : MethodName := ⟨RX2, "wayBetween", "(II)I"⟩
abbrev cX2_wayOut : ByteArray := prog_4_method_7_code
def yX2_wayOut : MethodName := ⟨RX2, "wayOut", "(I)I"⟩
abbrev cX2_changeBound : ByteArray := prog_4_method_8_code
def yX2_changeBound : MethodName := ⟨RX2, "changeBound", "(I)I"⟩
abbrev cX2_isOutNear : ByteArray := prog_4_method_9_code
def yX2_isOutNear : MethodName := ⟨RX2, "isOutNear", "(I)Z"⟩
abbrev cX2_become : ByteArray := prog_4_method_10_code
def yX2_become : MethodName := ⟨RX2, "become", "(II)V"⟩
abbrev cX2_addSlot : ByteArray := prog_4_method_11_code
def yX2_addSlot : MethodName := ⟨RX2, "addSlot", "(I)I"⟩
abbrev cX2_measure : ByteArray := prog_4_method_12_code
def yX2_measure : MethodName := ⟨RX2, "measure", "()V"⟩
abbrev cX2_flood : ByteArray := prog_4_method_13_code
def yX2_flood : MethodName := ⟨RX2, "flood", "(I)V"⟩
abbrev cX2_reach : ByteArray := prog_4_method_14_code
def yX2_reach : MethodName := ⟨RX2, "reach", "(II)V"⟩
abbrev cX2_nearestExit : ByteArray := prog_4_method_15_code
def yX2_nearestExit : MethodName := ⟨RX2, "nearestExit", "()I"⟩
def RX3 : String := "ShopsOnFloor$Judge"
def TX3 : u_T := fun k => match k with
  | 0 => ("ShopsOnFloor$Judge", "ground", "LShopsOnFloor$Ground;", true)
  | _ => ("ShopsOnFloor$Judge", "trade", "LShopsOnFloor$Trade;", true)
def tyX3 : Nat → FieldType := fun k => match k with
  | 0 => .object "ShopsOnFloor$Ground"
  | _ => .object "ShopsOnFloor$Trade"
abbrev wsX30 : List Cond := u_ws RX3 TX3 2
theorem nmX3 : ∀ a, a < 2 → ∀ b, b < 2 → a ≠ b → (TX3 a).2.1 ≠ (TX3 b).2.1 := by decide +kernel
theorem tyX3_ok : ∀ k, k < 2 → parseFieldDescriptor (TX3 k).2.2.1 = some (tyX3 k) := by decide +kernel
abbrev cX3_init : ByteArray := prog_5_method_1_code
def yX3_init : MethodName := ⟨RX3, "<init>", "(LShopsOnFloor$Ground;LShopsOnFloor$Trade;)V"⟩
abbrev cX3_costOf : ByteArray := prog_5_method_2_code
def yX3_costOf : MethodName := ⟨RX3, "costOf", "(ILShopsOnFloor$Seats;)I"⟩
abbrev cX3_areExitsNear : ByteArray := prog_5_method_3_code
def yX3_areExitsNear : MethodName := ⟨RX3, "areExitsNear", "(LShopsOnFloor$Seats;)Z"⟩
abbrev cX3_areWishesMet : ByteArray := prog_5_method_4_code
def yX3_areWishesMet : MethodName := ⟨RX3, "areWishesMet", "(LShopsOnFloor$Seats;)Z"⟩
def RX4 : String := "ShopsOnFloor$Lowest"
def TX4 : u_T := fun k => match k with
  | 0 => ("ShopsOnFloor$Lowest", "ground", "LShopsOnFloor$Ground;", true)
  | 1 => ("ShopsOnFloor$Lowest", "trade", "LShopsOnFloor$Trade;", true)
  | 2 => ("ShopsOnFloor$Lowest", "carried", "LShopsOnFloor$Row;", true)
  | _ => ("ShopsOnFloor$Lowest", "ways", "LShopsOnFloor$Row;", true)
def tyX4 : Nat → FieldType := fun k => match k with
  | 0 => .object "ShopsOnFloor$Ground"
  | 1 => .object "ShopsOnFloor$Trade"
  | 2 => .object "ShopsOnFloor$Row"
  | _ => .object "ShopsOnFloor$Row"
abbrev wsX40 : List Cond := u_ws RX4 TX4 4
theorem nmX4 : ∀ a, a < 4 → ∀ b, b < 4 → a ≠ b → (TX4 a).2.1 ≠ (TX4 b).2.1 := by decide +kernel
theorem tyX4_ok : ∀ k, k < 4 → parseFieldDescriptor (TX4 k).2.2.1 = some (tyX4 k) := by decide +kernel
abbrev cX4_init : ByteArray := prog_6_method_1_code
def yX4_init : MethodName := ⟨RX4, "<init>", "(LShopsOnFloor$Ground;LShopsOnFloor$Trade;)V"⟩
abbrev cX4_of : ByteArray := prog_6_method_2_code
def yX4_of : MethodName := ⟨RX4, "of", "(I)I"⟩
abbrev cX4_sortLoads : ByteArray := prog_6_method_3_code
def yX4_sortLoads : MethodName := ⟨RX4, "sortLoads", "(I)I"⟩
abbrev cX4_sortWays : ByteArray := prog_6_method_4_code
def yX4_sortWays : MethodName := ⟨RX4, "sortWays", "()I"⟩
abbrev cX4_insert : ByteArray := prog_6_method_5_code
def yX4_insert : MethodName := ⟨RX4, "insert", "(LShopsOnFloor$Row;II)V"⟩
def RX5 : String := "ShopsOnFloor$Mover"
def TX5 : u_T := fun k => match k with
  | 0 => ("ShopsOnFloor$Mover", "ground", "LShopsOnFloor$Ground;", true)
  | 1 => ("ShopsOnFloor$Mover", "trade", "LShopsOnFloor$Trade;", true)
  | _ => ("ShopsOnFloor$Mover", "trial", "LShopsOnFloor$Seats;", true)
def tyX5 : Nat → FieldType := fun k => match k with
  | 0 => .object "ShopsOnFloor$Ground"
  | 1 => .object "ShopsOnFloor$Trade"
  | _ => .object "ShopsOnFloor$Seats"
abbrev wsX50 : List Cond := u_ws RX5 TX5 3
theorem nmX5 : ∀ a, a < 3 → ∀ b, b < 3 → a ≠ b → (TX5 a).2.1 ≠ (TX5 b).2.1 := by decide +kernel
theorem tyX5_ok : ∀ k, k < 3 → parseFieldDescriptor (TX5 k).2.2.1 = some (tyX5 k) := by decide +kernel
abbrev cX5_init : ByteArray := prog_7_method_1_code
def yX5_init : MethodName := ⟨RX5, "<init>", "(LShopsOnFloor$Ground;LShopsOnFloor$Trade;)V"⟩
abbrev cX5_least : ByteArray := prog_7_method_2_code
def yX5_least : MethodName := ⟨RX5, "least", "(LShopsOnFloor$Seats;LShopsOnFloor$Seats;)I"⟩
abbrev cX5_asideWeight : ByteArray := prog_7_method_3_code
def yX5_asideWeight : MethodName := ⟨RX5, "asideWeight", "(LShopsOnFloor$Seats;LShopsOnFloor$Seats;I)I"⟩
abbrev cX5_walk : ByteArray := prog_7_method_4_code
def yX5_walk : MethodName := ⟨RX5, "walk", "(LShopsOnFloor$Seats;LShopsOnFloor$Seats;I)I"⟩
abbrev cX5_firstStep : ByteArray := prog_7_method_5_code
def yX5_firstStep : MethodName := ⟨RX5, "firstStep", "(LShopsOnFloor$Seats;)I"⟩
def RX6 : String := "ShopsOnFloor$Planner"
def TX6 : u_T := fun k => match k with
  | 0 => ("ShopsOnFloor$Planner", "ground", "LShopsOnFloor$Ground;", true)
  | 1 => ("ShopsOnFloor$Planner", "trade", "LShopsOnFloor$Trade;", true)
  | 2 => ("ShopsOnFloor$Planner", "judge", "LShopsOnFloor$Judge;", true)
  | 3 => ("ShopsOnFloor$Planner", "trial", "LShopsOnFloor$Seats;", true)
  | 4 => ("ShopsOnFloor$Planner", "before", "LShopsOnFloor$Seats;", true)
  | 5 => ("ShopsOnFloor$Planner", "chosen", "LShopsOnFloor$Seats;", true)
  | 6 => ("ShopsOnFloor$Planner", "onward", "LShopsOnFloor$Row;", true)
  | 7 => ("ShopsOnFloor$Planner", "ahead", "LShopsOnFloor$Row;", true)
  | 8 => ("ShopsOnFloor$Planner", "chosenTold", "LShopsOnFloor$Row;", true)
  | 9 => ("ShopsOnFloor$Planner", "wholePrice", "I", false)
  | _ => ("ShopsOnFloor$Planner", "plannedYears", "I", false)
def tyX6 : Nat → FieldType := fun k => match k with
  | 0 => .object "ShopsOnFloor$Ground"
  | 1 => .object "ShopsOnFloor$Trade"
  | 2 => .object "ShopsOnFloor$Judge"
  | 3 => .object "ShopsOnFloor$Seats"
  | 4 => .object "ShopsOnFloor$Seats"
  | 5 => .object "ShopsOnFloor$Seats"
  | 6 => .object "ShopsOnFloor$Row"
  | 7 => .object "ShopsOnFloor$Row"
  | 8 => .object "ShopsOnFloor$Row"
  | 9 => .int
  | _ => .int
abbrev wsX60 : List Cond := u_ws RX6 TX6 11
theorem nmX6 : ∀ a, a < 11 → ∀ b, b < 11 → a ≠ b → (TX6 a).2.1 ≠ (TX6 b).2.1 := by decide +kernel
theorem tyX6_ok : ∀ k, k < 11 → parseFieldDescriptor (TX6 k).2.2.1 = some (tyX6 k) := by decide +kernel
abbrev cX6_init : ByteArray := prog_8_method_1_code
def yX6_init : MethodName := ⟨RX6, "<init>", "(LShopsOnFloor$Ground;LShopsOnFloor$Trade;LShopsOnFloor$Judge;)V"⟩
abbrev cX6_forget : ByteArray := prog_8_method_2_code
def yX6_forget : MethodName := ⟨RX6, "forget", "()V"⟩
abbrev cX6_price : ByteArray := prog_8_method_3_code
def yX6_price : MethodName := ⟨RX6, "price", "()I"⟩
abbrev cX6_toldOf : ByteArray := prog_8_method_4_code
def yX6_toldOf : MethodName := ⟨RX6, "toldOf", "(I)I"⟩
abbrev cX6_makePlan : ByteArray := prog_8_method_5_code
def yX6_makePlan : MethodName := ⟨RX6, "makePlan", "(I)V"⟩
abbrev cX6_reckon : ByteArray := prog_8_method_6_code
def yX6_reckon : MethodName := ⟨RX6, "reckon", "(IZ)V"⟩
abbrev cX6_stay : ByteArray := prog_8_method_7_code
def yX6_stay : MethodName := ⟨RX6, "stay", "(I)V"⟩
abbrev cX6_letAllMove : ByteArray := prog_8_method_8_code
def yX6_letAllMove : MethodName := ⟨RX6, "letAllMove", "()V"⟩
abbrev cX6_toldEnd : ByteArray := prog_8_method_9_code
def yX6_toldEnd : MethodName := ⟨RX6, "toldEnd", "()I"⟩
abbrev cX6_letMove : ByteArray := prog_8_method_10_code
def yX6_letMove : MethodName := ⟨RX6, "letMove", "(III)V"⟩
abbrev cX6_choose : ByteArray := prog_8_method_11_code
def yX6_choose : MethodName := ⟨RX6, "choose", "(I)V"⟩
def RX7 : String := "ShopsOnFloor$Row"
def TX7 : u_T := fun k => match k with
  | _ => ("ShopsOnFloor$Row", "numbers", "[I", true)
def tyX7 : Nat → FieldType := fun k => match k with
  | _ => .array .int
abbrev wsX70 : List Cond := u_ws RX7 TX7 1
theorem nmX7 : ∀ a, a < 1 → ∀ b, b < 1 → a ≠ b → (TX7 a).2.1 ≠ (TX7 b).2.1 := by decide +kernel
theorem tyX7_ok : ∀ k, k < 1 → parseFieldDescriptor (TX7 k).2.2.1 = some (tyX7 k) := by decide +kernel
abbrev cX7_init : ByteArray := prog_9_method_1_code
def yX7_init : MethodName := ⟨RX7, "<init>", "(I)V"⟩
abbrev cX7_get : ByteArray := prog_9_method_2_code
def yX7_get : MethodName := ⟨RX7, "get", "(I)I"⟩
abbrev cX7_set : ByteArray := prog_9_method_3_code
def yX7_set : MethodName := ⟨RX7, "set", "(II)V"⟩
def RX8 : String := "ShopsOnFloor$Seats"
def TX8 : u_T := fun k => match k with
  | 0 => ("ShopsOnFloor$Seats", "slotOf", "LShopsOnFloor$Row;", true)
  | _ => ("ShopsOnFloor$Seats", "shopCount", "I", false)
def tyX8 : Nat → FieldType := fun k => match k with
  | 0 => .object "ShopsOnFloor$Row"
  | _ => .int
abbrev wsX80 : List Cond := u_ws RX8 TX8 2
theorem nmX8 : ∀ a, a < 2 → ∀ b, b < 2 → a ≠ b → (TX8 a).2.1 ≠ (TX8 b).2.1 := by decide +kernel
theorem tyX8_ok : ∀ k, k < 2 → parseFieldDescriptor (TX8 k).2.2.1 = some (tyX8 k) := by decide +kernel
abbrev cX8_init : ByteArray := prog_10_method_1_code
def yX8_init : MethodName := ⟨RX8, "<init>", "()V"⟩
abbrev cX8_shops : ByteArray := prog_10_method_2_code
def yX8_shops : MethodName := ⟨RX8, "shops", "()I"⟩
abbrev cX8_at : ByteArray := prog_10_method_3_code
def yX8_at : MethodName := ⟨RX8, "at", "(I)I"⟩
abbrev cX8_seat : ByteArray := prog_10_method_4_code
def yX8_seat : MethodName := ⟨RX8, "seat", "(II)V"⟩
abbrev cX8_copy : ByteArray := prog_10_method_5_code
def yX8_copy : MethodName := ⟨RX8, "copy", "(LShopsOnFloor$Seats;)V"⟩
abbrev cX8_whoIsAt : ByteArray := prog_10_method_6_code
def yX8_whoIsAt : MethodName := ⟨RX8, "whoIsAt", "(II)I"⟩
abbrev cX8_addShop : ByteArray := prog_10_method_7_code
def yX8_addShop : MethodName := ⟨RX8, "addShop", "(I)V"⟩
abbrev cX8_seatBehind : ByteArray := prog_10_method_8_code
def yX8_seatBehind : MethodName := ⟨RX8, "seatBehind", "(III)Z"⟩
abbrev cX8_told : ByteArray := prog_10_method_9_code
def yX8_told : MethodName := ⟨RX8, "told", "()I"⟩
abbrev cX8_read : ByteArray := prog_10_method_10_code
def yX8_read : MethodName := ⟨RX8, "read", "(III)Z"⟩
abbrev cX8_begin : ByteArray := prog_10_method_11_code
def yX8_begin : MethodName := ⟨RX8, "begin", "(II)V"⟩
abbrev cX8_goOn : ByteArray := prog_10_method_12_code
def yX8_goOn : MethodName := ⟨RX8, "goOn", "(I)Z"⟩
abbrev cX8_comesBefore : ByteArray := prog_10_method_13_code
def yX8_comesBefore : MethodName := ⟨RX8, "comesBefore", "(LShopsOnFloor$Seats;)Z"⟩
def RX9 : String := "ShopsOnFloor$Trade"
def TX9 : u_T := fun k => match k with
  | 0 => ("ShopsOnFloor$Trade", "loads", "LShopsOnFloor$Row;", true)
  | 1 => ("ShopsOnFloor$Trade", "weights", "LShopsOnFloor$Row;", true)
  | 2 => ("ShopsOnFloor$Trade", "wishOnes", "LShopsOnFloor$Row;", true)
  | 3 => ("ShopsOnFloor$Trade", "wishOthers", "LShopsOnFloor$Row;", true)
  | 4 => ("ShopsOnFloor$Trade", "wishNears", "LShopsOnFloor$Row;", true)
  | 5 => ("ShopsOnFloor$Trade", "wishBounds", "LShopsOnFloor$Row;", true)
  | 6 => ("ShopsOnFloor$Trade", "shopCount", "I", false)
  | _ => ("ShopsOnFloor$Trade", "wishCount", "I", false)
def tyX9 : Nat → FieldType := fun k => match k with
  | 0 => .object "ShopsOnFloor$Row"
  | 1 => .object "ShopsOnFloor$Row"
  | 2 => .object "ShopsOnFloor$Row"
  | 3 => .object "ShopsOnFloor$Row"
  | 4 => .object "ShopsOnFloor$Row"
  | 5 => .object "ShopsOnFloor$Row"
  | 6 => .int
  | _ => .int
abbrev wsX90 : List Cond := u_ws RX9 TX9 8
theorem nmX9 : ∀ a, a < 8 → ∀ b, b < 8 → a ≠ b → (TX9 a).2.1 ≠ (TX9 b).2.1 := by decide +kernel
theorem tyX9_ok : ∀ k, k < 8 → parseFieldDescriptor (TX9 k).2.2.1 = some (tyX9 k) := by decide +kernel
abbrev cX9_init : ByteArray := prog_11_method_1_code
def yX9_init : MethodName := ⟨RX9, "<init>", "()V"⟩
abbrev cX9_shops : ByteArray := prog_11_method_2_code
def yX9_shops : MethodName := ⟨RX9, "shops", "()I"⟩
abbrev cX9_wishes : ByteArray := prog_11_method_3_code
def yX9_wishes : MethodName := ⟨RX9, "wishes", "()I"⟩
abbrev cX9_hasShop : ByteArray := prog_11_method_4_code
def yX9_hasShop : MethodName := ⟨RX9, "hasShop", "(I)Z"⟩
abbrev cX9_areTwo : ByteArray := prog_11_method_5_code
def yX9_areTwo : MethodName := ⟨RX9, "areTwo", "(II)Z"⟩
abbrev cX9_addShop : ByteArray := prog_11_method_6_code
def yX9_addShop : MethodName := ⟨RX9, "addShop", "()I"⟩
abbrev cX9_changeLoad : ByteArray := prog_11_method_7_code
def yX9_changeLoad : MethodName := ⟨RX9, "changeLoad", "(IIII)I"⟩
abbrev cX9_bothWays : ByteArray := prog_11_method_8_code
def yX9_bothWays : MethodName := ⟨RX9, "bothWays", "(III)I"⟩
abbrev cX9_loadAt : ByteArray := prog_11_method_9_code
def yX9_loadAt : MethodName := ⟨RX9, "loadAt", "(III)I"⟩
abbrev cX9_weightOf : ByteArray := prog_11_method_10_code
def yX9_weightOf : MethodName := ⟨RX9, "weightOf", "(I)I"⟩
abbrev cX9_changeWeight : ByteArray := prog_11_method_11_code
def yX9_changeWeight : MethodName := ⟨RX9, "changeWeight", "(II)I"⟩
abbrev cX9_movedWeight : ByteArray := prog_11_method_12_code
def yX9_movedWeight : MethodName := ⟨RX9, "movedWeight", "(LShopsOnFloor$Seats;LShopsOnFloor$Seats;)I"⟩
abbrev cX9_addWish : ByteArray := prog_11_method_13_code
def yX9_addWish : MethodName := ⟨RX9, "addWish", "(IIZI)I"⟩
abbrev cX9_dropWish : ByteArray := prog_11_method_14_code
def yX9_dropWish : MethodName := ⟨RX9, "dropWish", "(I)V"⟩
abbrev cX9_oneOf : ByteArray := prog_11_method_15_code
def yX9_oneOf : MethodName := ⟨RX9, "oneOf", "(I)I"⟩
abbrev cX9_otherOf : ByteArray := prog_11_method_16_code
def yX9_otherOf : MethodName := ⟨RX9, "otherOf", "(I)I"⟩
abbrev cX9_isMet : ByteArray := prog_11_method_17_code
def yX9_isMet : MethodName := ⟨RX9, "isMet", "(II)Z"⟩
def RX10 : String := "ShopsOnFloor"
def TX10 : u_T := fun k => match k with
  | 0 => ("ShopsOnFloor", "ground", "LShopsOnFloor$Ground;", true)
  | 1 => ("ShopsOnFloor", "trade", "LShopsOnFloor$Trade;", true)
  | 2 => ("ShopsOnFloor", "judge", "LShopsOnFloor$Judge;", true)
  | 3 => ("ShopsOnFloor", "lowest", "LShopsOnFloor$Lowest;", true)
  | 4 => ("ShopsOnFloor", "chooser", "LShopsOnFloor$Chooser;", true)
  | 5 => ("ShopsOnFloor", "climber", "LShopsOnFloor$Climber;", true)
  | 6 => ("ShopsOnFloor", "mover", "LShopsOnFloor$Mover;", true)
  | 7 => ("ShopsOnFloor", "planner", "LShopsOnFloor$Planner;", true)
  | 8 => ("ShopsOnFloor", "hand", "LShopsOnFloor$Seats;", true)
  | _ => ("ShopsOnFloor", "aimed", "LShopsOnFloor$Seats;", true)
def tyX10 : Nat → FieldType := fun k => match k with
  | 0 => .object "ShopsOnFloor$Ground"
  | 1 => .object "ShopsOnFloor$Trade"
  | 2 => .object "ShopsOnFloor$Judge"
  | 3 => .object "ShopsOnFloor$Lowest"
  | 4 => .object "ShopsOnFloor$Chooser"
  | 5 => .object "ShopsOnFloor$Climber"
  | 6 => .object "ShopsOnFloor$Mover"
  | 7 => .object "ShopsOnFloor$Planner"
  | 8 => .object "ShopsOnFloor$Seats"
  | _ => .object "ShopsOnFloor$Seats"
abbrev wsX100 : List Cond := u_ws RX10 TX10 10
theorem nmX10 : ∀ a, a < 10 → ∀ b, b < 10 → a ≠ b → (TX10 a).2.1 ≠ (TX10 b).2.1 := by decide +kernel
theorem tyX10_ok : ∀ k, k < 10 → parseFieldDescriptor (TX10 k).2.2.1 = some (tyX10 k) := by decide +kernel
abbrev cX10_init : ByteArray := prog_1_method_1_code
def yX10_init : MethodName := ⟨RX10, "<init>", "()V"⟩
abbrev cX10_column : ByteArray := prog_1_method_2_code
def yX10_column : MethodName := ⟨RX10, "column", "(IIZ)I"⟩
abbrev cX10_slot : ByteArray := prog_1_method_3_code
def yX10_slot : MethodName := ⟨RX10, "slot", "(II)I"⟩
abbrev cX10_exit : ByteArray := prog_1_method_4_code
def yX10_exit : MethodName := ⟨RX10, "exit", "(IIZ)I"⟩
abbrev cX10_far : ByteArray := prog_1_method_5_code
def yX10_far : MethodName := ⟨RX10, "far", "(II)I"⟩
abbrev cX10_out : ByteArray := prog_1_method_6_code
def yX10_out : MethodName := ⟨RX10, "out", "(I)I"⟩
abbrev cX10_bound : ByteArray := prog_1_method_7_code
def yX10_bound : MethodName := ⟨RX10, "bound", "(I)I"⟩
abbrev cX10_shop : ByteArray := prog_1_method_8_code
def yX10_shop : MethodName := ⟨RX10, "shop", "()I"⟩
abbrev cX10_load : ByteArray := prog_1_method_9_code
def yX10_load : MethodName := ⟨RX10, "load", "(IIII)I"⟩
abbrev cX10_weight : ByteArray := prog_1_method_10_code
def yX10_weight : MethodName := ⟨RX10, "weight", "(II)I"⟩
abbrev cX10_wish : ByteArray := prog_1_method_11_code
def yX10_wish : MethodName := ⟨RX10, "wish", "(IIZI)I"⟩
abbrev cX10_unwish : ByteArray := prog_1_method_12_code
def yX10_unwish : MethodName := ⟨RX10, "unwish", "(I)I"⟩
abbrev cX10_put : ByteArray := prog_1_method_13_code
def yX10_put : MethodName := ⟨RX10, "put", "(I)I"⟩
abbrev cX10_places : ByteArray := prog_1_method_14_code
def yX10_places : MethodName := ⟨RX10, "places", "()I"⟩
abbrev cX10_cost : ByteArray := prog_1_method_15_code
def yX10_cost : MethodName := ⟨RX10, "cost", "(I)I"⟩
abbrev cX10_best : ByteArray := prog_1_method_16_code
def yX10_best : MethodName := ⟨RX10, "best", "(I)I"⟩
abbrev cX10_many : ByteArray := prog_1_method_17_code
def yX10_many : MethodName := ⟨RX10, "many", "(I)I"⟩
abbrev cX10_take : ByteArray := prog_1_method_18_code
def yX10_take : MethodName := ⟨RX10, "take", "(I)I"⟩
abbrev cX10_floor : ByteArray := prog_1_method_19_code
def yX10_floor : MethodName := ⟨RX10, "floor", "(I)I"⟩
abbrev cX10_settled : ByteArray := prog_1_method_20_code
def yX10_settled : MethodName := ⟨RX10, "settled", "(I)I"⟩
abbrev cX10_climb : ByteArray := prog_1_method_21_code
def yX10_climb : MethodName := ⟨RX10, "climb", "(I)I"⟩
abbrev cX10_move : ByteArray := prog_1_method_22_code
def yX10_move : MethodName := ⟨RX10, "move", "(I)I"⟩
abbrev cX10_step : ByteArray := prog_1_method_23_code
def yX10_step : MethodName := ⟨RX10, "step", "(II)I"⟩
abbrev cX10_plan : ByteArray := prog_1_method_24_code
def yX10_plan : MethodName := ⟨RX10, "plan", "(I)I"⟩
abbrev cX10_planned : ByteArray := prog_1_method_25_code
def yX10_planned : MethodName := ⟨RX10, "planned", "(II)I"⟩
abbrev cX10_count : ByteArray := prog_1_method_26_code
def yX10_count : MethodName := ⟨RX10, "count", "(I)I"⟩
abbrev cX10_cellAt : ByteArray := prog_1_method_27_code
def yX10_cellAt : MethodName := ⟨RX10, "cellAt", "(II)I"⟩
abbrev cX10_isYear : ByteArray := prog_1_method_28_code
def yX10_isYear : MethodName := ⟨RX10, "isYear", "(I)Z"⟩
def RX11 : String := "ShopsOnFloorModel"
def TX11 : u_T := fun k => match k with
  | 0 => ("ShopsOnFloorModel", "cells", "[I", true)
  | 1 => ("ShopsOnFloorModel", "isExit", "[Z", true)
  | 2 => ("ShopsOnFloorModel", "slots", "I", false)
  | 3 => ("ShopsOnFloorModel", "cellOf", "[I", true)
  | 4 => ("ShopsOnFloorModel", "bound", "I", false)
  | 5 => ("ShopsOnFloorModel", "shops", "I", false)
  | 6 => ("ShopsOnFloorModel", "now", "[I", true)
  | 7 => ("ShopsOnFloorModel", "loads", "[I", true)
  | 8 => ("ShopsOnFloorModel", "weights", "[I", true)
  | 9 => ("ShopsOnFloorModel", "wishes", "I", false)
  | 10 => ("ShopsOnFloorModel", "wishA", "[I", true)
  | 11 => ("ShopsOnFloorModel", "wishB", "[I", true)
  | 12 => ("ShopsOnFloorModel", "wishNear", "[Z", true)
  | 13 => ("ShopsOnFloorModel", "wishFar", "[I", true)
  | 14 => ("ShopsOnFloorModel", "steps", "[I", true)
  | 15 => ("ShopsOnFloorModel", "queue", "[I", true)
  | 16 => ("ShopsOnFloorModel", "fars", "[I", true)
  | 17 => ("ShopsOnFloorModel", "outs", "[I", true)
  | 18 => ("ShopsOnFloorModel", "row", "[I", true)
  | 19 => ("ShopsOnFloorModel", "bestMany", "I", false)
  | 20 => ("ShopsOnFloorModel", "bestNumber", "I", false)
  | 21 => ("ShopsOnFloorModel", "sorted", "[I", true)
  | 22 => ("ShopsOnFloorModel", "heaviest", "[I", true)
  | 23 => ("ShopsOnFloorModel", "changeCost", "I", false)
  | 24 => ("ShopsOnFloorModel", "changeNumber", "I", false)
  | 25 => ("ShopsOnFloorModel", "costs", "[I", true)
  | 26 => ("ShopsOnFloorModel", "rightMany", "I", false)
  | 27 => ("ShopsOnFloorModel", "rights", "[I", true)
  | 28 => ("ShopsOnFloorModel", "plans", "[I", true)
  | _ => ("ShopsOnFloorModel", "other", "[I", true)
def tyX11 : Nat → FieldType := fun k => match k with
  | 0 => .array .int
  | 1 => .array .boolean
  | 2 => .int
  | 3 => .array .int
  | 4 => .int
  | 5 => .int
  | 6 => .array .int
  | 7 => .array .int
  | 8 => .array .int
  | 9 => .int
  | 10 => .array .int
  | 11 => .array .int
  | 12 => .array .boolean
  | 13 => .array .int
  | 14 => .array .int
  | 15 => .array .int
  | 16 => .array .int
  | 17 => .array .int
  | 18 => .array .int
  | 19 => .int
  | 20 => .int
  | 21 => .array .int
  | 22 => .array .int
  | 23 => .int
  | 24 => .int
  | 25 => .array .int
  | 26 => .int
  | 27 => .array .int
  | 28 => .array .int
  | _ => .array .int
abbrev wsX110 : List Cond := u_ws RX11 TX11 30
theorem nmX11 : ∀ a, a < 30 → ∀ b, b < 30 → a ≠ b → (TX11 a).2.1 ≠ (TX11 b).2.1 := by decide +kernel
theorem tyX11_ok : ∀ k, k < 30 → parseFieldDescriptor (TX11 k).2.2.1 = some (tyX11 k) := by decide +kernel
abbrev cX11_init : ByteArray := prog_13_method_1_code
def yX11_init : MethodName := ⟨RX11, "<init>", "()V"⟩
abbrev cX11_in : ByteArray := prog_13_method_2_code
def yX11_in : MethodName := ⟨RX11, "in", "(III)Z"⟩
abbrev cX11_isCell : ByteArray := prog_13_method_3_code
def yX11_isCell : MethodName := ⟨RX11, "isCell", "(II)Z"⟩
abbrev cX11_isSlot : ByteArray := prog_13_method_4_code
def yX11_isSlot : MethodName := ⟨RX11, "isSlot", "(I)Z"⟩
abbrev cX11_isShop : ByteArray := prog_13_method_5_code
def yX11_isShop : MethodName := ⟨RX11, "isShop", "(I)Z"⟩
abbrev cX11_isYear : ByteArray := prog_13_method_6_code
def yX11_isYear : MethodName := ⟨RX11, "isYear", "(I)Z"⟩
abbrev cX11_column : ByteArray := prog_13_method_7_code
def yX11_column : MethodName := ⟨RX11, "column", "(IIZ)I"⟩
abbrev cX11_slot : ByteArray := prog_13_method_8_code
def yX11_slot : MethodName := ⟨RX11, "slot", "(II)I"⟩
abbrev cX11_exit : ByteArray := prog_13_method_9_code
def yX11_exit : MethodName := ⟨RX11, "exit", "(IIZ)I"⟩
abbrev cX11_beside : ByteArray := prog_13_method_10_code
def yX11_beside : MethodName := ⟨RX11, "beside", "(II)I"⟩
abbrev cX11_walk : ByteArray := prog_13_method_11_code
def yX11_walk : MethodName := ⟨RX11, "walk", "(I)V"⟩
abbrev cX11_layFloor : ByteArray := prog_13_method_12_code
def yX11_layFloor : MethodName := ⟨RX11, "layFloor", "()V"⟩
abbrev cX11_far : ByteArray := prog_13_method_13_code
def yX11_far : MethodName := ⟨RX11, "far", "(II)I"⟩
abbrev cX11_out : ByteArray := prog_13_method_14_code
def yX11_out : MethodName := ⟨RX11, "out", "(I)I"⟩
abbrev cX11_bound : ByteArray := prog_13_method_15_code
def yX11_bound : MethodName := ⟨RX11, "bound", "(I)I"⟩
abbrev cX11_shop : ByteArray := prog_13_method_16_code
def yX11_shop : MethodName := ⟨RX11, "shop", "()I"⟩
abbrev cX11_load : ByteArray := prog_13_method_17_code
def yX11_load : MethodName := ⟨RX11, "load", "(IIII)I"⟩
abbrev cX11_weight : ByteArray := prog_13_method_18_code
def yX11_weight : MethodName := ⟨RX11, "weight", "(II)I"⟩
abbrev cX11_wish : ByteArray := prog_13_method_19_code
def yX11_wish : MethodName := ⟨RX11, "wish", "(IIZI)I"⟩
abbrev cX11_unwish : ByteArray := prog_13_method_20_code
def yX11_unwish : MethodName := ⟨RX11, "unwish", "(I)I"⟩
abbrev cX11_allNumbers : ByteArray := prog_13_method_21_code
def yX11_allNumbers : MethodName := ⟨RX11, "allNumbers", "()I"⟩
abbrev cX11_layRow : ByteArray := prog_13_method_22_code
def yX11_layRow : MethodName := ⟨RX11, "layRow", "(I)Z"⟩
abbrev cX11_numberOf : ByteArray := prog_13_method_23_code
def yX11_numberOf : MethodName := ⟨RX11, "numberOf", "()I"⟩
abbrev cX11_takeNow : ByteArray := prog_13_method_24_code
def yX11_takeNow : MethodName := ⟨RX11, "takeNow", "()V"⟩
abbrev cX11_becomeNow : ByteArray := prog_13_method_25_code
def yX11_becomeNow : MethodName := ⟨RX11, "becomeNow", "()V"⟩
abbrev cX11_layTold : ByteArray := prog_13_method_26_code
def yX11_layTold : MethodName := ⟨RX11, "layTold", "(I)Z"⟩
abbrev cX11_toldOf : ByteArray := prog_13_method_27_code
def yX11_toldOf : MethodName := ⟨RX11, "toldOf", "()I"⟩
abbrev cX11_put : ByteArray := prog_13_method_28_code
def yX11_put : MethodName := ⟨RX11, "put", "(I)I"⟩
abbrev cX11_places : ByteArray := prog_13_method_29_code
def yX11_places : MethodName := ⟨RX11, "places", "()I"⟩
abbrev cX11_farOf : ByteArray := prog_13_method_30_code
def yX11_farOf : MethodName := ⟨RX11, "farOf", "(II)I"⟩
abbrev cX11_meets : ByteArray := prog_13_method_31_code
def yX11_meets : MethodName := ⟨RX11, "meets", "(I)Z"⟩
abbrev cX11_costOf : ByteArray := prog_13_method_32_code
def yX11_costOf : MethodName := ⟨RX11, "costOf", "(I)I"⟩
abbrev cX11_cost : ByteArray := prog_13_method_33_code
def yX11_cost : MethodName := ⟨RX11, "cost", "(I)I"⟩
abbrev cX11_bestOf : ByteArray := prog_13_method_34_code
def yX11_bestOf : MethodName := ⟨RX11, "bestOf", "(I)I"⟩
abbrev cX11_best : ByteArray := prog_13_method_35_code
def yX11_best : MethodName := ⟨RX11, "best", "(I)I"⟩
abbrev cX11_many : ByteArray := prog_13_method_36_code
def yX11_many : MethodName := ⟨RX11, "many", "(I)I"⟩
abbrev cX11_take : ByteArray := prog_13_method_37_code
def yX11_take : MethodName := ⟨RX11, "take", "(I)I"⟩
abbrev cX11_sortIn : ByteArray := prog_13_method_38_code
def yX11_sortIn : MethodName := ⟨RX11, "sortIn", "(II)V"⟩
abbrev cX11_floor : ByteArray := prog_13_method_39_code
def yX11_floor : MethodName := ⟨RX11, "floor", "(I)I"⟩
abbrev cX11_look : ByteArray := prog_13_method_40_code
def yX11_look : MethodName := ⟨RX11, "look", "(I)V"⟩
abbrev cX11_findChange : ByteArray := prog_13_method_41_code
def yX11_findChange : MethodName := ⟨RX11, "findChange", "(I)V"⟩
abbrev cX11_settled : ByteArray := prog_13_method_42_code
def yX11_settled : MethodName := ⟨RX11, "settled", "(I)I"⟩
abbrev cX11_climb : ByteArray := prog_13_method_43_code
def yX11_climb : MethodName := ⟨RX11, "climb", "(I)I"⟩
abbrev cX11_stepTo : ByteArray := prog_13_method_44_code
def yX11_stepTo : MethodName := ⟨RX11, "stepTo", "(III)I"⟩
abbrev cX11_withStep : ByteArray := prog_13_method_45_code
def yX11_withStep : MethodName := ⟨RX11, "withStep", "(III)I"⟩
abbrev cX11_leastStep : ByteArray := prog_13_method_46_code
def yX11_leastStep : MethodName := ⟨RX11, "leastStep", "(I)I"⟩
abbrev cX11_layMoves : ByteArray := prog_13_method_47_code
def yX11_layMoves : MethodName := ⟨RX11, "layMoves", "()V"⟩
abbrev cX11_move : ByteArray := prog_13_method_48_code
def yX11_move : MethodName := ⟨RX11, "move", "(I)I"⟩
abbrev cX11_step : ByteArray := prog_13_method_49_code
def yX11_step : MethodName := ⟨RX11, "step", "(II)I"⟩
abbrev cX11_changed : ByteArray := prog_13_method_50_code
def yX11_changed : MethodName := ⟨RX11, "changed", "(II)I"⟩
abbrev cX11_layPlans : ByteArray := prog_13_method_51_code
def yX11_layPlans : MethodName := ⟨RX11, "layPlans", "(I)V"⟩
abbrev cX11_firstOf : ByteArray := prog_13_method_52_code
def yX11_firstOf : MethodName := ⟨RX11, "firstOf", "(II)I"⟩
abbrev cX11_isSpan : ByteArray := prog_13_method_53_code
def yX11_isSpan : MethodName := ⟨RX11, "isSpan", "(I)Z"⟩
abbrev cX11_plan : ByteArray := prog_13_method_54_code
def yX11_plan : MethodName := ⟨RX11, "plan", "(I)I"⟩
abbrev cX11_planned : ByteArray := prog_13_method_55_code
def yX11_planned : MethodName := ⟨RX11, "planned", "(II)I"⟩
abbrev cX11_count : ByteArray := prog_13_method_56_code
def yX11_count : MethodName := ⟨RX11, "count", "(I)I"⟩
abbrev vwCl : List vw_C := [(RX0, TX0, 7), (RX1, TX1, 6), (RX2, TX2, 9), (RX3, TX3, 2), (RX4, TX4, 4), (RX5, TX5, 3), (RX6, TX6, 11), (RX7, TX7, 1), (RX8, TX8, 2), (RX9, TX9, 8), (RX10, TX10, 10), (RX11, TX11, 30)]
end
section
/-! ===== a small logic over the machine: values, memory, the world as one row of cells ===== -/
abbrev AV : Type := Int ⊕ Nat
abbrev Mem : Type := Nat → Nat → Int
abbrev inR (v : Int) : Prop := -2147483648 ≤ v ∧ v ≤ 2147483647
def mu (σ : Mem) (k j : Nat) (v : Int) : Mem := fun a b => if a = k ∧ b = j then v else σ a b
def cv (adr : Nat → Nat) : AV → Value
  | .inl v => .int (Int32.ofInt v)
  | .inr k => .ref (adr k)
def okV : AV → Prop
  | .inl v => inR v
  | .inr _ => True
theorem ofI_toInt {v : Int} (h : inR v) : (Int32.ofInt v).toInt = v := Int32.toInt_ofInt_of_le h.1 (by omega)
theorem ofI_lt {a b : Int} (ha : inR a) (hb : inR b) : Int32.ofInt a < Int32.ofInt b ↔ a < b := by
  rw [Int32.lt_iff_toInt_lt, ofI_toInt ha, ofI_toInt hb]
theorem ofI_le {a b : Int} (ha : inR a) (hb : inR b) : Int32.ofInt a ≤ Int32.ofInt b ↔ a ≤ b := by
  rw [Int32.le_iff_toInt_le, ofI_toInt ha, ofI_toInt hb]
theorem ofI_eq {a b : Int} (ha : inR a) (hb : inR b) : Int32.ofInt a = Int32.ofInt b ↔ a = b := by
  rw [← Int32.toInt_inj, ofI_toInt ha, ofI_toInt hb]
theorem ofI_0 : Int32.ofInt 0 = 0 := rfl
theorem inR_toInt (x : Int32) : inR x.toInt := ⟨by have := x.le_toInt; omega, by have := x.toInt_lt; omega⟩
theorem ofI_clamp {v : Int} (h : inR v) : (Int32.ofInt v).toNatClampNeg = v.toNat := Int32.toNatClampNeg_ofInt_of_le h.1 (by omega)
theorem ofI_in {v : Int} {n : Nat} (h : inR v) (h0 : 0 ≤ v) (hn : v < (n : Int)) : vp_in (Int32.ofInt v) n := by
  rw [vp_in_iff, ofI_toInt h]; exact ⟨h0, hn⟩
/-- the bit operations, on whole numbers -/
def iand (a b : Int) : Int := (Int32.ofInt a &&& Int32.ofInt b).toInt
def ior (a b : Int) : Int := (Int32.ofInt a ||| Int32.ofInt b).toInt
def ishl (a b : Int) : Int := (Int32.ofInt a <<< (Int32.ofInt b &&& 31)).toInt
def ishr (a b : Int) : Int := (Int32.ofInt a >>> (Int32.ofInt b &&& 31)).toInt
/-! the world: the kind and length of each cell, where its references go -/
def NC : Nat := 95
def shpL : List (Nat × Nat) := [(10, 10), (2, 9), (7, 1), (12, 36), (7, 1), (12, 6), (7, 1), (12, 36), (7, 1), (12, 6), (7, 1), (12, 36), (7, 1), (12, 36), (9, 8), (7, 1), (12, 100), (7, 1), (12, 5), (7, 1), (12, 6), (7, 1), (12, 6), (7, 1), (12, 6), (7, 1), (12, 6), (3, 2), (4, 4), (7, 1), (12, 25), (7, 1), (12, 36), (0, 7), (8, 2), (7, 1), (12, 5), (8, 2), (7, 1), (12, 5), (1, 6), (8, 2), (7, 1), (12, 5), (8, 2), (7, 1), (12, 5), (5, 3), (8, 2), (7, 1), (12, 5), (6, 11), (8, 2), (7, 1), (12, 5), (8, 2), (7, 1), (12, 5), (8, 2), (7, 1), (12, 5), (7, 1), (12, 2880), (7, 1), (12, 7776), (7, 1), (12, 4), (8, 2), (7, 1), (12, 5), (8, 2), (7, 1), (12, 5), (11, 30), (12, 36), (13, 36), (12, 6), (12, 5), (12, 100), (12, 5), (12, 6), (12, 6), (13, 6), (12, 6), (12, 36), (12, 36), (12, 36), (12, 6), (12, 5), (12, 15), (12, 10), (12, 7776), (12, 720), (12, 2880), (12, 5)]
def rfsL : List (List (Option Nat)) := [[some 1, some 14, some 27, some 28, some 33, some 40, some 47, some 51, some 67, some 70], [some 2, some 4, some 6, some 8, some 10, some 12, none, none, none], [some 3], [], [some 5], [], [some 7], [], [some 9], [], [some 11], [], [some 13], [], [some 15, some 17, some 19, some 21, some 23, some 25, none, none], [some 16], [], [some 18], [], [some 20], [], [some 22], [], [some 24], [], [some 26], [], [some 1, some 14], [some 1, some 14, some 29, some 31], [some 30], [], [some 32], [], [some 1, some 14, some 27, some 34, some 37, none, none], [some 35, none], [some 36], [], [some 38, none], [some 39], [], [some 1, some 27, some 41, some 44, none, none], [some 42, none], [some 43], [], [some 45, none], [some 46], [], [some 1, some 14, some 48], [some 49, none], [some 50], [], [some 1, some 14, some 27, some 52, some 55, some 58, some 61, some 63, some 65, none, none], [some 53, none], [some 54], [], [some 56, none], [some 57], [], [some 59, none], [some 60], [], [some 62], [], [some 64], [], [some 66], [], [some 68, none], [some 69], [], [some 71, none], [some 72], [], [some 74, some 75, none, some 76, none, none, some 77, some 78, some 79, none, some 80, some 81, some 82, some 83, some 84, some 85, some 86, some 87, some 88, none, none, some 89, some 90, none, none, some 91, none, some 92, some 93, some 94], [], [], [], [], [], [], [], [], [], [], [], [], [], [], [], [], [], [], [], [], []]
def shp (k : Nat) : Nat × Nat := shpL.getD k (99, 0)
def rfs (k j : Nat) : Option Nat := (rfsL.getD k []).getD j none
def fv (adr : Nat → Nat) (σ : Mem) (k j : Nat) : Value := match rfs k j with
  | some r => .ref (adr r)
  | none => .int (Int32.ofInt (σ k j))
def cellE (cyI cyZ : ClassId) (adr : Nat → Nat) (σ : Mem) (k : Nat) : va_E :=
  if (shp k).1 < 12 then .inr ((shp k).1, (List.range (shp k).2).map (fv adr σ k)) else .inl (if (shp k).1 = 12 then cyI else cyZ, (shp k).2, .inl (fun j => Int32.ofInt (σ k j)))
def wsOf (cyI cyZ : ClassId) (adr : Nat → Nat) (σ : Mem) : va_W := (List.range NC).map (fun k => (adr k, cellE cyI cyZ adr σ k))
abbrev tysOf (cyI cyZ : ClassId) : List (ClassId × FieldType) := [(cyI, .int), (cyZ, .boolean)]
def Rep (D : va_G) (cyI cyZ : ClassId) (adr : Nat → Nat) (σ : Mem) (H : Heap) : Prop := va_P D vwCl (wsOf cyI cyZ adr σ) H ∧ ∀ k j, inR (σ k j)
def Dj (A : Nat → Prop) (adr : Nat → Nat) : Prop := (∀ i j, i < NC → j < NC → adr i = adr j → i = j) ∧ ∀ k, k < NC → A (adr k)
theorem ws_at {cyI cyZ : ClassId} {adr : Nat → Nat} {σ : Mem} {k : Nat} (h : k < NC) : (wsOf cyI cyZ adr σ)[k]? = some (adr k, cellE cyI cyZ adr σ k) := by
  simp [wsOf, h]
theorem ws_at_inv {cyI cyZ : ClassId} {adr : Nat → Nat} {σ : Mem} {k : Nat} {q : Nat × va_E} (h : (wsOf cyI cyZ adr σ)[k]? = some q) : k < NC ∧ q = (adr k, cellE cyI cyZ adr σ k) := by
  have hl := (List.getElem?_eq_some_iff.mp h).1
  have hk : k < NC := by simpa [wsOf] using hl
  rw [ws_at hk] at h
  exact ⟨hk, (Option.some.inj h).symm⟩
theorem Dj.D {A : Nat → Prop} {adr : Nat → Nat} (h : Dj A adr) (cyI cyZ : ClassId) (σ : Mem) : va_D A (wsOf cyI cyZ adr σ) := by
  refine ⟨fun i j p q hi hj hpq => ?_, fun k q hk => ?_⟩
  · obtain ⟨h1, rfl⟩ := ws_at_inv hi
    obtain ⟨h2, rfl⟩ := ws_at_inv hj
    exact h.1 i j h1 h2 hpq
  · obtain ⟨h1, rfl⟩ := ws_at_inv hk
    exact h.2 k h1
theorem ws_set {cyI cyZ : ClassId} {adr : Nat → Nat} {σ σ' : Mem} {k : Nat} (hk : k < NC) (ho : ∀ a, a ≠ k → ∀ b, σ' a b = σ a b) : (wsOf cyI cyZ adr σ).set k (adr k, cellE cyI cyZ adr σ' k) = wsOf cyI cyZ adr σ' := by
  apply List.ext_getElem?
  intro i
  by_cases h : i = k
  · subst h
    rw [List.getElem?_set_self (by simpa [wsOf] using hk), ws_at hk]
  · rw [List.getElem?_set_ne (Ne.symm h)]
    by_cases hi : i < NC
    · rw [ws_at hi, ws_at hi]
      have e : cellE cyI cyZ adr σ i = cellE cyI cyZ adr σ' i := by
        unfold cellE
        have e1 : fv adr σ i = fv adr σ' i := by
          funext j
          unfold fv
          rw [ho i h j]
        have e2 : σ i = σ' i := by funext j; exact (ho i h j).symm
        rw [e1, e2]
      rw [e]
    · have n1 : ∀ σ : Mem, (wsOf cyI cyZ adr σ)[i]? = none := fun σ => by
        rw [List.getElem?_eq_none_iff]
        simp [wsOf]
        omega
      rw [n1, n1]
theorem mu_ne {σ : Mem} {k j : Nat} {v : Int} (a : Nat) (h : a ≠ k) (b : Nat) : mu σ k j v a b = σ a b := by
  unfold mu
  rw [if_neg (fun q => h q.1)]
theorem mu_inR {σ : Mem} {k j : Nat} {v : Int} (h : ∀ a b, inR (σ a b)) (hv : inR v) : ∀ a b, inR (mu σ k j v a b) := by
  intro a b
  unfold mu
  split
  · exact hv
  · exact h a b
/-- the tables' words that a called method may keep -/
def TB : List Cond := lw_tbl.filter goodWord
theorem tb_of (i : Nat) {w : Cond} (h : lw_tbl[i]? = some w) (hg : goodWord w = true) : w ∈ TB := List.mem_filter.mpr ⟨List.mem_of_getElem? h, hg⟩
theorem tb_good {ws : List Cond} (h : ∀ w ∈ ws, w ∈ TB) : GoodIn TB ws := fun w hw => ⟨h w hw, good_of_word (List.mem_filter.mp (h w hw)).2⟩
/-- the one link to a private method of a nest mate outside constructors -/
def nwCell : Cond := .methodLinkNest "ShopsOnFloor$Ground" 66 ⟨"ShopsOnFloor", "cellAt", "(II)I"⟩ "ShopsOnFloor"
def NW (U : State) : Prop := va_Nw nwCell U
/-- a method: name, code, locals, return type, kind of return (0 int, 1 none, 2 reference, 3 boolean), frames and locals of its room -/
abbrev MD : Type := MethodName × ByteArray × Nat × Option FieldType × Nat × Nat × Nat
abbrev mY (d : MD) : MethodName := d.1
abbrev mC (d : MD) : ByteArray := d.2.1
abbrev mN (d : MD) : Nat := d.2.2.1
abbrev mR (d : MD) : Option FieldType := d.2.2.2.1
abbrev mK (d : MD) : Nat := d.2.2.2.2.1
abbrev mF (d : MD) : Nat := d.2.2.2.2.2.1
abbrev mL (d : MD) : Nat := d.2.2.2.2.2.2
def LH (adr : Nat → Nat) (nL : Nat) (ls : List (Option AV)) (lsA : Array Slot) : Prop := lsA.size = nL ∧ lv_wf lsA ∧ ls.length = nL ∧ ∀ (i : Nat) (v : AV), ls[i]? = some (some v) → lsA[i]? = some (.val (cv adr v)) ∧ okV v
abbrev XS : Type := Option (Nat × (Nat → Int))
/-- what holds all the way through a method's body -/
def CX (xs : XS) (d : MD) (p : Program) (l : Launch) (e : Env) (R : Room) (s : State) (m : MethodId) (args : Array Value) (meth : Method) (c : Code) (D : va_G) (cyI cyZ : ClassId) (adr : Nat → Nat) (A : Nat → Prop) (cells slots : Nat) : Prop :=
  p.tables.exec = Jvm.exec ∧ c.code = mC d ∧ c.maxLocals = mN d ∧ s.vm.findClass (mY d).cls = some m.cls ∧ (∀ w ∈ TB, w.before args s = true) ∧ NW s ∧ va_K D vwCl (tysOf cyI cyZ) s ∧ Dj A adr ∧ (∀ q, s.heap.size ≤ q → A q) ∧ mF d ≤ R.frames ∧ mL d ≤ R.locals ∧ cells ≤ R.cells ∧ slots ≤ R.slots ∧
  ∀ L f, xs = some (L, f) → va_X (adr NC) L (fun j => Int32.ofInt (f j)) s s.heap ∧ adr NC < s.heap.size ∧ ¬ A (adr NC) ∧ L < 2147483648 ∧ ∀ j, inR (f j)
def retOK (d : MD) (pc : Nat) (st : List AV) (v : Int) : Prop := match mK d with
  | 0 => decode (mC d) pc = .ok (.ireturn, 1) ∧ st = [.inl v] ∧ inR v
  | 1 => decode (mC d) pc = .ok (.return_, 1) ∧ st = [] ∧ v = 0
  | 2 => decode (mC d) pc = .ok (.areturn, 1) ∧ ∃ k : Nat, st = [.inr k] ∧ v = (k : Int)
  | _ => decode (mC d) pc = .ok (.ireturn, 1) ∧ st = [.inl v] ∧ (v = 0 ∨ v = 1)
def RT (d : MD) (p : Program) (l : Launch) (e : Env) (R : Room) (s : State) (m : MethodId) (args : Array Value) (below : List Frame) (meth : Method) (c : Code) (D : va_G) (cyI cyZ : ClassId) (adr : Nat → Nat) (A : Nat → Prop) (cells slots : Nat) (QF : State → Prop) (Q : Int → Mem → Prop) : Prop :=
  ∀ (pc : Nat) (H : Heap) (locs : List Loc) (lsA : Array Slot) (st : List AV) (v : Int) (σ : Mem), retOK d pc st v → Rep D cyI cyZ adr σ H → va_S A s.heap H locs → Q v σ → W p l e R s m args below meth c H locs cells slots QF (F0 m pc lsA (st.map (cv adr)))
/-- from this point of the body, with these locals, this stack and this memory, the method ends, and its answer and the memory are as Q says -/
def GO (xs : XS) (d : MD) (pc : Nat) (ls : List (Option AV)) (st : List AV) (σ : Mem) (Q : Int → Mem → Prop) : Prop :=
  ∀ (p : Program) (l : Launch) (e : Env) (R : Room) (s : State) (m : MethodId) (args : Array Value) (below : List Frame) (meth : Method) (c : Code) (D : va_G) (cyI cyZ : ClassId) (adr : Nat → Nat) (A : Nat → Prop) (cells slots : Nat) (QF : State → Prop),
    CX xs d p l e R s m args meth c D cyI cyZ adr A cells slots → RT d p l e R s m args below meth c D cyI cyZ adr A cells slots QF Q →
    ∀ (H : Heap) (locs : List Loc) (lsA : Array Slot), Rep D cyI cyZ adr σ H → va_S A s.heap H locs → LH adr (mN d) ls lsA → (∀ v ∈ st, okV v) → W p l e R s m args below meth c H locs cells slots QF (F0 m pc lsA (st.map (cv adr)))
section OPS
variable {xs : XS} {d : MD} {pc : Nat} {ls : List (Option AV)} {st : List AV} {σ : Mem} {Q : Int → Mem → Prop}
theorem LH.at' {adr : Nat → Nat} {nL : Nat} {lsA : Array Slot} (h : LH adr nL ls lsA) {i : Nat} {v : AV} (hl : ls[i]? = some (some v)) : lsA[i]? = some (.val (cv adr v)) := (h.2.2.2 i v hl).1
theorem LH.ok {adr : Nat → Nat} {nL : Nat} {lsA : Array Slot} (h : LH adr nL ls lsA) {i : Nat} {v : AV} (hl : ls[i]? = some (some v)) : okV v := (h.2.2.2 i v hl).2
def lh_l (adr : Nat → Nat) (ls : List (Option AV)) : List (Nat × Value) := (List.range ls.length).filterMap (fun i => match ls[i]? with
  | some (some v) => some (i, cv adr v)
  | _ => none)
theorem lh_mem {adr : Nat → Nat} {q : Nat × Value} : q ∈ lh_l adr ls ↔ ∃ v, ls[q.1]? = some (some v) ∧ q.2 = cv adr v := by
  unfold lh_l
  rw [List.mem_filterMap]
  constructor
  · rintro ⟨i, hi, h⟩
    split at h
    · rename_i v hv
      cases h
      exact ⟨v, hv, rfl⟩
    · cases h
  · rintro ⟨v, hv, h2⟩
    refine ⟨q.1, List.mem_range.mpr (List.getElem?_eq_some_iff.mp hv).1, ?_⟩
    rw [hv]
    show some (q.1, cv adr v) = some q
    rw [← h2]
theorem LH.has {adr : Nat → Nat} {nL : Nat} {lsA : Array Slot} (h : LH adr nL ls lsA) : lv_has lsA nL (lh_l adr ls) := by
  refine ⟨h.1, h.2.1, fun q hq => ?_⟩
  obtain ⟨v, h1, h2⟩ := lh_mem.mp hq
  rw [h2]
  exact (h.2.2.2 _ _ h1).1
theorem cv_cat (adr : Nat → Nat) (v : AV) : (cv adr v).category = 1 := by
  cases v <;> rfl
theorem LH.set {adr : Nat → Nat} {nL : Nat} {lsA lsB : Array Slot} {i : Nat} {v : AV} (h : LH adr nL ls lsA) (hi : i < nL) (hv : okV v)
    (hB : lv_has lsB nL ((i, cv adr v) :: (lh_l adr ls).filter (fun q => !(q.1 == i) && !(q.1 + 1 == i && q.2.category == 2)))) : LH adr nL (ls.set i (some v)) lsB := by
  refine ⟨hB.1, hB.2.1, by rw [List.length_set]; exact h.2.2.1, fun j w hj => ?_⟩
  by_cases e : j = i
  · subst e
    rw [List.getElem?_set_self (by rw [h.2.2.1]; exact hi)] at hj
    cases hj
    exact ⟨hB.2.2 (j, cv adr v) List.mem_cons_self, hv⟩
  · rw [List.getElem?_set_ne (Ne.symm e)] at hj
    refine ⟨hB.2.2 (j, cv adr w) (List.mem_cons_of_mem _ (List.mem_filter.mpr ⟨lh_mem.mpr ⟨w, hj, rfl⟩, ?_⟩)), h.ok hj⟩
    simp [e, cv_cat]
theorem okcons {v : AV} (h : okV v) (hs : ∀ v ∈ st, okV v) : ∀ w ∈ v :: st, okV w := List.forall_mem_cons.mpr ⟨h, hs⟩
-- constants and locals
theorem g_iconst {n : Int} (hd : decode (mC d) pc = .ok (.iconst n, 1)) (hn : inR n) (k : GO xs d (pc + 1) ls (.inl n :: st) σ Q) : GO xs d pc ls st σ Q := by
  intro p l e R s m args below meth c D cyI cyZ adr A cells slots QF C RT0 H locs lsA hR hS hL hst
  exact lv_iconst (v := Int32.ofInt n) C.1 C.2.1 hd rfl (k p l e R s m args below meth c D cyI cyZ adr A cells slots QF C RT0 H locs lsA hR hS hL (okcons hn hst))
theorem g_bipush {n : Int} (hd : decode (mC d) pc = .ok (.bipush n, 2)) (hn : inR n) (he : (Int8.ofInt n).toInt32 = Int32.ofInt n) (k : GO xs d (pc + 2) ls (.inl n :: st) σ Q) : GO xs d pc ls st σ Q := by
  intro p l e R s m args below meth c D cyI cyZ adr A cells slots QF C RT0 H locs lsA hR hS hL hst
  exact lv_bipush (v := Int32.ofInt n) C.1 C.2.1 hd he (k p l e R s m args below meth c D cyI cyZ adr A cells slots QF C RT0 H locs lsA hR hS hL (okcons hn hst))
theorem g_sipush {n : Int} (hd : decode (mC d) pc = .ok (.sipush n, 3)) (hn : inR n) (he : (Int16.ofInt n).toInt32 = Int32.ofInt n) (k : GO xs d (pc + 3) ls (.inl n :: st) σ Q) : GO xs d pc ls st σ Q := by
  intro p l e R s m args below meth c D cyI cyZ adr A cells slots QF C RT0 H locs lsA hR hS hL hst
  exact lv_sipush (v := Int32.ofInt n) C.1 C.2.1 hd he (k p l e R s m args below meth c D cyI cyZ adr A cells slots QF C RT0 H locs lsA hR hS hL (okcons hn hst))
theorem g_ldc {i : Nat} {v : Int32} {n : Int} (hd : decode (mC d) pc = .ok (.ldc i, 2)) (hc : Cond.constant (mY d).cls i v ∈ TB) (hv : v = Int32.ofInt n) (hn : inR n) (k : GO xs d (pc + 2) ls (.inl n :: st) σ Q) : GO xs d pc ls st σ Q := by
  intro p l e R s m args below meth c D cyI cyZ adr A cells slots QF C RT0 H locs lsA hR hS hL hst
  subst hv
  exact lv_ldc C.1 C.2.1 C.2.2.2.1 (C.2.2.2.2.1 _ hc) hd (k p l e R s m args below meth c D cyI cyZ adr A cells slots QF C RT0 H locs lsA hR hS hL (okcons hn hst))
theorem g_iload {i : Nat} {v : Int} (hd : decode (mC d) pc = .ok (.iload i, 2)) (hl : ls[i]? = some (some (.inl v))) (k : GO xs d (pc + 2) ls (.inl v :: st) σ Q) : GO xs d pc ls st σ Q := by
  intro p l e R s m args below meth c D cyI cyZ adr A cells slots QF C RT0 H locs lsA hR hS hL hst
  exact lv_iload C.1 C.2.1 hd (hL.at' hl) (k p l e R s m args below meth c D cyI cyZ adr A cells slots QF C RT0 H locs lsA hR hS hL (okcons (hL.ok hl) hst))
theorem g_iload_n {i : Nat} {i4 : Fin 4} {v : Int} (hd : decode (mC d) pc = .ok (.iload_n i4, 1)) (hi : (i4 : Nat) = i) (hl : ls[i]? = some (some (.inl v))) (k : GO xs d (pc + 1) ls (.inl v :: st) σ Q) : GO xs d pc ls st σ Q := by
  intro p l e R s m args below meth c D cyI cyZ adr A cells slots QF C RT0 H locs lsA hR hS hL hst
  exact lv_iload_n C.1 C.2.1 hd hi (hL.at' hl) (k p l e R s m args below meth c D cyI cyZ adr A cells slots QF C RT0 H locs lsA hR hS hL (okcons (hL.ok hl) hst))
theorem g_aload {i : Nat} {r : Nat} (hd : decode (mC d) pc = .ok (.aload i, 2)) (hl : ls[i]? = some (some (.inr r))) (k : GO xs d (pc + 2) ls (.inr r :: st) σ Q) : GO xs d pc ls st σ Q := by
  intro p l e R s m args below meth c D cyI cyZ adr A cells slots QF C RT0 H locs lsA hR hS hL hst
  exact lv_aload C.1 C.2.1 hd (hL.at' hl) (k p l e R s m args below meth c D cyI cyZ adr A cells slots QF C RT0 H locs lsA hR hS hL (okcons trivial hst))
theorem g_aload_n {i : Nat} {i4 : Fin 4} {r : Nat} (hd : decode (mC d) pc = .ok (.aload_n i4, 1)) (hi : (i4 : Nat) = i) (hl : ls[i]? = some (some (.inr r))) (k : GO xs d (pc + 1) ls (.inr r :: st) σ Q) : GO xs d pc ls st σ Q := by
  intro p l e R s m args below meth c D cyI cyZ adr A cells slots QF C RT0 H locs lsA hR hS hL hst
  exact lv_aload_n C.1 C.2.1 hd hi (hL.at' hl) (k p l e R s m args below meth c D cyI cyZ adr A cells slots QF C RT0 H locs lsA hR hS hL (okcons trivial hst))
theorem g_istore {i : Nat} {v : Int} {ls' : List (Option AV)} (hd : decode (mC d) pc = .ok (.istore i, 2)) (hi : i < mN d) (he : ls.set i (some (.inl v)) = ls') (k : GO xs d (pc + 2) ls' st σ Q) : GO xs d pc ls (.inl v :: st) σ Q := by
  intro p l e R s m args below meth c D cyI cyZ adr A cells slots QF C RT0 H locs lsA hR hS hL hst
  subst he
  have hv := List.forall_mem_cons.mp hst
  exact lv_istore C.1 C.2.1 hd hL.has hi rfl (fun lsB hB => k p l e R s m args below meth c D cyI cyZ adr A cells slots QF C RT0 H locs lsB hR hS (hL.set (v := .inl v) hi hv.1 hB) hv.2)
theorem g_istore_n {i : Nat} {i4 : Fin 4} {v : Int} {ls' : List (Option AV)} (hd : decode (mC d) pc = .ok (.istore_n i4, 1)) (h4 : (i4 : Nat) = i) (hi : i < mN d) (he : ls.set i (some (.inl v)) = ls') (k : GO xs d (pc + 1) ls' st σ Q) : GO xs d pc ls (.inl v :: st) σ Q := by
  intro p l e R s m args below meth c D cyI cyZ adr A cells slots QF C RT0 H locs lsA hR hS hL hst
  subst he
  have hv := List.forall_mem_cons.mp hst
  exact lv_istore_n C.1 C.2.1 hd h4 hL.has hi rfl (fun lsB hB => k p l e R s m args below meth c D cyI cyZ adr A cells slots QF C RT0 H locs lsB hR hS (hL.set (v := .inl v) hi hv.1 hB) hv.2)
theorem g_iinc {i : Nat} {n v : Int} {ls' : List (Option AV)} (hd : decode (mC d) pc = .ok (.iinc i n, 3)) (hi : i < mN d) (hl : ls[i]? = some (some (.inl v))) (hr : inR (v + n)) (he : ls.set i (some (.inl (v + n))) = ls') (k : GO xs d (pc + 3) ls' st σ Q) : GO xs d pc ls st σ Q := by
  intro p l e R s m args below meth c D cyI cyZ adr A cells slots QF C RT0 H locs lsA hR hS hL hst
  subst he
  have hm : (i, Value.int (Int32.ofInt v)) ∈ lh_l adr ls := lh_mem.mpr ⟨.inl v, hl, rfl⟩
  obtain ⟨j, hj⟩ := List.getElem?_of_mem hm
  exact lv_iinc (x := Int32.ofInt v) (v := Int32.ofInt (v + n)) C.1 C.2.1 hd hL.has hj (Int32.ofInt_add v n).symm hi rfl (fun lsB hB => k p l e R s m args below meth c D cyI cyZ adr A cells slots QF C RT0 H locs lsB hR hS (hL.set (v := .inl (v + n)) hi hr hB) hst)
theorem g_dup {v : AV} (hd : decode (mC d) pc = .ok (.dup, 1)) (k : GO xs d (pc + 1) ls (v :: v :: st) σ Q) : GO xs d pc ls (v :: st) σ Q := by
  intro p l e R s m args below meth c D cyI cyZ adr A cells slots QF C RT0 H locs lsA hR hS hL hst
  have hv := List.forall_mem_cons.mp hst
  exact lv_dup C.1 C.2.1 hd (cv_cat adr v) (k p l e R s m args below meth c D cyI cyZ adr A cells slots QF C RT0 H locs lsA hR hS hL (okcons hv.1 hst))
theorem g_pop {v : AV} (hd : decode (mC d) pc = .ok (.pop, 1)) (k : GO xs d (pc + 1) ls st σ Q) : GO xs d pc ls (v :: st) σ Q := by
  intro p l e R s m args below meth c D cyI cyZ adr A cells slots QF C RT0 H locs lsA hR hS hL hst
  have hv := List.forall_mem_cons.mp hst
  exact lv_pop C.1 C.2.1 hd (cv_cat adr v) (k p l e R s m args below meth c D cyI cyZ adr A cells slots QF C RT0 H locs lsA hR hS hL hv.2)
-- arithmetic
theorem g_iadd {a b : Int} (hd : decode (mC d) pc = .ok (.iadd, 1)) (hr : inR (a + b)) (k : GO xs d (pc + 1) ls (.inl (a + b) :: st) σ Q) : GO xs d pc ls (.inl b :: .inl a :: st) σ Q := by
  intro p l e R s m args below meth c D cyI cyZ adr A cells slots QF C RT0 H locs lsA hR hS hL hst
  have hv := List.forall_mem_cons.mp (List.forall_mem_cons.mp hst).2
  have kk := k p l e R s m args below meth c D cyI cyZ adr A cells slots QF C RT0 H locs lsA hR hS hL (okcons hr hv.2)
  refine lv_iadd C.1 C.2.1 hd ?_
  rw [← Int32.ofInt_add]
  exact kk
theorem g_isub {a b : Int} (hd : decode (mC d) pc = .ok (.isub, 1)) (hr : inR (a - b)) (k : GO xs d (pc + 1) ls (.inl (a - b) :: st) σ Q) : GO xs d pc ls (.inl b :: .inl a :: st) σ Q := by
  intro p l e R s m args below meth c D cyI cyZ adr A cells slots QF C RT0 H locs lsA hR hS hL hst
  have hv := List.forall_mem_cons.mp (List.forall_mem_cons.mp hst).2
  have kk := k p l e R s m args below meth c D cyI cyZ adr A cells slots QF C RT0 H locs lsA hR hS hL (okcons hr hv.2)
  refine lv_isub C.1 C.2.1 hd ?_
  rw [← Int32.ofInt_sub]
  exact kk
theorem g_imul {a b : Int} (hd : decode (mC d) pc = .ok (.imul, 1)) (hr : inR (a * b)) (k : GO xs d (pc + 1) ls (.inl (a * b) :: st) σ Q) : GO xs d pc ls (.inl b :: .inl a :: st) σ Q := by
  intro p l e R s m args below meth c D cyI cyZ adr A cells slots QF C RT0 H locs lsA hR hS hL hst
  have hv := List.forall_mem_cons.mp (List.forall_mem_cons.mp hst).2
  have kk := k p l e R s m args below meth c D cyI cyZ adr A cells slots QF C RT0 H locs lsA hR hS hL (okcons hr hv.2)
  refine lv_imul C.1 C.2.1 hd ?_
  rw [← Int32.ofInt_mul]
  exact kk
theorem tdiv_inR {a b : Int} (ha : inR a) (hb : 0 < b) : inR (a.tdiv b) := by
  have h1 := Int.natAbs_tdiv_le_natAbs a b
  have h2 : 0 ≤ a → 0 ≤ a.tdiv b := fun h => Int.tdiv_nonneg h (by omega)
  constructor
  · rcases Int.le_total 0 a with h | h
    · have := h2 h; omega
    · omega
  · rcases Int.le_total 0 a with h | h
    · omega
    · have h3 : a.tdiv b ≤ 0 := by
        have := Int.tdiv_nonneg (a := -a) (b := b) (by omega) (by omega)
        rw [Int.neg_tdiv] at this
        omega
      omega
theorem g_idiv {a b : Int} (hd : decode (mC d) pc = .ok (.idiv, 1)) (hb0 : 0 < b) (k : GO xs d (pc + 1) ls (.inl (a.tdiv b) :: st) σ Q) : GO xs d pc ls (.inl b :: .inl a :: st) σ Q := by
  intro p l e R s m args below meth c D cyI cyZ adr A cells slots QF C RT0 H locs lsA hR hS hL hst
  have hv := List.forall_mem_cons.mp hst
  have hv2 := List.forall_mem_cons.mp hv.2
  have hb : inR b := hv.1
  have ha : inR a := hv2.1
  have kk := k p l e R s m args below meth c D cyI cyZ adr A cells slots QF C RT0 H locs lsA hR hS hL (okcons (tdiv_inR ha hb0) hv2.2)
  refine lv_idiv C.1 C.2.1 hd (fun h => ?_) ?_
  · rw [← ofI_0, ofI_eq hb (by decide)] at h
    omega
  · rw [← Int32.ofInt_tdiv (a := a) (b := b) ha.1 ha.2 hb.1 hb.2]
    exact kk
theorem tmod_inR {a b : Int} (hb : inR b) (hb0 : 0 < b) : inR (a.tmod b) := by
  have h1 := Int.tmod_lt_of_pos a hb0
  have h2 := Int.lt_tmod_of_pos a hb0
  constructor <;> omega
theorem g_irem {a b : Int} (hd : decode (mC d) pc = .ok (.irem, 1)) (hb0 : 0 < b) (k : GO xs d (pc + 1) ls (.inl (a.tmod b) :: st) σ Q) : GO xs d pc ls (.inl b :: .inl a :: st) σ Q := by
  intro p l e R s m args below meth c D cyI cyZ adr A cells slots QF C RT0 H locs lsA hR hS hL hst
  have hv := List.forall_mem_cons.mp hst
  have hv2 := List.forall_mem_cons.mp hv.2
  have hb : inR b := hv.1
  have ha : inR a := hv2.1
  have kk := k p l e R s m args below meth c D cyI cyZ adr A cells slots QF C RT0 H locs lsA hR hS hL (okcons (tmod_inR hb hb0) hv2.2)
  refine lv_irem C.1 C.2.1 hd (fun h => ?_) ?_
  · rw [← ofI_0, ofI_eq hb (by decide)] at h
    omega
  · rw [← Int32.ofInt_tdiv (a := a) (b := b) ha.1 ha.2 hb.1 hb.2, ← Int32.ofInt_mul, ← Int32.ofInt_sub]
    have e1 : a - a.tdiv b * b = a.tmod b := by
      have := Int.tmod_add_tdiv_mul a b
      omega
    rw [e1]
    exact kk
theorem g_iand {a b : Int} (hd : decode (mC d) pc = .ok (.iand, 1)) (k : GO xs d (pc + 1) ls (.inl (iand a b) :: st) σ Q) : GO xs d pc ls (.inl b :: .inl a :: st) σ Q := by
  intro p l e R s m args below meth c D cyI cyZ adr A cells slots QF C RT0 H locs lsA hR hS hL hst
  have hv := List.forall_mem_cons.mp (List.forall_mem_cons.mp hst).2
  have kk := k p l e R s m args below meth c D cyI cyZ adr A cells slots QF C RT0 H locs lsA hR hS hL (okcons (inR_toInt _) hv.2)
  refine lv_iand C.1 C.2.1 hd ?_
  have e1 : Int32.ofInt a &&& Int32.ofInt b = Int32.ofInt (iand a b) := (Int32.ofInt_toInt _).symm
  rw [e1]
  exact kk
theorem g_ior {a b : Int} (hd : decode (mC d) pc = .ok (.ior, 1)) (k : GO xs d (pc + 1) ls (.inl (ior a b) :: st) σ Q) : GO xs d pc ls (.inl b :: .inl a :: st) σ Q := by
  intro p l e R s m args below meth c D cyI cyZ adr A cells slots QF C RT0 H locs lsA hR hS hL hst
  have hv := List.forall_mem_cons.mp (List.forall_mem_cons.mp hst).2
  have kk := k p l e R s m args below meth c D cyI cyZ adr A cells slots QF C RT0 H locs lsA hR hS hL (okcons (inR_toInt _) hv.2)
  refine lv_ior C.1 C.2.1 hd ?_
  have e1 : Int32.ofInt a ||| Int32.ofInt b = Int32.ofInt (ior a b) := (Int32.ofInt_toInt _).symm
  rw [e1]
  exact kk
theorem g_ishl {a b : Int} (hd : decode (mC d) pc = .ok (.ishl, 1)) (k : GO xs d (pc + 1) ls (.inl (ishl a b) :: st) σ Q) : GO xs d pc ls (.inl b :: .inl a :: st) σ Q := by
  intro p l e R s m args below meth c D cyI cyZ adr A cells slots QF C RT0 H locs lsA hR hS hL hst
  have hv := List.forall_mem_cons.mp (List.forall_mem_cons.mp hst).2
  have kk := k p l e R s m args below meth c D cyI cyZ adr A cells slots QF C RT0 H locs lsA hR hS hL (okcons (inR_toInt _) hv.2)
  refine lv_ishl C.1 C.2.1 hd ?_
  have e1 : Int32.ofInt a <<< (Int32.ofInt b &&& 31) = Int32.ofInt (ishl a b) := (Int32.ofInt_toInt _).symm
  rw [e1]
  exact kk
theorem g_ishr {a b : Int} (hd : decode (mC d) pc = .ok (.ishr, 1)) (k : GO xs d (pc + 1) ls (.inl (ishr a b) :: st) σ Q) : GO xs d pc ls (.inl b :: .inl a :: st) σ Q := by
  intro p l e R s m args below meth c D cyI cyZ adr A cells slots QF C RT0 H locs lsA hR hS hL hst
  have hv := List.forall_mem_cons.mp (List.forall_mem_cons.mp hst).2
  have kk := k p l e R s m args below meth c D cyI cyZ adr A cells slots QF C RT0 H locs lsA hR hS hL (okcons (inR_toInt _) hv.2)
  refine lv_ishr C.1 C.2.1 hd ?_
  have e1 : Int32.ofInt a >>> (Int32.ofInt b &&& 31) = Int32.ofInt (ishr a b) := (Int32.ofInt_toInt _).symm
  rw [e1]
  exact kk
-- branches
theorem g_goto {off : Int} {tgt : Nat} (hd : decode (mC d) pc = .ok (.goto off, 3)) (ht : (pc : Int) + off = (tgt : Int)) (k : GO xs d tgt ls st σ Q) : GO xs d pc ls st σ Q := by
  intro p l e R s m args below meth c D cyI cyZ adr A cells slots QF C RT0 H locs lsA hR hS hL hst
  exact lv_goto C.1 C.2.1 hd ht (k p l e R s m args below meth c D cyI cyZ adr A cells slots QF C RT0 H locs lsA hR hS hL hst)
theorem g_icmp_eq {a b : Int} {off : Int} {tgt : Nat} (hd : decode (mC d) pc = .ok (.if_icmp .eq off, 3)) (ht : (pc : Int) + off = (tgt : Int)) (kt : a = b → GO xs d tgt ls st σ Q) (kf : a ≠ b → GO xs d (pc + 3) ls st σ Q) : GO xs d pc ls (.inl b :: .inl a :: st) σ Q := by
  intro p l e R s m args below meth c D cyI cyZ adr A cells slots QF C RT0 H locs lsA hR hS hL hst
  have hv := List.forall_mem_cons.mp hst
  have hv2 := List.forall_mem_cons.mp hv.2
  have hb : inR b := hv.1
  have ha : inR a := hv2.1
  refine lv_icmp_eq (x := Int32.ofInt a) (y := Int32.ofInt b) C.1 C.2.1 hd ht (fun h => kt ?_ p l e R s m args below meth c D cyI cyZ adr A cells slots QF C RT0 H locs lsA hR hS hL  hv2.2) (fun h => kf ?_ p l e R s m args below meth c D cyI cyZ adr A cells slots QF C RT0 H locs lsA hR hS hL  hv2.2)
  · simp only [ne_eq, ge_iff_le, gt_iff_lt, ofI_eq ha hb, ofI_lt ha hb, ofI_le ha hb, ofI_lt hb ha, ofI_le hb ha] at h
    omega
  · simp only [ne_eq, ge_iff_le, gt_iff_lt, ofI_eq ha hb, ofI_lt ha hb, ofI_le ha hb, ofI_lt hb ha, ofI_le hb ha] at h
    omega
theorem g_if_eq {a : Int} {off : Int} {tgt : Nat} (hd : decode (mC d) pc = .ok (.ifCond .eq off, 3)) (ht : (pc : Int) + off = (tgt : Int)) (kt : a = 0 → GO xs d tgt ls st σ Q) (kf : a ≠ 0 → GO xs d (pc + 3) ls st σ Q) : GO xs d pc ls (.inl a :: st) σ Q := by
  intro p l e R s m args below meth c D cyI cyZ adr A cells slots QF C RT0 H locs lsA hR hS hL hst
  have hv := List.forall_mem_cons.mp hst
  have ha : inR a := hv.1
  have hb : inR 0 := by decide
  refine lv_if_eq (x := Int32.ofInt a) C.1 C.2.1 hd ht (fun h => kt ?_ p l e R s m args below meth c D cyI cyZ adr A cells slots QF C RT0 H locs lsA hR hS hL  hv.2) (fun h => kf ?_ p l e R s m args below meth c D cyI cyZ adr A cells slots QF C RT0 H locs lsA hR hS hL  hv.2)
  · simp only [ne_eq, ge_iff_le, gt_iff_lt, ← ofI_0, ofI_eq ha hb, ofI_lt ha hb, ofI_le ha hb, ofI_lt hb ha, ofI_le hb ha] at h
    omega
  · simp only [ne_eq, ge_iff_le, gt_iff_lt, ← ofI_0, ofI_eq ha hb, ofI_lt ha hb, ofI_le ha hb, ofI_lt hb ha, ofI_le hb ha] at h
    omega
theorem g_icmp_ne {a b : Int} {off : Int} {tgt : Nat} (hd : decode (mC d) pc = .ok (.if_icmp .ne off, 3)) (ht : (pc : Int) + off = (tgt : Int)) (kt : a ≠ b → GO xs d tgt ls st σ Q) (kf : a = b → GO xs d (pc + 3) ls st σ Q) : GO xs d pc ls (.inl b :: .inl a :: st) σ Q := by
  intro p l e R s m args below meth c D cyI cyZ adr A cells slots QF C RT0 H locs lsA hR hS hL hst
  have hv := List.forall_mem_cons.mp hst
  have hv2 := List.forall_mem_cons.mp hv.2
  have hb : inR b := hv.1
  have ha : inR a := hv2.1
  refine lv_icmp_ne (x := Int32.ofInt a) (y := Int32.ofInt b) C.1 C.2.1 hd ht (fun h => kt ?_ p l e R s m args below meth c D cyI cyZ adr A cells slots QF C RT0 H locs lsA hR hS hL  hv2.2) (fun h => kf ?_ p l e R s m args below meth c D cyI cyZ adr A cells slots QF C RT0 H locs lsA hR hS hL  hv2.2)
  · simp only [ne_eq, ge_iff_le, gt_iff_lt, ofI_eq ha hb, ofI_lt ha hb, ofI_le ha hb, ofI_lt hb ha, ofI_le hb ha] at h
    omega
  · simp only [ne_eq, ge_iff_le, gt_iff_lt, ofI_eq ha hb, ofI_lt ha hb, ofI_le ha hb, ofI_lt hb ha, ofI_le hb ha] at h
    omega
theorem g_if_ne {a : Int} {off : Int} {tgt : Nat} (hd : decode (mC d) pc = .ok (.ifCond .ne off, 3)) (ht : (pc : Int) + off = (tgt : Int)) (kt : a ≠ 0 → GO xs d tgt ls st σ Q) (kf : a = 0 → GO xs d (pc + 3) ls st σ Q) : GO xs d pc ls (.inl a :: st) σ Q := by
  intro p l e R s m args below meth c D cyI cyZ adr A cells slots QF C RT0 H locs lsA hR hS hL hst
  have hv := List.forall_mem_cons.mp hst
  have ha : inR a := hv.1
  have hb : inR 0 := by decide
  refine lv_if_ne (x := Int32.ofInt a) C.1 C.2.1 hd ht (fun h => kt ?_ p l e R s m args below meth c D cyI cyZ adr A cells slots QF C RT0 H locs lsA hR hS hL  hv.2) (fun h => kf ?_ p l e R s m args below meth c D cyI cyZ adr A cells slots QF C RT0 H locs lsA hR hS hL  hv.2)
  · simp only [ne_eq, ge_iff_le, gt_iff_lt, ← ofI_0, ofI_eq ha hb, ofI_lt ha hb, ofI_le ha hb, ofI_lt hb ha, ofI_le hb ha] at h
    omega
  · simp only [ne_eq, ge_iff_le, gt_iff_lt, ← ofI_0, ofI_eq ha hb, ofI_lt ha hb, ofI_le ha hb, ofI_lt hb ha, ofI_le hb ha] at h
    omega
theorem g_icmp_lt {a b : Int} {off : Int} {tgt : Nat} (hd : decode (mC d) pc = .ok (.if_icmp .lt off, 3)) (ht : (pc : Int) + off = (tgt : Int)) (kt : a < b → GO xs d tgt ls st σ Q) (kf : b ≤ a → GO xs d (pc + 3) ls st σ Q) : GO xs d pc ls (.inl b :: .inl a :: st) σ Q := by
  intro p l e R s m args below meth c D cyI cyZ adr A cells slots QF C RT0 H locs lsA hR hS hL hst
  have hv := List.forall_mem_cons.mp hst
  have hv2 := List.forall_mem_cons.mp hv.2
  have hb : inR b := hv.1
  have ha : inR a := hv2.1
  refine lv_icmp_lt (x := Int32.ofInt a) (y := Int32.ofInt b) C.1 C.2.1 hd ht (fun h => kt ?_ p l e R s m args below meth c D cyI cyZ adr A cells slots QF C RT0 H locs lsA hR hS hL  hv2.2) (fun h => kf ?_ p l e R s m args below meth c D cyI cyZ adr A cells slots QF C RT0 H locs lsA hR hS hL  hv2.2)
  · simp only [ne_eq, ge_iff_le, gt_iff_lt, ofI_eq ha hb, ofI_lt ha hb, ofI_le ha hb, ofI_lt hb ha, ofI_le hb ha] at h
    omega
  · simp only [ne_eq, ge_iff_le, gt_iff_lt, ofI_eq ha hb, ofI_lt ha hb, ofI_le ha hb, ofI_lt hb ha, ofI_le hb ha] at h
    omega
theorem g_if_lt {a : Int} {off : Int} {tgt : Nat} (hd : decode (mC d) pc = .ok (.ifCond .lt off, 3)) (ht : (pc : Int) + off = (tgt : Int)) (kt : a < 0 → GO xs d tgt ls st σ Q) (kf : 0 ≤ a → GO xs d (pc + 3) ls st σ Q) : GO xs d pc ls (.inl a :: st) σ Q := by
  intro p l e R s m args below meth c D cyI cyZ adr A cells slots QF C RT0 H locs lsA hR hS hL hst
  have hv := List.forall_mem_cons.mp hst
  have ha : inR a := hv.1
  have hb : inR 0 := by decide
  refine lv_if_lt (x := Int32.ofInt a) C.1 C.2.1 hd ht (fun h => kt ?_ p l e R s m args below meth c D cyI cyZ adr A cells slots QF C RT0 H locs lsA hR hS hL  hv.2) (fun h => kf ?_ p l e R s m args below meth c D cyI cyZ adr A cells slots QF C RT0 H locs lsA hR hS hL  hv.2)
  · simp only [ne_eq, ge_iff_le, gt_iff_lt, ← ofI_0, ofI_eq ha hb, ofI_lt ha hb, ofI_le ha hb, ofI_lt hb ha, ofI_le hb ha] at h
    omega
  · simp only [ne_eq, ge_iff_le, gt_iff_lt, ← ofI_0, ofI_eq ha hb, ofI_lt ha hb, ofI_le ha hb, ofI_lt hb ha, ofI_le hb ha] at h
    omega
theorem g_icmp_ge {a b : Int} {off : Int} {tgt : Nat} (hd : decode (mC d) pc = .ok (.if_icmp .ge off, 3)) (ht : (pc : Int) + off = (tgt : Int)) (kt : b ≤ a → GO xs d tgt ls st σ Q) (kf : a < b → GO xs d (pc + 3) ls st σ Q) : GO xs d pc ls (.inl b :: .inl a :: st) σ Q := by
  intro p l e R s m args below meth c D cyI cyZ adr A cells slots QF C RT0 H locs lsA hR hS hL hst
  have hv := List.forall_mem_cons.mp hst
  have hv2 := List.forall_mem_cons.mp hv.2
  have hb : inR b := hv.1
  have ha : inR a := hv2.1
  refine lv_icmp_ge (x := Int32.ofInt a) (y := Int32.ofInt b) C.1 C.2.1 hd ht (fun h => kt ?_ p l e R s m args below meth c D cyI cyZ adr A cells slots QF C RT0 H locs lsA hR hS hL  hv2.2) (fun h => kf ?_ p l e R s m args below meth c D cyI cyZ adr A cells slots QF C RT0 H locs lsA hR hS hL  hv2.2)
  · simp only [ne_eq, ge_iff_le, gt_iff_lt, ofI_eq ha hb, ofI_lt ha hb, ofI_le ha hb, ofI_lt hb ha, ofI_le hb ha] at h
    omega
  · simp only [ne_eq, ge_iff_le, gt_iff_lt, ofI_eq ha hb, ofI_lt ha hb, ofI_le ha hb, ofI_lt hb ha, ofI_le hb ha] at h
    omega
theorem g_if_ge {a : Int} {off : Int} {tgt : Nat} (hd : decode (mC d) pc = .ok (.ifCond .ge off, 3)) (ht : (pc : Int) + off = (tgt : Int)) (kt : 0 ≤ a → GO xs d tgt ls st σ Q) (kf : a < 0 → GO xs d (pc + 3) ls st σ Q) : GO xs d pc ls (.inl a :: st) σ Q := by
  intro p l e R s m args below meth c D cyI cyZ adr A cells slots QF C RT0 H locs lsA hR hS hL hst
  have hv := List.forall_mem_cons.mp hst
  have ha : inR a := hv.1
  have hb : inR 0 := by decide
  refine lv_if_ge (x := Int32.ofInt a) C.1 C.2.1 hd ht (fun h => kt ?_ p l e R s m args below meth c D cyI cyZ adr A cells slots QF C RT0 H locs lsA hR hS hL  hv.2) (fun h => kf ?_ p l e R s m args below meth c D cyI cyZ adr A cells slots QF C RT0 H locs lsA hR hS hL  hv.2)
  · simp only [ne_eq, ge_iff_le, gt_iff_lt, ← ofI_0, ofI_eq ha hb, ofI_lt ha hb, ofI_le ha hb, ofI_lt hb ha, ofI_le hb ha] at h
    omega
  · simp only [ne_eq, ge_iff_le, gt_iff_lt, ← ofI_0, ofI_eq ha hb, ofI_lt ha hb, ofI_le ha hb, ofI_lt hb ha, ofI_le hb ha] at h
    omega
theorem g_icmp_gt {a b : Int} {off : Int} {tgt : Nat} (hd : decode (mC d) pc = .ok (.if_icmp .gt off, 3)) (ht : (pc : Int) + off = (tgt : Int)) (kt : b < a → GO xs d tgt ls st σ Q) (kf : a ≤ b → GO xs d (pc + 3) ls st σ Q) : GO xs d pc ls (.inl b :: .inl a :: st) σ Q := by
  intro p l e R s m args below meth c D cyI cyZ adr A cells slots QF C RT0 H locs lsA hR hS hL hst
  have hv := List.forall_mem_cons.mp hst
  have hv2 := List.forall_mem_cons.mp hv.2
  have hb : inR b := hv.1
  have ha : inR a := hv2.1
  refine lv_icmp_gt (x := Int32.ofInt a) (y := Int32.ofInt b) C.1 C.2.1 hd ht (fun h => kt ?_ p l e R s m args below meth c D cyI cyZ adr A cells slots QF C RT0 H locs lsA hR hS hL  hv2.2) (fun h => kf ?_ p l e R s m args below meth c D cyI cyZ adr A cells slots QF C RT0 H locs lsA hR hS hL  hv2.2)
  · simp only [ne_eq, ge_iff_le, gt_iff_lt, ofI_eq ha hb, ofI_lt ha hb, ofI_le ha hb, ofI_lt hb ha, ofI_le hb ha] at h
    omega
  · simp only [ne_eq, ge_iff_le, gt_iff_lt, ofI_eq ha hb, ofI_lt ha hb, ofI_le ha hb, ofI_lt hb ha, ofI_le hb ha] at h
    omega
theorem g_if_gt {a : Int} {off : Int} {tgt : Nat} (hd : decode (mC d) pc = .ok (.ifCond .gt off, 3)) (ht : (pc : Int) + off = (tgt : Int)) (kt : 0 < a → GO xs d tgt ls st σ Q) (kf : a ≤ 0 → GO xs d (pc + 3) ls st σ Q) : GO xs d pc ls (.inl a :: st) σ Q := by
  intro p l e R s m args below meth c D cyI cyZ adr A cells slots QF C RT0 H locs lsA hR hS hL hst
  have hv := List.forall_mem_cons.mp hst
  have ha : inR a := hv.1
  have hb : inR 0 := by decide
  refine lv_if_gt (x := Int32.ofInt a) C.1 C.2.1 hd ht (fun h => kt ?_ p l e R s m args below meth c D cyI cyZ adr A cells slots QF C RT0 H locs lsA hR hS hL  hv.2) (fun h => kf ?_ p l e R s m args below meth c D cyI cyZ adr A cells slots QF C RT0 H locs lsA hR hS hL  hv.2)
  · simp only [ne_eq, ge_iff_le, gt_iff_lt, ← ofI_0, ofI_eq ha hb, ofI_lt ha hb, ofI_le ha hb, ofI_lt hb ha, ofI_le hb ha] at h
    omega
  · simp only [ne_eq, ge_iff_le, gt_iff_lt, ← ofI_0, ofI_eq ha hb, ofI_lt ha hb, ofI_le ha hb, ofI_lt hb ha, ofI_le hb ha] at h
    omega
theorem g_icmp_le {a b : Int} {off : Int} {tgt : Nat} (hd : decode (mC d) pc = .ok (.if_icmp .le off, 3)) (ht : (pc : Int) + off = (tgt : Int)) (kt : a ≤ b → GO xs d tgt ls st σ Q) (kf : b < a → GO xs d (pc + 3) ls st σ Q) : GO xs d pc ls (.inl b :: .inl a :: st) σ Q := by
  intro p l e R s m args below meth c D cyI cyZ adr A cells slots QF C RT0 H locs lsA hR hS hL hst
  have hv := List.forall_mem_cons.mp hst
  have hv2 := List.forall_mem_cons.mp hv.2
  have hb : inR b := hv.1
  have ha : inR a := hv2.1
  refine lv_icmp_le (x := Int32.ofInt a) (y := Int32.ofInt b) C.1 C.2.1 hd ht (fun h => kt ?_ p l e R s m args below meth c D cyI cyZ adr A cells slots QF C RT0 H locs lsA hR hS hL  hv2.2) (fun h => kf ?_ p l e R s m args below meth c D cyI cyZ adr A cells slots QF C RT0 H locs lsA hR hS hL  hv2.2)
  · simp only [ne_eq, ge_iff_le, gt_iff_lt, ofI_eq ha hb, ofI_lt ha hb, ofI_le ha hb, ofI_lt hb ha, ofI_le hb ha] at h
    omega
  · simp only [ne_eq, ge_iff_le, gt_iff_lt, ofI_eq ha hb, ofI_lt ha hb, ofI_le ha hb, ofI_lt hb ha, ofI_le hb ha] at h
    omega
theorem g_if_le {a : Int} {off : Int} {tgt : Nat} (hd : decode (mC d) pc = .ok (.ifCond .le off, 3)) (ht : (pc : Int) + off = (tgt : Int)) (kt : a ≤ 0 → GO xs d tgt ls st σ Q) (kf : 0 < a → GO xs d (pc + 3) ls st σ Q) : GO xs d pc ls (.inl a :: st) σ Q := by
  intro p l e R s m args below meth c D cyI cyZ adr A cells slots QF C RT0 H locs lsA hR hS hL hst
  have hv := List.forall_mem_cons.mp hst
  have ha : inR a := hv.1
  have hb : inR 0 := by decide
  refine lv_if_le (x := Int32.ofInt a) C.1 C.2.1 hd ht (fun h => kt ?_ p l e R s m args below meth c D cyI cyZ adr A cells slots QF C RT0 H locs lsA hR hS hL  hv.2) (fun h => kf ?_ p l e R s m args below meth c D cyI cyZ adr A cells slots QF C RT0 H locs lsA hR hS hL  hv.2)
  · simp only [ne_eq, ge_iff_le, gt_iff_lt, ← ofI_0, ofI_eq ha hb, ofI_lt ha hb, ofI_le ha hb, ofI_lt hb ha, ofI_le hb ha] at h
    omega
  · simp only [ne_eq, ge_iff_le, gt_iff_lt, ← ofI_0, ofI_eq ha hb, ofI_lt ha hb, ofI_le ha hb, ofI_lt hb ha, ofI_le hb ha] at h
    omega
-- fields
def FL (own : String) (idx ci j : Nat) : Prop := ∃ (C : String) (T : u_T) (N : Nat), vwCl[ci]? = some (C, T, N) ∧ j < N ∧ (T j).1 = C ∧ Cond.fieldLink own idx C (T j).2.1 (T j).2.2.1 ∈ TB ∧ ∀ w ∈ u_ws C T N, w ∈ TB
def FP (own : String) (idx ci j : Nat) (ty : FieldType) : Prop := ∃ (C : String) (T : u_T) (N : Nat) (ty0 : Nat → FieldType), vwCl[ci]? = some (C, T, N) ∧ j < N ∧ (T j).1 = C ∧ Cond.fieldLink own idx C (T j).2.1 (T j).2.2.1 ∈ TB ∧ (∀ w ∈ u_ws C T N, w ∈ TB) ∧ (∀ k, k < N → parseFieldDescriptor (T k).2.2.1 = some (ty0 k)) ∧ (∀ a, a < N → ∀ b, b < N → a ≠ b → (T a).2.1 ≠ (T b).2.1) ∧ (T j).2.2.2 = false ∧ ty0 j = ty
theorem cell_obj {cyI cyZ : ClassId} {adr : Nat → Nat} {r ci n : Nat} (hk : shp r = (ci, n)) (h12 : ci < 12) : cellE cyI cyZ adr σ r = .inr (ci, (List.range n).map (fv adr σ r)) := by
  unfold cellE
  rw [hk, if_pos h12]
theorem cell_ari {cyI cyZ : ClassId} {adr : Nat → Nat} {r n : Nat} (hk : shp r = (12, n)) : cellE cyI cyZ adr σ r = .inl (cyI, n, .inl (fun j => Int32.ofInt (σ r j))) := by
  unfold cellE
  rw [hk, if_neg (show ¬ (12 : Nat) < 12 by decide), if_pos rfl]
theorem cell_arz {cyI cyZ : ClassId} {adr : Nat → Nat} {r n : Nat} (hk : shp r = (13, n)) : cellE cyI cyZ adr σ r = .inl (cyZ, n, .inl (fun j => Int32.ofInt (σ r j))) := by
  unfold cellE
  rw [hk, if_neg (show ¬ (13 : Nat) < 12 by decide), if_neg (show ¬ (13 : Nat) = 12 by decide)]
theorem vw_lt {ci : Nat} {q : vw_C} (h : vwCl[ci]? = some q) : ci < 12 := (List.getElem?_eq_some_iff.mp h).1
theorem g_getI {idx ci j r n : Nat} (hf : FL (mY d).cls idx ci j) (hr : r < NC) (hk : shp r = (ci, n)) (hj : j < n) (hn : rfs r j = none) (hd : decode (mC d) pc = .ok (.getfield idx, 3)) (k : GO xs d (pc + 3) ls (.inl (σ r j) :: st) σ Q) : GO xs d pc ls (.inr r :: st) σ Q := by
  intro p l e R s m args below meth c D cyI cyZ adr A cells slots QF C RT0 H locs lsA hR hS hL hst
  obtain ⟨CC, TT, N, hc, hjN, hsame, hlink, hin⟩ := hf
  have hv := List.forall_mem_cons.mp hst
  have he : (wsOf cyI cyZ adr σ)[r]? = some (adr r, .inr (ci, (List.range n).map (fv adr σ r))) := by rw [ws_at hr, cell_obj hk (vw_lt hc)]
  refine va_get (v := .int (Int32.ofInt (σ r j))) C.1 C.2.1 C.2.2.2.2.1 hin C.2.2.2.1 C.2.2.2.2.2.2.1 hR.1 r he hc j hjN (C.2.2.2.2.1 _ hlink) (fun x h9 => by rw [hsame] at h9; exact h9) ?_ hd
    (k p l e R s m args below meth c D cyI cyZ adr A cells slots QF C RT0 H locs lsA hR hS hL (okcons (hR.2 r j) hv.2))
  simp [hj, fv, hn]
theorem g_getR {idx ci j r n r' : Nat} (hf : FL (mY d).cls idx ci j) (hr : r < NC) (hk : shp r = (ci, n)) (hj : j < n) (hn : rfs r j = some r') (hd : decode (mC d) pc = .ok (.getfield idx, 3)) (k : GO xs d (pc + 3) ls (.inr r' :: st) σ Q) : GO xs d pc ls (.inr r :: st) σ Q := by
  intro p l e R s m args below meth c D cyI cyZ adr A cells slots QF C RT0 H locs lsA hR hS hL hst
  obtain ⟨CC, TT, N, hc, hjN, hsame, hlink, hin⟩ := hf
  have hv := List.forall_mem_cons.mp hst
  have he : (wsOf cyI cyZ adr σ)[r]? = some (adr r, .inr (ci, (List.range n).map (fv adr σ r))) := by rw [ws_at hr, cell_obj hk (vw_lt hc)]
  refine va_get (v := .ref (adr r')) C.1 C.2.1 C.2.2.2.2.1 hin C.2.2.2.1 C.2.2.2.2.2.2.1 hR.1 r he hc j hjN (C.2.2.2.2.1 _ hlink) (fun x h9 => by rw [hsame] at h9; exact h9) ?_ hd
    (k p l e R s m args below meth c D cyI cyZ adr A cells slots QF C RT0 H locs lsA hR hS hL (okcons trivial hv.2))
  simp [hj, fv, hn]
theorem fs_set {adr : Nat → Nat} {r j n : Nat} {v : Int} (hn : rfs r j = none) : ((List.range n).map (fv adr σ r)).set j (.int (Int32.ofInt v)) = (List.range n).map (fv adr (mu σ r j v) r) := by
  apply List.ext_getElem?
  intro i
  by_cases h : i = j
  · subst h
    by_cases hi : i < n
    · rw [List.getElem?_set_self (by simpa using hi)]
      simp [hi, fv, hn, mu]
    · rw [List.getElem?_eq_none (by simp; omega), List.getElem?_eq_none (by simp; omega)]
  · rw [List.getElem?_set_ne (Ne.symm h)]
    by_cases hi : i < n
    · simp [hi, fv, mu, h]
    · rw [List.getElem?_eq_none (by simp; omega), List.getElem?_eq_none (by simp; omega)]
theorem g_putI {idx ci j r n : Nat} {ty : FieldType} {v : Int} (hf : FP (mY d).cls idx ci j ty) (hr : r < NC) (hk : shp r = (ci, n)) (hj : j < n) (hn : rfs r j = none) (hty : ty = .int ∨ (ty = .boolean ∧ (v = 0 ∨ v = 1))) (hd : decode (mC d) pc = .ok (.putfield idx, 3)) (k : GO xs d (pc + 3) ls st (mu σ r j v) Q) : GO xs d pc ls (.inl v :: .inr r :: st) σ Q := by
  intro p l e R s m args below meth c D cyI cyZ adr A cells slots QF C RT0 H locs lsA hR hS hL hst
  obtain ⟨CC, TT, N, ty0, hc, hjN, hsame, hlink, hin, hpd, hnm, hfin, hty0⟩ := hf
  have hv := List.forall_mem_cons.mp hst
  have hv2 := List.forall_mem_cons.mp hv.2
  have he : (wsOf cyI cyZ adr σ)[r]? = some (adr r, .inr (ci, (List.range n).map (fv adr σ r))) := by rw [ws_at hr, cell_obj hk (vw_lt hc)]
  have hpty : parseFieldDescriptor (TT j).2.2.1 = some ty := by rw [← hty0]; exact hpd j hjN
  refine va_put (v := .int (Int32.ofInt v)) (ty := ty) C.1 C.2.1 C.2.2.2.2.1 hin ty0 hpd hnm C.2.2.2.1 C.2.2.2.2.2.2.1 hR.1 (C.2.2.2.2.2.2.2.1.D cyI cyZ σ) hS r he hc j hjN (C.2.2.2.2.1 _ hlink) (fun x h9 => by rw [hsame] at h9; exact h9) hfin hpty ?_ ?_ (by simpa using hj) hd (fun H1 locs1 hP1 hD1 hS1 => ?_)
  · rcases hty with h | ⟨h, h2 | h2⟩
    · rw [h]; rfl
    · rw [h, h2]; rfl
    · rw [h, h2]; rfl
  · rcases hty with h | ⟨h, h2 | h2⟩
    · rw [h]; rfl
    · rw [h, h2]; rfl
    · rw [h, h2]; rfl
  · rw [fs_set hn] at hP1
    have e1 := ws_set (cyI := cyI) (cyZ := cyZ) (adr := adr) (σ := σ) (σ' := mu σ r j v) hr mu_ne
    rw [cell_obj hk (vw_lt hc)] at e1
    rw [e1] at hP1
    exact k p l e R s m args below meth c D cyI cyZ adr A cells slots QF C RT0 H1 locs1 lsA ⟨hP1, mu_inR hR.2 hv.1⟩ hS1 hL hv2.2
-- arrays
theorem g_iald {r n : Nat} {i : Int} (hr : r < NC) (hk : shp r = (12, n)) (h0 : 0 ≤ i) (hn : i < (n : Int)) (hd : decode (mC d) pc = .ok (.iaload, 1)) (k : GO xs d (pc + 1) ls (.inl (σ r i.toNat) :: st) σ Q) : GO xs d pc ls (.inl i :: .inr r :: st) σ Q := by
  intro p l e R s m args below meth c D cyI cyZ adr A cells slots QF C RT0 H locs lsA hR hS hL hst
  have hv := List.forall_mem_cons.mp hst
  have hv2 := List.forall_mem_cons.mp hv.2
  have hi : inR i := hv.1
  have he : (wsOf cyI cyZ adr σ)[r]? = some (adr r, .inl (cyI, n, .inl (fun j => Int32.ofInt (σ r j)))) := by rw [ws_at hr, cell_ari hk]
  refine va_iald C.1 C.2.1 C.2.2.2.2.2.2.1 hR.1 r 0 he rfl (ofI_in hi h0 hn) hd ?_
  rw [ofI_clamp hi]
  exact k p l e R s m args below meth c D cyI cyZ adr A cells slots QF C RT0 H locs lsA hR hS hL (okcons (hR.2 r _) hv2.2)
theorem g_zald {r n : Nat} {i : Int} (hr : r < NC) (hk : shp r = (13, n)) (h0 : 0 ≤ i) (hn : i < (n : Int)) (hd : decode (mC d) pc = .ok (.baload, 1)) (k : GO xs d (pc + 1) ls (.inl (σ r i.toNat) :: st) σ Q) : GO xs d pc ls (.inl i :: .inr r :: st) σ Q := by
  intro p l e R s m args below meth c D cyI cyZ adr A cells slots QF C RT0 H locs lsA hR hS hL hst
  have hv := List.forall_mem_cons.mp hst
  have hv2 := List.forall_mem_cons.mp hv.2
  have hi : inR i := hv.1
  have he : (wsOf cyI cyZ adr σ)[r]? = some (adr r, .inl (cyZ, n, .inl (fun j => Int32.ofInt (σ r j)))) := by rw [ws_at hr, cell_arz hk]
  refine va_zald C.1 C.2.1 C.2.2.2.2.2.2.1 hR.1 r 1 he rfl (ofI_in hi h0 hn) hd ?_
  rw [ofI_clamp hi]
  exact k p l e R s m args below meth c D cyI cyZ adr A cells slots QF C RT0 H locs lsA hR hS hL (okcons (hR.2 r _) hv2.2)
theorem row_upd {r : Nat} {i v : Int} : upd (fun j => Int32.ofInt (σ r j)) i.toNat (Int32.ofInt v) = fun j => Int32.ofInt (mu σ r i.toNat v r j) := by
  funext j
  unfold upd mu
  by_cases h : j = i.toNat
  · rw [if_pos h, if_pos ⟨rfl, h⟩]
  · rw [if_neg h, if_neg (fun q => h q.2)]
theorem g_iast {r n : Nat} {i v : Int} (hr : r < NC) (hk : shp r = (12, n)) (h0 : 0 ≤ i) (hn : i < (n : Int)) (hd : decode (mC d) pc = .ok (.iastore, 1)) (k : GO xs d (pc + 1) ls st (mu σ r i.toNat v) Q) : GO xs d pc ls (.inl v :: .inl i :: .inr r :: st) σ Q := by
  intro p l e R s m args below meth c D cyI cyZ adr A cells slots QF C RT0 H locs lsA hR hS hL hst
  have hv := List.forall_mem_cons.mp hst
  have hv2 := List.forall_mem_cons.mp hv.2
  have hv3 := List.forall_mem_cons.mp hv2.2
  have hi : inR i := hv2.1
  have he : (wsOf cyI cyZ adr σ)[r]? = some (adr r, .inl (cyI, n, .inl (fun j => Int32.ofInt (σ r j)))) := by rw [ws_at hr, cell_ari hk]
  refine va_iast C.1 C.2.1 C.2.2.2.2.2.2.1 hR.1 (C.2.2.2.2.2.2.2.1.D cyI cyZ σ) hS r 0 he rfl (ofI_in hi h0 hn) hd (fun H1 locs1 hP1 hD1 hS1 => ?_)
  rw [ofI_clamp hi, row_upd] at hP1
  have e1 := ws_set (cyI := cyI) (cyZ := cyZ) (adr := adr) (σ := σ) (σ' := mu σ r i.toNat v) hr mu_ne
  rw [cell_ari hk] at e1
  rw [e1] at hP1
  exact k p l e R s m args below meth c D cyI cyZ adr A cells slots QF C RT0 H1 locs1 lsA ⟨hP1, mu_inR hR.2 hv.1⟩ hS1 hL hv3.2
theorem g_zast {r n : Nat} {i v : Int} (hr : r < NC) (hk : shp r = (13, n)) (h0 : 0 ≤ i) (hn : i < (n : Int)) (hb : v = 0 ∨ v = 1) (hd : decode (mC d) pc = .ok (.bastore, 1)) (k : GO xs d (pc + 1) ls st (mu σ r i.toNat v) Q) : GO xs d pc ls (.inl v :: .inl i :: .inr r :: st) σ Q := by
  intro p l e R s m args below meth c D cyI cyZ adr A cells slots QF C RT0 H locs lsA hR hS hL hst
  have hv := List.forall_mem_cons.mp hst
  have hv2 := List.forall_mem_cons.mp hv.2
  have hv3 := List.forall_mem_cons.mp hv2.2
  have hi : inR i := hv2.1
  have he : (wsOf cyI cyZ adr σ)[r]? = some (adr r, .inl (cyZ, n, .inl (fun j => Int32.ofInt (σ r j)))) := by rw [ws_at hr, cell_arz hk]
  refine va_zast C.1 C.2.1 C.2.2.2.2.2.2.1 hR.1 (C.2.2.2.2.2.2.2.1.D cyI cyZ σ) hS r 1 he rfl (ofI_in hi h0 hn) hd (fun H1 locs1 hP1 hD1 hS1 => ?_)
  have eb : vp_nar .boolean (Int32.ofInt v) = Int32.ofInt v := by
    rcases hb with h | h <;> rw [h] <;> rfl
  rw [ofI_clamp hi, eb, row_upd] at hP1
  have e1 := ws_set (cyI := cyI) (cyZ := cyZ) (adr := adr) (σ := σ) (σ' := mu σ r i.toNat v) hr mu_ne
  rw [cell_arz hk] at e1
  rw [e1] at hP1
  exact k p l e R s m args below meth c D cyI cyZ adr A cells slots QF C RT0 H1 locs1 lsA ⟨hP1, mu_inR hR.2 hv.1⟩ hS1 hL hv3.2
theorem g_alen {r n : Nat} (hr : r < NC) (hk : shp r = (12, n)) (hn : n < 2147483648) (hd : decode (mC d) pc = .ok (.arraylength, 1)) (k : GO xs d (pc + 1) ls (.inl (n : Int) :: st) σ Q) : GO xs d pc ls (.inr r :: st) σ Q := by
  intro p l e R s m args below meth c D cyI cyZ adr A cells slots QF C RT0 H locs lsA hR hS hL hst
  have hv := List.forall_mem_cons.mp hst
  have he : (wsOf cyI cyZ adr σ)[r]? = some (adr r, .inl (cyI, n, .inl (fun j => Int32.ofInt (σ r j)))) := by rw [ws_at hr, cell_ari hk]
  exact va_alen (v := Int32.ofInt (n : Int)) C.1 C.2.1 C.2.2.2.2.2.2.1 hR.1 r 0 he rfl Int32.ofInt_eq_ofNat.symm hd (k p l e R s m args below meth c D cyI cyZ adr A cells slots QF C RT0 H locs lsA hR hS hL (okcons (show inR (n : Int) from ⟨by omega, by omega⟩) hv.2))
theorem g_sld {L : Nat} {f : Nat → Int} {i : Int} (hx : xs = some (L, f)) (h0 : 0 ≤ i) (hn : i < (L : Int)) (hd : decode (mC d) pc = .ok (.iaload, 1)) (k : GO xs d (pc + 1) ls (.inl (f i.toNat) :: st) σ Q) : GO xs d pc ls (.inl i :: .inr NC :: st) σ Q := by
  intro p l e R s m args below meth c D cyI cyZ adr A cells slots QF C RT0 H locs lsA hR hS hL hst
  have hv := List.forall_mem_cons.mp hst
  have hv2 := List.forall_mem_cons.mp hv.2
  have hi : inR i := hv.1
  obtain ⟨hX, hbl, hbA, hLL, hfr⟩ := C.2.2.2.2.2.2.2.2.2.2.2.2.2 L f hx
  refine va_sld C.1 C.2.1 hX hbl hbA hS (ofI_in hi h0 hn) hd ?_
  rw [ofI_clamp hi]
  exact k p l e R s m args below meth c D cyI cyZ adr A cells slots QF C RT0 H locs lsA hR hS hL (okcons (hfr _) hv2.2)
theorem g_slen {L : Nat} {f : Nat → Int} (hx : xs = some (L, f)) (hd : decode (mC d) pc = .ok (.arraylength, 1)) (k : GO xs d (pc + 1) ls (.inl (L : Int) :: st) σ Q) : GO xs d pc ls (.inr NC :: st) σ Q := by
  intro p l e R s m args below meth c D cyI cyZ adr A cells slots QF C RT0 H locs lsA hR hS hL hst
  have hv := List.forall_mem_cons.mp hst
  obtain ⟨hX, hbl, hbA, hLL, hfr⟩ := C.2.2.2.2.2.2.2.2.2.2.2.2.2 L f hx
  refine va_slen C.1 C.2.1 hX hbl hbA hS hd ?_
  rw [← Int32.ofInt_eq_ofNat]
  exact k p l e R s m args below meth c D cyI cyZ adr A cells slots QF C RT0 H locs lsA hR hS hL (okcons (show inR (L : Int) from ⟨by omega, by omega⟩) hv.2)
-- returns
theorem g_ret {v : Int} (hr : retOK d pc st v) (hq : Q v σ) : GO xs d pc ls st σ Q := by
  intro p l e R s m args below meth c D cyI cyZ adr A cells slots QF C RT0 H locs lsA hR hS hL hst
  exact RT0 pc H locs lsA st v σ hr hR hS hq
theorem g_ireturn {v : Int} (hk : mK d = 0) (hd : decode (mC d) pc = .ok (.ireturn, 1)) (hq : Q v σ) : GO xs d pc ls [.inl v] σ Q := by
  intro p l e R s m args below meth c D cyI cyZ adr A cells slots QF C RT0 H locs lsA hR hS hL hst
  refine RT0 pc H locs lsA _ v σ ?_ hR hS hq
  unfold retOK
  rw [hk]
  exact ⟨hd, rfl, hst _ List.mem_cons_self⟩
theorem g_zreturn {v : Int} (hk : mK d = 3) (hd : decode (mC d) pc = .ok (.ireturn, 1)) (hb : v = 0 ∨ v = 1) (hq : Q v σ) : GO xs d pc ls [.inl v] σ Q := by
  intro p l e R s m args below meth c D cyI cyZ adr A cells slots QF C RT0 H locs lsA hR hS hL hst
  refine RT0 pc H locs lsA _ v σ ?_ hR hS hq
  unfold retOK
  rw [hk]
  exact ⟨hd, rfl, hb⟩
theorem g_return (hk : mK d = 1) (hd : decode (mC d) pc = .ok (.return_, 1)) (hq : Q 0 σ) : GO xs d pc ls [] σ Q := by
  intro p l e R s m args below meth c D cyI cyZ adr A cells slots QF C RT0 H locs lsA hR hS hL hst
  refine RT0 pc H locs lsA _ 0 σ ?_ hR hS hq
  unfold retOK
  rw [hk]
  exact ⟨hd, rfl, rfl⟩
theorem g_areturn {r : Nat} (hk : mK d = 2) (hd : decode (mC d) pc = .ok (.areturn, 1)) (hq : Q (r : Int) σ) : GO xs d pc ls [.inr r] σ Q := by
  intro p l e R s m args below meth c D cyI cyZ adr A cells slots QF C RT0 H locs lsA hR hS hL hst
  refine RT0 pc H locs lsA _ (r : Int) σ ?_ hR hS hq
  unfold retOK
  rw [hk]
  exact ⟨hd, r, rfl, rfl⟩
-- Math.min
def minName : MethodName := Lib.Math.min.name
theorem g_min {idx : Nat} {a b : Int} (hlink : Cond.methodLink (mY d).cls idx Lib.Math.min.name ∈ TB) (hstat : Cond.static Lib.Math.min.name ∈ TB) (hini : Cond.initialized "java/lang/Math" ∈ TB) (hcode : Cond.code Lib.Math.min.name Lib.Math.min.code 2 (some .int) ∈ TB) (hfr : 1 ≤ mF d) (hlo : st.length + 13 ≤ mL d) (hd : decode (mC d) pc = .ok (.invokestatic idx, 3)) (k : GO xs d (pc + 3) ls (.inl (if a ≤ b then a else b) :: st) σ Q) : GO xs d pc ls (.inl b :: .inl a :: st) σ Q := by
  intro p l e R s m args below meth c D cyI cyZ adr A cells slots QF C RT0 H locs lsA hR hS hL hst
  have hv := List.forall_mem_cons.mp hst
  have hv2 := List.forall_mem_cons.mp hv.2
  have hb : inR b := hv.1
  have ha : inR a := hv2.1
  have hm : inR (if a ≤ b then a else b) := by split <;> assumption
  have hcat : ((st.map (cv adr)).map fun v => v.category).sum = st.length := by
    clear k hst hlo hv hv2
    induction st with
    | nil => rfl
    | cons v t ih => simp only [List.map_cons, List.sum_cons, cv_cat, ih, List.length_cons]; omega
  have h10 := C.2.2.2.2.2.2.2.2.2
  refine va_mmin C.1 C.2.1 (by rw [C.2.2.1]; exact hL.1.symm) C.2.2.2.1 (C.2.2.2.2.1 _ hlink) (C.2.2.2.2.1 _ hstat) (C.2.2.2.2.1 _ hini) (C.2.2.2.2.1 _ hcode) (Nat.le_trans hfr h10.1) (by rw [hcat]; exact Nat.le_trans hlo h10.2.1) h10.2.2.1 h10.2.2.2.1 (x := Int32.ofInt a) (y := Int32.ofInt b) hd ?_
  have e1 : (if Int32.ofInt b < Int32.ofInt a then Int32.ofInt b else Int32.ofInt a) = Int32.ofInt (if a ≤ b then a else b) := by
    by_cases h : a ≤ b
    · rw [if_pos h, if_neg (by rw [ofI_lt hb ha]; omega)]
    · rw [if_neg h, if_pos (by rw [ofI_lt hb ha]; omega)]
  rw [e1]
  exact k p l e R s m args below meth c D cyI cyZ adr A cells slots QF C RT0 H locs lsA hR hS hL (okcons hm hv2.2)
end OPS
/-! ===== calls ===== -/
def Aof (adr : Nat → Nat) (sz : Nat) : Nat → Prop := fun q => (∃ k, k < NC ∧ q = adr k) ∨ sz ≤ q
def PcM (D : va_G) (cyI cyZ : ClassId) (adr : Nat → Nat) (sz : Nat) (args : List AV) (σ : Mem) : Array Value → State → Prop :=
  va_Pc (args.map (cv adr)) (fun U => U.heap.size = sz ∧ Rep D cyI cyZ adr σ U.heap ∧ va_K D vwCl (tysOf cyI cyZ) U ∧ NW U)
def QcM (k : Nat) (D : va_G) (cyI cyZ : ClassId) (adr : Nat → Nat) (sz : Nat) (Q : Int → Mem → Prop) : Array Value → State → Outcome → State → Prop := match k with
  | 1 => va_Qv (S := Mem) (fun u => Q 0 u) (fun u t => Rep D cyI cyZ adr u t.heap) (Aof adr sz)
  | 2 => va_Qr (S := Nat × Mem) (fun u => Q (u.1 : Int) u.2) (fun u a t => a = adr u.1 ∧ Rep D cyI cyZ adr u.2 t.heap) (Aof adr sz)
  | _ => va_Qi (S := Int × Mem) (fun r u => r = Int32.ofInt u.1 ∧ inR u.1 ∧ Q u.1 u.2) (fun u t => Rep D cyI cyZ adr u.2 t.heap) (Aof adr sz)
def wsM (d : MD) : List Cond := .code (mY d) (mC d) (mN d) (mR d) :: TB
def rmM (d : MD) : Room := { frames := mF d, cells := 0, slots := 0, locals := mL d }
/-- a method's contract at these arguments and this memory -/
def CM (d : MD) (as : List AV) (σ : Mem) (Q : Int → Mem → Prop) : Prop :=
  ∀ (l : Launch) (D : va_G) (cyI cyZ : ClassId) (adr : Nat → Nat) (sz : Nat), (∀ i j, i < NC → j < NC → adr i = adr j → i = j) → (∀ v ∈ as, okV v) →
    Met l (mY d) (wsM d) (rmM d) (PcM D cyI cyZ adr sz as σ) (QcM (mK d) D cyI cyZ adr sz Q) 0 0 (Aof adr sz)
theorem lvargs_mem : ∀ (vs : List Value) (i : Nat), (∀ v ∈ vs, v.category = 1) → ∀ (j : Nat) (v : Value), vs[j]? = some v → (i + j, v) ∈ lv_args i vs
  | [], _, _, j, v, h => by simp at h
  | w :: vs, i, hc, j, v, h => by
    have hw := List.forall_mem_cons.mp hc
    unfold lv_args
    rw [if_neg (by rw [hw.1]; decide)]
    cases j with
    | zero =>
      rw [List.getElem?_cons_zero] at h
      cases h
      exact List.mem_cons_self
    | succ j =>
      rw [List.getElem?_cons_succ] at h
      have := lvargs_mem vs (i + 1) hw.2 j v h
      rw [show i + 1 + j = i + (j + 1) by omega] at this
      exact List.mem_cons_of_mem _ this
theorem lgsl_len : ∀ (vs : List Value), (∀ v ∈ vs, v.category = 1) → (lg_sl vs).length = vs.length
  | [], _ => rfl
  | w :: vs, hc => by
    have hw := List.forall_mem_cons.mp hc
    have ih := lgsl_len vs hw.2
    unfold lg_sl at ih ⊢
    rw [List.flatMap_cons, List.length_append, ih, if_neg (by rw [hw.1]; decide)]
    simp
    omega
def kindOK (d : MD) : Prop := match mK d with
  | 0 => mR d = some .int
  | 1 => mR d = none
  | 2 => ∃ n, mR d = some (.object n)
  | _ => mR d = some .boolean
def ent (d : MD) (as : List AV) : List (Option AV) := as.map some ++ List.replicate (mN d - as.length) none
theorem CM_of_GO {d : MD} {as : List AV} {σ : Mem} {Q : Int → Mem → Prop} (hy : plainName (mY d).cls = true) (hkd : kindOK d) (hlen : as.length ≤ mN d) (h : GO none d 0 (ent d as) [] σ Q) : CM d as σ Q := by
  intro l D cyI cyZ adr sz hinj hok
  refine Met.ofW (cc := mC d) (maxL := mN d) (ret := mR d) hy rfl ?_
  intro p e s m args below meth c s₁ B hml hv
  obtain ⟨rfl, hsz, hRep, hK, hNW⟩ := hv
  subst hsz
  have hts := atoms_spec (ws := wsM d) B.pre
  have hown : s.vm.findClass (mY d).cls = some m.cls := findClass_of_methodNamed B.named
  have hcat : ∀ v ∈ as.map (cv adr), v.category = 1 := fun v hv => by
    obtain ⟨a, -, rfl⟩ := List.mem_map.mp hv
    exact cv_cat adr a
  have hl0 := lgsl_len _ hcat
  rw [List.length_map] at hl0
  have hle := lv_entry (as.map (cv adr)) (n := mN d) (by rw [hl0]; exact hlen)
  rw [lg_entry_eq]
  have hDj : Dj (Aof adr s.heap.size) adr := ⟨hinj, fun k hk => Or.inl ⟨k, hk, rfl⟩⟩
  refine h p l e (headSpec (wsM d) (rmM d)).room s m _ below meth c D cyI cyZ adr (Aof adr s.heap.size) 0 0 _ ?_ ?_ s.heap [] _ hRep va_S.rf ?_ (fun v hv => by cases hv)
  · exact ⟨B.exec, B.bytes, hml, hown, fun w hw => hts w (List.mem_cons_of_mem _ hw), hNW, hK, hDj, fun q hq => Or.inr hq, Nat.le_refl _, Nat.le_refl _, Nat.le_refl _, Nat.le_refl _, fun L f hx => by cases hx⟩
  · intro pc H locs lsA st v σ' hr hR2 hS2 hq
    unfold retOK at hr
    unfold kindOK at hkd
    have hx := B.exec
    have hb := B.bytes
    have hret : meth.sig.returnType = mR d := B.returns
    generalize mK d = kk at hr hkd ⊢
    rcases kk with _ | _ | _ | kk
    · obtain ⟨hd, rfl, hin⟩ := hr
      exact W.iret (v := Int32.ofInt v) hx hb (hret.trans hkd) (fun t ht hW => ⟨⟨Int32.ofInt v, (v, σ'), rfl, ⟨rfl, hin, hq⟩, (show Rep D cyI cyZ adr σ' t.heap by rw [ht]; exact hR2)⟩, hS2.F ht⟩) hS2.2.2 hd B.notSynchronized
    · obtain ⟨hd, rfl, rfl⟩ := hr
      exact W.vret hx hb (hret.trans hkd) (fun t ht hW => ⟨⟨σ', rfl, hq, (show Rep D cyI cyZ adr σ' t.heap by rw [ht]; exact hR2)⟩, hS2.F ht⟩) hS2.2.2 hd B.notSynchronized
    · obtain ⟨hd, k, rfl, rfl⟩ := hr
      obtain ⟨n, hn⟩ := hkd
      exact W.aret (v := .ref (adr k)) hx hb (hret.trans hn) (Or.inl ⟨n, rfl⟩) (Or.inr ⟨_, rfl⟩) (fun t ht hW => ⟨⟨(k, σ'), adr k, rfl, hq, ⟨rfl, (show Rep D cyI cyZ adr σ' t.heap by rw [ht]; exact hR2)⟩⟩, hS2.F ht⟩) hS2.2.2 hd B.notSynchronized
    · obtain ⟨hd, rfl, hin⟩ := hr
      have hv : inR v := by rcases hin with h | h <;> rw [h] <;> decide
      exact W.zret (v := Int32.ofInt v) (ty := .boolean) hx hb (hret.trans hkd) (by rcases hin with h | h <;> rw [h] <;> rfl) (fun t ht hW => ⟨⟨Int32.ofInt v, (v, σ'), rfl, ⟨rfl, hv, hq⟩, (show Rep D cyI cyZ adr σ' t.heap by rw [ht]; exact hR2)⟩, hS2.F ht⟩) hS2.2.2 hd B.notSynchronized
  · refine ⟨hle.1, hle.2.1, by unfold ent; rw [List.length_append, List.length_map, List.length_replicate]; omega, fun i v hi => ?_⟩
    unfold ent at hi
    by_cases hil : i < as.length
    · rw [List.getElem?_append_left (by rw [List.length_map]; exact hil), List.getElem?_map] at hi
      cases hq : as[i]? with
      | none => rw [hq] at hi; cases hi
      | some w =>
        rw [hq] at hi
        cases hi
        have hm := lvargs_mem (as.map (cv adr)) 0 hcat i (cv adr v) (by rw [List.getElem?_map, hq]; rfl)
        rw [Nat.zero_add] at hm
        exact ⟨hle.2.2 _ hm, hok _ (List.mem_of_getElem? hq)⟩
    · rw [List.getElem?_append_right (by rw [List.length_map]; omega), List.getElem?_replicate] at hi
      split at hi <;> cases hi
/-- the tables' words on a method that is called by its receiver's class -/
def MOV (d : MD) (n : Nat) : Prop := Cond.instanceMethod (mY d) ∈ TB ∧ Cond.selects (mY d).cls (mY d) (mY d) ∈ TB ∧ Cond.initialized (mY d).cls ∈ TB ∧ Cond.code (mY d) (mC d) (mN d) (mR d) ∈ TB ∧ (mY d).cls ≠ "java/lang/invoke/MethodHandle" ∧ (mY d).cls ≠ "java/lang/invoke/VarHandle" ∧ (parseMethodDescriptor (mY d).desc).map (fun d => d.parameters.length) = some n
def MOS (d : MD) (n : Nat) : Prop := Cond.static (mY d) ∈ TB ∧ Cond.initialized (mY d).cls ∈ TB ∧ Cond.code (mY d) (mC d) (mN d) (mR d) ∈ TB ∧ (mY d).cls ≠ "java/lang/invoke/MethodHandle" ∧ (mY d).cls ≠ "java/lang/invoke/VarHandle" ∧ (parseMethodDescriptor (mY d).desc).map (fun d => d.parameters.length) = some n
theorem pc_blind {D : va_G} {cyI cyZ : ClassId} {adr : Nat → Nat} {sz : Nat} {as : List AV} {σ : Mem} : FrameBlind (PcM D cyI cyZ adr sz as σ) := by
  intro a U g mk h
  obtain ⟨h1, h2, h3, h4, h5⟩ := h
  exact ⟨h1, h2, h3, va_K.moved (u := U) (U := U.calling g mk a) (Vm.Alike.refl U.vm) h4, va_Nw.same (u := U) (U := U.calling g mk a) rfl rfl h5⟩
theorem ws_in {d : MD} (hc : Cond.code (mY d) (mC d) (mN d) (mR d) ∈ TB) : ∀ w ∈ wsM d, w ∈ TB := List.forall_mem_cons.mpr ⟨hc, fun _ h => h⟩
section CALLS
variable {xs : XS} {d : MD} {pc : Nat} {ls : List (Option AV)} {σ : Mem} {Q : Int → Mem → Prop}
theorem cat_map {adr : Nat → Nat} (rest : List AV) : ((rest.map (cv adr)).map fun v => v.category).sum = rest.length := by
  induction rest with
  | nil => rfl
  | cons v t ih => simp only [List.map_cons, List.sum_cons, cv_cat, ih, List.length_cons]; omega
theorem run_V {e9 : MD} {idx r ci n z : Nat} {as rest st0 : List AV} {R9 : Int → Mem → Prop} (hm : MOV e9 n) (hlink : Cond.methodLink (mY d).cls idx (mY e9) ∈ TB) (hr : r < NC) (hk : shp r = (ci, z)) (hc12 : ∃ T N, vwCl[ci]? = some ((mY e9).cls, T, N)) (has : as.length = n) (hroom : mF e9 + 1 ≤ mF d ∧ 8 + (mN e9 + 11) + mL e9 ≤ mL d) (hrest : rest.length ≤ 8) (hst0 : st0 = as.reverse ++ .inr r :: rest) (hd : decode (mC d) pc = .ok (.invokevirtual idx, 3)) (hcm : CM e9 (.inr r :: as) σ R9)
    {p : Program} {l : Launch} {e : Env} {R : Room} {s : State} {m : MethodId} {args : Array Value} {below : List Frame} {meth : Method} {c : Code} {D : va_G} {cyI cyZ : ClassId} {adr : Nat → Nat} {A : Nat → Prop} {cells slots : Nat} (C : CX xs d p l e R s m args meth c D cyI cyZ adr A cells slots) {H : Heap} {locs : List Loc} {lsA : Array Slot} (hR : Rep D cyI cyZ adr σ H) (hL : LH adr (mN d) ls lsA) (hst : ∀ v ∈ st0, okV v) :
    va_Run p l e R s m args below meth c H locs cells slots 0 0 (F0 m pc lsA (st0.map (cv adr))) (rest.map (cv adr)) (QcM (mK e9) D cyI cyZ adr H.size R9 ((Value.ref (adr r)) :: (as.map (cv adr))).toArray) (Aof adr H.size) := by
  obtain ⟨hinst, hsel, hini, hcode, hn1, hn2, hpar⟩ := hm
  obtain ⟨hx, hb, hml, hown, hts, hNW, hK, hDj, hAs, hf, hlo, hcl, hsl, -⟩ := C
  obtain ⟨TT, N, hc⟩ := hc12
  have he : (wsOf cyI cyZ adr σ)[r]? = some (adr r, .inr (ci, (List.range z).map (fv adr σ r))) := by rw [ws_at hr, cell_obj hk (vw_lt hc)]
  have hM := hcm l D cyI cyZ adr H.size hDj.1 (fun v hv => by
    rcases List.mem_cons.mp hv with h | h
    · rw [h]; trivial
    · exact hst v (by rw [hst0]; exact List.mem_append_left _ (List.mem_reverse.mpr h)))
  have hG : GoodIn TB (wsV (mY d).cls idx (mY e9).cls (mY e9) (wsM e9)) := by
    refine tb_good (fun w hw => ?_)
    rcases List.mem_append.mp hw with h | h
    · simp only [List.mem_cons, List.not_mem_nil, or_false] at h
      rcases h with rfl | rfl | rfl | rfl
      · exact hlink
      · exact hinst
      · exact hsel
      · exact hini
    · exact ws_in hcode w h
  refine va_runV (As := as.map (cv adr)) (rest := rest.map (cv adr)) (b := adr r) (n := n) (bytes := mC e9) (maxL := mN e9) (ret := mR e9) (rm := rmM e9) (C := (mY e9).cls) ⟨hx, hb, hml, hown, hts⟩ hM (cwV n hts hG rfl rfl rfl ⟨rfl, hn1, hn2, hpar⟩ ⟨Nat.le_trans hroom.1 hf, Nat.le_trans hroom.2 hlo⟩) ⟨pc_blind, va_recv hK hR.1 hc he, fun U hU hW => ⟨rfl, by rw [hU], by rw [hU]; exact hR, va_K.moved hW.alike hK, va_Nw.warmM hW hNW⟩⟩ rfl (by rw [List.length_map]; exact has) hL.1 ?_ ?_ hd ⟨hcl, hsl⟩
  · rw [hst0]
    simp [cv]
  · exact lv_room (by rw [cat_map]; exact hrest)
theorem run_S {e9 : MD} {idx n : Nat} {as rest st0 : List AV} {R9 : Int → Mem → Prop} (hm : MOS e9 n) (hcls : (mY e9).cls = (mY d).cls) (hlink : Cond.methodLink (mY d).cls idx (mY e9) ∈ TB) (has : as.length = n) (hroom : mF e9 + 1 ≤ mF d ∧ 8 + (mN e9 + 11) + mL e9 ≤ mL d) (hrest : rest.length ≤ 8) (hst0 : st0 = as.reverse ++ rest) (hd : decode (mC d) pc = .ok (.invokestatic idx, 3)) (hcm : CM e9 as σ R9)
    {p : Program} {l : Launch} {e : Env} {R : Room} {s : State} {m : MethodId} {args : Array Value} {below : List Frame} {meth : Method} {c : Code} {D : va_G} {cyI cyZ : ClassId} {adr : Nat → Nat} {A : Nat → Prop} {cells slots : Nat} (C : CX xs d p l e R s m args meth c D cyI cyZ adr A cells slots) {H : Heap} {locs : List Loc} {lsA : Array Slot} (hR : Rep D cyI cyZ adr σ H) (hL : LH adr (mN d) ls lsA) (hst : ∀ v ∈ st0, okV v) :
    va_Run p l e R s m args below meth c H locs cells slots 0 0 (F0 m pc lsA (st0.map (cv adr))) (rest.map (cv adr)) (QcM (mK e9) D cyI cyZ adr H.size R9 (as.map (cv adr)).toArray) (Aof adr H.size) := by
  obtain ⟨hstat, hini, hcode, hn1, hn2, hpar⟩ := hm
  obtain ⟨hx, hb, hml, hown, hts, hNW, hK, hDj, hAs, hf, hlo, hcl, hsl, -⟩ := C
  have hM := hcm l D cyI cyZ adr H.size hDj.1 (fun v hv => hst v (by rw [hst0]; exact List.mem_append_left _ (List.mem_reverse.mpr hv)))
  have hG : GoodIn TB (wsS (mY d).cls idx (mY e9) (wsM e9)) := by
    refine tb_good (fun w hw => ?_)
    rcases List.mem_append.mp hw with h | h
    · simp only [List.mem_cons, List.not_mem_nil, or_false] at h
      rcases h with rfl | rfl | rfl
      · exact hlink
      · exact hstat
      · rw [← hcls]; exact hini
    · exact ws_in hcode w h
  refine va_runS (As := as.map (cv adr)) (rest := rest.map (cv adr)) (n := n) (bytes := mC e9) (maxL := mN e9) (ret := mR e9) (rm := rmM e9) ⟨hx, hb, hml, hown, hts⟩ hM (cwS n hts hG rfl rfl rfl ⟨hcls, hn1, hn2, hpar⟩ ⟨Nat.le_trans hroom.1 hf, Nat.le_trans hroom.2 hlo⟩) ⟨pc_blind, fun U hU hW => ⟨rfl, by rw [hU], by rw [hU]; exact hR, va_K.moved hW.alike hK, va_Nw.warmM hW hNW⟩⟩ rfl (by rw [List.length_map]; exact has) hL.1 ?_ ?_ hd ⟨hcl, hsl⟩
  · rw [hst0]
    simp [cv]
  · exact lv_room (by rw [cat_map]; exact hrest)
theorem run_N {e9 : MD} {idx n : Nat} {as rest st0 : List AV} {R9 : Int → Mem → Prop} (hm : MOS e9 n) (hw9 : Cond.methodLinkNest (mY d).cls idx (mY e9) "ShopsOnFloor" = nwCell) (has : as.length = n) (hroom : mF e9 + 1 ≤ mF d ∧ 8 + (mN e9 + 11) + mL e9 ≤ mL d) (hrest : rest.length ≤ 8) (hst0 : st0 = as.reverse ++ rest) (hd : decode (mC d) pc = .ok (.invokestatic idx, 3)) (hcm : CM e9 as σ R9)
    {p : Program} {l : Launch} {e : Env} {R : Room} {s : State} {m : MethodId} {args : Array Value} {below : List Frame} {meth : Method} {c : Code} {D : va_G} {cyI cyZ : ClassId} {adr : Nat → Nat} {A : Nat → Prop} {cells slots : Nat} (C : CX xs d p l e R s m args meth c D cyI cyZ adr A cells slots) {H : Heap} {locs : List Loc} {lsA : Array Slot} (hR : Rep D cyI cyZ adr σ H) (hL : LH adr (mN d) ls lsA) (hst : ∀ v ∈ st0, okV v) :
    va_Run p l e R s m args below meth c H locs cells slots 0 0 (F0 m pc lsA (st0.map (cv adr))) (rest.map (cv adr)) (QcM (mK e9) D cyI cyZ adr H.size R9 (as.map (cv adr)).toArray) (Aof adr H.size) := by
  obtain ⟨hstat, hini, hcode, hn1, hn2, hpar⟩ := hm
  obtain ⟨hx, hb, hml, hown, hts, hNW, hK, hDj, hAs, hf, hlo, hcl, hsl, -⟩ := C
  have hM := hcm l D cyI cyZ adr H.size hDj.1 (fun v hv => hst v (by rw [hst0]; exact List.mem_append_left _ (List.mem_reverse.mpr hv)))
  have hG : GoodIn TB (wsM e9) := tb_good (fun w hw => ws_in hcode w hw)
  have hNW' : va_Nw (.methodLinkNest (mY d).cls idx (mY e9) "ShopsOnFloor") s := by rw [hw9]; exact hNW
  refine va_runSN (As := as.map (cv adr)) (rest := rest.map (cv adr)) (n := n) (bytes := mC e9) (maxL := mN e9) (ret := mR e9) (rm := rmM e9) (host := "ShopsOnFloor") ⟨hx, hb, hml, hown, hts⟩ hM ⟨va_cnB n hts hG rfl rfl rfl hNW' (hts _ hini) ⟨hn1, hn2, hpar⟩ ⟨Nat.le_trans hroom.1 hf, Nat.le_trans hroom.2 hlo⟩, hts _ hstat, trivial⟩ ⟨pc_blind, fun U hU hW => ⟨rfl, by rw [hU], by rw [hU]; exact hR, va_K.moved hW.alike hK, va_Nw.warmM hW hNW⟩⟩ rfl (by rw [List.length_map]; exact has) hL.1 ?_ ?_ hd ⟨hcl, hsl⟩
  · rw [hst0]
    simp [cv]
  · exact lv_room (by rw [cat_map]; exact hrest)
theorem A_in {xs : XS} {d : MD} {p : Program} {l : Launch} {e : Env} {R : Room} {s : State} {m : MethodId} {args : Array Value} {meth : Method} {c : Code} {D : va_G} {cyI cyZ : ClassId} {adr : Nat → Nat} {A : Nat → Prop} {cells slots : Nat} (C : CX xs d p l e R s m args meth c D cyI cyZ adr A cells slots) {H : Heap} {locs : List Loc} (hS : va_S A s.heap H locs) : ∀ q, Aof adr H.size q → A q := by
  intro q h
  rcases h with ⟨k, hk, rfl⟩ | h
  · exact C.2.2.2.2.2.2.2.1.2 k hk
  · exact C.2.2.2.2.2.2.2.2.1 q (Nat.le_trans hS.1 h)
theorem g_invVI {e9 : MD} {idx r ci n z : Nat} {as rest st0 : List AV} {R9 : Int → Mem → Prop} (hm : MOV e9 n) (hlink : Cond.methodLink (mY d).cls idx (mY e9) ∈ TB) (hr : r < NC) (hsh : shp r = (ci, z)) (hc12 : ∃ T N, vwCl[ci]? = some ((mY e9).cls, T, N)) (has : as.length = n) (hroom : mF e9 + 1 ≤ mF d ∧ 8 + (mN e9 + 11) + mL e9 ≤ mL d) (hrest : rest.length ≤ 8) (hst0 : st0 = as.reverse ++ .inr r :: rest) (hd : decode (mC d) pc = .ok (.invokevirtual idx, 3)) (hcm : CM e9 (.inr r :: as) σ R9) (hkd : mK e9 = 0 ∨ mK e9 = 3) (kk : ∀ v σ1, R9 v σ1 → GO xs d (pc + 3) ls (.inl v :: rest) σ1 Q) : GO xs d pc ls st0 σ Q := by
  intro p l e R s m args below meth c D cyI cyZ adr A cells slots QF C RT0 H locs lsA hR hS hL hst
  have hrun := run_V (below := below) (locs := locs) hm hlink hr hsh hc12 has hroom hrest hst0 hd hcm C hR hL hst
  have hst1 : ∀ v ∈ rest, okV v := fun v hv => hst v (by rw [hst0]; exact List.mem_append_right _ (List.mem_cons_of_mem _ hv))
  have hq9 : QcM (mK e9) D cyI cyZ adr H.size R9 = va_Qi (S := Int × Mem) (fun r u => r = Int32.ofInt u.1 ∧ inR u.1 ∧ R9 u.1 u.2) (fun u t => Rep D cyI cyZ adr u.2 t.heap) (Aof adr H.size) := by
    rcases hkd with h | h <;> rw [h] <;> rfl
  rw [hq9] at hrun
  refine va_calli hrun hS (fun q _ h => A_in C hS q h) (A_in C hS) (fun v32 u t H1 locs1 ht hvm hp hB hz hk1 hS1 => ?_)
  obtain ⟨rfl, hin, hp⟩ := hp
  rw [ht] at hB
  exact kk u.1 u.2 hp p l e R s m args below meth c D cyI cyZ adr A cells slots QF C RT0 H1 locs1 lsA hB hS1 hL (okcons hin hst1)
theorem g_invVV {e9 : MD} {idx r ci n z : Nat} {as rest st0 : List AV} {R9 : Int → Mem → Prop} (hm : MOV e9 n) (hlink : Cond.methodLink (mY d).cls idx (mY e9) ∈ TB) (hr : r < NC) (hsh : shp r = (ci, z)) (hc12 : ∃ T N, vwCl[ci]? = some ((mY e9).cls, T, N)) (has : as.length = n) (hroom : mF e9 + 1 ≤ mF d ∧ 8 + (mN e9 + 11) + mL e9 ≤ mL d) (hrest : rest.length ≤ 8) (hst0 : st0 = as.reverse ++ .inr r :: rest) (hd : decode (mC d) pc = .ok (.invokevirtual idx, 3)) (hcm : CM e9 (.inr r :: as) σ R9) (hkd : mK e9 = 1) (kk : ∀ σ1, R9 0 σ1 → GO xs d (pc + 3) ls rest σ1 Q) : GO xs d pc ls st0 σ Q := by
  intro p l e R s m args below meth c D cyI cyZ adr A cells slots QF C RT0 H locs lsA hR hS hL hst
  have hrun := run_V (below := below) (locs := locs) hm hlink hr hsh hc12 has hroom hrest hst0 hd hcm C hR hL hst
  have hst1 : ∀ v ∈ rest, okV v := fun v hv => hst v (by rw [hst0]; exact List.mem_append_right _ (List.mem_cons_of_mem _ hv))
  have hq9 : QcM (mK e9) D cyI cyZ adr H.size R9 = va_Qv (S := Mem) (fun u => R9 0 u) (fun u t => Rep D cyI cyZ adr u t.heap) (Aof adr H.size) := by rw [hkd]; rfl
  rw [hq9] at hrun
  refine va_callv hrun hS (fun q _ h => A_in C hS q h) (A_in C hS) (fun u t H1 locs1 ht hvm hp hB hz hk1 hS1 => ?_)
  rw [ht] at hB
  exact kk u hp p l e R s m args below meth c D cyI cyZ adr A cells slots QF C RT0 H1 locs1 lsA hB hS1 hL hst1
theorem g_invVR {e9 : MD} {idx r ci n z : Nat} {as rest st0 : List AV} {R9 : Int → Mem → Prop} (hm : MOV e9 n) (hlink : Cond.methodLink (mY d).cls idx (mY e9) ∈ TB) (hr : r < NC) (hsh : shp r = (ci, z)) (hc12 : ∃ T N, vwCl[ci]? = some ((mY e9).cls, T, N)) (has : as.length = n) (hroom : mF e9 + 1 ≤ mF d ∧ 8 + (mN e9 + 11) + mL e9 ≤ mL d) (hrest : rest.length ≤ 8) (hst0 : st0 = as.reverse ++ .inr r :: rest) (hd : decode (mC d) pc = .ok (.invokevirtual idx, 3)) (hcm : CM e9 (.inr r :: as) σ R9) (hkd : mK e9 = 2) (kk : ∀ (r1 : Nat) σ1, R9 (r1 : Int) σ1 → GO xs d (pc + 3) ls (.inr r1 :: rest) σ1 Q) : GO xs d pc ls st0 σ Q := by
  intro p l e R s m args below meth c D cyI cyZ adr A cells slots QF C RT0 H locs lsA hR hS hL hst
  have hrun := run_V (below := below) (locs := locs) hm hlink hr hsh hc12 has hroom hrest hst0 hd hcm C hR hL hst
  have hst1 : ∀ v ∈ rest, okV v := fun v hv => hst v (by rw [hst0]; exact List.mem_append_right _ (List.mem_cons_of_mem _ hv))
  have hq9 : QcM (mK e9) D cyI cyZ adr H.size R9 = va_Qr (S := Nat × Mem) (fun u => R9 (u.1 : Int) u.2) (fun u a t => a = adr u.1 ∧ Rep D cyI cyZ adr u.2 t.heap) (Aof adr H.size) := by rw [hkd]; rfl
  rw [hq9] at hrun
  refine va_callr hrun hS (fun q _ h => A_in C hS q h) (A_in C hS) (fun u a t H1 locs1 ht hvm hp hB hz hk1 hS1 => ?_)
  obtain ⟨rfl, hB⟩ := hB
  rw [ht] at hB
  exact kk u.1 u.2 hp p l e R s m args below meth c D cyI cyZ adr A cells slots QF C RT0 H1 locs1 lsA hB hS1 hL (okcons trivial hst1)
theorem g_invSI {e9 : MD} {idx n : Nat} {as rest st0 : List AV} {R9 : Int → Mem → Prop} (hm : MOS e9 n) (hcls : (mY e9).cls = (mY d).cls) (hlink : Cond.methodLink (mY d).cls idx (mY e9) ∈ TB) (has : as.length = n) (hroom : mF e9 + 1 ≤ mF d ∧ 8 + (mN e9 + 11) + mL e9 ≤ mL d) (hrest : rest.length ≤ 8) (hst0 : st0 = as.reverse ++ rest) (hd : decode (mC d) pc = .ok (.invokestatic idx, 3)) (hcm : CM e9 as σ R9) (hkd : mK e9 = 0 ∨ mK e9 = 3) (kk : ∀ v σ1, R9 v σ1 → GO xs d (pc + 3) ls (.inl v :: rest) σ1 Q) : GO xs d pc ls st0 σ Q := by
  intro p l e R s m args below meth c D cyI cyZ adr A cells slots QF C RT0 H locs lsA hR hS hL hst
  have hrun := run_S (below := below) (locs := locs) hm hcls hlink has hroom hrest hst0 hd hcm C hR hL hst
  have hst1 : ∀ v ∈ rest, okV v := fun v hv => hst v (by rw [hst0]; exact List.mem_append_right _ hv)
  have hq9 : QcM (mK e9) D cyI cyZ adr H.size R9 = va_Qi (S := Int × Mem) (fun r u => r = Int32.ofInt u.1 ∧ inR u.1 ∧ R9 u.1 u.2) (fun u t => Rep D cyI cyZ adr u.2 t.heap) (Aof adr H.size) := by
    rcases hkd with h | h <;> rw [h] <;> rfl
  rw [hq9] at hrun
  refine va_calli hrun hS (fun q _ h => A_in C hS q h) (A_in C hS) (fun v32 u t H1 locs1 ht hvm hp hB hz hk1 hS1 => ?_)
  obtain ⟨rfl, hin, hp⟩ := hp
  rw [ht] at hB
  exact kk u.1 u.2 hp p l e R s m args below meth c D cyI cyZ adr A cells slots QF C RT0 H1 locs1 lsA hB hS1 hL (okcons hin hst1)
theorem g_invSV {e9 : MD} {idx n : Nat} {as rest st0 : List AV} {R9 : Int → Mem → Prop} (hm : MOS e9 n) (hcls : (mY e9).cls = (mY d).cls) (hlink : Cond.methodLink (mY d).cls idx (mY e9) ∈ TB) (has : as.length = n) (hroom : mF e9 + 1 ≤ mF d ∧ 8 + (mN e9 + 11) + mL e9 ≤ mL d) (hrest : rest.length ≤ 8) (hst0 : st0 = as.reverse ++ rest) (hd : decode (mC d) pc = .ok (.invokestatic idx, 3)) (hcm : CM e9 as σ R9) (hkd : mK e9 = 1) (kk : ∀ σ1, R9 0 σ1 → GO xs d (pc + 3) ls rest σ1 Q) : GO xs d pc ls st0 σ Q := by
  intro p l e R s m args below meth c D cyI cyZ adr A cells slots QF C RT0 H locs lsA hR hS hL hst
  have hrun := run_S (below := below) (locs := locs) hm hcls hlink has hroom hrest hst0 hd hcm C hR hL hst
  have hst1 : ∀ v ∈ rest, okV v := fun v hv => hst v (by rw [hst0]; exact List.mem_append_right _ hv)
  have hq9 : QcM (mK e9) D cyI cyZ adr H.size R9 = va_Qv (S := Mem) (fun u => R9 0 u) (fun u t => Rep D cyI cyZ adr u t.heap) (Aof adr H.size) := by rw [hkd]; rfl
  rw [hq9] at hrun
  refine va_callv hrun hS (fun q _ h => A_in C hS q h) (A_in C hS) (fun u t H1 locs1 ht hvm hp hB hz hk1 hS1 => ?_)
  rw [ht] at hB
  exact kk u hp p l e R s m args below meth c D cyI cyZ adr A cells slots QF C RT0 H1 locs1 lsA hB hS1 hL hst1
theorem g_invNI {e9 : MD} {idx n : Nat} {as rest st0 : List AV} {R9 : Int → Mem → Prop} (hm : MOS e9 n) (hw9 : Cond.methodLinkNest (mY d).cls idx (mY e9) "ShopsOnFloor" = nwCell) (has : as.length = n) (hroom : mF e9 + 1 ≤ mF d ∧ 8 + (mN e9 + 11) + mL e9 ≤ mL d) (hrest : rest.length ≤ 8) (hst0 : st0 = as.reverse ++ rest) (hd : decode (mC d) pc = .ok (.invokestatic idx, 3)) (hcm : CM e9 as σ R9) (hkd : mK e9 = 0 ∨ mK e9 = 3) (kk : ∀ v σ1, R9 v σ1 → GO xs d (pc + 3) ls (.inl v :: rest) σ1 Q) : GO xs d pc ls st0 σ Q := by
  intro p l e R s m args below meth c D cyI cyZ adr A cells slots QF C RT0 H locs lsA hR hS hL hst
  have hrun := run_N (below := below) (locs := locs) hm hw9 has hroom hrest hst0 hd hcm C hR hL hst
  have hst1 : ∀ v ∈ rest, okV v := fun v hv => hst v (by rw [hst0]; exact List.mem_append_right _ hv)
  have hq9 : QcM (mK e9) D cyI cyZ adr H.size R9 = va_Qi (S := Int × Mem) (fun r u => r = Int32.ofInt u.1 ∧ inR u.1 ∧ R9 u.1 u.2) (fun u t => Rep D cyI cyZ adr u.2 t.heap) (Aof adr H.size) := by
    rcases hkd with h | h <;> rw [h] <;> rfl
  rw [hq9] at hrun
  refine va_calli hrun hS (fun q _ h => A_in C hS q h) (A_in C hS) (fun v32 u t H1 locs1 ht hvm hp hB hz hk1 hS1 => ?_)
  obtain ⟨rfl, hin, hp⟩ := hp
  rw [ht] at hB
  exact kk u.1 u.2 hp p l e R s m args below meth c D cyI cyZ adr A cells slots QF C RT0 H1 locs1 lsA hB hS1 hL (okcons hin hst1)
end CALLS
end
section
theorem dX0_init_0 : decode cX0_init 0 = .ok (.aload_n 0, 1) := by decide +kernel
theorem dX0_init_1 : decode cX0_init 1 = .ok (.invokespecial 3, 3) := by decide +kernel
theorem dX0_init_4 : decode cX0_init 4 = .ok (.aload_n 0, 1) := by decide +kernel
theorem dX0_init_5 : decode cX0_init 5 = .ok (.new 9, 3) := by decide +kernel
theorem dX0_init_8 : decode cX0_init 8 = .ok (.dup, 1) := by decide +kernel
theorem dX0_init_9 : decode cX0_init 9 = .ok (.invokespecial 11, 3) := by decide +kernel
theorem dX0_init_12 : decode cX0_init 12 = .ok (.putfield 12, 3) := by decide +kernel
theorem dX0_init_15 : decode cX0_init 15 = .ok (.aload_n 0, 1) := by decide +kernel
theorem dX0_init_16 : decode cX0_init 16 = .ok (.new 9, 3) := by decide +kernel
theorem dX0_init_19 : decode cX0_init 19 = .ok (.dup, 1) := by decide +kernel
theorem dX0_init_20 : decode cX0_init 20 = .ok (.invokespecial 11, 3) := by decide +kernel
theorem dX0_init_23 : decode cX0_init 23 = .ok (.putfield 18, 3) := by decide +kernel
theorem dX0_init_26 : decode cX0_init 26 = .ok (.aload_n 0, 1) := by decide +kernel
theorem dX0_init_27 : decode cX0_init 27 = .ok (.iconst (-1), 1) := by decide +kernel
theorem dX0_init_28 : decode cX0_init 28 = .ok (.putfield 21, 3) := by decide +kernel
theorem dX0_init_31 : decode cX0_init 31 = .ok (.aload_n 0, 1) := by decide +kernel
theorem dX0_init_32 : decode cX0_init 32 = .ok (.iconst 0, 1) := by decide +kernel
theorem dX0_init_33 : decode cX0_init 33 = .ok (.putfield 25, 3) := by decide +kernel
theorem dX0_init_36 : decode cX0_init 36 = .ok (.aload_n 0, 1) := by decide +kernel
theorem dX0_init_37 : decode cX0_init 37 = .ok (.aload_n 1, 1) := by decide +kernel
theorem dX0_init_38 : decode cX0_init 38 = .ok (.putfield 28, 3) := by decide +kernel
theorem dX0_init_41 : decode cX0_init 41 = .ok (.aload_n 0, 1) := by decide +kernel
theorem dX0_init_42 : decode cX0_init 42 = .ok (.aload_n 2, 1) := by decide +kernel
theorem dX0_init_43 : decode cX0_init 43 = .ok (.putfield 32, 3) := by decide +kernel
theorem dX0_init_46 : decode cX0_init 46 = .ok (.aload_n 0, 1) := by decide +kernel
theorem dX0_init_47 : decode cX0_init 47 = .ok (.aload_n 3, 1) := by decide +kernel
theorem dX0_init_48 : decode cX0_init 48 = .ok (.putfield 36, 3) := by decide +kernel
theorem dX0_init_51 : decode cX0_init 51 = .ok (.return_, 1) := by decide +kernel
theorem dX0_least_0 : decode cX0_least 0 = .ok (.aload_n 0, 1) := by decide +kernel
theorem dX0_least_1 : decode cX0_least 1 = .ok (.getfield 21, 3) := by decide +kernel
theorem dX0_least_4 : decode cX0_least 4 = .ok (.ireturn, 1) := by decide +kernel
theorem dX0_howMany_0 : decode cX0_howMany 0 = .ok (.aload_n 0, 1) := by decide +kernel
theorem dX0_howMany_1 : decode cX0_howMany 1 = .ok (.getfield 25, 3) := by decide +kernel
theorem dX0_howMany_4 : decode cX0_howMany 4 = .ok (.ireturn, 1) := by decide +kernel
theorem dX0_first_0 : decode cX0_first 0 = .ok (.aload_n 0, 1) := by decide +kernel
theorem dX0_first_1 : decode cX0_first 1 = .ok (.getfield 18, 3) := by decide +kernel
theorem dX0_first_4 : decode cX0_first 4 = .ok (.areturn, 1) := by decide +kernel
theorem dX0_search_0 : decode cX0_search 0 = .ok (.aload_n 0, 1) := by decide +kernel
theorem dX0_search_1 : decode cX0_search 1 = .ok (.iconst (-1), 1) := by decide +kernel
theorem dX0_search_2 : decode cX0_search 2 = .ok (.putfield 21, 3) := by decide +kernel
theorem dX0_search_5 : decode cX0_search 5 = .ok (.aload_n 0, 1) := by decide +kernel
theorem dX0_search_6 : decode cX0_search 6 = .ok (.iconst 0, 1) := by decide +kernel
theorem dX0_search_7 : decode cX0_search 7 = .ok (.putfield 25, 3) := by decide +kernel
theorem dX0_search_10 : decode cX0_search 10 = .ok (.aload_n 0, 1) := by decide +kernel
theorem dX0_search_11 : decode cX0_search 11 = .ok (.getfield 12, 3) := by decide +kernel
theorem dX0_search_14 : decode cX0_search 14 = .ok (.aload_n 0, 1) := by decide +kernel
theorem dX0_search_15 : decode cX0_search 15 = .ok (.getfield 32, 3) := by decide +kernel
theorem dX0_search_18 : decode cX0_search 18 = .ok (.invokevirtual 40, 3) := by decide +kernel
theorem dX0_search_21 : decode cX0_search 21 = .ok (.aload_n 0, 1) := by decide +kernel
theorem dX0_search_22 : decode cX0_search 22 = .ok (.getfield 28, 3) := by decide +kernel
theorem dX0_search_25 : decode cX0_search 25 = .ok (.invokevirtual 46, 3) := by decide +kernel
theorem dX0_search_28 : decode cX0_search 28 = .ok (.invokevirtual 51, 3) := by decide +kernel
theorem dX0_search_31 : decode cX0_search 31 = .ok (.iconst 1, 1) := by decide +kernel
theorem dX0_search_32 : decode cX0_search 32 = .ok (.istore_n 2, 1) := by decide +kernel
theorem dX0_search_33 : decode cX0_search 33 = .ok (.iconst 0, 1) := by decide +kernel
theorem dX0_search_34 : decode cX0_search 34 = .ok (.istore_n 3, 1) := by decide +kernel
theorem dX0_search_35 : decode cX0_search 35 = .ok (.iload_n 2, 1) := by decide +kernel
theorem dX0_search_36 : decode cX0_search 36 = .ok (.ifCond .eq 47, 3) := by decide +kernel
theorem dX0_search_39 : decode cX0_search 39 = .ok (.iload_n 3, 1) := by decide +kernel
theorem dX0_search_40 : decode cX0_search 40 = .ok (.sipush 720, 3) := by decide +kernel
theorem dX0_search_43 : decode cX0_search 43 = .ok (.if_icmp .ge 40, 3) := by decide +kernel
theorem dX0_search_46 : decode cX0_search 46 = .ok (.aload_n 0, 1) := by decide +kernel
theorem dX0_search_47 : decode cX0_search 47 = .ok (.aload_n 0, 1) := by decide +kernel
theorem dX0_search_48 : decode cX0_search 48 = .ok (.getfield 36, 3) := by decide +kernel
theorem dX0_search_51 : decode cX0_search 51 = .ok (.iload_n 1, 1) := by decide +kernel
theorem dX0_search_52 : decode cX0_search 52 = .ok (.aload_n 0, 1) := by decide +kernel
theorem dX0_search_53 : decode cX0_search 53 = .ok (.getfield 12, 3) := by decide +kernel
theorem dX0_search_56 : decode cX0_search 56 = .ok (.invokevirtual 55, 3) := by decide +kernel
theorem dX0_search_59 : decode cX0_search 59 = .ok (.invokevirtual 61, 3) := by decide +kernel
theorem dX0_search_62 : decode cX0_search 62 = .ok (.aload_n 0, 1) := by decide +kernel
theorem dX0_search_63 : decode cX0_search 63 = .ok (.getfield 12, 3) := by decide +kernel
theorem dX0_search_66 : decode cX0_search 66 = .ok (.aload_n 0, 1) := by decide +kernel
theorem dX0_search_67 : decode cX0_search 67 = .ok (.getfield 28, 3) := by decide +kernel
theorem dX0_search_70 : decode cX0_search 70 = .ok (.invokevirtual 46, 3) := by decide +kernel
theorem dX0_search_73 : decode cX0_search 73 = .ok (.invokevirtual 65, 3) := by decide +kernel
theorem dX0_search_76 : decode cX0_search 76 = .ok (.istore_n 2, 1) := by decide +kernel
theorem dX0_search_77 : decode cX0_search 77 = .ok (.iinc 3 1, 3) := by decide +kernel
theorem dX0_search_80 : decode cX0_search 80 = .ok (.goto (-45), 3) := by decide +kernel
theorem dX0_search_83 : decode cX0_search 83 = .ok (.return_, 1) := by decide +kernel
theorem dX0_compare_0 : decode cX0_compare 0 = .ok (.iload_n 1, 1) := by decide +kernel
theorem dX0_compare_1 : decode cX0_compare 1 = .ok (.iconst (-1), 1) := by decide +kernel
theorem dX0_compare_2 : decode cX0_compare 2 = .ok (.if_icmp .ne 4, 3) := by decide +kernel
theorem dX0_compare_5 : decode cX0_compare 5 = .ok (.return_, 1) := by decide +kernel
theorem dX0_compare_6 : decode cX0_compare 6 = .ok (.aload_n 0, 1) := by decide +kernel
theorem dX0_compare_7 : decode cX0_compare 7 = .ok (.getfield 21, 3) := by decide +kernel
theorem dX0_compare_10 : decode cX0_compare 10 = .ok (.iconst (-1), 1) := by decide +kernel
theorem dX0_compare_11 : decode cX0_compare 11 = .ok (.if_icmp .eq 11, 3) := by decide +kernel
theorem dX0_compare_14 : decode cX0_compare 14 = .ok (.iload_n 1, 1) := by decide +kernel
theorem dX0_compare_15 : decode cX0_compare 15 = .ok (.aload_n 0, 1) := by decide +kernel
theorem dX0_compare_16 : decode cX0_compare 16 = .ok (.getfield 21, 3) := by decide +kernel
theorem dX0_compare_19 : decode cX0_compare 19 = .ok (.if_icmp .ge 24, 3) := by decide +kernel
theorem dX0_compare_22 : decode cX0_compare 22 = .ok (.aload_n 0, 1) := by decide +kernel
theorem dX0_compare_23 : decode cX0_compare 23 = .ok (.iload_n 1, 1) := by decide +kernel
theorem dX0_compare_24 : decode cX0_compare 24 = .ok (.putfield 21, 3) := by decide +kernel
theorem dX0_compare_27 : decode cX0_compare 27 = .ok (.aload_n 0, 1) := by decide +kernel
theorem dX0_compare_28 : decode cX0_compare 28 = .ok (.iconst 0, 1) := by decide +kernel
theorem dX0_compare_29 : decode cX0_compare 29 = .ok (.putfield 25, 3) := by decide +kernel
theorem dX0_compare_32 : decode cX0_compare 32 = .ok (.aload_n 0, 1) := by decide +kernel
theorem dX0_compare_33 : decode cX0_compare 33 = .ok (.getfield 18, 3) := by decide +kernel
theorem dX0_compare_36 : decode cX0_compare 36 = .ok (.aload_n 0, 1) := by decide +kernel
theorem dX0_compare_37 : decode cX0_compare 37 = .ok (.getfield 12, 3) := by decide +kernel
theorem dX0_compare_40 : decode cX0_compare 40 = .ok (.invokevirtual 69, 3) := by decide +kernel
theorem dX0_compare_43 : decode cX0_compare 43 = .ok (.iload_n 1, 1) := by decide +kernel
theorem dX0_compare_44 : decode cX0_compare 44 = .ok (.aload_n 0, 1) := by decide +kernel
theorem dX0_compare_45 : decode cX0_compare 45 = .ok (.getfield 21, 3) := by decide +kernel
theorem dX0_compare_48 : decode cX0_compare 48 = .ok (.if_icmp .ne 13, 3) := by decide +kernel
theorem dX0_compare_51 : decode cX0_compare 51 = .ok (.aload_n 0, 1) := by decide +kernel
theorem dX0_compare_52 : decode cX0_compare 52 = .ok (.dup, 1) := by decide +kernel
theorem dX0_compare_53 : decode cX0_compare 53 = .ok (.getfield 25, 3) := by decide +kernel
theorem dX0_compare_56 : decode cX0_compare 56 = .ok (.iconst 1, 1) := by decide +kernel
theorem dX0_compare_57 : decode cX0_compare 57 = .ok (.iadd, 1) := by decide +kernel
theorem dX0_compare_58 : decode cX0_compare 58 = .ok (.putfield 25, 3) := by decide +kernel
theorem dX0_compare_61 : decode cX0_compare 61 = .ok (.return_, 1) := by decide +kernel
theorem dX1_init_0 : decode cX1_init 0 = .ok (.aload_n 0, 1) := by decide +kernel
theorem dX1_init_1 : decode cX1_init 1 = .ok (.invokespecial 3, 3) := by decide +kernel
theorem dX1_init_4 : decode cX1_init 4 = .ok (.aload_n 0, 1) := by decide +kernel
theorem dX1_init_5 : decode cX1_init 5 = .ok (.new 9, 3) := by decide +kernel
theorem dX1_init_8 : decode cX1_init 8 = .ok (.dup, 1) := by decide +kernel
theorem dX1_init_9 : decode cX1_init 9 = .ok (.invokespecial 11, 3) := by decide +kernel
theorem dX1_init_12 : decode cX1_init 12 = .ok (.putfield 12, 3) := by decide +kernel
theorem dX1_init_15 : decode cX1_init 15 = .ok (.aload_n 0, 1) := by decide +kernel
theorem dX1_init_16 : decode cX1_init 16 = .ok (.new 9, 3) := by decide +kernel
theorem dX1_init_19 : decode cX1_init 19 = .ok (.dup, 1) := by decide +kernel
theorem dX1_init_20 : decode cX1_init 20 = .ok (.invokespecial 11, 3) := by decide +kernel
theorem dX1_init_23 : decode cX1_init 23 = .ok (.putfield 18, 3) := by decide +kernel
theorem dX1_init_26 : decode cX1_init 26 = .ok (.aload_n 0, 1) := by decide +kernel
theorem dX1_init_27 : decode cX1_init 27 = .ok (.iconst (-1), 1) := by decide +kernel
theorem dX1_init_28 : decode cX1_init 28 = .ok (.putfield 21, 3) := by decide +kernel
theorem dX1_init_31 : decode cX1_init 31 = .ok (.aload_n 0, 1) := by decide +kernel
theorem dX1_init_32 : decode cX1_init 32 = .ok (.iconst 0, 1) := by decide +kernel
theorem dX1_init_33 : decode cX1_init 33 = .ok (.putfield 25, 3) := by decide +kernel
theorem dX1_init_36 : decode cX1_init 36 = .ok (.aload_n 0, 1) := by decide +kernel
theorem dX1_init_37 : decode cX1_init 37 = .ok (.aload_n 1, 1) := by decide +kernel
theorem dX1_init_38 : decode cX1_init 38 = .ok (.putfield 29, 3) := by decide +kernel
theorem dX1_init_41 : decode cX1_init 41 = .ok (.aload_n 0, 1) := by decide +kernel
theorem dX1_init_42 : decode cX1_init 42 = .ok (.aload_n 2, 1) := by decide +kernel
theorem dX1_init_43 : decode cX1_init 43 = .ok (.putfield 33, 3) := by decide +kernel
theorem dX1_init_46 : decode cX1_init 46 = .ok (.return_, 1) := by decide +kernel
theorem dX1_found_0 : decode cX1_found 0 = .ok (.aload_n 0, 1) := by decide +kernel
theorem dX1_found_1 : decode cX1_found 1 = .ok (.getfield 18, 3) := by decide +kernel
theorem dX1_found_4 : decode cX1_found 4 = .ok (.areturn, 1) := by decide +kernel
theorem dX1_search_0 : decode cX1_search 0 = .ok (.aload_n 0, 1) := by decide +kernel
theorem dX1_search_1 : decode cX1_search 1 = .ok (.getfield 12, 3) := by decide +kernel
theorem dX1_search_4 : decode cX1_search 4 = .ok (.aload_n 2, 1) := by decide +kernel
theorem dX1_search_5 : decode cX1_search 5 = .ok (.invokevirtual 37, 3) := by decide +kernel
theorem dX1_search_8 : decode cX1_search 8 = .ok (.aload_n 0, 1) := by decide +kernel
theorem dX1_search_9 : decode cX1_search 9 = .ok (.aload_n 0, 1) := by decide +kernel
theorem dX1_search_10 : decode cX1_search 10 = .ok (.getfield 33, 3) := by decide +kernel
theorem dX1_search_13 : decode cX1_search 13 = .ok (.iload_n 1, 1) := by decide +kernel
theorem dX1_search_14 : decode cX1_search 14 = .ok (.aload_n 0, 1) := by decide +kernel
theorem dX1_search_15 : decode cX1_search 15 = .ok (.getfield 12, 3) := by decide +kernel
theorem dX1_search_18 : decode cX1_search 18 = .ok (.invokevirtual 41, 3) := by decide +kernel
theorem dX1_search_21 : decode cX1_search 21 = .ok (.putfield 21, 3) := by decide +kernel
theorem dX1_search_24 : decode cX1_search 24 = .ok (.aload_n 0, 1) := by decide +kernel
theorem dX1_search_25 : decode cX1_search 25 = .ok (.iconst 0, 1) := by decide +kernel
theorem dX1_search_26 : decode cX1_search 26 = .ok (.putfield 25, 3) := by decide +kernel
theorem dX1_search_29 : decode cX1_search 29 = .ok (.iconst 0, 1) := by decide +kernel
theorem dX1_search_30 : decode cX1_search 30 = .ok (.istore_n 3, 1) := by decide +kernel
theorem dX1_search_31 : decode cX1_search 31 = .ok (.iload_n 3, 1) := by decide +kernel
theorem dX1_search_32 : decode cX1_search 32 = .ok (.aload_n 0, 1) := by decide +kernel
theorem dX1_search_33 : decode cX1_search 33 = .ok (.getfield 12, 3) := by decide +kernel
theorem dX1_search_36 : decode cX1_search 36 = .ok (.invokevirtual 47, 3) := by decide +kernel
theorem dX1_search_39 : decode cX1_search 39 = .ok (.if_icmp .ge 38, 3) := by decide +kernel
theorem dX1_search_42 : decode cX1_search 42 = .ok (.iconst 0, 1) := by decide +kernel
theorem dX1_search_43 : decode cX1_search 43 = .ok (.istore 4, 2) := by decide +kernel
theorem dX1_search_45 : decode cX1_search 45 = .ok (.iload 4, 2) := by decide +kernel
theorem dX1_search_47 : decode cX1_search 47 = .ok (.aload_n 0, 1) := by decide +kernel
theorem dX1_search_48 : decode cX1_search 48 = .ok (.getfield 29, 3) := by decide +kernel
theorem dX1_search_51 : decode cX1_search 51 = .ok (.invokevirtual 51, 3) := by decide +kernel
theorem dX1_search_54 : decode cX1_search 54 = .ok (.if_icmp .ge 17, 3) := by decide +kernel
theorem dX1_search_57 : decode cX1_search 57 = .ok (.aload_n 0, 1) := by decide +kernel
theorem dX1_search_58 : decode cX1_search 58 = .ok (.iload_n 1, 1) := by decide +kernel
theorem dX1_search_59 : decode cX1_search 59 = .ok (.iload_n 3, 1) := by decide +kernel
theorem dX1_search_60 : decode cX1_search 60 = .ok (.iload 4, 2) := by decide +kernel
theorem dX1_search_62 : decode cX1_search 62 = .ok (.invokevirtual 56, 3) := by decide +kernel
theorem dX1_search_65 : decode cX1_search 65 = .ok (.iinc 4 1, 3) := by decide +kernel
theorem dX1_search_68 : decode cX1_search 68 = .ok (.goto (-23), 3) := by decide +kernel
theorem dX1_search_71 : decode cX1_search 71 = .ok (.iinc 3 1, 3) := by decide +kernel
theorem dX1_search_74 : decode cX1_search 74 = .ok (.goto (-43), 3) := by decide +kernel
theorem dX1_search_77 : decode cX1_search 77 = .ok (.aload_n 0, 1) := by decide +kernel
theorem dX1_search_78 : decode cX1_search 78 = .ok (.getfield 25, 3) := by decide +kernel
theorem dX1_search_81 : decode cX1_search 81 = .ok (.ireturn, 1) := by decide +kernel
theorem dX1_tryChange_0 : decode cX1_tryChange 0 = .ok (.aload_n 0, 1) := by decide +kernel
theorem dX1_tryChange_1 : decode cX1_tryChange 1 = .ok (.getfield 12, 3) := by decide +kernel
theorem dX1_tryChange_4 : decode cX1_tryChange 4 = .ok (.iload_n 2, 1) := by decide +kernel
theorem dX1_tryChange_5 : decode cX1_tryChange 5 = .ok (.invokevirtual 60, 3) := by decide +kernel
theorem dX1_tryChange_8 : decode cX1_tryChange 8 = .ok (.istore 4, 2) := by decide +kernel
theorem dX1_tryChange_10 : decode cX1_tryChange 10 = .ok (.aload_n 0, 1) := by decide +kernel
theorem dX1_tryChange_11 : decode cX1_tryChange 11 = .ok (.getfield 12, 3) := by decide +kernel
theorem dX1_tryChange_14 : decode cX1_tryChange 14 = .ok (.iload_n 3, 1) := by decide +kernel
theorem dX1_tryChange_15 : decode cX1_tryChange 15 = .ok (.aload_n 0, 1) := by decide +kernel
theorem dX1_tryChange_16 : decode cX1_tryChange 16 = .ok (.getfield 12, 3) := by decide +kernel
theorem dX1_tryChange_19 : decode cX1_tryChange 19 = .ok (.invokevirtual 47, 3) := by decide +kernel
theorem dX1_tryChange_22 : decode cX1_tryChange 22 = .ok (.invokevirtual 64, 3) := by decide +kernel
theorem dX1_tryChange_25 : decode cX1_tryChange 25 = .ok (.istore 5, 2) := by decide +kernel
theorem dX1_tryChange_27 : decode cX1_tryChange 27 = .ok (.iload 5, 2) := by decide +kernel
theorem dX1_tryChange_29 : decode cX1_tryChange 29 = .ok (.iload_n 2, 1) := by decide +kernel
theorem dX1_tryChange_30 : decode cX1_tryChange 30 = .ok (.if_icmp .ne 4, 3) := by decide +kernel
theorem dX1_tryChange_33 : decode cX1_tryChange 33 = .ok (.return_, 1) := by decide +kernel
theorem dX1_tryChange_34 : decode cX1_tryChange 34 = .ok (.aload_n 0, 1) := by decide +kernel
theorem dX1_tryChange_35 : decode cX1_tryChange 35 = .ok (.getfield 12, 3) := by decide +kernel
theorem dX1_tryChange_38 : decode cX1_tryChange 38 = .ok (.iload_n 2, 1) := by decide +kernel
theorem dX1_tryChange_39 : decode cX1_tryChange 39 = .ok (.iload_n 3, 1) := by decide +kernel
theorem dX1_tryChange_40 : decode cX1_tryChange 40 = .ok (.invokevirtual 68, 3) := by decide +kernel
theorem dX1_tryChange_43 : decode cX1_tryChange 43 = .ok (.iload 5, 2) := by decide +kernel
theorem dX1_tryChange_45 : decode cX1_tryChange 45 = .ok (.iconst (-1), 1) := by decide +kernel
theorem dX1_tryChange_46 : decode cX1_tryChange 46 = .ok (.if_icmp .eq 14, 3) := by decide +kernel
theorem dX1_tryChange_49 : decode cX1_tryChange 49 = .ok (.aload_n 0, 1) := by decide +kernel
theorem dX1_tryChange_50 : decode cX1_tryChange 50 = .ok (.getfield 12, 3) := by decide +kernel
theorem dX1_tryChange_53 : decode cX1_tryChange 53 = .ok (.iload 5, 2) := by decide +kernel
theorem dX1_tryChange_55 : decode cX1_tryChange 55 = .ok (.iload 4, 2) := by decide +kernel
theorem dX1_tryChange_57 : decode cX1_tryChange 57 = .ok (.invokevirtual 68, 3) := by decide +kernel
theorem dX1_tryChange_60 : decode cX1_tryChange 60 = .ok (.aload_n 0, 1) := by decide +kernel
theorem dX1_tryChange_61 : decode cX1_tryChange 61 = .ok (.aload_n 0, 1) := by decide +kernel
theorem dX1_tryChange_62 : decode cX1_tryChange 62 = .ok (.getfield 33, 3) := by decide +kernel
theorem dX1_tryChange_65 : decode cX1_tryChange 65 = .ok (.iload_n 1, 1) := by decide +kernel
theorem dX1_tryChange_66 : decode cX1_tryChange 66 = .ok (.aload_n 0, 1) := by decide +kernel
theorem dX1_tryChange_67 : decode cX1_tryChange 67 = .ok (.getfield 12, 3) := by decide +kernel
theorem dX1_tryChange_70 : decode cX1_tryChange 70 = .ok (.invokevirtual 41, 3) := by decide +kernel
theorem dX1_tryChange_73 : decode cX1_tryChange 73 = .ok (.invokevirtual 72, 3) := by decide +kernel
theorem dX1_tryChange_76 : decode cX1_tryChange 76 = .ok (.aload_n 0, 1) := by decide +kernel
theorem dX1_tryChange_77 : decode cX1_tryChange 77 = .ok (.getfield 12, 3) := by decide +kernel
theorem dX1_tryChange_80 : decode cX1_tryChange 80 = .ok (.iload_n 2, 1) := by decide +kernel
theorem dX1_tryChange_81 : decode cX1_tryChange 81 = .ok (.iload 4, 2) := by decide +kernel
theorem dX1_tryChange_83 : decode cX1_tryChange 83 = .ok (.invokevirtual 68, 3) := by decide +kernel
theorem dX1_tryChange_86 : decode cX1_tryChange 86 = .ok (.iload 5, 2) := by decide +kernel
theorem dX1_tryChange_88 : decode cX1_tryChange 88 = .ok (.iconst (-1), 1) := by decide +kernel
theorem dX1_tryChange_89 : decode cX1_tryChange 89 = .ok (.if_icmp .eq 13, 3) := by decide +kernel
theorem dX1_tryChange_92 : decode cX1_tryChange 92 = .ok (.aload_n 0, 1) := by decide +kernel
theorem dX1_tryChange_93 : decode cX1_tryChange 93 = .ok (.getfield 12, 3) := by decide +kernel
theorem dX1_tryChange_96 : decode cX1_tryChange 96 = .ok (.iload 5, 2) := by decide +kernel
theorem dX1_tryChange_98 : decode cX1_tryChange 98 = .ok (.iload_n 3, 1) := by decide +kernel
theorem dX1_tryChange_99 : decode cX1_tryChange 99 = .ok (.invokevirtual 68, 3) := by decide +kernel
theorem dX1_tryChange_102 : decode cX1_tryChange 102 = .ok (.return_, 1) := by decide +kernel
theorem dX1_compare_0 : decode cX1_compare 0 = .ok (.iload_n 1, 1) := by decide +kernel
theorem dX1_compare_1 : decode cX1_compare 1 = .ok (.iconst (-1), 1) := by decide +kernel
theorem dX1_compare_2 : decode cX1_compare 2 = .ok (.if_icmp .ne 4, 3) := by decide +kernel
theorem dX1_compare_5 : decode cX1_compare 5 = .ok (.return_, 1) := by decide +kernel
theorem dX1_compare_6 : decode cX1_compare 6 = .ok (.aload_n 0, 1) := by decide +kernel
theorem dX1_compare_7 : decode cX1_compare 7 = .ok (.getfield 21, 3) := by decide +kernel
theorem dX1_compare_10 : decode cX1_compare 10 = .ok (.iconst (-1), 1) := by decide +kernel
theorem dX1_compare_11 : decode cX1_compare 11 = .ok (.if_icmp .eq 11, 3) := by decide +kernel
theorem dX1_compare_14 : decode cX1_compare 14 = .ok (.iload_n 1, 1) := by decide +kernel
theorem dX1_compare_15 : decode cX1_compare 15 = .ok (.aload_n 0, 1) := by decide +kernel
theorem dX1_compare_16 : decode cX1_compare 16 = .ok (.getfield 21, 3) := by decide +kernel
theorem dX1_compare_19 : decode cX1_compare 19 = .ok (.if_icmp .ge 7, 3) := by decide +kernel
theorem dX1_compare_22 : decode cX1_compare 22 = .ok (.iconst 1, 1) := by decide +kernel
theorem dX1_compare_23 : decode cX1_compare 23 = .ok (.goto 4, 3) := by decide +kernel
theorem dX1_compare_26 : decode cX1_compare 26 = .ok (.iconst 0, 1) := by decide +kernel
theorem dX1_compare_27 : decode cX1_compare 27 = .ok (.istore_n 2, 1) := by decide +kernel
theorem dX1_compare_28 : decode cX1_compare 28 = .ok (.iload_n 2, 1) := by decide +kernel
theorem dX1_compare_29 : decode cX1_compare 29 = .ok (.ifCond .ne 32, 3) := by decide +kernel
theorem dX1_compare_32 : decode cX1_compare 32 = .ok (.aload_n 0, 1) := by decide +kernel
theorem dX1_compare_33 : decode cX1_compare 33 = .ok (.getfield 25, 3) := by decide +kernel
theorem dX1_compare_36 : decode cX1_compare 36 = .ok (.ifCond .eq 46, 3) := by decide +kernel
theorem dX1_compare_39 : decode cX1_compare 39 = .ok (.iload_n 1, 1) := by decide +kernel
theorem dX1_compare_40 : decode cX1_compare 40 = .ok (.aload_n 0, 1) := by decide +kernel
theorem dX1_compare_41 : decode cX1_compare 41 = .ok (.getfield 21, 3) := by decide +kernel
theorem dX1_compare_44 : decode cX1_compare 44 = .ok (.if_icmp .ne 38, 3) := by decide +kernel
theorem dX1_compare_47 : decode cX1_compare 47 = .ok (.aload_n 0, 1) := by decide +kernel
theorem dX1_compare_48 : decode cX1_compare 48 = .ok (.getfield 12, 3) := by decide +kernel
theorem dX1_compare_51 : decode cX1_compare 51 = .ok (.aload_n 0, 1) := by decide +kernel
theorem dX1_compare_52 : decode cX1_compare 52 = .ok (.getfield 18, 3) := by decide +kernel
theorem dX1_compare_55 : decode cX1_compare 55 = .ok (.invokevirtual 76, 3) := by decide +kernel
theorem dX1_compare_58 : decode cX1_compare 58 = .ok (.ifCond .eq 24, 3) := by decide +kernel
theorem dX1_compare_61 : decode cX1_compare 61 = .ok (.aload_n 0, 1) := by decide +kernel
theorem dX1_compare_62 : decode cX1_compare 62 = .ok (.iload_n 1, 1) := by decide +kernel
theorem dX1_compare_63 : decode cX1_compare 63 = .ok (.putfield 21, 3) := by decide +kernel
theorem dX1_compare_66 : decode cX1_compare 66 = .ok (.aload_n 0, 1) := by decide +kernel
theorem dX1_compare_67 : decode cX1_compare 67 = .ok (.iconst 1, 1) := by decide +kernel
theorem dX1_compare_68 : decode cX1_compare 68 = .ok (.putfield 25, 3) := by decide +kernel
theorem dX1_compare_71 : decode cX1_compare 71 = .ok (.aload_n 0, 1) := by decide +kernel
theorem dX1_compare_72 : decode cX1_compare 72 = .ok (.getfield 18, 3) := by decide +kernel
theorem dX1_compare_75 : decode cX1_compare 75 = .ok (.aload_n 0, 1) := by decide +kernel
theorem dX1_compare_76 : decode cX1_compare 76 = .ok (.getfield 12, 3) := by decide +kernel
theorem dX1_compare_79 : decode cX1_compare 79 = .ok (.invokevirtual 37, 3) := by decide +kernel
theorem dX1_compare_82 : decode cX1_compare 82 = .ok (.return_, 1) := by decide +kernel
theorem dX2_init_0 : decode cX2_init 0 = .ok (.aload_n 0, 1) := by decide +kernel
theorem dX2_init_1 : decode cX2_init 1 = .ok (.invokespecial 3, 3) := by decide +kernel
theorem dX2_init_4 : decode cX2_init 4 = .ok (.aload_n 0, 1) := by decide +kernel
theorem dX2_init_5 : decode cX2_init 5 = .ok (.new 9, 3) := by decide +kernel
theorem dX2_init_8 : decode cX2_init 8 = .ok (.dup, 1) := by decide +kernel
theorem dX2_init_9 : decode cX2_init 9 = .ok (.bipush 36, 2) := by decide +kernel
theorem dX2_init_11 : decode cX2_init 11 = .ok (.invokespecial 11, 3) := by decide +kernel
theorem dX2_init_14 : decode cX2_init 14 = .ok (.putfield 14, 3) := by decide +kernel
theorem dX2_init_17 : decode cX2_init 17 = .ok (.aload_n 0, 1) := by decide +kernel
theorem dX2_init_18 : decode cX2_init 18 = .ok (.new 9, 3) := by decide +kernel
theorem dX2_init_21 : decode cX2_init 21 = .ok (.dup, 1) := by decide +kernel
theorem dX2_init_22 : decode cX2_init 22 = .ok (.bipush 6, 2) := by decide +kernel
theorem dX2_init_24 : decode cX2_init 24 = .ok (.invokespecial 11, 3) := by decide +kernel
theorem dX2_init_27 : decode cX2_init 27 = .ok (.putfield 20, 3) := by decide +kernel
theorem dX2_init_30 : decode cX2_init 30 = .ok (.aload_n 0, 1) := by decide +kernel
theorem dX2_init_31 : decode cX2_init 31 = .ok (.new 9, 3) := by decide +kernel
theorem dX2_init_34 : decode cX2_init 34 = .ok (.dup, 1) := by decide +kernel
theorem dX2_init_35 : decode cX2_init 35 = .ok (.bipush 36, 2) := by decide +kernel
theorem dX2_init_37 : decode cX2_init 37 = .ok (.invokespecial 11, 3) := by decide +kernel
theorem dX2_init_40 : decode cX2_init 40 = .ok (.putfield 23, 3) := by decide +kernel
theorem dX2_init_43 : decode cX2_init 43 = .ok (.aload_n 0, 1) := by decide +kernel
theorem dX2_init_44 : decode cX2_init 44 = .ok (.new 9, 3) := by decide +kernel
theorem dX2_init_47 : decode cX2_init 47 = .ok (.dup, 1) := by decide +kernel
theorem dX2_init_48 : decode cX2_init 48 = .ok (.bipush 6, 2) := by decide +kernel
theorem dX2_init_50 : decode cX2_init 50 = .ok (.invokespecial 11, 3) := by decide +kernel
theorem dX2_init_53 : decode cX2_init 53 = .ok (.putfield 26, 3) := by decide +kernel
theorem dX2_init_56 : decode cX2_init 56 = .ok (.aload_n 0, 1) := by decide +kernel
theorem dX2_init_57 : decode cX2_init 57 = .ok (.new 9, 3) := by decide +kernel
theorem dX2_init_60 : decode cX2_init 60 = .ok (.dup, 1) := by decide +kernel
theorem dX2_init_61 : decode cX2_init 61 = .ok (.bipush 36, 2) := by decide +kernel
theorem dX2_init_63 : decode cX2_init 63 = .ok (.invokespecial 11, 3) := by decide +kernel
theorem dX2_init_66 : decode cX2_init 66 = .ok (.putfield 29, 3) := by decide +kernel
theorem dX2_init_69 : decode cX2_init 69 = .ok (.aload_n 0, 1) := by decide +kernel
theorem dX2_init_70 : decode cX2_init 70 = .ok (.new 9, 3) := by decide +kernel
theorem dX2_init_73 : decode cX2_init 73 = .ok (.dup, 1) := by decide +kernel
theorem dX2_init_74 : decode cX2_init 74 = .ok (.bipush 36, 2) := by decide +kernel
theorem dX2_init_76 : decode cX2_init 76 = .ok (.invokespecial 11, 3) := by decide +kernel
theorem dX2_init_79 : decode cX2_init 79 = .ok (.putfield 32, 3) := by decide +kernel
theorem dX2_init_82 : decode cX2_init 82 = .ok (.aload_n 0, 1) := by decide +kernel
theorem dX2_init_83 : decode cX2_init 83 = .ok (.iconst 0, 1) := by decide +kernel
theorem dX2_init_84 : decode cX2_init 84 = .ok (.putfield 35, 3) := by decide +kernel
theorem dX2_init_87 : decode cX2_init 87 = .ok (.aload_n 0, 1) := by decide +kernel
theorem dX2_init_88 : decode cX2_init 88 = .ok (.iconst 0, 1) := by decide +kernel
theorem dX2_init_89 : decode cX2_init 89 = .ok (.putfield 39, 3) := by decide +kernel
theorem dX2_init_92 : decode cX2_init 92 = .ok (.aload_n 0, 1) := by decide +kernel
theorem dX2_init_93 : decode cX2_init 93 = .ok (.bipush 41, 2) := by decide +kernel
theorem dX2_init_95 : decode cX2_init 95 = .ok (.putfield 42, 3) := by decide +kernel
theorem dX2_init_98 : decode cX2_init 98 = .ok (.return_, 1) := by decide +kernel
theorem dX2_kindOf_0 : decode cX2_kindOf 0 = .ok (.aload_n 0, 1) := by decide +kernel
theorem dX2_kindOf_1 : decode cX2_kindOf 1 = .ok (.getfield 14, 3) := by decide +kernel
theorem dX2_kindOf_4 : decode cX2_kindOf 4 = .ok (.iload_n 1, 1) := by decide +kernel
theorem dX2_kindOf_5 : decode cX2_kindOf 5 = .ok (.invokevirtual 45, 3) := by decide +kernel
theorem dX2_kindOf_8 : decode cX2_kindOf 8 = .ok (.ireturn, 1) := by decide +kernel
theorem dX2_slots_0 : decode cX2_slots 0 = .ok (.aload_n 0, 1) := by decide +kernel
theorem dX2_slots_1 : decode cX2_slots 1 = .ok (.getfield 39, 3) := by decide +kernel
theorem dX2_slots_4 : decode cX2_slots 4 = .ok (.ireturn, 1) := by decide +kernel
theorem dX2_hasSlot_0 : decode cX2_hasSlot 0 = .ok (.iload_n 1, 1) := by decide +kernel
theorem dX2_hasSlot_1 : decode cX2_hasSlot 1 = .ok (.ifCond .lt 15, 3) := by decide +kernel
theorem dX2_hasSlot_4 : decode cX2_hasSlot 4 = .ok (.iload_n 1, 1) := by decide +kernel
theorem dX2_hasSlot_5 : decode cX2_hasSlot 5 = .ok (.aload_n 0, 1) := by decide +kernel
theorem dX2_hasSlot_6 : decode cX2_hasSlot 6 = .ok (.getfield 39, 3) := by decide +kernel
theorem dX2_hasSlot_9 : decode cX2_hasSlot 9 = .ok (.if_icmp .ge 7, 3) := by decide +kernel
theorem dX2_hasSlot_12 : decode cX2_hasSlot 12 = .ok (.iconst 1, 1) := by decide +kernel
theorem dX2_hasSlot_13 : decode cX2_hasSlot 13 = .ok (.goto 4, 3) := by decide +kernel
theorem dX2_hasSlot_16 : decode cX2_hasSlot 16 = .ok (.iconst 0, 1) := by decide +kernel
theorem dX2_hasSlot_17 : decode cX2_hasSlot 17 = .ok (.ireturn, 1) := by decide +kernel
theorem dX2_cellsOf_0 : decode cX2_cellsOf 0 = .ok (.iconst 0, 1) := by decide +kernel
theorem dX2_cellsOf_1 : decode cX2_cellsOf 1 = .ok (.istore_n 2, 1) := by decide +kernel
theorem dX2_cellsOf_2 : decode cX2_cellsOf 2 = .ok (.iconst 0, 1) := by decide +kernel
theorem dX2_cellsOf_3 : decode cX2_cellsOf 3 = .ok (.istore_n 3, 1) := by decide +kernel
theorem dX2_cellsOf_4 : decode cX2_cellsOf 4 = .ok (.iload_n 3, 1) := by decide +kernel
theorem dX2_cellsOf_5 : decode cX2_cellsOf 5 = .ok (.bipush 36, 2) := by decide +kernel
theorem dX2_cellsOf_7 : decode cX2_cellsOf 7 = .ok (.if_icmp .ge 24, 3) := by decide +kernel
theorem dX2_cellsOf_10 : decode cX2_cellsOf 10 = .ok (.aload_n 0, 1) := by decide +kernel
theorem dX2_cellsOf_11 : decode cX2_cellsOf 11 = .ok (.getfield 14, 3) := by decide +kernel
theorem dX2_cellsOf_14 : decode cX2_cellsOf 14 = .ok (.iload_n 3, 1) := by decide +kernel
theorem dX2_cellsOf_15 : decode cX2_cellsOf 15 = .ok (.invokevirtual 45, 3) := by decide +kernel
theorem dX2_cellsOf_18 : decode cX2_cellsOf 18 = .ok (.iload_n 1, 1) := by decide +kernel
theorem dX2_cellsOf_19 : decode cX2_cellsOf 19 = .ok (.if_icmp .ne 6, 3) := by decide +kernel
theorem dX2_cellsOf_22 : decode cX2_cellsOf 22 = .ok (.iinc 2 1, 3) := by decide +kernel
theorem dX2_cellsOf_25 : decode cX2_cellsOf 25 = .ok (.iinc 3 1, 3) := by decide +kernel
theorem dX2_cellsOf_28 : decode cX2_cellsOf 28 = .ok (.goto (-24), 3) := by decide +kernel
theorem dX2_cellsOf_31 : decode cX2_cellsOf 31 = .ok (.iload_n 2, 1) := by decide +kernel
theorem dX2_cellsOf_32 : decode cX2_cellsOf 32 = .ok (.ireturn, 1) := by decide +kernel
theorem dX2_wayBetween_0 : decode cX2_wayBetween 0 = .ok (.aload_n 0, 1) := by decide +kernel
theorem dX2_wayBetween_1 : decode cX2_wayBetween 1 = .ok (.getfield 23, 3) := by decide +kernel
theorem dX2_wayBetween_4 : decode cX2_wayBetween 4 = .ok (.iload_n 1, 1) := by decide +kernel
theorem dX2_wayBetween_5 : decode cX2_wayBetween 5 = .ok (.bipush 6, 2) := by decide +kernel
theorem dX2_wayBetween_7 : decode cX2_wayBetween 7 = .ok (.imul, 1) := by decide +kernel
theorem dX2_wayBetween_8 : decode cX2_wayBetween 8 = .ok (.iload_n 2, 1) := by decide +kernel
theorem dX2_wayBetween_9 : decode cX2_wayBetween 9 = .ok (.iadd, 1) := by decide +kernel
theorem dX2_wayBetween_10 : decode cX2_wayBetween 10 = .ok (.invokevirtual 45, 3) := by decide +kernel
theorem dX2_wayBetween_13 : decode cX2_wayBetween 13 = .ok (.ireturn, 1) := by decide +kernel
theorem dX2_wayOut_0 : decode cX2_wayOut 0 = .ok (.aload_n 0, 1) := by decide +kernel
theorem dX2_wayOut_1 : decode cX2_wayOut 1 = .ok (.getfield 26, 3) := by decide +kernel
theorem dX2_wayOut_4 : decode cX2_wayOut 4 = .ok (.iload_n 1, 1) := by decide +kernel
theorem dX2_wayOut_5 : decode cX2_wayOut 5 = .ok (.invokevirtual 45, 3) := by decide +kernel
theorem dX2_wayOut_8 : decode cX2_wayOut 8 = .ok (.ireturn, 1) := by decide +kernel
theorem dX2_changeBound_0 : decode cX2_changeBound 0 = .ok (.aload_n 0, 1) := by decide +kernel
theorem dX2_changeBound_1 : decode cX2_changeBound 1 = .ok (.getfield 42, 3) := by decide +kernel
theorem dX2_changeBound_4 : decode cX2_changeBound 4 = .ok (.istore_n 2, 1) := by decide +kernel
theorem dX2_changeBound_5 : decode cX2_changeBound 5 = .ok (.aload_n 0, 1) := by decide +kernel
theorem dX2_changeBound_6 : decode cX2_changeBound 6 = .ok (.iload_n 1, 1) := by decide +kernel
theorem dX2_changeBound_7 : decode cX2_changeBound 7 = .ok (.putfield 42, 3) := by decide +kernel
theorem dX2_changeBound_10 : decode cX2_changeBound 10 = .ok (.iload_n 2, 1) := by decide +kernel
theorem dX2_changeBound_11 : decode cX2_changeBound 11 = .ok (.ireturn, 1) := by decide +kernel
theorem dX2_isOutNear_0 : decode cX2_isOutNear 0 = .ok (.aload_n 0, 1) := by decide +kernel
theorem dX2_isOutNear_1 : decode cX2_isOutNear 1 = .ok (.getfield 26, 3) := by decide +kernel
theorem dX2_isOutNear_4 : decode cX2_isOutNear 4 = .ok (.iload_n 1, 1) := by decide +kernel
theorem dX2_isOutNear_5 : decode cX2_isOutNear 5 = .ok (.invokevirtual 45, 3) := by decide +kernel
theorem dX2_isOutNear_8 : decode cX2_isOutNear 8 = .ok (.istore_n 2, 1) := by decide +kernel
theorem dX2_isOutNear_9 : decode cX2_isOutNear 9 = .ok (.aload_n 0, 1) := by decide +kernel
theorem dX2_isOutNear_10 : decode cX2_isOutNear 10 = .ok (.getfield 42, 3) := by decide +kernel
theorem dX2_isOutNear_13 : decode cX2_isOutNear 13 = .ok (.bipush 41, 2) := by decide +kernel
theorem dX2_isOutNear_15 : decode cX2_isOutNear 15 = .ok (.if_icmp .eq 16, 3) := by decide +kernel
theorem dX2_isOutNear_18 : decode cX2_isOutNear 18 = .ok (.iload_n 2, 1) := by decide +kernel
theorem dX2_isOutNear_19 : decode cX2_isOutNear 19 = .ok (.iconst (-1), 1) := by decide +kernel
theorem dX2_isOutNear_20 : decode cX2_isOutNear 20 = .ok (.if_icmp .eq 15, 3) := by decide +kernel
theorem dX2_isOutNear_23 : decode cX2_isOutNear 23 = .ok (.iload_n 2, 1) := by decide +kernel
theorem dX2_isOutNear_24 : decode cX2_isOutNear 24 = .ok (.aload_n 0, 1) := by decide +kernel
theorem dX2_isOutNear_25 : decode cX2_isOutNear 25 = .ok (.getfield 42, 3) := by decide +kernel
theorem dX2_isOutNear_28 : decode cX2_isOutNear 28 = .ok (.if_icmp .gt 7, 3) := by decide +kernel
theorem dX2_isOutNear_31 : decode cX2_isOutNear 31 = .ok (.iconst 1, 1) := by decide +kernel
theorem dX2_isOutNear_32 : decode cX2_isOutNear 32 = .ok (.goto 4, 3) := by decide +kernel
theorem dX2_isOutNear_35 : decode cX2_isOutNear 35 = .ok (.iconst 0, 1) := by decide +kernel
theorem dX2_isOutNear_36 : decode cX2_isOutNear 36 = .ok (.ireturn, 1) := by decide +kernel
theorem dX2_become_0 : decode cX2_become 0 = .ok (.aload_n 0, 1) := by decide +kernel
theorem dX2_become_1 : decode cX2_become 1 = .ok (.getfield 14, 3) := by decide +kernel
theorem dX2_become_4 : decode cX2_become 4 = .ok (.iload_n 1, 1) := by decide +kernel
theorem dX2_become_5 : decode cX2_become 5 = .ok (.iload_n 2, 1) := by decide +kernel
theorem dX2_become_6 : decode cX2_become 6 = .ok (.invokevirtual 49, 3) := by decide +kernel
theorem dX2_become_9 : decode cX2_become 9 = .ok (.aload_n 0, 1) := by decide +kernel
theorem dX2_become_10 : decode cX2_become 10 = .ok (.invokevirtual 53, 3) := by decide +kernel
theorem dX2_become_13 : decode cX2_become 13 = .ok (.return_, 1) := by decide +kernel
theorem dX2_addSlot_0 : decode cX2_addSlot 0 = .ok (.aload_n 0, 1) := by decide +kernel
theorem dX2_addSlot_1 : decode cX2_addSlot 1 = .ok (.getfield 39, 3) := by decide +kernel
theorem dX2_addSlot_4 : decode cX2_addSlot 4 = .ok (.istore_n 2, 1) := by decide +kernel
theorem dX2_addSlot_5 : decode cX2_addSlot 5 = .ok (.aload_n 0, 1) := by decide +kernel
theorem dX2_addSlot_6 : decode cX2_addSlot 6 = .ok (.getfield 20, 3) := by decide +kernel
theorem dX2_addSlot_9 : decode cX2_addSlot 9 = .ok (.iload_n 2, 1) := by decide +kernel
theorem dX2_addSlot_10 : decode cX2_addSlot 10 = .ok (.iload_n 1, 1) := by decide +kernel
theorem dX2_addSlot_11 : decode cX2_addSlot 11 = .ok (.invokevirtual 49, 3) := by decide +kernel
theorem dX2_addSlot_14 : decode cX2_addSlot 14 = .ok (.aload_n 0, 1) := by decide +kernel
theorem dX2_addSlot_15 : decode cX2_addSlot 15 = .ok (.dup, 1) := by decide +kernel
theorem dX2_addSlot_16 : decode cX2_addSlot 16 = .ok (.getfield 39, 3) := by decide +kernel
theorem dX2_addSlot_19 : decode cX2_addSlot 19 = .ok (.iconst 1, 1) := by decide +kernel
theorem dX2_addSlot_20 : decode cX2_addSlot 20 = .ok (.iadd, 1) := by decide +kernel
theorem dX2_addSlot_21 : decode cX2_addSlot 21 = .ok (.putfield 39, 3) := by decide +kernel
theorem dX2_addSlot_24 : decode cX2_addSlot 24 = .ok (.aload_n 0, 1) := by decide +kernel
theorem dX2_addSlot_25 : decode cX2_addSlot 25 = .ok (.iload_n 1, 1) := by decide +kernel
theorem dX2_addSlot_26 : decode cX2_addSlot 26 = .ok (.iconst 2, 1) := by decide +kernel
theorem dX2_addSlot_27 : decode cX2_addSlot 27 = .ok (.invokevirtual 56, 3) := by decide +kernel
theorem dX2_addSlot_30 : decode cX2_addSlot 30 = .ok (.iload_n 2, 1) := by decide +kernel
theorem dX2_addSlot_31 : decode cX2_addSlot 31 = .ok (.ireturn, 1) := by decide +kernel
theorem dX2_measure_0 : decode cX2_measure 0 = .ok (.iconst 0, 1) := by decide +kernel
theorem dX2_measure_1 : decode cX2_measure 1 = .ok (.istore_n 1, 1) := by decide +kernel
theorem dX2_measure_2 : decode cX2_measure 2 = .ok (.iload_n 1, 1) := by decide +kernel
theorem dX2_measure_3 : decode cX2_measure 3 = .ok (.aload_n 0, 1) := by decide +kernel
theorem dX2_measure_4 : decode cX2_measure 4 = .ok (.getfield 39, 3) := by decide +kernel
theorem dX2_measure_7 : decode cX2_measure 7 = .ok (.if_icmp .ge 77, 3) := by decide +kernel
theorem dX2_measure_10 : decode cX2_measure 10 = .ok (.aload_n 0, 1) := by decide +kernel
theorem dX2_measure_11 : decode cX2_measure 11 = .ok (.aload_n 0, 1) := by decide +kernel
theorem dX2_measure_12 : decode cX2_measure 12 = .ok (.getfield 20, 3) := by decide +kernel
theorem dX2_measure_15 : decode cX2_measure 15 = .ok (.iload_n 1, 1) := by decide +kernel
theorem dX2_measure_16 : decode cX2_measure 16 = .ok (.invokevirtual 45, 3) := by decide +kernel
theorem dX2_measure_19 : decode cX2_measure 19 = .ok (.invokevirtual 59, 3) := by decide +kernel
theorem dX2_measure_22 : decode cX2_measure 22 = .ok (.iconst 0, 1) := by decide +kernel
theorem dX2_measure_23 : decode cX2_measure 23 = .ok (.istore_n 2, 1) := by decide +kernel
theorem dX2_measure_24 : decode cX2_measure 24 = .ok (.iload_n 2, 1) := by decide +kernel
theorem dX2_measure_25 : decode cX2_measure 25 = .ok (.aload_n 0, 1) := by decide +kernel
theorem dX2_measure_26 : decode cX2_measure 26 = .ok (.getfield 39, 3) := by decide +kernel
theorem dX2_measure_29 : decode cX2_measure 29 = .ok (.if_icmp .ge 37, 3) := by decide +kernel
theorem dX2_measure_32 : decode cX2_measure 32 = .ok (.aload_n 0, 1) := by decide +kernel
theorem dX2_measure_33 : decode cX2_measure 33 = .ok (.getfield 23, 3) := by decide +kernel
theorem dX2_measure_36 : decode cX2_measure 36 = .ok (.iload_n 1, 1) := by decide +kernel
theorem dX2_measure_37 : decode cX2_measure 37 = .ok (.bipush 6, 2) := by decide +kernel
theorem dX2_measure_39 : decode cX2_measure 39 = .ok (.imul, 1) := by decide +kernel
theorem dX2_measure_40 : decode cX2_measure 40 = .ok (.iload_n 2, 1) := by decide +kernel
theorem dX2_measure_41 : decode cX2_measure 41 = .ok (.iadd, 1) := by decide +kernel
theorem dX2_measure_42 : decode cX2_measure 42 = .ok (.aload_n 0, 1) := by decide +kernel
theorem dX2_measure_43 : decode cX2_measure 43 = .ok (.getfield 29, 3) := by decide +kernel
theorem dX2_measure_46 : decode cX2_measure 46 = .ok (.aload_n 0, 1) := by decide +kernel
theorem dX2_measure_47 : decode cX2_measure 47 = .ok (.getfield 20, 3) := by decide +kernel
theorem dX2_measure_50 : decode cX2_measure 50 = .ok (.iload_n 2, 1) := by decide +kernel
theorem dX2_measure_51 : decode cX2_measure 51 = .ok (.invokevirtual 45, 3) := by decide +kernel
theorem dX2_measure_54 : decode cX2_measure 54 = .ok (.invokevirtual 45, 3) := by decide +kernel
theorem dX2_measure_57 : decode cX2_measure 57 = .ok (.invokevirtual 49, 3) := by decide +kernel
theorem dX2_measure_60 : decode cX2_measure 60 = .ok (.iinc 2 1, 3) := by decide +kernel
theorem dX2_measure_63 : decode cX2_measure 63 = .ok (.goto (-39), 3) := by decide +kernel
theorem dX2_measure_66 : decode cX2_measure 66 = .ok (.aload_n 0, 1) := by decide +kernel
theorem dX2_measure_67 : decode cX2_measure 67 = .ok (.getfield 26, 3) := by decide +kernel
theorem dX2_measure_70 : decode cX2_measure 70 = .ok (.iload_n 1, 1) := by decide +kernel
theorem dX2_measure_71 : decode cX2_measure 71 = .ok (.aload_n 0, 1) := by decide +kernel
theorem dX2_measure_72 : decode cX2_measure 72 = .ok (.invokevirtual 62, 3) := by decide +kernel
theorem dX2_measure_75 : decode cX2_measure 75 = .ok (.invokevirtual 49, 3) := by decide +kernel
theorem dX2_measure_78 : decode cX2_measure 78 = .ok (.iinc 1 1, 3) := by decide +kernel
theorem dX2_measure_81 : decode cX2_measure 81 = .ok (.goto (-79), 3) := by decide +kernel
theorem dX2_measure_84 : decode cX2_measure 84 = .ok (.return_, 1) := by decide +kernel
theorem dX2_flood_0 : decode cX2_flood 0 = .ok (.iconst 0, 1) := by decide +kernel
theorem dX2_flood_1 : decode cX2_flood 1 = .ok (.istore_n 2, 1) := by decide +kernel
theorem dX2_flood_2 : decode cX2_flood 2 = .ok (.iload_n 2, 1) := by decide +kernel
theorem dX2_flood_3 : decode cX2_flood 3 = .ok (.bipush 36, 2) := by decide +kernel
theorem dX2_flood_5 : decode cX2_flood 5 = .ok (.if_icmp .ge 18, 3) := by decide +kernel
theorem dX2_flood_8 : decode cX2_flood 8 = .ok (.aload_n 0, 1) := by decide +kernel
theorem dX2_flood_9 : decode cX2_flood 9 = .ok (.getfield 29, 3) := by decide +kernel
theorem dX2_flood_12 : decode cX2_flood 12 = .ok (.iload_n 2, 1) := by decide +kernel
theorem dX2_flood_13 : decode cX2_flood 13 = .ok (.iconst (-1), 1) := by decide +kernel
theorem dX2_flood_14 : decode cX2_flood 14 = .ok (.invokevirtual 49, 3) := by decide +kernel
theorem dX2_flood_17 : decode cX2_flood 17 = .ok (.iinc 2 1, 3) := by decide +kernel
theorem dX2_flood_20 : decode cX2_flood 20 = .ok (.goto (-18), 3) := by decide +kernel
theorem dX2_flood_23 : decode cX2_flood 23 = .ok (.aload_n 0, 1) := by decide +kernel
theorem dX2_flood_24 : decode cX2_flood 24 = .ok (.getfield 29, 3) := by decide +kernel
theorem dX2_flood_27 : decode cX2_flood 27 = .ok (.iload_n 1, 1) := by decide +kernel
theorem dX2_flood_28 : decode cX2_flood 28 = .ok (.iconst 0, 1) := by decide +kernel
theorem dX2_flood_29 : decode cX2_flood 29 = .ok (.invokevirtual 49, 3) := by decide +kernel
theorem dX2_flood_32 : decode cX2_flood 32 = .ok (.aload_n 0, 1) := by decide +kernel
theorem dX2_flood_33 : decode cX2_flood 33 = .ok (.getfield 32, 3) := by decide +kernel
theorem dX2_flood_36 : decode cX2_flood 36 = .ok (.iconst 0, 1) := by decide +kernel
theorem dX2_flood_37 : decode cX2_flood 37 = .ok (.iload_n 1, 1) := by decide +kernel
theorem dX2_flood_38 : decode cX2_flood 38 = .ok (.invokevirtual 49, 3) := by decide +kernel
theorem dX2_flood_41 : decode cX2_flood 41 = .ok (.aload_n 0, 1) := by decide +kernel
theorem dX2_flood_42 : decode cX2_flood 42 = .ok (.iconst 1, 1) := by decide +kernel
theorem dX2_flood_43 : decode cX2_flood 43 = .ok (.putfield 35, 3) := by decide +kernel
theorem dX2_flood_46 : decode cX2_flood 46 = .ok (.iconst 0, 1) := by decide +kernel
theorem dX2_flood_47 : decode cX2_flood 47 = .ok (.istore_n 2, 1) := by decide +kernel
theorem dX2_flood_48 : decode cX2_flood 48 = .ok (.iload_n 2, 1) := by decide +kernel
theorem dX2_flood_49 : decode cX2_flood 49 = .ok (.aload_n 0, 1) := by decide +kernel
theorem dX2_flood_50 : decode cX2_flood 50 = .ok (.getfield 35, 3) := by decide +kernel
theorem dX2_flood_53 : decode cX2_flood 53 = .ok (.if_icmp .ge 108, 3) := by decide +kernel
theorem dX2_flood_56 : decode cX2_flood 56 = .ok (.iload_n 2, 1) := by decide +kernel
theorem dX2_flood_57 : decode cX2_flood 57 = .ok (.bipush 36, 2) := by decide +kernel
theorem dX2_flood_59 : decode cX2_flood 59 = .ok (.if_icmp .ge 102, 3) := by decide +kernel
theorem dX2_flood_62 : decode cX2_flood 62 = .ok (.aload_n 0, 1) := by decide +kernel
theorem dX2_flood_63 : decode cX2_flood 63 = .ok (.getfield 32, 3) := by decide +kernel
theorem dX2_flood_66 : decode cX2_flood 66 = .ok (.iload_n 2, 1) := by decide +kernel
theorem dX2_flood_67 : decode cX2_flood 67 = .ok (.invokevirtual 45, 3) := by decide +kernel
theorem dX2_flood_70 : decode cX2_flood 70 = .ok (.istore_n 3, 1) := by decide +kernel
theorem dX2_flood_71 : decode cX2_flood 71 = .ok (.aload_n 0, 1) := by decide +kernel
theorem dX2_flood_72 : decode cX2_flood 72 = .ok (.getfield 29, 3) := by decide +kernel
theorem dX2_flood_75 : decode cX2_flood 75 = .ok (.iload_n 3, 1) := by decide +kernel
theorem dX2_flood_76 : decode cX2_flood 76 = .ok (.invokevirtual 45, 3) := by decide +kernel
theorem dX2_flood_79 : decode cX2_flood 79 = .ok (.iconst 1, 1) := by decide +kernel
theorem dX2_flood_80 : decode cX2_flood 80 = .ok (.iadd, 1) := by decide +kernel
theorem dX2_flood_81 : decode cX2_flood 81 = .ok (.istore 4, 2) := by decide +kernel
theorem dX2_flood_83 : decode cX2_flood 83 = .ok (.iload_n 3, 1) := by decide +kernel
theorem dX2_flood_84 : decode cX2_flood 84 = .ok (.bipush 6, 2) := by decide +kernel
theorem dX2_flood_86 : decode cX2_flood 86 = .ok (.irem, 1) := by decide +kernel
theorem dX2_flood_87 : decode cX2_flood 87 = .ok (.istore 5, 2) := by decide +kernel
theorem dX2_flood_89 : decode cX2_flood 89 = .ok (.iload_n 3, 1) := by decide +kernel
theorem dX2_flood_90 : decode cX2_flood 90 = .ok (.bipush 6, 2) := by decide +kernel
theorem dX2_flood_92 : decode cX2_flood 92 = .ok (.idiv, 1) := by decide +kernel
theorem dX2_flood_93 : decode cX2_flood 93 = .ok (.istore 6, 2) := by decide +kernel
theorem dX2_flood_95 : decode cX2_flood 95 = .ok (.aload_n 0, 1) := by decide +kernel
theorem dX2_flood_96 : decode cX2_flood 96 = .ok (.iload 5, 2) := by decide +kernel
theorem dX2_flood_98 : decode cX2_flood 98 = .ok (.iconst 1, 1) := by decide +kernel
theorem dX2_flood_99 : decode cX2_flood 99 = .ok (.isub, 1) := by decide +kernel
theorem dX2_flood_100 : decode cX2_flood 100 = .ok (.iload 6, 2) := by decide +kernel
theorem dX2_flood_102 : decode cX2_flood 102 = .ok (.invokestatic 66, 3) := by decide +kernel
theorem dX2_flood_105 : decode cX2_flood 105 = .ok (.iload 4, 2) := by decide +kernel
theorem dX2_flood_107 : decode cX2_flood 107 = .ok (.invokevirtual 70, 3) := by decide +kernel
theorem dX2_flood_110 : decode cX2_flood 110 = .ok (.aload_n 0, 1) := by decide +kernel
theorem dX2_flood_111 : decode cX2_flood 111 = .ok (.iload 5, 2) := by decide +kernel
theorem dX2_flood_113 : decode cX2_flood 113 = .ok (.iconst 1, 1) := by decide +kernel
theorem dX2_flood_114 : decode cX2_flood 114 = .ok (.iadd, 1) := by decide +kernel
theorem dX2_flood_115 : decode cX2_flood 115 = .ok (.iload 6, 2) := by decide +kernel
theorem dX2_flood_117 : decode cX2_flood 117 = .ok (.invokestatic 66, 3) := by decide +kernel
theorem dX2_flood_120 : decode cX2_flood 120 = .ok (.iload 4, 2) := by decide +kernel
theorem dX2_flood_122 : decode cX2_flood 122 = .ok (.invokevirtual 70, 3) := by decide +kernel
theorem dX2_flood_125 : decode cX2_flood 125 = .ok (.aload_n 0, 1) := by decide +kernel
theorem dX2_flood_126 : decode cX2_flood 126 = .ok (.iload 5, 2) := by decide +kernel
theorem dX2_flood_128 : decode cX2_flood 128 = .ok (.iload 6, 2) := by decide +kernel
theorem dX2_flood_130 : decode cX2_flood 130 = .ok (.iconst 1, 1) := by decide +kernel
theorem dX2_flood_131 : decode cX2_flood 131 = .ok (.isub, 1) := by decide +kernel
theorem dX2_flood_132 : decode cX2_flood 132 = .ok (.invokestatic 66, 3) := by decide +kernel
theorem dX2_flood_135 : decode cX2_flood 135 = .ok (.iload 4, 2) := by decide +kernel
theorem dX2_flood_137 : decode cX2_flood 137 = .ok (.invokevirtual 70, 3) := by decide +kernel
theorem dX2_flood_140 : decode cX2_flood 140 = .ok (.aload_n 0, 1) := by decide +kernel
theorem dX2_flood_141 : decode cX2_flood 141 = .ok (.iload 5, 2) := by decide +kernel
theorem dX2_flood_143 : decode cX2_flood 143 = .ok (.iload 6, 2) := by decide +kernel
theorem dX2_flood_145 : decode cX2_flood 145 = .ok (.iconst 1, 1) := by decide +kernel
theorem dX2_flood_146 : decode cX2_flood 146 = .ok (.iadd, 1) := by decide +kernel
theorem dX2_flood_147 : decode cX2_flood 147 = .ok (.invokestatic 66, 3) := by decide +kernel
theorem dX2_flood_150 : decode cX2_flood 150 = .ok (.iload 4, 2) := by decide +kernel
theorem dX2_flood_152 : decode cX2_flood 152 = .ok (.invokevirtual 70, 3) := by decide +kernel
theorem dX2_flood_155 : decode cX2_flood 155 = .ok (.iinc 2 1, 3) := by decide +kernel
theorem dX2_flood_158 : decode cX2_flood 158 = .ok (.goto (-110), 3) := by decide +kernel
theorem dX2_flood_161 : decode cX2_flood 161 = .ok (.return_, 1) := by decide +kernel
theorem dX2_reach_0 : decode cX2_reach 0 = .ok (.iload_n 1, 1) := by decide +kernel
theorem dX2_reach_1 : decode cX2_reach 1 = .ok (.iconst (-1), 1) := by decide +kernel
theorem dX2_reach_2 : decode cX2_reach 2 = .ok (.if_icmp .eq 27, 3) := by decide +kernel
theorem dX2_reach_5 : decode cX2_reach 5 = .ok (.aload_n 0, 1) := by decide +kernel
theorem dX2_reach_6 : decode cX2_reach 6 = .ok (.getfield 29, 3) := by decide +kernel
theorem dX2_reach_9 : decode cX2_reach 9 = .ok (.iload_n 1, 1) := by decide +kernel
theorem dX2_reach_10 : decode cX2_reach 10 = .ok (.invokevirtual 45, 3) := by decide +kernel
theorem dX2_reach_13 : decode cX2_reach 13 = .ok (.iconst (-1), 1) := by decide +kernel
theorem dX2_reach_14 : decode cX2_reach 14 = .ok (.if_icmp .ne 15, 3) := by decide +kernel
theorem dX2_reach_17 : decode cX2_reach 17 = .ok (.aload_n 0, 1) := by decide +kernel
theorem dX2_reach_18 : decode cX2_reach 18 = .ok (.getfield 14, 3) := by decide +kernel
theorem dX2_reach_21 : decode cX2_reach 21 = .ok (.iload_n 1, 1) := by decide +kernel
theorem dX2_reach_22 : decode cX2_reach 22 = .ok (.invokevirtual 45, 3) := by decide +kernel
theorem dX2_reach_25 : decode cX2_reach 25 = .ok (.iconst 1, 1) := by decide +kernel
theorem dX2_reach_26 : decode cX2_reach 26 = .ok (.if_icmp .ne 4, 3) := by decide +kernel
theorem dX2_reach_29 : decode cX2_reach 29 = .ok (.return_, 1) := by decide +kernel
theorem dX2_reach_30 : decode cX2_reach 30 = .ok (.aload_n 0, 1) := by decide +kernel
theorem dX2_reach_31 : decode cX2_reach 31 = .ok (.getfield 29, 3) := by decide +kernel
theorem dX2_reach_34 : decode cX2_reach 34 = .ok (.iload_n 1, 1) := by decide +kernel
theorem dX2_reach_35 : decode cX2_reach 35 = .ok (.iload_n 2, 1) := by decide +kernel
theorem dX2_reach_36 : decode cX2_reach 36 = .ok (.invokevirtual 49, 3) := by decide +kernel
theorem dX2_reach_39 : decode cX2_reach 39 = .ok (.aload_n 0, 1) := by decide +kernel
theorem dX2_reach_40 : decode cX2_reach 40 = .ok (.getfield 14, 3) := by decide +kernel
theorem dX2_reach_43 : decode cX2_reach 43 = .ok (.iload_n 1, 1) := by decide +kernel
theorem dX2_reach_44 : decode cX2_reach 44 = .ok (.invokevirtual 45, 3) := by decide +kernel
theorem dX2_reach_47 : decode cX2_reach 47 = .ok (.iconst 2, 1) := by decide +kernel
theorem dX2_reach_48 : decode cX2_reach 48 = .ok (.if_icmp .eq 25, 3) := by decide +kernel
theorem dX2_reach_51 : decode cX2_reach 51 = .ok (.aload_n 0, 1) := by decide +kernel
theorem dX2_reach_52 : decode cX2_reach 52 = .ok (.getfield 32, 3) := by decide +kernel
theorem dX2_reach_55 : decode cX2_reach 55 = .ok (.aload_n 0, 1) := by decide +kernel
theorem dX2_reach_56 : decode cX2_reach 56 = .ok (.getfield 35, 3) := by decide +kernel
theorem dX2_reach_59 : decode cX2_reach 59 = .ok (.iload_n 1, 1) := by decide +kernel
theorem dX2_reach_60 : decode cX2_reach 60 = .ok (.invokevirtual 49, 3) := by decide +kernel
theorem dX2_reach_63 : decode cX2_reach 63 = .ok (.aload_n 0, 1) := by decide +kernel
theorem dX2_reach_64 : decode cX2_reach 64 = .ok (.dup, 1) := by decide +kernel
theorem dX2_reach_65 : decode cX2_reach 65 = .ok (.getfield 35, 3) := by decide +kernel
theorem dX2_reach_68 : decode cX2_reach 68 = .ok (.iconst 1, 1) := by decide +kernel
theorem dX2_reach_69 : decode cX2_reach 69 = .ok (.iadd, 1) := by decide +kernel
theorem dX2_reach_70 : decode cX2_reach 70 = .ok (.putfield 35, 3) := by decide +kernel
theorem dX2_reach_73 : decode cX2_reach 73 = .ok (.return_, 1) := by decide +kernel
theorem dX2_nearestExit_0 : decode cX2_nearestExit 0 = .ok (.iconst (-1), 1) := by decide +kernel
theorem dX2_nearestExit_1 : decode cX2_nearestExit 1 = .ok (.istore_n 1, 1) := by decide +kernel
theorem dX2_nearestExit_2 : decode cX2_nearestExit 2 = .ok (.iconst 0, 1) := by decide +kernel
theorem dX2_nearestExit_3 : decode cX2_nearestExit 3 = .ok (.istore_n 2, 1) := by decide +kernel
theorem dX2_nearestExit_4 : decode cX2_nearestExit 4 = .ok (.iload_n 2, 1) := by decide +kernel
theorem dX2_nearestExit_5 : decode cX2_nearestExit 5 = .ok (.bipush 36, 2) := by decide +kernel
theorem dX2_nearestExit_7 : decode cX2_nearestExit 7 = .ok (.if_icmp .ge 47, 3) := by decide +kernel
theorem dX2_nearestExit_10 : decode cX2_nearestExit 10 = .ok (.aload_n 0, 1) := by decide +kernel
theorem dX2_nearestExit_11 : decode cX2_nearestExit 11 = .ok (.getfield 29, 3) := by decide +kernel
theorem dX2_nearestExit_14 : decode cX2_nearestExit 14 = .ok (.iload_n 2, 1) := by decide +kernel
theorem dX2_nearestExit_15 : decode cX2_nearestExit 15 = .ok (.invokevirtual 45, 3) := by decide +kernel
theorem dX2_nearestExit_18 : decode cX2_nearestExit 18 = .ok (.istore_n 3, 1) := by decide +kernel
theorem dX2_nearestExit_19 : decode cX2_nearestExit 19 = .ok (.aload_n 0, 1) := by decide +kernel
theorem dX2_nearestExit_20 : decode cX2_nearestExit 20 = .ok (.getfield 14, 3) := by decide +kernel
theorem dX2_nearestExit_23 : decode cX2_nearestExit 23 = .ok (.iload_n 2, 1) := by decide +kernel
theorem dX2_nearestExit_24 : decode cX2_nearestExit 24 = .ok (.invokevirtual 45, 3) := by decide +kernel
theorem dX2_nearestExit_27 : decode cX2_nearestExit 27 = .ok (.iconst 3, 1) := by decide +kernel
theorem dX2_nearestExit_28 : decode cX2_nearestExit 28 = .ok (.if_icmp .ne 20, 3) := by decide +kernel
theorem dX2_nearestExit_31 : decode cX2_nearestExit 31 = .ok (.iload_n 3, 1) := by decide +kernel
theorem dX2_nearestExit_32 : decode cX2_nearestExit 32 = .ok (.iconst (-1), 1) := by decide +kernel
theorem dX2_nearestExit_33 : decode cX2_nearestExit 33 = .ok (.if_icmp .eq 15, 3) := by decide +kernel
theorem dX2_nearestExit_36 : decode cX2_nearestExit 36 = .ok (.iload_n 1, 1) := by decide +kernel
theorem dX2_nearestExit_37 : decode cX2_nearestExit 37 = .ok (.iconst (-1), 1) := by decide +kernel
theorem dX2_nearestExit_38 : decode cX2_nearestExit 38 = .ok (.if_icmp .eq 8, 3) := by decide +kernel
theorem dX2_nearestExit_41 : decode cX2_nearestExit 41 = .ok (.iload_n 3, 1) := by decide +kernel
theorem dX2_nearestExit_42 : decode cX2_nearestExit 42 = .ok (.iload_n 1, 1) := by decide +kernel
theorem dX2_nearestExit_43 : decode cX2_nearestExit 43 = .ok (.if_icmp .ge 5, 3) := by decide +kernel
theorem dX2_nearestExit_46 : decode cX2_nearestExit 46 = .ok (.iload_n 3, 1) := by decide +kernel
theorem dX2_nearestExit_47 : decode cX2_nearestExit 47 = .ok (.istore_n 1, 1) := by decide +kernel
theorem dX2_nearestExit_48 : decode cX2_nearestExit 48 = .ok (.iinc 2 1, 3) := by decide +kernel
theorem dX2_nearestExit_51 : decode cX2_nearestExit 51 = .ok (.goto (-47), 3) := by decide +kernel
theorem dX2_nearestExit_54 : decode cX2_nearestExit 54 = .ok (.iload_n 1, 1) := by decide +kernel
theorem dX2_nearestExit_55 : decode cX2_nearestExit 55 = .ok (.ireturn, 1) := by decide +kernel
theorem dX3_init_0 : decode cX3_init 0 = .ok (.aload_n 0, 1) := by decide +kernel
theorem dX3_init_1 : decode cX3_init 1 = .ok (.invokespecial 3, 3) := by decide +kernel
theorem dX3_init_4 : decode cX3_init 4 = .ok (.aload_n 0, 1) := by decide +kernel
theorem dX3_init_5 : decode cX3_init 5 = .ok (.aload_n 1, 1) := by decide +kernel
theorem dX3_init_6 : decode cX3_init 6 = .ok (.putfield 9, 3) := by decide +kernel
theorem dX3_init_9 : decode cX3_init 9 = .ok (.aload_n 0, 1) := by decide +kernel
theorem dX3_init_10 : decode cX3_init 10 = .ok (.aload_n 2, 1) := by decide +kernel
theorem dX3_init_11 : decode cX3_init 11 = .ok (.putfield 15, 3) := by decide +kernel
theorem dX3_init_14 : decode cX3_init 14 = .ok (.return_, 1) := by decide +kernel
theorem dX3_costOf_0 : decode cX3_costOf 0 = .ok (.aload_n 0, 1) := by decide +kernel
theorem dX3_costOf_1 : decode cX3_costOf 1 = .ok (.aload_n 2, 1) := by decide +kernel
theorem dX3_costOf_2 : decode cX3_costOf 2 = .ok (.invokevirtual 19, 3) := by decide +kernel
theorem dX3_costOf_5 : decode cX3_costOf 5 = .ok (.ifCond .eq 11, 3) := by decide +kernel
theorem dX3_costOf_8 : decode cX3_costOf 8 = .ok (.aload_n 0, 1) := by decide +kernel
theorem dX3_costOf_9 : decode cX3_costOf 9 = .ok (.aload_n 2, 1) := by decide +kernel
theorem dX3_costOf_10 : decode cX3_costOf 10 = .ok (.invokevirtual 23, 3) := by decide +kernel
theorem dX3_costOf_13 : decode cX3_costOf 13 = .ok (.ifCond .ne 5, 3) := by decide +kernel
theorem dX3_costOf_16 : decode cX3_costOf 16 = .ok (.iconst (-1), 1) := by decide +kernel
theorem dX3_costOf_17 : decode cX3_costOf 17 = .ok (.ireturn, 1) := by decide +kernel
theorem dX3_costOf_18 : decode cX3_costOf 18 = .ok (.iconst 0, 1) := by decide +kernel
theorem dX3_costOf_19 : decode cX3_costOf 19 = .ok (.istore_n 3, 1) := by decide +kernel
theorem dX3_costOf_20 : decode cX3_costOf 20 = .ok (.iconst 0, 1) := by decide +kernel
theorem dX3_costOf_21 : decode cX3_costOf 21 = .ok (.istore 4, 2) := by decide +kernel
theorem dX3_costOf_23 : decode cX3_costOf 23 = .ok (.iload 4, 2) := by decide +kernel
theorem dX3_costOf_25 : decode cX3_costOf 25 = .ok (.aload_n 2, 1) := by decide +kernel
theorem dX3_costOf_26 : decode cX3_costOf 26 = .ok (.invokevirtual 26, 3) := by decide +kernel
theorem dX3_costOf_29 : decode cX3_costOf 29 = .ok (.if_icmp .ge 86, 3) := by decide +kernel
theorem dX3_costOf_32 : decode cX3_costOf 32 = .ok (.iload 4, 2) := by decide +kernel
theorem dX3_costOf_34 : decode cX3_costOf 34 = .ok (.iconst 1, 1) := by decide +kernel
theorem dX3_costOf_35 : decode cX3_costOf 35 = .ok (.iadd, 1) := by decide +kernel
theorem dX3_costOf_36 : decode cX3_costOf 36 = .ok (.istore 5, 2) := by decide +kernel
theorem dX3_costOf_38 : decode cX3_costOf 38 = .ok (.iload 5, 2) := by decide +kernel
theorem dX3_costOf_40 : decode cX3_costOf 40 = .ok (.aload_n 2, 1) := by decide +kernel
theorem dX3_costOf_41 : decode cX3_costOf 41 = .ok (.invokevirtual 26, 3) := by decide +kernel
theorem dX3_costOf_44 : decode cX3_costOf 44 = .ok (.if_icmp .ge 65, 3) := by decide +kernel
theorem dX3_costOf_47 : decode cX3_costOf 47 = .ok (.aload_n 0, 1) := by decide +kernel
theorem dX3_costOf_48 : decode cX3_costOf 48 = .ok (.getfield 15, 3) := by decide +kernel
theorem dX3_costOf_51 : decode cX3_costOf 51 = .ok (.iload_n 1, 1) := by decide +kernel
theorem dX3_costOf_52 : decode cX3_costOf 52 = .ok (.iload 4, 2) := by decide +kernel
theorem dX3_costOf_54 : decode cX3_costOf 54 = .ok (.iload 5, 2) := by decide +kernel
theorem dX3_costOf_56 : decode cX3_costOf 56 = .ok (.invokevirtual 32, 3) := by decide +kernel
theorem dX3_costOf_59 : decode cX3_costOf 59 = .ok (.istore 6, 2) := by decide +kernel
theorem dX3_costOf_61 : decode cX3_costOf 61 = .ok (.aload_n 0, 1) := by decide +kernel
theorem dX3_costOf_62 : decode cX3_costOf 62 = .ok (.getfield 9, 3) := by decide +kernel
theorem dX3_costOf_65 : decode cX3_costOf 65 = .ok (.aload_n 2, 1) := by decide +kernel
theorem dX3_costOf_66 : decode cX3_costOf 66 = .ok (.iload 4, 2) := by decide +kernel
theorem dX3_costOf_68 : decode cX3_costOf 68 = .ok (.invokevirtual 38, 3) := by decide +kernel
theorem dX3_costOf_71 : decode cX3_costOf 71 = .ok (.aload_n 2, 1) := by decide +kernel
theorem dX3_costOf_72 : decode cX3_costOf 72 = .ok (.iload 5, 2) := by decide +kernel
theorem dX3_costOf_74 : decode cX3_costOf 74 = .ok (.invokevirtual 38, 3) := by decide +kernel
theorem dX3_costOf_77 : decode cX3_costOf 77 = .ok (.invokevirtual 42, 3) := by decide +kernel
theorem dX3_costOf_80 : decode cX3_costOf 80 = .ok (.istore 7, 2) := by decide +kernel
theorem dX3_costOf_82 : decode cX3_costOf 82 = .ok (.iload 6, 2) := by decide +kernel
theorem dX3_costOf_84 : decode cX3_costOf 84 = .ok (.ifCond .le 11, 3) := by decide +kernel
theorem dX3_costOf_87 : decode cX3_costOf 87 = .ok (.iload 7, 2) := by decide +kernel
theorem dX3_costOf_89 : decode cX3_costOf 89 = .ok (.iconst (-1), 1) := by decide +kernel
theorem dX3_costOf_90 : decode cX3_costOf 90 = .ok (.if_icmp .ne 5, 3) := by decide +kernel
theorem dX3_costOf_93 : decode cX3_costOf 93 = .ok (.iconst (-1), 1) := by decide +kernel
theorem dX3_costOf_94 : decode cX3_costOf 94 = .ok (.ireturn, 1) := by decide +kernel
theorem dX3_costOf_95 : decode cX3_costOf 95 = .ok (.iload_n 3, 1) := by decide +kernel
theorem dX3_costOf_96 : decode cX3_costOf 96 = .ok (.iload 6, 2) := by decide +kernel
theorem dX3_costOf_98 : decode cX3_costOf 98 = .ok (.iload 7, 2) := by decide +kernel
theorem dX3_costOf_100 : decode cX3_costOf 100 = .ok (.imul, 1) := by decide +kernel
theorem dX3_costOf_101 : decode cX3_costOf 101 = .ok (.iadd, 1) := by decide +kernel
theorem dX3_costOf_102 : decode cX3_costOf 102 = .ok (.istore_n 3, 1) := by decide +kernel
theorem dX3_costOf_103 : decode cX3_costOf 103 = .ok (.iinc 5 1, 3) := by decide +kernel
theorem dX3_costOf_106 : decode cX3_costOf 106 = .ok (.goto (-68), 3) := by decide +kernel
theorem dX3_costOf_109 : decode cX3_costOf 109 = .ok (.iinc 4 1, 3) := by decide +kernel
theorem dX3_costOf_112 : decode cX3_costOf 112 = .ok (.goto (-89), 3) := by decide +kernel
theorem dX3_costOf_115 : decode cX3_costOf 115 = .ok (.iload_n 3, 1) := by decide +kernel
theorem dX3_costOf_116 : decode cX3_costOf 116 = .ok (.ireturn, 1) := by decide +kernel
theorem dX3_areExitsNear_0 : decode cX3_areExitsNear 0 = .ok (.iconst 0, 1) := by decide +kernel
theorem dX3_areExitsNear_1 : decode cX3_areExitsNear 1 = .ok (.istore_n 2, 1) := by decide +kernel
theorem dX3_areExitsNear_2 : decode cX3_areExitsNear 2 = .ok (.iload_n 2, 1) := by decide +kernel
theorem dX3_areExitsNear_3 : decode cX3_areExitsNear 3 = .ok (.aload_n 1, 1) := by decide +kernel
theorem dX3_areExitsNear_4 : decode cX3_areExitsNear 4 = .ok (.invokevirtual 26, 3) := by decide +kernel
theorem dX3_areExitsNear_7 : decode cX3_areExitsNear 7 = .ok (.if_icmp .ge 26, 3) := by decide +kernel
theorem dX3_areExitsNear_10 : decode cX3_areExitsNear 10 = .ok (.aload_n 0, 1) := by decide +kernel
theorem dX3_areExitsNear_11 : decode cX3_areExitsNear 11 = .ok (.getfield 9, 3) := by decide +kernel
theorem dX3_areExitsNear_14 : decode cX3_areExitsNear 14 = .ok (.aload_n 1, 1) := by decide +kernel
theorem dX3_areExitsNear_15 : decode cX3_areExitsNear 15 = .ok (.iload_n 2, 1) := by decide +kernel
theorem dX3_areExitsNear_16 : decode cX3_areExitsNear 16 = .ok (.invokevirtual 38, 3) := by decide +kernel
theorem dX3_areExitsNear_19 : decode cX3_areExitsNear 19 = .ok (.invokevirtual 48, 3) := by decide +kernel
theorem dX3_areExitsNear_22 : decode cX3_areExitsNear 22 = .ok (.ifCond .ne 5, 3) := by decide +kernel
theorem dX3_areExitsNear_25 : decode cX3_areExitsNear 25 = .ok (.iconst 0, 1) := by decide +kernel
theorem dX3_areExitsNear_26 : decode cX3_areExitsNear 26 = .ok (.ireturn, 1) := by decide +kernel
theorem dX3_areExitsNear_27 : decode cX3_areExitsNear 27 = .ok (.iinc 2 1, 3) := by decide +kernel
theorem dX3_areExitsNear_30 : decode cX3_areExitsNear 30 = .ok (.goto (-28), 3) := by decide +kernel
theorem dX3_areExitsNear_33 : decode cX3_areExitsNear 33 = .ok (.iconst 1, 1) := by decide +kernel
theorem dX3_areExitsNear_34 : decode cX3_areExitsNear 34 = .ok (.ireturn, 1) := by decide +kernel
theorem dX3_areWishesMet_0 : decode cX3_areWishesMet 0 = .ok (.iconst 0, 1) := by decide +kernel
theorem dX3_areWishesMet_1 : decode cX3_areWishesMet 1 = .ok (.istore_n 2, 1) := by decide +kernel
theorem dX3_areWishesMet_2 : decode cX3_areWishesMet 2 = .ok (.iload_n 2, 1) := by decide +kernel
theorem dX3_areWishesMet_3 : decode cX3_areWishesMet 3 = .ok (.aload_n 0, 1) := by decide +kernel
theorem dX3_areWishesMet_4 : decode cX3_areWishesMet 4 = .ok (.getfield 15, 3) := by decide +kernel
theorem dX3_areWishesMet_7 : decode cX3_areWishesMet 7 = .ok (.invokevirtual 52, 3) := by decide +kernel
theorem dX3_areWishesMet_10 : decode cX3_areWishesMet 10 = .ok (.if_icmp .ge 59, 3) := by decide +kernel
theorem dX3_areWishesMet_13 : decode cX3_areWishesMet 13 = .ok (.aload_n 1, 1) := by decide +kernel
theorem dX3_areWishesMet_14 : decode cX3_areWishesMet 14 = .ok (.aload_n 0, 1) := by decide +kernel
theorem dX3_areWishesMet_15 : decode cX3_areWishesMet 15 = .ok (.getfield 15, 3) := by decide +kernel
theorem dX3_areWishesMet_18 : decode cX3_areWishesMet 18 = .ok (.iload_n 2, 1) := by decide +kernel
theorem dX3_areWishesMet_19 : decode cX3_areWishesMet 19 = .ok (.invokevirtual 55, 3) := by decide +kernel
theorem dX3_areWishesMet_22 : decode cX3_areWishesMet 22 = .ok (.invokevirtual 38, 3) := by decide +kernel
theorem dX3_areWishesMet_25 : decode cX3_areWishesMet 25 = .ok (.istore_n 3, 1) := by decide +kernel
theorem dX3_areWishesMet_26 : decode cX3_areWishesMet 26 = .ok (.aload_n 1, 1) := by decide +kernel
theorem dX3_areWishesMet_27 : decode cX3_areWishesMet 27 = .ok (.aload_n 0, 1) := by decide +kernel
theorem dX3_areWishesMet_28 : decode cX3_areWishesMet 28 = .ok (.getfield 15, 3) := by decide +kernel
theorem dX3_areWishesMet_31 : decode cX3_areWishesMet 31 = .ok (.iload_n 2, 1) := by decide +kernel
theorem dX3_areWishesMet_32 : decode cX3_areWishesMet 32 = .ok (.invokevirtual 58, 3) := by decide +kernel
theorem dX3_areWishesMet_35 : decode cX3_areWishesMet 35 = .ok (.invokevirtual 38, 3) := by decide +kernel
theorem dX3_areWishesMet_38 : decode cX3_areWishesMet 38 = .ok (.istore 4, 2) := by decide +kernel
theorem dX3_areWishesMet_40 : decode cX3_areWishesMet 40 = .ok (.aload_n 0, 1) := by decide +kernel
theorem dX3_areWishesMet_41 : decode cX3_areWishesMet 41 = .ok (.getfield 15, 3) := by decide +kernel
theorem dX3_areWishesMet_44 : decode cX3_areWishesMet 44 = .ok (.iload_n 2, 1) := by decide +kernel
theorem dX3_areWishesMet_45 : decode cX3_areWishesMet 45 = .ok (.aload_n 0, 1) := by decide +kernel
theorem dX3_areWishesMet_46 : decode cX3_areWishesMet 46 = .ok (.getfield 9, 3) := by decide +kernel
theorem dX3_areWishesMet_49 : decode cX3_areWishesMet 49 = .ok (.iload_n 3, 1) := by decide +kernel
theorem dX3_areWishesMet_50 : decode cX3_areWishesMet 50 = .ok (.iload 4, 2) := by decide +kernel
theorem dX3_areWishesMet_52 : decode cX3_areWishesMet 52 = .ok (.invokevirtual 42, 3) := by decide +kernel
theorem dX3_areWishesMet_55 : decode cX3_areWishesMet 55 = .ok (.invokevirtual 61, 3) := by decide +kernel
theorem dX3_areWishesMet_58 : decode cX3_areWishesMet 58 = .ok (.ifCond .ne 5, 3) := by decide +kernel
theorem dX3_areWishesMet_61 : decode cX3_areWishesMet 61 = .ok (.iconst 0, 1) := by decide +kernel
theorem dX3_areWishesMet_62 : decode cX3_areWishesMet 62 = .ok (.ireturn, 1) := by decide +kernel
theorem dX3_areWishesMet_63 : decode cX3_areWishesMet 63 = .ok (.iinc 2 1, 3) := by decide +kernel
theorem dX3_areWishesMet_66 : decode cX3_areWishesMet 66 = .ok (.goto (-64), 3) := by decide +kernel
theorem dX3_areWishesMet_69 : decode cX3_areWishesMet 69 = .ok (.iconst 1, 1) := by decide +kernel
theorem dX3_areWishesMet_70 : decode cX3_areWishesMet 70 = .ok (.ireturn, 1) := by decide +kernel
theorem dX4_init_0 : decode cX4_init 0 = .ok (.aload_n 0, 1) := by decide +kernel
theorem dX4_init_1 : decode cX4_init 1 = .ok (.invokespecial 3, 3) := by decide +kernel
theorem dX4_init_4 : decode cX4_init 4 = .ok (.aload_n 0, 1) := by decide +kernel
theorem dX4_init_5 : decode cX4_init 5 = .ok (.new 9, 3) := by decide +kernel
theorem dX4_init_8 : decode cX4_init 8 = .ok (.dup, 1) := by decide +kernel
theorem dX4_init_9 : decode cX4_init 9 = .ok (.bipush 25, 2) := by decide +kernel
theorem dX4_init_11 : decode cX4_init 11 = .ok (.invokespecial 11, 3) := by decide +kernel
theorem dX4_init_14 : decode cX4_init 14 = .ok (.putfield 14, 3) := by decide +kernel
theorem dX4_init_17 : decode cX4_init 17 = .ok (.aload_n 0, 1) := by decide +kernel
theorem dX4_init_18 : decode cX4_init 18 = .ok (.new 9, 3) := by decide +kernel
theorem dX4_init_21 : decode cX4_init 21 = .ok (.dup, 1) := by decide +kernel
theorem dX4_init_22 : decode cX4_init 22 = .ok (.bipush 36, 2) := by decide +kernel
theorem dX4_init_24 : decode cX4_init 24 = .ok (.invokespecial 11, 3) := by decide +kernel
theorem dX4_init_27 : decode cX4_init 27 = .ok (.putfield 20, 3) := by decide +kernel
theorem dX4_init_30 : decode cX4_init 30 = .ok (.aload_n 0, 1) := by decide +kernel
theorem dX4_init_31 : decode cX4_init 31 = .ok (.aload_n 1, 1) := by decide +kernel
theorem dX4_init_32 : decode cX4_init 32 = .ok (.putfield 23, 3) := by decide +kernel
theorem dX4_init_35 : decode cX4_init 35 = .ok (.aload_n 0, 1) := by decide +kernel
theorem dX4_init_36 : decode cX4_init 36 = .ok (.aload_n 2, 1) := by decide +kernel
theorem dX4_init_37 : decode cX4_init 37 = .ok (.putfield 27, 3) := by decide +kernel
theorem dX4_init_40 : decode cX4_init 40 = .ok (.return_, 1) := by decide +kernel
theorem dX4_of_0 : decode cX4_of 0 = .ok (.aload_n 0, 1) := by decide +kernel
theorem dX4_of_1 : decode cX4_of 1 = .ok (.iload_n 1, 1) := by decide +kernel
theorem dX4_of_2 : decode cX4_of 2 = .ok (.invokevirtual 31, 3) := by decide +kernel
theorem dX4_of_5 : decode cX4_of 5 = .ok (.istore_n 2, 1) := by decide +kernel
theorem dX4_of_6 : decode cX4_of 6 = .ok (.aload_n 0, 1) := by decide +kernel
theorem dX4_of_7 : decode cX4_of 7 = .ok (.invokevirtual 35, 3) := by decide +kernel
theorem dX4_of_10 : decode cX4_of 10 = .ok (.iload_n 2, 1) := by decide +kernel
theorem dX4_of_11 : decode cX4_of 11 = .ok (.if_icmp .ge 5, 3) := by decide +kernel
theorem dX4_of_14 : decode cX4_of 14 = .ok (.iconst (-1), 1) := by decide +kernel
theorem dX4_of_15 : decode cX4_of 15 = .ok (.ireturn, 1) := by decide +kernel
theorem dX4_of_16 : decode cX4_of 16 = .ok (.iconst 0, 1) := by decide +kernel
theorem dX4_of_17 : decode cX4_of 17 = .ok (.istore_n 3, 1) := by decide +kernel
theorem dX4_of_18 : decode cX4_of 18 = .ok (.iconst 0, 1) := by decide +kernel
theorem dX4_of_19 : decode cX4_of 19 = .ok (.istore 4, 2) := by decide +kernel
theorem dX4_of_21 : decode cX4_of 21 = .ok (.iload 4, 2) := by decide +kernel
theorem dX4_of_23 : decode cX4_of 23 = .ok (.iload_n 2, 1) := by decide +kernel
theorem dX4_of_24 : decode cX4_of 24 = .ok (.if_icmp .ge 35, 3) := by decide +kernel
theorem dX4_of_27 : decode cX4_of 27 = .ok (.iload_n 3, 1) := by decide +kernel
theorem dX4_of_28 : decode cX4_of 28 = .ok (.aload_n 0, 1) := by decide +kernel
theorem dX4_of_29 : decode cX4_of 29 = .ok (.getfield 14, 3) := by decide +kernel
theorem dX4_of_32 : decode cX4_of 32 = .ok (.iload_n 2, 1) := by decide +kernel
theorem dX4_of_33 : decode cX4_of 33 = .ok (.iconst 1, 1) := by decide +kernel
theorem dX4_of_34 : decode cX4_of 34 = .ok (.isub, 1) := by decide +kernel
theorem dX4_of_35 : decode cX4_of 35 = .ok (.iload 4, 2) := by decide +kernel
theorem dX4_of_37 : decode cX4_of 37 = .ok (.isub, 1) := by decide +kernel
theorem dX4_of_38 : decode cX4_of 38 = .ok (.invokevirtual 39, 3) := by decide +kernel
theorem dX4_of_41 : decode cX4_of 41 = .ok (.aload_n 0, 1) := by decide +kernel
theorem dX4_of_42 : decode cX4_of 42 = .ok (.getfield 20, 3) := by decide +kernel
theorem dX4_of_45 : decode cX4_of 45 = .ok (.iload 4, 2) := by decide +kernel
theorem dX4_of_47 : decode cX4_of 47 = .ok (.invokevirtual 39, 3) := by decide +kernel
theorem dX4_of_50 : decode cX4_of 50 = .ok (.imul, 1) := by decide +kernel
theorem dX4_of_51 : decode cX4_of 51 = .ok (.iadd, 1) := by decide +kernel
theorem dX4_of_52 : decode cX4_of 52 = .ok (.istore_n 3, 1) := by decide +kernel
theorem dX4_of_53 : decode cX4_of 53 = .ok (.iinc 4 1, 3) := by decide +kernel
theorem dX4_of_56 : decode cX4_of 56 = .ok (.goto (-35), 3) := by decide +kernel
theorem dX4_of_59 : decode cX4_of 59 = .ok (.iload_n 3, 1) := by decide +kernel
theorem dX4_of_60 : decode cX4_of 60 = .ok (.ireturn, 1) := by decide +kernel
theorem dX4_sortLoads_0 : decode cX4_sortLoads 0 = .ok (.iconst 0, 1) := by decide +kernel
theorem dX4_sortLoads_1 : decode cX4_sortLoads 1 = .ok (.istore_n 2, 1) := by decide +kernel
theorem dX4_sortLoads_2 : decode cX4_sortLoads 2 = .ok (.iconst 0, 1) := by decide +kernel
theorem dX4_sortLoads_3 : decode cX4_sortLoads 3 = .ok (.istore_n 3, 1) := by decide +kernel
theorem dX4_sortLoads_4 : decode cX4_sortLoads 4 = .ok (.iload_n 3, 1) := by decide +kernel
theorem dX4_sortLoads_5 : decode cX4_sortLoads 5 = .ok (.aload_n 0, 1) := by decide +kernel
theorem dX4_sortLoads_6 : decode cX4_sortLoads 6 = .ok (.getfield 27, 3) := by decide +kernel
theorem dX4_sortLoads_9 : decode cX4_sortLoads 9 = .ok (.invokevirtual 42, 3) := by decide +kernel
theorem dX4_sortLoads_12 : decode cX4_sortLoads 12 = .ok (.if_icmp .ge 63, 3) := by decide +kernel
theorem dX4_sortLoads_15 : decode cX4_sortLoads 15 = .ok (.iload_n 3, 1) := by decide +kernel
theorem dX4_sortLoads_16 : decode cX4_sortLoads 16 = .ok (.iconst 1, 1) := by decide +kernel
theorem dX4_sortLoads_17 : decode cX4_sortLoads 17 = .ok (.iadd, 1) := by decide +kernel
theorem dX4_sortLoads_18 : decode cX4_sortLoads 18 = .ok (.istore 4, 2) := by decide +kernel
theorem dX4_sortLoads_20 : decode cX4_sortLoads 20 = .ok (.iload 4, 2) := by decide +kernel
theorem dX4_sortLoads_22 : decode cX4_sortLoads 22 = .ok (.aload_n 0, 1) := by decide +kernel
theorem dX4_sortLoads_23 : decode cX4_sortLoads 23 = .ok (.getfield 27, 3) := by decide +kernel
theorem dX4_sortLoads_26 : decode cX4_sortLoads 26 = .ok (.invokevirtual 42, 3) := by decide +kernel
theorem dX4_sortLoads_29 : decode cX4_sortLoads 29 = .ok (.if_icmp .ge 40, 3) := by decide +kernel
theorem dX4_sortLoads_32 : decode cX4_sortLoads 32 = .ok (.aload_n 0, 1) := by decide +kernel
theorem dX4_sortLoads_33 : decode cX4_sortLoads 33 = .ok (.getfield 27, 3) := by decide +kernel
theorem dX4_sortLoads_36 : decode cX4_sortLoads 36 = .ok (.iload_n 1, 1) := by decide +kernel
theorem dX4_sortLoads_37 : decode cX4_sortLoads 37 = .ok (.iload_n 3, 1) := by decide +kernel
theorem dX4_sortLoads_38 : decode cX4_sortLoads 38 = .ok (.iload 4, 2) := by decide +kernel
theorem dX4_sortLoads_40 : decode cX4_sortLoads 40 = .ok (.invokevirtual 47, 3) := by decide +kernel
theorem dX4_sortLoads_43 : decode cX4_sortLoads 43 = .ok (.istore 5, 2) := by decide +kernel
theorem dX4_sortLoads_45 : decode cX4_sortLoads 45 = .ok (.iload 5, 2) := by decide +kernel
theorem dX4_sortLoads_47 : decode cX4_sortLoads 47 = .ok (.ifCond .le 16, 3) := by decide +kernel
theorem dX4_sortLoads_50 : decode cX4_sortLoads 50 = .ok (.aload_n 0, 1) := by decide +kernel
theorem dX4_sortLoads_51 : decode cX4_sortLoads 51 = .ok (.getfield 14, 3) := by decide +kernel
theorem dX4_sortLoads_54 : decode cX4_sortLoads 54 = .ok (.iload_n 2, 1) := by decide +kernel
theorem dX4_sortLoads_55 : decode cX4_sortLoads 55 = .ok (.iload 5, 2) := by decide +kernel
theorem dX4_sortLoads_57 : decode cX4_sortLoads 57 = .ok (.invokestatic 51, 3) := by decide +kernel
theorem dX4_sortLoads_60 : decode cX4_sortLoads 60 = .ok (.iinc 2 1, 3) := by decide +kernel
theorem dX4_sortLoads_63 : decode cX4_sortLoads 63 = .ok (.iinc 4 1, 3) := by decide +kernel
theorem dX4_sortLoads_66 : decode cX4_sortLoads 66 = .ok (.goto (-46), 3) := by decide +kernel
theorem dX4_sortLoads_69 : decode cX4_sortLoads 69 = .ok (.iinc 3 1, 3) := by decide +kernel
theorem dX4_sortLoads_72 : decode cX4_sortLoads 72 = .ok (.goto (-68), 3) := by decide +kernel
theorem dX4_sortLoads_75 : decode cX4_sortLoads 75 = .ok (.iload_n 2, 1) := by decide +kernel
theorem dX4_sortLoads_76 : decode cX4_sortLoads 76 = .ok (.ireturn, 1) := by decide +kernel
theorem dX4_sortWays_0 : decode cX4_sortWays 0 = .ok (.iconst 0, 1) := by decide +kernel
theorem dX4_sortWays_1 : decode cX4_sortWays 1 = .ok (.istore_n 1, 1) := by decide +kernel
theorem dX4_sortWays_2 : decode cX4_sortWays 2 = .ok (.iconst 0, 1) := by decide +kernel
theorem dX4_sortWays_3 : decode cX4_sortWays 3 = .ok (.istore_n 2, 1) := by decide +kernel
theorem dX4_sortWays_4 : decode cX4_sortWays 4 = .ok (.iload_n 2, 1) := by decide +kernel
theorem dX4_sortWays_5 : decode cX4_sortWays 5 = .ok (.aload_n 0, 1) := by decide +kernel
theorem dX4_sortWays_6 : decode cX4_sortWays 6 = .ok (.getfield 23, 3) := by decide +kernel
theorem dX4_sortWays_9 : decode cX4_sortWays 9 = .ok (.invokevirtual 55, 3) := by decide +kernel
theorem dX4_sortWays_12 : decode cX4_sortWays 12 = .ok (.if_icmp .ge 60, 3) := by decide +kernel
theorem dX4_sortWays_15 : decode cX4_sortWays 15 = .ok (.iload_n 2, 1) := by decide +kernel
theorem dX4_sortWays_16 : decode cX4_sortWays 16 = .ok (.iconst 1, 1) := by decide +kernel
theorem dX4_sortWays_17 : decode cX4_sortWays 17 = .ok (.iadd, 1) := by decide +kernel
theorem dX4_sortWays_18 : decode cX4_sortWays 18 = .ok (.istore_n 3, 1) := by decide +kernel
theorem dX4_sortWays_19 : decode cX4_sortWays 19 = .ok (.iload_n 3, 1) := by decide +kernel
theorem dX4_sortWays_20 : decode cX4_sortWays 20 = .ok (.aload_n 0, 1) := by decide +kernel
theorem dX4_sortWays_21 : decode cX4_sortWays 21 = .ok (.getfield 23, 3) := by decide +kernel
theorem dX4_sortWays_24 : decode cX4_sortWays 24 = .ok (.invokevirtual 55, 3) := by decide +kernel
theorem dX4_sortWays_27 : decode cX4_sortWays 27 = .ok (.if_icmp .ge 39, 3) := by decide +kernel
theorem dX4_sortWays_30 : decode cX4_sortWays 30 = .ok (.aload_n 0, 1) := by decide +kernel
theorem dX4_sortWays_31 : decode cX4_sortWays 31 = .ok (.getfield 23, 3) := by decide +kernel
theorem dX4_sortWays_34 : decode cX4_sortWays 34 = .ok (.iload_n 2, 1) := by decide +kernel
theorem dX4_sortWays_35 : decode cX4_sortWays 35 = .ok (.iload_n 3, 1) := by decide +kernel
theorem dX4_sortWays_36 : decode cX4_sortWays 36 = .ok (.invokevirtual 60, 3) := by decide +kernel
theorem dX4_sortWays_39 : decode cX4_sortWays 39 = .ok (.istore 4, 2) := by decide +kernel
theorem dX4_sortWays_41 : decode cX4_sortWays 41 = .ok (.iload 4, 2) := by decide +kernel
theorem dX4_sortWays_43 : decode cX4_sortWays 43 = .ok (.iconst (-1), 1) := by decide +kernel
theorem dX4_sortWays_44 : decode cX4_sortWays 44 = .ok (.if_icmp .eq 16, 3) := by decide +kernel
theorem dX4_sortWays_47 : decode cX4_sortWays 47 = .ok (.aload_n 0, 1) := by decide +kernel
theorem dX4_sortWays_48 : decode cX4_sortWays 48 = .ok (.getfield 20, 3) := by decide +kernel
theorem dX4_sortWays_51 : decode cX4_sortWays 51 = .ok (.iload_n 1, 1) := by decide +kernel
theorem dX4_sortWays_52 : decode cX4_sortWays 52 = .ok (.iload 4, 2) := by decide +kernel
theorem dX4_sortWays_54 : decode cX4_sortWays 54 = .ok (.invokestatic 51, 3) := by decide +kernel
theorem dX4_sortWays_57 : decode cX4_sortWays 57 = .ok (.iinc 1 1, 3) := by decide +kernel
theorem dX4_sortWays_60 : decode cX4_sortWays 60 = .ok (.iinc 3 1, 3) := by decide +kernel
theorem dX4_sortWays_63 : decode cX4_sortWays 63 = .ok (.goto (-44), 3) := by decide +kernel
theorem dX4_sortWays_66 : decode cX4_sortWays 66 = .ok (.iinc 2 1, 3) := by decide +kernel
theorem dX4_sortWays_69 : decode cX4_sortWays 69 = .ok (.goto (-65), 3) := by decide +kernel
theorem dX4_sortWays_72 : decode cX4_sortWays 72 = .ok (.iload_n 1, 1) := by decide +kernel
theorem dX4_sortWays_73 : decode cX4_sortWays 73 = .ok (.ireturn, 1) := by decide +kernel
theorem dX4_insert_0 : decode cX4_insert 0 = .ok (.iload_n 1, 1) := by decide +kernel
theorem dX4_insert_1 : decode cX4_insert 1 = .ok (.istore_n 3, 1) := by decide +kernel
theorem dX4_insert_2 : decode cX4_insert 2 = .ok (.iload_n 3, 1) := by decide +kernel
theorem dX4_insert_3 : decode cX4_insert 3 = .ok (.ifCond .le 32, 3) := by decide +kernel
theorem dX4_insert_6 : decode cX4_insert 6 = .ok (.aload_n 0, 1) := by decide +kernel
theorem dX4_insert_7 : decode cX4_insert 7 = .ok (.iload_n 3, 1) := by decide +kernel
theorem dX4_insert_8 : decode cX4_insert 8 = .ok (.iconst 1, 1) := by decide +kernel
theorem dX4_insert_9 : decode cX4_insert 9 = .ok (.isub, 1) := by decide +kernel
theorem dX4_insert_10 : decode cX4_insert 10 = .ok (.invokevirtual 39, 3) := by decide +kernel
theorem dX4_insert_13 : decode cX4_insert 13 = .ok (.iload_n 2, 1) := by decide +kernel
theorem dX4_insert_14 : decode cX4_insert 14 = .ok (.if_icmp .le 21, 3) := by decide +kernel
theorem dX4_insert_17 : decode cX4_insert 17 = .ok (.aload_n 0, 1) := by decide +kernel
theorem dX4_insert_18 : decode cX4_insert 18 = .ok (.iload_n 3, 1) := by decide +kernel
theorem dX4_insert_19 : decode cX4_insert 19 = .ok (.aload_n 0, 1) := by decide +kernel
theorem dX4_insert_20 : decode cX4_insert 20 = .ok (.iload_n 3, 1) := by decide +kernel
theorem dX4_insert_21 : decode cX4_insert 21 = .ok (.iconst 1, 1) := by decide +kernel
theorem dX4_insert_22 : decode cX4_insert 22 = .ok (.isub, 1) := by decide +kernel
theorem dX4_insert_23 : decode cX4_insert 23 = .ok (.invokevirtual 39, 3) := by decide +kernel
theorem dX4_insert_26 : decode cX4_insert 26 = .ok (.invokevirtual 64, 3) := by decide +kernel
theorem dX4_insert_29 : decode cX4_insert 29 = .ok (.iinc 3 (-1), 3) := by decide +kernel
theorem dX4_insert_32 : decode cX4_insert 32 = .ok (.goto (-30), 3) := by decide +kernel
theorem dX4_insert_35 : decode cX4_insert 35 = .ok (.aload_n 0, 1) := by decide +kernel
theorem dX4_insert_36 : decode cX4_insert 36 = .ok (.iload_n 3, 1) := by decide +kernel
theorem dX4_insert_37 : decode cX4_insert 37 = .ok (.iload_n 2, 1) := by decide +kernel
theorem dX4_insert_38 : decode cX4_insert 38 = .ok (.invokevirtual 64, 3) := by decide +kernel
theorem dX4_insert_41 : decode cX4_insert 41 = .ok (.return_, 1) := by decide +kernel
theorem dX5_init_0 : decode cX5_init 0 = .ok (.aload_n 0, 1) := by decide +kernel
theorem dX5_init_1 : decode cX5_init 1 = .ok (.invokespecial 3, 3) := by decide +kernel
theorem dX5_init_4 : decode cX5_init 4 = .ok (.aload_n 0, 1) := by decide +kernel
theorem dX5_init_5 : decode cX5_init 5 = .ok (.new 9, 3) := by decide +kernel
theorem dX5_init_8 : decode cX5_init 8 = .ok (.dup, 1) := by decide +kernel
theorem dX5_init_9 : decode cX5_init 9 = .ok (.invokespecial 11, 3) := by decide +kernel
theorem dX5_init_12 : decode cX5_init 12 = .ok (.putfield 12, 3) := by decide +kernel
theorem dX5_init_15 : decode cX5_init 15 = .ok (.aload_n 0, 1) := by decide +kernel
theorem dX5_init_16 : decode cX5_init 16 = .ok (.aload_n 1, 1) := by decide +kernel
theorem dX5_init_17 : decode cX5_init 17 = .ok (.putfield 18, 3) := by decide +kernel
theorem dX5_init_20 : decode cX5_init 20 = .ok (.aload_n 0, 1) := by decide +kernel
theorem dX5_init_21 : decode cX5_init 21 = .ok (.aload_n 2, 1) := by decide +kernel
theorem dX5_init_22 : decode cX5_init 22 = .ok (.putfield 22, 3) := by decide +kernel
theorem dX5_init_25 : decode cX5_init 25 = .ok (.return_, 1) := by decide +kernel
theorem dX5_least_0 : decode cX5_least 0 = .ok (.aload_n 0, 1) := by decide +kernel
theorem dX5_least_1 : decode cX5_least 1 = .ok (.getfield 22, 3) := by decide +kernel
theorem dX5_least_4 : decode cX5_least 4 = .ok (.aload_n 1, 1) := by decide +kernel
theorem dX5_least_5 : decode cX5_least 5 = .ok (.aload_n 2, 1) := by decide +kernel
theorem dX5_least_6 : decode cX5_least 6 = .ok (.invokevirtual 26, 3) := by decide +kernel
theorem dX5_least_9 : decode cX5_least 9 = .ok (.istore_n 3, 1) := by decide +kernel
theorem dX5_least_10 : decode cX5_least 10 = .ok (.iload_n 3, 1) := by decide +kernel
theorem dX5_least_11 : decode cX5_least 11 = .ok (.ifCond .le 19, 3) := by decide +kernel
theorem dX5_least_14 : decode cX5_least 14 = .ok (.aload_n 0, 1) := by decide +kernel
theorem dX5_least_15 : decode cX5_least 15 = .ok (.getfield 18, 3) := by decide +kernel
theorem dX5_least_18 : decode cX5_least 18 = .ok (.invokevirtual 32, 3) := by decide +kernel
theorem dX5_least_21 : decode cX5_least 21 = .ok (.aload_n 1, 1) := by decide +kernel
theorem dX5_least_22 : decode cX5_least 22 = .ok (.invokevirtual 38, 3) := by decide +kernel
theorem dX5_least_25 : decode cX5_least 25 = .ok (.if_icmp .gt 5, 3) := by decide +kernel
theorem dX5_least_28 : decode cX5_least 28 = .ok (.iconst (-1), 1) := by decide +kernel
theorem dX5_least_29 : decode cX5_least 29 = .ok (.ireturn, 1) := by decide +kernel
theorem dX5_least_30 : decode cX5_least 30 = .ok (.iconst 0, 1) := by decide +kernel
theorem dX5_least_31 : decode cX5_least 31 = .ok (.istore 4, 2) := by decide +kernel
theorem dX5_least_33 : decode cX5_least 33 = .ok (.iload 4, 2) := by decide +kernel
theorem dX5_least_35 : decode cX5_least 35 = .ok (.aload_n 1, 1) := by decide +kernel
theorem dX5_least_36 : decode cX5_least 36 = .ok (.invokevirtual 38, 3) := by decide +kernel
theorem dX5_least_39 : decode cX5_least 39 = .ok (.if_icmp .ge 20, 3) := by decide +kernel
theorem dX5_least_42 : decode cX5_least 42 = .ok (.iload_n 3, 1) := by decide +kernel
theorem dX5_least_43 : decode cX5_least 43 = .ok (.aload_n 0, 1) := by decide +kernel
theorem dX5_least_44 : decode cX5_least 44 = .ok (.aload_n 1, 1) := by decide +kernel
theorem dX5_least_45 : decode cX5_least 45 = .ok (.aload_n 2, 1) := by decide +kernel
theorem dX5_least_46 : decode cX5_least 46 = .ok (.iload 4, 2) := by decide +kernel
theorem dX5_least_48 : decode cX5_least 48 = .ok (.invokevirtual 41, 3) := by decide +kernel
theorem dX5_least_51 : decode cX5_least 51 = .ok (.iadd, 1) := by decide +kernel
theorem dX5_least_52 : decode cX5_least 52 = .ok (.istore_n 3, 1) := by decide +kernel
theorem dX5_least_53 : decode cX5_least 53 = .ok (.iinc 4 1, 3) := by decide +kernel
theorem dX5_least_56 : decode cX5_least 56 = .ok (.goto (-23), 3) := by decide +kernel
theorem dX5_least_59 : decode cX5_least 59 = .ok (.iload_n 3, 1) := by decide +kernel
theorem dX5_least_60 : decode cX5_least 60 = .ok (.ireturn, 1) := by decide +kernel
theorem dX5_asideWeight_0 : decode cX5_asideWeight 0 = .ok (.aload_n 0, 1) := by decide +kernel
theorem dX5_asideWeight_1 : decode cX5_asideWeight 1 = .ok (.getfield 22, 3) := by decide +kernel
theorem dX5_asideWeight_4 : decode cX5_asideWeight 4 = .ok (.iload_n 3, 1) := by decide +kernel
theorem dX5_asideWeight_5 : decode cX5_asideWeight 5 = .ok (.invokevirtual 45, 3) := by decide +kernel
theorem dX5_asideWeight_8 : decode cX5_asideWeight 8 = .ok (.istore 4, 2) := by decide +kernel
theorem dX5_asideWeight_10 : decode cX5_asideWeight 10 = .ok (.iload_n 3, 1) := by decide +kernel
theorem dX5_asideWeight_11 : decode cX5_asideWeight 11 = .ok (.istore 5, 2) := by decide +kernel
theorem dX5_asideWeight_13 : decode cX5_asideWeight 13 = .ok (.iconst 0, 1) := by decide +kernel
theorem dX5_asideWeight_14 : decode cX5_asideWeight 14 = .ok (.istore 6, 2) := by decide +kernel
theorem dX5_asideWeight_16 : decode cX5_asideWeight 16 = .ok (.iload 6, 2) := by decide +kernel
theorem dX5_asideWeight_18 : decode cX5_asideWeight 18 = .ok (.iconst 5, 1) := by decide +kernel
theorem dX5_asideWeight_19 : decode cX5_asideWeight 19 = .ok (.if_icmp .ge 81, 3) := by decide +kernel
theorem dX5_asideWeight_22 : decode cX5_asideWeight 22 = .ok (.aload_n 1, 1) := by decide +kernel
theorem dX5_asideWeight_23 : decode cX5_asideWeight 23 = .ok (.iload 5, 2) := by decide +kernel
theorem dX5_asideWeight_25 : decode cX5_asideWeight 25 = .ok (.invokevirtual 49, 3) := by decide +kernel
theorem dX5_asideWeight_28 : decode cX5_asideWeight 28 = .ok (.aload_n 2, 1) := by decide +kernel
theorem dX5_asideWeight_29 : decode cX5_asideWeight 29 = .ok (.iload 5, 2) := by decide +kernel
theorem dX5_asideWeight_31 : decode cX5_asideWeight 31 = .ok (.invokevirtual 49, 3) := by decide +kernel
theorem dX5_asideWeight_34 : decode cX5_asideWeight 34 = .ok (.if_icmp .ne 5, 3) := by decide +kernel
theorem dX5_asideWeight_37 : decode cX5_asideWeight 37 = .ok (.iconst 0, 1) := by decide +kernel
theorem dX5_asideWeight_38 : decode cX5_asideWeight 38 = .ok (.ireturn, 1) := by decide +kernel
theorem dX5_asideWeight_39 : decode cX5_asideWeight 39 = .ok (.aload_n 1, 1) := by decide +kernel
theorem dX5_asideWeight_40 : decode cX5_asideWeight 40 = .ok (.aload_n 2, 1) := by decide +kernel
theorem dX5_asideWeight_41 : decode cX5_asideWeight 41 = .ok (.iload 5, 2) := by decide +kernel
theorem dX5_asideWeight_43 : decode cX5_asideWeight 43 = .ok (.invokevirtual 49, 3) := by decide +kernel
theorem dX5_asideWeight_46 : decode cX5_asideWeight 46 = .ok (.aload_n 1, 1) := by decide +kernel
theorem dX5_asideWeight_47 : decode cX5_asideWeight 47 = .ok (.invokevirtual 38, 3) := by decide +kernel
theorem dX5_asideWeight_50 : decode cX5_asideWeight 50 = .ok (.invokevirtual 52, 3) := by decide +kernel
theorem dX5_asideWeight_53 : decode cX5_asideWeight 53 = .ok (.istore 5, 2) := by decide +kernel
theorem dX5_asideWeight_55 : decode cX5_asideWeight 55 = .ok (.iload 5, 2) := by decide +kernel
theorem dX5_asideWeight_57 : decode cX5_asideWeight 57 = .ok (.iload_n 3, 1) := by decide +kernel
theorem dX5_asideWeight_58 : decode cX5_asideWeight 58 = .ok (.if_icmp .ne 6, 3) := by decide +kernel
theorem dX5_asideWeight_61 : decode cX5_asideWeight 61 = .ok (.iload 4, 2) := by decide +kernel
theorem dX5_asideWeight_63 : decode cX5_asideWeight 63 = .ok (.ireturn, 1) := by decide +kernel
theorem dX5_asideWeight_64 : decode cX5_asideWeight 64 = .ok (.iload 5, 2) := by decide +kernel
theorem dX5_asideWeight_66 : decode cX5_asideWeight 66 = .ok (.iconst (-1), 1) := by decide +kernel
theorem dX5_asideWeight_67 : decode cX5_asideWeight 67 = .ok (.if_icmp .eq 9, 3) := by decide +kernel
theorem dX5_asideWeight_70 : decode cX5_asideWeight 70 = .ok (.iload 5, 2) := by decide +kernel
theorem dX5_asideWeight_72 : decode cX5_asideWeight 72 = .ok (.iload_n 3, 1) := by decide +kernel
theorem dX5_asideWeight_73 : decode cX5_asideWeight 73 = .ok (.if_icmp .ge 5, 3) := by decide +kernel
theorem dX5_asideWeight_76 : decode cX5_asideWeight 76 = .ok (.iconst 0, 1) := by decide +kernel
theorem dX5_asideWeight_77 : decode cX5_asideWeight 77 = .ok (.ireturn, 1) := by decide +kernel
theorem dX5_asideWeight_78 : decode cX5_asideWeight 78 = .ok (.iload 4, 2) := by decide +kernel
theorem dX5_asideWeight_80 : decode cX5_asideWeight 80 = .ok (.aload_n 0, 1) := by decide +kernel
theorem dX5_asideWeight_81 : decode cX5_asideWeight 81 = .ok (.getfield 22, 3) := by decide +kernel
theorem dX5_asideWeight_84 : decode cX5_asideWeight 84 = .ok (.iload 5, 2) := by decide +kernel
theorem dX5_asideWeight_86 : decode cX5_asideWeight 86 = .ok (.invokevirtual 45, 3) := by decide +kernel
theorem dX5_asideWeight_89 : decode cX5_asideWeight 89 = .ok (.invokestatic 56, 3) := by decide +kernel
theorem dX5_asideWeight_92 : decode cX5_asideWeight 92 = .ok (.istore 4, 2) := by decide +kernel
theorem dX5_asideWeight_94 : decode cX5_asideWeight 94 = .ok (.iinc 6 1, 3) := by decide +kernel
theorem dX5_asideWeight_97 : decode cX5_asideWeight 97 = .ok (.goto (-81), 3) := by decide +kernel
theorem dX5_asideWeight_100 : decode cX5_asideWeight 100 = .ok (.iconst 0, 1) := by decide +kernel
theorem dX5_asideWeight_101 : decode cX5_asideWeight 101 = .ok (.ireturn, 1) := by decide +kernel
theorem dX5_walk_0 : decode cX5_walk 0 = .ok (.iload_n 3, 1) := by decide +kernel
theorem dX5_walk_1 : decode cX5_walk 1 = .ok (.bipush 7, 2) := by decide +kernel
theorem dX5_walk_3 : decode cX5_walk 3 = .ok (.if_icmp .lt 5, 3) := by decide +kernel
theorem dX5_walk_6 : decode cX5_walk 6 = .ok (.iconst (-1), 1) := by decide +kernel
theorem dX5_walk_7 : decode cX5_walk 7 = .ok (.ireturn, 1) := by decide +kernel
theorem dX5_walk_8 : decode cX5_walk 8 = .ok (.aload_n 0, 1) := by decide +kernel
theorem dX5_walk_9 : decode cX5_walk 9 = .ok (.getfield 12, 3) := by decide +kernel
theorem dX5_walk_12 : decode cX5_walk 12 = .ok (.aload_n 1, 1) := by decide +kernel
theorem dX5_walk_13 : decode cX5_walk 13 = .ok (.invokevirtual 61, 3) := by decide +kernel
theorem dX5_walk_16 : decode cX5_walk 16 = .ok (.aload_n 0, 1) := by decide +kernel
theorem dX5_walk_17 : decode cX5_walk 17 = .ok (.aload_n 2, 1) := by decide +kernel
theorem dX5_walk_18 : decode cX5_walk 18 = .ok (.invokevirtual 65, 3) := by decide +kernel
theorem dX5_walk_21 : decode cX5_walk 21 = .ok (.istore 4, 2) := by decide +kernel
theorem dX5_walk_23 : decode cX5_walk 23 = .ok (.iconst 0, 1) := by decide +kernel
theorem dX5_walk_24 : decode cX5_walk 24 = .ok (.istore 5, 2) := by decide +kernel
theorem dX5_walk_26 : decode cX5_walk 26 = .ok (.iload 5, 2) := by decide +kernel
theorem dX5_walk_28 : decode cX5_walk 28 = .ok (.iload_n 3, 1) := by decide +kernel
theorem dX5_walk_29 : decode cX5_walk 29 = .ok (.if_icmp .ge 22, 3) := by decide +kernel
theorem dX5_walk_32 : decode cX5_walk 32 = .ok (.iload 4, 2) := by decide +kernel
theorem dX5_walk_34 : decode cX5_walk 34 = .ok (.iconst (-1), 1) := by decide +kernel
theorem dX5_walk_35 : decode cX5_walk 35 = .ok (.if_icmp .eq 16, 3) := by decide +kernel
theorem dX5_walk_38 : decode cX5_walk 38 = .ok (.aload_n 0, 1) := by decide +kernel
theorem dX5_walk_39 : decode cX5_walk 39 = .ok (.aload_n 2, 1) := by decide +kernel
theorem dX5_walk_40 : decode cX5_walk 40 = .ok (.invokevirtual 65, 3) := by decide +kernel
theorem dX5_walk_43 : decode cX5_walk 43 = .ok (.istore 4, 2) := by decide +kernel
theorem dX5_walk_45 : decode cX5_walk 45 = .ok (.iinc 5 1, 3) := by decide +kernel
theorem dX5_walk_48 : decode cX5_walk 48 = .ok (.goto (-22), 3) := by decide +kernel
theorem dX5_walk_51 : decode cX5_walk 51 = .ok (.iload 4, 2) := by decide +kernel
theorem dX5_walk_53 : decode cX5_walk 53 = .ok (.ireturn, 1) := by decide +kernel
theorem dX5_firstStep_0 : decode cX5_firstStep 0 = .ok (.aload_n 0, 1) := by decide +kernel
theorem dX5_firstStep_1 : decode cX5_firstStep 1 = .ok (.aload_n 0, 1) := by decide +kernel
theorem dX5_firstStep_2 : decode cX5_firstStep 2 = .ok (.getfield 12, 3) := by decide +kernel
theorem dX5_firstStep_5 : decode cX5_firstStep 5 = .ok (.aload_n 1, 1) := by decide +kernel
theorem dX5_firstStep_6 : decode cX5_firstStep 6 = .ok (.invokevirtual 69, 3) := by decide +kernel
theorem dX5_firstStep_9 : decode cX5_firstStep 9 = .ok (.istore_n 2, 1) := by decide +kernel
theorem dX5_firstStep_10 : decode cX5_firstStep 10 = .ok (.iload_n 2, 1) := by decide +kernel
theorem dX5_firstStep_11 : decode cX5_firstStep 11 = .ok (.ifCond .gt 5, 3) := by decide +kernel
theorem dX5_firstStep_14 : decode cX5_firstStep 14 = .ok (.iconst (-1), 1) := by decide +kernel
theorem dX5_firstStep_15 : decode cX5_firstStep 15 = .ok (.ireturn, 1) := by decide +kernel
theorem dX5_firstStep_16 : decode cX5_firstStep 16 = .ok (.iconst 0, 1) := by decide +kernel
theorem dX5_firstStep_17 : decode cX5_firstStep 17 = .ok (.istore_n 3, 1) := by decide +kernel
theorem dX5_firstStep_18 : decode cX5_firstStep 18 = .ok (.iload_n 3, 1) := by decide +kernel
theorem dX5_firstStep_19 : decode cX5_firstStep 19 = .ok (.aload_n 0, 1) := by decide +kernel
theorem dX5_firstStep_20 : decode cX5_firstStep 20 = .ok (.getfield 12, 3) := by decide +kernel
theorem dX5_firstStep_23 : decode cX5_firstStep 23 = .ok (.invokevirtual 38, 3) := by decide +kernel
theorem dX5_firstStep_26 : decode cX5_firstStep 26 = .ok (.if_icmp .ge 114, 3) := by decide +kernel
theorem dX5_firstStep_29 : decode cX5_firstStep 29 = .ok (.iload_n 2, 1) := by decide +kernel
theorem dX5_firstStep_30 : decode cX5_firstStep 30 = .ok (.aload_n 0, 1) := by decide +kernel
theorem dX5_firstStep_31 : decode cX5_firstStep 31 = .ok (.getfield 22, 3) := by decide +kernel
theorem dX5_firstStep_34 : decode cX5_firstStep 34 = .ok (.iload_n 3, 1) := by decide +kernel
theorem dX5_firstStep_35 : decode cX5_firstStep 35 = .ok (.invokevirtual 45, 3) := by decide +kernel
theorem dX5_firstStep_38 : decode cX5_firstStep 38 = .ok (.isub, 1) := by decide +kernel
theorem dX5_firstStep_39 : decode cX5_firstStep 39 = .ok (.istore 4, 2) := by decide +kernel
theorem dX5_firstStep_41 : decode cX5_firstStep 41 = .ok (.aload_n 0, 1) := by decide +kernel
theorem dX5_firstStep_42 : decode cX5_firstStep 42 = .ok (.getfield 12, 3) := by decide +kernel
theorem dX5_firstStep_45 : decode cX5_firstStep 45 = .ok (.iload_n 3, 1) := by decide +kernel
theorem dX5_firstStep_46 : decode cX5_firstStep 46 = .ok (.invokevirtual 49, 3) := by decide +kernel
theorem dX5_firstStep_49 : decode cX5_firstStep 49 = .ok (.istore 5, 2) := by decide +kernel
theorem dX5_firstStep_51 : decode cX5_firstStep 51 = .ok (.iconst 0, 1) := by decide +kernel
theorem dX5_firstStep_52 : decode cX5_firstStep 52 = .ok (.istore 6, 2) := by decide +kernel
theorem dX5_firstStep_54 : decode cX5_firstStep 54 = .ok (.iload 6, 2) := by decide +kernel
theorem dX5_firstStep_56 : decode cX5_firstStep 56 = .ok (.aload_n 0, 1) := by decide +kernel
theorem dX5_firstStep_57 : decode cX5_firstStep 57 = .ok (.getfield 18, 3) := by decide +kernel
theorem dX5_firstStep_60 : decode cX5_firstStep 60 = .ok (.invokevirtual 32, 3) := by decide +kernel
theorem dX5_firstStep_63 : decode cX5_firstStep 63 = .ok (.if_icmp .ge 71, 3) := by decide +kernel
theorem dX5_firstStep_66 : decode cX5_firstStep 66 = .ok (.aload_n 0, 1) := by decide +kernel
theorem dX5_firstStep_67 : decode cX5_firstStep 67 = .ok (.getfield 12, 3) := by decide +kernel
theorem dX5_firstStep_70 : decode cX5_firstStep 70 = .ok (.iload 6, 2) := by decide +kernel
theorem dX5_firstStep_72 : decode cX5_firstStep 72 = .ok (.aload_n 0, 1) := by decide +kernel
theorem dX5_firstStep_73 : decode cX5_firstStep 73 = .ok (.getfield 12, 3) := by decide +kernel
theorem dX5_firstStep_76 : decode cX5_firstStep 76 = .ok (.invokevirtual 38, 3) := by decide +kernel
theorem dX5_firstStep_79 : decode cX5_firstStep 79 = .ok (.invokevirtual 52, 3) := by decide +kernel
theorem dX5_firstStep_82 : decode cX5_firstStep 82 = .ok (.iconst (-1), 1) := by decide +kernel
theorem dX5_firstStep_83 : decode cX5_firstStep 83 = .ok (.if_icmp .ne 45, 3) := by decide +kernel
theorem dX5_firstStep_86 : decode cX5_firstStep 86 = .ok (.aload_n 0, 1) := by decide +kernel
theorem dX5_firstStep_87 : decode cX5_firstStep 87 = .ok (.getfield 12, 3) := by decide +kernel
theorem dX5_firstStep_90 : decode cX5_firstStep 90 = .ok (.iload_n 3, 1) := by decide +kernel
theorem dX5_firstStep_91 : decode cX5_firstStep 91 = .ok (.iload 6, 2) := by decide +kernel
theorem dX5_firstStep_93 : decode cX5_firstStep 93 = .ok (.invokevirtual 72, 3) := by decide +kernel
theorem dX5_firstStep_96 : decode cX5_firstStep 96 = .ok (.aload_n 0, 1) := by decide +kernel
theorem dX5_firstStep_97 : decode cX5_firstStep 97 = .ok (.aload_n 0, 1) := by decide +kernel
theorem dX5_firstStep_98 : decode cX5_firstStep 98 = .ok (.getfield 12, 3) := by decide +kernel
theorem dX5_firstStep_101 : decode cX5_firstStep 101 = .ok (.aload_n 1, 1) := by decide +kernel
theorem dX5_firstStep_102 : decode cX5_firstStep 102 = .ok (.invokevirtual 69, 3) := by decide +kernel
theorem dX5_firstStep_105 : decode cX5_firstStep 105 = .ok (.iload 4, 2) := by decide +kernel
theorem dX5_firstStep_107 : decode cX5_firstStep 107 = .ok (.if_icmp .ne 11, 3) := by decide +kernel
theorem dX5_firstStep_110 : decode cX5_firstStep 110 = .ok (.bipush 10, 2) := by decide +kernel
theorem dX5_firstStep_112 : decode cX5_firstStep 112 = .ok (.iload_n 3, 1) := by decide +kernel
theorem dX5_firstStep_113 : decode cX5_firstStep 113 = .ok (.imul, 1) := by decide +kernel
theorem dX5_firstStep_114 : decode cX5_firstStep 114 = .ok (.iload 6, 2) := by decide +kernel
theorem dX5_firstStep_116 : decode cX5_firstStep 116 = .ok (.iadd, 1) := by decide +kernel
theorem dX5_firstStep_117 : decode cX5_firstStep 117 = .ok (.ireturn, 1) := by decide +kernel
theorem dX5_firstStep_118 : decode cX5_firstStep 118 = .ok (.aload_n 0, 1) := by decide +kernel
theorem dX5_firstStep_119 : decode cX5_firstStep 119 = .ok (.getfield 12, 3) := by decide +kernel
theorem dX5_firstStep_122 : decode cX5_firstStep 122 = .ok (.iload_n 3, 1) := by decide +kernel
theorem dX5_firstStep_123 : decode cX5_firstStep 123 = .ok (.iload 5, 2) := by decide +kernel
theorem dX5_firstStep_125 : decode cX5_firstStep 125 = .ok (.invokevirtual 72, 3) := by decide +kernel
theorem dX5_firstStep_128 : decode cX5_firstStep 128 = .ok (.iinc 6 1, 3) := by decide +kernel
theorem dX5_firstStep_131 : decode cX5_firstStep 131 = .ok (.goto (-77), 3) := by decide +kernel
theorem dX5_firstStep_134 : decode cX5_firstStep 134 = .ok (.iinc 3 1, 3) := by decide +kernel
theorem dX5_firstStep_137 : decode cX5_firstStep 137 = .ok (.goto (-119), 3) := by decide +kernel
theorem dX5_firstStep_140 : decode cX5_firstStep 140 = .ok (.iconst (-1), 1) := by decide +kernel
theorem dX5_firstStep_141 : decode cX5_firstStep 141 = .ok (.ireturn, 1) := by decide +kernel
theorem dX6_init_0 : decode cX6_init 0 = .ok (.aload_n 0, 1) := by decide +kernel
theorem dX6_init_1 : decode cX6_init 1 = .ok (.invokespecial 3, 3) := by decide +kernel
theorem dX6_init_4 : decode cX6_init 4 = .ok (.aload_n 0, 1) := by decide +kernel
theorem dX6_init_5 : decode cX6_init 5 = .ok (.new 9, 3) := by decide +kernel
theorem dX6_init_8 : decode cX6_init 8 = .ok (.dup, 1) := by decide +kernel
theorem dX6_init_9 : decode cX6_init 9 = .ok (.invokespecial 11, 3) := by decide +kernel
theorem dX6_init_12 : decode cX6_init 12 = .ok (.putfield 12, 3) := by decide +kernel
theorem dX6_init_15 : decode cX6_init 15 = .ok (.aload_n 0, 1) := by decide +kernel
theorem dX6_init_16 : decode cX6_init 16 = .ok (.new 9, 3) := by decide +kernel
theorem dX6_init_19 : decode cX6_init 19 = .ok (.dup, 1) := by decide +kernel
theorem dX6_init_20 : decode cX6_init 20 = .ok (.invokespecial 11, 3) := by decide +kernel
theorem dX6_init_23 : decode cX6_init 23 = .ok (.putfield 18, 3) := by decide +kernel
theorem dX6_init_26 : decode cX6_init 26 = .ok (.aload_n 0, 1) := by decide +kernel
theorem dX6_init_27 : decode cX6_init 27 = .ok (.new 9, 3) := by decide +kernel
theorem dX6_init_30 : decode cX6_init 30 = .ok (.dup, 1) := by decide +kernel
theorem dX6_init_31 : decode cX6_init 31 = .ok (.invokespecial 11, 3) := by decide +kernel
theorem dX6_init_34 : decode cX6_init 34 = .ok (.putfield 21, 3) := by decide +kernel
theorem dX6_init_37 : decode cX6_init 37 = .ok (.aload_n 0, 1) := by decide +kernel
theorem dX6_init_38 : decode cX6_init 38 = .ok (.new 24, 3) := by decide +kernel
theorem dX6_init_41 : decode cX6_init 41 = .ok (.dup, 1) := by decide +kernel
theorem dX6_init_42 : decode cX6_init 42 = .ok (.sipush 2880, 3) := by decide +kernel
theorem dX6_init_45 : decode cX6_init 45 = .ok (.invokespecial 26, 3) := by decide +kernel
theorem dX6_init_48 : decode cX6_init 48 = .ok (.putfield 29, 3) := by decide +kernel
theorem dX6_init_51 : decode cX6_init 51 = .ok (.aload_n 0, 1) := by decide +kernel
theorem dX6_init_52 : decode cX6_init 52 = .ok (.new 24, 3) := by decide +kernel
theorem dX6_init_55 : decode cX6_init 55 = .ok (.dup, 1) := by decide +kernel
theorem dX6_init_56 : decode cX6_init 56 = .ok (.sipush 7776, 3) := by decide +kernel
theorem dX6_init_59 : decode cX6_init 59 = .ok (.invokespecial 26, 3) := by decide +kernel
theorem dX6_init_62 : decode cX6_init 62 = .ok (.putfield 33, 3) := by decide +kernel
theorem dX6_init_65 : decode cX6_init 65 = .ok (.aload_n 0, 1) := by decide +kernel
theorem dX6_init_66 : decode cX6_init 66 = .ok (.new 24, 3) := by decide +kernel
theorem dX6_init_69 : decode cX6_init 69 = .ok (.dup, 1) := by decide +kernel
theorem dX6_init_70 : decode cX6_init 70 = .ok (.iconst 4, 1) := by decide +kernel
theorem dX6_init_71 : decode cX6_init 71 = .ok (.invokespecial 26, 3) := by decide +kernel
theorem dX6_init_74 : decode cX6_init 74 = .ok (.putfield 36, 3) := by decide +kernel
theorem dX6_init_77 : decode cX6_init 77 = .ok (.aload_n 0, 1) := by decide +kernel
theorem dX6_init_78 : decode cX6_init 78 = .ok (.iconst (-1), 1) := by decide +kernel
theorem dX6_init_79 : decode cX6_init 79 = .ok (.putfield 39, 3) := by decide +kernel
theorem dX6_init_82 : decode cX6_init 82 = .ok (.aload_n 0, 1) := by decide +kernel
theorem dX6_init_83 : decode cX6_init 83 = .ok (.iconst 0, 1) := by decide +kernel
theorem dX6_init_84 : decode cX6_init 84 = .ok (.putfield 43, 3) := by decide +kernel
theorem dX6_init_87 : decode cX6_init 87 = .ok (.aload_n 0, 1) := by decide +kernel
theorem dX6_init_88 : decode cX6_init 88 = .ok (.aload_n 1, 1) := by decide +kernel
theorem dX6_init_89 : decode cX6_init 89 = .ok (.putfield 46, 3) := by decide +kernel
theorem dX6_init_92 : decode cX6_init 92 = .ok (.aload_n 0, 1) := by decide +kernel
theorem dX6_init_93 : decode cX6_init 93 = .ok (.aload_n 2, 1) := by decide +kernel
theorem dX6_init_94 : decode cX6_init 94 = .ok (.putfield 50, 3) := by decide +kernel
theorem dX6_init_97 : decode cX6_init 97 = .ok (.aload_n 0, 1) := by decide +kernel
theorem dX6_init_98 : decode cX6_init 98 = .ok (.aload_n 3, 1) := by decide +kernel
theorem dX6_init_99 : decode cX6_init 99 = .ok (.putfield 54, 3) := by decide +kernel
theorem dX6_init_102 : decode cX6_init 102 = .ok (.return_, 1) := by decide +kernel
theorem dX6_forget_0 : decode cX6_forget 0 = .ok (.aload_n 0, 1) := by decide +kernel
theorem dX6_forget_1 : decode cX6_forget 1 = .ok (.iconst 0, 1) := by decide +kernel
theorem dX6_forget_2 : decode cX6_forget 2 = .ok (.putfield 43, 3) := by decide +kernel
theorem dX6_forget_5 : decode cX6_forget 5 = .ok (.return_, 1) := by decide +kernel
theorem dX6_price_0 : decode cX6_price 0 = .ok (.aload_n 0, 1) := by decide +kernel
theorem dX6_price_1 : decode cX6_price 1 = .ok (.getfield 39, 3) := by decide +kernel
theorem dX6_price_4 : decode cX6_price 4 = .ok (.ireturn, 1) := by decide +kernel
theorem dX6_toldOf_0 : decode cX6_toldOf 0 = .ok (.aload_n 0, 1) := by decide +kernel
theorem dX6_toldOf_1 : decode cX6_toldOf 1 = .ok (.getfield 39, 3) := by decide +kernel
theorem dX6_toldOf_4 : decode cX6_toldOf 4 = .ok (.iconst (-1), 1) := by decide +kernel
theorem dX6_toldOf_5 : decode cX6_toldOf 5 = .ok (.if_icmp .ne 7, 3) := by decide +kernel
theorem dX6_toldOf_8 : decode cX6_toldOf 8 = .ok (.iconst (-1), 1) := by decide +kernel
theorem dX6_toldOf_9 : decode cX6_toldOf 9 = .ok (.goto 11, 3) := by decide +kernel
theorem dX6_toldOf_12 : decode cX6_toldOf 12 = .ok (.aload_n 0, 1) := by decide +kernel
theorem dX6_toldOf_13 : decode cX6_toldOf 13 = .ok (.getfield 36, 3) := by decide +kernel
theorem dX6_toldOf_16 : decode cX6_toldOf 16 = .ok (.iload_n 1, 1) := by decide +kernel
theorem dX6_toldOf_17 : decode cX6_toldOf 17 = .ok (.invokevirtual 58, 3) := by decide +kernel
theorem dX6_toldOf_20 : decode cX6_toldOf 20 = .ok (.ireturn, 1) := by decide +kernel
theorem dX6_makePlan_0 : decode cX6_makePlan 0 = .ok (.aload_n 0, 1) := by decide +kernel
theorem dX6_makePlan_1 : decode cX6_makePlan 1 = .ok (.getfield 43, 3) := by decide +kernel
theorem dX6_makePlan_4 : decode cX6_makePlan 4 = .ok (.iload_n 1, 1) := by decide +kernel
theorem dX6_makePlan_5 : decode cX6_makePlan 5 = .ok (.if_icmp .ne 4, 3) := by decide +kernel
theorem dX6_makePlan_8 : decode cX6_makePlan 8 = .ok (.return_, 1) := by decide +kernel
theorem dX6_makePlan_9 : decode cX6_makePlan 9 = .ok (.iload_n 1, 1) := by decide +kernel
theorem dX6_makePlan_10 : decode cX6_makePlan 10 = .ok (.iconst 1, 1) := by decide +kernel
theorem dX6_makePlan_11 : decode cX6_makePlan 11 = .ok (.isub, 1) := by decide +kernel
theorem dX6_makePlan_12 : decode cX6_makePlan 12 = .ok (.istore_n 2, 1) := by decide +kernel
theorem dX6_makePlan_13 : decode cX6_makePlan 13 = .ok (.iload_n 2, 1) := by decide +kernel
theorem dX6_makePlan_14 : decode cX6_makePlan 14 = .ok (.ifCond .lt 39, 3) := by decide +kernel
theorem dX6_makePlan_17 : decode cX6_makePlan 17 = .ok (.aload_n 0, 1) := by decide +kernel
theorem dX6_makePlan_18 : decode cX6_makePlan 18 = .ok (.iload_n 2, 1) := by decide +kernel
theorem dX6_makePlan_19 : decode cX6_makePlan 19 = .ok (.iload_n 2, 1) := by decide +kernel
theorem dX6_makePlan_20 : decode cX6_makePlan 20 = .ok (.iload_n 1, 1) := by decide +kernel
theorem dX6_makePlan_21 : decode cX6_makePlan 21 = .ok (.iconst 1, 1) := by decide +kernel
theorem dX6_makePlan_22 : decode cX6_makePlan 22 = .ok (.isub, 1) := by decide +kernel
theorem dX6_makePlan_23 : decode cX6_makePlan 23 = .ok (.if_icmp .ne 7, 3) := by decide +kernel
theorem dX6_makePlan_26 : decode cX6_makePlan 26 = .ok (.iconst 1, 1) := by decide +kernel
theorem dX6_makePlan_27 : decode cX6_makePlan 27 = .ok (.goto 4, 3) := by decide +kernel
theorem dX6_makePlan_30 : decode cX6_makePlan 30 = .ok (.iconst 0, 1) := by decide +kernel
theorem dX6_makePlan_31 : decode cX6_makePlan 31 = .ok (.invokevirtual 62, 3) := by decide +kernel
theorem dX6_makePlan_34 : decode cX6_makePlan 34 = .ok (.iload_n 2, 1) := by decide +kernel
theorem dX6_makePlan_35 : decode cX6_makePlan 35 = .ok (.ifCond .le 12, 3) := by decide +kernel
theorem dX6_makePlan_38 : decode cX6_makePlan 38 = .ok (.aload_n 0, 1) := by decide +kernel
theorem dX6_makePlan_39 : decode cX6_makePlan 39 = .ok (.iload_n 2, 1) := by decide +kernel
theorem dX6_makePlan_40 : decode cX6_makePlan 40 = .ok (.invokevirtual 66, 3) := by decide +kernel
theorem dX6_makePlan_43 : decode cX6_makePlan 43 = .ok (.aload_n 0, 1) := by decide +kernel
theorem dX6_makePlan_44 : decode cX6_makePlan 44 = .ok (.invokevirtual 69, 3) := by decide +kernel
theorem dX6_makePlan_47 : decode cX6_makePlan 47 = .ok (.iinc 2 (-1), 3) := by decide +kernel
theorem dX6_makePlan_50 : decode cX6_makePlan 50 = .ok (.goto (-37), 3) := by decide +kernel
theorem dX6_makePlan_53 : decode cX6_makePlan 53 = .ok (.aload_n 0, 1) := by decide +kernel
theorem dX6_makePlan_54 : decode cX6_makePlan 54 = .ok (.iconst (-1), 1) := by decide +kernel
theorem dX6_makePlan_55 : decode cX6_makePlan 55 = .ok (.putfield 39, 3) := by decide +kernel
theorem dX6_makePlan_58 : decode cX6_makePlan 58 = .ok (.iconst 0, 1) := by decide +kernel
theorem dX6_makePlan_59 : decode cX6_makePlan 59 = .ok (.istore_n 2, 1) := by decide +kernel
theorem dX6_makePlan_60 : decode cX6_makePlan 60 = .ok (.iload_n 2, 1) := by decide +kernel
theorem dX6_makePlan_61 : decode cX6_makePlan 61 = .ok (.iload_n 1, 1) := by decide +kernel
theorem dX6_makePlan_62 : decode cX6_makePlan 62 = .ok (.if_icmp .ge 14, 3) := by decide +kernel
theorem dX6_makePlan_65 : decode cX6_makePlan 65 = .ok (.aload_n 0, 1) := by decide +kernel
theorem dX6_makePlan_66 : decode cX6_makePlan 66 = .ok (.iload_n 2, 1) := by decide +kernel
theorem dX6_makePlan_67 : decode cX6_makePlan 67 = .ok (.invokevirtual 72, 3) := by decide +kernel
theorem dX6_makePlan_70 : decode cX6_makePlan 70 = .ok (.iinc 2 1, 3) := by decide +kernel
theorem dX6_makePlan_73 : decode cX6_makePlan 73 = .ok (.goto (-13), 3) := by decide +kernel
theorem dX6_makePlan_76 : decode cX6_makePlan 76 = .ok (.aload_n 0, 1) := by decide +kernel
theorem dX6_makePlan_77 : decode cX6_makePlan 77 = .ok (.iload_n 1, 1) := by decide +kernel
theorem dX6_makePlan_78 : decode cX6_makePlan 78 = .ok (.putfield 43, 3) := by decide +kernel
theorem dX6_makePlan_81 : decode cX6_makePlan 81 = .ok (.return_, 1) := by decide +kernel
theorem dX6_reckon_0 : decode cX6_reckon 0 = .ok (.aload_n 0, 1) := by decide +kernel
theorem dX6_reckon_1 : decode cX6_reckon 1 = .ok (.getfield 12, 3) := by decide +kernel
theorem dX6_reckon_4 : decode cX6_reckon 4 = .ok (.aload_n 0, 1) := by decide +kernel
theorem dX6_reckon_5 : decode cX6_reckon 5 = .ok (.getfield 50, 3) := by decide +kernel
theorem dX6_reckon_8 : decode cX6_reckon 8 = .ok (.invokevirtual 75, 3) := by decide +kernel
theorem dX6_reckon_11 : decode cX6_reckon 11 = .ok (.aload_n 0, 1) := by decide +kernel
theorem dX6_reckon_12 : decode cX6_reckon 12 = .ok (.getfield 46, 3) := by decide +kernel
theorem dX6_reckon_15 : decode cX6_reckon 15 = .ok (.invokevirtual 81, 3) := by decide +kernel
theorem dX6_reckon_18 : decode cX6_reckon 18 = .ok (.invokevirtual 86, 3) := by decide +kernel
theorem dX6_reckon_21 : decode cX6_reckon 21 = .ok (.iconst 1, 1) := by decide +kernel
theorem dX6_reckon_22 : decode cX6_reckon 22 = .ok (.istore_n 3, 1) := by decide +kernel
theorem dX6_reckon_23 : decode cX6_reckon 23 = .ok (.iconst 0, 1) := by decide +kernel
theorem dX6_reckon_24 : decode cX6_reckon 24 = .ok (.istore 4, 2) := by decide +kernel
theorem dX6_reckon_26 : decode cX6_reckon 26 = .ok (.iload_n 3, 1) := by decide +kernel
theorem dX6_reckon_27 : decode cX6_reckon 27 = .ok (.ifCond .eq 106, 3) := by decide +kernel
theorem dX6_reckon_30 : decode cX6_reckon 30 = .ok (.iload 4, 2) := by decide +kernel
theorem dX6_reckon_32 : decode cX6_reckon 32 = .ok (.sipush 720, 3) := by decide +kernel
theorem dX6_reckon_35 : decode cX6_reckon 35 = .ok (.if_icmp .ge 98, 3) := by decide +kernel
theorem dX6_reckon_38 : decode cX6_reckon 38 = .ok (.aload_n 0, 1) := by decide +kernel
theorem dX6_reckon_39 : decode cX6_reckon 39 = .ok (.getfield 54, 3) := by decide +kernel
theorem dX6_reckon_42 : decode cX6_reckon 42 = .ok (.iload_n 1, 1) := by decide +kernel
theorem dX6_reckon_43 : decode cX6_reckon 43 = .ok (.aload_n 0, 1) := by decide +kernel
theorem dX6_reckon_44 : decode cX6_reckon 44 = .ok (.getfield 12, 3) := by decide +kernel
theorem dX6_reckon_47 : decode cX6_reckon 47 = .ok (.invokevirtual 90, 3) := by decide +kernel
theorem dX6_reckon_50 : decode cX6_reckon 50 = .ok (.istore 5, 2) := by decide +kernel
theorem dX6_reckon_52 : decode cX6_reckon 52 = .ok (.iload_n 2, 1) := by decide +kernel
theorem dX6_reckon_53 : decode cX6_reckon 53 = .ok (.ifCond .eq 7, 3) := by decide +kernel
theorem dX6_reckon_56 : decode cX6_reckon 56 = .ok (.iconst 0, 1) := by decide +kernel
theorem dX6_reckon_57 : decode cX6_reckon 57 = .ok (.goto 17, 3) := by decide +kernel
theorem dX6_reckon_60 : decode cX6_reckon 60 = .ok (.aload_n 0, 1) := by decide +kernel
theorem dX6_reckon_61 : decode cX6_reckon 61 = .ok (.getfield 33, 3) := by decide +kernel
theorem dX6_reckon_64 : decode cX6_reckon 64 = .ok (.aload_n 0, 1) := by decide +kernel
theorem dX6_reckon_65 : decode cX6_reckon 65 = .ok (.getfield 12, 3) := by decide +kernel
theorem dX6_reckon_68 : decode cX6_reckon 68 = .ok (.invokevirtual 96, 3) := by decide +kernel
theorem dX6_reckon_71 : decode cX6_reckon 71 = .ok (.invokevirtual 58, 3) := by decide +kernel
theorem dX6_reckon_74 : decode cX6_reckon 74 = .ok (.istore 6, 2) := by decide +kernel
theorem dX6_reckon_76 : decode cX6_reckon 76 = .ok (.aload_n 0, 1) := by decide +kernel
theorem dX6_reckon_77 : decode cX6_reckon 77 = .ok (.getfield 29, 3) := by decide +kernel
theorem dX6_reckon_80 : decode cX6_reckon 80 = .ok (.iload_n 1, 1) := by decide +kernel
theorem dX6_reckon_81 : decode cX6_reckon 81 = .ok (.sipush 720, 3) := by decide +kernel
theorem dX6_reckon_84 : decode cX6_reckon 84 = .ok (.imul, 1) := by decide +kernel
theorem dX6_reckon_85 : decode cX6_reckon 85 = .ok (.iload 4, 2) := by decide +kernel
theorem dX6_reckon_87 : decode cX6_reckon 87 = .ok (.iadd, 1) := by decide +kernel
theorem dX6_reckon_88 : decode cX6_reckon 88 = .ok (.iload 5, 2) := by decide +kernel
theorem dX6_reckon_90 : decode cX6_reckon 90 = .ok (.iconst (-1), 1) := by decide +kernel
theorem dX6_reckon_91 : decode cX6_reckon 91 = .ok (.if_icmp .ne 8, 3) := by decide +kernel
theorem dX6_reckon_94 : decode cX6_reckon 94 = .ok (.ldc 99, 2) := by decide +kernel
theorem dX6_reckon_96 : decode cX6_reckon 96 = .ok (.goto 13, 3) := by decide +kernel
theorem dX6_reckon_99 : decode cX6_reckon 99 = .ok (.ldc 99, 2) := by decide +kernel
theorem dX6_reckon_101 : decode cX6_reckon 101 = .ok (.iload 5, 2) := by decide +kernel
theorem dX6_reckon_103 : decode cX6_reckon 103 = .ok (.iload 6, 2) := by decide +kernel
theorem dX6_reckon_105 : decode cX6_reckon 105 = .ok (.iadd, 1) := by decide +kernel
theorem dX6_reckon_106 : decode cX6_reckon 106 = .ok (.invokestatic 100, 3) := by decide +kernel
theorem dX6_reckon_109 : decode cX6_reckon 109 = .ok (.invokevirtual 106, 3) := by decide +kernel
theorem dX6_reckon_112 : decode cX6_reckon 112 = .ok (.aload_n 0, 1) := by decide +kernel
theorem dX6_reckon_113 : decode cX6_reckon 113 = .ok (.getfield 12, 3) := by decide +kernel
theorem dX6_reckon_116 : decode cX6_reckon 116 = .ok (.aload_n 0, 1) := by decide +kernel
theorem dX6_reckon_117 : decode cX6_reckon 117 = .ok (.getfield 46, 3) := by decide +kernel
theorem dX6_reckon_120 : decode cX6_reckon 120 = .ok (.invokevirtual 81, 3) := by decide +kernel
theorem dX6_reckon_123 : decode cX6_reckon 123 = .ok (.invokevirtual 109, 3) := by decide +kernel
theorem dX6_reckon_126 : decode cX6_reckon 126 = .ok (.istore_n 3, 1) := by decide +kernel
theorem dX6_reckon_127 : decode cX6_reckon 127 = .ok (.iinc 4 1, 3) := by decide +kernel
theorem dX6_reckon_130 : decode cX6_reckon 130 = .ok (.goto (-104), 3) := by decide +kernel
theorem dX6_reckon_133 : decode cX6_reckon 133 = .ok (.return_, 1) := by decide +kernel
theorem dX6_stay_0 : decode cX6_stay 0 = .ok (.aload_n 0, 1) := by decide +kernel
theorem dX6_stay_1 : decode cX6_stay 1 = .ok (.invokevirtual 113, 3) := by decide +kernel
theorem dX6_stay_4 : decode cX6_stay 4 = .ok (.istore_n 2, 1) := by decide +kernel
theorem dX6_stay_5 : decode cX6_stay 5 = .ok (.iconst 0, 1) := by decide +kernel
theorem dX6_stay_6 : decode cX6_stay 6 = .ok (.istore_n 3, 1) := by decide +kernel
theorem dX6_stay_7 : decode cX6_stay 7 = .ok (.iload_n 3, 1) := by decide +kernel
theorem dX6_stay_8 : decode cX6_stay 8 = .ok (.iload_n 2, 1) := by decide +kernel
theorem dX6_stay_9 : decode cX6_stay 9 = .ok (.if_icmp .ge 19, 3) := by decide +kernel
theorem dX6_stay_12 : decode cX6_stay 12 = .ok (.aload_n 0, 1) := by decide +kernel
theorem dX6_stay_13 : decode cX6_stay 13 = .ok (.getfield 33, 3) := by decide +kernel
theorem dX6_stay_16 : decode cX6_stay 16 = .ok (.iload_n 3, 1) := by decide +kernel
theorem dX6_stay_17 : decode cX6_stay 17 = .ok (.ldc 99, 2) := by decide +kernel
theorem dX6_stay_19 : decode cX6_stay 19 = .ok (.invokevirtual 106, 3) := by decide +kernel
theorem dX6_stay_22 : decode cX6_stay 22 = .ok (.iinc 3 1, 3) := by decide +kernel
theorem dX6_stay_25 : decode cX6_stay 25 = .ok (.goto (-18), 3) := by decide +kernel
theorem dX6_stay_28 : decode cX6_stay 28 = .ok (.aload_n 0, 1) := by decide +kernel
theorem dX6_stay_29 : decode cX6_stay 29 = .ok (.getfield 12, 3) := by decide +kernel
theorem dX6_stay_32 : decode cX6_stay 32 = .ok (.aload_n 0, 1) := by decide +kernel
theorem dX6_stay_33 : decode cX6_stay 33 = .ok (.getfield 50, 3) := by decide +kernel
theorem dX6_stay_36 : decode cX6_stay 36 = .ok (.invokevirtual 75, 3) := by decide +kernel
theorem dX6_stay_39 : decode cX6_stay 39 = .ok (.aload_n 0, 1) := by decide +kernel
theorem dX6_stay_40 : decode cX6_stay 40 = .ok (.getfield 46, 3) := by decide +kernel
theorem dX6_stay_43 : decode cX6_stay 43 = .ok (.invokevirtual 81, 3) := by decide +kernel
theorem dX6_stay_46 : decode cX6_stay 46 = .ok (.invokevirtual 86, 3) := by decide +kernel
theorem dX6_stay_49 : decode cX6_stay 49 = .ok (.iconst 1, 1) := by decide +kernel
theorem dX6_stay_50 : decode cX6_stay 50 = .ok (.istore_n 3, 1) := by decide +kernel
theorem dX6_stay_51 : decode cX6_stay 51 = .ok (.iconst 0, 1) := by decide +kernel
theorem dX6_stay_52 : decode cX6_stay 52 = .ok (.istore 4, 2) := by decide +kernel
theorem dX6_stay_54 : decode cX6_stay 54 = .ok (.iload_n 3, 1) := by decide +kernel
theorem dX6_stay_55 : decode cX6_stay 55 = .ok (.ifCond .eq 61, 3) := by decide +kernel
theorem dX6_stay_58 : decode cX6_stay 58 = .ok (.iload 4, 2) := by decide +kernel
theorem dX6_stay_60 : decode cX6_stay 60 = .ok (.sipush 720, 3) := by decide +kernel
theorem dX6_stay_63 : decode cX6_stay 63 = .ok (.if_icmp .ge 53, 3) := by decide +kernel
theorem dX6_stay_66 : decode cX6_stay 66 = .ok (.aload_n 0, 1) := by decide +kernel
theorem dX6_stay_67 : decode cX6_stay 67 = .ok (.getfield 33, 3) := by decide +kernel
theorem dX6_stay_70 : decode cX6_stay 70 = .ok (.aload_n 0, 1) := by decide +kernel
theorem dX6_stay_71 : decode cX6_stay 71 = .ok (.getfield 12, 3) := by decide +kernel
theorem dX6_stay_74 : decode cX6_stay 74 = .ok (.invokevirtual 96, 3) := by decide +kernel
theorem dX6_stay_77 : decode cX6_stay 77 = .ok (.aload_n 0, 1) := by decide +kernel
theorem dX6_stay_78 : decode cX6_stay 78 = .ok (.getfield 29, 3) := by decide +kernel
theorem dX6_stay_81 : decode cX6_stay 81 = .ok (.iload_n 1, 1) := by decide +kernel
theorem dX6_stay_82 : decode cX6_stay 82 = .ok (.sipush 720, 3) := by decide +kernel
theorem dX6_stay_85 : decode cX6_stay 85 = .ok (.imul, 1) := by decide +kernel
theorem dX6_stay_86 : decode cX6_stay 86 = .ok (.iload 4, 2) := by decide +kernel
theorem dX6_stay_88 : decode cX6_stay 88 = .ok (.iadd, 1) := by decide +kernel
theorem dX6_stay_89 : decode cX6_stay 89 = .ok (.invokevirtual 58, 3) := by decide +kernel
theorem dX6_stay_92 : decode cX6_stay 92 = .ok (.invokevirtual 106, 3) := by decide +kernel
theorem dX6_stay_95 : decode cX6_stay 95 = .ok (.aload_n 0, 1) := by decide +kernel
theorem dX6_stay_96 : decode cX6_stay 96 = .ok (.getfield 12, 3) := by decide +kernel
theorem dX6_stay_99 : decode cX6_stay 99 = .ok (.aload_n 0, 1) := by decide +kernel
theorem dX6_stay_100 : decode cX6_stay 100 = .ok (.getfield 46, 3) := by decide +kernel
theorem dX6_stay_103 : decode cX6_stay 103 = .ok (.invokevirtual 81, 3) := by decide +kernel
theorem dX6_stay_106 : decode cX6_stay 106 = .ok (.invokevirtual 109, 3) := by decide +kernel
theorem dX6_stay_109 : decode cX6_stay 109 = .ok (.istore_n 3, 1) := by decide +kernel
theorem dX6_stay_110 : decode cX6_stay 110 = .ok (.iinc 4 1, 3) := by decide +kernel
theorem dX6_stay_113 : decode cX6_stay 113 = .ok (.goto (-59), 3) := by decide +kernel
theorem dX6_stay_116 : decode cX6_stay 116 = .ok (.return_, 1) := by decide +kernel
theorem dX6_letAllMove_0 : decode cX6_letAllMove 0 = .ok (.iconst 1, 1) := by decide +kernel
theorem dX6_letAllMove_1 : decode cX6_letAllMove 1 = .ok (.istore_n 1, 1) := by decide +kernel
theorem dX6_letAllMove_2 : decode cX6_letAllMove 2 = .ok (.aload_n 0, 1) := by decide +kernel
theorem dX6_letAllMove_3 : decode cX6_letAllMove 3 = .ok (.invokevirtual 113, 3) := by decide +kernel
theorem dX6_letAllMove_6 : decode cX6_letAllMove 6 = .ok (.bipush 6, 2) := by decide +kernel
theorem dX6_letAllMove_8 : decode cX6_letAllMove 8 = .ok (.idiv, 1) := by decide +kernel
theorem dX6_letAllMove_9 : decode cX6_letAllMove 9 = .ok (.istore_n 2, 1) := by decide +kernel
theorem dX6_letAllMove_10 : decode cX6_letAllMove 10 = .ok (.iconst 0, 1) := by decide +kernel
theorem dX6_letAllMove_11 : decode cX6_letAllMove 11 = .ok (.istore_n 3, 1) := by decide +kernel
theorem dX6_letAllMove_12 : decode cX6_letAllMove 12 = .ok (.iload_n 3, 1) := by decide +kernel
theorem dX6_letAllMove_13 : decode cX6_letAllMove 13 = .ok (.aload_n 0, 1) := by decide +kernel
theorem dX6_letAllMove_14 : decode cX6_letAllMove 14 = .ok (.getfield 50, 3) := by decide +kernel
theorem dX6_letAllMove_17 : decode cX6_letAllMove 17 = .ok (.invokevirtual 75, 3) := by decide +kernel
theorem dX6_letAllMove_20 : decode cX6_letAllMove 20 = .ok (.if_icmp .ge 72, 3) := by decide +kernel
theorem dX6_letAllMove_23 : decode cX6_letAllMove 23 = .ok (.iconst 0, 1) := by decide +kernel
theorem dX6_letAllMove_24 : decode cX6_letAllMove 24 = .ok (.istore 4, 2) := by decide +kernel
theorem dX6_letAllMove_26 : decode cX6_letAllMove 26 = .ok (.iload 4, 2) := by decide +kernel
theorem dX6_letAllMove_28 : decode cX6_letAllMove 28 = .ok (.iload_n 2, 1) := by decide +kernel
theorem dX6_letAllMove_29 : decode cX6_letAllMove 29 = .ok (.if_icmp .ge 47, 3) := by decide +kernel
theorem dX6_letAllMove_32 : decode cX6_letAllMove 32 = .ok (.iconst 0, 1) := by decide +kernel
theorem dX6_letAllMove_33 : decode cX6_letAllMove 33 = .ok (.istore 5, 2) := by decide +kernel
theorem dX6_letAllMove_35 : decode cX6_letAllMove 35 = .ok (.iload 5, 2) := by decide +kernel
theorem dX6_letAllMove_37 : decode cX6_letAllMove 37 = .ok (.iload_n 1, 1) := by decide +kernel
theorem dX6_letAllMove_38 : decode cX6_letAllMove 38 = .ok (.if_icmp .ge 32, 3) := by decide +kernel
theorem dX6_letAllMove_41 : decode cX6_letAllMove 41 = .ok (.aload_n 0, 1) := by decide +kernel
theorem dX6_letAllMove_42 : decode cX6_letAllMove 42 = .ok (.iload 4, 2) := by decide +kernel
theorem dX6_letAllMove_44 : decode cX6_letAllMove 44 = .ok (.iload_n 1, 1) := by decide +kernel
theorem dX6_letAllMove_45 : decode cX6_letAllMove 45 = .ok (.imul, 1) := by decide +kernel
theorem dX6_letAllMove_46 : decode cX6_letAllMove 46 = .ok (.bipush 6, 2) := by decide +kernel
theorem dX6_letAllMove_48 : decode cX6_letAllMove 48 = .ok (.imul, 1) := by decide +kernel
theorem dX6_letAllMove_49 : decode cX6_letAllMove 49 = .ok (.iload 5, 2) := by decide +kernel
theorem dX6_letAllMove_51 : decode cX6_letAllMove 51 = .ok (.iadd, 1) := by decide +kernel
theorem dX6_letAllMove_52 : decode cX6_letAllMove 52 = .ok (.iload_n 1, 1) := by decide +kernel
theorem dX6_letAllMove_53 : decode cX6_letAllMove 53 = .ok (.aload_n 0, 1) := by decide +kernel
theorem dX6_letAllMove_54 : decode cX6_letAllMove 54 = .ok (.getfield 50, 3) := by decide +kernel
theorem dX6_letAllMove_57 : decode cX6_letAllMove 57 = .ok (.iload_n 3, 1) := by decide +kernel
theorem dX6_letAllMove_58 : decode cX6_letAllMove 58 = .ok (.invokevirtual 116, 3) := by decide +kernel
theorem dX6_letAllMove_61 : decode cX6_letAllMove 61 = .ok (.invokevirtual 119, 3) := by decide +kernel
theorem dX6_letAllMove_64 : decode cX6_letAllMove 64 = .ok (.iinc 5 1, 3) := by decide +kernel
theorem dX6_letAllMove_67 : decode cX6_letAllMove 67 = .ok (.goto (-32), 3) := by decide +kernel
theorem dX6_letAllMove_70 : decode cX6_letAllMove 70 = .ok (.iinc 4 1, 3) := by decide +kernel
theorem dX6_letAllMove_73 : decode cX6_letAllMove 73 = .ok (.goto (-47), 3) := by decide +kernel
theorem dX6_letAllMove_76 : decode cX6_letAllMove 76 = .ok (.iload_n 1, 1) := by decide +kernel
theorem dX6_letAllMove_77 : decode cX6_letAllMove 77 = .ok (.bipush 6, 2) := by decide +kernel
theorem dX6_letAllMove_79 : decode cX6_letAllMove 79 = .ok (.imul, 1) := by decide +kernel
theorem dX6_letAllMove_80 : decode cX6_letAllMove 80 = .ok (.istore_n 1, 1) := by decide +kernel
theorem dX6_letAllMove_81 : decode cX6_letAllMove 81 = .ok (.iload_n 2, 1) := by decide +kernel
theorem dX6_letAllMove_82 : decode cX6_letAllMove 82 = .ok (.bipush 6, 2) := by decide +kernel
theorem dX6_letAllMove_84 : decode cX6_letAllMove 84 = .ok (.idiv, 1) := by decide +kernel
theorem dX6_letAllMove_85 : decode cX6_letAllMove 85 = .ok (.istore_n 2, 1) := by decide +kernel
theorem dX6_letAllMove_86 : decode cX6_letAllMove 86 = .ok (.iinc 3 1, 3) := by decide +kernel
theorem dX6_letAllMove_89 : decode cX6_letAllMove 89 = .ok (.goto (-77), 3) := by decide +kernel
theorem dX6_letAllMove_92 : decode cX6_letAllMove 92 = .ok (.return_, 1) := by decide +kernel
theorem dX6_toldEnd_0 : decode cX6_toldEnd 0 = .ok (.iconst 1, 1) := by decide +kernel
theorem dX6_toldEnd_1 : decode cX6_toldEnd 1 = .ok (.istore_n 1, 1) := by decide +kernel
theorem dX6_toldEnd_2 : decode cX6_toldEnd 2 = .ok (.iconst 0, 1) := by decide +kernel
theorem dX6_toldEnd_3 : decode cX6_toldEnd 3 = .ok (.istore_n 2, 1) := by decide +kernel
theorem dX6_toldEnd_4 : decode cX6_toldEnd 4 = .ok (.iload_n 2, 1) := by decide +kernel
theorem dX6_toldEnd_5 : decode cX6_toldEnd 5 = .ok (.aload_n 0, 1) := by decide +kernel
theorem dX6_toldEnd_6 : decode cX6_toldEnd 6 = .ok (.getfield 50, 3) := by decide +kernel
theorem dX6_toldEnd_9 : decode cX6_toldEnd 9 = .ok (.invokevirtual 75, 3) := by decide +kernel
theorem dX6_toldEnd_12 : decode cX6_toldEnd 12 = .ok (.if_icmp .ge 14, 3) := by decide +kernel
theorem dX6_toldEnd_15 : decode cX6_toldEnd 15 = .ok (.iload_n 1, 1) := by decide +kernel
theorem dX6_toldEnd_16 : decode cX6_toldEnd 16 = .ok (.bipush 6, 2) := by decide +kernel
theorem dX6_toldEnd_18 : decode cX6_toldEnd 18 = .ok (.imul, 1) := by decide +kernel
theorem dX6_toldEnd_19 : decode cX6_toldEnd 19 = .ok (.istore_n 1, 1) := by decide +kernel
theorem dX6_toldEnd_20 : decode cX6_toldEnd 20 = .ok (.iinc 2 1, 3) := by decide +kernel
theorem dX6_toldEnd_23 : decode cX6_toldEnd 23 = .ok (.goto (-19), 3) := by decide +kernel
theorem dX6_toldEnd_26 : decode cX6_toldEnd 26 = .ok (.iload_n 1, 1) := by decide +kernel
theorem dX6_toldEnd_27 : decode cX6_toldEnd 27 = .ok (.ireturn, 1) := by decide +kernel
theorem dX6_letMove_0 : decode cX6_letMove 0 = .ok (.ldc 99, 2) := by decide +kernel
theorem dX6_letMove_2 : decode cX6_letMove 2 = .ok (.istore 4, 2) := by decide +kernel
theorem dX6_letMove_4 : decode cX6_letMove 4 = .ok (.iconst 0, 1) := by decide +kernel
theorem dX6_letMove_5 : decode cX6_letMove 5 = .ok (.istore 5, 2) := by decide +kernel
theorem dX6_letMove_7 : decode cX6_letMove 7 = .ok (.iload 5, 2) := by decide +kernel
theorem dX6_letMove_9 : decode cX6_letMove 9 = .ok (.bipush 6, 2) := by decide +kernel
theorem dX6_letMove_11 : decode cX6_letMove 11 = .ok (.if_icmp .ge 29, 3) := by decide +kernel
theorem dX6_letMove_14 : decode cX6_letMove 14 = .ok (.iload 4, 2) := by decide +kernel
theorem dX6_letMove_16 : decode cX6_letMove 16 = .ok (.aload_n 0, 1) := by decide +kernel
theorem dX6_letMove_17 : decode cX6_letMove 17 = .ok (.getfield 33, 3) := by decide +kernel
theorem dX6_letMove_20 : decode cX6_letMove 20 = .ok (.iload_n 1, 1) := by decide +kernel
theorem dX6_letMove_21 : decode cX6_letMove 21 = .ok (.iload 5, 2) := by decide +kernel
theorem dX6_letMove_23 : decode cX6_letMove 23 = .ok (.iload_n 2, 1) := by decide +kernel
theorem dX6_letMove_24 : decode cX6_letMove 24 = .ok (.imul, 1) := by decide +kernel
theorem dX6_letMove_25 : decode cX6_letMove 25 = .ok (.iadd, 1) := by decide +kernel
theorem dX6_letMove_26 : decode cX6_letMove 26 = .ok (.invokevirtual 58, 3) := by decide +kernel
theorem dX6_letMove_29 : decode cX6_letMove 29 = .ok (.invokestatic 100, 3) := by decide +kernel
theorem dX6_letMove_32 : decode cX6_letMove 32 = .ok (.istore 4, 2) := by decide +kernel
theorem dX6_letMove_34 : decode cX6_letMove 34 = .ok (.iinc 5 1, 3) := by decide +kernel
theorem dX6_letMove_37 : decode cX6_letMove 37 = .ok (.goto (-30), 3) := by decide +kernel
theorem dX6_letMove_40 : decode cX6_letMove 40 = .ok (.iconst 0, 1) := by decide +kernel
theorem dX6_letMove_41 : decode cX6_letMove 41 = .ok (.istore 5, 2) := by decide +kernel
theorem dX6_letMove_43 : decode cX6_letMove 43 = .ok (.iload 5, 2) := by decide +kernel
theorem dX6_letMove_45 : decode cX6_letMove 45 = .ok (.bipush 6, 2) := by decide +kernel
theorem dX6_letMove_47 : decode cX6_letMove 47 = .ok (.if_icmp .ge 42, 3) := by decide +kernel
theorem dX6_letMove_50 : decode cX6_letMove 50 = .ok (.iload_n 1, 1) := by decide +kernel
theorem dX6_letMove_51 : decode cX6_letMove 51 = .ok (.iload 5, 2) := by decide +kernel
theorem dX6_letMove_53 : decode cX6_letMove 53 = .ok (.iload_n 2, 1) := by decide +kernel
theorem dX6_letMove_54 : decode cX6_letMove 54 = .ok (.imul, 1) := by decide +kernel
theorem dX6_letMove_55 : decode cX6_letMove 55 = .ok (.iadd, 1) := by decide +kernel
theorem dX6_letMove_56 : decode cX6_letMove 56 = .ok (.istore 6, 2) := by decide +kernel
theorem dX6_letMove_58 : decode cX6_letMove 58 = .ok (.aload_n 0, 1) := by decide +kernel
theorem dX6_letMove_59 : decode cX6_letMove 59 = .ok (.getfield 33, 3) := by decide +kernel
theorem dX6_letMove_62 : decode cX6_letMove 62 = .ok (.iload 6, 2) := by decide +kernel
theorem dX6_letMove_64 : decode cX6_letMove 64 = .ok (.aload_n 0, 1) := by decide +kernel
theorem dX6_letMove_65 : decode cX6_letMove 65 = .ok (.getfield 33, 3) := by decide +kernel
theorem dX6_letMove_68 : decode cX6_letMove 68 = .ok (.iload 6, 2) := by decide +kernel
theorem dX6_letMove_70 : decode cX6_letMove 70 = .ok (.invokevirtual 58, 3) := by decide +kernel
theorem dX6_letMove_73 : decode cX6_letMove 73 = .ok (.iload 4, 2) := by decide +kernel
theorem dX6_letMove_75 : decode cX6_letMove 75 = .ok (.iload_n 3, 1) := by decide +kernel
theorem dX6_letMove_76 : decode cX6_letMove 76 = .ok (.iadd, 1) := by decide +kernel
theorem dX6_letMove_77 : decode cX6_letMove 77 = .ok (.invokestatic 100, 3) := by decide +kernel
theorem dX6_letMove_80 : decode cX6_letMove 80 = .ok (.invokevirtual 106, 3) := by decide +kernel
theorem dX6_letMove_83 : decode cX6_letMove 83 = .ok (.iinc 5 1, 3) := by decide +kernel
theorem dX6_letMove_86 : decode cX6_letMove 86 = .ok (.goto (-43), 3) := by decide +kernel
theorem dX6_letMove_89 : decode cX6_letMove 89 = .ok (.return_, 1) := by decide +kernel
theorem dX6_choose_0 : decode cX6_choose 0 = .ok (.ldc 99, 2) := by decide +kernel
theorem dX6_choose_2 : decode cX6_choose 2 = .ok (.istore_n 2, 1) := by decide +kernel
theorem dX6_choose_3 : decode cX6_choose 3 = .ok (.aload_n 0, 1) := by decide +kernel
theorem dX6_choose_4 : decode cX6_choose 4 = .ok (.getfield 12, 3) := by decide +kernel
theorem dX6_choose_7 : decode cX6_choose 7 = .ok (.aload_n 0, 1) := by decide +kernel
theorem dX6_choose_8 : decode cX6_choose 8 = .ok (.getfield 50, 3) := by decide +kernel
theorem dX6_choose_11 : decode cX6_choose 11 = .ok (.invokevirtual 75, 3) := by decide +kernel
theorem dX6_choose_14 : decode cX6_choose 14 = .ok (.aload_n 0, 1) := by decide +kernel
theorem dX6_choose_15 : decode cX6_choose 15 = .ok (.getfield 46, 3) := by decide +kernel
theorem dX6_choose_18 : decode cX6_choose 18 = .ok (.invokevirtual 81, 3) := by decide +kernel
theorem dX6_choose_21 : decode cX6_choose 21 = .ok (.invokevirtual 86, 3) := by decide +kernel
theorem dX6_choose_24 : decode cX6_choose 24 = .ok (.iconst 1, 1) := by decide +kernel
theorem dX6_choose_25 : decode cX6_choose 25 = .ok (.istore_n 3, 1) := by decide +kernel
theorem dX6_choose_26 : decode cX6_choose 26 = .ok (.iconst 0, 1) := by decide +kernel
theorem dX6_choose_27 : decode cX6_choose 27 = .ok (.istore 4, 2) := by decide +kernel
theorem dX6_choose_29 : decode cX6_choose 29 = .ok (.iload_n 3, 1) := by decide +kernel
theorem dX6_choose_30 : decode cX6_choose 30 = .ok (.ifCond .eq 97, 3) := by decide +kernel
theorem dX6_choose_33 : decode cX6_choose 33 = .ok (.iload 4, 2) := by decide +kernel
theorem dX6_choose_35 : decode cX6_choose 35 = .ok (.sipush 720, 3) := by decide +kernel
theorem dX6_choose_38 : decode cX6_choose 38 = .ok (.if_icmp .ge 89, 3) := by decide +kernel
theorem dX6_choose_41 : decode cX6_choose 41 = .ok (.iload_n 1, 1) := by decide +kernel
theorem dX6_choose_42 : decode cX6_choose 42 = .ok (.ifCond .ne 7, 3) := by decide +kernel
theorem dX6_choose_45 : decode cX6_choose 45 = .ok (.iconst 0, 1) := by decide +kernel
theorem dX6_choose_46 : decode cX6_choose 46 = .ok (.goto 18, 3) := by decide +kernel
theorem dX6_choose_49 : decode cX6_choose 49 = .ok (.aload_n 0, 1) := by decide +kernel
theorem dX6_choose_50 : decode cX6_choose 50 = .ok (.getfield 50, 3) := by decide +kernel
theorem dX6_choose_53 : decode cX6_choose 53 = .ok (.aload_n 0, 1) := by decide +kernel
theorem dX6_choose_54 : decode cX6_choose 54 = .ok (.getfield 18, 3) := by decide +kernel
theorem dX6_choose_57 : decode cX6_choose 57 = .ok (.aload_n 0, 1) := by decide +kernel
theorem dX6_choose_58 : decode cX6_choose 58 = .ok (.getfield 12, 3) := by decide +kernel
theorem dX6_choose_61 : decode cX6_choose 61 = .ok (.invokevirtual 123, 3) := by decide +kernel
theorem dX6_choose_64 : decode cX6_choose 64 = .ok (.istore 5, 2) := by decide +kernel
theorem dX6_choose_66 : decode cX6_choose 66 = .ok (.aload_n 0, 1) := by decide +kernel
theorem dX6_choose_67 : decode cX6_choose 67 = .ok (.getfield 29, 3) := by decide +kernel
theorem dX6_choose_70 : decode cX6_choose 70 = .ok (.iload_n 1, 1) := by decide +kernel
theorem dX6_choose_71 : decode cX6_choose 71 = .ok (.sipush 720, 3) := by decide +kernel
theorem dX6_choose_74 : decode cX6_choose 74 = .ok (.imul, 1) := by decide +kernel
theorem dX6_choose_75 : decode cX6_choose 75 = .ok (.iload 4, 2) := by decide +kernel
theorem dX6_choose_77 : decode cX6_choose 77 = .ok (.iadd, 1) := by decide +kernel
theorem dX6_choose_78 : decode cX6_choose 78 = .ok (.invokevirtual 58, 3) := by decide +kernel
theorem dX6_choose_81 : decode cX6_choose 81 = .ok (.iload 5, 2) := by decide +kernel
theorem dX6_choose_83 : decode cX6_choose 83 = .ok (.iadd, 1) := by decide +kernel
theorem dX6_choose_84 : decode cX6_choose 84 = .ok (.istore 6, 2) := by decide +kernel
theorem dX6_choose_86 : decode cX6_choose 86 = .ok (.iload 6, 2) := by decide +kernel
theorem dX6_choose_88 : decode cX6_choose 88 = .ok (.iload_n 2, 1) := by decide +kernel
theorem dX6_choose_89 : decode cX6_choose 89 = .ok (.if_icmp .ge 17, 3) := by decide +kernel
theorem dX6_choose_92 : decode cX6_choose 92 = .ok (.iload 6, 2) := by decide +kernel
theorem dX6_choose_94 : decode cX6_choose 94 = .ok (.istore_n 2, 1) := by decide +kernel
theorem dX6_choose_95 : decode cX6_choose 95 = .ok (.aload_n 0, 1) := by decide +kernel
theorem dX6_choose_96 : decode cX6_choose 96 = .ok (.getfield 21, 3) := by decide +kernel
theorem dX6_choose_99 : decode cX6_choose 99 = .ok (.aload_n 0, 1) := by decide +kernel
theorem dX6_choose_100 : decode cX6_choose 100 = .ok (.getfield 12, 3) := by decide +kernel
theorem dX6_choose_103 : decode cX6_choose 103 = .ok (.invokevirtual 127, 3) := by decide +kernel
theorem dX6_choose_106 : decode cX6_choose 106 = .ok (.aload_n 0, 1) := by decide +kernel
theorem dX6_choose_107 : decode cX6_choose 107 = .ok (.getfield 12, 3) := by decide +kernel
theorem dX6_choose_110 : decode cX6_choose 110 = .ok (.aload_n 0, 1) := by decide +kernel
theorem dX6_choose_111 : decode cX6_choose 111 = .ok (.getfield 46, 3) := by decide +kernel
theorem dX6_choose_114 : decode cX6_choose 114 = .ok (.invokevirtual 81, 3) := by decide +kernel
theorem dX6_choose_117 : decode cX6_choose 117 = .ok (.invokevirtual 109, 3) := by decide +kernel
theorem dX6_choose_120 : decode cX6_choose 120 = .ok (.istore_n 3, 1) := by decide +kernel
theorem dX6_choose_121 : decode cX6_choose 121 = .ok (.iinc 4 1, 3) := by decide +kernel
theorem dX6_choose_124 : decode cX6_choose 124 = .ok (.goto (-95), 3) := by decide +kernel
theorem dX6_choose_127 : decode cX6_choose 127 = .ok (.iload_n 1, 1) := by decide +kernel
theorem dX6_choose_128 : decode cX6_choose 128 = .ok (.ifCond .ne 14, 3) := by decide +kernel
theorem dX6_choose_131 : decode cX6_choose 131 = .ok (.iload_n 2, 1) := by decide +kernel
theorem dX6_choose_132 : decode cX6_choose 132 = .ok (.ldc 99, 2) := by decide +kernel
theorem dX6_choose_134 : decode cX6_choose 134 = .ok (.if_icmp .ge 8, 3) := by decide +kernel
theorem dX6_choose_137 : decode cX6_choose 137 = .ok (.aload_n 0, 1) := by decide +kernel
theorem dX6_choose_138 : decode cX6_choose 138 = .ok (.iload_n 2, 1) := by decide +kernel
theorem dX6_choose_139 : decode cX6_choose 139 = .ok (.putfield 39, 3) := by decide +kernel
theorem dX6_choose_142 : decode cX6_choose 142 = .ok (.aload_n 0, 1) := by decide +kernel
theorem dX6_choose_143 : decode cX6_choose 143 = .ok (.getfield 36, 3) := by decide +kernel
theorem dX6_choose_146 : decode cX6_choose 146 = .ok (.iload_n 1, 1) := by decide +kernel
theorem dX6_choose_147 : decode cX6_choose 147 = .ok (.aload_n 0, 1) := by decide +kernel
theorem dX6_choose_148 : decode cX6_choose 148 = .ok (.getfield 21, 3) := by decide +kernel
theorem dX6_choose_151 : decode cX6_choose 151 = .ok (.invokevirtual 96, 3) := by decide +kernel
theorem dX6_choose_154 : decode cX6_choose 154 = .ok (.invokevirtual 106, 3) := by decide +kernel
theorem dX6_choose_157 : decode cX6_choose 157 = .ok (.aload_n 0, 1) := by decide +kernel
theorem dX6_choose_158 : decode cX6_choose 158 = .ok (.getfield 18, 3) := by decide +kernel
theorem dX6_choose_161 : decode cX6_choose 161 = .ok (.aload_n 0, 1) := by decide +kernel
theorem dX6_choose_162 : decode cX6_choose 162 = .ok (.getfield 21, 3) := by decide +kernel
theorem dX6_choose_165 : decode cX6_choose 165 = .ok (.invokevirtual 127, 3) := by decide +kernel
theorem dX6_choose_168 : decode cX6_choose 168 = .ok (.return_, 1) := by decide +kernel
theorem dX7_init_0 : decode cX7_init 0 = .ok (.aload_n 0, 1) := by decide +kernel
theorem dX7_init_1 : decode cX7_init 1 = .ok (.invokespecial 1, 3) := by decide +kernel
theorem dX7_init_4 : decode cX7_init 4 = .ok (.aload_n 0, 1) := by decide +kernel
theorem dX7_init_5 : decode cX7_init 5 = .ok (.iload_n 1, 1) := by decide +kernel
theorem dX7_init_6 : decode cX7_init 6 = .ok (.ifCond .ge 7, 3) := by decide +kernel
theorem dX7_init_9 : decode cX7_init 9 = .ok (.iconst 0, 1) := by decide +kernel
theorem dX7_init_10 : decode cX7_init 10 = .ok (.goto 4, 3) := by decide +kernel
theorem dX7_init_13 : decode cX7_init 13 = .ok (.iload_n 1, 1) := by decide +kernel
theorem dX7_init_14 : decode cX7_init 14 = .ok (.newarray .int, 2) := by decide +kernel
theorem dX7_init_16 : decode cX7_init 16 = .ok (.putfield 7, 3) := by decide +kernel
theorem dX7_init_19 : decode cX7_init 19 = .ok (.return_, 1) := by decide +kernel
theorem dX7_get_0 : decode cX7_get 0 = .ok (.iload_n 1, 1) := by decide +kernel
theorem dX7_get_1 : decode cX7_get 1 = .ok (.ifCond .lt 12, 3) := by decide +kernel
theorem dX7_get_4 : decode cX7_get 4 = .ok (.iload_n 1, 1) := by decide +kernel
theorem dX7_get_5 : decode cX7_get 5 = .ok (.aload_n 0, 1) := by decide +kernel
theorem dX7_get_6 : decode cX7_get 6 = .ok (.getfield 7, 3) := by decide +kernel
theorem dX7_get_9 : decode cX7_get 9 = .ok (.arraylength, 1) := by decide +kernel
theorem dX7_get_10 : decode cX7_get 10 = .ok (.if_icmp .lt 7, 3) := by decide +kernel
theorem dX7_get_13 : decode cX7_get 13 = .ok (.iconst 0, 1) := by decide +kernel
theorem dX7_get_14 : decode cX7_get 14 = .ok (.goto 9, 3) := by decide +kernel
theorem dX7_get_17 : decode cX7_get 17 = .ok (.aload_n 0, 1) := by decide +kernel
theorem dX7_get_18 : decode cX7_get 18 = .ok (.getfield 7, 3) := by decide +kernel
theorem dX7_get_21 : decode cX7_get 21 = .ok (.iload_n 1, 1) := by decide +kernel
theorem dX7_get_22 : decode cX7_get 22 = .ok (.iaload, 1) := by decide +kernel
theorem dX7_get_23 : decode cX7_get 23 = .ok (.ireturn, 1) := by decide +kernel
theorem dX7_set_0 : decode cX7_set 0 = .ok (.iload_n 1, 1) := by decide +kernel
theorem dX7_set_1 : decode cX7_set 1 = .ok (.ifCond .lt 19, 3) := by decide +kernel
theorem dX7_set_4 : decode cX7_set 4 = .ok (.iload_n 1, 1) := by decide +kernel
theorem dX7_set_5 : decode cX7_set 5 = .ok (.aload_n 0, 1) := by decide +kernel
theorem dX7_set_6 : decode cX7_set 6 = .ok (.getfield 7, 3) := by decide +kernel
theorem dX7_set_9 : decode cX7_set 9 = .ok (.arraylength, 1) := by decide +kernel
theorem dX7_set_10 : decode cX7_set 10 = .ok (.if_icmp .ge 10, 3) := by decide +kernel
theorem dX7_set_13 : decode cX7_set 13 = .ok (.aload_n 0, 1) := by decide +kernel
theorem dX7_set_14 : decode cX7_set 14 = .ok (.getfield 7, 3) := by decide +kernel
theorem dX7_set_17 : decode cX7_set 17 = .ok (.iload_n 1, 1) := by decide +kernel
theorem dX7_set_18 : decode cX7_set 18 = .ok (.iload_n 2, 1) := by decide +kernel
theorem dX7_set_19 : decode cX7_set 19 = .ok (.iastore, 1) := by decide +kernel
theorem dX7_set_20 : decode cX7_set 20 = .ok (.return_, 1) := by decide +kernel
theorem dX8_init_0 : decode cX8_init 0 = .ok (.aload_n 0, 1) := by decide +kernel
theorem dX8_init_1 : decode cX8_init 1 = .ok (.invokespecial 3, 3) := by decide +kernel
theorem dX8_init_4 : decode cX8_init 4 = .ok (.aload_n 0, 1) := by decide +kernel
theorem dX8_init_5 : decode cX8_init 5 = .ok (.new 9, 3) := by decide +kernel
theorem dX8_init_8 : decode cX8_init 8 = .ok (.dup, 1) := by decide +kernel
theorem dX8_init_9 : decode cX8_init 9 = .ok (.iconst 5, 1) := by decide +kernel
theorem dX8_init_10 : decode cX8_init 10 = .ok (.invokespecial 11, 3) := by decide +kernel
theorem dX8_init_13 : decode cX8_init 13 = .ok (.putfield 14, 3) := by decide +kernel
theorem dX8_init_16 : decode cX8_init 16 = .ok (.aload_n 0, 1) := by decide +kernel
theorem dX8_init_17 : decode cX8_init 17 = .ok (.iconst 0, 1) := by decide +kernel
theorem dX8_init_18 : decode cX8_init 18 = .ok (.putfield 20, 3) := by decide +kernel
theorem dX8_init_21 : decode cX8_init 21 = .ok (.return_, 1) := by decide +kernel
theorem dX8_shops_0 : decode cX8_shops 0 = .ok (.aload_n 0, 1) := by decide +kernel
theorem dX8_shops_1 : decode cX8_shops 1 = .ok (.getfield 20, 3) := by decide +kernel
theorem dX8_shops_4 : decode cX8_shops 4 = .ok (.ireturn, 1) := by decide +kernel
theorem dX8_at_0 : decode cX8_at 0 = .ok (.aload_n 0, 1) := by decide +kernel
theorem dX8_at_1 : decode cX8_at 1 = .ok (.getfield 14, 3) := by decide +kernel
theorem dX8_at_4 : decode cX8_at 4 = .ok (.iload_n 1, 1) := by decide +kernel
theorem dX8_at_5 : decode cX8_at 5 = .ok (.invokevirtual 24, 3) := by decide +kernel
theorem dX8_at_8 : decode cX8_at 8 = .ok (.ireturn, 1) := by decide +kernel
theorem dX8_seat_0 : decode cX8_seat 0 = .ok (.aload_n 0, 1) := by decide +kernel
theorem dX8_seat_1 : decode cX8_seat 1 = .ok (.getfield 14, 3) := by decide +kernel
theorem dX8_seat_4 : decode cX8_seat 4 = .ok (.iload_n 1, 1) := by decide +kernel
theorem dX8_seat_5 : decode cX8_seat 5 = .ok (.iload_n 2, 1) := by decide +kernel
theorem dX8_seat_6 : decode cX8_seat 6 = .ok (.invokevirtual 28, 3) := by decide +kernel
theorem dX8_seat_9 : decode cX8_seat 9 = .ok (.return_, 1) := by decide +kernel
theorem dX8_copy_0 : decode cX8_copy 0 = .ok (.aload_n 0, 1) := by decide +kernel
theorem dX8_copy_1 : decode cX8_copy 1 = .ok (.aload_n 1, 1) := by decide +kernel
theorem dX8_copy_2 : decode cX8_copy 2 = .ok (.getfield 20, 3) := by decide +kernel
theorem dX8_copy_5 : decode cX8_copy 5 = .ok (.putfield 20, 3) := by decide +kernel
theorem dX8_copy_8 : decode cX8_copy 8 = .ok (.iconst 0, 1) := by decide +kernel
theorem dX8_copy_9 : decode cX8_copy 9 = .ok (.istore_n 2, 1) := by decide +kernel
theorem dX8_copy_10 : decode cX8_copy 10 = .ok (.iload_n 2, 1) := by decide +kernel
theorem dX8_copy_11 : decode cX8_copy 11 = .ok (.aload_n 0, 1) := by decide +kernel
theorem dX8_copy_12 : decode cX8_copy 12 = .ok (.getfield 20, 3) := by decide +kernel
theorem dX8_copy_15 : decode cX8_copy 15 = .ok (.if_icmp .ge 25, 3) := by decide +kernel
theorem dX8_copy_18 : decode cX8_copy 18 = .ok (.aload_n 0, 1) := by decide +kernel
theorem dX8_copy_19 : decode cX8_copy 19 = .ok (.getfield 14, 3) := by decide +kernel
theorem dX8_copy_22 : decode cX8_copy 22 = .ok (.iload_n 2, 1) := by decide +kernel
theorem dX8_copy_23 : decode cX8_copy 23 = .ok (.aload_n 1, 1) := by decide +kernel
theorem dX8_copy_24 : decode cX8_copy 24 = .ok (.getfield 14, 3) := by decide +kernel
theorem dX8_copy_27 : decode cX8_copy 27 = .ok (.iload_n 2, 1) := by decide +kernel
theorem dX8_copy_28 : decode cX8_copy 28 = .ok (.invokevirtual 24, 3) := by decide +kernel
theorem dX8_copy_31 : decode cX8_copy 31 = .ok (.invokevirtual 28, 3) := by decide +kernel
theorem dX8_copy_34 : decode cX8_copy 34 = .ok (.iinc 2 1, 3) := by decide +kernel
theorem dX8_copy_37 : decode cX8_copy 37 = .ok (.goto (-27), 3) := by decide +kernel
theorem dX8_copy_40 : decode cX8_copy 40 = .ok (.return_, 1) := by decide +kernel
theorem dX8_whoIsAt_0 : decode cX8_whoIsAt 0 = .ok (.iconst 0, 1) := by decide +kernel
theorem dX8_whoIsAt_1 : decode cX8_whoIsAt 1 = .ok (.istore_n 3, 1) := by decide +kernel
theorem dX8_whoIsAt_2 : decode cX8_whoIsAt 2 = .ok (.iload_n 3, 1) := by decide +kernel
theorem dX8_whoIsAt_3 : decode cX8_whoIsAt 3 = .ok (.iload_n 2, 1) := by decide +kernel
theorem dX8_whoIsAt_4 : decode cX8_whoIsAt 4 = .ok (.if_icmp .ge 23, 3) := by decide +kernel
theorem dX8_whoIsAt_7 : decode cX8_whoIsAt 7 = .ok (.aload_n 0, 1) := by decide +kernel
theorem dX8_whoIsAt_8 : decode cX8_whoIsAt 8 = .ok (.getfield 14, 3) := by decide +kernel
theorem dX8_whoIsAt_11 : decode cX8_whoIsAt 11 = .ok (.iload_n 3, 1) := by decide +kernel
theorem dX8_whoIsAt_12 : decode cX8_whoIsAt 12 = .ok (.invokevirtual 24, 3) := by decide +kernel
theorem dX8_whoIsAt_15 : decode cX8_whoIsAt 15 = .ok (.iload_n 1, 1) := by decide +kernel
theorem dX8_whoIsAt_16 : decode cX8_whoIsAt 16 = .ok (.if_icmp .ne 5, 3) := by decide +kernel
theorem dX8_whoIsAt_19 : decode cX8_whoIsAt 19 = .ok (.iload_n 3, 1) := by decide +kernel
theorem dX8_whoIsAt_20 : decode cX8_whoIsAt 20 = .ok (.ireturn, 1) := by decide +kernel
theorem dX8_whoIsAt_21 : decode cX8_whoIsAt 21 = .ok (.iinc 3 1, 3) := by decide +kernel
theorem dX8_whoIsAt_24 : decode cX8_whoIsAt 24 = .ok (.goto (-22), 3) := by decide +kernel
theorem dX8_whoIsAt_27 : decode cX8_whoIsAt 27 = .ok (.iconst (-1), 1) := by decide +kernel
theorem dX8_whoIsAt_28 : decode cX8_whoIsAt 28 = .ok (.ireturn, 1) := by decide +kernel
theorem dX8_addShop_0 : decode cX8_addShop 0 = .ok (.aload_n 0, 1) := by decide +kernel
theorem dX8_addShop_1 : decode cX8_addShop 1 = .ok (.dup, 1) := by decide +kernel
theorem dX8_addShop_2 : decode cX8_addShop 2 = .ok (.getfield 20, 3) := by decide +kernel
theorem dX8_addShop_5 : decode cX8_addShop 5 = .ok (.iconst 1, 1) := by decide +kernel
theorem dX8_addShop_6 : decode cX8_addShop 6 = .ok (.iadd, 1) := by decide +kernel
theorem dX8_addShop_7 : decode cX8_addShop 7 = .ok (.putfield 20, 3) := by decide +kernel
theorem dX8_addShop_10 : decode cX8_addShop 10 = .ok (.aload_n 0, 1) := by decide +kernel
theorem dX8_addShop_11 : decode cX8_addShop 11 = .ok (.aload_n 0, 1) := by decide +kernel
theorem dX8_addShop_12 : decode cX8_addShop 12 = .ok (.getfield 20, 3) := by decide +kernel
theorem dX8_addShop_15 : decode cX8_addShop 15 = .ok (.iconst 1, 1) := by decide +kernel
theorem dX8_addShop_16 : decode cX8_addShop 16 = .ok (.isub, 1) := by decide +kernel
theorem dX8_addShop_17 : decode cX8_addShop 17 = .ok (.iconst (-1), 1) := by decide +kernel
theorem dX8_addShop_18 : decode cX8_addShop 18 = .ok (.iload_n 1, 1) := by decide +kernel
theorem dX8_addShop_19 : decode cX8_addShop 19 = .ok (.invokevirtual 32, 3) := by decide +kernel
theorem dX8_addShop_22 : decode cX8_addShop 22 = .ok (.pop, 1) := by decide +kernel
theorem dX8_addShop_23 : decode cX8_addShop 23 = .ok (.return_, 1) := by decide +kernel
theorem dX8_seatBehind_0 : decode cX8_seatBehind 0 = .ok (.iload_n 2, 1) := by decide +kernel
theorem dX8_seatBehind_1 : decode cX8_seatBehind 1 = .ok (.iconst 1, 1) := by decide +kernel
theorem dX8_seatBehind_2 : decode cX8_seatBehind 2 = .ok (.iadd, 1) := by decide +kernel
theorem dX8_seatBehind_3 : decode cX8_seatBehind 3 = .ok (.istore 4, 2) := by decide +kernel
theorem dX8_seatBehind_5 : decode cX8_seatBehind 5 = .ok (.iload 4, 2) := by decide +kernel
theorem dX8_seatBehind_7 : decode cX8_seatBehind 7 = .ok (.iload_n 3, 1) := by decide +kernel
theorem dX8_seatBehind_8 : decode cX8_seatBehind 8 = .ok (.if_icmp .ge 32, 3) := by decide +kernel
theorem dX8_seatBehind_11 : decode cX8_seatBehind 11 = .ok (.aload_n 0, 1) := by decide +kernel
theorem dX8_seatBehind_12 : decode cX8_seatBehind 12 = .ok (.iload 4, 2) := by decide +kernel
theorem dX8_seatBehind_14 : decode cX8_seatBehind 14 = .ok (.iload_n 1, 1) := by decide +kernel
theorem dX8_seatBehind_15 : decode cX8_seatBehind 15 = .ok (.invokevirtual 36, 3) := by decide +kernel
theorem dX8_seatBehind_18 : decode cX8_seatBehind 18 = .ok (.iconst (-1), 1) := by decide +kernel
theorem dX8_seatBehind_19 : decode cX8_seatBehind 19 = .ok (.if_icmp .ne 15, 3) := by decide +kernel
theorem dX8_seatBehind_22 : decode cX8_seatBehind 22 = .ok (.aload_n 0, 1) := by decide +kernel
theorem dX8_seatBehind_23 : decode cX8_seatBehind 23 = .ok (.getfield 14, 3) := by decide +kernel
theorem dX8_seatBehind_26 : decode cX8_seatBehind 26 = .ok (.iload_n 1, 1) := by decide +kernel
theorem dX8_seatBehind_27 : decode cX8_seatBehind 27 = .ok (.iload 4, 2) := by decide +kernel
theorem dX8_seatBehind_29 : decode cX8_seatBehind 29 = .ok (.invokevirtual 28, 3) := by decide +kernel
theorem dX8_seatBehind_32 : decode cX8_seatBehind 32 = .ok (.iconst 1, 1) := by decide +kernel
theorem dX8_seatBehind_33 : decode cX8_seatBehind 33 = .ok (.ireturn, 1) := by decide +kernel
theorem dX8_seatBehind_34 : decode cX8_seatBehind 34 = .ok (.iinc 4 1, 3) := by decide +kernel
theorem dX8_seatBehind_37 : decode cX8_seatBehind 37 = .ok (.goto (-32), 3) := by decide +kernel
theorem dX8_seatBehind_40 : decode cX8_seatBehind 40 = .ok (.iconst 0, 1) := by decide +kernel
theorem dX8_seatBehind_41 : decode cX8_seatBehind 41 = .ok (.ireturn, 1) := by decide +kernel
theorem dX8_told_0 : decode cX8_told 0 = .ok (.iconst 0, 1) := by decide +kernel
theorem dX8_told_1 : decode cX8_told 1 = .ok (.istore_n 1, 1) := by decide +kernel
theorem dX8_told_2 : decode cX8_told 2 = .ok (.aload_n 0, 1) := by decide +kernel
theorem dX8_told_3 : decode cX8_told 3 = .ok (.getfield 20, 3) := by decide +kernel
theorem dX8_told_6 : decode cX8_told 6 = .ok (.iconst 1, 1) := by decide +kernel
theorem dX8_told_7 : decode cX8_told 7 = .ok (.isub, 1) := by decide +kernel
theorem dX8_told_8 : decode cX8_told 8 = .ok (.istore_n 2, 1) := by decide +kernel
theorem dX8_told_9 : decode cX8_told 9 = .ok (.iload_n 2, 1) := by decide +kernel
theorem dX8_told_10 : decode cX8_told 10 = .ok (.ifCond .lt 23, 3) := by decide +kernel
theorem dX8_told_13 : decode cX8_told 13 = .ok (.iload_n 1, 1) := by decide +kernel
theorem dX8_told_14 : decode cX8_told 14 = .ok (.bipush 6, 2) := by decide +kernel
theorem dX8_told_16 : decode cX8_told 16 = .ok (.imul, 1) := by decide +kernel
theorem dX8_told_17 : decode cX8_told 17 = .ok (.aload_n 0, 1) := by decide +kernel
theorem dX8_told_18 : decode cX8_told 18 = .ok (.getfield 14, 3) := by decide +kernel
theorem dX8_told_21 : decode cX8_told 21 = .ok (.iload_n 2, 1) := by decide +kernel
theorem dX8_told_22 : decode cX8_told 22 = .ok (.invokevirtual 24, 3) := by decide +kernel
theorem dX8_told_25 : decode cX8_told 25 = .ok (.iadd, 1) := by decide +kernel
theorem dX8_told_26 : decode cX8_told 26 = .ok (.istore_n 1, 1) := by decide +kernel
theorem dX8_told_27 : decode cX8_told 27 = .ok (.iinc 2 (-1), 3) := by decide +kernel
theorem dX8_told_30 : decode cX8_told 30 = .ok (.goto (-21), 3) := by decide +kernel
theorem dX8_told_33 : decode cX8_told 33 = .ok (.iload_n 1, 1) := by decide +kernel
theorem dX8_told_34 : decode cX8_told 34 = .ok (.ireturn, 1) := by decide +kernel
theorem dX8_read_0 : decode cX8_read 0 = .ok (.iload_n 1, 1) := by decide +kernel
theorem dX8_read_1 : decode cX8_read 1 = .ok (.istore 4, 2) := by decide +kernel
theorem dX8_read_3 : decode cX8_read 3 = .ok (.aload_n 0, 1) := by decide +kernel
theorem dX8_read_4 : decode cX8_read 4 = .ok (.iconst 0, 1) := by decide +kernel
theorem dX8_read_5 : decode cX8_read 5 = .ok (.putfield 20, 3) := by decide +kernel
theorem dX8_read_8 : decode cX8_read 8 = .ok (.aload_n 0, 1) := by decide +kernel
theorem dX8_read_9 : decode cX8_read 9 = .ok (.getfield 20, 3) := by decide +kernel
theorem dX8_read_12 : decode cX8_read 12 = .ok (.iload_n 2, 1) := by decide +kernel
theorem dX8_read_13 : decode cX8_read 13 = .ok (.if_icmp .ge 70, 3) := by decide +kernel
theorem dX8_read_16 : decode cX8_read 16 = .ok (.iload 4, 2) := by decide +kernel
theorem dX8_read_18 : decode cX8_read 18 = .ok (.bipush 6, 2) := by decide +kernel
theorem dX8_read_20 : decode cX8_read 20 = .ok (.irem, 1) := by decide +kernel
theorem dX8_read_21 : decode cX8_read 21 = .ok (.istore 5, 2) := by decide +kernel
theorem dX8_read_23 : decode cX8_read 23 = .ok (.iload 5, 2) := by decide +kernel
theorem dX8_read_25 : decode cX8_read 25 = .ok (.ifCond .lt 23, 3) := by decide +kernel
theorem dX8_read_28 : decode cX8_read 28 = .ok (.iload 5, 2) := by decide +kernel
theorem dX8_read_30 : decode cX8_read 30 = .ok (.iload_n 3, 1) := by decide +kernel
theorem dX8_read_31 : decode cX8_read 31 = .ok (.if_icmp .ge 17, 3) := by decide +kernel
theorem dX8_read_34 : decode cX8_read 34 = .ok (.aload_n 0, 1) := by decide +kernel
theorem dX8_read_35 : decode cX8_read 35 = .ok (.iload 5, 2) := by decide +kernel
theorem dX8_read_37 : decode cX8_read 37 = .ok (.aload_n 0, 1) := by decide +kernel
theorem dX8_read_38 : decode cX8_read 38 = .ok (.getfield 20, 3) := by decide +kernel
theorem dX8_read_41 : decode cX8_read 41 = .ok (.invokevirtual 36, 3) := by decide +kernel
theorem dX8_read_44 : decode cX8_read 44 = .ok (.iconst (-1), 1) := by decide +kernel
theorem dX8_read_45 : decode cX8_read 45 = .ok (.if_icmp .eq 5, 3) := by decide +kernel
theorem dX8_read_48 : decode cX8_read 48 = .ok (.iconst 0, 1) := by decide +kernel
theorem dX8_read_49 : decode cX8_read 49 = .ok (.ireturn, 1) := by decide +kernel
theorem dX8_read_50 : decode cX8_read 50 = .ok (.aload_n 0, 1) := by decide +kernel
theorem dX8_read_51 : decode cX8_read 51 = .ok (.getfield 14, 3) := by decide +kernel
theorem dX8_read_54 : decode cX8_read 54 = .ok (.aload_n 0, 1) := by decide +kernel
theorem dX8_read_55 : decode cX8_read 55 = .ok (.getfield 20, 3) := by decide +kernel
theorem dX8_read_58 : decode cX8_read 58 = .ok (.iload 5, 2) := by decide +kernel
theorem dX8_read_60 : decode cX8_read 60 = .ok (.invokevirtual 28, 3) := by decide +kernel
theorem dX8_read_63 : decode cX8_read 63 = .ok (.iload 4, 2) := by decide +kernel
theorem dX8_read_65 : decode cX8_read 65 = .ok (.bipush 6, 2) := by decide +kernel
theorem dX8_read_67 : decode cX8_read 67 = .ok (.idiv, 1) := by decide +kernel
theorem dX8_read_68 : decode cX8_read 68 = .ok (.istore 4, 2) := by decide +kernel
theorem dX8_read_70 : decode cX8_read 70 = .ok (.aload_n 0, 1) := by decide +kernel
theorem dX8_read_71 : decode cX8_read 71 = .ok (.dup, 1) := by decide +kernel
theorem dX8_read_72 : decode cX8_read 72 = .ok (.getfield 20, 3) := by decide +kernel
theorem dX8_read_75 : decode cX8_read 75 = .ok (.iconst 1, 1) := by decide +kernel
theorem dX8_read_76 : decode cX8_read 76 = .ok (.iadd, 1) := by decide +kernel
theorem dX8_read_77 : decode cX8_read 77 = .ok (.putfield 20, 3) := by decide +kernel
theorem dX8_read_80 : decode cX8_read 80 = .ok (.goto (-72), 3) := by decide +kernel
theorem dX8_read_83 : decode cX8_read 83 = .ok (.iload 4, 2) := by decide +kernel
theorem dX8_read_85 : decode cX8_read 85 = .ok (.ifCond .ne 7, 3) := by decide +kernel
theorem dX8_read_88 : decode cX8_read 88 = .ok (.iconst 1, 1) := by decide +kernel
theorem dX8_read_89 : decode cX8_read 89 = .ok (.goto 4, 3) := by decide +kernel
theorem dX8_read_92 : decode cX8_read 92 = .ok (.iconst 0, 1) := by decide +kernel
theorem dX8_read_93 : decode cX8_read 93 = .ok (.ireturn, 1) := by decide +kernel
theorem dX8_begin_0 : decode cX8_begin 0 = .ok (.aload_n 0, 1) := by decide +kernel
theorem dX8_begin_1 : decode cX8_begin 1 = .ok (.iload_n 1, 1) := by decide +kernel
theorem dX8_begin_2 : decode cX8_begin 2 = .ok (.putfield 20, 3) := by decide +kernel
theorem dX8_begin_5 : decode cX8_begin 5 = .ok (.iconst 0, 1) := by decide +kernel
theorem dX8_begin_6 : decode cX8_begin 6 = .ok (.istore_n 3, 1) := by decide +kernel
theorem dX8_begin_7 : decode cX8_begin 7 = .ok (.iload_n 3, 1) := by decide +kernel
theorem dX8_begin_8 : decode cX8_begin 8 = .ok (.iload_n 1, 1) := by decide +kernel
theorem dX8_begin_9 : decode cX8_begin 9 = .ok (.if_icmp .ge 17, 3) := by decide +kernel
theorem dX8_begin_12 : decode cX8_begin 12 = .ok (.aload_n 0, 1) := by decide +kernel
theorem dX8_begin_13 : decode cX8_begin 13 = .ok (.iload_n 3, 1) := by decide +kernel
theorem dX8_begin_14 : decode cX8_begin 14 = .ok (.iconst (-1), 1) := by decide +kernel
theorem dX8_begin_15 : decode cX8_begin 15 = .ok (.iload_n 2, 1) := by decide +kernel
theorem dX8_begin_16 : decode cX8_begin 16 = .ok (.invokevirtual 32, 3) := by decide +kernel
theorem dX8_begin_19 : decode cX8_begin 19 = .ok (.pop, 1) := by decide +kernel
theorem dX8_begin_20 : decode cX8_begin 20 = .ok (.iinc 3 1, 3) := by decide +kernel
theorem dX8_begin_23 : decode cX8_begin 23 = .ok (.goto (-16), 3) := by decide +kernel
theorem dX8_begin_26 : decode cX8_begin 26 = .ok (.return_, 1) := by decide +kernel
theorem dX8_goOn_0 : decode cX8_goOn 0 = .ok (.aload_n 0, 1) := by decide +kernel
theorem dX8_goOn_1 : decode cX8_goOn 1 = .ok (.getfield 20, 3) := by decide +kernel
theorem dX8_goOn_4 : decode cX8_goOn 4 = .ok (.iconst 1, 1) := by decide +kernel
theorem dX8_goOn_5 : decode cX8_goOn 5 = .ok (.isub, 1) := by decide +kernel
theorem dX8_goOn_6 : decode cX8_goOn 6 = .ok (.istore_n 2, 1) := by decide +kernel
theorem dX8_goOn_7 : decode cX8_goOn 7 = .ok (.iload_n 2, 1) := by decide +kernel
theorem dX8_goOn_8 : decode cX8_goOn 8 = .ok (.ifCond .lt 26, 3) := by decide +kernel
theorem dX8_goOn_11 : decode cX8_goOn 11 = .ok (.aload_n 0, 1) := by decide +kernel
theorem dX8_goOn_12 : decode cX8_goOn 12 = .ok (.iload_n 2, 1) := by decide +kernel
theorem dX8_goOn_13 : decode cX8_goOn 13 = .ok (.aload_n 0, 1) := by decide +kernel
theorem dX8_goOn_14 : decode cX8_goOn 14 = .ok (.getfield 14, 3) := by decide +kernel
theorem dX8_goOn_17 : decode cX8_goOn 17 = .ok (.iload_n 2, 1) := by decide +kernel
theorem dX8_goOn_18 : decode cX8_goOn 18 = .ok (.invokevirtual 24, 3) := by decide +kernel
theorem dX8_goOn_21 : decode cX8_goOn 21 = .ok (.iload_n 1, 1) := by decide +kernel
theorem dX8_goOn_22 : decode cX8_goOn 22 = .ok (.invokevirtual 32, 3) := by decide +kernel
theorem dX8_goOn_25 : decode cX8_goOn 25 = .ok (.ifCond .ne 9, 3) := by decide +kernel
theorem dX8_goOn_28 : decode cX8_goOn 28 = .ok (.iinc 2 (-1), 3) := by decide +kernel
theorem dX8_goOn_31 : decode cX8_goOn 31 = .ok (.goto (-24), 3) := by decide +kernel
theorem dX8_goOn_34 : decode cX8_goOn 34 = .ok (.iload_n 2, 1) := by decide +kernel
theorem dX8_goOn_35 : decode cX8_goOn 35 = .ok (.iconst 1, 1) := by decide +kernel
theorem dX8_goOn_36 : decode cX8_goOn 36 = .ok (.iadd, 1) := by decide +kernel
theorem dX8_goOn_37 : decode cX8_goOn 37 = .ok (.istore_n 3, 1) := by decide +kernel
theorem dX8_goOn_38 : decode cX8_goOn 38 = .ok (.iload_n 2, 1) := by decide +kernel
theorem dX8_goOn_39 : decode cX8_goOn 39 = .ok (.ifCond .lt 25, 3) := by decide +kernel
theorem dX8_goOn_42 : decode cX8_goOn 42 = .ok (.iload_n 3, 1) := by decide +kernel
theorem dX8_goOn_43 : decode cX8_goOn 43 = .ok (.aload_n 0, 1) := by decide +kernel
theorem dX8_goOn_44 : decode cX8_goOn 44 = .ok (.getfield 20, 3) := by decide +kernel
theorem dX8_goOn_47 : decode cX8_goOn 47 = .ok (.if_icmp .ge 17, 3) := by decide +kernel
theorem dX8_goOn_50 : decode cX8_goOn 50 = .ok (.aload_n 0, 1) := by decide +kernel
theorem dX8_goOn_51 : decode cX8_goOn 51 = .ok (.iload_n 3, 1) := by decide +kernel
theorem dX8_goOn_52 : decode cX8_goOn 52 = .ok (.iconst (-1), 1) := by decide +kernel
theorem dX8_goOn_53 : decode cX8_goOn 53 = .ok (.iload_n 1, 1) := by decide +kernel
theorem dX8_goOn_54 : decode cX8_goOn 54 = .ok (.invokevirtual 32, 3) := by decide +kernel
theorem dX8_goOn_57 : decode cX8_goOn 57 = .ok (.pop, 1) := by decide +kernel
theorem dX8_goOn_58 : decode cX8_goOn 58 = .ok (.iinc 3 1, 3) := by decide +kernel
theorem dX8_goOn_61 : decode cX8_goOn 61 = .ok (.goto (-23), 3) := by decide +kernel
theorem dX8_goOn_64 : decode cX8_goOn 64 = .ok (.iload_n 2, 1) := by decide +kernel
theorem dX8_goOn_65 : decode cX8_goOn 65 = .ok (.ifCond .lt 7, 3) := by decide +kernel
theorem dX8_goOn_68 : decode cX8_goOn 68 = .ok (.iconst 1, 1) := by decide +kernel
theorem dX8_goOn_69 : decode cX8_goOn 69 = .ok (.goto 4, 3) := by decide +kernel
theorem dX8_goOn_72 : decode cX8_goOn 72 = .ok (.iconst 0, 1) := by decide +kernel
theorem dX8_goOn_73 : decode cX8_goOn 73 = .ok (.ireturn, 1) := by decide +kernel
theorem dX8_comesBefore_0 : decode cX8_comesBefore 0 = .ok (.iconst 0, 1) := by decide +kernel
theorem dX8_comesBefore_1 : decode cX8_comesBefore 1 = .ok (.istore_n 2, 1) := by decide +kernel
theorem dX8_comesBefore_2 : decode cX8_comesBefore 2 = .ok (.iload_n 2, 1) := by decide +kernel
theorem dX8_comesBefore_3 : decode cX8_comesBefore 3 = .ok (.aload_n 0, 1) := by decide +kernel
theorem dX8_comesBefore_4 : decode cX8_comesBefore 4 = .ok (.getfield 20, 3) := by decide +kernel
theorem dX8_comesBefore_7 : decode cX8_comesBefore 7 = .ok (.if_icmp .ge 46, 3) := by decide +kernel
theorem dX8_comesBefore_10 : decode cX8_comesBefore 10 = .ok (.aload_n 0, 1) := by decide +kernel
theorem dX8_comesBefore_11 : decode cX8_comesBefore 11 = .ok (.getfield 14, 3) := by decide +kernel
theorem dX8_comesBefore_14 : decode cX8_comesBefore 14 = .ok (.iload_n 2, 1) := by decide +kernel
theorem dX8_comesBefore_15 : decode cX8_comesBefore 15 = .ok (.invokevirtual 24, 3) := by decide +kernel
theorem dX8_comesBefore_18 : decode cX8_comesBefore 18 = .ok (.istore_n 3, 1) := by decide +kernel
theorem dX8_comesBefore_19 : decode cX8_comesBefore 19 = .ok (.aload_n 1, 1) := by decide +kernel
theorem dX8_comesBefore_20 : decode cX8_comesBefore 20 = .ok (.getfield 14, 3) := by decide +kernel
theorem dX8_comesBefore_23 : decode cX8_comesBefore 23 = .ok (.iload_n 2, 1) := by decide +kernel
theorem dX8_comesBefore_24 : decode cX8_comesBefore 24 = .ok (.invokevirtual 24, 3) := by decide +kernel
theorem dX8_comesBefore_27 : decode cX8_comesBefore 27 = .ok (.istore 4, 2) := by decide +kernel
theorem dX8_comesBefore_29 : decode cX8_comesBefore 29 = .ok (.iload_n 3, 1) := by decide +kernel
theorem dX8_comesBefore_30 : decode cX8_comesBefore 30 = .ok (.iload 4, 2) := by decide +kernel
theorem dX8_comesBefore_32 : decode cX8_comesBefore 32 = .ok (.if_icmp .eq 15, 3) := by decide +kernel
theorem dX8_comesBefore_35 : decode cX8_comesBefore 35 = .ok (.iload_n 3, 1) := by decide +kernel
theorem dX8_comesBefore_36 : decode cX8_comesBefore 36 = .ok (.iload 4, 2) := by decide +kernel
theorem dX8_comesBefore_38 : decode cX8_comesBefore 38 = .ok (.if_icmp .ge 7, 3) := by decide +kernel
theorem dX8_comesBefore_41 : decode cX8_comesBefore 41 = .ok (.iconst 1, 1) := by decide +kernel
theorem dX8_comesBefore_42 : decode cX8_comesBefore 42 = .ok (.goto 4, 3) := by decide +kernel
theorem dX8_comesBefore_45 : decode cX8_comesBefore 45 = .ok (.iconst 0, 1) := by decide +kernel
theorem dX8_comesBefore_46 : decode cX8_comesBefore 46 = .ok (.ireturn, 1) := by decide +kernel
theorem dX8_comesBefore_47 : decode cX8_comesBefore 47 = .ok (.iinc 2 1, 3) := by decide +kernel
theorem dX8_comesBefore_50 : decode cX8_comesBefore 50 = .ok (.goto (-48), 3) := by decide +kernel
theorem dX8_comesBefore_53 : decode cX8_comesBefore 53 = .ok (.iconst 0, 1) := by decide +kernel
theorem dX8_comesBefore_54 : decode cX8_comesBefore 54 = .ok (.ireturn, 1) := by decide +kernel
theorem dX9_init_0 : decode cX9_init 0 = .ok (.aload_n 0, 1) := by decide +kernel
theorem dX9_init_1 : decode cX9_init 1 = .ok (.invokespecial 3, 3) := by decide +kernel
theorem dX9_init_4 : decode cX9_init 4 = .ok (.aload_n 0, 1) := by decide +kernel
theorem dX9_init_5 : decode cX9_init 5 = .ok (.new 9, 3) := by decide +kernel
theorem dX9_init_8 : decode cX9_init 8 = .ok (.dup, 1) := by decide +kernel
theorem dX9_init_9 : decode cX9_init 9 = .ok (.bipush 100, 2) := by decide +kernel
theorem dX9_init_11 : decode cX9_init 11 = .ok (.invokespecial 11, 3) := by decide +kernel
theorem dX9_init_14 : decode cX9_init 14 = .ok (.putfield 14, 3) := by decide +kernel
theorem dX9_init_17 : decode cX9_init 17 = .ok (.aload_n 0, 1) := by decide +kernel
theorem dX9_init_18 : decode cX9_init 18 = .ok (.new 9, 3) := by decide +kernel
theorem dX9_init_21 : decode cX9_init 21 = .ok (.dup, 1) := by decide +kernel
theorem dX9_init_22 : decode cX9_init 22 = .ok (.iconst 5, 1) := by decide +kernel
theorem dX9_init_23 : decode cX9_init 23 = .ok (.invokespecial 11, 3) := by decide +kernel
theorem dX9_init_26 : decode cX9_init 26 = .ok (.putfield 20, 3) := by decide +kernel
theorem dX9_init_29 : decode cX9_init 29 = .ok (.aload_n 0, 1) := by decide +kernel
theorem dX9_init_30 : decode cX9_init 30 = .ok (.new 9, 3) := by decide +kernel
theorem dX9_init_33 : decode cX9_init 33 = .ok (.dup, 1) := by decide +kernel
theorem dX9_init_34 : decode cX9_init 34 = .ok (.bipush 6, 2) := by decide +kernel
theorem dX9_init_36 : decode cX9_init 36 = .ok (.invokespecial 11, 3) := by decide +kernel
theorem dX9_init_39 : decode cX9_init 39 = .ok (.putfield 23, 3) := by decide +kernel
theorem dX9_init_42 : decode cX9_init 42 = .ok (.aload_n 0, 1) := by decide +kernel
theorem dX9_init_43 : decode cX9_init 43 = .ok (.new 9, 3) := by decide +kernel
theorem dX9_init_46 : decode cX9_init 46 = .ok (.dup, 1) := by decide +kernel
theorem dX9_init_47 : decode cX9_init 47 = .ok (.bipush 6, 2) := by decide +kernel
theorem dX9_init_49 : decode cX9_init 49 = .ok (.invokespecial 11, 3) := by decide +kernel
theorem dX9_init_52 : decode cX9_init 52 = .ok (.putfield 26, 3) := by decide +kernel
theorem dX9_init_55 : decode cX9_init 55 = .ok (.aload_n 0, 1) := by decide +kernel
theorem dX9_init_56 : decode cX9_init 56 = .ok (.new 9, 3) := by decide +kernel
theorem dX9_init_59 : decode cX9_init 59 = .ok (.dup, 1) := by decide +kernel
theorem dX9_init_60 : decode cX9_init 60 = .ok (.bipush 6, 2) := by decide +kernel
theorem dX9_init_62 : decode cX9_init 62 = .ok (.invokespecial 11, 3) := by decide +kernel
theorem dX9_init_65 : decode cX9_init 65 = .ok (.putfield 29, 3) := by decide +kernel
theorem dX9_init_68 : decode cX9_init 68 = .ok (.aload_n 0, 1) := by decide +kernel
theorem dX9_init_69 : decode cX9_init 69 = .ok (.new 9, 3) := by decide +kernel
theorem dX9_init_72 : decode cX9_init 72 = .ok (.dup, 1) := by decide +kernel
theorem dX9_init_73 : decode cX9_init 73 = .ok (.bipush 6, 2) := by decide +kernel
theorem dX9_init_75 : decode cX9_init 75 = .ok (.invokespecial 11, 3) := by decide +kernel
theorem dX9_init_78 : decode cX9_init 78 = .ok (.putfield 32, 3) := by decide +kernel
theorem dX9_init_81 : decode cX9_init 81 = .ok (.aload_n 0, 1) := by decide +kernel
theorem dX9_init_82 : decode cX9_init 82 = .ok (.iconst 0, 1) := by decide +kernel
theorem dX9_init_83 : decode cX9_init 83 = .ok (.putfield 35, 3) := by decide +kernel
theorem dX9_init_86 : decode cX9_init 86 = .ok (.aload_n 0, 1) := by decide +kernel
theorem dX9_init_87 : decode cX9_init 87 = .ok (.iconst 0, 1) := by decide +kernel
theorem dX9_init_88 : decode cX9_init 88 = .ok (.putfield 39, 3) := by decide +kernel
theorem dX9_init_91 : decode cX9_init 91 = .ok (.return_, 1) := by decide +kernel
theorem dX9_shops_0 : decode cX9_shops 0 = .ok (.aload_n 0, 1) := by decide +kernel
theorem dX9_shops_1 : decode cX9_shops 1 = .ok (.getfield 35, 3) := by decide +kernel
theorem dX9_shops_4 : decode cX9_shops 4 = .ok (.ireturn, 1) := by decide +kernel
theorem dX9_wishes_0 : decode cX9_wishes 0 = .ok (.aload_n 0, 1) := by decide +kernel
theorem dX9_wishes_1 : decode cX9_wishes 1 = .ok (.getfield 39, 3) := by decide +kernel
theorem dX9_wishes_4 : decode cX9_wishes 4 = .ok (.ireturn, 1) := by decide +kernel
theorem dX9_hasShop_0 : decode cX9_hasShop 0 = .ok (.iload_n 1, 1) := by decide +kernel
theorem dX9_hasShop_1 : decode cX9_hasShop 1 = .ok (.ifCond .lt 15, 3) := by decide +kernel
theorem dX9_hasShop_4 : decode cX9_hasShop 4 = .ok (.iload_n 1, 1) := by decide +kernel
theorem dX9_hasShop_5 : decode cX9_hasShop 5 = .ok (.aload_n 0, 1) := by decide +kernel
theorem dX9_hasShop_6 : decode cX9_hasShop 6 = .ok (.getfield 35, 3) := by decide +kernel
theorem dX9_hasShop_9 : decode cX9_hasShop 9 = .ok (.if_icmp .ge 7, 3) := by decide +kernel
theorem dX9_hasShop_12 : decode cX9_hasShop 12 = .ok (.iconst 1, 1) := by decide +kernel
theorem dX9_hasShop_13 : decode cX9_hasShop 13 = .ok (.goto 4, 3) := by decide +kernel
theorem dX9_hasShop_16 : decode cX9_hasShop 16 = .ok (.iconst 0, 1) := by decide +kernel
theorem dX9_hasShop_17 : decode cX9_hasShop 17 = .ok (.ireturn, 1) := by decide +kernel
theorem dX9_areTwo_0 : decode cX9_areTwo 0 = .ok (.aload_n 0, 1) := by decide +kernel
theorem dX9_areTwo_1 : decode cX9_areTwo 1 = .ok (.iload_n 1, 1) := by decide +kernel
theorem dX9_areTwo_2 : decode cX9_areTwo 2 = .ok (.invokevirtual 42, 3) := by decide +kernel
theorem dX9_areTwo_5 : decode cX9_areTwo 5 = .ok (.ifCond .eq 20, 3) := by decide +kernel
theorem dX9_areTwo_8 : decode cX9_areTwo 8 = .ok (.aload_n 0, 1) := by decide +kernel
theorem dX9_areTwo_9 : decode cX9_areTwo 9 = .ok (.iload_n 2, 1) := by decide +kernel
theorem dX9_areTwo_10 : decode cX9_areTwo 10 = .ok (.invokevirtual 42, 3) := by decide +kernel
theorem dX9_areTwo_13 : decode cX9_areTwo 13 = .ok (.ifCond .eq 12, 3) := by decide +kernel
theorem dX9_areTwo_16 : decode cX9_areTwo 16 = .ok (.iload_n 1, 1) := by decide +kernel
theorem dX9_areTwo_17 : decode cX9_areTwo 17 = .ok (.iload_n 2, 1) := by decide +kernel
theorem dX9_areTwo_18 : decode cX9_areTwo 18 = .ok (.if_icmp .eq 7, 3) := by decide +kernel
theorem dX9_areTwo_21 : decode cX9_areTwo 21 = .ok (.iconst 1, 1) := by decide +kernel
theorem dX9_areTwo_22 : decode cX9_areTwo 22 = .ok (.goto 4, 3) := by decide +kernel
theorem dX9_areTwo_25 : decode cX9_areTwo 25 = .ok (.iconst 0, 1) := by decide +kernel
theorem dX9_areTwo_26 : decode cX9_areTwo 26 = .ok (.ireturn, 1) := by decide +kernel
theorem dX9_addShop_0 : decode cX9_addShop 0 = .ok (.aload_n 0, 1) := by decide +kernel
theorem dX9_addShop_1 : decode cX9_addShop 1 = .ok (.getfield 35, 3) := by decide +kernel
theorem dX9_addShop_4 : decode cX9_addShop 4 = .ok (.istore_n 1, 1) := by decide +kernel
theorem dX9_addShop_5 : decode cX9_addShop 5 = .ok (.aload_n 0, 1) := by decide +kernel
theorem dX9_addShop_6 : decode cX9_addShop 6 = .ok (.getfield 20, 3) := by decide +kernel
theorem dX9_addShop_9 : decode cX9_addShop 9 = .ok (.iload_n 1, 1) := by decide +kernel
theorem dX9_addShop_10 : decode cX9_addShop 10 = .ok (.iconst 1, 1) := by decide +kernel
theorem dX9_addShop_11 : decode cX9_addShop 11 = .ok (.invokevirtual 46, 3) := by decide +kernel
theorem dX9_addShop_14 : decode cX9_addShop 14 = .ok (.aload_n 0, 1) := by decide +kernel
theorem dX9_addShop_15 : decode cX9_addShop 15 = .ok (.dup, 1) := by decide +kernel
theorem dX9_addShop_16 : decode cX9_addShop 16 = .ok (.getfield 35, 3) := by decide +kernel
theorem dX9_addShop_19 : decode cX9_addShop 19 = .ok (.iconst 1, 1) := by decide +kernel
theorem dX9_addShop_20 : decode cX9_addShop 20 = .ok (.iadd, 1) := by decide +kernel
theorem dX9_addShop_21 : decode cX9_addShop 21 = .ok (.putfield 35, 3) := by decide +kernel
theorem dX9_addShop_24 : decode cX9_addShop 24 = .ok (.iload_n 1, 1) := by decide +kernel
theorem dX9_addShop_25 : decode cX9_addShop 25 = .ok (.ireturn, 1) := by decide +kernel
theorem dX9_changeLoad_0 : decode cX9_changeLoad 0 = .ok (.iload_n 1, 1) := by decide +kernel
theorem dX9_changeLoad_1 : decode cX9_changeLoad 1 = .ok (.iload_n 2, 1) := by decide +kernel
theorem dX9_changeLoad_2 : decode cX9_changeLoad 2 = .ok (.iload_n 3, 1) := by decide +kernel
theorem dX9_changeLoad_3 : decode cX9_changeLoad 3 = .ok (.invokestatic 50, 3) := by decide +kernel
theorem dX9_changeLoad_6 : decode cX9_changeLoad 6 = .ok (.istore 5, 2) := by decide +kernel
theorem dX9_changeLoad_8 : decode cX9_changeLoad 8 = .ok (.aload_n 0, 1) := by decide +kernel
theorem dX9_changeLoad_9 : decode cX9_changeLoad 9 = .ok (.getfield 14, 3) := by decide +kernel
theorem dX9_changeLoad_12 : decode cX9_changeLoad 12 = .ok (.iload 5, 2) := by decide +kernel
theorem dX9_changeLoad_14 : decode cX9_changeLoad 14 = .ok (.invokevirtual 54, 3) := by decide +kernel
theorem dX9_changeLoad_17 : decode cX9_changeLoad 17 = .ok (.istore 6, 2) := by decide +kernel
theorem dX9_changeLoad_19 : decode cX9_changeLoad 19 = .ok (.aload_n 0, 1) := by decide +kernel
theorem dX9_changeLoad_20 : decode cX9_changeLoad 20 = .ok (.getfield 14, 3) := by decide +kernel
theorem dX9_changeLoad_23 : decode cX9_changeLoad 23 = .ok (.iload 5, 2) := by decide +kernel
theorem dX9_changeLoad_25 : decode cX9_changeLoad 25 = .ok (.iload 4, 2) := by decide +kernel
theorem dX9_changeLoad_27 : decode cX9_changeLoad 27 = .ok (.invokevirtual 46, 3) := by decide +kernel
theorem dX9_changeLoad_30 : decode cX9_changeLoad 30 = .ok (.iload 6, 2) := by decide +kernel
theorem dX9_changeLoad_32 : decode cX9_changeLoad 32 = .ok (.ireturn, 1) := by decide +kernel
theorem dX9_bothWays_0 : decode cX9_bothWays 0 = .ok (.aload_n 0, 1) := by decide +kernel
theorem dX9_bothWays_1 : decode cX9_bothWays 1 = .ok (.getfield 14, 3) := by decide +kernel
theorem dX9_bothWays_4 : decode cX9_bothWays 4 = .ok (.iload_n 1, 1) := by decide +kernel
theorem dX9_bothWays_5 : decode cX9_bothWays 5 = .ok (.iload_n 2, 1) := by decide +kernel
theorem dX9_bothWays_6 : decode cX9_bothWays 6 = .ok (.iload_n 3, 1) := by decide +kernel
theorem dX9_bothWays_7 : decode cX9_bothWays 7 = .ok (.invokestatic 50, 3) := by decide +kernel
theorem dX9_bothWays_10 : decode cX9_bothWays 10 = .ok (.invokevirtual 54, 3) := by decide +kernel
theorem dX9_bothWays_13 : decode cX9_bothWays 13 = .ok (.aload_n 0, 1) := by decide +kernel
theorem dX9_bothWays_14 : decode cX9_bothWays 14 = .ok (.getfield 14, 3) := by decide +kernel
theorem dX9_bothWays_17 : decode cX9_bothWays 17 = .ok (.iload_n 1, 1) := by decide +kernel
theorem dX9_bothWays_18 : decode cX9_bothWays 18 = .ok (.iload_n 3, 1) := by decide +kernel
theorem dX9_bothWays_19 : decode cX9_bothWays 19 = .ok (.iload_n 2, 1) := by decide +kernel
theorem dX9_bothWays_20 : decode cX9_bothWays 20 = .ok (.invokestatic 50, 3) := by decide +kernel
theorem dX9_bothWays_23 : decode cX9_bothWays 23 = .ok (.invokevirtual 54, 3) := by decide +kernel
theorem dX9_bothWays_26 : decode cX9_bothWays 26 = .ok (.iadd, 1) := by decide +kernel
theorem dX9_bothWays_27 : decode cX9_bothWays 27 = .ok (.ireturn, 1) := by decide +kernel
theorem dX9_loadAt_0 : decode cX9_loadAt 0 = .ok (.iload_n 0, 1) := by decide +kernel
theorem dX9_loadAt_1 : decode cX9_loadAt 1 = .ok (.iconst 5, 1) := by decide +kernel
theorem dX9_loadAt_2 : decode cX9_loadAt 2 = .ok (.imul, 1) := by decide +kernel
theorem dX9_loadAt_3 : decode cX9_loadAt 3 = .ok (.iload_n 1, 1) := by decide +kernel
theorem dX9_loadAt_4 : decode cX9_loadAt 4 = .ok (.iadd, 1) := by decide +kernel
theorem dX9_loadAt_5 : decode cX9_loadAt 5 = .ok (.iconst 5, 1) := by decide +kernel
theorem dX9_loadAt_6 : decode cX9_loadAt 6 = .ok (.imul, 1) := by decide +kernel
theorem dX9_loadAt_7 : decode cX9_loadAt 7 = .ok (.iload_n 2, 1) := by decide +kernel
theorem dX9_loadAt_8 : decode cX9_loadAt 8 = .ok (.iadd, 1) := by decide +kernel
theorem dX9_loadAt_9 : decode cX9_loadAt 9 = .ok (.ireturn, 1) := by decide +kernel
theorem dX9_weightOf_0 : decode cX9_weightOf 0 = .ok (.aload_n 0, 1) := by decide +kernel
theorem dX9_weightOf_1 : decode cX9_weightOf 1 = .ok (.getfield 20, 3) := by decide +kernel
theorem dX9_weightOf_4 : decode cX9_weightOf 4 = .ok (.iload_n 1, 1) := by decide +kernel
theorem dX9_weightOf_5 : decode cX9_weightOf 5 = .ok (.invokevirtual 54, 3) := by decide +kernel
theorem dX9_weightOf_8 : decode cX9_weightOf 8 = .ok (.ireturn, 1) := by decide +kernel
theorem dX9_changeWeight_0 : decode cX9_changeWeight 0 = .ok (.aload_n 0, 1) := by decide +kernel
theorem dX9_changeWeight_1 : decode cX9_changeWeight 1 = .ok (.getfield 20, 3) := by decide +kernel
theorem dX9_changeWeight_4 : decode cX9_changeWeight 4 = .ok (.iload_n 1, 1) := by decide +kernel
theorem dX9_changeWeight_5 : decode cX9_changeWeight 5 = .ok (.invokevirtual 54, 3) := by decide +kernel
theorem dX9_changeWeight_8 : decode cX9_changeWeight 8 = .ok (.istore_n 3, 1) := by decide +kernel
theorem dX9_changeWeight_9 : decode cX9_changeWeight 9 = .ok (.aload_n 0, 1) := by decide +kernel
theorem dX9_changeWeight_10 : decode cX9_changeWeight 10 = .ok (.getfield 20, 3) := by decide +kernel
theorem dX9_changeWeight_13 : decode cX9_changeWeight 13 = .ok (.iload_n 1, 1) := by decide +kernel
theorem dX9_changeWeight_14 : decode cX9_changeWeight 14 = .ok (.iload_n 2, 1) := by decide +kernel
theorem dX9_changeWeight_15 : decode cX9_changeWeight 15 = .ok (.invokevirtual 46, 3) := by decide +kernel
theorem dX9_changeWeight_18 : decode cX9_changeWeight 18 = .ok (.iload_n 3, 1) := by decide +kernel
theorem dX9_changeWeight_19 : decode cX9_changeWeight 19 = .ok (.ireturn, 1) := by decide +kernel
theorem dX9_movedWeight_0 : decode cX9_movedWeight 0 = .ok (.iconst 0, 1) := by decide +kernel
theorem dX9_movedWeight_1 : decode cX9_movedWeight 1 = .ok (.istore_n 3, 1) := by decide +kernel
theorem dX9_movedWeight_2 : decode cX9_movedWeight 2 = .ok (.iconst 0, 1) := by decide +kernel
theorem dX9_movedWeight_3 : decode cX9_movedWeight 3 = .ok (.istore 4, 2) := by decide +kernel
theorem dX9_movedWeight_5 : decode cX9_movedWeight 5 = .ok (.iload 4, 2) := by decide +kernel
theorem dX9_movedWeight_7 : decode cX9_movedWeight 7 = .ok (.aload_n 0, 1) := by decide +kernel
theorem dX9_movedWeight_8 : decode cX9_movedWeight 8 = .ok (.getfield 35, 3) := by decide +kernel
theorem dX9_movedWeight_11 : decode cX9_movedWeight 11 = .ok (.if_icmp .ge 36, 3) := by decide +kernel
theorem dX9_movedWeight_14 : decode cX9_movedWeight 14 = .ok (.aload_n 1, 1) := by decide +kernel
theorem dX9_movedWeight_15 : decode cX9_movedWeight 15 = .ok (.iload 4, 2) := by decide +kernel
theorem dX9_movedWeight_17 : decode cX9_movedWeight 17 = .ok (.invokevirtual 58, 3) := by decide +kernel
theorem dX9_movedWeight_20 : decode cX9_movedWeight 20 = .ok (.aload_n 2, 1) := by decide +kernel
theorem dX9_movedWeight_21 : decode cX9_movedWeight 21 = .ok (.iload 4, 2) := by decide +kernel
theorem dX9_movedWeight_23 : decode cX9_movedWeight 23 = .ok (.invokevirtual 58, 3) := by decide +kernel
theorem dX9_movedWeight_26 : decode cX9_movedWeight 26 = .ok (.if_icmp .eq 15, 3) := by decide +kernel
theorem dX9_movedWeight_29 : decode cX9_movedWeight 29 = .ok (.iload_n 3, 1) := by decide +kernel
theorem dX9_movedWeight_30 : decode cX9_movedWeight 30 = .ok (.aload_n 0, 1) := by decide +kernel
theorem dX9_movedWeight_31 : decode cX9_movedWeight 31 = .ok (.getfield 20, 3) := by decide +kernel
theorem dX9_movedWeight_34 : decode cX9_movedWeight 34 = .ok (.iload 4, 2) := by decide +kernel
theorem dX9_movedWeight_36 : decode cX9_movedWeight 36 = .ok (.invokevirtual 54, 3) := by decide +kernel
theorem dX9_movedWeight_39 : decode cX9_movedWeight 39 = .ok (.iadd, 1) := by decide +kernel
theorem dX9_movedWeight_40 : decode cX9_movedWeight 40 = .ok (.istore_n 3, 1) := by decide +kernel
theorem dX9_movedWeight_41 : decode cX9_movedWeight 41 = .ok (.iinc 4 1, 3) := by decide +kernel
theorem dX9_movedWeight_44 : decode cX9_movedWeight 44 = .ok (.goto (-39), 3) := by decide +kernel
theorem dX9_movedWeight_47 : decode cX9_movedWeight 47 = .ok (.iload_n 3, 1) := by decide +kernel
theorem dX9_movedWeight_48 : decode cX9_movedWeight 48 = .ok (.ireturn, 1) := by decide +kernel
theorem dX9_addWish_0 : decode cX9_addWish 0 = .ok (.aload_n 0, 1) := by decide +kernel
theorem dX9_addWish_1 : decode cX9_addWish 1 = .ok (.getfield 39, 3) := by decide +kernel
theorem dX9_addWish_4 : decode cX9_addWish 4 = .ok (.istore 5, 2) := by decide +kernel
theorem dX9_addWish_6 : decode cX9_addWish 6 = .ok (.aload_n 0, 1) := by decide +kernel
theorem dX9_addWish_7 : decode cX9_addWish 7 = .ok (.getfield 23, 3) := by decide +kernel
theorem dX9_addWish_10 : decode cX9_addWish 10 = .ok (.iload 5, 2) := by decide +kernel
theorem dX9_addWish_12 : decode cX9_addWish 12 = .ok (.iload_n 1, 1) := by decide +kernel
theorem dX9_addWish_13 : decode cX9_addWish 13 = .ok (.invokevirtual 46, 3) := by decide +kernel
theorem dX9_addWish_16 : decode cX9_addWish 16 = .ok (.aload_n 0, 1) := by decide +kernel
theorem dX9_addWish_17 : decode cX9_addWish 17 = .ok (.getfield 26, 3) := by decide +kernel
theorem dX9_addWish_20 : decode cX9_addWish 20 = .ok (.iload 5, 2) := by decide +kernel
theorem dX9_addWish_22 : decode cX9_addWish 22 = .ok (.iload_n 2, 1) := by decide +kernel
theorem dX9_addWish_23 : decode cX9_addWish 23 = .ok (.invokevirtual 46, 3) := by decide +kernel
theorem dX9_addWish_26 : decode cX9_addWish 26 = .ok (.aload_n 0, 1) := by decide +kernel
theorem dX9_addWish_27 : decode cX9_addWish 27 = .ok (.getfield 29, 3) := by decide +kernel
theorem dX9_addWish_30 : decode cX9_addWish 30 = .ok (.iload 5, 2) := by decide +kernel
theorem dX9_addWish_32 : decode cX9_addWish 32 = .ok (.iload_n 3, 1) := by decide +kernel
theorem dX9_addWish_33 : decode cX9_addWish 33 = .ok (.ifCond .eq 7, 3) := by decide +kernel
theorem dX9_addWish_36 : decode cX9_addWish 36 = .ok (.iconst 1, 1) := by decide +kernel
theorem dX9_addWish_37 : decode cX9_addWish 37 = .ok (.goto 4, 3) := by decide +kernel
theorem dX9_addWish_40 : decode cX9_addWish 40 = .ok (.iconst 0, 1) := by decide +kernel
theorem dX9_addWish_41 : decode cX9_addWish 41 = .ok (.invokevirtual 46, 3) := by decide +kernel
theorem dX9_addWish_44 : decode cX9_addWish 44 = .ok (.aload_n 0, 1) := by decide +kernel
theorem dX9_addWish_45 : decode cX9_addWish 45 = .ok (.getfield 32, 3) := by decide +kernel
theorem dX9_addWish_48 : decode cX9_addWish 48 = .ok (.iload 5, 2) := by decide +kernel
theorem dX9_addWish_50 : decode cX9_addWish 50 = .ok (.iload 4, 2) := by decide +kernel
theorem dX9_addWish_52 : decode cX9_addWish 52 = .ok (.invokevirtual 46, 3) := by decide +kernel
theorem dX9_addWish_55 : decode cX9_addWish 55 = .ok (.aload_n 0, 1) := by decide +kernel
theorem dX9_addWish_56 : decode cX9_addWish 56 = .ok (.dup, 1) := by decide +kernel
theorem dX9_addWish_57 : decode cX9_addWish 57 = .ok (.getfield 39, 3) := by decide +kernel
theorem dX9_addWish_60 : decode cX9_addWish 60 = .ok (.iconst 1, 1) := by decide +kernel
theorem dX9_addWish_61 : decode cX9_addWish 61 = .ok (.iadd, 1) := by decide +kernel
theorem dX9_addWish_62 : decode cX9_addWish 62 = .ok (.putfield 39, 3) := by decide +kernel
theorem dX9_addWish_65 : decode cX9_addWish 65 = .ok (.iload 5, 2) := by decide +kernel
theorem dX9_addWish_67 : decode cX9_addWish 67 = .ok (.ireturn, 1) := by decide +kernel
theorem dX9_dropWish_0 : decode cX9_dropWish 0 = .ok (.iload_n 1, 1) := by decide +kernel
theorem dX9_dropWish_1 : decode cX9_dropWish 1 = .ok (.istore_n 2, 1) := by decide +kernel
theorem dX9_dropWish_2 : decode cX9_dropWish 2 = .ok (.iload_n 2, 1) := by decide +kernel
theorem dX9_dropWish_3 : decode cX9_dropWish 3 = .ok (.aload_n 0, 1) := by decide +kernel
theorem dX9_dropWish_4 : decode cX9_dropWish 4 = .ok (.getfield 39, 3) := by decide +kernel
theorem dX9_dropWish_7 : decode cX9_dropWish 7 = .ok (.iconst 1, 1) := by decide +kernel
theorem dX9_dropWish_8 : decode cX9_dropWish 8 = .ok (.isub, 1) := by decide +kernel
theorem dX9_dropWish_9 : decode cX9_dropWish 9 = .ok (.if_icmp .ge 81, 3) := by decide +kernel
theorem dX9_dropWish_12 : decode cX9_dropWish 12 = .ok (.aload_n 0, 1) := by decide +kernel
theorem dX9_dropWish_13 : decode cX9_dropWish 13 = .ok (.getfield 23, 3) := by decide +kernel
theorem dX9_dropWish_16 : decode cX9_dropWish 16 = .ok (.iload_n 2, 1) := by decide +kernel
theorem dX9_dropWish_17 : decode cX9_dropWish 17 = .ok (.aload_n 0, 1) := by decide +kernel
theorem dX9_dropWish_18 : decode cX9_dropWish 18 = .ok (.getfield 23, 3) := by decide +kernel
theorem dX9_dropWish_21 : decode cX9_dropWish 21 = .ok (.iload_n 2, 1) := by decide +kernel
theorem dX9_dropWish_22 : decode cX9_dropWish 22 = .ok (.iconst 1, 1) := by decide +kernel
theorem dX9_dropWish_23 : decode cX9_dropWish 23 = .ok (.iadd, 1) := by decide +kernel
theorem dX9_dropWish_24 : decode cX9_dropWish 24 = .ok (.invokevirtual 54, 3) := by decide +kernel
theorem dX9_dropWish_27 : decode cX9_dropWish 27 = .ok (.invokevirtual 46, 3) := by decide +kernel
theorem dX9_dropWish_30 : decode cX9_dropWish 30 = .ok (.aload_n 0, 1) := by decide +kernel
theorem dX9_dropWish_31 : decode cX9_dropWish 31 = .ok (.getfield 26, 3) := by decide +kernel
theorem dX9_dropWish_34 : decode cX9_dropWish 34 = .ok (.iload_n 2, 1) := by decide +kernel
theorem dX9_dropWish_35 : decode cX9_dropWish 35 = .ok (.aload_n 0, 1) := by decide +kernel
theorem dX9_dropWish_36 : decode cX9_dropWish 36 = .ok (.getfield 26, 3) := by decide +kernel
theorem dX9_dropWish_39 : decode cX9_dropWish 39 = .ok (.iload_n 2, 1) := by decide +kernel
theorem dX9_dropWish_40 : decode cX9_dropWish 40 = .ok (.iconst 1, 1) := by decide +kernel
theorem dX9_dropWish_41 : decode cX9_dropWish 41 = .ok (.iadd, 1) := by decide +kernel
theorem dX9_dropWish_42 : decode cX9_dropWish 42 = .ok (.invokevirtual 54, 3) := by decide +kernel
theorem dX9_dropWish_45 : decode cX9_dropWish 45 = .ok (.invokevirtual 46, 3) := by decide +kernel
theorem dX9_dropWish_48 : decode cX9_dropWish 48 = .ok (.aload_n 0, 1) := by decide +kernel
theorem dX9_dropWish_49 : decode cX9_dropWish 49 = .ok (.getfield 29, 3) := by decide +kernel
theorem dX9_dropWish_52 : decode cX9_dropWish 52 = .ok (.iload_n 2, 1) := by decide +kernel
theorem dX9_dropWish_53 : decode cX9_dropWish 53 = .ok (.aload_n 0, 1) := by decide +kernel
theorem dX9_dropWish_54 : decode cX9_dropWish 54 = .ok (.getfield 29, 3) := by decide +kernel
theorem dX9_dropWish_57 : decode cX9_dropWish 57 = .ok (.iload_n 2, 1) := by decide +kernel
theorem dX9_dropWish_58 : decode cX9_dropWish 58 = .ok (.iconst 1, 1) := by decide +kernel
theorem dX9_dropWish_59 : decode cX9_dropWish 59 = .ok (.iadd, 1) := by decide +kernel
theorem dX9_dropWish_60 : decode cX9_dropWish 60 = .ok (.invokevirtual 54, 3) := by decide +kernel
theorem dX9_dropWish_63 : decode cX9_dropWish 63 = .ok (.invokevirtual 46, 3) := by decide +kernel
theorem dX9_dropWish_66 : decode cX9_dropWish 66 = .ok (.aload_n 0, 1) := by decide +kernel
theorem dX9_dropWish_67 : decode cX9_dropWish 67 = .ok (.getfield 32, 3) := by decide +kernel
theorem dX9_dropWish_70 : decode cX9_dropWish 70 = .ok (.iload_n 2, 1) := by decide +kernel
theorem dX9_dropWish_71 : decode cX9_dropWish 71 = .ok (.aload_n 0, 1) := by decide +kernel
theorem dX9_dropWish_72 : decode cX9_dropWish 72 = .ok (.getfield 32, 3) := by decide +kernel
theorem dX9_dropWish_75 : decode cX9_dropWish 75 = .ok (.iload_n 2, 1) := by decide +kernel
theorem dX9_dropWish_76 : decode cX9_dropWish 76 = .ok (.iconst 1, 1) := by decide +kernel
theorem dX9_dropWish_77 : decode cX9_dropWish 77 = .ok (.iadd, 1) := by decide +kernel
theorem dX9_dropWish_78 : decode cX9_dropWish 78 = .ok (.invokevirtual 54, 3) := by decide +kernel
theorem dX9_dropWish_81 : decode cX9_dropWish 81 = .ok (.invokevirtual 46, 3) := by decide +kernel
theorem dX9_dropWish_84 : decode cX9_dropWish 84 = .ok (.iinc 2 1, 3) := by decide +kernel
theorem dX9_dropWish_87 : decode cX9_dropWish 87 = .ok (.goto (-85), 3) := by decide +kernel
theorem dX9_dropWish_90 : decode cX9_dropWish 90 = .ok (.aload_n 0, 1) := by decide +kernel
theorem dX9_dropWish_91 : decode cX9_dropWish 91 = .ok (.dup, 1) := by decide +kernel
theorem dX9_dropWish_92 : decode cX9_dropWish 92 = .ok (.getfield 39, 3) := by decide +kernel
theorem dX9_dropWish_95 : decode cX9_dropWish 95 = .ok (.iconst 1, 1) := by decide +kernel
theorem dX9_dropWish_96 : decode cX9_dropWish 96 = .ok (.isub, 1) := by decide +kernel
theorem dX9_dropWish_97 : decode cX9_dropWish 97 = .ok (.putfield 39, 3) := by decide +kernel
theorem dX9_dropWish_100 : decode cX9_dropWish 100 = .ok (.return_, 1) := by decide +kernel
theorem dX9_oneOf_0 : decode cX9_oneOf 0 = .ok (.aload_n 0, 1) := by decide +kernel
theorem dX9_oneOf_1 : decode cX9_oneOf 1 = .ok (.getfield 23, 3) := by decide +kernel
theorem dX9_oneOf_4 : decode cX9_oneOf 4 = .ok (.iload_n 1, 1) := by decide +kernel
theorem dX9_oneOf_5 : decode cX9_oneOf 5 = .ok (.invokevirtual 54, 3) := by decide +kernel
theorem dX9_oneOf_8 : decode cX9_oneOf 8 = .ok (.ireturn, 1) := by decide +kernel
theorem dX9_otherOf_0 : decode cX9_otherOf 0 = .ok (.aload_n 0, 1) := by decide +kernel
theorem dX9_otherOf_1 : decode cX9_otherOf 1 = .ok (.getfield 26, 3) := by decide +kernel
theorem dX9_otherOf_4 : decode cX9_otherOf 4 = .ok (.iload_n 1, 1) := by decide +kernel
theorem dX9_otherOf_5 : decode cX9_otherOf 5 = .ok (.invokevirtual 54, 3) := by decide +kernel
theorem dX9_otherOf_8 : decode cX9_otherOf 8 = .ok (.ireturn, 1) := by decide +kernel
theorem dX9_isMet_0 : decode cX9_isMet 0 = .ok (.aload_n 0, 1) := by decide +kernel
theorem dX9_isMet_1 : decode cX9_isMet 1 = .ok (.getfield 32, 3) := by decide +kernel
theorem dX9_isMet_4 : decode cX9_isMet 4 = .ok (.iload_n 1, 1) := by decide +kernel
theorem dX9_isMet_5 : decode cX9_isMet 5 = .ok (.invokevirtual 54, 3) := by decide +kernel
theorem dX9_isMet_8 : decode cX9_isMet 8 = .ok (.istore_n 3, 1) := by decide +kernel
theorem dX9_isMet_9 : decode cX9_isMet 9 = .ok (.aload_n 0, 1) := by decide +kernel
theorem dX9_isMet_10 : decode cX9_isMet 10 = .ok (.getfield 29, 3) := by decide +kernel
theorem dX9_isMet_13 : decode cX9_isMet 13 = .ok (.iload_n 1, 1) := by decide +kernel
theorem dX9_isMet_14 : decode cX9_isMet 14 = .ok (.invokevirtual 54, 3) := by decide +kernel
theorem dX9_isMet_17 : decode cX9_isMet 17 = .ok (.iconst 1, 1) := by decide +kernel
theorem dX9_isMet_18 : decode cX9_isMet 18 = .ok (.if_icmp .ne 19, 3) := by decide +kernel
theorem dX9_isMet_21 : decode cX9_isMet 21 = .ok (.iload_n 2, 1) := by decide +kernel
theorem dX9_isMet_22 : decode cX9_isMet 22 = .ok (.iconst (-1), 1) := by decide +kernel
theorem dX9_isMet_23 : decode cX9_isMet 23 = .ok (.if_icmp .eq 12, 3) := by decide +kernel
theorem dX9_isMet_26 : decode cX9_isMet 26 = .ok (.iload_n 2, 1) := by decide +kernel
theorem dX9_isMet_27 : decode cX9_isMet 27 = .ok (.iload_n 3, 1) := by decide +kernel
theorem dX9_isMet_28 : decode cX9_isMet 28 = .ok (.if_icmp .gt 7, 3) := by decide +kernel
theorem dX9_isMet_31 : decode cX9_isMet 31 = .ok (.iconst 1, 1) := by decide +kernel
theorem dX9_isMet_32 : decode cX9_isMet 32 = .ok (.goto 4, 3) := by decide +kernel
theorem dX9_isMet_35 : decode cX9_isMet 35 = .ok (.iconst 0, 1) := by decide +kernel
theorem dX9_isMet_36 : decode cX9_isMet 36 = .ok (.ireturn, 1) := by decide +kernel
theorem dX9_isMet_37 : decode cX9_isMet 37 = .ok (.iload_n 2, 1) := by decide +kernel
theorem dX9_isMet_38 : decode cX9_isMet 38 = .ok (.iconst (-1), 1) := by decide +kernel
theorem dX9_isMet_39 : decode cX9_isMet 39 = .ok (.if_icmp .eq 8, 3) := by decide +kernel
theorem dX9_isMet_42 : decode cX9_isMet 42 = .ok (.iload_n 2, 1) := by decide +kernel
theorem dX9_isMet_43 : decode cX9_isMet 43 = .ok (.iload_n 3, 1) := by decide +kernel
theorem dX9_isMet_44 : decode cX9_isMet 44 = .ok (.if_icmp .lt 7, 3) := by decide +kernel
theorem dX9_isMet_47 : decode cX9_isMet 47 = .ok (.iconst 1, 1) := by decide +kernel
theorem dX9_isMet_48 : decode cX9_isMet 48 = .ok (.goto 4, 3) := by decide +kernel
theorem dX9_isMet_51 : decode cX9_isMet 51 = .ok (.iconst 0, 1) := by decide +kernel
theorem dX9_isMet_52 : decode cX9_isMet 52 = .ok (.ireturn, 1) := by decide +kernel
theorem dX10_init_0 : decode cX10_init 0 = .ok (.aload_n 0, 1) := by decide +kernel
theorem dX10_init_1 : decode cX10_init 1 = .ok (.invokespecial 3, 3) := by decide +kernel
theorem dX10_init_4 : decode cX10_init 4 = .ok (.aload_n 0, 1) := by decide +kernel
theorem dX10_init_5 : decode cX10_init 5 = .ok (.new 9, 3) := by decide +kernel
theorem dX10_init_8 : decode cX10_init 8 = .ok (.dup, 1) := by decide +kernel
theorem dX10_init_9 : decode cX10_init 9 = .ok (.invokespecial 11, 3) := by decide +kernel
theorem dX10_init_12 : decode cX10_init 12 = .ok (.putfield 12, 3) := by decide +kernel
theorem dX10_init_15 : decode cX10_init 15 = .ok (.aload_n 0, 1) := by decide +kernel
theorem dX10_init_16 : decode cX10_init 16 = .ok (.new 16, 3) := by decide +kernel
theorem dX10_init_19 : decode cX10_init 19 = .ok (.dup, 1) := by decide +kernel
theorem dX10_init_20 : decode cX10_init 20 = .ok (.invokespecial 18, 3) := by decide +kernel
theorem dX10_init_23 : decode cX10_init 23 = .ok (.putfield 19, 3) := by decide +kernel
theorem dX10_init_26 : decode cX10_init 26 = .ok (.aload_n 0, 1) := by decide +kernel
theorem dX10_init_27 : decode cX10_init 27 = .ok (.new 23, 3) := by decide +kernel
theorem dX10_init_30 : decode cX10_init 30 = .ok (.dup, 1) := by decide +kernel
theorem dX10_init_31 : decode cX10_init 31 = .ok (.aload_n 0, 1) := by decide +kernel
theorem dX10_init_32 : decode cX10_init 32 = .ok (.getfield 12, 3) := by decide +kernel
theorem dX10_init_35 : decode cX10_init 35 = .ok (.aload_n 0, 1) := by decide +kernel
theorem dX10_init_36 : decode cX10_init 36 = .ok (.getfield 19, 3) := by decide +kernel
theorem dX10_init_39 : decode cX10_init 39 = .ok (.invokespecial 25, 3) := by decide +kernel
theorem dX10_init_42 : decode cX10_init 42 = .ok (.putfield 28, 3) := by decide +kernel
theorem dX10_init_45 : decode cX10_init 45 = .ok (.aload_n 0, 1) := by decide +kernel
theorem dX10_init_46 : decode cX10_init 46 = .ok (.new 32, 3) := by decide +kernel
theorem dX10_init_49 : decode cX10_init 49 = .ok (.dup, 1) := by decide +kernel
theorem dX10_init_50 : decode cX10_init 50 = .ok (.aload_n 0, 1) := by decide +kernel
theorem dX10_init_51 : decode cX10_init 51 = .ok (.getfield 12, 3) := by decide +kernel
theorem dX10_init_54 : decode cX10_init 54 = .ok (.aload_n 0, 1) := by decide +kernel
theorem dX10_init_55 : decode cX10_init 55 = .ok (.getfield 19, 3) := by decide +kernel
theorem dX10_init_58 : decode cX10_init 58 = .ok (.invokespecial 34, 3) := by decide +kernel
theorem dX10_init_61 : decode cX10_init 61 = .ok (.putfield 35, 3) := by decide +kernel
theorem dX10_init_64 : decode cX10_init 64 = .ok (.aload_n 0, 1) := by decide +kernel
theorem dX10_init_65 : decode cX10_init 65 = .ok (.new 39, 3) := by decide +kernel
theorem dX10_init_68 : decode cX10_init 68 = .ok (.dup, 1) := by decide +kernel
theorem dX10_init_69 : decode cX10_init 69 = .ok (.aload_n 0, 1) := by decide +kernel
theorem dX10_init_70 : decode cX10_init 70 = .ok (.getfield 12, 3) := by decide +kernel
theorem dX10_init_73 : decode cX10_init 73 = .ok (.aload_n 0, 1) := by decide +kernel
theorem dX10_init_74 : decode cX10_init 74 = .ok (.getfield 19, 3) := by decide +kernel
theorem dX10_init_77 : decode cX10_init 77 = .ok (.aload_n 0, 1) := by decide +kernel
theorem dX10_init_78 : decode cX10_init 78 = .ok (.getfield 28, 3) := by decide +kernel
theorem dX10_init_81 : decode cX10_init 81 = .ok (.invokespecial 41, 3) := by decide +kernel
theorem dX10_init_84 : decode cX10_init 84 = .ok (.putfield 44, 3) := by decide +kernel
theorem dX10_init_87 : decode cX10_init 87 = .ok (.aload_n 0, 1) := by decide +kernel
theorem dX10_init_88 : decode cX10_init 88 = .ok (.new 48, 3) := by decide +kernel
theorem dX10_init_91 : decode cX10_init 91 = .ok (.dup, 1) := by decide +kernel
theorem dX10_init_92 : decode cX10_init 92 = .ok (.aload_n 0, 1) := by decide +kernel
theorem dX10_init_93 : decode cX10_init 93 = .ok (.getfield 12, 3) := by decide +kernel
theorem dX10_init_96 : decode cX10_init 96 = .ok (.aload_n 0, 1) := by decide +kernel
theorem dX10_init_97 : decode cX10_init 97 = .ok (.getfield 28, 3) := by decide +kernel
theorem dX10_init_100 : decode cX10_init 100 = .ok (.invokespecial 50, 3) := by decide +kernel
theorem dX10_init_103 : decode cX10_init 103 = .ok (.putfield 53, 3) := by decide +kernel
theorem dX10_init_106 : decode cX10_init 106 = .ok (.aload_n 0, 1) := by decide +kernel
theorem dX10_init_107 : decode cX10_init 107 = .ok (.new 57, 3) := by decide +kernel
theorem dX10_init_110 : decode cX10_init 110 = .ok (.dup, 1) := by decide +kernel
theorem dX10_init_111 : decode cX10_init 111 = .ok (.aload_n 0, 1) := by decide +kernel
theorem dX10_init_112 : decode cX10_init 112 = .ok (.getfield 12, 3) := by decide +kernel
theorem dX10_init_115 : decode cX10_init 115 = .ok (.aload_n 0, 1) := by decide +kernel
theorem dX10_init_116 : decode cX10_init 116 = .ok (.getfield 19, 3) := by decide +kernel
theorem dX10_init_119 : decode cX10_init 119 = .ok (.invokespecial 59, 3) := by decide +kernel
theorem dX10_init_122 : decode cX10_init 122 = .ok (.putfield 60, 3) := by decide +kernel
theorem dX10_init_125 : decode cX10_init 125 = .ok (.aload_n 0, 1) := by decide +kernel
theorem dX10_init_126 : decode cX10_init 126 = .ok (.new 64, 3) := by decide +kernel
theorem dX10_init_129 : decode cX10_init 129 = .ok (.dup, 1) := by decide +kernel
theorem dX10_init_130 : decode cX10_init 130 = .ok (.aload_n 0, 1) := by decide +kernel
theorem dX10_init_131 : decode cX10_init 131 = .ok (.getfield 12, 3) := by decide +kernel
theorem dX10_init_134 : decode cX10_init 134 = .ok (.aload_n 0, 1) := by decide +kernel
theorem dX10_init_135 : decode cX10_init 135 = .ok (.getfield 19, 3) := by decide +kernel
theorem dX10_init_138 : decode cX10_init 138 = .ok (.aload_n 0, 1) := by decide +kernel
theorem dX10_init_139 : decode cX10_init 139 = .ok (.getfield 28, 3) := by decide +kernel
theorem dX10_init_142 : decode cX10_init 142 = .ok (.invokespecial 66, 3) := by decide +kernel
theorem dX10_init_145 : decode cX10_init 145 = .ok (.putfield 67, 3) := by decide +kernel
theorem dX10_init_148 : decode cX10_init 148 = .ok (.aload_n 0, 1) := by decide +kernel
theorem dX10_init_149 : decode cX10_init 149 = .ok (.new 71, 3) := by decide +kernel
theorem dX10_init_152 : decode cX10_init 152 = .ok (.dup, 1) := by decide +kernel
theorem dX10_init_153 : decode cX10_init 153 = .ok (.invokespecial 73, 3) := by decide +kernel
theorem dX10_init_156 : decode cX10_init 156 = .ok (.putfield 74, 3) := by decide +kernel
theorem dX10_init_159 : decode cX10_init 159 = .ok (.aload_n 0, 1) := by decide +kernel
theorem dX10_init_160 : decode cX10_init 160 = .ok (.new 71, 3) := by decide +kernel
theorem dX10_init_163 : decode cX10_init 163 = .ok (.dup, 1) := by decide +kernel
theorem dX10_init_164 : decode cX10_init 164 = .ok (.invokespecial 73, 3) := by decide +kernel
theorem dX10_init_167 : decode cX10_init 167 = .ok (.putfield 78, 3) := by decide +kernel
theorem dX10_init_170 : decode cX10_init 170 = .ok (.return_, 1) := by decide +kernel
theorem dX10_column_0 : decode cX10_column 0 = .ok (.iload_n 1, 1) := by decide +kernel
theorem dX10_column_1 : decode cX10_column 1 = .ok (.iload_n 2, 1) := by decide +kernel
theorem dX10_column_2 : decode cX10_column 2 = .ok (.invokestatic 81, 3) := by decide +kernel
theorem dX10_column_5 : decode cX10_column 5 = .ok (.istore 4, 2) := by decide +kernel
theorem dX10_column_7 : decode cX10_column 7 = .ok (.iload 4, 2) := by decide +kernel
theorem dX10_column_9 : decode cX10_column 9 = .ok (.iconst (-1), 1) := by decide +kernel
theorem dX10_column_10 : decode cX10_column 10 = .ok (.if_icmp .ne 6, 3) := by decide +kernel
theorem dX10_column_13 : decode cX10_column 13 = .ok (.bipush (-2), 2) := by decide +kernel
theorem dX10_column_15 : decode cX10_column 15 = .ok (.ireturn, 1) := by decide +kernel
theorem dX10_column_16 : decode cX10_column 16 = .ok (.aload_n 0, 1) := by decide +kernel
theorem dX10_column_17 : decode cX10_column 17 = .ok (.getfield 12, 3) := by decide +kernel
theorem dX10_column_20 : decode cX10_column 20 = .ok (.iload 4, 2) := by decide +kernel
theorem dX10_column_22 : decode cX10_column 22 = .ok (.invokevirtual 85, 3) := by decide +kernel
theorem dX10_column_25 : decode cX10_column 25 = .ok (.iconst 2, 1) := by decide +kernel
theorem dX10_column_26 : decode cX10_column 26 = .ok (.if_icmp .ne 6, 3) := by decide +kernel
theorem dX10_column_29 : decode cX10_column 29 = .ok (.bipush (-3), 2) := by decide +kernel
theorem dX10_column_31 : decode cX10_column 31 = .ok (.ireturn, 1) := by decide +kernel
theorem dX10_column_32 : decode cX10_column 32 = .ok (.aload_n 0, 1) := by decide +kernel
theorem dX10_column_33 : decode cX10_column 33 = .ok (.getfield 12, 3) := by decide +kernel
theorem dX10_column_36 : decode cX10_column 36 = .ok (.iload 4, 2) := by decide +kernel
theorem dX10_column_38 : decode cX10_column 38 = .ok (.iload_n 3, 1) := by decide +kernel
theorem dX10_column_39 : decode cX10_column 39 = .ok (.ifCond .eq 7, 3) := by decide +kernel
theorem dX10_column_42 : decode cX10_column 42 = .ok (.iconst 1, 1) := by decide +kernel
theorem dX10_column_43 : decode cX10_column 43 = .ok (.goto 4, 3) := by decide +kernel
theorem dX10_column_46 : decode cX10_column 46 = .ok (.iconst 0, 1) := by decide +kernel
theorem dX10_column_47 : decode cX10_column 47 = .ok (.invokevirtual 89, 3) := by decide +kernel
theorem dX10_column_50 : decode cX10_column 50 = .ok (.aload_n 0, 1) := by decide +kernel
theorem dX10_column_51 : decode cX10_column 51 = .ok (.getfield 67, 3) := by decide +kernel
theorem dX10_column_54 : decode cX10_column 54 = .ok (.invokevirtual 93, 3) := by decide +kernel
theorem dX10_column_57 : decode cX10_column 57 = .ok (.iconst 1, 1) := by decide +kernel
theorem dX10_column_58 : decode cX10_column 58 = .ok (.ireturn, 1) := by decide +kernel
theorem dX10_slot_0 : decode cX10_slot 0 = .ok (.iload_n 1, 1) := by decide +kernel
theorem dX10_slot_1 : decode cX10_slot 1 = .ok (.iload_n 2, 1) := by decide +kernel
theorem dX10_slot_2 : decode cX10_slot 2 = .ok (.invokestatic 81, 3) := by decide +kernel
theorem dX10_slot_5 : decode cX10_slot 5 = .ok (.istore_n 3, 1) := by decide +kernel
theorem dX10_slot_6 : decode cX10_slot 6 = .ok (.iload_n 3, 1) := by decide +kernel
theorem dX10_slot_7 : decode cX10_slot 7 = .ok (.iconst (-1), 1) := by decide +kernel
theorem dX10_slot_8 : decode cX10_slot 8 = .ok (.if_icmp .ne 6, 3) := by decide +kernel
theorem dX10_slot_11 : decode cX10_slot 11 = .ok (.bipush (-2), 2) := by decide +kernel
theorem dX10_slot_13 : decode cX10_slot 13 = .ok (.ireturn, 1) := by decide +kernel
theorem dX10_slot_14 : decode cX10_slot 14 = .ok (.aload_n 0, 1) := by decide +kernel
theorem dX10_slot_15 : decode cX10_slot 15 = .ok (.getfield 12, 3) := by decide +kernel
theorem dX10_slot_18 : decode cX10_slot 18 = .ok (.iload_n 3, 1) := by decide +kernel
theorem dX10_slot_19 : decode cX10_slot 19 = .ok (.invokevirtual 85, 3) := by decide +kernel
theorem dX10_slot_22 : decode cX10_slot 22 = .ok (.ifCond .eq 6, 3) := by decide +kernel
theorem dX10_slot_25 : decode cX10_slot 25 = .ok (.bipush (-3), 2) := by decide +kernel
theorem dX10_slot_27 : decode cX10_slot 27 = .ok (.ireturn, 1) := by decide +kernel
theorem dX10_slot_28 : decode cX10_slot 28 = .ok (.aload_n 0, 1) := by decide +kernel
theorem dX10_slot_29 : decode cX10_slot 29 = .ok (.getfield 12, 3) := by decide +kernel
theorem dX10_slot_32 : decode cX10_slot 32 = .ok (.invokevirtual 96, 3) := by decide +kernel
theorem dX10_slot_35 : decode cX10_slot 35 = .ok (.bipush 6, 2) := by decide +kernel
theorem dX10_slot_37 : decode cX10_slot 37 = .ok (.if_icmp .lt 6, 3) := by decide +kernel
theorem dX10_slot_40 : decode cX10_slot 40 = .ok (.bipush (-4), 2) := by decide +kernel
theorem dX10_slot_42 : decode cX10_slot 42 = .ok (.ireturn, 1) := by decide +kernel
theorem dX10_slot_43 : decode cX10_slot 43 = .ok (.aload_n 0, 1) := by decide +kernel
theorem dX10_slot_44 : decode cX10_slot 44 = .ok (.getfield 67, 3) := by decide +kernel
theorem dX10_slot_47 : decode cX10_slot 47 = .ok (.invokevirtual 93, 3) := by decide +kernel
theorem dX10_slot_50 : decode cX10_slot 50 = .ok (.aload_n 0, 1) := by decide +kernel
theorem dX10_slot_51 : decode cX10_slot 51 = .ok (.getfield 12, 3) := by decide +kernel
theorem dX10_slot_54 : decode cX10_slot 54 = .ok (.iload_n 3, 1) := by decide +kernel
theorem dX10_slot_55 : decode cX10_slot 55 = .ok (.invokevirtual 100, 3) := by decide +kernel
theorem dX10_slot_58 : decode cX10_slot 58 = .ok (.ireturn, 1) := by decide +kernel
theorem dX10_exit_0 : decode cX10_exit 0 = .ok (.iload_n 1, 1) := by decide +kernel
theorem dX10_exit_1 : decode cX10_exit 1 = .ok (.iload_n 2, 1) := by decide +kernel
theorem dX10_exit_2 : decode cX10_exit 2 = .ok (.invokestatic 81, 3) := by decide +kernel
theorem dX10_exit_5 : decode cX10_exit 5 = .ok (.istore 4, 2) := by decide +kernel
theorem dX10_exit_7 : decode cX10_exit 7 = .ok (.iload 4, 2) := by decide +kernel
theorem dX10_exit_9 : decode cX10_exit 9 = .ok (.iconst (-1), 1) := by decide +kernel
theorem dX10_exit_10 : decode cX10_exit 10 = .ok (.if_icmp .ne 6, 3) := by decide +kernel
theorem dX10_exit_13 : decode cX10_exit 13 = .ok (.bipush (-2), 2) := by decide +kernel
theorem dX10_exit_15 : decode cX10_exit 15 = .ok (.ireturn, 1) := by decide +kernel
theorem dX10_exit_16 : decode cX10_exit 16 = .ok (.aload_n 0, 1) := by decide +kernel
theorem dX10_exit_17 : decode cX10_exit 17 = .ok (.getfield 12, 3) := by decide +kernel
theorem dX10_exit_20 : decode cX10_exit 20 = .ok (.iload 4, 2) := by decide +kernel
theorem dX10_exit_22 : decode cX10_exit 22 = .ok (.invokevirtual 85, 3) := by decide +kernel
theorem dX10_exit_25 : decode cX10_exit 25 = .ok (.istore 5, 2) := by decide +kernel
theorem dX10_exit_27 : decode cX10_exit 27 = .ok (.iload 5, 2) := by decide +kernel
theorem dX10_exit_29 : decode cX10_exit 29 = .ok (.ifCond .eq 12, 3) := by decide +kernel
theorem dX10_exit_32 : decode cX10_exit 32 = .ok (.iload 5, 2) := by decide +kernel
theorem dX10_exit_34 : decode cX10_exit 34 = .ok (.iconst 3, 1) := by decide +kernel
theorem dX10_exit_35 : decode cX10_exit 35 = .ok (.if_icmp .eq 6, 3) := by decide +kernel
theorem dX10_exit_38 : decode cX10_exit 38 = .ok (.bipush (-3), 2) := by decide +kernel
theorem dX10_exit_40 : decode cX10_exit 40 = .ok (.ireturn, 1) := by decide +kernel
theorem dX10_exit_41 : decode cX10_exit 41 = .ok (.aload_n 0, 1) := by decide +kernel
theorem dX10_exit_42 : decode cX10_exit 42 = .ok (.getfield 12, 3) := by decide +kernel
theorem dX10_exit_45 : decode cX10_exit 45 = .ok (.iload 4, 2) := by decide +kernel
theorem dX10_exit_47 : decode cX10_exit 47 = .ok (.iload_n 3, 1) := by decide +kernel
theorem dX10_exit_48 : decode cX10_exit 48 = .ok (.ifCond .eq 7, 3) := by decide +kernel
theorem dX10_exit_51 : decode cX10_exit 51 = .ok (.iconst 3, 1) := by decide +kernel
theorem dX10_exit_52 : decode cX10_exit 52 = .ok (.goto 4, 3) := by decide +kernel
theorem dX10_exit_55 : decode cX10_exit 55 = .ok (.iconst 0, 1) := by decide +kernel
theorem dX10_exit_56 : decode cX10_exit 56 = .ok (.invokevirtual 89, 3) := by decide +kernel
theorem dX10_exit_59 : decode cX10_exit 59 = .ok (.aload_n 0, 1) := by decide +kernel
theorem dX10_exit_60 : decode cX10_exit 60 = .ok (.getfield 67, 3) := by decide +kernel
theorem dX10_exit_63 : decode cX10_exit 63 = .ok (.invokevirtual 93, 3) := by decide +kernel
theorem dX10_exit_66 : decode cX10_exit 66 = .ok (.iload 5, 2) := by decide +kernel
theorem dX10_exit_68 : decode cX10_exit 68 = .ok (.iconst 3, 1) := by decide +kernel
theorem dX10_exit_69 : decode cX10_exit 69 = .ok (.if_icmp .ne 7, 3) := by decide +kernel
theorem dX10_exit_72 : decode cX10_exit 72 = .ok (.iconst 1, 1) := by decide +kernel
theorem dX10_exit_73 : decode cX10_exit 73 = .ok (.goto 4, 3) := by decide +kernel
theorem dX10_exit_76 : decode cX10_exit 76 = .ok (.iconst 0, 1) := by decide +kernel
theorem dX10_exit_77 : decode cX10_exit 77 = .ok (.ireturn, 1) := by decide +kernel
theorem dX10_far_0 : decode cX10_far 0 = .ok (.aload_n 0, 1) := by decide +kernel
theorem dX10_far_1 : decode cX10_far 1 = .ok (.getfield 12, 3) := by decide +kernel
theorem dX10_far_4 : decode cX10_far 4 = .ok (.iload_n 1, 1) := by decide +kernel
theorem dX10_far_5 : decode cX10_far 5 = .ok (.invokevirtual 103, 3) := by decide +kernel
theorem dX10_far_8 : decode cX10_far 8 = .ok (.ifCond .eq 14, 3) := by decide +kernel
theorem dX10_far_11 : decode cX10_far 11 = .ok (.aload_n 0, 1) := by decide +kernel
theorem dX10_far_12 : decode cX10_far 12 = .ok (.getfield 12, 3) := by decide +kernel
theorem dX10_far_15 : decode cX10_far 15 = .ok (.iload_n 2, 1) := by decide +kernel
theorem dX10_far_16 : decode cX10_far 16 = .ok (.invokevirtual 103, 3) := by decide +kernel
theorem dX10_far_19 : decode cX10_far 19 = .ok (.ifCond .ne 6, 3) := by decide +kernel
theorem dX10_far_22 : decode cX10_far 22 = .ok (.bipush (-2), 2) := by decide +kernel
theorem dX10_far_24 : decode cX10_far 24 = .ok (.ireturn, 1) := by decide +kernel
theorem dX10_far_25 : decode cX10_far 25 = .ok (.aload_n 0, 1) := by decide +kernel
theorem dX10_far_26 : decode cX10_far 26 = .ok (.getfield 12, 3) := by decide +kernel
theorem dX10_far_29 : decode cX10_far 29 = .ok (.iload_n 1, 1) := by decide +kernel
theorem dX10_far_30 : decode cX10_far 30 = .ok (.iload_n 2, 1) := by decide +kernel
theorem dX10_far_31 : decode cX10_far 31 = .ok (.invokevirtual 107, 3) := by decide +kernel
theorem dX10_far_34 : decode cX10_far 34 = .ok (.ireturn, 1) := by decide +kernel
theorem dX10_out_0 : decode cX10_out 0 = .ok (.aload_n 0, 1) := by decide +kernel
theorem dX10_out_1 : decode cX10_out 1 = .ok (.getfield 12, 3) := by decide +kernel
theorem dX10_out_4 : decode cX10_out 4 = .ok (.iload_n 1, 1) := by decide +kernel
theorem dX10_out_5 : decode cX10_out 5 = .ok (.invokevirtual 103, 3) := by decide +kernel
theorem dX10_out_8 : decode cX10_out 8 = .ok (.ifCond .ne 6, 3) := by decide +kernel
theorem dX10_out_11 : decode cX10_out 11 = .ok (.bipush (-2), 2) := by decide +kernel
theorem dX10_out_13 : decode cX10_out 13 = .ok (.ireturn, 1) := by decide +kernel
theorem dX10_out_14 : decode cX10_out 14 = .ok (.aload_n 0, 1) := by decide +kernel
theorem dX10_out_15 : decode cX10_out 15 = .ok (.getfield 12, 3) := by decide +kernel
theorem dX10_out_18 : decode cX10_out 18 = .ok (.iload_n 1, 1) := by decide +kernel
theorem dX10_out_19 : decode cX10_out 19 = .ok (.invokevirtual 110, 3) := by decide +kernel
theorem dX10_out_22 : decode cX10_out 22 = .ok (.ireturn, 1) := by decide +kernel
theorem dX10_bound_0 : decode cX10_bound 0 = .ok (.iload_n 1, 1) := by decide +kernel
theorem dX10_bound_1 : decode cX10_bound 1 = .ok (.ifCond .lt 9, 3) := by decide +kernel
theorem dX10_bound_4 : decode cX10_bound 4 = .ok (.iload_n 1, 1) := by decide +kernel
theorem dX10_bound_5 : decode cX10_bound 5 = .ok (.bipush 41, 2) := by decide +kernel
theorem dX10_bound_7 : decode cX10_bound 7 = .ok (.if_icmp .le 6, 3) := by decide +kernel
theorem dX10_bound_10 : decode cX10_bound 10 = .ok (.bipush (-2), 2) := by decide +kernel
theorem dX10_bound_12 : decode cX10_bound 12 = .ok (.ireturn, 1) := by decide +kernel
theorem dX10_bound_13 : decode cX10_bound 13 = .ok (.aload_n 0, 1) := by decide +kernel
theorem dX10_bound_14 : decode cX10_bound 14 = .ok (.getfield 67, 3) := by decide +kernel
theorem dX10_bound_17 : decode cX10_bound 17 = .ok (.invokevirtual 93, 3) := by decide +kernel
theorem dX10_bound_20 : decode cX10_bound 20 = .ok (.aload_n 0, 1) := by decide +kernel
theorem dX10_bound_21 : decode cX10_bound 21 = .ok (.getfield 12, 3) := by decide +kernel
theorem dX10_bound_24 : decode cX10_bound 24 = .ok (.iload_n 1, 1) := by decide +kernel
theorem dX10_bound_25 : decode cX10_bound 25 = .ok (.invokevirtual 113, 3) := by decide +kernel
theorem dX10_bound_28 : decode cX10_bound 28 = .ok (.ireturn, 1) := by decide +kernel
theorem dX10_shop_0 : decode cX10_shop 0 = .ok (.aload_n 0, 1) := by decide +kernel
theorem dX10_shop_1 : decode cX10_shop 1 = .ok (.getfield 19, 3) := by decide +kernel
theorem dX10_shop_4 : decode cX10_shop 4 = .ok (.invokevirtual 116, 3) := by decide +kernel
theorem dX10_shop_7 : decode cX10_shop 7 = .ok (.iconst 5, 1) := by decide +kernel
theorem dX10_shop_8 : decode cX10_shop 8 = .ok (.if_icmp .lt 6, 3) := by decide +kernel
theorem dX10_shop_11 : decode cX10_shop 11 = .ok (.bipush (-4), 2) := by decide +kernel
theorem dX10_shop_13 : decode cX10_shop 13 = .ok (.ireturn, 1) := by decide +kernel
theorem dX10_shop_14 : decode cX10_shop 14 = .ok (.aload_n 0, 1) := by decide +kernel
theorem dX10_shop_15 : decode cX10_shop 15 = .ok (.getfield 12, 3) := by decide +kernel
theorem dX10_shop_18 : decode cX10_shop 18 = .ok (.invokevirtual 96, 3) := by decide +kernel
theorem dX10_shop_21 : decode cX10_shop 21 = .ok (.aload_n 0, 1) := by decide +kernel
theorem dX10_shop_22 : decode cX10_shop 22 = .ok (.getfield 19, 3) := by decide +kernel
theorem dX10_shop_25 : decode cX10_shop 25 = .ok (.invokevirtual 116, 3) := by decide +kernel
theorem dX10_shop_28 : decode cX10_shop 28 = .ok (.if_icmp .gt 6, 3) := by decide +kernel
theorem dX10_shop_31 : decode cX10_shop 31 = .ok (.bipush (-3), 2) := by decide +kernel
theorem dX10_shop_33 : decode cX10_shop 33 = .ok (.ireturn, 1) := by decide +kernel
theorem dX10_shop_34 : decode cX10_shop 34 = .ok (.aload_n 0, 1) := by decide +kernel
theorem dX10_shop_35 : decode cX10_shop 35 = .ok (.getfield 67, 3) := by decide +kernel
theorem dX10_shop_38 : decode cX10_shop 38 = .ok (.invokevirtual 93, 3) := by decide +kernel
theorem dX10_shop_41 : decode cX10_shop 41 = .ok (.aload_n 0, 1) := by decide +kernel
theorem dX10_shop_42 : decode cX10_shop 42 = .ok (.getfield 74, 3) := by decide +kernel
theorem dX10_shop_45 : decode cX10_shop 45 = .ok (.aload_n 0, 1) := by decide +kernel
theorem dX10_shop_46 : decode cX10_shop 46 = .ok (.getfield 12, 3) := by decide +kernel
theorem dX10_shop_49 : decode cX10_shop 49 = .ok (.invokevirtual 96, 3) := by decide +kernel
theorem dX10_shop_52 : decode cX10_shop 52 = .ok (.invokevirtual 119, 3) := by decide +kernel
theorem dX10_shop_55 : decode cX10_shop 55 = .ok (.aload_n 0, 1) := by decide +kernel
theorem dX10_shop_56 : decode cX10_shop 56 = .ok (.getfield 19, 3) := by decide +kernel
theorem dX10_shop_59 : decode cX10_shop 59 = .ok (.invokevirtual 123, 3) := by decide +kernel
theorem dX10_shop_62 : decode cX10_shop 62 = .ok (.ireturn, 1) := by decide +kernel
theorem dX10_load_0 : decode cX10_load 0 = .ok (.iload_n 1, 1) := by decide +kernel
theorem dX10_load_1 : decode cX10_load 1 = .ok (.invokestatic 125, 3) := by decide +kernel
theorem dX10_load_4 : decode cX10_load 4 = .ok (.ifCond .eq 27, 3) := by decide +kernel
theorem dX10_load_7 : decode cX10_load 7 = .ok (.aload_n 0, 1) := by decide +kernel
theorem dX10_load_8 : decode cX10_load 8 = .ok (.getfield 19, 3) := by decide +kernel
theorem dX10_load_11 : decode cX10_load 11 = .ok (.iload_n 2, 1) := by decide +kernel
theorem dX10_load_12 : decode cX10_load 12 = .ok (.iload_n 3, 1) := by decide +kernel
theorem dX10_load_13 : decode cX10_load 13 = .ok (.invokevirtual 128, 3) := by decide +kernel
theorem dX10_load_16 : decode cX10_load 16 = .ok (.ifCond .eq 15, 3) := by decide +kernel
theorem dX10_load_19 : decode cX10_load 19 = .ok (.iload 4, 2) := by decide +kernel
theorem dX10_load_21 : decode cX10_load 21 = .ok (.ifCond .lt 10, 3) := by decide +kernel
theorem dX10_load_24 : decode cX10_load 24 = .ok (.iload 4, 2) := by decide +kernel
theorem dX10_load_26 : decode cX10_load 26 = .ok (.bipush 99, 2) := by decide +kernel
theorem dX10_load_28 : decode cX10_load 28 = .ok (.if_icmp .le 6, 3) := by decide +kernel
theorem dX10_load_31 : decode cX10_load 31 = .ok (.bipush (-2), 2) := by decide +kernel
theorem dX10_load_33 : decode cX10_load 33 = .ok (.ireturn, 1) := by decide +kernel
theorem dX10_load_34 : decode cX10_load 34 = .ok (.aload_n 0, 1) := by decide +kernel
theorem dX10_load_35 : decode cX10_load 35 = .ok (.getfield 67, 3) := by decide +kernel
theorem dX10_load_38 : decode cX10_load 38 = .ok (.invokevirtual 93, 3) := by decide +kernel
theorem dX10_load_41 : decode cX10_load 41 = .ok (.aload_n 0, 1) := by decide +kernel
theorem dX10_load_42 : decode cX10_load 42 = .ok (.getfield 19, 3) := by decide +kernel
theorem dX10_load_45 : decode cX10_load 45 = .ok (.iload_n 1, 1) := by decide +kernel
theorem dX10_load_46 : decode cX10_load 46 = .ok (.iload_n 2, 1) := by decide +kernel
theorem dX10_load_47 : decode cX10_load 47 = .ok (.iload_n 3, 1) := by decide +kernel
theorem dX10_load_48 : decode cX10_load 48 = .ok (.iload 4, 2) := by decide +kernel
theorem dX10_load_50 : decode cX10_load 50 = .ok (.invokevirtual 132, 3) := by decide +kernel
theorem dX10_load_53 : decode cX10_load 53 = .ok (.ireturn, 1) := by decide +kernel
theorem dX10_weight_0 : decode cX10_weight 0 = .ok (.aload_n 0, 1) := by decide +kernel
theorem dX10_weight_1 : decode cX10_weight 1 = .ok (.getfield 19, 3) := by decide +kernel
theorem dX10_weight_4 : decode cX10_weight 4 = .ok (.iload_n 1, 1) := by decide +kernel
theorem dX10_weight_5 : decode cX10_weight 5 = .ok (.invokevirtual 136, 3) := by decide +kernel
theorem dX10_weight_8 : decode cX10_weight 8 = .ok (.ifCond .eq 14, 3) := by decide +kernel
theorem dX10_weight_11 : decode cX10_weight 11 = .ok (.iload_n 2, 1) := by decide +kernel
theorem dX10_weight_12 : decode cX10_weight 12 = .ok (.iconst 1, 1) := by decide +kernel
theorem dX10_weight_13 : decode cX10_weight 13 = .ok (.if_icmp .lt 9, 3) := by decide +kernel
theorem dX10_weight_16 : decode cX10_weight 16 = .ok (.iload_n 2, 1) := by decide +kernel
theorem dX10_weight_17 : decode cX10_weight 17 = .ok (.bipush 50, 2) := by decide +kernel
theorem dX10_weight_19 : decode cX10_weight 19 = .ok (.if_icmp .le 6, 3) := by decide +kernel
theorem dX10_weight_22 : decode cX10_weight 22 = .ok (.bipush (-2), 2) := by decide +kernel
theorem dX10_weight_24 : decode cX10_weight 24 = .ok (.ireturn, 1) := by decide +kernel
theorem dX10_weight_25 : decode cX10_weight 25 = .ok (.aload_n 0, 1) := by decide +kernel
theorem dX10_weight_26 : decode cX10_weight 26 = .ok (.getfield 67, 3) := by decide +kernel
theorem dX10_weight_29 : decode cX10_weight 29 = .ok (.invokevirtual 93, 3) := by decide +kernel
theorem dX10_weight_32 : decode cX10_weight 32 = .ok (.aload_n 0, 1) := by decide +kernel
theorem dX10_weight_33 : decode cX10_weight 33 = .ok (.getfield 19, 3) := by decide +kernel
theorem dX10_weight_36 : decode cX10_weight 36 = .ok (.iload_n 1, 1) := by decide +kernel
theorem dX10_weight_37 : decode cX10_weight 37 = .ok (.iload_n 2, 1) := by decide +kernel
theorem dX10_weight_38 : decode cX10_weight 38 = .ok (.invokevirtual 139, 3) := by decide +kernel
theorem dX10_weight_41 : decode cX10_weight 41 = .ok (.ireturn, 1) := by decide +kernel
theorem dX10_wish_0 : decode cX10_wish 0 = .ok (.aload_n 0, 1) := by decide +kernel
theorem dX10_wish_1 : decode cX10_wish 1 = .ok (.getfield 19, 3) := by decide +kernel
theorem dX10_wish_4 : decode cX10_wish 4 = .ok (.iload_n 1, 1) := by decide +kernel
theorem dX10_wish_5 : decode cX10_wish 5 = .ok (.iload_n 2, 1) := by decide +kernel
theorem dX10_wish_6 : decode cX10_wish 6 = .ok (.invokevirtual 128, 3) := by decide +kernel
theorem dX10_wish_9 : decode cX10_wish 9 = .ok (.ifCond .eq 15, 3) := by decide +kernel
theorem dX10_wish_12 : decode cX10_wish 12 = .ok (.iload 4, 2) := by decide +kernel
theorem dX10_wish_14 : decode cX10_wish 14 = .ok (.ifCond .lt 10, 3) := by decide +kernel
theorem dX10_wish_17 : decode cX10_wish 17 = .ok (.iload 4, 2) := by decide +kernel
theorem dX10_wish_19 : decode cX10_wish 19 = .ok (.bipush 20, 2) := by decide +kernel
theorem dX10_wish_21 : decode cX10_wish 21 = .ok (.if_icmp .le 6, 3) := by decide +kernel
theorem dX10_wish_24 : decode cX10_wish 24 = .ok (.bipush (-2), 2) := by decide +kernel
theorem dX10_wish_26 : decode cX10_wish 26 = .ok (.ireturn, 1) := by decide +kernel
theorem dX10_wish_27 : decode cX10_wish 27 = .ok (.aload_n 0, 1) := by decide +kernel
theorem dX10_wish_28 : decode cX10_wish 28 = .ok (.getfield 19, 3) := by decide +kernel
theorem dX10_wish_31 : decode cX10_wish 31 = .ok (.invokevirtual 142, 3) := by decide +kernel
theorem dX10_wish_34 : decode cX10_wish 34 = .ok (.bipush 6, 2) := by decide +kernel
theorem dX10_wish_36 : decode cX10_wish 36 = .ok (.if_icmp .lt 6, 3) := by decide +kernel
theorem dX10_wish_39 : decode cX10_wish 39 = .ok (.bipush (-4), 2) := by decide +kernel
theorem dX10_wish_41 : decode cX10_wish 41 = .ok (.ireturn, 1) := by decide +kernel
theorem dX10_wish_42 : decode cX10_wish 42 = .ok (.aload_n 0, 1) := by decide +kernel
theorem dX10_wish_43 : decode cX10_wish 43 = .ok (.getfield 67, 3) := by decide +kernel
theorem dX10_wish_46 : decode cX10_wish 46 = .ok (.invokevirtual 93, 3) := by decide +kernel
theorem dX10_wish_49 : decode cX10_wish 49 = .ok (.aload_n 0, 1) := by decide +kernel
theorem dX10_wish_50 : decode cX10_wish 50 = .ok (.getfield 19, 3) := by decide +kernel
theorem dX10_wish_53 : decode cX10_wish 53 = .ok (.iload_n 1, 1) := by decide +kernel
theorem dX10_wish_54 : decode cX10_wish 54 = .ok (.iload_n 2, 1) := by decide +kernel
theorem dX10_wish_55 : decode cX10_wish 55 = .ok (.iload_n 3, 1) := by decide +kernel
theorem dX10_wish_56 : decode cX10_wish 56 = .ok (.iload 4, 2) := by decide +kernel
theorem dX10_wish_58 : decode cX10_wish 58 = .ok (.invokevirtual 145, 3) := by decide +kernel
theorem dX10_wish_61 : decode cX10_wish 61 = .ok (.ireturn, 1) := by decide +kernel
theorem dX10_unwish_0 : decode cX10_unwish 0 = .ok (.iload_n 1, 1) := by decide +kernel
theorem dX10_unwish_1 : decode cX10_unwish 1 = .ok (.ifCond .lt 14, 3) := by decide +kernel
theorem dX10_unwish_4 : decode cX10_unwish 4 = .ok (.iload_n 1, 1) := by decide +kernel
theorem dX10_unwish_5 : decode cX10_unwish 5 = .ok (.aload_n 0, 1) := by decide +kernel
theorem dX10_unwish_6 : decode cX10_unwish 6 = .ok (.getfield 19, 3) := by decide +kernel
theorem dX10_unwish_9 : decode cX10_unwish 9 = .ok (.invokevirtual 142, 3) := by decide +kernel
theorem dX10_unwish_12 : decode cX10_unwish 12 = .ok (.if_icmp .lt 6, 3) := by decide +kernel
theorem dX10_unwish_15 : decode cX10_unwish 15 = .ok (.bipush (-2), 2) := by decide +kernel
theorem dX10_unwish_17 : decode cX10_unwish 17 = .ok (.ireturn, 1) := by decide +kernel
theorem dX10_unwish_18 : decode cX10_unwish 18 = .ok (.aload_n 0, 1) := by decide +kernel
theorem dX10_unwish_19 : decode cX10_unwish 19 = .ok (.getfield 67, 3) := by decide +kernel
theorem dX10_unwish_22 : decode cX10_unwish 22 = .ok (.invokevirtual 93, 3) := by decide +kernel
theorem dX10_unwish_25 : decode cX10_unwish 25 = .ok (.aload_n 0, 1) := by decide +kernel
theorem dX10_unwish_26 : decode cX10_unwish 26 = .ok (.getfield 19, 3) := by decide +kernel
theorem dX10_unwish_29 : decode cX10_unwish 29 = .ok (.iload_n 1, 1) := by decide +kernel
theorem dX10_unwish_30 : decode cX10_unwish 30 = .ok (.invokevirtual 149, 3) := by decide +kernel
theorem dX10_unwish_33 : decode cX10_unwish 33 = .ok (.iconst 1, 1) := by decide +kernel
theorem dX10_unwish_34 : decode cX10_unwish 34 = .ok (.ireturn, 1) := by decide +kernel
theorem dX10_put_0 : decode cX10_put 0 = .ok (.aload_n 0, 1) := by decide +kernel
theorem dX10_put_1 : decode cX10_put 1 = .ok (.getfield 78, 3) := by decide +kernel
theorem dX10_put_4 : decode cX10_put 4 = .ok (.iload_n 1, 1) := by decide +kernel
theorem dX10_put_5 : decode cX10_put 5 = .ok (.aload_n 0, 1) := by decide +kernel
theorem dX10_put_6 : decode cX10_put 6 = .ok (.getfield 19, 3) := by decide +kernel
theorem dX10_put_9 : decode cX10_put 9 = .ok (.invokevirtual 116, 3) := by decide +kernel
theorem dX10_put_12 : decode cX10_put 12 = .ok (.aload_n 0, 1) := by decide +kernel
theorem dX10_put_13 : decode cX10_put 13 = .ok (.getfield 12, 3) := by decide +kernel
theorem dX10_put_16 : decode cX10_put 16 = .ok (.invokevirtual 96, 3) := by decide +kernel
theorem dX10_put_19 : decode cX10_put 19 = .ok (.invokevirtual 152, 3) := by decide +kernel
theorem dX10_put_22 : decode cX10_put 22 = .ok (.ifCond .ne 6, 3) := by decide +kernel
theorem dX10_put_25 : decode cX10_put 25 = .ok (.bipush (-2), 2) := by decide +kernel
theorem dX10_put_27 : decode cX10_put 27 = .ok (.ireturn, 1) := by decide +kernel
theorem dX10_put_28 : decode cX10_put 28 = .ok (.aload_n 0, 1) := by decide +kernel
theorem dX10_put_29 : decode cX10_put 29 = .ok (.getfield 74, 3) := by decide +kernel
theorem dX10_put_32 : decode cX10_put 32 = .ok (.aload_n 0, 1) := by decide +kernel
theorem dX10_put_33 : decode cX10_put 33 = .ok (.getfield 78, 3) := by decide +kernel
theorem dX10_put_36 : decode cX10_put 36 = .ok (.invokevirtual 156, 3) := by decide +kernel
theorem dX10_put_39 : decode cX10_put 39 = .ok (.iconst 1, 1) := by decide +kernel
theorem dX10_put_40 : decode cX10_put 40 = .ok (.ireturn, 1) := by decide +kernel
theorem dX10_places_0 : decode cX10_places 0 = .ok (.aload_n 0, 1) := by decide +kernel
theorem dX10_places_1 : decode cX10_places 1 = .ok (.getfield 74, 3) := by decide +kernel
theorem dX10_places_4 : decode cX10_places 4 = .ok (.invokevirtual 160, 3) := by decide +kernel
theorem dX10_places_7 : decode cX10_places 7 = .ok (.ireturn, 1) := by decide +kernel
theorem dX10_cost_0 : decode cX10_cost 0 = .ok (.iload_n 1, 1) := by decide +kernel
theorem dX10_cost_1 : decode cX10_cost 1 = .ok (.invokestatic 125, 3) := by decide +kernel
theorem dX10_cost_4 : decode cX10_cost 4 = .ok (.ifCond .ne 6, 3) := by decide +kernel
theorem dX10_cost_7 : decode cX10_cost 7 = .ok (.bipush (-2), 2) := by decide +kernel
theorem dX10_cost_9 : decode cX10_cost 9 = .ok (.ireturn, 1) := by decide +kernel
theorem dX10_cost_10 : decode cX10_cost 10 = .ok (.aload_n 0, 1) := by decide +kernel
theorem dX10_cost_11 : decode cX10_cost 11 = .ok (.getfield 28, 3) := by decide +kernel
theorem dX10_cost_14 : decode cX10_cost 14 = .ok (.iload_n 1, 1) := by decide +kernel
theorem dX10_cost_15 : decode cX10_cost 15 = .ok (.aload_n 0, 1) := by decide +kernel
theorem dX10_cost_16 : decode cX10_cost 16 = .ok (.getfield 74, 3) := by decide +kernel
theorem dX10_cost_19 : decode cX10_cost 19 = .ok (.invokevirtual 163, 3) := by decide +kernel
theorem dX10_cost_22 : decode cX10_cost 22 = .ok (.ireturn, 1) := by decide +kernel
theorem dX10_best_0 : decode cX10_best 0 = .ok (.iload_n 1, 1) := by decide +kernel
theorem dX10_best_1 : decode cX10_best 1 = .ok (.invokestatic 125, 3) := by decide +kernel
theorem dX10_best_4 : decode cX10_best 4 = .ok (.ifCond .ne 6, 3) := by decide +kernel
theorem dX10_best_7 : decode cX10_best 7 = .ok (.bipush (-2), 2) := by decide +kernel
theorem dX10_best_9 : decode cX10_best 9 = .ok (.ireturn, 1) := by decide +kernel
theorem dX10_best_10 : decode cX10_best 10 = .ok (.aload_n 0, 1) := by decide +kernel
theorem dX10_best_11 : decode cX10_best 11 = .ok (.getfield 44, 3) := by decide +kernel
theorem dX10_best_14 : decode cX10_best 14 = .ok (.iload_n 1, 1) := by decide +kernel
theorem dX10_best_15 : decode cX10_best 15 = .ok (.invokevirtual 167, 3) := by decide +kernel
theorem dX10_best_18 : decode cX10_best 18 = .ok (.aload_n 0, 1) := by decide +kernel
theorem dX10_best_19 : decode cX10_best 19 = .ok (.getfield 44, 3) := by decide +kernel
theorem dX10_best_22 : decode cX10_best 22 = .ok (.invokevirtual 170, 3) := by decide +kernel
theorem dX10_best_25 : decode cX10_best 25 = .ok (.ireturn, 1) := by decide +kernel
theorem dX10_many_0 : decode cX10_many 0 = .ok (.iload_n 1, 1) := by decide +kernel
theorem dX10_many_1 : decode cX10_many 1 = .ok (.invokestatic 125, 3) := by decide +kernel
theorem dX10_many_4 : decode cX10_many 4 = .ok (.ifCond .ne 6, 3) := by decide +kernel
theorem dX10_many_7 : decode cX10_many 7 = .ok (.bipush (-2), 2) := by decide +kernel
theorem dX10_many_9 : decode cX10_many 9 = .ok (.ireturn, 1) := by decide +kernel
theorem dX10_many_10 : decode cX10_many 10 = .ok (.aload_n 0, 1) := by decide +kernel
theorem dX10_many_11 : decode cX10_many 11 = .ok (.getfield 44, 3) := by decide +kernel
theorem dX10_many_14 : decode cX10_many 14 = .ok (.iload_n 1, 1) := by decide +kernel
theorem dX10_many_15 : decode cX10_many 15 = .ok (.invokevirtual 167, 3) := by decide +kernel
theorem dX10_many_18 : decode cX10_many 18 = .ok (.aload_n 0, 1) := by decide +kernel
theorem dX10_many_19 : decode cX10_many 19 = .ok (.getfield 44, 3) := by decide +kernel
theorem dX10_many_22 : decode cX10_many 22 = .ok (.invokevirtual 173, 3) := by decide +kernel
theorem dX10_many_25 : decode cX10_many 25 = .ok (.ireturn, 1) := by decide +kernel
theorem dX10_take_0 : decode cX10_take 0 = .ok (.iload_n 1, 1) := by decide +kernel
theorem dX10_take_1 : decode cX10_take 1 = .ok (.invokestatic 125, 3) := by decide +kernel
theorem dX10_take_4 : decode cX10_take 4 = .ok (.ifCond .ne 6, 3) := by decide +kernel
theorem dX10_take_7 : decode cX10_take 7 = .ok (.bipush (-2), 2) := by decide +kernel
theorem dX10_take_9 : decode cX10_take 9 = .ok (.ireturn, 1) := by decide +kernel
theorem dX10_take_10 : decode cX10_take 10 = .ok (.aload_n 0, 1) := by decide +kernel
theorem dX10_take_11 : decode cX10_take 11 = .ok (.getfield 44, 3) := by decide +kernel
theorem dX10_take_14 : decode cX10_take 14 = .ok (.iload_n 1, 1) := by decide +kernel
theorem dX10_take_15 : decode cX10_take 15 = .ok (.invokevirtual 167, 3) := by decide +kernel
theorem dX10_take_18 : decode cX10_take 18 = .ok (.aload_n 0, 1) := by decide +kernel
theorem dX10_take_19 : decode cX10_take 19 = .ok (.getfield 44, 3) := by decide +kernel
theorem dX10_take_22 : decode cX10_take 22 = .ok (.invokevirtual 170, 3) := by decide +kernel
theorem dX10_take_25 : decode cX10_take 25 = .ok (.iconst (-1), 1) := by decide +kernel
theorem dX10_take_26 : decode cX10_take 26 = .ok (.if_icmp .ne 6, 3) := by decide +kernel
theorem dX10_take_29 : decode cX10_take 29 = .ok (.bipush (-3), 2) := by decide +kernel
theorem dX10_take_31 : decode cX10_take 31 = .ok (.ireturn, 1) := by decide +kernel
theorem dX10_take_32 : decode cX10_take 32 = .ok (.aload_n 0, 1) := by decide +kernel
theorem dX10_take_33 : decode cX10_take 33 = .ok (.getfield 74, 3) := by decide +kernel
theorem dX10_take_36 : decode cX10_take 36 = .ok (.aload_n 0, 1) := by decide +kernel
theorem dX10_take_37 : decode cX10_take 37 = .ok (.getfield 44, 3) := by decide +kernel
theorem dX10_take_40 : decode cX10_take 40 = .ok (.invokevirtual 176, 3) := by decide +kernel
theorem dX10_take_43 : decode cX10_take 43 = .ok (.invokevirtual 156, 3) := by decide +kernel
theorem dX10_take_46 : decode cX10_take 46 = .ok (.aload_n 0, 1) := by decide +kernel
theorem dX10_take_47 : decode cX10_take 47 = .ok (.getfield 44, 3) := by decide +kernel
theorem dX10_take_50 : decode cX10_take 50 = .ok (.invokevirtual 170, 3) := by decide +kernel
theorem dX10_take_53 : decode cX10_take 53 = .ok (.ireturn, 1) := by decide +kernel
theorem dX10_floor_0 : decode cX10_floor 0 = .ok (.iload_n 1, 1) := by decide +kernel
theorem dX10_floor_1 : decode cX10_floor 1 = .ok (.invokestatic 125, 3) := by decide +kernel
theorem dX10_floor_4 : decode cX10_floor 4 = .ok (.ifCond .ne 6, 3) := by decide +kernel
theorem dX10_floor_7 : decode cX10_floor 7 = .ok (.bipush (-2), 2) := by decide +kernel
theorem dX10_floor_9 : decode cX10_floor 9 = .ok (.ireturn, 1) := by decide +kernel
theorem dX10_floor_10 : decode cX10_floor 10 = .ok (.aload_n 0, 1) := by decide +kernel
theorem dX10_floor_11 : decode cX10_floor 11 = .ok (.getfield 35, 3) := by decide +kernel
theorem dX10_floor_14 : decode cX10_floor 14 = .ok (.iload_n 1, 1) := by decide +kernel
theorem dX10_floor_15 : decode cX10_floor 15 = .ok (.invokevirtual 180, 3) := by decide +kernel
theorem dX10_floor_18 : decode cX10_floor 18 = .ok (.ireturn, 1) := by decide +kernel
theorem dX10_settled_0 : decode cX10_settled 0 = .ok (.iload_n 1, 1) := by decide +kernel
theorem dX10_settled_1 : decode cX10_settled 1 = .ok (.invokestatic 125, 3) := by decide +kernel
theorem dX10_settled_4 : decode cX10_settled 4 = .ok (.ifCond .ne 6, 3) := by decide +kernel
theorem dX10_settled_7 : decode cX10_settled 7 = .ok (.bipush (-2), 2) := by decide +kernel
theorem dX10_settled_9 : decode cX10_settled 9 = .ok (.ireturn, 1) := by decide +kernel
theorem dX10_settled_10 : decode cX10_settled 10 = .ok (.aload_n 0, 1) := by decide +kernel
theorem dX10_settled_11 : decode cX10_settled 11 = .ok (.getfield 28, 3) := by decide +kernel
theorem dX10_settled_14 : decode cX10_settled 14 = .ok (.iload_n 1, 1) := by decide +kernel
theorem dX10_settled_15 : decode cX10_settled 15 = .ok (.aload_n 0, 1) := by decide +kernel
theorem dX10_settled_16 : decode cX10_settled 16 = .ok (.getfield 74, 3) := by decide +kernel
theorem dX10_settled_19 : decode cX10_settled 19 = .ok (.invokevirtual 163, 3) := by decide +kernel
theorem dX10_settled_22 : decode cX10_settled 22 = .ok (.iconst (-1), 1) := by decide +kernel
theorem dX10_settled_23 : decode cX10_settled 23 = .ok (.if_icmp .eq 7, 3) := by decide +kernel
theorem dX10_settled_26 : decode cX10_settled 26 = .ok (.iconst 1, 1) := by decide +kernel
theorem dX10_settled_27 : decode cX10_settled 27 = .ok (.goto 4, 3) := by decide +kernel
theorem dX10_settled_30 : decode cX10_settled 30 = .ok (.iconst 0, 1) := by decide +kernel
theorem dX10_settled_31 : decode cX10_settled 31 = .ok (.istore_n 2, 1) := by decide +kernel
theorem dX10_settled_32 : decode cX10_settled 32 = .ok (.iload_n 2, 1) := by decide +kernel
theorem dX10_settled_33 : decode cX10_settled 33 = .ok (.ifCond .eq 22, 3) := by decide +kernel
theorem dX10_settled_36 : decode cX10_settled 36 = .ok (.aload_n 0, 1) := by decide +kernel
theorem dX10_settled_37 : decode cX10_settled 37 = .ok (.getfield 53, 3) := by decide +kernel
theorem dX10_settled_40 : decode cX10_settled 40 = .ok (.iload_n 1, 1) := by decide +kernel
theorem dX10_settled_41 : decode cX10_settled 41 = .ok (.aload_n 0, 1) := by decide +kernel
theorem dX10_settled_42 : decode cX10_settled 42 = .ok (.getfield 74, 3) := by decide +kernel
theorem dX10_settled_45 : decode cX10_settled 45 = .ok (.invokevirtual 183, 3) := by decide +kernel
theorem dX10_settled_48 : decode cX10_settled 48 = .ok (.ifCond .ne 7, 3) := by decide +kernel
theorem dX10_settled_51 : decode cX10_settled 51 = .ok (.iconst 1, 1) := by decide +kernel
theorem dX10_settled_52 : decode cX10_settled 52 = .ok (.goto 4, 3) := by decide +kernel
theorem dX10_settled_55 : decode cX10_settled 55 = .ok (.iconst 0, 1) := by decide +kernel
theorem dX10_settled_56 : decode cX10_settled 56 = .ok (.ireturn, 1) := by decide +kernel
theorem dX10_climb_0 : decode cX10_climb 0 = .ok (.iload_n 1, 1) := by decide +kernel
theorem dX10_climb_1 : decode cX10_climb 1 = .ok (.invokestatic 125, 3) := by decide +kernel
theorem dX10_climb_4 : decode cX10_climb 4 = .ok (.ifCond .ne 6, 3) := by decide +kernel
theorem dX10_climb_7 : decode cX10_climb 7 = .ok (.bipush (-2), 2) := by decide +kernel
theorem dX10_climb_9 : decode cX10_climb 9 = .ok (.ireturn, 1) := by decide +kernel
theorem dX10_climb_10 : decode cX10_climb 10 = .ok (.iconst 0, 1) := by decide +kernel
theorem dX10_climb_11 : decode cX10_climb 11 = .ok (.istore_n 2, 1) := by decide +kernel
theorem dX10_climb_12 : decode cX10_climb 12 = .ok (.iload_n 2, 1) := by decide +kernel
theorem dX10_climb_13 : decode cX10_climb 13 = .ok (.sipush 720, 3) := by decide +kernel
theorem dX10_climb_16 : decode cX10_climb 16 = .ok (.if_icmp .ge 38, 3) := by decide +kernel
theorem dX10_climb_19 : decode cX10_climb 19 = .ok (.aload_n 0, 1) := by decide +kernel
theorem dX10_climb_20 : decode cX10_climb 20 = .ok (.getfield 53, 3) := by decide +kernel
theorem dX10_climb_23 : decode cX10_climb 23 = .ok (.iload_n 1, 1) := by decide +kernel
theorem dX10_climb_24 : decode cX10_climb 24 = .ok (.aload_n 0, 1) := by decide +kernel
theorem dX10_climb_25 : decode cX10_climb 25 = .ok (.getfield 74, 3) := by decide +kernel
theorem dX10_climb_28 : decode cX10_climb 28 = .ok (.invokevirtual 183, 3) := by decide +kernel
theorem dX10_climb_31 : decode cX10_climb 31 = .ok (.ifCond .eq 23, 3) := by decide +kernel
theorem dX10_climb_34 : decode cX10_climb 34 = .ok (.aload_n 0, 1) := by decide +kernel
theorem dX10_climb_35 : decode cX10_climb 35 = .ok (.getfield 74, 3) := by decide +kernel
theorem dX10_climb_38 : decode cX10_climb 38 = .ok (.aload_n 0, 1) := by decide +kernel
theorem dX10_climb_39 : decode cX10_climb 39 = .ok (.getfield 53, 3) := by decide +kernel
theorem dX10_climb_42 : decode cX10_climb 42 = .ok (.invokevirtual 186, 3) := by decide +kernel
theorem dX10_climb_45 : decode cX10_climb 45 = .ok (.invokevirtual 156, 3) := by decide +kernel
theorem dX10_climb_48 : decode cX10_climb 48 = .ok (.iinc 2 1, 3) := by decide +kernel
theorem dX10_climb_51 : decode cX10_climb 51 = .ok (.goto (-39), 3) := by decide +kernel
theorem dX10_climb_54 : decode cX10_climb 54 = .ok (.iload_n 2, 1) := by decide +kernel
theorem dX10_climb_55 : decode cX10_climb 55 = .ok (.ireturn, 1) := by decide +kernel
theorem dX10_move_0 : decode cX10_move 0 = .ok (.aload_n 0, 1) := by decide +kernel
theorem dX10_move_1 : decode cX10_move 1 = .ok (.getfield 78, 3) := by decide +kernel
theorem dX10_move_4 : decode cX10_move 4 = .ok (.iload_n 1, 1) := by decide +kernel
theorem dX10_move_5 : decode cX10_move 5 = .ok (.aload_n 0, 1) := by decide +kernel
theorem dX10_move_6 : decode cX10_move 6 = .ok (.getfield 19, 3) := by decide +kernel
theorem dX10_move_9 : decode cX10_move 9 = .ok (.invokevirtual 116, 3) := by decide +kernel
theorem dX10_move_12 : decode cX10_move 12 = .ok (.aload_n 0, 1) := by decide +kernel
theorem dX10_move_13 : decode cX10_move 13 = .ok (.getfield 12, 3) := by decide +kernel
theorem dX10_move_16 : decode cX10_move 16 = .ok (.invokevirtual 96, 3) := by decide +kernel
theorem dX10_move_19 : decode cX10_move 19 = .ok (.invokevirtual 152, 3) := by decide +kernel
theorem dX10_move_22 : decode cX10_move 22 = .ok (.ifCond .ne 6, 3) := by decide +kernel
theorem dX10_move_25 : decode cX10_move 25 = .ok (.bipush (-2), 2) := by decide +kernel
theorem dX10_move_27 : decode cX10_move 27 = .ok (.ireturn, 1) := by decide +kernel
theorem dX10_move_28 : decode cX10_move 28 = .ok (.aload_n 0, 1) := by decide +kernel
theorem dX10_move_29 : decode cX10_move 29 = .ok (.getfield 60, 3) := by decide +kernel
theorem dX10_move_32 : decode cX10_move 32 = .ok (.aload_n 0, 1) := by decide +kernel
theorem dX10_move_33 : decode cX10_move 33 = .ok (.getfield 74, 3) := by decide +kernel
theorem dX10_move_36 : decode cX10_move 36 = .ok (.aload_n 0, 1) := by decide +kernel
theorem dX10_move_37 : decode cX10_move 37 = .ok (.getfield 78, 3) := by decide +kernel
theorem dX10_move_40 : decode cX10_move 40 = .ok (.invokevirtual 189, 3) := by decide +kernel
theorem dX10_move_43 : decode cX10_move 43 = .ok (.ireturn, 1) := by decide +kernel
theorem dX10_step_0 : decode cX10_step 0 = .ok (.iload_n 2, 1) := by decide +kernel
theorem dX10_step_1 : decode cX10_step 1 = .ok (.ifCond .lt 28, 3) := by decide +kernel
theorem dX10_step_4 : decode cX10_step 4 = .ok (.aload_n 0, 1) := by decide +kernel
theorem dX10_step_5 : decode cX10_step 5 = .ok (.getfield 78, 3) := by decide +kernel
theorem dX10_step_8 : decode cX10_step 8 = .ok (.iload_n 1, 1) := by decide +kernel
theorem dX10_step_9 : decode cX10_step 9 = .ok (.aload_n 0, 1) := by decide +kernel
theorem dX10_step_10 : decode cX10_step 10 = .ok (.getfield 19, 3) := by decide +kernel
theorem dX10_step_13 : decode cX10_step 13 = .ok (.invokevirtual 116, 3) := by decide +kernel
theorem dX10_step_16 : decode cX10_step 16 = .ok (.aload_n 0, 1) := by decide +kernel
theorem dX10_step_17 : decode cX10_step 17 = .ok (.getfield 12, 3) := by decide +kernel
theorem dX10_step_20 : decode cX10_step 20 = .ok (.invokevirtual 96, 3) := by decide +kernel
theorem dX10_step_23 : decode cX10_step 23 = .ok (.invokevirtual 152, 3) := by decide +kernel
theorem dX10_step_26 : decode cX10_step 26 = .ok (.ifCond .ne 6, 3) := by decide +kernel
theorem dX10_step_29 : decode cX10_step 29 = .ok (.bipush (-2), 2) := by decide +kernel
theorem dX10_step_31 : decode cX10_step 31 = .ok (.ireturn, 1) := by decide +kernel
theorem dX10_step_32 : decode cX10_step 32 = .ok (.aload_n 0, 1) := by decide +kernel
theorem dX10_step_33 : decode cX10_step 33 = .ok (.getfield 60, 3) := by decide +kernel
theorem dX10_step_36 : decode cX10_step 36 = .ok (.aload_n 0, 1) := by decide +kernel
theorem dX10_step_37 : decode cX10_step 37 = .ok (.getfield 74, 3) := by decide +kernel
theorem dX10_step_40 : decode cX10_step 40 = .ok (.aload_n 0, 1) := by decide +kernel
theorem dX10_step_41 : decode cX10_step 41 = .ok (.getfield 78, 3) := by decide +kernel
theorem dX10_step_44 : decode cX10_step 44 = .ok (.iload_n 2, 1) := by decide +kernel
theorem dX10_step_45 : decode cX10_step 45 = .ok (.invokevirtual 192, 3) := by decide +kernel
theorem dX10_step_48 : decode cX10_step 48 = .ok (.ireturn, 1) := by decide +kernel
theorem dX10_plan_0 : decode cX10_plan 0 = .ok (.iload_n 1, 1) := by decide +kernel
theorem dX10_plan_1 : decode cX10_plan 1 = .ok (.iconst 1, 1) := by decide +kernel
theorem dX10_plan_2 : decode cX10_plan 2 = .ok (.if_icmp .lt 8, 3) := by decide +kernel
theorem dX10_plan_5 : decode cX10_plan 5 = .ok (.iload_n 1, 1) := by decide +kernel
theorem dX10_plan_6 : decode cX10_plan 6 = .ok (.iconst 4, 1) := by decide +kernel
theorem dX10_plan_7 : decode cX10_plan 7 = .ok (.if_icmp .le 6, 3) := by decide +kernel
theorem dX10_plan_10 : decode cX10_plan 10 = .ok (.bipush (-2), 2) := by decide +kernel
theorem dX10_plan_12 : decode cX10_plan 12 = .ok (.ireturn, 1) := by decide +kernel
theorem dX10_plan_13 : decode cX10_plan 13 = .ok (.aload_n 0, 1) := by decide +kernel
theorem dX10_plan_14 : decode cX10_plan 14 = .ok (.getfield 67, 3) := by decide +kernel
theorem dX10_plan_17 : decode cX10_plan 17 = .ok (.iload_n 1, 1) := by decide +kernel
theorem dX10_plan_18 : decode cX10_plan 18 = .ok (.invokevirtual 196, 3) := by decide +kernel
theorem dX10_plan_21 : decode cX10_plan 21 = .ok (.aload_n 0, 1) := by decide +kernel
theorem dX10_plan_22 : decode cX10_plan 22 = .ok (.getfield 67, 3) := by decide +kernel
theorem dX10_plan_25 : decode cX10_plan 25 = .ok (.invokevirtual 199, 3) := by decide +kernel
theorem dX10_plan_28 : decode cX10_plan 28 = .ok (.ireturn, 1) := by decide +kernel
theorem dX10_planned_0 : decode cX10_planned 0 = .ok (.iload_n 1, 1) := by decide +kernel
theorem dX10_planned_1 : decode cX10_planned 1 = .ok (.iconst 1, 1) := by decide +kernel
theorem dX10_planned_2 : decode cX10_planned 2 = .ok (.if_icmp .lt 17, 3) := by decide +kernel
theorem dX10_planned_5 : decode cX10_planned 5 = .ok (.iload_n 1, 1) := by decide +kernel
theorem dX10_planned_6 : decode cX10_planned 6 = .ok (.iconst 4, 1) := by decide +kernel
theorem dX10_planned_7 : decode cX10_planned 7 = .ok (.if_icmp .gt 12, 3) := by decide +kernel
theorem dX10_planned_10 : decode cX10_planned 10 = .ok (.iload_n 2, 1) := by decide +kernel
theorem dX10_planned_11 : decode cX10_planned 11 = .ok (.ifCond .lt 8, 3) := by decide +kernel
theorem dX10_planned_14 : decode cX10_planned 14 = .ok (.iload_n 2, 1) := by decide +kernel
theorem dX10_planned_15 : decode cX10_planned 15 = .ok (.iload_n 1, 1) := by decide +kernel
theorem dX10_planned_16 : decode cX10_planned 16 = .ok (.if_icmp .lt 6, 3) := by decide +kernel
theorem dX10_planned_19 : decode cX10_planned 19 = .ok (.bipush (-2), 2) := by decide +kernel
theorem dX10_planned_21 : decode cX10_planned 21 = .ok (.ireturn, 1) := by decide +kernel
theorem dX10_planned_22 : decode cX10_planned 22 = .ok (.aload_n 0, 1) := by decide +kernel
theorem dX10_planned_23 : decode cX10_planned 23 = .ok (.getfield 67, 3) := by decide +kernel
theorem dX10_planned_26 : decode cX10_planned 26 = .ok (.iload_n 1, 1) := by decide +kernel
theorem dX10_planned_27 : decode cX10_planned 27 = .ok (.invokevirtual 196, 3) := by decide +kernel
theorem dX10_planned_30 : decode cX10_planned 30 = .ok (.aload_n 0, 1) := by decide +kernel
theorem dX10_planned_31 : decode cX10_planned 31 = .ok (.getfield 67, 3) := by decide +kernel
theorem dX10_planned_34 : decode cX10_planned 34 = .ok (.iload_n 2, 1) := by decide +kernel
theorem dX10_planned_35 : decode cX10_planned 35 = .ok (.invokevirtual 202, 3) := by decide +kernel
theorem dX10_planned_38 : decode cX10_planned 38 = .ok (.ireturn, 1) := by decide +kernel
theorem dX10_count_0 : decode cX10_count 0 = .ok (.iload_n 1, 1) := by decide +kernel
theorem dX10_count_1 : decode cX10_count 1 = .ok (.tableswitch 77 0 4 #[35, 43, 51, 59, 68], 35) := by decide +kernel
theorem dX10_count_36 : decode cX10_count 36 = .ok (.aload_n 0, 1) := by decide +kernel
theorem dX10_count_37 : decode cX10_count 37 = .ok (.getfield 12, 3) := by decide +kernel
theorem dX10_count_40 : decode cX10_count 40 = .ok (.invokevirtual 96, 3) := by decide +kernel
theorem dX10_count_43 : decode cX10_count 43 = .ok (.ireturn, 1) := by decide +kernel
theorem dX10_count_44 : decode cX10_count 44 = .ok (.aload_n 0, 1) := by decide +kernel
theorem dX10_count_45 : decode cX10_count 45 = .ok (.getfield 19, 3) := by decide +kernel
theorem dX10_count_48 : decode cX10_count 48 = .ok (.invokevirtual 116, 3) := by decide +kernel
theorem dX10_count_51 : decode cX10_count 51 = .ok (.ireturn, 1) := by decide +kernel
theorem dX10_count_52 : decode cX10_count 52 = .ok (.aload_n 0, 1) := by decide +kernel
theorem dX10_count_53 : decode cX10_count 53 = .ok (.getfield 19, 3) := by decide +kernel
theorem dX10_count_56 : decode cX10_count 56 = .ok (.invokevirtual 142, 3) := by decide +kernel
theorem dX10_count_59 : decode cX10_count 59 = .ok (.ireturn, 1) := by decide +kernel
theorem dX10_count_60 : decode cX10_count 60 = .ok (.aload_n 0, 1) := by decide +kernel
theorem dX10_count_61 : decode cX10_count 61 = .ok (.getfield 12, 3) := by decide +kernel
theorem dX10_count_64 : decode cX10_count 64 = .ok (.iconst 1, 1) := by decide +kernel
theorem dX10_count_65 : decode cX10_count 65 = .ok (.invokevirtual 205, 3) := by decide +kernel
theorem dX10_count_68 : decode cX10_count 68 = .ok (.ireturn, 1) := by decide +kernel
theorem dX10_count_69 : decode cX10_count 69 = .ok (.aload_n 0, 1) := by decide +kernel
theorem dX10_count_70 : decode cX10_count 70 = .ok (.getfield 12, 3) := by decide +kernel
theorem dX10_count_73 : decode cX10_count 73 = .ok (.iconst 3, 1) := by decide +kernel
theorem dX10_count_74 : decode cX10_count 74 = .ok (.invokevirtual 205, 3) := by decide +kernel
theorem dX10_count_77 : decode cX10_count 77 = .ok (.ireturn, 1) := by decide +kernel
theorem dX10_count_78 : decode cX10_count 78 = .ok (.bipush (-2), 2) := by decide +kernel
theorem dX10_count_80 : decode cX10_count 80 = .ok (.ireturn, 1) := by decide +kernel
theorem dX10_cellAt_0 : decode cX10_cellAt 0 = .ok (.iload_n 0, 1) := by decide +kernel
theorem dX10_cellAt_1 : decode cX10_cellAt 1 = .ok (.ifCond .lt 19, 3) := by decide +kernel
theorem dX10_cellAt_4 : decode cX10_cellAt 4 = .ok (.iload_n 0, 1) := by decide +kernel
theorem dX10_cellAt_5 : decode cX10_cellAt 5 = .ok (.bipush 6, 2) := by decide +kernel
theorem dX10_cellAt_7 : decode cX10_cellAt 7 = .ok (.if_icmp .ge 13, 3) := by decide +kernel
theorem dX10_cellAt_10 : decode cX10_cellAt 10 = .ok (.iload_n 1, 1) := by decide +kernel
theorem dX10_cellAt_11 : decode cX10_cellAt 11 = .ok (.ifCond .lt 9, 3) := by decide +kernel
theorem dX10_cellAt_14 : decode cX10_cellAt 14 = .ok (.iload_n 1, 1) := by decide +kernel
theorem dX10_cellAt_15 : decode cX10_cellAt 15 = .ok (.bipush 6, 2) := by decide +kernel
theorem dX10_cellAt_17 : decode cX10_cellAt 17 = .ok (.if_icmp .lt 7, 3) := by decide +kernel
theorem dX10_cellAt_20 : decode cX10_cellAt 20 = .ok (.iconst (-1), 1) := by decide +kernel
theorem dX10_cellAt_21 : decode cX10_cellAt 21 = .ok (.goto 9, 3) := by decide +kernel
theorem dX10_cellAt_24 : decode cX10_cellAt 24 = .ok (.iload_n 1, 1) := by decide +kernel
theorem dX10_cellAt_25 : decode cX10_cellAt 25 = .ok (.bipush 6, 2) := by decide +kernel
theorem dX10_cellAt_27 : decode cX10_cellAt 27 = .ok (.imul, 1) := by decide +kernel
theorem dX10_cellAt_28 : decode cX10_cellAt 28 = .ok (.iload_n 0, 1) := by decide +kernel
theorem dX10_cellAt_29 : decode cX10_cellAt 29 = .ok (.iadd, 1) := by decide +kernel
theorem dX10_cellAt_30 : decode cX10_cellAt 30 = .ok (.ireturn, 1) := by decide +kernel
theorem dX10_isYear_0 : decode cX10_isYear 0 = .ok (.iload_n 0, 1) := by decide +kernel
theorem dX10_isYear_1 : decode cX10_isYear 1 = .ok (.ifCond .lt 12, 3) := by decide +kernel
theorem dX10_isYear_4 : decode cX10_isYear 4 = .ok (.iload_n 0, 1) := by decide +kernel
theorem dX10_isYear_5 : decode cX10_isYear 5 = .ok (.iconst 4, 1) := by decide +kernel
theorem dX10_isYear_6 : decode cX10_isYear 6 = .ok (.if_icmp .ge 7, 3) := by decide +kernel
theorem dX10_isYear_9 : decode cX10_isYear 9 = .ok (.iconst 1, 1) := by decide +kernel
theorem dX10_isYear_10 : decode cX10_isYear 10 = .ok (.goto 4, 3) := by decide +kernel
theorem dX10_isYear_13 : decode cX10_isYear 13 = .ok (.iconst 0, 1) := by decide +kernel
theorem dX10_isYear_14 : decode cX10_isYear 14 = .ok (.ireturn, 1) := by decide +kernel
end
section
theorem dX11_init_0 : decode cX11_init 0 = .ok (.aload_n 0, 1) := by decide +kernel
theorem dX11_init_1 : decode cX11_init 1 = .ok (.invokespecial 1, 3) := by decide +kernel
theorem dX11_init_4 : decode cX11_init 4 = .ok (.aload_n 0, 1) := by decide +kernel
theorem dX11_init_5 : decode cX11_init 5 = .ok (.bipush 36, 2) := by decide +kernel
theorem dX11_init_7 : decode cX11_init 7 = .ok (.newarray .int, 2) := by decide +kernel
theorem dX11_init_9 : decode cX11_init 9 = .ok (.putfield 7, 3) := by decide +kernel
theorem dX11_init_12 : decode cX11_init 12 = .ok (.aload_n 0, 1) := by decide +kernel
theorem dX11_init_13 : decode cX11_init 13 = .ok (.bipush 36, 2) := by decide +kernel
theorem dX11_init_15 : decode cX11_init 15 = .ok (.newarray .boolean, 2) := by decide +kernel
theorem dX11_init_17 : decode cX11_init 17 = .ok (.putfield 13, 3) := by decide +kernel
theorem dX11_init_20 : decode cX11_init 20 = .ok (.aload_n 0, 1) := by decide +kernel
theorem dX11_init_21 : decode cX11_init 21 = .ok (.bipush 6, 2) := by decide +kernel
theorem dX11_init_23 : decode cX11_init 23 = .ok (.newarray .int, 2) := by decide +kernel
theorem dX11_init_25 : decode cX11_init 25 = .ok (.putfield 17, 3) := by decide +kernel
theorem dX11_init_28 : decode cX11_init 28 = .ok (.aload_n 0, 1) := by decide +kernel
theorem dX11_init_29 : decode cX11_init 29 = .ok (.bipush 41, 2) := by decide +kernel
theorem dX11_init_31 : decode cX11_init 31 = .ok (.putfield 20, 3) := by decide +kernel
theorem dX11_init_34 : decode cX11_init 34 = .ok (.aload_n 0, 1) := by decide +kernel
theorem dX11_init_35 : decode cX11_init 35 = .ok (.iconst 5, 1) := by decide +kernel
theorem dX11_init_36 : decode cX11_init 36 = .ok (.newarray .int, 2) := by decide +kernel
theorem dX11_init_38 : decode cX11_init 38 = .ok (.putfield 24, 3) := by decide +kernel
theorem dX11_init_41 : decode cX11_init 41 = .ok (.aload_n 0, 1) := by decide +kernel
theorem dX11_init_42 : decode cX11_init 42 = .ok (.bipush 100, 2) := by decide +kernel
theorem dX11_init_44 : decode cX11_init 44 = .ok (.newarray .int, 2) := by decide +kernel
theorem dX11_init_46 : decode cX11_init 46 = .ok (.putfield 27, 3) := by decide +kernel
theorem dX11_init_49 : decode cX11_init 49 = .ok (.aload_n 0, 1) := by decide +kernel
theorem dX11_init_50 : decode cX11_init 50 = .ok (.iconst 5, 1) := by decide +kernel
theorem dX11_init_51 : decode cX11_init 51 = .ok (.newarray .int, 2) := by decide +kernel
theorem dX11_init_53 : decode cX11_init 53 = .ok (.putfield 30, 3) := by decide +kernel
theorem dX11_init_56 : decode cX11_init 56 = .ok (.aload_n 0, 1) := by decide +kernel
theorem dX11_init_57 : decode cX11_init 57 = .ok (.bipush 6, 2) := by decide +kernel
theorem dX11_init_59 : decode cX11_init 59 = .ok (.newarray .int, 2) := by decide +kernel
theorem dX11_init_61 : decode cX11_init 61 = .ok (.putfield 33, 3) := by decide +kernel
theorem dX11_init_64 : decode cX11_init 64 = .ok (.aload_n 0, 1) := by decide +kernel
theorem dX11_init_65 : decode cX11_init 65 = .ok (.bipush 6, 2) := by decide +kernel
theorem dX11_init_67 : decode cX11_init 67 = .ok (.newarray .int, 2) := by decide +kernel
theorem dX11_init_69 : decode cX11_init 69 = .ok (.putfield 36, 3) := by decide +kernel
theorem dX11_init_72 : decode cX11_init 72 = .ok (.aload_n 0, 1) := by decide +kernel
theorem dX11_init_73 : decode cX11_init 73 = .ok (.bipush 6, 2) := by decide +kernel
theorem dX11_init_75 : decode cX11_init 75 = .ok (.newarray .boolean, 2) := by decide +kernel
theorem dX11_init_77 : decode cX11_init 77 = .ok (.putfield 39, 3) := by decide +kernel
theorem dX11_init_80 : decode cX11_init 80 = .ok (.aload_n 0, 1) := by decide +kernel
theorem dX11_init_81 : decode cX11_init 81 = .ok (.bipush 6, 2) := by decide +kernel
theorem dX11_init_83 : decode cX11_init 83 = .ok (.newarray .int, 2) := by decide +kernel
theorem dX11_init_85 : decode cX11_init 85 = .ok (.putfield 42, 3) := by decide +kernel
theorem dX11_init_88 : decode cX11_init 88 = .ok (.aload_n 0, 1) := by decide +kernel
theorem dX11_init_89 : decode cX11_init 89 = .ok (.bipush 36, 2) := by decide +kernel
theorem dX11_init_91 : decode cX11_init 91 = .ok (.newarray .int, 2) := by decide +kernel
theorem dX11_init_93 : decode cX11_init 93 = .ok (.putfield 45, 3) := by decide +kernel
theorem dX11_init_96 : decode cX11_init 96 = .ok (.aload_n 0, 1) := by decide +kernel
theorem dX11_init_97 : decode cX11_init 97 = .ok (.bipush 36, 2) := by decide +kernel
theorem dX11_init_99 : decode cX11_init 99 = .ok (.newarray .int, 2) := by decide +kernel
theorem dX11_init_101 : decode cX11_init 101 = .ok (.putfield 48, 3) := by decide +kernel
theorem dX11_init_104 : decode cX11_init 104 = .ok (.aload_n 0, 1) := by decide +kernel
theorem dX11_init_105 : decode cX11_init 105 = .ok (.bipush 36, 2) := by decide +kernel
theorem dX11_init_107 : decode cX11_init 107 = .ok (.newarray .int, 2) := by decide +kernel
theorem dX11_init_109 : decode cX11_init 109 = .ok (.putfield 51, 3) := by decide +kernel
theorem dX11_init_112 : decode cX11_init 112 = .ok (.aload_n 0, 1) := by decide +kernel
theorem dX11_init_113 : decode cX11_init 113 = .ok (.bipush 6, 2) := by decide +kernel
theorem dX11_init_115 : decode cX11_init 115 = .ok (.newarray .int, 2) := by decide +kernel
theorem dX11_init_117 : decode cX11_init 117 = .ok (.putfield 54, 3) := by decide +kernel
theorem dX11_init_120 : decode cX11_init 120 = .ok (.aload_n 0, 1) := by decide +kernel
theorem dX11_init_121 : decode cX11_init 121 = .ok (.iconst 5, 1) := by decide +kernel
theorem dX11_init_122 : decode cX11_init 122 = .ok (.newarray .int, 2) := by decide +kernel
theorem dX11_init_124 : decode cX11_init 124 = .ok (.putfield 57, 3) := by decide +kernel
theorem dX11_init_127 : decode cX11_init 127 = .ok (.aload_n 0, 1) := by decide +kernel
theorem dX11_init_128 : decode cX11_init 128 = .ok (.bipush 15, 2) := by decide +kernel
theorem dX11_init_130 : decode cX11_init 130 = .ok (.newarray .int, 2) := by decide +kernel
theorem dX11_init_132 : decode cX11_init 132 = .ok (.putfield 60, 3) := by decide +kernel
theorem dX11_init_135 : decode cX11_init 135 = .ok (.aload_n 0, 1) := by decide +kernel
theorem dX11_init_136 : decode cX11_init 136 = .ok (.bipush 10, 2) := by decide +kernel
theorem dX11_init_138 : decode cX11_init 138 = .ok (.newarray .int, 2) := by decide +kernel
theorem dX11_init_140 : decode cX11_init 140 = .ok (.putfield 63, 3) := by decide +kernel
theorem dX11_init_143 : decode cX11_init 143 = .ok (.aload_n 0, 1) := by decide +kernel
theorem dX11_init_144 : decode cX11_init 144 = .ok (.sipush 7776, 3) := by decide +kernel
theorem dX11_init_147 : decode cX11_init 147 = .ok (.newarray .int, 2) := by decide +kernel
theorem dX11_init_149 : decode cX11_init 149 = .ok (.putfield 66, 3) := by decide +kernel
theorem dX11_init_152 : decode cX11_init 152 = .ok (.aload_n 0, 1) := by decide +kernel
theorem dX11_init_153 : decode cX11_init 153 = .ok (.sipush 720, 3) := by decide +kernel
theorem dX11_init_156 : decode cX11_init 156 = .ok (.newarray .int, 2) := by decide +kernel
theorem dX11_init_158 : decode cX11_init 158 = .ok (.putfield 69, 3) := by decide +kernel
theorem dX11_init_161 : decode cX11_init 161 = .ok (.aload_n 0, 1) := by decide +kernel
theorem dX11_init_162 : decode cX11_init 162 = .ok (.sipush 2880, 3) := by decide +kernel
theorem dX11_init_165 : decode cX11_init 165 = .ok (.newarray .int, 2) := by decide +kernel
theorem dX11_init_167 : decode cX11_init 167 = .ok (.putfield 72, 3) := by decide +kernel
theorem dX11_init_170 : decode cX11_init 170 = .ok (.aload_n 0, 1) := by decide +kernel
theorem dX11_init_171 : decode cX11_init 171 = .ok (.iconst 5, 1) := by decide +kernel
theorem dX11_init_172 : decode cX11_init 172 = .ok (.newarray .int, 2) := by decide +kernel
theorem dX11_init_174 : decode cX11_init 174 = .ok (.putfield 75, 3) := by decide +kernel
theorem dX11_init_177 : decode cX11_init 177 = .ok (.iconst 0, 1) := by decide +kernel
theorem dX11_init_178 : decode cX11_init 178 = .ok (.istore_n 1, 1) := by decide +kernel
theorem dX11_init_179 : decode cX11_init 179 = .ok (.iload_n 1, 1) := by decide +kernel
theorem dX11_init_180 : decode cX11_init 180 = .ok (.bipush 36, 2) := by decide +kernel
theorem dX11_init_182 : decode cX11_init 182 = .ok (.if_icmp .ge 16, 3) := by decide +kernel
theorem dX11_init_185 : decode cX11_init 185 = .ok (.aload_n 0, 1) := by decide +kernel
theorem dX11_init_186 : decode cX11_init 186 = .ok (.getfield 7, 3) := by decide +kernel
theorem dX11_init_189 : decode cX11_init 189 = .ok (.iload_n 1, 1) := by decide +kernel
theorem dX11_init_190 : decode cX11_init 190 = .ok (.iconst (-1), 1) := by decide +kernel
theorem dX11_init_191 : decode cX11_init 191 = .ok (.iastore, 1) := by decide +kernel
theorem dX11_init_192 : decode cX11_init 192 = .ok (.iinc 1 1, 3) := by decide +kernel
theorem dX11_init_195 : decode cX11_init 195 = .ok (.goto (-16), 3) := by decide +kernel
theorem dX11_init_198 : decode cX11_init 198 = .ok (.return_, 1) := by decide +kernel
theorem dX11_in_0 : decode cX11_in 0 = .ok (.iload_n 0, 1) := by decide +kernel
theorem dX11_in_1 : decode cX11_in 1 = .ok (.iload_n 1, 1) := by decide +kernel
theorem dX11_in_2 : decode cX11_in 2 = .ok (.if_icmp .lt 12, 3) := by decide +kernel
theorem dX11_in_5 : decode cX11_in 5 = .ok (.iload_n 0, 1) := by decide +kernel
theorem dX11_in_6 : decode cX11_in 6 = .ok (.iload_n 2, 1) := by decide +kernel
theorem dX11_in_7 : decode cX11_in 7 = .ok (.if_icmp .gt 7, 3) := by decide +kernel
theorem dX11_in_10 : decode cX11_in 10 = .ok (.iconst 1, 1) := by decide +kernel
theorem dX11_in_11 : decode cX11_in 11 = .ok (.goto 4, 3) := by decide +kernel
theorem dX11_in_14 : decode cX11_in 14 = .ok (.iconst 0, 1) := by decide +kernel
theorem dX11_in_15 : decode cX11_in 15 = .ok (.ireturn, 1) := by decide +kernel
theorem dX11_isCell_0 : decode cX11_isCell 0 = .ok (.iload_n 0, 1) := by decide +kernel
theorem dX11_isCell_1 : decode cX11_isCell 1 = .ok (.iconst 0, 1) := by decide +kernel
theorem dX11_isCell_2 : decode cX11_isCell 2 = .ok (.iconst 5, 1) := by decide +kernel
theorem dX11_isCell_3 : decode cX11_isCell 3 = .ok (.invokestatic 78, 3) := by decide +kernel
theorem dX11_isCell_6 : decode cX11_isCell 6 = .ok (.ifCond .eq 16, 3) := by decide +kernel
theorem dX11_isCell_9 : decode cX11_isCell 9 = .ok (.iload_n 1, 1) := by decide +kernel
theorem dX11_isCell_10 : decode cX11_isCell 10 = .ok (.iconst 0, 1) := by decide +kernel
theorem dX11_isCell_11 : decode cX11_isCell 11 = .ok (.iconst 5, 1) := by decide +kernel
theorem dX11_isCell_12 : decode cX11_isCell 12 = .ok (.invokestatic 78, 3) := by decide +kernel
theorem dX11_isCell_15 : decode cX11_isCell 15 = .ok (.ifCond .eq 7, 3) := by decide +kernel
theorem dX11_isCell_18 : decode cX11_isCell 18 = .ok (.iconst 1, 1) := by decide +kernel
theorem dX11_isCell_19 : decode cX11_isCell 19 = .ok (.goto 4, 3) := by decide +kernel
theorem dX11_isCell_22 : decode cX11_isCell 22 = .ok (.iconst 0, 1) := by decide +kernel
theorem dX11_isCell_23 : decode cX11_isCell 23 = .ok (.ireturn, 1) := by decide +kernel
theorem dX11_isSlot_0 : decode cX11_isSlot 0 = .ok (.iload_n 1, 1) := by decide +kernel
theorem dX11_isSlot_1 : decode cX11_isSlot 1 = .ok (.iconst 0, 1) := by decide +kernel
theorem dX11_isSlot_2 : decode cX11_isSlot 2 = .ok (.aload_n 0, 1) := by decide +kernel
theorem dX11_isSlot_3 : decode cX11_isSlot 3 = .ok (.getfield 82, 3) := by decide +kernel
theorem dX11_isSlot_6 : decode cX11_isSlot 6 = .ok (.iconst 1, 1) := by decide +kernel
theorem dX11_isSlot_7 : decode cX11_isSlot 7 = .ok (.isub, 1) := by decide +kernel
theorem dX11_isSlot_8 : decode cX11_isSlot 8 = .ok (.invokestatic 78, 3) := by decide +kernel
theorem dX11_isSlot_11 : decode cX11_isSlot 11 = .ok (.ireturn, 1) := by decide +kernel
theorem dX11_isShop_0 : decode cX11_isShop 0 = .ok (.iload_n 1, 1) := by decide +kernel
theorem dX11_isShop_1 : decode cX11_isShop 1 = .ok (.iconst 0, 1) := by decide +kernel
theorem dX11_isShop_2 : decode cX11_isShop 2 = .ok (.aload_n 0, 1) := by decide +kernel
theorem dX11_isShop_3 : decode cX11_isShop 3 = .ok (.getfield 85, 3) := by decide +kernel
theorem dX11_isShop_6 : decode cX11_isShop 6 = .ok (.iconst 1, 1) := by decide +kernel
theorem dX11_isShop_7 : decode cX11_isShop 7 = .ok (.isub, 1) := by decide +kernel
theorem dX11_isShop_8 : decode cX11_isShop 8 = .ok (.invokestatic 78, 3) := by decide +kernel
theorem dX11_isShop_11 : decode cX11_isShop 11 = .ok (.ireturn, 1) := by decide +kernel
theorem dX11_isYear_0 : decode cX11_isYear 0 = .ok (.iload_n 0, 1) := by decide +kernel
theorem dX11_isYear_1 : decode cX11_isYear 1 = .ok (.iconst 0, 1) := by decide +kernel
theorem dX11_isYear_2 : decode cX11_isYear 2 = .ok (.iconst 3, 1) := by decide +kernel
theorem dX11_isYear_3 : decode cX11_isYear 3 = .ok (.invokestatic 78, 3) := by decide +kernel
theorem dX11_isYear_6 : decode cX11_isYear 6 = .ok (.ireturn, 1) := by decide +kernel
theorem dX11_column_0 : decode cX11_column 0 = .ok (.iload_n 1, 1) := by decide +kernel
theorem dX11_column_1 : decode cX11_column 1 = .ok (.iload_n 2, 1) := by decide +kernel
theorem dX11_column_2 : decode cX11_column 2 = .ok (.invokestatic 88, 3) := by decide +kernel
theorem dX11_column_5 : decode cX11_column 5 = .ok (.ifCond .ne 6, 3) := by decide +kernel
theorem dX11_column_8 : decode cX11_column 8 = .ok (.bipush (-2), 2) := by decide +kernel
theorem dX11_column_10 : decode cX11_column 10 = .ok (.ireturn, 1) := by decide +kernel
theorem dX11_column_11 : decode cX11_column 11 = .ok (.bipush 6, 2) := by decide +kernel
theorem dX11_column_13 : decode cX11_column 13 = .ok (.iload_n 2, 1) := by decide +kernel
theorem dX11_column_14 : decode cX11_column 14 = .ok (.imul, 1) := by decide +kernel
theorem dX11_column_15 : decode cX11_column 15 = .ok (.iload_n 1, 1) := by decide +kernel
theorem dX11_column_16 : decode cX11_column 16 = .ok (.iadd, 1) := by decide +kernel
theorem dX11_column_17 : decode cX11_column 17 = .ok (.istore 4, 2) := by decide +kernel
theorem dX11_column_19 : decode cX11_column 19 = .ok (.aload_n 0, 1) := by decide +kernel
theorem dX11_column_20 : decode cX11_column 20 = .ok (.getfield 7, 3) := by decide +kernel
theorem dX11_column_23 : decode cX11_column 23 = .ok (.iload 4, 2) := by decide +kernel
theorem dX11_column_25 : decode cX11_column 25 = .ok (.iaload, 1) := by decide +kernel
theorem dX11_column_26 : decode cX11_column 26 = .ok (.ifCond .lt 6, 3) := by decide +kernel
theorem dX11_column_29 : decode cX11_column 29 = .ok (.bipush (-3), 2) := by decide +kernel
theorem dX11_column_31 : decode cX11_column 31 = .ok (.ireturn, 1) := by decide +kernel
theorem dX11_column_32 : decode cX11_column 32 = .ok (.aload_n 0, 1) := by decide +kernel
theorem dX11_column_33 : decode cX11_column 33 = .ok (.getfield 7, 3) := by decide +kernel
theorem dX11_column_36 : decode cX11_column 36 = .ok (.iload 4, 2) := by decide +kernel
theorem dX11_column_38 : decode cX11_column 38 = .ok (.iload_n 3, 1) := by decide +kernel
theorem dX11_column_39 : decode cX11_column 39 = .ok (.ifCond .eq 8, 3) := by decide +kernel
theorem dX11_column_42 : decode cX11_column 42 = .ok (.bipush (-2), 2) := by decide +kernel
theorem dX11_column_44 : decode cX11_column 44 = .ok (.goto 4, 3) := by decide +kernel
theorem dX11_column_47 : decode cX11_column 47 = .ok (.iconst (-1), 1) := by decide +kernel
theorem dX11_column_48 : decode cX11_column 48 = .ok (.iastore, 1) := by decide +kernel
theorem dX11_column_49 : decode cX11_column 49 = .ok (.aload_n 0, 1) := by decide +kernel
theorem dX11_column_50 : decode cX11_column 50 = .ok (.getfield 13, 3) := by decide +kernel
theorem dX11_column_53 : decode cX11_column 53 = .ok (.iload 4, 2) := by decide +kernel
theorem dX11_column_55 : decode cX11_column 55 = .ok (.iconst 0, 1) := by decide +kernel
theorem dX11_column_56 : decode cX11_column 56 = .ok (.bastore, 1) := by decide +kernel
theorem dX11_column_57 : decode cX11_column 57 = .ok (.iconst 1, 1) := by decide +kernel
theorem dX11_column_58 : decode cX11_column 58 = .ok (.ireturn, 1) := by decide +kernel
theorem dX11_slot_0 : decode cX11_slot 0 = .ok (.iload_n 1, 1) := by decide +kernel
theorem dX11_slot_1 : decode cX11_slot 1 = .ok (.iload_n 2, 1) := by decide +kernel
theorem dX11_slot_2 : decode cX11_slot 2 = .ok (.invokestatic 88, 3) := by decide +kernel
theorem dX11_slot_5 : decode cX11_slot 5 = .ok (.ifCond .ne 6, 3) := by decide +kernel
theorem dX11_slot_8 : decode cX11_slot 8 = .ok (.bipush (-2), 2) := by decide +kernel
theorem dX11_slot_10 : decode cX11_slot 10 = .ok (.ireturn, 1) := by decide +kernel
theorem dX11_slot_11 : decode cX11_slot 11 = .ok (.bipush 6, 2) := by decide +kernel
theorem dX11_slot_13 : decode cX11_slot 13 = .ok (.iload_n 2, 1) := by decide +kernel
theorem dX11_slot_14 : decode cX11_slot 14 = .ok (.imul, 1) := by decide +kernel
theorem dX11_slot_15 : decode cX11_slot 15 = .ok (.iload_n 1, 1) := by decide +kernel
theorem dX11_slot_16 : decode cX11_slot 16 = .ok (.iadd, 1) := by decide +kernel
theorem dX11_slot_17 : decode cX11_slot 17 = .ok (.istore_n 3, 1) := by decide +kernel
theorem dX11_slot_18 : decode cX11_slot 18 = .ok (.aload_n 0, 1) := by decide +kernel
theorem dX11_slot_19 : decode cX11_slot 19 = .ok (.getfield 7, 3) := by decide +kernel
theorem dX11_slot_22 : decode cX11_slot 22 = .ok (.iload_n 3, 1) := by decide +kernel
theorem dX11_slot_23 : decode cX11_slot 23 = .ok (.iaload, 1) := by decide +kernel
theorem dX11_slot_24 : decode cX11_slot 24 = .ok (.iconst (-1), 1) := by decide +kernel
theorem dX11_slot_25 : decode cX11_slot 25 = .ok (.if_icmp .ne 12, 3) := by decide +kernel
theorem dX11_slot_28 : decode cX11_slot 28 = .ok (.aload_n 0, 1) := by decide +kernel
theorem dX11_slot_29 : decode cX11_slot 29 = .ok (.getfield 13, 3) := by decide +kernel
theorem dX11_slot_32 : decode cX11_slot 32 = .ok (.iload_n 3, 1) := by decide +kernel
theorem dX11_slot_33 : decode cX11_slot 33 = .ok (.baload, 1) := by decide +kernel
theorem dX11_slot_34 : decode cX11_slot 34 = .ok (.ifCond .eq 6, 3) := by decide +kernel
theorem dX11_slot_37 : decode cX11_slot 37 = .ok (.bipush (-3), 2) := by decide +kernel
theorem dX11_slot_39 : decode cX11_slot 39 = .ok (.ireturn, 1) := by decide +kernel
theorem dX11_slot_40 : decode cX11_slot 40 = .ok (.aload_n 0, 1) := by decide +kernel
theorem dX11_slot_41 : decode cX11_slot 41 = .ok (.getfield 82, 3) := by decide +kernel
theorem dX11_slot_44 : decode cX11_slot 44 = .ok (.bipush 6, 2) := by decide +kernel
theorem dX11_slot_46 : decode cX11_slot 46 = .ok (.if_icmp .ne 6, 3) := by decide +kernel
theorem dX11_slot_49 : decode cX11_slot 49 = .ok (.bipush (-4), 2) := by decide +kernel
theorem dX11_slot_51 : decode cX11_slot 51 = .ok (.ireturn, 1) := by decide +kernel
theorem dX11_slot_52 : decode cX11_slot 52 = .ok (.aload_n 0, 1) := by decide +kernel
theorem dX11_slot_53 : decode cX11_slot 53 = .ok (.getfield 7, 3) := by decide +kernel
theorem dX11_slot_56 : decode cX11_slot 56 = .ok (.iload_n 3, 1) := by decide +kernel
theorem dX11_slot_57 : decode cX11_slot 57 = .ok (.aload_n 0, 1) := by decide +kernel
theorem dX11_slot_58 : decode cX11_slot 58 = .ok (.getfield 82, 3) := by decide +kernel
theorem dX11_slot_61 : decode cX11_slot 61 = .ok (.iastore, 1) := by decide +kernel
theorem dX11_slot_62 : decode cX11_slot 62 = .ok (.aload_n 0, 1) := by decide +kernel
theorem dX11_slot_63 : decode cX11_slot 63 = .ok (.getfield 17, 3) := by decide +kernel
theorem dX11_slot_66 : decode cX11_slot 66 = .ok (.aload_n 0, 1) := by decide +kernel
theorem dX11_slot_67 : decode cX11_slot 67 = .ok (.getfield 82, 3) := by decide +kernel
theorem dX11_slot_70 : decode cX11_slot 70 = .ok (.iload_n 3, 1) := by decide +kernel
theorem dX11_slot_71 : decode cX11_slot 71 = .ok (.iastore, 1) := by decide +kernel
theorem dX11_slot_72 : decode cX11_slot 72 = .ok (.aload_n 0, 1) := by decide +kernel
theorem dX11_slot_73 : decode cX11_slot 73 = .ok (.dup, 1) := by decide +kernel
theorem dX11_slot_74 : decode cX11_slot 74 = .ok (.getfield 82, 3) := by decide +kernel
theorem dX11_slot_77 : decode cX11_slot 77 = .ok (.iconst 1, 1) := by decide +kernel
theorem dX11_slot_78 : decode cX11_slot 78 = .ok (.iadd, 1) := by decide +kernel
theorem dX11_slot_79 : decode cX11_slot 79 = .ok (.putfield 82, 3) := by decide +kernel
theorem dX11_slot_82 : decode cX11_slot 82 = .ok (.aload_n 0, 1) := by decide +kernel
theorem dX11_slot_83 : decode cX11_slot 83 = .ok (.getfield 82, 3) := by decide +kernel
theorem dX11_slot_86 : decode cX11_slot 86 = .ok (.iconst 1, 1) := by decide +kernel
theorem dX11_slot_87 : decode cX11_slot 87 = .ok (.isub, 1) := by decide +kernel
theorem dX11_slot_88 : decode cX11_slot 88 = .ok (.ireturn, 1) := by decide +kernel
theorem dX11_exit_0 : decode cX11_exit 0 = .ok (.iload_n 1, 1) := by decide +kernel
theorem dX11_exit_1 : decode cX11_exit 1 = .ok (.iload_n 2, 1) := by decide +kernel
theorem dX11_exit_2 : decode cX11_exit 2 = .ok (.invokestatic 88, 3) := by decide +kernel
theorem dX11_exit_5 : decode cX11_exit 5 = .ok (.ifCond .ne 6, 3) := by decide +kernel
theorem dX11_exit_8 : decode cX11_exit 8 = .ok (.bipush (-2), 2) := by decide +kernel
theorem dX11_exit_10 : decode cX11_exit 10 = .ok (.ireturn, 1) := by decide +kernel
theorem dX11_exit_11 : decode cX11_exit 11 = .ok (.bipush 6, 2) := by decide +kernel
theorem dX11_exit_13 : decode cX11_exit 13 = .ok (.iload_n 2, 1) := by decide +kernel
theorem dX11_exit_14 : decode cX11_exit 14 = .ok (.imul, 1) := by decide +kernel
theorem dX11_exit_15 : decode cX11_exit 15 = .ok (.iload_n 1, 1) := by decide +kernel
theorem dX11_exit_16 : decode cX11_exit 16 = .ok (.iadd, 1) := by decide +kernel
theorem dX11_exit_17 : decode cX11_exit 17 = .ok (.istore 4, 2) := by decide +kernel
theorem dX11_exit_19 : decode cX11_exit 19 = .ok (.aload_n 0, 1) := by decide +kernel
theorem dX11_exit_20 : decode cX11_exit 20 = .ok (.getfield 7, 3) := by decide +kernel
theorem dX11_exit_23 : decode cX11_exit 23 = .ok (.iload 4, 2) := by decide +kernel
theorem dX11_exit_25 : decode cX11_exit 25 = .ok (.iaload, 1) := by decide +kernel
theorem dX11_exit_26 : decode cX11_exit 26 = .ok (.iconst (-1), 1) := by decide +kernel
theorem dX11_exit_27 : decode cX11_exit 27 = .ok (.if_icmp .eq 6, 3) := by decide +kernel
theorem dX11_exit_30 : decode cX11_exit 30 = .ok (.bipush (-3), 2) := by decide +kernel
theorem dX11_exit_32 : decode cX11_exit 32 = .ok (.ireturn, 1) := by decide +kernel
theorem dX11_exit_33 : decode cX11_exit 33 = .ok (.aload_n 0, 1) := by decide +kernel
theorem dX11_exit_34 : decode cX11_exit 34 = .ok (.getfield 13, 3) := by decide +kernel
theorem dX11_exit_37 : decode cX11_exit 37 = .ok (.iload 4, 2) := by decide +kernel
theorem dX11_exit_39 : decode cX11_exit 39 = .ok (.baload, 1) := by decide +kernel
theorem dX11_exit_40 : decode cX11_exit 40 = .ok (.ifCond .eq 7, 3) := by decide +kernel
theorem dX11_exit_43 : decode cX11_exit 43 = .ok (.iconst 1, 1) := by decide +kernel
theorem dX11_exit_44 : decode cX11_exit 44 = .ok (.goto 4, 3) := by decide +kernel
theorem dX11_exit_47 : decode cX11_exit 47 = .ok (.iconst 0, 1) := by decide +kernel
theorem dX11_exit_48 : decode cX11_exit 48 = .ok (.istore 5, 2) := by decide +kernel
theorem dX11_exit_50 : decode cX11_exit 50 = .ok (.aload_n 0, 1) := by decide +kernel
theorem dX11_exit_51 : decode cX11_exit 51 = .ok (.getfield 13, 3) := by decide +kernel
theorem dX11_exit_54 : decode cX11_exit 54 = .ok (.iload 4, 2) := by decide +kernel
theorem dX11_exit_56 : decode cX11_exit 56 = .ok (.iload_n 3, 1) := by decide +kernel
theorem dX11_exit_57 : decode cX11_exit 57 = .ok (.bastore, 1) := by decide +kernel
theorem dX11_exit_58 : decode cX11_exit 58 = .ok (.iload 5, 2) := by decide +kernel
theorem dX11_exit_60 : decode cX11_exit 60 = .ok (.ireturn, 1) := by decide +kernel
theorem dX11_beside_0 : decode cX11_beside 0 = .ok (.iload_n 0, 1) := by decide +kernel
theorem dX11_beside_1 : decode cX11_beside 1 = .ok (.bipush 6, 2) := by decide +kernel
theorem dX11_beside_3 : decode cX11_beside 3 = .ok (.irem, 1) := by decide +kernel
theorem dX11_beside_4 : decode cX11_beside 4 = .ok (.istore_n 2, 1) := by decide +kernel
theorem dX11_beside_5 : decode cX11_beside 5 = .ok (.iload_n 0, 1) := by decide +kernel
theorem dX11_beside_6 : decode cX11_beside 6 = .ok (.bipush 6, 2) := by decide +kernel
theorem dX11_beside_8 : decode cX11_beside 8 = .ok (.idiv, 1) := by decide +kernel
theorem dX11_beside_9 : decode cX11_beside 9 = .ok (.istore_n 3, 1) := by decide +kernel
theorem dX11_beside_10 : decode cX11_beside 10 = .ok (.iload_n 1, 1) := by decide +kernel
theorem dX11_beside_11 : decode cX11_beside 11 = .ok (.ifCond .ne 16, 3) := by decide +kernel
theorem dX11_beside_14 : decode cX11_beside 14 = .ok (.iload_n 2, 1) := by decide +kernel
theorem dX11_beside_15 : decode cX11_beside 15 = .ok (.iconst 5, 1) := by decide +kernel
theorem dX11_beside_16 : decode cX11_beside 16 = .ok (.if_icmp .ge 7, 3) := by decide +kernel
theorem dX11_beside_19 : decode cX11_beside 19 = .ok (.iconst 1, 1) := by decide +kernel
theorem dX11_beside_20 : decode cX11_beside 20 = .ok (.goto 51, 3) := by decide +kernel
theorem dX11_beside_23 : decode cX11_beside 23 = .ok (.iconst 0, 1) := by decide +kernel
theorem dX11_beside_24 : decode cX11_beside 24 = .ok (.goto 47, 3) := by decide +kernel
theorem dX11_beside_27 : decode cX11_beside 27 = .ok (.iload_n 1, 1) := by decide +kernel
theorem dX11_beside_28 : decode cX11_beside 28 = .ok (.iconst 1, 1) := by decide +kernel
theorem dX11_beside_29 : decode cX11_beside 29 = .ok (.if_icmp .ne 15, 3) := by decide +kernel
theorem dX11_beside_32 : decode cX11_beside 32 = .ok (.iload_n 2, 1) := by decide +kernel
theorem dX11_beside_33 : decode cX11_beside 33 = .ok (.ifCond .le 7, 3) := by decide +kernel
theorem dX11_beside_36 : decode cX11_beside 36 = .ok (.iconst 1, 1) := by decide +kernel
theorem dX11_beside_37 : decode cX11_beside 37 = .ok (.goto 34, 3) := by decide +kernel
theorem dX11_beside_40 : decode cX11_beside 40 = .ok (.iconst 0, 1) := by decide +kernel
theorem dX11_beside_41 : decode cX11_beside 41 = .ok (.goto 30, 3) := by decide +kernel
theorem dX11_beside_44 : decode cX11_beside 44 = .ok (.iload_n 1, 1) := by decide +kernel
theorem dX11_beside_45 : decode cX11_beside 45 = .ok (.iconst 2, 1) := by decide +kernel
theorem dX11_beside_46 : decode cX11_beside 46 = .ok (.if_icmp .ne 16, 3) := by decide +kernel
theorem dX11_beside_49 : decode cX11_beside 49 = .ok (.iload_n 3, 1) := by decide +kernel
theorem dX11_beside_50 : decode cX11_beside 50 = .ok (.iconst 5, 1) := by decide +kernel
theorem dX11_beside_51 : decode cX11_beside 51 = .ok (.if_icmp .ge 7, 3) := by decide +kernel
theorem dX11_beside_54 : decode cX11_beside 54 = .ok (.iconst 1, 1) := by decide +kernel
theorem dX11_beside_55 : decode cX11_beside 55 = .ok (.goto 16, 3) := by decide +kernel
theorem dX11_beside_58 : decode cX11_beside 58 = .ok (.iconst 0, 1) := by decide +kernel
theorem dX11_beside_59 : decode cX11_beside 59 = .ok (.goto 12, 3) := by decide +kernel
theorem dX11_beside_62 : decode cX11_beside 62 = .ok (.iload_n 3, 1) := by decide +kernel
theorem dX11_beside_63 : decode cX11_beside 63 = .ok (.ifCond .le 7, 3) := by decide +kernel
theorem dX11_beside_66 : decode cX11_beside 66 = .ok (.iconst 1, 1) := by decide +kernel
theorem dX11_beside_67 : decode cX11_beside 67 = .ok (.goto 4, 3) := by decide +kernel
theorem dX11_beside_70 : decode cX11_beside 70 = .ok (.iconst 0, 1) := by decide +kernel
theorem dX11_beside_71 : decode cX11_beside 71 = .ok (.istore 4, 2) := by decide +kernel
theorem dX11_beside_73 : decode cX11_beside 73 = .ok (.iload 4, 2) := by decide +kernel
theorem dX11_beside_75 : decode cX11_beside 75 = .ok (.ifCond .ne 7, 3) := by decide +kernel
theorem dX11_beside_78 : decode cX11_beside 78 = .ok (.iconst (-1), 1) := by decide +kernel
theorem dX11_beside_79 : decode cX11_beside 79 = .ok (.goto 40, 3) := by decide +kernel
theorem dX11_beside_82 : decode cX11_beside 82 = .ok (.iload_n 1, 1) := by decide +kernel
theorem dX11_beside_83 : decode cX11_beside 83 = .ok (.ifCond .ne 9, 3) := by decide +kernel
theorem dX11_beside_86 : decode cX11_beside 86 = .ok (.iload_n 0, 1) := by decide +kernel
theorem dX11_beside_87 : decode cX11_beside 87 = .ok (.iconst 1, 1) := by decide +kernel
theorem dX11_beside_88 : decode cX11_beside 88 = .ok (.iadd, 1) := by decide +kernel
theorem dX11_beside_89 : decode cX11_beside 89 = .ok (.goto 30, 3) := by decide +kernel
theorem dX11_beside_92 : decode cX11_beside 92 = .ok (.iload_n 1, 1) := by decide +kernel
theorem dX11_beside_93 : decode cX11_beside 93 = .ok (.iconst 1, 1) := by decide +kernel
theorem dX11_beside_94 : decode cX11_beside 94 = .ok (.if_icmp .ne 9, 3) := by decide +kernel
theorem dX11_beside_97 : decode cX11_beside 97 = .ok (.iload_n 0, 1) := by decide +kernel
theorem dX11_beside_98 : decode cX11_beside 98 = .ok (.iconst 1, 1) := by decide +kernel
theorem dX11_beside_99 : decode cX11_beside 99 = .ok (.isub, 1) := by decide +kernel
theorem dX11_beside_100 : decode cX11_beside 100 = .ok (.goto 19, 3) := by decide +kernel
theorem dX11_beside_103 : decode cX11_beside 103 = .ok (.iload_n 1, 1) := by decide +kernel
theorem dX11_beside_104 : decode cX11_beside 104 = .ok (.iconst 2, 1) := by decide +kernel
theorem dX11_beside_105 : decode cX11_beside 105 = .ok (.if_icmp .ne 10, 3) := by decide +kernel
theorem dX11_beside_108 : decode cX11_beside 108 = .ok (.iload_n 0, 1) := by decide +kernel
theorem dX11_beside_109 : decode cX11_beside 109 = .ok (.bipush 6, 2) := by decide +kernel
theorem dX11_beside_111 : decode cX11_beside 111 = .ok (.iadd, 1) := by decide +kernel
theorem dX11_beside_112 : decode cX11_beside 112 = .ok (.goto 7, 3) := by decide +kernel
theorem dX11_beside_115 : decode cX11_beside 115 = .ok (.iload_n 0, 1) := by decide +kernel
theorem dX11_beside_116 : decode cX11_beside 116 = .ok (.bipush 6, 2) := by decide +kernel
theorem dX11_beside_118 : decode cX11_beside 118 = .ok (.isub, 1) := by decide +kernel
theorem dX11_beside_119 : decode cX11_beside 119 = .ok (.ireturn, 1) := by decide +kernel
theorem dX11_walk_0 : decode cX11_walk 0 = .ok (.iconst 0, 1) := by decide +kernel
theorem dX11_walk_1 : decode cX11_walk 1 = .ok (.istore_n 2, 1) := by decide +kernel
theorem dX11_walk_2 : decode cX11_walk 2 = .ok (.iload_n 2, 1) := by decide +kernel
theorem dX11_walk_3 : decode cX11_walk 3 = .ok (.bipush 36, 2) := by decide +kernel
theorem dX11_walk_5 : decode cX11_walk 5 = .ok (.if_icmp .ge 16, 3) := by decide +kernel
theorem dX11_walk_8 : decode cX11_walk 8 = .ok (.aload_n 0, 1) := by decide +kernel
theorem dX11_walk_9 : decode cX11_walk 9 = .ok (.getfield 45, 3) := by decide +kernel
theorem dX11_walk_12 : decode cX11_walk 12 = .ok (.iload_n 2, 1) := by decide +kernel
theorem dX11_walk_13 : decode cX11_walk 13 = .ok (.iconst (-1), 1) := by decide +kernel
theorem dX11_walk_14 : decode cX11_walk 14 = .ok (.iastore, 1) := by decide +kernel
theorem dX11_walk_15 : decode cX11_walk 15 = .ok (.iinc 2 1, 3) := by decide +kernel
theorem dX11_walk_18 : decode cX11_walk 18 = .ok (.goto (-16), 3) := by decide +kernel
theorem dX11_walk_21 : decode cX11_walk 21 = .ok (.aload_n 0, 1) := by decide +kernel
theorem dX11_walk_22 : decode cX11_walk 22 = .ok (.getfield 45, 3) := by decide +kernel
theorem dX11_walk_25 : decode cX11_walk 25 = .ok (.aload_n 0, 1) := by decide +kernel
theorem dX11_walk_26 : decode cX11_walk 26 = .ok (.getfield 17, 3) := by decide +kernel
theorem dX11_walk_29 : decode cX11_walk 29 = .ok (.iload_n 1, 1) := by decide +kernel
theorem dX11_walk_30 : decode cX11_walk 30 = .ok (.iaload, 1) := by decide +kernel
theorem dX11_walk_31 : decode cX11_walk 31 = .ok (.iconst 0, 1) := by decide +kernel
theorem dX11_walk_32 : decode cX11_walk 32 = .ok (.iastore, 1) := by decide +kernel
theorem dX11_walk_33 : decode cX11_walk 33 = .ok (.aload_n 0, 1) := by decide +kernel
theorem dX11_walk_34 : decode cX11_walk 34 = .ok (.getfield 48, 3) := by decide +kernel
theorem dX11_walk_37 : decode cX11_walk 37 = .ok (.iconst 0, 1) := by decide +kernel
theorem dX11_walk_38 : decode cX11_walk 38 = .ok (.aload_n 0, 1) := by decide +kernel
theorem dX11_walk_39 : decode cX11_walk 39 = .ok (.getfield 17, 3) := by decide +kernel
theorem dX11_walk_42 : decode cX11_walk 42 = .ok (.iload_n 1, 1) := by decide +kernel
theorem dX11_walk_43 : decode cX11_walk 43 = .ok (.iaload, 1) := by decide +kernel
theorem dX11_walk_44 : decode cX11_walk 44 = .ok (.iastore, 1) := by decide +kernel
theorem dX11_walk_45 : decode cX11_walk 45 = .ok (.iconst 1, 1) := by decide +kernel
theorem dX11_walk_46 : decode cX11_walk 46 = .ok (.istore_n 2, 1) := by decide +kernel
theorem dX11_walk_47 : decode cX11_walk 47 = .ok (.iconst 0, 1) := by decide +kernel
theorem dX11_walk_48 : decode cX11_walk 48 = .ok (.istore_n 3, 1) := by decide +kernel
theorem dX11_walk_49 : decode cX11_walk 49 = .ok (.iload_n 3, 1) := by decide +kernel
theorem dX11_walk_50 : decode cX11_walk 50 = .ok (.iload_n 2, 1) := by decide +kernel
theorem dX11_walk_51 : decode cX11_walk 51 = .ok (.if_icmp .ge 108, 3) := by decide +kernel
theorem dX11_walk_54 : decode cX11_walk 54 = .ok (.aload_n 0, 1) := by decide +kernel
theorem dX11_walk_55 : decode cX11_walk 55 = .ok (.getfield 48, 3) := by decide +kernel
theorem dX11_walk_58 : decode cX11_walk 58 = .ok (.iload_n 3, 1) := by decide +kernel
theorem dX11_walk_59 : decode cX11_walk 59 = .ok (.iaload, 1) := by decide +kernel
theorem dX11_walk_60 : decode cX11_walk 60 = .ok (.istore 4, 2) := by decide +kernel
theorem dX11_walk_62 : decode cX11_walk 62 = .ok (.iconst 0, 1) := by decide +kernel
theorem dX11_walk_63 : decode cX11_walk 63 = .ok (.istore 5, 2) := by decide +kernel
theorem dX11_walk_65 : decode cX11_walk 65 = .ok (.iload 5, 2) := by decide +kernel
theorem dX11_walk_67 : decode cX11_walk 67 = .ok (.iconst 4, 1) := by decide +kernel
theorem dX11_walk_68 : decode cX11_walk 68 = .ok (.if_icmp .ge 85, 3) := by decide +kernel
theorem dX11_walk_71 : decode cX11_walk 71 = .ok (.iload 4, 2) := by decide +kernel
theorem dX11_walk_73 : decode cX11_walk 73 = .ok (.iload 5, 2) := by decide +kernel
theorem dX11_walk_75 : decode cX11_walk 75 = .ok (.invokestatic 92, 3) := by decide +kernel
theorem dX11_walk_78 : decode cX11_walk 78 = .ok (.istore 6, 2) := by decide +kernel
theorem dX11_walk_80 : decode cX11_walk 80 = .ok (.iload 6, 2) := by decide +kernel
theorem dX11_walk_82 : decode cX11_walk 82 = .ok (.iconst (-1), 1) := by decide +kernel
theorem dX11_walk_83 : decode cX11_walk 83 = .ok (.if_icmp .eq 64, 3) := by decide +kernel
theorem dX11_walk_86 : decode cX11_walk 86 = .ok (.aload_n 0, 1) := by decide +kernel
theorem dX11_walk_87 : decode cX11_walk 87 = .ok (.getfield 45, 3) := by decide +kernel
theorem dX11_walk_90 : decode cX11_walk 90 = .ok (.iload 6, 2) := by decide +kernel
theorem dX11_walk_92 : decode cX11_walk 92 = .ok (.iaload, 1) := by decide +kernel
theorem dX11_walk_93 : decode cX11_walk 93 = .ok (.iconst (-1), 1) := by decide +kernel
theorem dX11_walk_94 : decode cX11_walk 94 = .ok (.if_icmp .ne 53, 3) := by decide +kernel
theorem dX11_walk_97 : decode cX11_walk 97 = .ok (.aload_n 0, 1) := by decide +kernel
theorem dX11_walk_98 : decode cX11_walk 98 = .ok (.getfield 7, 3) := by decide +kernel
theorem dX11_walk_101 : decode cX11_walk 101 = .ok (.iload 6, 2) := by decide +kernel
theorem dX11_walk_103 : decode cX11_walk 103 = .ok (.iaload, 1) := by decide +kernel
theorem dX11_walk_104 : decode cX11_walk 104 = .ok (.bipush (-2), 2) := by decide +kernel
theorem dX11_walk_106 : decode cX11_walk 106 = .ok (.if_icmp .eq 41, 3) := by decide +kernel
theorem dX11_walk_109 : decode cX11_walk 109 = .ok (.aload_n 0, 1) := by decide +kernel
theorem dX11_walk_110 : decode cX11_walk 110 = .ok (.getfield 45, 3) := by decide +kernel
theorem dX11_walk_113 : decode cX11_walk 113 = .ok (.iload 6, 2) := by decide +kernel
theorem dX11_walk_115 : decode cX11_walk 115 = .ok (.aload_n 0, 1) := by decide +kernel
theorem dX11_walk_116 : decode cX11_walk 116 = .ok (.getfield 45, 3) := by decide +kernel
theorem dX11_walk_119 : decode cX11_walk 119 = .ok (.iload 4, 2) := by decide +kernel
theorem dX11_walk_121 : decode cX11_walk 121 = .ok (.iaload, 1) := by decide +kernel
theorem dX11_walk_122 : decode cX11_walk 122 = .ok (.iconst 1, 1) := by decide +kernel
theorem dX11_walk_123 : decode cX11_walk 123 = .ok (.iadd, 1) := by decide +kernel
theorem dX11_walk_124 : decode cX11_walk 124 = .ok (.iastore, 1) := by decide +kernel
theorem dX11_walk_125 : decode cX11_walk 125 = .ok (.aload_n 0, 1) := by decide +kernel
theorem dX11_walk_126 : decode cX11_walk 126 = .ok (.getfield 7, 3) := by decide +kernel
theorem dX11_walk_129 : decode cX11_walk 129 = .ok (.iload 6, 2) := by decide +kernel
theorem dX11_walk_131 : decode cX11_walk 131 = .ok (.iaload, 1) := by decide +kernel
theorem dX11_walk_132 : decode cX11_walk 132 = .ok (.iconst (-1), 1) := by decide +kernel
theorem dX11_walk_133 : decode cX11_walk 133 = .ok (.if_icmp .ne 14, 3) := by decide +kernel
theorem dX11_walk_136 : decode cX11_walk 136 = .ok (.aload_n 0, 1) := by decide +kernel
theorem dX11_walk_137 : decode cX11_walk 137 = .ok (.getfield 48, 3) := by decide +kernel
theorem dX11_walk_140 : decode cX11_walk 140 = .ok (.iload_n 2, 1) := by decide +kernel
theorem dX11_walk_141 : decode cX11_walk 141 = .ok (.iload 6, 2) := by decide +kernel
theorem dX11_walk_143 : decode cX11_walk 143 = .ok (.iastore, 1) := by decide +kernel
theorem dX11_walk_144 : decode cX11_walk 144 = .ok (.iinc 2 1, 3) := by decide +kernel
theorem dX11_walk_147 : decode cX11_walk 147 = .ok (.iinc 5 1, 3) := by decide +kernel
theorem dX11_walk_150 : decode cX11_walk 150 = .ok (.goto (-85), 3) := by decide +kernel
theorem dX11_walk_153 : decode cX11_walk 153 = .ok (.iinc 3 1, 3) := by decide +kernel
theorem dX11_walk_156 : decode cX11_walk 156 = .ok (.goto (-107), 3) := by decide +kernel
theorem dX11_walk_159 : decode cX11_walk 159 = .ok (.return_, 1) := by decide +kernel
theorem dX11_layFloor_0 : decode cX11_layFloor 0 = .ok (.iconst 0, 1) := by decide +kernel
theorem dX11_layFloor_1 : decode cX11_layFloor 1 = .ok (.istore_n 1, 1) := by decide +kernel
theorem dX11_layFloor_2 : decode cX11_layFloor 2 = .ok (.iload_n 1, 1) := by decide +kernel
theorem dX11_layFloor_3 : decode cX11_layFloor 3 = .ok (.aload_n 0, 1) := by decide +kernel
theorem dX11_layFloor_4 : decode cX11_layFloor 4 = .ok (.getfield 82, 3) := by decide +kernel
theorem dX11_layFloor_7 : decode cX11_layFloor 7 = .ok (.if_icmp .ge 129, 3) := by decide +kernel
theorem dX11_layFloor_10 : decode cX11_layFloor 10 = .ok (.aload_n 0, 1) := by decide +kernel
theorem dX11_layFloor_11 : decode cX11_layFloor 11 = .ok (.iload_n 1, 1) := by decide +kernel
theorem dX11_layFloor_12 : decode cX11_layFloor 12 = .ok (.invokevirtual 96, 3) := by decide +kernel
theorem dX11_layFloor_15 : decode cX11_layFloor 15 = .ok (.iconst 0, 1) := by decide +kernel
theorem dX11_layFloor_16 : decode cX11_layFloor 16 = .ok (.istore_n 2, 1) := by decide +kernel
theorem dX11_layFloor_17 : decode cX11_layFloor 17 = .ok (.iload_n 2, 1) := by decide +kernel
theorem dX11_layFloor_18 : decode cX11_layFloor 18 = .ok (.aload_n 0, 1) := by decide +kernel
theorem dX11_layFloor_19 : decode cX11_layFloor 19 = .ok (.getfield 82, 3) := by decide +kernel
theorem dX11_layFloor_22 : decode cX11_layFloor 22 = .ok (.if_icmp .ge 31, 3) := by decide +kernel
theorem dX11_layFloor_25 : decode cX11_layFloor 25 = .ok (.aload_n 0, 1) := by decide +kernel
theorem dX11_layFloor_26 : decode cX11_layFloor 26 = .ok (.getfield 51, 3) := by decide +kernel
theorem dX11_layFloor_29 : decode cX11_layFloor 29 = .ok (.bipush 6, 2) := by decide +kernel
theorem dX11_layFloor_31 : decode cX11_layFloor 31 = .ok (.iload_n 1, 1) := by decide +kernel
theorem dX11_layFloor_32 : decode cX11_layFloor 32 = .ok (.imul, 1) := by decide +kernel
theorem dX11_layFloor_33 : decode cX11_layFloor 33 = .ok (.iload_n 2, 1) := by decide +kernel
theorem dX11_layFloor_34 : decode cX11_layFloor 34 = .ok (.iadd, 1) := by decide +kernel
theorem dX11_layFloor_35 : decode cX11_layFloor 35 = .ok (.aload_n 0, 1) := by decide +kernel
theorem dX11_layFloor_36 : decode cX11_layFloor 36 = .ok (.getfield 45, 3) := by decide +kernel
theorem dX11_layFloor_39 : decode cX11_layFloor 39 = .ok (.aload_n 0, 1) := by decide +kernel
theorem dX11_layFloor_40 : decode cX11_layFloor 40 = .ok (.getfield 17, 3) := by decide +kernel
theorem dX11_layFloor_43 : decode cX11_layFloor 43 = .ok (.iload_n 2, 1) := by decide +kernel
theorem dX11_layFloor_44 : decode cX11_layFloor 44 = .ok (.iaload, 1) := by decide +kernel
theorem dX11_layFloor_45 : decode cX11_layFloor 45 = .ok (.iaload, 1) := by decide +kernel
theorem dX11_layFloor_46 : decode cX11_layFloor 46 = .ok (.iastore, 1) := by decide +kernel
theorem dX11_layFloor_47 : decode cX11_layFloor 47 = .ok (.iinc 2 1, 3) := by decide +kernel
theorem dX11_layFloor_50 : decode cX11_layFloor 50 = .ok (.goto (-33), 3) := by decide +kernel
theorem dX11_layFloor_53 : decode cX11_layFloor 53 = .ok (.aload_n 0, 1) := by decide +kernel
theorem dX11_layFloor_54 : decode cX11_layFloor 54 = .ok (.getfield 54, 3) := by decide +kernel
theorem dX11_layFloor_57 : decode cX11_layFloor 57 = .ok (.iload_n 1, 1) := by decide +kernel
theorem dX11_layFloor_58 : decode cX11_layFloor 58 = .ok (.iconst (-1), 1) := by decide +kernel
theorem dX11_layFloor_59 : decode cX11_layFloor 59 = .ok (.iastore, 1) := by decide +kernel
theorem dX11_layFloor_60 : decode cX11_layFloor 60 = .ok (.iconst 0, 1) := by decide +kernel
theorem dX11_layFloor_61 : decode cX11_layFloor 61 = .ok (.istore_n 2, 1) := by decide +kernel
theorem dX11_layFloor_62 : decode cX11_layFloor 62 = .ok (.iload_n 2, 1) := by decide +kernel
theorem dX11_layFloor_63 : decode cX11_layFloor 63 = .ok (.bipush 36, 2) := by decide +kernel
theorem dX11_layFloor_65 : decode cX11_layFloor 65 = .ok (.if_icmp .ge 65, 3) := by decide +kernel
theorem dX11_layFloor_68 : decode cX11_layFloor 68 = .ok (.aload_n 0, 1) := by decide +kernel
theorem dX11_layFloor_69 : decode cX11_layFloor 69 = .ok (.getfield 13, 3) := by decide +kernel
theorem dX11_layFloor_72 : decode cX11_layFloor 72 = .ok (.iload_n 2, 1) := by decide +kernel
theorem dX11_layFloor_73 : decode cX11_layFloor 73 = .ok (.baload, 1) := by decide +kernel
theorem dX11_layFloor_74 : decode cX11_layFloor 74 = .ok (.ifCond .eq 50, 3) := by decide +kernel
theorem dX11_layFloor_77 : decode cX11_layFloor 77 = .ok (.aload_n 0, 1) := by decide +kernel
theorem dX11_layFloor_78 : decode cX11_layFloor 78 = .ok (.getfield 45, 3) := by decide +kernel
theorem dX11_layFloor_81 : decode cX11_layFloor 81 = .ok (.iload_n 2, 1) := by decide +kernel
theorem dX11_layFloor_82 : decode cX11_layFloor 82 = .ok (.iaload, 1) := by decide +kernel
theorem dX11_layFloor_83 : decode cX11_layFloor 83 = .ok (.iconst (-1), 1) := by decide +kernel
theorem dX11_layFloor_84 : decode cX11_layFloor 84 = .ok (.if_icmp .eq 40, 3) := by decide +kernel
theorem dX11_layFloor_87 : decode cX11_layFloor 87 = .ok (.aload_n 0, 1) := by decide +kernel
theorem dX11_layFloor_88 : decode cX11_layFloor 88 = .ok (.getfield 54, 3) := by decide +kernel
theorem dX11_layFloor_91 : decode cX11_layFloor 91 = .ok (.iload_n 1, 1) := by decide +kernel
theorem dX11_layFloor_92 : decode cX11_layFloor 92 = .ok (.iaload, 1) := by decide +kernel
theorem dX11_layFloor_93 : decode cX11_layFloor 93 = .ok (.iconst (-1), 1) := by decide +kernel
theorem dX11_layFloor_94 : decode cX11_layFloor 94 = .ok (.if_icmp .eq 18, 3) := by decide +kernel
theorem dX11_layFloor_97 : decode cX11_layFloor 97 = .ok (.aload_n 0, 1) := by decide +kernel
theorem dX11_layFloor_98 : decode cX11_layFloor 98 = .ok (.getfield 45, 3) := by decide +kernel
theorem dX11_layFloor_101 : decode cX11_layFloor 101 = .ok (.iload_n 2, 1) := by decide +kernel
theorem dX11_layFloor_102 : decode cX11_layFloor 102 = .ok (.iaload, 1) := by decide +kernel
theorem dX11_layFloor_103 : decode cX11_layFloor 103 = .ok (.aload_n 0, 1) := by decide +kernel
theorem dX11_layFloor_104 : decode cX11_layFloor 104 = .ok (.getfield 54, 3) := by decide +kernel
theorem dX11_layFloor_107 : decode cX11_layFloor 107 = .ok (.iload_n 1, 1) := by decide +kernel
theorem dX11_layFloor_108 : decode cX11_layFloor 108 = .ok (.iaload, 1) := by decide +kernel
theorem dX11_layFloor_109 : decode cX11_layFloor 109 = .ok (.if_icmp .ge 15, 3) := by decide +kernel
theorem dX11_layFloor_112 : decode cX11_layFloor 112 = .ok (.aload_n 0, 1) := by decide +kernel
theorem dX11_layFloor_113 : decode cX11_layFloor 113 = .ok (.getfield 54, 3) := by decide +kernel
theorem dX11_layFloor_116 : decode cX11_layFloor 116 = .ok (.iload_n 1, 1) := by decide +kernel
theorem dX11_layFloor_117 : decode cX11_layFloor 117 = .ok (.aload_n 0, 1) := by decide +kernel
theorem dX11_layFloor_118 : decode cX11_layFloor 118 = .ok (.getfield 45, 3) := by decide +kernel
theorem dX11_layFloor_121 : decode cX11_layFloor 121 = .ok (.iload_n 2, 1) := by decide +kernel
theorem dX11_layFloor_122 : decode cX11_layFloor 122 = .ok (.iaload, 1) := by decide +kernel
theorem dX11_layFloor_123 : decode cX11_layFloor 123 = .ok (.iastore, 1) := by decide +kernel
theorem dX11_layFloor_124 : decode cX11_layFloor 124 = .ok (.iinc 2 1, 3) := by decide +kernel
theorem dX11_layFloor_127 : decode cX11_layFloor 127 = .ok (.goto (-65), 3) := by decide +kernel
theorem dX11_layFloor_130 : decode cX11_layFloor 130 = .ok (.iinc 1 1, 3) := by decide +kernel
theorem dX11_layFloor_133 : decode cX11_layFloor 133 = .ok (.goto (-131), 3) := by decide +kernel
theorem dX11_layFloor_136 : decode cX11_layFloor 136 = .ok (.return_, 1) := by decide +kernel
theorem dX11_far_0 : decode cX11_far 0 = .ok (.aload_n 0, 1) := by decide +kernel
theorem dX11_far_1 : decode cX11_far 1 = .ok (.iload_n 1, 1) := by decide +kernel
theorem dX11_far_2 : decode cX11_far 2 = .ok (.invokevirtual 100, 3) := by decide +kernel
theorem dX11_far_5 : decode cX11_far 5 = .ok (.ifCond .eq 11, 3) := by decide +kernel
theorem dX11_far_8 : decode cX11_far 8 = .ok (.aload_n 0, 1) := by decide +kernel
theorem dX11_far_9 : decode cX11_far 9 = .ok (.iload_n 2, 1) := by decide +kernel
theorem dX11_far_10 : decode cX11_far 10 = .ok (.invokevirtual 100, 3) := by decide +kernel
theorem dX11_far_13 : decode cX11_far 13 = .ok (.ifCond .ne 6, 3) := by decide +kernel
theorem dX11_far_16 : decode cX11_far 16 = .ok (.bipush (-2), 2) := by decide +kernel
theorem dX11_far_18 : decode cX11_far 18 = .ok (.ireturn, 1) := by decide +kernel
theorem dX11_far_19 : decode cX11_far 19 = .ok (.aload_n 0, 1) := by decide +kernel
theorem dX11_far_20 : decode cX11_far 20 = .ok (.invokevirtual 104, 3) := by decide +kernel
theorem dX11_far_23 : decode cX11_far 23 = .ok (.aload_n 0, 1) := by decide +kernel
theorem dX11_far_24 : decode cX11_far 24 = .ok (.getfield 51, 3) := by decide +kernel
theorem dX11_far_27 : decode cX11_far 27 = .ok (.bipush 6, 2) := by decide +kernel
theorem dX11_far_29 : decode cX11_far 29 = .ok (.iload_n 1, 1) := by decide +kernel
theorem dX11_far_30 : decode cX11_far 30 = .ok (.imul, 1) := by decide +kernel
theorem dX11_far_31 : decode cX11_far 31 = .ok (.iload_n 2, 1) := by decide +kernel
theorem dX11_far_32 : decode cX11_far 32 = .ok (.iadd, 1) := by decide +kernel
theorem dX11_far_33 : decode cX11_far 33 = .ok (.iaload, 1) := by decide +kernel
theorem dX11_far_34 : decode cX11_far 34 = .ok (.ireturn, 1) := by decide +kernel
theorem dX11_out_0 : decode cX11_out 0 = .ok (.aload_n 0, 1) := by decide +kernel
theorem dX11_out_1 : decode cX11_out 1 = .ok (.iload_n 1, 1) := by decide +kernel
theorem dX11_out_2 : decode cX11_out 2 = .ok (.invokevirtual 100, 3) := by decide +kernel
theorem dX11_out_5 : decode cX11_out 5 = .ok (.ifCond .ne 6, 3) := by decide +kernel
theorem dX11_out_8 : decode cX11_out 8 = .ok (.bipush (-2), 2) := by decide +kernel
theorem dX11_out_10 : decode cX11_out 10 = .ok (.ireturn, 1) := by decide +kernel
theorem dX11_out_11 : decode cX11_out 11 = .ok (.aload_n 0, 1) := by decide +kernel
theorem dX11_out_12 : decode cX11_out 12 = .ok (.invokevirtual 104, 3) := by decide +kernel
theorem dX11_out_15 : decode cX11_out 15 = .ok (.aload_n 0, 1) := by decide +kernel
theorem dX11_out_16 : decode cX11_out 16 = .ok (.getfield 54, 3) := by decide +kernel
theorem dX11_out_19 : decode cX11_out 19 = .ok (.iload_n 1, 1) := by decide +kernel
theorem dX11_out_20 : decode cX11_out 20 = .ok (.iaload, 1) := by decide +kernel
theorem dX11_out_21 : decode cX11_out 21 = .ok (.ireturn, 1) := by decide +kernel
theorem dX11_bound_0 : decode cX11_bound 0 = .ok (.iload_n 1, 1) := by decide +kernel
theorem dX11_bound_1 : decode cX11_bound 1 = .ok (.iconst 0, 1) := by decide +kernel
theorem dX11_bound_2 : decode cX11_bound 2 = .ok (.bipush 41, 2) := by decide +kernel
theorem dX11_bound_4 : decode cX11_bound 4 = .ok (.invokestatic 78, 3) := by decide +kernel
theorem dX11_bound_7 : decode cX11_bound 7 = .ok (.ifCond .ne 6, 3) := by decide +kernel
theorem dX11_bound_10 : decode cX11_bound 10 = .ok (.bipush (-2), 2) := by decide +kernel
theorem dX11_bound_12 : decode cX11_bound 12 = .ok (.ireturn, 1) := by decide +kernel
theorem dX11_bound_13 : decode cX11_bound 13 = .ok (.aload_n 0, 1) := by decide +kernel
theorem dX11_bound_14 : decode cX11_bound 14 = .ok (.getfield 20, 3) := by decide +kernel
theorem dX11_bound_17 : decode cX11_bound 17 = .ok (.istore_n 2, 1) := by decide +kernel
theorem dX11_bound_18 : decode cX11_bound 18 = .ok (.aload_n 0, 1) := by decide +kernel
theorem dX11_bound_19 : decode cX11_bound 19 = .ok (.iload_n 1, 1) := by decide +kernel
theorem dX11_bound_20 : decode cX11_bound 20 = .ok (.putfield 20, 3) := by decide +kernel
theorem dX11_bound_23 : decode cX11_bound 23 = .ok (.iload_n 2, 1) := by decide +kernel
theorem dX11_bound_24 : decode cX11_bound 24 = .ok (.ireturn, 1) := by decide +kernel
theorem dX11_shop_0 : decode cX11_shop 0 = .ok (.aload_n 0, 1) := by decide +kernel
theorem dX11_shop_1 : decode cX11_shop 1 = .ok (.getfield 85, 3) := by decide +kernel
theorem dX11_shop_4 : decode cX11_shop 4 = .ok (.iconst 5, 1) := by decide +kernel
theorem dX11_shop_5 : decode cX11_shop 5 = .ok (.if_icmp .ne 6, 3) := by decide +kernel
theorem dX11_shop_8 : decode cX11_shop 8 = .ok (.bipush (-4), 2) := by decide +kernel
theorem dX11_shop_10 : decode cX11_shop 10 = .ok (.ireturn, 1) := by decide +kernel
theorem dX11_shop_11 : decode cX11_shop 11 = .ok (.aload_n 0, 1) := by decide +kernel
theorem dX11_shop_12 : decode cX11_shop 12 = .ok (.getfield 82, 3) := by decide +kernel
theorem dX11_shop_15 : decode cX11_shop 15 = .ok (.aload_n 0, 1) := by decide +kernel
theorem dX11_shop_16 : decode cX11_shop 16 = .ok (.getfield 85, 3) := by decide +kernel
theorem dX11_shop_19 : decode cX11_shop 19 = .ok (.if_icmp .gt 6, 3) := by decide +kernel
theorem dX11_shop_22 : decode cX11_shop 22 = .ok (.bipush (-3), 2) := by decide +kernel
theorem dX11_shop_24 : decode cX11_shop 24 = .ok (.ireturn, 1) := by decide +kernel
theorem dX11_shop_25 : decode cX11_shop 25 = .ok (.iconst 0, 1) := by decide +kernel
theorem dX11_shop_26 : decode cX11_shop 26 = .ok (.istore_n 1, 1) := by decide +kernel
theorem dX11_shop_27 : decode cX11_shop 27 = .ok (.iconst 0, 1) := by decide +kernel
theorem dX11_shop_28 : decode cX11_shop 28 = .ok (.istore_n 2, 1) := by decide +kernel
theorem dX11_shop_29 : decode cX11_shop 29 = .ok (.iload_n 2, 1) := by decide +kernel
theorem dX11_shop_30 : decode cX11_shop 30 = .ok (.aload_n 0, 1) := by decide +kernel
theorem dX11_shop_31 : decode cX11_shop 31 = .ok (.getfield 85, 3) := by decide +kernel
theorem dX11_shop_34 : decode cX11_shop 34 = .ok (.if_icmp .ge 20, 3) := by decide +kernel
theorem dX11_shop_37 : decode cX11_shop 37 = .ok (.iload_n 1, 1) := by decide +kernel
theorem dX11_shop_38 : decode cX11_shop 38 = .ok (.iconst 1, 1) := by decide +kernel
theorem dX11_shop_39 : decode cX11_shop 39 = .ok (.aload_n 0, 1) := by decide +kernel
theorem dX11_shop_40 : decode cX11_shop 40 = .ok (.getfield 24, 3) := by decide +kernel
theorem dX11_shop_43 : decode cX11_shop 43 = .ok (.iload_n 2, 1) := by decide +kernel
theorem dX11_shop_44 : decode cX11_shop 44 = .ok (.iaload, 1) := by decide +kernel
theorem dX11_shop_45 : decode cX11_shop 45 = .ok (.ishl, 1) := by decide +kernel
theorem dX11_shop_46 : decode cX11_shop 46 = .ok (.ior, 1) := by decide +kernel
theorem dX11_shop_47 : decode cX11_shop 47 = .ok (.istore_n 1, 1) := by decide +kernel
theorem dX11_shop_48 : decode cX11_shop 48 = .ok (.iinc 2 1, 3) := by decide +kernel
theorem dX11_shop_51 : decode cX11_shop 51 = .ok (.goto (-22), 3) := by decide +kernel
theorem dX11_shop_54 : decode cX11_shop 54 = .ok (.iconst 0, 1) := by decide +kernel
theorem dX11_shop_55 : decode cX11_shop 55 = .ok (.istore_n 2, 1) := by decide +kernel
theorem dX11_shop_56 : decode cX11_shop 56 = .ok (.iload_n 1, 1) := by decide +kernel
theorem dX11_shop_57 : decode cX11_shop 57 = .ok (.iload_n 2, 1) := by decide +kernel
theorem dX11_shop_58 : decode cX11_shop 58 = .ok (.ishr, 1) := by decide +kernel
theorem dX11_shop_59 : decode cX11_shop 59 = .ok (.iconst 1, 1) := by decide +kernel
theorem dX11_shop_60 : decode cX11_shop 60 = .ok (.iand, 1) := by decide +kernel
theorem dX11_shop_61 : decode cX11_shop 61 = .ok (.iconst 1, 1) := by decide +kernel
theorem dX11_shop_62 : decode cX11_shop 62 = .ok (.if_icmp .ne 9, 3) := by decide +kernel
theorem dX11_shop_65 : decode cX11_shop 65 = .ok (.iinc 2 1, 3) := by decide +kernel
theorem dX11_shop_68 : decode cX11_shop 68 = .ok (.goto (-12), 3) := by decide +kernel
theorem dX11_shop_71 : decode cX11_shop 71 = .ok (.aload_n 0, 1) := by decide +kernel
theorem dX11_shop_72 : decode cX11_shop 72 = .ok (.getfield 24, 3) := by decide +kernel
theorem dX11_shop_75 : decode cX11_shop 75 = .ok (.aload_n 0, 1) := by decide +kernel
theorem dX11_shop_76 : decode cX11_shop 76 = .ok (.getfield 85, 3) := by decide +kernel
theorem dX11_shop_79 : decode cX11_shop 79 = .ok (.iload_n 2, 1) := by decide +kernel
theorem dX11_shop_80 : decode cX11_shop 80 = .ok (.iastore, 1) := by decide +kernel
theorem dX11_shop_81 : decode cX11_shop 81 = .ok (.aload_n 0, 1) := by decide +kernel
theorem dX11_shop_82 : decode cX11_shop 82 = .ok (.getfield 30, 3) := by decide +kernel
theorem dX11_shop_85 : decode cX11_shop 85 = .ok (.aload_n 0, 1) := by decide +kernel
theorem dX11_shop_86 : decode cX11_shop 86 = .ok (.getfield 85, 3) := by decide +kernel
theorem dX11_shop_89 : decode cX11_shop 89 = .ok (.iconst 1, 1) := by decide +kernel
theorem dX11_shop_90 : decode cX11_shop 90 = .ok (.iastore, 1) := by decide +kernel
theorem dX11_shop_91 : decode cX11_shop 91 = .ok (.aload_n 0, 1) := by decide +kernel
theorem dX11_shop_92 : decode cX11_shop 92 = .ok (.dup, 1) := by decide +kernel
theorem dX11_shop_93 : decode cX11_shop 93 = .ok (.getfield 85, 3) := by decide +kernel
theorem dX11_shop_96 : decode cX11_shop 96 = .ok (.iconst 1, 1) := by decide +kernel
theorem dX11_shop_97 : decode cX11_shop 97 = .ok (.iadd, 1) := by decide +kernel
theorem dX11_shop_98 : decode cX11_shop 98 = .ok (.putfield 85, 3) := by decide +kernel
theorem dX11_shop_101 : decode cX11_shop 101 = .ok (.aload_n 0, 1) := by decide +kernel
theorem dX11_shop_102 : decode cX11_shop 102 = .ok (.getfield 85, 3) := by decide +kernel
theorem dX11_shop_105 : decode cX11_shop 105 = .ok (.iconst 1, 1) := by decide +kernel
theorem dX11_shop_106 : decode cX11_shop 106 = .ok (.isub, 1) := by decide +kernel
theorem dX11_shop_107 : decode cX11_shop 107 = .ok (.ireturn, 1) := by decide +kernel
theorem dX11_load_0 : decode cX11_load 0 = .ok (.iload_n 1, 1) := by decide +kernel
theorem dX11_load_1 : decode cX11_load 1 = .ok (.invokestatic 107, 3) := by decide +kernel
theorem dX11_load_4 : decode cX11_load 4 = .ok (.ifCond .eq 35, 3) := by decide +kernel
theorem dX11_load_7 : decode cX11_load 7 = .ok (.aload_n 0, 1) := by decide +kernel
theorem dX11_load_8 : decode cX11_load 8 = .ok (.iload_n 2, 1) := by decide +kernel
theorem dX11_load_9 : decode cX11_load 9 = .ok (.invokevirtual 110, 3) := by decide +kernel
theorem dX11_load_12 : decode cX11_load 12 = .ok (.ifCond .eq 27, 3) := by decide +kernel
theorem dX11_load_15 : decode cX11_load 15 = .ok (.aload_n 0, 1) := by decide +kernel
theorem dX11_load_16 : decode cX11_load 16 = .ok (.iload_n 3, 1) := by decide +kernel
theorem dX11_load_17 : decode cX11_load 17 = .ok (.invokevirtual 110, 3) := by decide +kernel
theorem dX11_load_20 : decode cX11_load 20 = .ok (.ifCond .eq 19, 3) := by decide +kernel
theorem dX11_load_23 : decode cX11_load 23 = .ok (.iload_n 2, 1) := by decide +kernel
theorem dX11_load_24 : decode cX11_load 24 = .ok (.iload_n 3, 1) := by decide +kernel
theorem dX11_load_25 : decode cX11_load 25 = .ok (.if_icmp .eq 14, 3) := by decide +kernel
theorem dX11_load_28 : decode cX11_load 28 = .ok (.iload 4, 2) := by decide +kernel
theorem dX11_load_30 : decode cX11_load 30 = .ok (.iconst 0, 1) := by decide +kernel
theorem dX11_load_31 : decode cX11_load 31 = .ok (.bipush 99, 2) := by decide +kernel
theorem dX11_load_33 : decode cX11_load 33 = .ok (.invokestatic 78, 3) := by decide +kernel
theorem dX11_load_36 : decode cX11_load 36 = .ok (.ifCond .ne 6, 3) := by decide +kernel
theorem dX11_load_39 : decode cX11_load 39 = .ok (.bipush (-2), 2) := by decide +kernel
theorem dX11_load_41 : decode cX11_load 41 = .ok (.ireturn, 1) := by decide +kernel
theorem dX11_load_42 : decode cX11_load 42 = .ok (.bipush 25, 2) := by decide +kernel
theorem dX11_load_44 : decode cX11_load 44 = .ok (.iload_n 1, 1) := by decide +kernel
theorem dX11_load_45 : decode cX11_load 45 = .ok (.imul, 1) := by decide +kernel
theorem dX11_load_46 : decode cX11_load 46 = .ok (.iconst 5, 1) := by decide +kernel
theorem dX11_load_47 : decode cX11_load 47 = .ok (.iload_n 2, 1) := by decide +kernel
theorem dX11_load_48 : decode cX11_load 48 = .ok (.imul, 1) := by decide +kernel
theorem dX11_load_49 : decode cX11_load 49 = .ok (.iadd, 1) := by decide +kernel
theorem dX11_load_50 : decode cX11_load 50 = .ok (.iload_n 3, 1) := by decide +kernel
theorem dX11_load_51 : decode cX11_load 51 = .ok (.iadd, 1) := by decide +kernel
theorem dX11_load_52 : decode cX11_load 52 = .ok (.istore 5, 2) := by decide +kernel
theorem dX11_load_54 : decode cX11_load 54 = .ok (.aload_n 0, 1) := by decide +kernel
theorem dX11_load_55 : decode cX11_load 55 = .ok (.getfield 27, 3) := by decide +kernel
theorem dX11_load_58 : decode cX11_load 58 = .ok (.iload 5, 2) := by decide +kernel
theorem dX11_load_60 : decode cX11_load 60 = .ok (.iaload, 1) := by decide +kernel
theorem dX11_load_61 : decode cX11_load 61 = .ok (.istore 6, 2) := by decide +kernel
theorem dX11_load_63 : decode cX11_load 63 = .ok (.aload_n 0, 1) := by decide +kernel
theorem dX11_load_64 : decode cX11_load 64 = .ok (.getfield 27, 3) := by decide +kernel
theorem dX11_load_67 : decode cX11_load 67 = .ok (.iload 5, 2) := by decide +kernel
theorem dX11_load_69 : decode cX11_load 69 = .ok (.iload 4, 2) := by decide +kernel
theorem dX11_load_71 : decode cX11_load 71 = .ok (.iastore, 1) := by decide +kernel
theorem dX11_load_72 : decode cX11_load 72 = .ok (.iload 6, 2) := by decide +kernel
theorem dX11_load_74 : decode cX11_load 74 = .ok (.ireturn, 1) := by decide +kernel
theorem dX11_weight_0 : decode cX11_weight 0 = .ok (.aload_n 0, 1) := by decide +kernel
theorem dX11_weight_1 : decode cX11_weight 1 = .ok (.iload_n 1, 1) := by decide +kernel
theorem dX11_weight_2 : decode cX11_weight 2 = .ok (.invokevirtual 110, 3) := by decide +kernel
theorem dX11_weight_5 : decode cX11_weight 5 = .ok (.ifCond .eq 13, 3) := by decide +kernel
theorem dX11_weight_8 : decode cX11_weight 8 = .ok (.iload_n 2, 1) := by decide +kernel
theorem dX11_weight_9 : decode cX11_weight 9 = .ok (.iconst 1, 1) := by decide +kernel
theorem dX11_weight_10 : decode cX11_weight 10 = .ok (.bipush 50, 2) := by decide +kernel
theorem dX11_weight_12 : decode cX11_weight 12 = .ok (.invokestatic 78, 3) := by decide +kernel
theorem dX11_weight_15 : decode cX11_weight 15 = .ok (.ifCond .ne 6, 3) := by decide +kernel
theorem dX11_weight_18 : decode cX11_weight 18 = .ok (.bipush (-2), 2) := by decide +kernel
theorem dX11_weight_20 : decode cX11_weight 20 = .ok (.ireturn, 1) := by decide +kernel
theorem dX11_weight_21 : decode cX11_weight 21 = .ok (.aload_n 0, 1) := by decide +kernel
theorem dX11_weight_22 : decode cX11_weight 22 = .ok (.getfield 30, 3) := by decide +kernel
theorem dX11_weight_25 : decode cX11_weight 25 = .ok (.iload_n 1, 1) := by decide +kernel
theorem dX11_weight_26 : decode cX11_weight 26 = .ok (.iaload, 1) := by decide +kernel
theorem dX11_weight_27 : decode cX11_weight 27 = .ok (.istore_n 3, 1) := by decide +kernel
theorem dX11_weight_28 : decode cX11_weight 28 = .ok (.aload_n 0, 1) := by decide +kernel
theorem dX11_weight_29 : decode cX11_weight 29 = .ok (.getfield 30, 3) := by decide +kernel
theorem dX11_weight_32 : decode cX11_weight 32 = .ok (.iload_n 1, 1) := by decide +kernel
theorem dX11_weight_33 : decode cX11_weight 33 = .ok (.iload_n 2, 1) := by decide +kernel
theorem dX11_weight_34 : decode cX11_weight 34 = .ok (.iastore, 1) := by decide +kernel
theorem dX11_weight_35 : decode cX11_weight 35 = .ok (.iload_n 3, 1) := by decide +kernel
theorem dX11_weight_36 : decode cX11_weight 36 = .ok (.ireturn, 1) := by decide +kernel
theorem dX11_wish_0 : decode cX11_wish 0 = .ok (.aload_n 0, 1) := by decide +kernel
theorem dX11_wish_1 : decode cX11_wish 1 = .ok (.iload_n 1, 1) := by decide +kernel
theorem dX11_wish_2 : decode cX11_wish 2 = .ok (.invokevirtual 110, 3) := by decide +kernel
theorem dX11_wish_5 : decode cX11_wish 5 = .ok (.ifCond .eq 27, 3) := by decide +kernel
theorem dX11_wish_8 : decode cX11_wish 8 = .ok (.aload_n 0, 1) := by decide +kernel
theorem dX11_wish_9 : decode cX11_wish 9 = .ok (.iload_n 2, 1) := by decide +kernel
theorem dX11_wish_10 : decode cX11_wish 10 = .ok (.invokevirtual 110, 3) := by decide +kernel
theorem dX11_wish_13 : decode cX11_wish 13 = .ok (.ifCond .eq 19, 3) := by decide +kernel
theorem dX11_wish_16 : decode cX11_wish 16 = .ok (.iload_n 1, 1) := by decide +kernel
theorem dX11_wish_17 : decode cX11_wish 17 = .ok (.iload_n 2, 1) := by decide +kernel
theorem dX11_wish_18 : decode cX11_wish 18 = .ok (.if_icmp .eq 14, 3) := by decide +kernel
theorem dX11_wish_21 : decode cX11_wish 21 = .ok (.iload 4, 2) := by decide +kernel
theorem dX11_wish_23 : decode cX11_wish 23 = .ok (.iconst 0, 1) := by decide +kernel
theorem dX11_wish_24 : decode cX11_wish 24 = .ok (.bipush 20, 2) := by decide +kernel
theorem dX11_wish_26 : decode cX11_wish 26 = .ok (.invokestatic 78, 3) := by decide +kernel
theorem dX11_wish_29 : decode cX11_wish 29 = .ok (.ifCond .ne 6, 3) := by decide +kernel
theorem dX11_wish_32 : decode cX11_wish 32 = .ok (.bipush (-2), 2) := by decide +kernel
theorem dX11_wish_34 : decode cX11_wish 34 = .ok (.ireturn, 1) := by decide +kernel
theorem dX11_wish_35 : decode cX11_wish 35 = .ok (.aload_n 0, 1) := by decide +kernel
theorem dX11_wish_36 : decode cX11_wish 36 = .ok (.getfield 113, 3) := by decide +kernel
theorem dX11_wish_39 : decode cX11_wish 39 = .ok (.bipush 6, 2) := by decide +kernel
theorem dX11_wish_41 : decode cX11_wish 41 = .ok (.if_icmp .ne 6, 3) := by decide +kernel
theorem dX11_wish_44 : decode cX11_wish 44 = .ok (.bipush (-4), 2) := by decide +kernel
theorem dX11_wish_46 : decode cX11_wish 46 = .ok (.ireturn, 1) := by decide +kernel
theorem dX11_wish_47 : decode cX11_wish 47 = .ok (.aload_n 0, 1) := by decide +kernel
theorem dX11_wish_48 : decode cX11_wish 48 = .ok (.getfield 33, 3) := by decide +kernel
theorem dX11_wish_51 : decode cX11_wish 51 = .ok (.aload_n 0, 1) := by decide +kernel
theorem dX11_wish_52 : decode cX11_wish 52 = .ok (.getfield 113, 3) := by decide +kernel
theorem dX11_wish_55 : decode cX11_wish 55 = .ok (.iload_n 1, 1) := by decide +kernel
theorem dX11_wish_56 : decode cX11_wish 56 = .ok (.iastore, 1) := by decide +kernel
theorem dX11_wish_57 : decode cX11_wish 57 = .ok (.aload_n 0, 1) := by decide +kernel
theorem dX11_wish_58 : decode cX11_wish 58 = .ok (.getfield 36, 3) := by decide +kernel
theorem dX11_wish_61 : decode cX11_wish 61 = .ok (.aload_n 0, 1) := by decide +kernel
theorem dX11_wish_62 : decode cX11_wish 62 = .ok (.getfield 113, 3) := by decide +kernel
theorem dX11_wish_65 : decode cX11_wish 65 = .ok (.iload_n 2, 1) := by decide +kernel
theorem dX11_wish_66 : decode cX11_wish 66 = .ok (.iastore, 1) := by decide +kernel
theorem dX11_wish_67 : decode cX11_wish 67 = .ok (.aload_n 0, 1) := by decide +kernel
theorem dX11_wish_68 : decode cX11_wish 68 = .ok (.getfield 39, 3) := by decide +kernel
theorem dX11_wish_71 : decode cX11_wish 71 = .ok (.aload_n 0, 1) := by decide +kernel
theorem dX11_wish_72 : decode cX11_wish 72 = .ok (.getfield 113, 3) := by decide +kernel
theorem dX11_wish_75 : decode cX11_wish 75 = .ok (.iload_n 3, 1) := by decide +kernel
theorem dX11_wish_76 : decode cX11_wish 76 = .ok (.bastore, 1) := by decide +kernel
theorem dX11_wish_77 : decode cX11_wish 77 = .ok (.aload_n 0, 1) := by decide +kernel
theorem dX11_wish_78 : decode cX11_wish 78 = .ok (.getfield 42, 3) := by decide +kernel
theorem dX11_wish_81 : decode cX11_wish 81 = .ok (.aload_n 0, 1) := by decide +kernel
theorem dX11_wish_82 : decode cX11_wish 82 = .ok (.getfield 113, 3) := by decide +kernel
theorem dX11_wish_85 : decode cX11_wish 85 = .ok (.iload 4, 2) := by decide +kernel
theorem dX11_wish_87 : decode cX11_wish 87 = .ok (.iastore, 1) := by decide +kernel
theorem dX11_wish_88 : decode cX11_wish 88 = .ok (.aload_n 0, 1) := by decide +kernel
theorem dX11_wish_89 : decode cX11_wish 89 = .ok (.dup, 1) := by decide +kernel
theorem dX11_wish_90 : decode cX11_wish 90 = .ok (.getfield 113, 3) := by decide +kernel
theorem dX11_wish_93 : decode cX11_wish 93 = .ok (.iconst 1, 1) := by decide +kernel
theorem dX11_wish_94 : decode cX11_wish 94 = .ok (.iadd, 1) := by decide +kernel
theorem dX11_wish_95 : decode cX11_wish 95 = .ok (.putfield 113, 3) := by decide +kernel
theorem dX11_wish_98 : decode cX11_wish 98 = .ok (.aload_n 0, 1) := by decide +kernel
theorem dX11_wish_99 : decode cX11_wish 99 = .ok (.getfield 113, 3) := by decide +kernel
theorem dX11_wish_102 : decode cX11_wish 102 = .ok (.iconst 1, 1) := by decide +kernel
theorem dX11_wish_103 : decode cX11_wish 103 = .ok (.isub, 1) := by decide +kernel
theorem dX11_wish_104 : decode cX11_wish 104 = .ok (.ireturn, 1) := by decide +kernel
theorem dX11_unwish_0 : decode cX11_unwish 0 = .ok (.iload_n 1, 1) := by decide +kernel
theorem dX11_unwish_1 : decode cX11_unwish 1 = .ok (.iconst 0, 1) := by decide +kernel
theorem dX11_unwish_2 : decode cX11_unwish 2 = .ok (.aload_n 0, 1) := by decide +kernel
theorem dX11_unwish_3 : decode cX11_unwish 3 = .ok (.getfield 113, 3) := by decide +kernel
theorem dX11_unwish_6 : decode cX11_unwish 6 = .ok (.iconst 1, 1) := by decide +kernel
theorem dX11_unwish_7 : decode cX11_unwish 7 = .ok (.isub, 1) := by decide +kernel
theorem dX11_unwish_8 : decode cX11_unwish 8 = .ok (.invokestatic 78, 3) := by decide +kernel
theorem dX11_unwish_11 : decode cX11_unwish 11 = .ok (.ifCond .ne 6, 3) := by decide +kernel
theorem dX11_unwish_14 : decode cX11_unwish 14 = .ok (.bipush (-2), 2) := by decide +kernel
theorem dX11_unwish_16 : decode cX11_unwish 16 = .ok (.ireturn, 1) := by decide +kernel
theorem dX11_unwish_17 : decode cX11_unwish 17 = .ok (.aload_n 0, 1) := by decide +kernel
theorem dX11_unwish_18 : decode cX11_unwish 18 = .ok (.dup, 1) := by decide +kernel
theorem dX11_unwish_19 : decode cX11_unwish 19 = .ok (.getfield 113, 3) := by decide +kernel
theorem dX11_unwish_22 : decode cX11_unwish 22 = .ok (.iconst 1, 1) := by decide +kernel
theorem dX11_unwish_23 : decode cX11_unwish 23 = .ok (.isub, 1) := by decide +kernel
theorem dX11_unwish_24 : decode cX11_unwish 24 = .ok (.putfield 113, 3) := by decide +kernel
theorem dX11_unwish_27 : decode cX11_unwish 27 = .ok (.iload_n 1, 1) := by decide +kernel
theorem dX11_unwish_28 : decode cX11_unwish 28 = .ok (.istore_n 2, 1) := by decide +kernel
theorem dX11_unwish_29 : decode cX11_unwish 29 = .ok (.iload_n 2, 1) := by decide +kernel
theorem dX11_unwish_30 : decode cX11_unwish 30 = .ok (.aload_n 0, 1) := by decide +kernel
theorem dX11_unwish_31 : decode cX11_unwish 31 = .ok (.getfield 113, 3) := by decide +kernel
theorem dX11_unwish_34 : decode cX11_unwish 34 = .ok (.if_icmp .ge 65, 3) := by decide +kernel
theorem dX11_unwish_37 : decode cX11_unwish 37 = .ok (.aload_n 0, 1) := by decide +kernel
theorem dX11_unwish_38 : decode cX11_unwish 38 = .ok (.getfield 33, 3) := by decide +kernel
theorem dX11_unwish_41 : decode cX11_unwish 41 = .ok (.iload_n 2, 1) := by decide +kernel
theorem dX11_unwish_42 : decode cX11_unwish 42 = .ok (.aload_n 0, 1) := by decide +kernel
theorem dX11_unwish_43 : decode cX11_unwish 43 = .ok (.getfield 33, 3) := by decide +kernel
theorem dX11_unwish_46 : decode cX11_unwish 46 = .ok (.iload_n 2, 1) := by decide +kernel
theorem dX11_unwish_47 : decode cX11_unwish 47 = .ok (.iconst 1, 1) := by decide +kernel
theorem dX11_unwish_48 : decode cX11_unwish 48 = .ok (.iadd, 1) := by decide +kernel
theorem dX11_unwish_49 : decode cX11_unwish 49 = .ok (.iaload, 1) := by decide +kernel
theorem dX11_unwish_50 : decode cX11_unwish 50 = .ok (.iastore, 1) := by decide +kernel
theorem dX11_unwish_51 : decode cX11_unwish 51 = .ok (.aload_n 0, 1) := by decide +kernel
theorem dX11_unwish_52 : decode cX11_unwish 52 = .ok (.getfield 36, 3) := by decide +kernel
theorem dX11_unwish_55 : decode cX11_unwish 55 = .ok (.iload_n 2, 1) := by decide +kernel
theorem dX11_unwish_56 : decode cX11_unwish 56 = .ok (.aload_n 0, 1) := by decide +kernel
theorem dX11_unwish_57 : decode cX11_unwish 57 = .ok (.getfield 36, 3) := by decide +kernel
theorem dX11_unwish_60 : decode cX11_unwish 60 = .ok (.iload_n 2, 1) := by decide +kernel
theorem dX11_unwish_61 : decode cX11_unwish 61 = .ok (.iconst 1, 1) := by decide +kernel
theorem dX11_unwish_62 : decode cX11_unwish 62 = .ok (.iadd, 1) := by decide +kernel
theorem dX11_unwish_63 : decode cX11_unwish 63 = .ok (.iaload, 1) := by decide +kernel
theorem dX11_unwish_64 : decode cX11_unwish 64 = .ok (.iastore, 1) := by decide +kernel
theorem dX11_unwish_65 : decode cX11_unwish 65 = .ok (.aload_n 0, 1) := by decide +kernel
theorem dX11_unwish_66 : decode cX11_unwish 66 = .ok (.getfield 39, 3) := by decide +kernel
theorem dX11_unwish_69 : decode cX11_unwish 69 = .ok (.iload_n 2, 1) := by decide +kernel
theorem dX11_unwish_70 : decode cX11_unwish 70 = .ok (.aload_n 0, 1) := by decide +kernel
theorem dX11_unwish_71 : decode cX11_unwish 71 = .ok (.getfield 39, 3) := by decide +kernel
theorem dX11_unwish_74 : decode cX11_unwish 74 = .ok (.iload_n 2, 1) := by decide +kernel
theorem dX11_unwish_75 : decode cX11_unwish 75 = .ok (.iconst 1, 1) := by decide +kernel
theorem dX11_unwish_76 : decode cX11_unwish 76 = .ok (.iadd, 1) := by decide +kernel
theorem dX11_unwish_77 : decode cX11_unwish 77 = .ok (.baload, 1) := by decide +kernel
theorem dX11_unwish_78 : decode cX11_unwish 78 = .ok (.bastore, 1) := by decide +kernel
theorem dX11_unwish_79 : decode cX11_unwish 79 = .ok (.aload_n 0, 1) := by decide +kernel
theorem dX11_unwish_80 : decode cX11_unwish 80 = .ok (.getfield 42, 3) := by decide +kernel
theorem dX11_unwish_83 : decode cX11_unwish 83 = .ok (.iload_n 2, 1) := by decide +kernel
theorem dX11_unwish_84 : decode cX11_unwish 84 = .ok (.aload_n 0, 1) := by decide +kernel
theorem dX11_unwish_85 : decode cX11_unwish 85 = .ok (.getfield 42, 3) := by decide +kernel
theorem dX11_unwish_88 : decode cX11_unwish 88 = .ok (.iload_n 2, 1) := by decide +kernel
theorem dX11_unwish_89 : decode cX11_unwish 89 = .ok (.iconst 1, 1) := by decide +kernel
theorem dX11_unwish_90 : decode cX11_unwish 90 = .ok (.iadd, 1) := by decide +kernel
theorem dX11_unwish_91 : decode cX11_unwish 91 = .ok (.iaload, 1) := by decide +kernel
theorem dX11_unwish_92 : decode cX11_unwish 92 = .ok (.iastore, 1) := by decide +kernel
theorem dX11_unwish_93 : decode cX11_unwish 93 = .ok (.iinc 2 1, 3) := by decide +kernel
theorem dX11_unwish_96 : decode cX11_unwish 96 = .ok (.goto (-67), 3) := by decide +kernel
theorem dX11_unwish_99 : decode cX11_unwish 99 = .ok (.iconst 1, 1) := by decide +kernel
theorem dX11_unwish_100 : decode cX11_unwish 100 = .ok (.ireturn, 1) := by decide +kernel
theorem dX11_allNumbers_0 : decode cX11_allNumbers 0 = .ok (.iconst 1, 1) := by decide +kernel
theorem dX11_allNumbers_1 : decode cX11_allNumbers 1 = .ok (.istore_n 1, 1) := by decide +kernel
theorem dX11_allNumbers_2 : decode cX11_allNumbers 2 = .ok (.iconst 0, 1) := by decide +kernel
theorem dX11_allNumbers_3 : decode cX11_allNumbers 3 = .ok (.istore_n 2, 1) := by decide +kernel
theorem dX11_allNumbers_4 : decode cX11_allNumbers 4 = .ok (.iload_n 2, 1) := by decide +kernel
theorem dX11_allNumbers_5 : decode cX11_allNumbers 5 = .ok (.aload_n 0, 1) := by decide +kernel
theorem dX11_allNumbers_6 : decode cX11_allNumbers 6 = .ok (.getfield 85, 3) := by decide +kernel
theorem dX11_allNumbers_9 : decode cX11_allNumbers 9 = .ok (.if_icmp .ge 14, 3) := by decide +kernel
theorem dX11_allNumbers_12 : decode cX11_allNumbers 12 = .ok (.iload_n 1, 1) := by decide +kernel
theorem dX11_allNumbers_13 : decode cX11_allNumbers 13 = .ok (.bipush 6, 2) := by decide +kernel
theorem dX11_allNumbers_15 : decode cX11_allNumbers 15 = .ok (.imul, 1) := by decide +kernel
theorem dX11_allNumbers_16 : decode cX11_allNumbers 16 = .ok (.istore_n 1, 1) := by decide +kernel
theorem dX11_allNumbers_17 : decode cX11_allNumbers 17 = .ok (.iinc 2 1, 3) := by decide +kernel
theorem dX11_allNumbers_20 : decode cX11_allNumbers 20 = .ok (.goto (-16), 3) := by decide +kernel
theorem dX11_allNumbers_23 : decode cX11_allNumbers 23 = .ok (.iload_n 1, 1) := by decide +kernel
theorem dX11_allNumbers_24 : decode cX11_allNumbers 24 = .ok (.ireturn, 1) := by decide +kernel
theorem dX11_layRow_0 : decode cX11_layRow 0 = .ok (.iload_n 1, 1) := by decide +kernel
theorem dX11_layRow_1 : decode cX11_layRow 1 = .ok (.istore_n 2, 1) := by decide +kernel
theorem dX11_layRow_2 : decode cX11_layRow 2 = .ok (.iconst 0, 1) := by decide +kernel
theorem dX11_layRow_3 : decode cX11_layRow 3 = .ok (.istore_n 3, 1) := by decide +kernel
theorem dX11_layRow_4 : decode cX11_layRow 4 = .ok (.iconst 1, 1) := by decide +kernel
theorem dX11_layRow_5 : decode cX11_layRow 5 = .ok (.istore 4, 2) := by decide +kernel
theorem dX11_layRow_7 : decode cX11_layRow 7 = .ok (.aload_n 0, 1) := by decide +kernel
theorem dX11_layRow_8 : decode cX11_layRow 8 = .ok (.getfield 85, 3) := by decide +kernel
theorem dX11_layRow_11 : decode cX11_layRow 11 = .ok (.iconst 1, 1) := by decide +kernel
theorem dX11_layRow_12 : decode cX11_layRow 12 = .ok (.isub, 1) := by decide +kernel
theorem dX11_layRow_13 : decode cX11_layRow 13 = .ok (.istore 5, 2) := by decide +kernel
theorem dX11_layRow_15 : decode cX11_layRow 15 = .ok (.iload 5, 2) := by decide +kernel
theorem dX11_layRow_17 : decode cX11_layRow 17 = .ok (.ifCond .lt 77, 3) := by decide +kernel
theorem dX11_layRow_20 : decode cX11_layRow 20 = .ok (.aload_n 0, 1) := by decide +kernel
theorem dX11_layRow_21 : decode cX11_layRow 21 = .ok (.getfield 57, 3) := by decide +kernel
theorem dX11_layRow_24 : decode cX11_layRow 24 = .ok (.iload 5, 2) := by decide +kernel
theorem dX11_layRow_26 : decode cX11_layRow 26 = .ok (.iload_n 2, 1) := by decide +kernel
theorem dX11_layRow_27 : decode cX11_layRow 27 = .ok (.bipush 6, 2) := by decide +kernel
theorem dX11_layRow_29 : decode cX11_layRow 29 = .ok (.irem, 1) := by decide +kernel
theorem dX11_layRow_30 : decode cX11_layRow 30 = .ok (.iastore, 1) := by decide +kernel
theorem dX11_layRow_31 : decode cX11_layRow 31 = .ok (.iload_n 2, 1) := by decide +kernel
theorem dX11_layRow_32 : decode cX11_layRow 32 = .ok (.bipush 6, 2) := by decide +kernel
theorem dX11_layRow_34 : decode cX11_layRow 34 = .ok (.idiv, 1) := by decide +kernel
theorem dX11_layRow_35 : decode cX11_layRow 35 = .ok (.istore_n 2, 1) := by decide +kernel
theorem dX11_layRow_36 : decode cX11_layRow 36 = .ok (.iload 4, 2) := by decide +kernel
theorem dX11_layRow_38 : decode cX11_layRow 38 = .ok (.ifCond .eq 35, 3) := by decide +kernel
theorem dX11_layRow_41 : decode cX11_layRow 41 = .ok (.aload_n 0, 1) := by decide +kernel
theorem dX11_layRow_42 : decode cX11_layRow 42 = .ok (.getfield 57, 3) := by decide +kernel
theorem dX11_layRow_45 : decode cX11_layRow 45 = .ok (.iload 5, 2) := by decide +kernel
theorem dX11_layRow_47 : decode cX11_layRow 47 = .ok (.iaload, 1) := by decide +kernel
theorem dX11_layRow_48 : decode cX11_layRow 48 = .ok (.aload_n 0, 1) := by decide +kernel
theorem dX11_layRow_49 : decode cX11_layRow 49 = .ok (.getfield 82, 3) := by decide +kernel
theorem dX11_layRow_52 : decode cX11_layRow 52 = .ok (.if_icmp .ge 21, 3) := by decide +kernel
theorem dX11_layRow_55 : decode cX11_layRow 55 = .ok (.iload_n 3, 1) := by decide +kernel
theorem dX11_layRow_56 : decode cX11_layRow 56 = .ok (.aload_n 0, 1) := by decide +kernel
theorem dX11_layRow_57 : decode cX11_layRow 57 = .ok (.getfield 57, 3) := by decide +kernel
theorem dX11_layRow_60 : decode cX11_layRow 60 = .ok (.iload 5, 2) := by decide +kernel
theorem dX11_layRow_62 : decode cX11_layRow 62 = .ok (.iaload, 1) := by decide +kernel
theorem dX11_layRow_63 : decode cX11_layRow 63 = .ok (.ishr, 1) := by decide +kernel
theorem dX11_layRow_64 : decode cX11_layRow 64 = .ok (.iconst 1, 1) := by decide +kernel
theorem dX11_layRow_65 : decode cX11_layRow 65 = .ok (.iand, 1) := by decide +kernel
theorem dX11_layRow_66 : decode cX11_layRow 66 = .ok (.ifCond .ne 7, 3) := by decide +kernel
theorem dX11_layRow_69 : decode cX11_layRow 69 = .ok (.iconst 1, 1) := by decide +kernel
theorem dX11_layRow_70 : decode cX11_layRow 70 = .ok (.goto 4, 3) := by decide +kernel
theorem dX11_layRow_73 : decode cX11_layRow 73 = .ok (.iconst 0, 1) := by decide +kernel
theorem dX11_layRow_74 : decode cX11_layRow 74 = .ok (.istore 4, 2) := by decide +kernel
theorem dX11_layRow_76 : decode cX11_layRow 76 = .ok (.iload_n 3, 1) := by decide +kernel
theorem dX11_layRow_77 : decode cX11_layRow 77 = .ok (.iconst 1, 1) := by decide +kernel
theorem dX11_layRow_78 : decode cX11_layRow 78 = .ok (.aload_n 0, 1) := by decide +kernel
theorem dX11_layRow_79 : decode cX11_layRow 79 = .ok (.getfield 57, 3) := by decide +kernel
theorem dX11_layRow_82 : decode cX11_layRow 82 = .ok (.iload 5, 2) := by decide +kernel
theorem dX11_layRow_84 : decode cX11_layRow 84 = .ok (.iaload, 1) := by decide +kernel
theorem dX11_layRow_85 : decode cX11_layRow 85 = .ok (.ishl, 1) := by decide +kernel
theorem dX11_layRow_86 : decode cX11_layRow 86 = .ok (.ior, 1) := by decide +kernel
theorem dX11_layRow_87 : decode cX11_layRow 87 = .ok (.istore_n 3, 1) := by decide +kernel
theorem dX11_layRow_88 : decode cX11_layRow 88 = .ok (.iinc 5 (-1), 3) := by decide +kernel
theorem dX11_layRow_91 : decode cX11_layRow 91 = .ok (.goto (-76), 3) := by decide +kernel
theorem dX11_layRow_94 : decode cX11_layRow 94 = .ok (.iload 4, 2) := by decide +kernel
theorem dX11_layRow_96 : decode cX11_layRow 96 = .ok (.ireturn, 1) := by decide +kernel
theorem dX11_numberOf_0 : decode cX11_numberOf 0 = .ok (.iconst 0, 1) := by decide +kernel
theorem dX11_numberOf_1 : decode cX11_numberOf 1 = .ok (.istore_n 1, 1) := by decide +kernel
theorem dX11_numberOf_2 : decode cX11_numberOf 2 = .ok (.iconst 0, 1) := by decide +kernel
theorem dX11_numberOf_3 : decode cX11_numberOf 3 = .ok (.istore_n 2, 1) := by decide +kernel
theorem dX11_numberOf_4 : decode cX11_numberOf 4 = .ok (.iload_n 2, 1) := by decide +kernel
theorem dX11_numberOf_5 : decode cX11_numberOf 5 = .ok (.aload_n 0, 1) := by decide +kernel
theorem dX11_numberOf_6 : decode cX11_numberOf 6 = .ok (.getfield 85, 3) := by decide +kernel
theorem dX11_numberOf_9 : decode cX11_numberOf 9 = .ok (.if_icmp .ge 21, 3) := by decide +kernel
theorem dX11_numberOf_12 : decode cX11_numberOf 12 = .ok (.bipush 6, 2) := by decide +kernel
theorem dX11_numberOf_14 : decode cX11_numberOf 14 = .ok (.iload_n 1, 1) := by decide +kernel
theorem dX11_numberOf_15 : decode cX11_numberOf 15 = .ok (.imul, 1) := by decide +kernel
theorem dX11_numberOf_16 : decode cX11_numberOf 16 = .ok (.aload_n 0, 1) := by decide +kernel
theorem dX11_numberOf_17 : decode cX11_numberOf 17 = .ok (.getfield 57, 3) := by decide +kernel
theorem dX11_numberOf_20 : decode cX11_numberOf 20 = .ok (.iload_n 2, 1) := by decide +kernel
theorem dX11_numberOf_21 : decode cX11_numberOf 21 = .ok (.iaload, 1) := by decide +kernel
theorem dX11_numberOf_22 : decode cX11_numberOf 22 = .ok (.iadd, 1) := by decide +kernel
theorem dX11_numberOf_23 : decode cX11_numberOf 23 = .ok (.istore_n 1, 1) := by decide +kernel
theorem dX11_numberOf_24 : decode cX11_numberOf 24 = .ok (.iinc 2 1, 3) := by decide +kernel
theorem dX11_numberOf_27 : decode cX11_numberOf 27 = .ok (.goto (-23), 3) := by decide +kernel
theorem dX11_numberOf_30 : decode cX11_numberOf 30 = .ok (.iload_n 1, 1) := by decide +kernel
theorem dX11_numberOf_31 : decode cX11_numberOf 31 = .ok (.ireturn, 1) := by decide +kernel
theorem dX11_takeNow_0 : decode cX11_takeNow 0 = .ok (.iconst 0, 1) := by decide +kernel
theorem dX11_takeNow_1 : decode cX11_takeNow 1 = .ok (.istore_n 1, 1) := by decide +kernel
theorem dX11_takeNow_2 : decode cX11_takeNow 2 = .ok (.iload_n 1, 1) := by decide +kernel
theorem dX11_takeNow_3 : decode cX11_takeNow 3 = .ok (.aload_n 0, 1) := by decide +kernel
theorem dX11_takeNow_4 : decode cX11_takeNow 4 = .ok (.getfield 85, 3) := by decide +kernel
theorem dX11_takeNow_7 : decode cX11_takeNow 7 = .ok (.if_icmp .ge 21, 3) := by decide +kernel
theorem dX11_takeNow_10 : decode cX11_takeNow 10 = .ok (.aload_n 0, 1) := by decide +kernel
theorem dX11_takeNow_11 : decode cX11_takeNow 11 = .ok (.getfield 57, 3) := by decide +kernel
theorem dX11_takeNow_14 : decode cX11_takeNow 14 = .ok (.iload_n 1, 1) := by decide +kernel
theorem dX11_takeNow_15 : decode cX11_takeNow 15 = .ok (.aload_n 0, 1) := by decide +kernel
theorem dX11_takeNow_16 : decode cX11_takeNow 16 = .ok (.getfield 24, 3) := by decide +kernel
theorem dX11_takeNow_19 : decode cX11_takeNow 19 = .ok (.iload_n 1, 1) := by decide +kernel
theorem dX11_takeNow_20 : decode cX11_takeNow 20 = .ok (.iaload, 1) := by decide +kernel
theorem dX11_takeNow_21 : decode cX11_takeNow 21 = .ok (.iastore, 1) := by decide +kernel
theorem dX11_takeNow_22 : decode cX11_takeNow 22 = .ok (.iinc 1 1, 3) := by decide +kernel
theorem dX11_takeNow_25 : decode cX11_takeNow 25 = .ok (.goto (-23), 3) := by decide +kernel
theorem dX11_takeNow_28 : decode cX11_takeNow 28 = .ok (.return_, 1) := by decide +kernel
theorem dX11_becomeNow_0 : decode cX11_becomeNow 0 = .ok (.iconst 0, 1) := by decide +kernel
theorem dX11_becomeNow_1 : decode cX11_becomeNow 1 = .ok (.istore_n 1, 1) := by decide +kernel
theorem dX11_becomeNow_2 : decode cX11_becomeNow 2 = .ok (.iload_n 1, 1) := by decide +kernel
theorem dX11_becomeNow_3 : decode cX11_becomeNow 3 = .ok (.aload_n 0, 1) := by decide +kernel
theorem dX11_becomeNow_4 : decode cX11_becomeNow 4 = .ok (.getfield 85, 3) := by decide +kernel
theorem dX11_becomeNow_7 : decode cX11_becomeNow 7 = .ok (.if_icmp .ge 21, 3) := by decide +kernel
theorem dX11_becomeNow_10 : decode cX11_becomeNow 10 = .ok (.aload_n 0, 1) := by decide +kernel
theorem dX11_becomeNow_11 : decode cX11_becomeNow 11 = .ok (.getfield 24, 3) := by decide +kernel
theorem dX11_becomeNow_14 : decode cX11_becomeNow 14 = .ok (.iload_n 1, 1) := by decide +kernel
theorem dX11_becomeNow_15 : decode cX11_becomeNow 15 = .ok (.aload_n 0, 1) := by decide +kernel
theorem dX11_becomeNow_16 : decode cX11_becomeNow 16 = .ok (.getfield 57, 3) := by decide +kernel
theorem dX11_becomeNow_19 : decode cX11_becomeNow 19 = .ok (.iload_n 1, 1) := by decide +kernel
theorem dX11_becomeNow_20 : decode cX11_becomeNow 20 = .ok (.iaload, 1) := by decide +kernel
theorem dX11_becomeNow_21 : decode cX11_becomeNow 21 = .ok (.iastore, 1) := by decide +kernel
theorem dX11_becomeNow_22 : decode cX11_becomeNow 22 = .ok (.iinc 1 1, 3) := by decide +kernel
theorem dX11_becomeNow_25 : decode cX11_becomeNow 25 = .ok (.goto (-23), 3) := by decide +kernel
theorem dX11_becomeNow_28 : decode cX11_becomeNow 28 = .ok (.return_, 1) := by decide +kernel
theorem dX11_layTold_0 : decode cX11_layTold 0 = .ok (.iload_n 1, 1) := by decide +kernel
theorem dX11_layTold_1 : decode cX11_layTold 1 = .ok (.ifCond .lt 11, 3) := by decide +kernel
theorem dX11_layTold_4 : decode cX11_layTold 4 = .ok (.iload_n 1, 1) := by decide +kernel
theorem dX11_layTold_5 : decode cX11_layTold 5 = .ok (.aload_n 0, 1) := by decide +kernel
theorem dX11_layTold_6 : decode cX11_layTold 6 = .ok (.invokevirtual 116, 3) := by decide +kernel
theorem dX11_layTold_9 : decode cX11_layTold 9 = .ok (.if_icmp .lt 5, 3) := by decide +kernel
theorem dX11_layTold_12 : decode cX11_layTold 12 = .ok (.iconst 0, 1) := by decide +kernel
theorem dX11_layTold_13 : decode cX11_layTold 13 = .ok (.ireturn, 1) := by decide +kernel
theorem dX11_layTold_14 : decode cX11_layTold 14 = .ok (.iload_n 1, 1) := by decide +kernel
theorem dX11_layTold_15 : decode cX11_layTold 15 = .ok (.istore_n 2, 1) := by decide +kernel
theorem dX11_layTold_16 : decode cX11_layTold 16 = .ok (.iconst 0, 1) := by decide +kernel
theorem dX11_layTold_17 : decode cX11_layTold 17 = .ok (.istore_n 3, 1) := by decide +kernel
theorem dX11_layTold_18 : decode cX11_layTold 18 = .ok (.iconst 1, 1) := by decide +kernel
theorem dX11_layTold_19 : decode cX11_layTold 19 = .ok (.istore 4, 2) := by decide +kernel
theorem dX11_layTold_21 : decode cX11_layTold 21 = .ok (.iconst 0, 1) := by decide +kernel
theorem dX11_layTold_22 : decode cX11_layTold 22 = .ok (.istore 5, 2) := by decide +kernel
theorem dX11_layTold_24 : decode cX11_layTold 24 = .ok (.iload 5, 2) := by decide +kernel
theorem dX11_layTold_26 : decode cX11_layTold 26 = .ok (.aload_n 0, 1) := by decide +kernel
theorem dX11_layTold_27 : decode cX11_layTold 27 = .ok (.getfield 85, 3) := by decide +kernel
theorem dX11_layTold_30 : decode cX11_layTold 30 = .ok (.if_icmp .ge 77, 3) := by decide +kernel
theorem dX11_layTold_33 : decode cX11_layTold 33 = .ok (.aload_n 0, 1) := by decide +kernel
theorem dX11_layTold_34 : decode cX11_layTold 34 = .ok (.getfield 57, 3) := by decide +kernel
theorem dX11_layTold_37 : decode cX11_layTold 37 = .ok (.iload 5, 2) := by decide +kernel
theorem dX11_layTold_39 : decode cX11_layTold 39 = .ok (.iload_n 2, 1) := by decide +kernel
theorem dX11_layTold_40 : decode cX11_layTold 40 = .ok (.bipush 6, 2) := by decide +kernel
theorem dX11_layTold_42 : decode cX11_layTold 42 = .ok (.irem, 1) := by decide +kernel
theorem dX11_layTold_43 : decode cX11_layTold 43 = .ok (.iastore, 1) := by decide +kernel
theorem dX11_layTold_44 : decode cX11_layTold 44 = .ok (.iload_n 2, 1) := by decide +kernel
theorem dX11_layTold_45 : decode cX11_layTold 45 = .ok (.bipush 6, 2) := by decide +kernel
theorem dX11_layTold_47 : decode cX11_layTold 47 = .ok (.idiv, 1) := by decide +kernel
theorem dX11_layTold_48 : decode cX11_layTold 48 = .ok (.istore_n 2, 1) := by decide +kernel
theorem dX11_layTold_49 : decode cX11_layTold 49 = .ok (.iload 4, 2) := by decide +kernel
theorem dX11_layTold_51 : decode cX11_layTold 51 = .ok (.ifCond .eq 35, 3) := by decide +kernel
theorem dX11_layTold_54 : decode cX11_layTold 54 = .ok (.aload_n 0, 1) := by decide +kernel
theorem dX11_layTold_55 : decode cX11_layTold 55 = .ok (.getfield 57, 3) := by decide +kernel
theorem dX11_layTold_58 : decode cX11_layTold 58 = .ok (.iload 5, 2) := by decide +kernel
theorem dX11_layTold_60 : decode cX11_layTold 60 = .ok (.iaload, 1) := by decide +kernel
theorem dX11_layTold_61 : decode cX11_layTold 61 = .ok (.aload_n 0, 1) := by decide +kernel
theorem dX11_layTold_62 : decode cX11_layTold 62 = .ok (.getfield 82, 3) := by decide +kernel
theorem dX11_layTold_65 : decode cX11_layTold 65 = .ok (.if_icmp .ge 21, 3) := by decide +kernel
theorem dX11_layTold_68 : decode cX11_layTold 68 = .ok (.iload_n 3, 1) := by decide +kernel
theorem dX11_layTold_69 : decode cX11_layTold 69 = .ok (.aload_n 0, 1) := by decide +kernel
theorem dX11_layTold_70 : decode cX11_layTold 70 = .ok (.getfield 57, 3) := by decide +kernel
theorem dX11_layTold_73 : decode cX11_layTold 73 = .ok (.iload 5, 2) := by decide +kernel
theorem dX11_layTold_75 : decode cX11_layTold 75 = .ok (.iaload, 1) := by decide +kernel
theorem dX11_layTold_76 : decode cX11_layTold 76 = .ok (.ishr, 1) := by decide +kernel
theorem dX11_layTold_77 : decode cX11_layTold 77 = .ok (.iconst 1, 1) := by decide +kernel
theorem dX11_layTold_78 : decode cX11_layTold 78 = .ok (.iand, 1) := by decide +kernel
theorem dX11_layTold_79 : decode cX11_layTold 79 = .ok (.ifCond .ne 7, 3) := by decide +kernel
theorem dX11_layTold_82 : decode cX11_layTold 82 = .ok (.iconst 1, 1) := by decide +kernel
theorem dX11_layTold_83 : decode cX11_layTold 83 = .ok (.goto 4, 3) := by decide +kernel
theorem dX11_layTold_86 : decode cX11_layTold 86 = .ok (.iconst 0, 1) := by decide +kernel
theorem dX11_layTold_87 : decode cX11_layTold 87 = .ok (.istore 4, 2) := by decide +kernel
theorem dX11_layTold_89 : decode cX11_layTold 89 = .ok (.iload_n 3, 1) := by decide +kernel
theorem dX11_layTold_90 : decode cX11_layTold 90 = .ok (.iconst 1, 1) := by decide +kernel
theorem dX11_layTold_91 : decode cX11_layTold 91 = .ok (.aload_n 0, 1) := by decide +kernel
theorem dX11_layTold_92 : decode cX11_layTold 92 = .ok (.getfield 57, 3) := by decide +kernel
theorem dX11_layTold_95 : decode cX11_layTold 95 = .ok (.iload 5, 2) := by decide +kernel
theorem dX11_layTold_97 : decode cX11_layTold 97 = .ok (.iaload, 1) := by decide +kernel
theorem dX11_layTold_98 : decode cX11_layTold 98 = .ok (.ishl, 1) := by decide +kernel
theorem dX11_layTold_99 : decode cX11_layTold 99 = .ok (.ior, 1) := by decide +kernel
theorem dX11_layTold_100 : decode cX11_layTold 100 = .ok (.istore_n 3, 1) := by decide +kernel
theorem dX11_layTold_101 : decode cX11_layTold 101 = .ok (.iinc 5 1, 3) := by decide +kernel
theorem dX11_layTold_104 : decode cX11_layTold 104 = .ok (.goto (-80), 3) := by decide +kernel
theorem dX11_layTold_107 : decode cX11_layTold 107 = .ok (.iload 4, 2) := by decide +kernel
theorem dX11_layTold_109 : decode cX11_layTold 109 = .ok (.ireturn, 1) := by decide +kernel
theorem dX11_toldOf_0 : decode cX11_toldOf 0 = .ok (.iconst 0, 1) := by decide +kernel
theorem dX11_toldOf_1 : decode cX11_toldOf 1 = .ok (.istore_n 1, 1) := by decide +kernel
theorem dX11_toldOf_2 : decode cX11_toldOf 2 = .ok (.aload_n 0, 1) := by decide +kernel
theorem dX11_toldOf_3 : decode cX11_toldOf 3 = .ok (.getfield 85, 3) := by decide +kernel
theorem dX11_toldOf_6 : decode cX11_toldOf 6 = .ok (.iconst 1, 1) := by decide +kernel
theorem dX11_toldOf_7 : decode cX11_toldOf 7 = .ok (.isub, 1) := by decide +kernel
theorem dX11_toldOf_8 : decode cX11_toldOf 8 = .ok (.istore_n 2, 1) := by decide +kernel
theorem dX11_toldOf_9 : decode cX11_toldOf 9 = .ok (.iload_n 2, 1) := by decide +kernel
theorem dX11_toldOf_10 : decode cX11_toldOf 10 = .ok (.ifCond .lt 21, 3) := by decide +kernel
theorem dX11_toldOf_13 : decode cX11_toldOf 13 = .ok (.bipush 6, 2) := by decide +kernel
theorem dX11_toldOf_15 : decode cX11_toldOf 15 = .ok (.iload_n 1, 1) := by decide +kernel
theorem dX11_toldOf_16 : decode cX11_toldOf 16 = .ok (.imul, 1) := by decide +kernel
theorem dX11_toldOf_17 : decode cX11_toldOf 17 = .ok (.aload_n 0, 1) := by decide +kernel
theorem dX11_toldOf_18 : decode cX11_toldOf 18 = .ok (.getfield 57, 3) := by decide +kernel
theorem dX11_toldOf_21 : decode cX11_toldOf 21 = .ok (.iload_n 2, 1) := by decide +kernel
theorem dX11_toldOf_22 : decode cX11_toldOf 22 = .ok (.iaload, 1) := by decide +kernel
theorem dX11_toldOf_23 : decode cX11_toldOf 23 = .ok (.iadd, 1) := by decide +kernel
theorem dX11_toldOf_24 : decode cX11_toldOf 24 = .ok (.istore_n 1, 1) := by decide +kernel
theorem dX11_toldOf_25 : decode cX11_toldOf 25 = .ok (.iinc 2 (-1), 3) := by decide +kernel
theorem dX11_toldOf_28 : decode cX11_toldOf 28 = .ok (.goto (-19), 3) := by decide +kernel
theorem dX11_toldOf_31 : decode cX11_toldOf 31 = .ok (.iload_n 1, 1) := by decide +kernel
theorem dX11_toldOf_32 : decode cX11_toldOf 32 = .ok (.ireturn, 1) := by decide +kernel
theorem dX11_put_0 : decode cX11_put 0 = .ok (.aload_n 0, 1) := by decide +kernel
theorem dX11_put_1 : decode cX11_put 1 = .ok (.iload_n 1, 1) := by decide +kernel
theorem dX11_put_2 : decode cX11_put 2 = .ok (.invokevirtual 120, 3) := by decide +kernel
theorem dX11_put_5 : decode cX11_put 5 = .ok (.ifCond .ne 6, 3) := by decide +kernel
theorem dX11_put_8 : decode cX11_put 8 = .ok (.bipush (-2), 2) := by decide +kernel
theorem dX11_put_10 : decode cX11_put 10 = .ok (.ireturn, 1) := by decide +kernel
theorem dX11_put_11 : decode cX11_put 11 = .ok (.aload_n 0, 1) := by decide +kernel
theorem dX11_put_12 : decode cX11_put 12 = .ok (.invokevirtual 123, 3) := by decide +kernel
theorem dX11_put_15 : decode cX11_put 15 = .ok (.iconst 1, 1) := by decide +kernel
theorem dX11_put_16 : decode cX11_put 16 = .ok (.ireturn, 1) := by decide +kernel
theorem dX11_places_0 : decode cX11_places 0 = .ok (.aload_n 0, 1) := by decide +kernel
theorem dX11_places_1 : decode cX11_places 1 = .ok (.invokevirtual 126, 3) := by decide +kernel
theorem dX11_places_4 : decode cX11_places 4 = .ok (.aload_n 0, 1) := by decide +kernel
theorem dX11_places_5 : decode cX11_places 5 = .ok (.invokevirtual 129, 3) := by decide +kernel
theorem dX11_places_8 : decode cX11_places 8 = .ok (.ireturn, 1) := by decide +kernel
theorem dX11_farOf_0 : decode cX11_farOf 0 = .ok (.aload_n 0, 1) := by decide +kernel
theorem dX11_farOf_1 : decode cX11_farOf 1 = .ok (.getfield 51, 3) := by decide +kernel
theorem dX11_farOf_4 : decode cX11_farOf 4 = .ok (.bipush 6, 2) := by decide +kernel
theorem dX11_farOf_6 : decode cX11_farOf 6 = .ok (.aload_n 0, 1) := by decide +kernel
theorem dX11_farOf_7 : decode cX11_farOf 7 = .ok (.getfield 57, 3) := by decide +kernel
theorem dX11_farOf_10 : decode cX11_farOf 10 = .ok (.iload_n 1, 1) := by decide +kernel
theorem dX11_farOf_11 : decode cX11_farOf 11 = .ok (.iaload, 1) := by decide +kernel
theorem dX11_farOf_12 : decode cX11_farOf 12 = .ok (.imul, 1) := by decide +kernel
theorem dX11_farOf_13 : decode cX11_farOf 13 = .ok (.aload_n 0, 1) := by decide +kernel
theorem dX11_farOf_14 : decode cX11_farOf 14 = .ok (.getfield 57, 3) := by decide +kernel
theorem dX11_farOf_17 : decode cX11_farOf 17 = .ok (.iload_n 2, 1) := by decide +kernel
theorem dX11_farOf_18 : decode cX11_farOf 18 = .ok (.iaload, 1) := by decide +kernel
theorem dX11_farOf_19 : decode cX11_farOf 19 = .ok (.iadd, 1) := by decide +kernel
theorem dX11_farOf_20 : decode cX11_farOf 20 = .ok (.iaload, 1) := by decide +kernel
theorem dX11_farOf_21 : decode cX11_farOf 21 = .ok (.ireturn, 1) := by decide +kernel
theorem dX11_meets_0 : decode cX11_meets 0 = .ok (.aload_n 0, 1) := by decide +kernel
theorem dX11_meets_1 : decode cX11_meets 1 = .ok (.aload_n 0, 1) := by decide +kernel
theorem dX11_meets_2 : decode cX11_meets 2 = .ok (.getfield 33, 3) := by decide +kernel
theorem dX11_meets_5 : decode cX11_meets 5 = .ok (.iload_n 1, 1) := by decide +kernel
theorem dX11_meets_6 : decode cX11_meets 6 = .ok (.iaload, 1) := by decide +kernel
theorem dX11_meets_7 : decode cX11_meets 7 = .ok (.aload_n 0, 1) := by decide +kernel
theorem dX11_meets_8 : decode cX11_meets 8 = .ok (.getfield 36, 3) := by decide +kernel
theorem dX11_meets_11 : decode cX11_meets 11 = .ok (.iload_n 1, 1) := by decide +kernel
theorem dX11_meets_12 : decode cX11_meets 12 = .ok (.iaload, 1) := by decide +kernel
theorem dX11_meets_13 : decode cX11_meets 13 = .ok (.invokevirtual 132, 3) := by decide +kernel
theorem dX11_meets_16 : decode cX11_meets 16 = .ok (.istore_n 2, 1) := by decide +kernel
theorem dX11_meets_17 : decode cX11_meets 17 = .ok (.aload_n 0, 1) := by decide +kernel
theorem dX11_meets_18 : decode cX11_meets 18 = .ok (.getfield 39, 3) := by decide +kernel
theorem dX11_meets_21 : decode cX11_meets 21 = .ok (.iload_n 1, 1) := by decide +kernel
theorem dX11_meets_22 : decode cX11_meets 22 = .ok (.baload, 1) := by decide +kernel
theorem dX11_meets_23 : decode cX11_meets 23 = .ok (.ifCond .eq 26, 3) := by decide +kernel
theorem dX11_meets_26 : decode cX11_meets 26 = .ok (.iload_n 2, 1) := by decide +kernel
theorem dX11_meets_27 : decode cX11_meets 27 = .ok (.iconst (-1), 1) := by decide +kernel
theorem dX11_meets_28 : decode cX11_meets 28 = .ok (.if_icmp .eq 17, 3) := by decide +kernel
theorem dX11_meets_31 : decode cX11_meets 31 = .ok (.iload_n 2, 1) := by decide +kernel
theorem dX11_meets_32 : decode cX11_meets 32 = .ok (.aload_n 0, 1) := by decide +kernel
theorem dX11_meets_33 : decode cX11_meets 33 = .ok (.getfield 42, 3) := by decide +kernel
theorem dX11_meets_36 : decode cX11_meets 36 = .ok (.iload_n 1, 1) := by decide +kernel
theorem dX11_meets_37 : decode cX11_meets 37 = .ok (.iaload, 1) := by decide +kernel
theorem dX11_meets_38 : decode cX11_meets 38 = .ok (.if_icmp .gt 7, 3) := by decide +kernel
theorem dX11_meets_41 : decode cX11_meets 41 = .ok (.iconst 1, 1) := by decide +kernel
theorem dX11_meets_42 : decode cX11_meets 42 = .ok (.goto 27, 3) := by decide +kernel
theorem dX11_meets_45 : decode cX11_meets 45 = .ok (.iconst 0, 1) := by decide +kernel
theorem dX11_meets_46 : decode cX11_meets 46 = .ok (.goto 23, 3) := by decide +kernel
theorem dX11_meets_49 : decode cX11_meets 49 = .ok (.iload_n 2, 1) := by decide +kernel
theorem dX11_meets_50 : decode cX11_meets 50 = .ok (.iconst (-1), 1) := by decide +kernel
theorem dX11_meets_51 : decode cX11_meets 51 = .ok (.if_icmp .eq 13, 3) := by decide +kernel
theorem dX11_meets_54 : decode cX11_meets 54 = .ok (.iload_n 2, 1) := by decide +kernel
theorem dX11_meets_55 : decode cX11_meets 55 = .ok (.aload_n 0, 1) := by decide +kernel
theorem dX11_meets_56 : decode cX11_meets 56 = .ok (.getfield 42, 3) := by decide +kernel
theorem dX11_meets_59 : decode cX11_meets 59 = .ok (.iload_n 1, 1) := by decide +kernel
theorem dX11_meets_60 : decode cX11_meets 60 = .ok (.iaload, 1) := by decide +kernel
theorem dX11_meets_61 : decode cX11_meets 61 = .ok (.if_icmp .lt 7, 3) := by decide +kernel
theorem dX11_meets_64 : decode cX11_meets 64 = .ok (.iconst 1, 1) := by decide +kernel
theorem dX11_meets_65 : decode cX11_meets 65 = .ok (.goto 4, 3) := by decide +kernel
theorem dX11_meets_68 : decode cX11_meets 68 = .ok (.iconst 0, 1) := by decide +kernel
theorem dX11_meets_69 : decode cX11_meets 69 = .ok (.ireturn, 1) := by decide +kernel
theorem dX11_costOf_0 : decode cX11_costOf 0 = .ok (.iconst 0, 1) := by decide +kernel
theorem dX11_costOf_1 : decode cX11_costOf 1 = .ok (.istore_n 2, 1) := by decide +kernel
theorem dX11_costOf_2 : decode cX11_costOf 2 = .ok (.iconst 0, 1) := by decide +kernel
theorem dX11_costOf_3 : decode cX11_costOf 3 = .ok (.istore_n 3, 1) := by decide +kernel
theorem dX11_costOf_4 : decode cX11_costOf 4 = .ok (.iload_n 3, 1) := by decide +kernel
theorem dX11_costOf_5 : decode cX11_costOf 5 = .ok (.aload_n 0, 1) := by decide +kernel
theorem dX11_costOf_6 : decode cX11_costOf 6 = .ok (.getfield 113, 3) := by decide +kernel
theorem dX11_costOf_9 : decode cX11_costOf 9 = .ok (.if_icmp .ge 20, 3) := by decide +kernel
theorem dX11_costOf_12 : decode cX11_costOf 12 = .ok (.aload_n 0, 1) := by decide +kernel
theorem dX11_costOf_13 : decode cX11_costOf 13 = .ok (.iload_n 3, 1) := by decide +kernel
theorem dX11_costOf_14 : decode cX11_costOf 14 = .ok (.invokevirtual 135, 3) := by decide +kernel
theorem dX11_costOf_17 : decode cX11_costOf 17 = .ok (.ifCond .ne 6, 3) := by decide +kernel
theorem dX11_costOf_20 : decode cX11_costOf 20 = .ok (.ldc 138, 2) := by decide +kernel
theorem dX11_costOf_22 : decode cX11_costOf 22 = .ok (.ireturn, 1) := by decide +kernel
theorem dX11_costOf_23 : decode cX11_costOf 23 = .ok (.iinc 3 1, 3) := by decide +kernel
theorem dX11_costOf_26 : decode cX11_costOf 26 = .ok (.goto (-22), 3) := by decide +kernel
theorem dX11_costOf_29 : decode cX11_costOf 29 = .ok (.iconst 0, 1) := by decide +kernel
theorem dX11_costOf_30 : decode cX11_costOf 30 = .ok (.istore_n 3, 1) := by decide +kernel
theorem dX11_costOf_31 : decode cX11_costOf 31 = .ok (.iload_n 3, 1) := by decide +kernel
theorem dX11_costOf_32 : decode cX11_costOf 32 = .ok (.aload_n 0, 1) := by decide +kernel
theorem dX11_costOf_33 : decode cX11_costOf 33 = .ok (.getfield 85, 3) := by decide +kernel
theorem dX11_costOf_36 : decode cX11_costOf 36 = .ok (.if_icmp .ge 117, 3) := by decide +kernel
theorem dX11_costOf_39 : decode cX11_costOf 39 = .ok (.aload_n 0, 1) := by decide +kernel
theorem dX11_costOf_40 : decode cX11_costOf 40 = .ok (.getfield 54, 3) := by decide +kernel
theorem dX11_costOf_43 : decode cX11_costOf 43 = .ok (.aload_n 0, 1) := by decide +kernel
theorem dX11_costOf_44 : decode cX11_costOf 44 = .ok (.getfield 57, 3) := by decide +kernel
theorem dX11_costOf_47 : decode cX11_costOf 47 = .ok (.iload_n 3, 1) := by decide +kernel
theorem dX11_costOf_48 : decode cX11_costOf 48 = .ok (.iaload, 1) := by decide +kernel
theorem dX11_costOf_49 : decode cX11_costOf 49 = .ok (.iaload, 1) := by decide +kernel
theorem dX11_costOf_50 : decode cX11_costOf 50 = .ok (.istore 4, 2) := by decide +kernel
theorem dX11_costOf_52 : decode cX11_costOf 52 = .ok (.aload_n 0, 1) := by decide +kernel
theorem dX11_costOf_53 : decode cX11_costOf 53 = .ok (.getfield 20, 3) := by decide +kernel
theorem dX11_costOf_56 : decode cX11_costOf 56 = .ok (.bipush 41, 2) := by decide +kernel
theorem dX11_costOf_58 : decode cX11_costOf 58 = .ok (.if_icmp .ge 21, 3) := by decide +kernel
theorem dX11_costOf_61 : decode cX11_costOf 61 = .ok (.iload 4, 2) := by decide +kernel
theorem dX11_costOf_63 : decode cX11_costOf 63 = .ok (.iconst (-1), 1) := by decide +kernel
theorem dX11_costOf_64 : decode cX11_costOf 64 = .ok (.if_icmp .eq 12, 3) := by decide +kernel
theorem dX11_costOf_67 : decode cX11_costOf 67 = .ok (.iload 4, 2) := by decide +kernel
theorem dX11_costOf_69 : decode cX11_costOf 69 = .ok (.aload_n 0, 1) := by decide +kernel
theorem dX11_costOf_70 : decode cX11_costOf 70 = .ok (.getfield 20, 3) := by decide +kernel
theorem dX11_costOf_73 : decode cX11_costOf 73 = .ok (.if_icmp .le 6, 3) := by decide +kernel
theorem dX11_costOf_76 : decode cX11_costOf 76 = .ok (.ldc 138, 2) := by decide +kernel
theorem dX11_costOf_78 : decode cX11_costOf 78 = .ok (.ireturn, 1) := by decide +kernel
theorem dX11_costOf_79 : decode cX11_costOf 79 = .ok (.iconst 0, 1) := by decide +kernel
theorem dX11_costOf_80 : decode cX11_costOf 80 = .ok (.istore 5, 2) := by decide +kernel
theorem dX11_costOf_82 : decode cX11_costOf 82 = .ok (.iload 5, 2) := by decide +kernel
theorem dX11_costOf_84 : decode cX11_costOf 84 = .ok (.aload_n 0, 1) := by decide +kernel
theorem dX11_costOf_85 : decode cX11_costOf 85 = .ok (.getfield 85, 3) := by decide +kernel
theorem dX11_costOf_88 : decode cX11_costOf 88 = .ok (.if_icmp .ge 59, 3) := by decide +kernel
theorem dX11_costOf_91 : decode cX11_costOf 91 = .ok (.aload_n 0, 1) := by decide +kernel
theorem dX11_costOf_92 : decode cX11_costOf 92 = .ok (.getfield 27, 3) := by decide +kernel
theorem dX11_costOf_95 : decode cX11_costOf 95 = .ok (.bipush 25, 2) := by decide +kernel
theorem dX11_costOf_97 : decode cX11_costOf 97 = .ok (.iload_n 1, 1) := by decide +kernel
theorem dX11_costOf_98 : decode cX11_costOf 98 = .ok (.imul, 1) := by decide +kernel
theorem dX11_costOf_99 : decode cX11_costOf 99 = .ok (.iconst 5, 1) := by decide +kernel
theorem dX11_costOf_100 : decode cX11_costOf 100 = .ok (.iload_n 3, 1) := by decide +kernel
theorem dX11_costOf_101 : decode cX11_costOf 101 = .ok (.imul, 1) := by decide +kernel
theorem dX11_costOf_102 : decode cX11_costOf 102 = .ok (.iadd, 1) := by decide +kernel
theorem dX11_costOf_103 : decode cX11_costOf 103 = .ok (.iload 5, 2) := by decide +kernel
theorem dX11_costOf_105 : decode cX11_costOf 105 = .ok (.iadd, 1) := by decide +kernel
theorem dX11_costOf_106 : decode cX11_costOf 106 = .ok (.iaload, 1) := by decide +kernel
theorem dX11_costOf_107 : decode cX11_costOf 107 = .ok (.istore 6, 2) := by decide +kernel
theorem dX11_costOf_109 : decode cX11_costOf 109 = .ok (.iload 6, 2) := by decide +kernel
theorem dX11_costOf_111 : decode cX11_costOf 111 = .ok (.ifCond .le 17, 3) := by decide +kernel
theorem dX11_costOf_114 : decode cX11_costOf 114 = .ok (.aload_n 0, 1) := by decide +kernel
theorem dX11_costOf_115 : decode cX11_costOf 115 = .ok (.iload_n 3, 1) := by decide +kernel
theorem dX11_costOf_116 : decode cX11_costOf 116 = .ok (.iload 5, 2) := by decide +kernel
theorem dX11_costOf_118 : decode cX11_costOf 118 = .ok (.invokevirtual 132, 3) := by decide +kernel
theorem dX11_costOf_121 : decode cX11_costOf 121 = .ok (.iconst (-1), 1) := by decide +kernel
theorem dX11_costOf_122 : decode cX11_costOf 122 = .ok (.if_icmp .ne 6, 3) := by decide +kernel
theorem dX11_costOf_125 : decode cX11_costOf 125 = .ok (.ldc 138, 2) := by decide +kernel
theorem dX11_costOf_127 : decode cX11_costOf 127 = .ok (.ireturn, 1) := by decide +kernel
theorem dX11_costOf_128 : decode cX11_costOf 128 = .ok (.iload_n 2, 1) := by decide +kernel
theorem dX11_costOf_129 : decode cX11_costOf 129 = .ok (.iload 6, 2) := by decide +kernel
theorem dX11_costOf_131 : decode cX11_costOf 131 = .ok (.aload_n 0, 1) := by decide +kernel
theorem dX11_costOf_132 : decode cX11_costOf 132 = .ok (.iload_n 3, 1) := by decide +kernel
theorem dX11_costOf_133 : decode cX11_costOf 133 = .ok (.iload 5, 2) := by decide +kernel
theorem dX11_costOf_135 : decode cX11_costOf 135 = .ok (.invokevirtual 132, 3) := by decide +kernel
theorem dX11_costOf_138 : decode cX11_costOf 138 = .ok (.imul, 1) := by decide +kernel
theorem dX11_costOf_139 : decode cX11_costOf 139 = .ok (.iadd, 1) := by decide +kernel
theorem dX11_costOf_140 : decode cX11_costOf 140 = .ok (.istore_n 2, 1) := by decide +kernel
theorem dX11_costOf_141 : decode cX11_costOf 141 = .ok (.iinc 5 1, 3) := by decide +kernel
theorem dX11_costOf_144 : decode cX11_costOf 144 = .ok (.goto (-62), 3) := by decide +kernel
theorem dX11_costOf_147 : decode cX11_costOf 147 = .ok (.iinc 3 1, 3) := by decide +kernel
theorem dX11_costOf_150 : decode cX11_costOf 150 = .ok (.goto (-119), 3) := by decide +kernel
theorem dX11_costOf_153 : decode cX11_costOf 153 = .ok (.iload_n 2, 1) := by decide +kernel
theorem dX11_costOf_154 : decode cX11_costOf 154 = .ok (.ireturn, 1) := by decide +kernel
theorem dX11_cost_0 : decode cX11_cost 0 = .ok (.iload_n 1, 1) := by decide +kernel
theorem dX11_cost_1 : decode cX11_cost 1 = .ok (.invokestatic 107, 3) := by decide +kernel
theorem dX11_cost_4 : decode cX11_cost 4 = .ok (.ifCond .ne 6, 3) := by decide +kernel
theorem dX11_cost_7 : decode cX11_cost 7 = .ok (.bipush (-2), 2) := by decide +kernel
theorem dX11_cost_9 : decode cX11_cost 9 = .ok (.ireturn, 1) := by decide +kernel
theorem dX11_cost_10 : decode cX11_cost 10 = .ok (.aload_n 0, 1) := by decide +kernel
theorem dX11_cost_11 : decode cX11_cost 11 = .ok (.invokevirtual 104, 3) := by decide +kernel
theorem dX11_cost_14 : decode cX11_cost 14 = .ok (.aload_n 0, 1) := by decide +kernel
theorem dX11_cost_15 : decode cX11_cost 15 = .ok (.invokevirtual 126, 3) := by decide +kernel
theorem dX11_cost_18 : decode cX11_cost 18 = .ok (.aload_n 0, 1) := by decide +kernel
theorem dX11_cost_19 : decode cX11_cost 19 = .ok (.iload_n 1, 1) := by decide +kernel
theorem dX11_cost_20 : decode cX11_cost 20 = .ok (.invokevirtual 139, 3) := by decide +kernel
theorem dX11_cost_23 : decode cX11_cost 23 = .ok (.istore_n 2, 1) := by decide +kernel
theorem dX11_cost_24 : decode cX11_cost 24 = .ok (.iload_n 2, 1) := by decide +kernel
theorem dX11_cost_25 : decode cX11_cost 25 = .ok (.ldc 138, 2) := by decide +kernel
theorem dX11_cost_27 : decode cX11_cost 27 = .ok (.if_icmp .ne 7, 3) := by decide +kernel
theorem dX11_cost_30 : decode cX11_cost 30 = .ok (.iconst (-1), 1) := by decide +kernel
theorem dX11_cost_31 : decode cX11_cost 31 = .ok (.goto 4, 3) := by decide +kernel
theorem dX11_cost_34 : decode cX11_cost 34 = .ok (.iload_n 2, 1) := by decide +kernel
theorem dX11_cost_35 : decode cX11_cost 35 = .ok (.ireturn, 1) := by decide +kernel
theorem dX11_bestOf_0 : decode cX11_bestOf 0 = .ok (.aload_n 0, 1) := by decide +kernel
theorem dX11_bestOf_1 : decode cX11_bestOf 1 = .ok (.invokevirtual 104, 3) := by decide +kernel
theorem dX11_bestOf_4 : decode cX11_bestOf 4 = .ok (.ldc 138, 2) := by decide +kernel
theorem dX11_bestOf_6 : decode cX11_bestOf 6 = .ok (.istore_n 2, 1) := by decide +kernel
theorem dX11_bestOf_7 : decode cX11_bestOf 7 = .ok (.aload_n 0, 1) := by decide +kernel
theorem dX11_bestOf_8 : decode cX11_bestOf 8 = .ok (.iconst 0, 1) := by decide +kernel
theorem dX11_bestOf_9 : decode cX11_bestOf 9 = .ok (.putfield 143, 3) := by decide +kernel
theorem dX11_bestOf_12 : decode cX11_bestOf 12 = .ok (.aload_n 0, 1) := by decide +kernel
theorem dX11_bestOf_13 : decode cX11_bestOf 13 = .ok (.iconst (-1), 1) := by decide +kernel
theorem dX11_bestOf_14 : decode cX11_bestOf 14 = .ok (.putfield 146, 3) := by decide +kernel
theorem dX11_bestOf_17 : decode cX11_bestOf 17 = .ok (.aload_n 0, 1) := by decide +kernel
theorem dX11_bestOf_18 : decode cX11_bestOf 18 = .ok (.invokevirtual 116, 3) := by decide +kernel
theorem dX11_bestOf_21 : decode cX11_bestOf 21 = .ok (.istore_n 3, 1) := by decide +kernel
theorem dX11_bestOf_22 : decode cX11_bestOf 22 = .ok (.iconst 0, 1) := by decide +kernel
theorem dX11_bestOf_23 : decode cX11_bestOf 23 = .ok (.istore 4, 2) := by decide +kernel
theorem dX11_bestOf_25 : decode cX11_bestOf 25 = .ok (.iload 4, 2) := by decide +kernel
theorem dX11_bestOf_27 : decode cX11_bestOf 27 = .ok (.iload_n 3, 1) := by decide +kernel
theorem dX11_bestOf_28 : decode cX11_bestOf 28 = .ok (.if_icmp .ge 77, 3) := by decide +kernel
theorem dX11_bestOf_31 : decode cX11_bestOf 31 = .ok (.aload_n 0, 1) := by decide +kernel
theorem dX11_bestOf_32 : decode cX11_bestOf 32 = .ok (.iload 4, 2) := by decide +kernel
theorem dX11_bestOf_34 : decode cX11_bestOf 34 = .ok (.invokevirtual 149, 3) := by decide +kernel
theorem dX11_bestOf_37 : decode cX11_bestOf 37 = .ok (.ifCond .eq 11, 3) := by decide +kernel
theorem dX11_bestOf_40 : decode cX11_bestOf 40 = .ok (.aload_n 0, 1) := by decide +kernel
theorem dX11_bestOf_41 : decode cX11_bestOf 41 = .ok (.iload_n 1, 1) := by decide +kernel
theorem dX11_bestOf_42 : decode cX11_bestOf 42 = .ok (.invokevirtual 139, 3) := by decide +kernel
theorem dX11_bestOf_45 : decode cX11_bestOf 45 = .ok (.goto 5, 3) := by decide +kernel
theorem dX11_bestOf_48 : decode cX11_bestOf 48 = .ok (.ldc 138, 2) := by decide +kernel
theorem dX11_bestOf_50 : decode cX11_bestOf 50 = .ok (.istore 5, 2) := by decide +kernel
theorem dX11_bestOf_52 : decode cX11_bestOf 52 = .ok (.iload 5, 2) := by decide +kernel
theorem dX11_bestOf_54 : decode cX11_bestOf 54 = .ok (.iload_n 2, 1) := by decide +kernel
theorem dX11_bestOf_55 : decode cX11_bestOf 55 = .ok (.if_icmp .ge 17, 3) := by decide +kernel
theorem dX11_bestOf_58 : decode cX11_bestOf 58 = .ok (.iload 5, 2) := by decide +kernel
theorem dX11_bestOf_60 : decode cX11_bestOf 60 = .ok (.istore_n 2, 1) := by decide +kernel
theorem dX11_bestOf_61 : decode cX11_bestOf 61 = .ok (.aload_n 0, 1) := by decide +kernel
theorem dX11_bestOf_62 : decode cX11_bestOf 62 = .ok (.iconst 0, 1) := by decide +kernel
theorem dX11_bestOf_63 : decode cX11_bestOf 63 = .ok (.putfield 143, 3) := by decide +kernel
theorem dX11_bestOf_66 : decode cX11_bestOf 66 = .ok (.aload_n 0, 1) := by decide +kernel
theorem dX11_bestOf_67 : decode cX11_bestOf 67 = .ok (.iload 4, 2) := by decide +kernel
theorem dX11_bestOf_69 : decode cX11_bestOf 69 = .ok (.putfield 146, 3) := by decide +kernel
theorem dX11_bestOf_72 : decode cX11_bestOf 72 = .ok (.aload_n 0, 1) := by decide +kernel
theorem dX11_bestOf_73 : decode cX11_bestOf 73 = .ok (.dup, 1) := by decide +kernel
theorem dX11_bestOf_74 : decode cX11_bestOf 74 = .ok (.getfield 143, 3) := by decide +kernel
theorem dX11_bestOf_77 : decode cX11_bestOf 77 = .ok (.iload 5, 2) := by decide +kernel
theorem dX11_bestOf_79 : decode cX11_bestOf 79 = .ok (.ldc 138, 2) := by decide +kernel
theorem dX11_bestOf_81 : decode cX11_bestOf 81 = .ok (.if_icmp .ge 13, 3) := by decide +kernel
theorem dX11_bestOf_84 : decode cX11_bestOf 84 = .ok (.iload 5, 2) := by decide +kernel
theorem dX11_bestOf_86 : decode cX11_bestOf 86 = .ok (.iload_n 2, 1) := by decide +kernel
theorem dX11_bestOf_87 : decode cX11_bestOf 87 = .ok (.if_icmp .ne 7, 3) := by decide +kernel
theorem dX11_bestOf_90 : decode cX11_bestOf 90 = .ok (.iconst 1, 1) := by decide +kernel
theorem dX11_bestOf_91 : decode cX11_bestOf 91 = .ok (.goto 4, 3) := by decide +kernel
theorem dX11_bestOf_94 : decode cX11_bestOf 94 = .ok (.iconst 0, 1) := by decide +kernel
theorem dX11_bestOf_95 : decode cX11_bestOf 95 = .ok (.iadd, 1) := by decide +kernel
theorem dX11_bestOf_96 : decode cX11_bestOf 96 = .ok (.putfield 143, 3) := by decide +kernel
theorem dX11_bestOf_99 : decode cX11_bestOf 99 = .ok (.iinc 4 1, 3) := by decide +kernel
theorem dX11_bestOf_102 : decode cX11_bestOf 102 = .ok (.goto (-77), 3) := by decide +kernel
theorem dX11_bestOf_105 : decode cX11_bestOf 105 = .ok (.iload_n 2, 1) := by decide +kernel
theorem dX11_bestOf_106 : decode cX11_bestOf 106 = .ok (.ireturn, 1) := by decide +kernel
theorem dX11_best_0 : decode cX11_best 0 = .ok (.iload_n 1, 1) := by decide +kernel
theorem dX11_best_1 : decode cX11_best 1 = .ok (.invokestatic 107, 3) := by decide +kernel
theorem dX11_best_4 : decode cX11_best 4 = .ok (.ifCond .ne 6, 3) := by decide +kernel
theorem dX11_best_7 : decode cX11_best 7 = .ok (.bipush (-2), 2) := by decide +kernel
theorem dX11_best_9 : decode cX11_best 9 = .ok (.ireturn, 1) := by decide +kernel
theorem dX11_best_10 : decode cX11_best 10 = .ok (.aload_n 0, 1) := by decide +kernel
theorem dX11_best_11 : decode cX11_best 11 = .ok (.iload_n 1, 1) := by decide +kernel
theorem dX11_best_12 : decode cX11_best 12 = .ok (.invokevirtual 152, 3) := by decide +kernel
theorem dX11_best_15 : decode cX11_best 15 = .ok (.istore_n 2, 1) := by decide +kernel
theorem dX11_best_16 : decode cX11_best 16 = .ok (.iload_n 2, 1) := by decide +kernel
theorem dX11_best_17 : decode cX11_best 17 = .ok (.ldc 138, 2) := by decide +kernel
theorem dX11_best_19 : decode cX11_best 19 = .ok (.if_icmp .ne 7, 3) := by decide +kernel
theorem dX11_best_22 : decode cX11_best 22 = .ok (.iconst (-1), 1) := by decide +kernel
theorem dX11_best_23 : decode cX11_best 23 = .ok (.goto 4, 3) := by decide +kernel
theorem dX11_best_26 : decode cX11_best 26 = .ok (.iload_n 2, 1) := by decide +kernel
theorem dX11_best_27 : decode cX11_best 27 = .ok (.ireturn, 1) := by decide +kernel
theorem dX11_many_0 : decode cX11_many 0 = .ok (.iload_n 1, 1) := by decide +kernel
theorem dX11_many_1 : decode cX11_many 1 = .ok (.invokestatic 107, 3) := by decide +kernel
theorem dX11_many_4 : decode cX11_many 4 = .ok (.ifCond .ne 6, 3) := by decide +kernel
theorem dX11_many_7 : decode cX11_many 7 = .ok (.bipush (-2), 2) := by decide +kernel
theorem dX11_many_9 : decode cX11_many 9 = .ok (.ireturn, 1) := by decide +kernel
theorem dX11_many_10 : decode cX11_many 10 = .ok (.aload_n 0, 1) := by decide +kernel
theorem dX11_many_11 : decode cX11_many 11 = .ok (.iload_n 1, 1) := by decide +kernel
theorem dX11_many_12 : decode cX11_many 12 = .ok (.invokevirtual 152, 3) := by decide +kernel
theorem dX11_many_15 : decode cX11_many 15 = .ok (.pop, 1) := by decide +kernel
theorem dX11_many_16 : decode cX11_many 16 = .ok (.aload_n 0, 1) := by decide +kernel
theorem dX11_many_17 : decode cX11_many 17 = .ok (.getfield 143, 3) := by decide +kernel
theorem dX11_many_20 : decode cX11_many 20 = .ok (.ireturn, 1) := by decide +kernel
theorem dX11_take_0 : decode cX11_take 0 = .ok (.iload_n 1, 1) := by decide +kernel
theorem dX11_take_1 : decode cX11_take 1 = .ok (.invokestatic 107, 3) := by decide +kernel
theorem dX11_take_4 : decode cX11_take 4 = .ok (.ifCond .ne 6, 3) := by decide +kernel
theorem dX11_take_7 : decode cX11_take 7 = .ok (.bipush (-2), 2) := by decide +kernel
theorem dX11_take_9 : decode cX11_take 9 = .ok (.ireturn, 1) := by decide +kernel
theorem dX11_take_10 : decode cX11_take 10 = .ok (.aload_n 0, 1) := by decide +kernel
theorem dX11_take_11 : decode cX11_take 11 = .ok (.iload_n 1, 1) := by decide +kernel
theorem dX11_take_12 : decode cX11_take 12 = .ok (.invokevirtual 152, 3) := by decide +kernel
theorem dX11_take_15 : decode cX11_take 15 = .ok (.istore_n 2, 1) := by decide +kernel
theorem dX11_take_16 : decode cX11_take 16 = .ok (.iload_n 2, 1) := by decide +kernel
theorem dX11_take_17 : decode cX11_take 17 = .ok (.ldc 138, 2) := by decide +kernel
theorem dX11_take_19 : decode cX11_take 19 = .ok (.if_icmp .ne 6, 3) := by decide +kernel
theorem dX11_take_22 : decode cX11_take 22 = .ok (.bipush (-3), 2) := by decide +kernel
theorem dX11_take_24 : decode cX11_take 24 = .ok (.ireturn, 1) := by decide +kernel
theorem dX11_take_25 : decode cX11_take 25 = .ok (.aload_n 0, 1) := by decide +kernel
theorem dX11_take_26 : decode cX11_take 26 = .ok (.aload_n 0, 1) := by decide +kernel
theorem dX11_take_27 : decode cX11_take 27 = .ok (.getfield 146, 3) := by decide +kernel
theorem dX11_take_30 : decode cX11_take 30 = .ok (.invokevirtual 149, 3) := by decide +kernel
theorem dX11_take_33 : decode cX11_take 33 = .ok (.pop, 1) := by decide +kernel
theorem dX11_take_34 : decode cX11_take 34 = .ok (.aload_n 0, 1) := by decide +kernel
theorem dX11_take_35 : decode cX11_take 35 = .ok (.invokevirtual 123, 3) := by decide +kernel
theorem dX11_take_38 : decode cX11_take 38 = .ok (.iload_n 2, 1) := by decide +kernel
theorem dX11_take_39 : decode cX11_take 39 = .ok (.ireturn, 1) := by decide +kernel
theorem dX11_sortIn_0 : decode cX11_sortIn 0 = .ok (.iload_n 2, 1) := by decide +kernel
theorem dX11_sortIn_1 : decode cX11_sortIn 1 = .ok (.istore_n 3, 1) := by decide +kernel
theorem dX11_sortIn_2 : decode cX11_sortIn 2 = .ok (.iload_n 3, 1) := by decide +kernel
theorem dX11_sortIn_3 : decode cX11_sortIn 3 = .ok (.ifCond .le 35, 3) := by decide +kernel
theorem dX11_sortIn_6 : decode cX11_sortIn 6 = .ok (.aload_n 0, 1) := by decide +kernel
theorem dX11_sortIn_7 : decode cX11_sortIn 7 = .ok (.getfield 60, 3) := by decide +kernel
theorem dX11_sortIn_10 : decode cX11_sortIn 10 = .ok (.iload_n 3, 1) := by decide +kernel
theorem dX11_sortIn_11 : decode cX11_sortIn 11 = .ok (.iconst 1, 1) := by decide +kernel
theorem dX11_sortIn_12 : decode cX11_sortIn 12 = .ok (.isub, 1) := by decide +kernel
theorem dX11_sortIn_13 : decode cX11_sortIn 13 = .ok (.iaload, 1) := by decide +kernel
theorem dX11_sortIn_14 : decode cX11_sortIn 14 = .ok (.iload_n 1, 1) := by decide +kernel
theorem dX11_sortIn_15 : decode cX11_sortIn 15 = .ok (.if_icmp .le 23, 3) := by decide +kernel
theorem dX11_sortIn_18 : decode cX11_sortIn 18 = .ok (.aload_n 0, 1) := by decide +kernel
theorem dX11_sortIn_19 : decode cX11_sortIn 19 = .ok (.getfield 60, 3) := by decide +kernel
theorem dX11_sortIn_22 : decode cX11_sortIn 22 = .ok (.iload_n 3, 1) := by decide +kernel
theorem dX11_sortIn_23 : decode cX11_sortIn 23 = .ok (.aload_n 0, 1) := by decide +kernel
theorem dX11_sortIn_24 : decode cX11_sortIn 24 = .ok (.getfield 60, 3) := by decide +kernel
theorem dX11_sortIn_27 : decode cX11_sortIn 27 = .ok (.iload_n 3, 1) := by decide +kernel
theorem dX11_sortIn_28 : decode cX11_sortIn 28 = .ok (.iconst 1, 1) := by decide +kernel
theorem dX11_sortIn_29 : decode cX11_sortIn 29 = .ok (.isub, 1) := by decide +kernel
theorem dX11_sortIn_30 : decode cX11_sortIn 30 = .ok (.iaload, 1) := by decide +kernel
theorem dX11_sortIn_31 : decode cX11_sortIn 31 = .ok (.iastore, 1) := by decide +kernel
theorem dX11_sortIn_32 : decode cX11_sortIn 32 = .ok (.iinc 3 (-1), 3) := by decide +kernel
theorem dX11_sortIn_35 : decode cX11_sortIn 35 = .ok (.goto (-33), 3) := by decide +kernel
theorem dX11_sortIn_38 : decode cX11_sortIn 38 = .ok (.aload_n 0, 1) := by decide +kernel
theorem dX11_sortIn_39 : decode cX11_sortIn 39 = .ok (.getfield 60, 3) := by decide +kernel
theorem dX11_sortIn_42 : decode cX11_sortIn 42 = .ok (.iload_n 3, 1) := by decide +kernel
theorem dX11_sortIn_43 : decode cX11_sortIn 43 = .ok (.iload_n 1, 1) := by decide +kernel
theorem dX11_sortIn_44 : decode cX11_sortIn 44 = .ok (.iastore, 1) := by decide +kernel
theorem dX11_sortIn_45 : decode cX11_sortIn 45 = .ok (.return_, 1) := by decide +kernel
theorem dX11_floor_0 : decode cX11_floor 0 = .ok (.iload_n 1, 1) := by decide +kernel
theorem dX11_floor_1 : decode cX11_floor 1 = .ok (.invokestatic 107, 3) := by decide +kernel
theorem dX11_floor_4 : decode cX11_floor 4 = .ok (.ifCond .ne 6, 3) := by decide +kernel
theorem dX11_floor_7 : decode cX11_floor 7 = .ok (.bipush (-2), 2) := by decide +kernel
theorem dX11_floor_9 : decode cX11_floor 9 = .ok (.ireturn, 1) := by decide +kernel
theorem dX11_floor_10 : decode cX11_floor 10 = .ok (.aload_n 0, 1) := by decide +kernel
theorem dX11_floor_11 : decode cX11_floor 11 = .ok (.invokevirtual 104, 3) := by decide +kernel
theorem dX11_floor_14 : decode cX11_floor 14 = .ok (.iconst 0, 1) := by decide +kernel
theorem dX11_floor_15 : decode cX11_floor 15 = .ok (.istore_n 2, 1) := by decide +kernel
theorem dX11_floor_16 : decode cX11_floor 16 = .ok (.iconst 0, 1) := by decide +kernel
theorem dX11_floor_17 : decode cX11_floor 17 = .ok (.istore_n 3, 1) := by decide +kernel
theorem dX11_floor_18 : decode cX11_floor 18 = .ok (.iload_n 3, 1) := by decide +kernel
theorem dX11_floor_19 : decode cX11_floor 19 = .ok (.aload_n 0, 1) := by decide +kernel
theorem dX11_floor_20 : decode cX11_floor 20 = .ok (.getfield 85, 3) := by decide +kernel
theorem dX11_floor_23 : decode cX11_floor 23 = .ok (.if_icmp .ge 74, 3) := by decide +kernel
theorem dX11_floor_26 : decode cX11_floor 26 = .ok (.iconst 0, 1) := by decide +kernel
theorem dX11_floor_27 : decode cX11_floor 27 = .ok (.istore 4, 2) := by decide +kernel
theorem dX11_floor_29 : decode cX11_floor 29 = .ok (.iload 4, 2) := by decide +kernel
theorem dX11_floor_31 : decode cX11_floor 31 = .ok (.iload_n 3, 1) := by decide +kernel
theorem dX11_floor_32 : decode cX11_floor 32 = .ok (.if_icmp .ge 59, 3) := by decide +kernel
theorem dX11_floor_35 : decode cX11_floor 35 = .ok (.aload_n 0, 1) := by decide +kernel
theorem dX11_floor_36 : decode cX11_floor 36 = .ok (.getfield 27, 3) := by decide +kernel
theorem dX11_floor_39 : decode cX11_floor 39 = .ok (.bipush 25, 2) := by decide +kernel
theorem dX11_floor_41 : decode cX11_floor 41 = .ok (.iload_n 1, 1) := by decide +kernel
theorem dX11_floor_42 : decode cX11_floor 42 = .ok (.imul, 1) := by decide +kernel
theorem dX11_floor_43 : decode cX11_floor 43 = .ok (.iconst 5, 1) := by decide +kernel
theorem dX11_floor_44 : decode cX11_floor 44 = .ok (.iload_n 3, 1) := by decide +kernel
theorem dX11_floor_45 : decode cX11_floor 45 = .ok (.imul, 1) := by decide +kernel
theorem dX11_floor_46 : decode cX11_floor 46 = .ok (.iadd, 1) := by decide +kernel
theorem dX11_floor_47 : decode cX11_floor 47 = .ok (.iload 4, 2) := by decide +kernel
theorem dX11_floor_49 : decode cX11_floor 49 = .ok (.iadd, 1) := by decide +kernel
theorem dX11_floor_50 : decode cX11_floor 50 = .ok (.iaload, 1) := by decide +kernel
theorem dX11_floor_51 : decode cX11_floor 51 = .ok (.aload_n 0, 1) := by decide +kernel
theorem dX11_floor_52 : decode cX11_floor 52 = .ok (.getfield 27, 3) := by decide +kernel
theorem dX11_floor_55 : decode cX11_floor 55 = .ok (.bipush 25, 2) := by decide +kernel
theorem dX11_floor_57 : decode cX11_floor 57 = .ok (.iload_n 1, 1) := by decide +kernel
theorem dX11_floor_58 : decode cX11_floor 58 = .ok (.imul, 1) := by decide +kernel
theorem dX11_floor_59 : decode cX11_floor 59 = .ok (.iconst 5, 1) := by decide +kernel
theorem dX11_floor_60 : decode cX11_floor 60 = .ok (.iload 4, 2) := by decide +kernel
theorem dX11_floor_62 : decode cX11_floor 62 = .ok (.imul, 1) := by decide +kernel
theorem dX11_floor_63 : decode cX11_floor 63 = .ok (.iadd, 1) := by decide +kernel
theorem dX11_floor_64 : decode cX11_floor 64 = .ok (.iload_n 3, 1) := by decide +kernel
theorem dX11_floor_65 : decode cX11_floor 65 = .ok (.iadd, 1) := by decide +kernel
theorem dX11_floor_66 : decode cX11_floor 66 = .ok (.iaload, 1) := by decide +kernel
theorem dX11_floor_67 : decode cX11_floor 67 = .ok (.iadd, 1) := by decide +kernel
theorem dX11_floor_68 : decode cX11_floor 68 = .ok (.istore 5, 2) := by decide +kernel
theorem dX11_floor_70 : decode cX11_floor 70 = .ok (.iload 5, 2) := by decide +kernel
theorem dX11_floor_72 : decode cX11_floor 72 = .ok (.ifCond .le 13, 3) := by decide +kernel
theorem dX11_floor_75 : decode cX11_floor 75 = .ok (.aload_n 0, 1) := by decide +kernel
theorem dX11_floor_76 : decode cX11_floor 76 = .ok (.iload 5, 2) := by decide +kernel
theorem dX11_floor_78 : decode cX11_floor 78 = .ok (.iload_n 2, 1) := by decide +kernel
theorem dX11_floor_79 : decode cX11_floor 79 = .ok (.invokevirtual 155, 3) := by decide +kernel
theorem dX11_floor_82 : decode cX11_floor 82 = .ok (.iinc 2 1, 3) := by decide +kernel
theorem dX11_floor_85 : decode cX11_floor 85 = .ok (.iinc 4 1, 3) := by decide +kernel
theorem dX11_floor_88 : decode cX11_floor 88 = .ok (.goto (-59), 3) := by decide +kernel
theorem dX11_floor_91 : decode cX11_floor 91 = .ok (.iinc 3 1, 3) := by decide +kernel
theorem dX11_floor_94 : decode cX11_floor 94 = .ok (.goto (-76), 3) := by decide +kernel
theorem dX11_floor_97 : decode cX11_floor 97 = .ok (.iconst 0, 1) := by decide +kernel
theorem dX11_floor_98 : decode cX11_floor 98 = .ok (.istore_n 3, 1) := by decide +kernel
theorem dX11_floor_99 : decode cX11_floor 99 = .ok (.iload_n 3, 1) := by decide +kernel
theorem dX11_floor_100 : decode cX11_floor 100 = .ok (.iload_n 2, 1) := by decide +kernel
theorem dX11_floor_101 : decode cX11_floor 101 = .ok (.if_icmp .ge 25, 3) := by decide +kernel
theorem dX11_floor_104 : decode cX11_floor 104 = .ok (.aload_n 0, 1) := by decide +kernel
theorem dX11_floor_105 : decode cX11_floor 105 = .ok (.getfield 63, 3) := by decide +kernel
theorem dX11_floor_108 : decode cX11_floor 108 = .ok (.iload_n 3, 1) := by decide +kernel
theorem dX11_floor_109 : decode cX11_floor 109 = .ok (.aload_n 0, 1) := by decide +kernel
theorem dX11_floor_110 : decode cX11_floor 110 = .ok (.getfield 60, 3) := by decide +kernel
theorem dX11_floor_113 : decode cX11_floor 113 = .ok (.iload_n 2, 1) := by decide +kernel
theorem dX11_floor_114 : decode cX11_floor 114 = .ok (.iconst 1, 1) := by decide +kernel
theorem dX11_floor_115 : decode cX11_floor 115 = .ok (.isub, 1) := by decide +kernel
theorem dX11_floor_116 : decode cX11_floor 116 = .ok (.iload_n 3, 1) := by decide +kernel
theorem dX11_floor_117 : decode cX11_floor 117 = .ok (.isub, 1) := by decide +kernel
theorem dX11_floor_118 : decode cX11_floor 118 = .ok (.iaload, 1) := by decide +kernel
theorem dX11_floor_119 : decode cX11_floor 119 = .ok (.iastore, 1) := by decide +kernel
theorem dX11_floor_120 : decode cX11_floor 120 = .ok (.iinc 3 1, 3) := by decide +kernel
theorem dX11_floor_123 : decode cX11_floor 123 = .ok (.goto (-24), 3) := by decide +kernel
theorem dX11_floor_126 : decode cX11_floor 126 = .ok (.iconst 0, 1) := by decide +kernel
theorem dX11_floor_127 : decode cX11_floor 127 = .ok (.istore_n 3, 1) := by decide +kernel
theorem dX11_floor_128 : decode cX11_floor 128 = .ok (.iconst 0, 1) := by decide +kernel
theorem dX11_floor_129 : decode cX11_floor 129 = .ok (.istore 4, 2) := by decide +kernel
theorem dX11_floor_131 : decode cX11_floor 131 = .ok (.iload 4, 2) := by decide +kernel
theorem dX11_floor_133 : decode cX11_floor 133 = .ok (.aload_n 0, 1) := by decide +kernel
theorem dX11_floor_134 : decode cX11_floor 134 = .ok (.getfield 82, 3) := by decide +kernel
theorem dX11_floor_137 : decode cX11_floor 137 = .ok (.if_icmp .ge 63, 3) := by decide +kernel
theorem dX11_floor_140 : decode cX11_floor 140 = .ok (.iconst 0, 1) := by decide +kernel
theorem dX11_floor_141 : decode cX11_floor 141 = .ok (.istore 5, 2) := by decide +kernel
theorem dX11_floor_143 : decode cX11_floor 143 = .ok (.iload 5, 2) := by decide +kernel
theorem dX11_floor_145 : decode cX11_floor 145 = .ok (.iload 4, 2) := by decide +kernel
theorem dX11_floor_147 : decode cX11_floor 147 = .ok (.if_icmp .ge 47, 3) := by decide +kernel
theorem dX11_floor_150 : decode cX11_floor 150 = .ok (.aload_n 0, 1) := by decide +kernel
theorem dX11_floor_151 : decode cX11_floor 151 = .ok (.getfield 51, 3) := by decide +kernel
theorem dX11_floor_154 : decode cX11_floor 154 = .ok (.bipush 6, 2) := by decide +kernel
theorem dX11_floor_156 : decode cX11_floor 156 = .ok (.iload 4, 2) := by decide +kernel
theorem dX11_floor_158 : decode cX11_floor 158 = .ok (.imul, 1) := by decide +kernel
theorem dX11_floor_159 : decode cX11_floor 159 = .ok (.iload 5, 2) := by decide +kernel
theorem dX11_floor_161 : decode cX11_floor 161 = .ok (.iadd, 1) := by decide +kernel
theorem dX11_floor_162 : decode cX11_floor 162 = .ok (.iaload, 1) := by decide +kernel
theorem dX11_floor_163 : decode cX11_floor 163 = .ok (.iconst (-1), 1) := by decide +kernel
theorem dX11_floor_164 : decode cX11_floor 164 = .ok (.if_icmp .eq 24, 3) := by decide +kernel
theorem dX11_floor_167 : decode cX11_floor 167 = .ok (.aload_n 0, 1) := by decide +kernel
theorem dX11_floor_168 : decode cX11_floor 168 = .ok (.aload_n 0, 1) := by decide +kernel
theorem dX11_floor_169 : decode cX11_floor 169 = .ok (.getfield 51, 3) := by decide +kernel
theorem dX11_floor_172 : decode cX11_floor 172 = .ok (.bipush 6, 2) := by decide +kernel
theorem dX11_floor_174 : decode cX11_floor 174 = .ok (.iload 4, 2) := by decide +kernel
theorem dX11_floor_176 : decode cX11_floor 176 = .ok (.imul, 1) := by decide +kernel
theorem dX11_floor_177 : decode cX11_floor 177 = .ok (.iload 5, 2) := by decide +kernel
theorem dX11_floor_179 : decode cX11_floor 179 = .ok (.iadd, 1) := by decide +kernel
theorem dX11_floor_180 : decode cX11_floor 180 = .ok (.iaload, 1) := by decide +kernel
theorem dX11_floor_181 : decode cX11_floor 181 = .ok (.iload_n 3, 1) := by decide +kernel
theorem dX11_floor_182 : decode cX11_floor 182 = .ok (.invokevirtual 155, 3) := by decide +kernel
theorem dX11_floor_185 : decode cX11_floor 185 = .ok (.iinc 3 1, 3) := by decide +kernel
theorem dX11_floor_188 : decode cX11_floor 188 = .ok (.iinc 5 1, 3) := by decide +kernel
theorem dX11_floor_191 : decode cX11_floor 191 = .ok (.goto (-48), 3) := by decide +kernel
theorem dX11_floor_194 : decode cX11_floor 194 = .ok (.iinc 4 1, 3) := by decide +kernel
theorem dX11_floor_197 : decode cX11_floor 197 = .ok (.goto (-66), 3) := by decide +kernel
theorem dX11_floor_200 : decode cX11_floor 200 = .ok (.iconst 0, 1) := by decide +kernel
theorem dX11_floor_201 : decode cX11_floor 201 = .ok (.istore 4, 2) := by decide +kernel
theorem dX11_floor_203 : decode cX11_floor 203 = .ok (.iconst 0, 1) := by decide +kernel
theorem dX11_floor_204 : decode cX11_floor 204 = .ok (.istore 5, 2) := by decide +kernel
theorem dX11_floor_206 : decode cX11_floor 206 = .ok (.iload 5, 2) := by decide +kernel
theorem dX11_floor_208 : decode cX11_floor 208 = .ok (.iload_n 2, 1) := by decide +kernel
theorem dX11_floor_209 : decode cX11_floor 209 = .ok (.if_icmp .ge 34, 3) := by decide +kernel
theorem dX11_floor_212 : decode cX11_floor 212 = .ok (.iload_n 3, 1) := by decide +kernel
theorem dX11_floor_213 : decode cX11_floor 213 = .ok (.iload_n 2, 1) := by decide +kernel
theorem dX11_floor_214 : decode cX11_floor 214 = .ok (.if_icmp .lt 29, 3) := by decide +kernel
theorem dX11_floor_217 : decode cX11_floor 217 = .ok (.iload 4, 2) := by decide +kernel
theorem dX11_floor_219 : decode cX11_floor 219 = .ok (.aload_n 0, 1) := by decide +kernel
theorem dX11_floor_220 : decode cX11_floor 220 = .ok (.getfield 63, 3) := by decide +kernel
theorem dX11_floor_223 : decode cX11_floor 223 = .ok (.iload 5, 2) := by decide +kernel
theorem dX11_floor_225 : decode cX11_floor 225 = .ok (.iaload, 1) := by decide +kernel
theorem dX11_floor_226 : decode cX11_floor 226 = .ok (.aload_n 0, 1) := by decide +kernel
theorem dX11_floor_227 : decode cX11_floor 227 = .ok (.getfield 60, 3) := by decide +kernel
theorem dX11_floor_230 : decode cX11_floor 230 = .ok (.iload 5, 2) := by decide +kernel
theorem dX11_floor_232 : decode cX11_floor 232 = .ok (.iaload, 1) := by decide +kernel
theorem dX11_floor_233 : decode cX11_floor 233 = .ok (.imul, 1) := by decide +kernel
theorem dX11_floor_234 : decode cX11_floor 234 = .ok (.iadd, 1) := by decide +kernel
theorem dX11_floor_235 : decode cX11_floor 235 = .ok (.istore 4, 2) := by decide +kernel
theorem dX11_floor_237 : decode cX11_floor 237 = .ok (.iinc 5 1, 3) := by decide +kernel
theorem dX11_floor_240 : decode cX11_floor 240 = .ok (.goto (-34), 3) := by decide +kernel
theorem dX11_floor_243 : decode cX11_floor 243 = .ok (.iload_n 3, 1) := by decide +kernel
theorem dX11_floor_244 : decode cX11_floor 244 = .ok (.iload_n 2, 1) := by decide +kernel
theorem dX11_floor_245 : decode cX11_floor 245 = .ok (.if_icmp .ge 7, 3) := by decide +kernel
theorem dX11_floor_248 : decode cX11_floor 248 = .ok (.iconst (-1), 1) := by decide +kernel
theorem dX11_floor_249 : decode cX11_floor 249 = .ok (.goto 5, 3) := by decide +kernel
theorem dX11_floor_252 : decode cX11_floor 252 = .ok (.iload 4, 2) := by decide +kernel
theorem dX11_floor_254 : decode cX11_floor 254 = .ok (.ireturn, 1) := by decide +kernel
theorem dX11_look_0 : decode cX11_look 0 = .ok (.aload_n 0, 1) := by decide +kernel
theorem dX11_look_1 : decode cX11_look 1 = .ok (.iload_n 1, 1) := by decide +kernel
theorem dX11_look_2 : decode cX11_look 2 = .ok (.invokevirtual 139, 3) := by decide +kernel
theorem dX11_look_5 : decode cX11_look 5 = .ok (.istore_n 2, 1) := by decide +kernel
theorem dX11_look_6 : decode cX11_look 6 = .ok (.aload_n 0, 1) := by decide +kernel
theorem dX11_look_7 : decode cX11_look 7 = .ok (.invokevirtual 159, 3) := by decide +kernel
theorem dX11_look_10 : decode cX11_look 10 = .ok (.istore_n 3, 1) := by decide +kernel
theorem dX11_look_11 : decode cX11_look 11 = .ok (.iload_n 2, 1) := by decide +kernel
theorem dX11_look_12 : decode cX11_look 12 = .ok (.aload_n 0, 1) := by decide +kernel
theorem dX11_look_13 : decode cX11_look 13 = .ok (.getfield 162, 3) := by decide +kernel
theorem dX11_look_16 : decode cX11_look 16 = .ok (.if_icmp .lt 33, 3) := by decide +kernel
theorem dX11_look_19 : decode cX11_look 19 = .ok (.iload_n 2, 1) := by decide +kernel
theorem dX11_look_20 : decode cX11_look 20 = .ok (.aload_n 0, 1) := by decide +kernel
theorem dX11_look_21 : decode cX11_look 21 = .ok (.getfield 162, 3) := by decide +kernel
theorem dX11_look_24 : decode cX11_look 24 = .ok (.if_icmp .ne 35, 3) := by decide +kernel
theorem dX11_look_27 : decode cX11_look 27 = .ok (.iload_n 2, 1) := by decide +kernel
theorem dX11_look_28 : decode cX11_look 28 = .ok (.ldc 138, 2) := by decide +kernel
theorem dX11_look_30 : decode cX11_look 30 = .ok (.if_icmp .ge 29, 3) := by decide +kernel
theorem dX11_look_33 : decode cX11_look 33 = .ok (.aload_n 0, 1) := by decide +kernel
theorem dX11_look_34 : decode cX11_look 34 = .ok (.getfield 165, 3) := by decide +kernel
theorem dX11_look_37 : decode cX11_look 37 = .ok (.iconst (-1), 1) := by decide +kernel
theorem dX11_look_38 : decode cX11_look 38 = .ok (.if_icmp .eq 21, 3) := by decide +kernel
theorem dX11_look_41 : decode cX11_look 41 = .ok (.iload_n 3, 1) := by decide +kernel
theorem dX11_look_42 : decode cX11_look 42 = .ok (.aload_n 0, 1) := by decide +kernel
theorem dX11_look_43 : decode cX11_look 43 = .ok (.getfield 165, 3) := by decide +kernel
theorem dX11_look_46 : decode cX11_look 46 = .ok (.if_icmp .ge 13, 3) := by decide +kernel
theorem dX11_look_49 : decode cX11_look 49 = .ok (.aload_n 0, 1) := by decide +kernel
theorem dX11_look_50 : decode cX11_look 50 = .ok (.iload_n 2, 1) := by decide +kernel
theorem dX11_look_51 : decode cX11_look 51 = .ok (.putfield 162, 3) := by decide +kernel
theorem dX11_look_54 : decode cX11_look 54 = .ok (.aload_n 0, 1) := by decide +kernel
theorem dX11_look_55 : decode cX11_look 55 = .ok (.iload_n 3, 1) := by decide +kernel
theorem dX11_look_56 : decode cX11_look 56 = .ok (.putfield 165, 3) := by decide +kernel
theorem dX11_look_59 : decode cX11_look 59 = .ok (.return_, 1) := by decide +kernel
theorem dX11_findChange_0 : decode cX11_findChange 0 = .ok (.aload_n 0, 1) := by decide +kernel
theorem dX11_findChange_1 : decode cX11_findChange 1 = .ok (.invokevirtual 126, 3) := by decide +kernel
theorem dX11_findChange_4 : decode cX11_findChange 4 = .ok (.aload_n 0, 1) := by decide +kernel
theorem dX11_findChange_5 : decode cX11_findChange 5 = .ok (.aload_n 0, 1) := by decide +kernel
theorem dX11_findChange_6 : decode cX11_findChange 6 = .ok (.iload_n 1, 1) := by decide +kernel
theorem dX11_findChange_7 : decode cX11_findChange 7 = .ok (.invokevirtual 139, 3) := by decide +kernel
theorem dX11_findChange_10 : decode cX11_findChange 10 = .ok (.putfield 162, 3) := by decide +kernel
theorem dX11_findChange_13 : decode cX11_findChange 13 = .ok (.aload_n 0, 1) := by decide +kernel
theorem dX11_findChange_14 : decode cX11_findChange 14 = .ok (.iconst (-1), 1) := by decide +kernel
theorem dX11_findChange_15 : decode cX11_findChange 15 = .ok (.putfield 165, 3) := by decide +kernel
theorem dX11_findChange_18 : decode cX11_findChange 18 = .ok (.iconst 0, 1) := by decide +kernel
theorem dX11_findChange_19 : decode cX11_findChange 19 = .ok (.istore_n 2, 1) := by decide +kernel
theorem dX11_findChange_20 : decode cX11_findChange 20 = .ok (.iload_n 2, 1) := by decide +kernel
theorem dX11_findChange_21 : decode cX11_findChange 21 = .ok (.aload_n 0, 1) := by decide +kernel
theorem dX11_findChange_22 : decode cX11_findChange 22 = .ok (.getfield 85, 3) := by decide +kernel
theorem dX11_findChange_25 : decode cX11_findChange 25 = .ok (.if_icmp .ge 107, 3) := by decide +kernel
theorem dX11_findChange_28 : decode cX11_findChange 28 = .ok (.iconst 0, 1) := by decide +kernel
theorem dX11_findChange_29 : decode cX11_findChange 29 = .ok (.istore_n 3, 1) := by decide +kernel
theorem dX11_findChange_30 : decode cX11_findChange 30 = .ok (.iload_n 3, 1) := by decide +kernel
theorem dX11_findChange_31 : decode cX11_findChange 31 = .ok (.aload_n 0, 1) := by decide +kernel
theorem dX11_findChange_32 : decode cX11_findChange 32 = .ok (.getfield 82, 3) := by decide +kernel
theorem dX11_findChange_35 : decode cX11_findChange 35 = .ok (.if_icmp .ge 91, 3) := by decide +kernel
theorem dX11_findChange_38 : decode cX11_findChange 38 = .ok (.aload_n 0, 1) := by decide +kernel
theorem dX11_findChange_39 : decode cX11_findChange 39 = .ok (.invokevirtual 126, 3) := by decide +kernel
theorem dX11_findChange_42 : decode cX11_findChange 42 = .ok (.iconst (-1), 1) := by decide +kernel
theorem dX11_findChange_43 : decode cX11_findChange 43 = .ok (.istore 4, 2) := by decide +kernel
theorem dX11_findChange_45 : decode cX11_findChange 45 = .ok (.iconst 0, 1) := by decide +kernel
theorem dX11_findChange_46 : decode cX11_findChange 46 = .ok (.istore 5, 2) := by decide +kernel
theorem dX11_findChange_48 : decode cX11_findChange 48 = .ok (.iload 5, 2) := by decide +kernel
theorem dX11_findChange_50 : decode cX11_findChange 50 = .ok (.aload_n 0, 1) := by decide +kernel
theorem dX11_findChange_51 : decode cX11_findChange 51 = .ok (.getfield 85, 3) := by decide +kernel
theorem dX11_findChange_54 : decode cX11_findChange 54 = .ok (.if_icmp .ge 29, 3) := by decide +kernel
theorem dX11_findChange_57 : decode cX11_findChange 57 = .ok (.aload_n 0, 1) := by decide +kernel
theorem dX11_findChange_58 : decode cX11_findChange 58 = .ok (.getfield 57, 3) := by decide +kernel
theorem dX11_findChange_61 : decode cX11_findChange 61 = .ok (.iload 5, 2) := by decide +kernel
theorem dX11_findChange_63 : decode cX11_findChange 63 = .ok (.iaload, 1) := by decide +kernel
theorem dX11_findChange_64 : decode cX11_findChange 64 = .ok (.iload_n 3, 1) := by decide +kernel
theorem dX11_findChange_65 : decode cX11_findChange 65 = .ok (.if_icmp .ne 8, 3) := by decide +kernel
theorem dX11_findChange_68 : decode cX11_findChange 68 = .ok (.iload 5, 2) := by decide +kernel
theorem dX11_findChange_70 : decode cX11_findChange 70 = .ok (.goto 5, 3) := by decide +kernel
theorem dX11_findChange_73 : decode cX11_findChange 73 = .ok (.iload 4, 2) := by decide +kernel
theorem dX11_findChange_75 : decode cX11_findChange 75 = .ok (.istore 4, 2) := by decide +kernel
theorem dX11_findChange_77 : decode cX11_findChange 77 = .ok (.iinc 5 1, 3) := by decide +kernel
theorem dX11_findChange_80 : decode cX11_findChange 80 = .ok (.goto (-32), 3) := by decide +kernel
theorem dX11_findChange_83 : decode cX11_findChange 83 = .ok (.iload 4, 2) := by decide +kernel
theorem dX11_findChange_85 : decode cX11_findChange 85 = .ok (.iload_n 2, 1) := by decide +kernel
theorem dX11_findChange_86 : decode cX11_findChange 86 = .ok (.if_icmp .eq 34, 3) := by decide +kernel
theorem dX11_findChange_89 : decode cX11_findChange 89 = .ok (.iload 4, 2) := by decide +kernel
theorem dX11_findChange_91 : decode cX11_findChange 91 = .ok (.iconst (-1), 1) := by decide +kernel
theorem dX11_findChange_92 : decode cX11_findChange 92 = .ok (.if_icmp .eq 16, 3) := by decide +kernel
theorem dX11_findChange_95 : decode cX11_findChange 95 = .ok (.aload_n 0, 1) := by decide +kernel
theorem dX11_findChange_96 : decode cX11_findChange 96 = .ok (.getfield 57, 3) := by decide +kernel
theorem dX11_findChange_99 : decode cX11_findChange 99 = .ok (.iload 4, 2) := by decide +kernel
theorem dX11_findChange_101 : decode cX11_findChange 101 = .ok (.aload_n 0, 1) := by decide +kernel
theorem dX11_findChange_102 : decode cX11_findChange 102 = .ok (.getfield 57, 3) := by decide +kernel
theorem dX11_findChange_105 : decode cX11_findChange 105 = .ok (.iload_n 2, 1) := by decide +kernel
theorem dX11_findChange_106 : decode cX11_findChange 106 = .ok (.iaload, 1) := by decide +kernel
theorem dX11_findChange_107 : decode cX11_findChange 107 = .ok (.iastore, 1) := by decide +kernel
theorem dX11_findChange_108 : decode cX11_findChange 108 = .ok (.aload_n 0, 1) := by decide +kernel
theorem dX11_findChange_109 : decode cX11_findChange 109 = .ok (.getfield 57, 3) := by decide +kernel
theorem dX11_findChange_112 : decode cX11_findChange 112 = .ok (.iload_n 2, 1) := by decide +kernel
theorem dX11_findChange_113 : decode cX11_findChange 113 = .ok (.iload_n 3, 1) := by decide +kernel
theorem dX11_findChange_114 : decode cX11_findChange 114 = .ok (.iastore, 1) := by decide +kernel
theorem dX11_findChange_115 : decode cX11_findChange 115 = .ok (.aload_n 0, 1) := by decide +kernel
theorem dX11_findChange_116 : decode cX11_findChange 116 = .ok (.iload_n 1, 1) := by decide +kernel
theorem dX11_findChange_117 : decode cX11_findChange 117 = .ok (.invokevirtual 168, 3) := by decide +kernel
theorem dX11_findChange_120 : decode cX11_findChange 120 = .ok (.iinc 3 1, 3) := by decide +kernel
theorem dX11_findChange_123 : decode cX11_findChange 123 = .ok (.goto (-93), 3) := by decide +kernel
theorem dX11_findChange_126 : decode cX11_findChange 126 = .ok (.iinc 2 1, 3) := by decide +kernel
theorem dX11_findChange_129 : decode cX11_findChange 129 = .ok (.goto (-109), 3) := by decide +kernel
theorem dX11_findChange_132 : decode cX11_findChange 132 = .ok (.return_, 1) := by decide +kernel
theorem dX11_settled_0 : decode cX11_settled 0 = .ok (.iload_n 1, 1) := by decide +kernel
theorem dX11_settled_1 : decode cX11_settled 1 = .ok (.invokestatic 107, 3) := by decide +kernel
theorem dX11_settled_4 : decode cX11_settled 4 = .ok (.ifCond .ne 6, 3) := by decide +kernel
theorem dX11_settled_7 : decode cX11_settled 7 = .ok (.bipush (-2), 2) := by decide +kernel
theorem dX11_settled_9 : decode cX11_settled 9 = .ok (.ireturn, 1) := by decide +kernel
theorem dX11_settled_10 : decode cX11_settled 10 = .ok (.aload_n 0, 1) := by decide +kernel
theorem dX11_settled_11 : decode cX11_settled 11 = .ok (.invokevirtual 104, 3) := by decide +kernel
theorem dX11_settled_14 : decode cX11_settled 14 = .ok (.aload_n 0, 1) := by decide +kernel
theorem dX11_settled_15 : decode cX11_settled 15 = .ok (.invokevirtual 126, 3) := by decide +kernel
theorem dX11_settled_18 : decode cX11_settled 18 = .ok (.aload_n 0, 1) := by decide +kernel
theorem dX11_settled_19 : decode cX11_settled 19 = .ok (.iload_n 1, 1) := by decide +kernel
theorem dX11_settled_20 : decode cX11_settled 20 = .ok (.invokevirtual 139, 3) := by decide +kernel
theorem dX11_settled_23 : decode cX11_settled 23 = .ok (.ldc 138, 2) := by decide +kernel
theorem dX11_settled_25 : decode cX11_settled 25 = .ok (.if_icmp .ne 5, 3) := by decide +kernel
theorem dX11_settled_28 : decode cX11_settled 28 = .ok (.iconst 0, 1) := by decide +kernel
theorem dX11_settled_29 : decode cX11_settled 29 = .ok (.ireturn, 1) := by decide +kernel
theorem dX11_settled_30 : decode cX11_settled 30 = .ok (.aload_n 0, 1) := by decide +kernel
theorem dX11_settled_31 : decode cX11_settled 31 = .ok (.iload_n 1, 1) := by decide +kernel
theorem dX11_settled_32 : decode cX11_settled 32 = .ok (.invokevirtual 171, 3) := by decide +kernel
theorem dX11_settled_35 : decode cX11_settled 35 = .ok (.aload_n 0, 1) := by decide +kernel
theorem dX11_settled_36 : decode cX11_settled 36 = .ok (.getfield 165, 3) := by decide +kernel
theorem dX11_settled_39 : decode cX11_settled 39 = .ok (.iconst (-1), 1) := by decide +kernel
theorem dX11_settled_40 : decode cX11_settled 40 = .ok (.if_icmp .ne 7, 3) := by decide +kernel
theorem dX11_settled_43 : decode cX11_settled 43 = .ok (.iconst 1, 1) := by decide +kernel
theorem dX11_settled_44 : decode cX11_settled 44 = .ok (.goto 4, 3) := by decide +kernel
theorem dX11_settled_47 : decode cX11_settled 47 = .ok (.iconst 0, 1) := by decide +kernel
theorem dX11_settled_48 : decode cX11_settled 48 = .ok (.ireturn, 1) := by decide +kernel
theorem dX11_climb_0 : decode cX11_climb 0 = .ok (.iload_n 1, 1) := by decide +kernel
theorem dX11_climb_1 : decode cX11_climb 1 = .ok (.invokestatic 107, 3) := by decide +kernel
theorem dX11_climb_4 : decode cX11_climb 4 = .ok (.ifCond .ne 6, 3) := by decide +kernel
theorem dX11_climb_7 : decode cX11_climb 7 = .ok (.bipush (-2), 2) := by decide +kernel
theorem dX11_climb_9 : decode cX11_climb 9 = .ok (.ireturn, 1) := by decide +kernel
theorem dX11_climb_10 : decode cX11_climb 10 = .ok (.aload_n 0, 1) := by decide +kernel
theorem dX11_climb_11 : decode cX11_climb 11 = .ok (.invokevirtual 104, 3) := by decide +kernel
theorem dX11_climb_14 : decode cX11_climb 14 = .ok (.iconst 0, 1) := by decide +kernel
theorem dX11_climb_15 : decode cX11_climb 15 = .ok (.istore_n 2, 1) := by decide +kernel
theorem dX11_climb_16 : decode cX11_climb 16 = .ok (.aload_n 0, 1) := by decide +kernel
theorem dX11_climb_17 : decode cX11_climb 17 = .ok (.iload_n 1, 1) := by decide +kernel
theorem dX11_climb_18 : decode cX11_climb 18 = .ok (.invokevirtual 171, 3) := by decide +kernel
theorem dX11_climb_21 : decode cX11_climb 21 = .ok (.aload_n 0, 1) := by decide +kernel
theorem dX11_climb_22 : decode cX11_climb 22 = .ok (.getfield 165, 3) := by decide +kernel
theorem dX11_climb_25 : decode cX11_climb 25 = .ok (.iconst (-1), 1) := by decide +kernel
theorem dX11_climb_26 : decode cX11_climb 26 = .ok (.if_icmp .eq 27, 3) := by decide +kernel
theorem dX11_climb_29 : decode cX11_climb 29 = .ok (.aload_n 0, 1) := by decide +kernel
theorem dX11_climb_30 : decode cX11_climb 30 = .ok (.aload_n 0, 1) := by decide +kernel
theorem dX11_climb_31 : decode cX11_climb 31 = .ok (.getfield 165, 3) := by decide +kernel
theorem dX11_climb_34 : decode cX11_climb 34 = .ok (.invokevirtual 149, 3) := by decide +kernel
theorem dX11_climb_37 : decode cX11_climb 37 = .ok (.pop, 1) := by decide +kernel
theorem dX11_climb_38 : decode cX11_climb 38 = .ok (.aload_n 0, 1) := by decide +kernel
theorem dX11_climb_39 : decode cX11_climb 39 = .ok (.invokevirtual 123, 3) := by decide +kernel
theorem dX11_climb_42 : decode cX11_climb 42 = .ok (.iinc 2 1, 3) := by decide +kernel
theorem dX11_climb_45 : decode cX11_climb 45 = .ok (.aload_n 0, 1) := by decide +kernel
theorem dX11_climb_46 : decode cX11_climb 46 = .ok (.iload_n 1, 1) := by decide +kernel
theorem dX11_climb_47 : decode cX11_climb 47 = .ok (.invokevirtual 171, 3) := by decide +kernel
theorem dX11_climb_50 : decode cX11_climb 50 = .ok (.goto (-29), 3) := by decide +kernel
theorem dX11_climb_53 : decode cX11_climb 53 = .ok (.iload_n 2, 1) := by decide +kernel
theorem dX11_climb_54 : decode cX11_climb 54 = .ok (.ireturn, 1) := by decide +kernel
theorem dX11_stepTo_0 : decode cX11_stepTo 0 = .ok (.aload_n 0, 1) := by decide +kernel
theorem dX11_stepTo_1 : decode cX11_stepTo 1 = .ok (.iload_n 1, 1) := by decide +kernel
theorem dX11_stepTo_2 : decode cX11_stepTo 2 = .ok (.invokevirtual 149, 3) := by decide +kernel
theorem dX11_stepTo_5 : decode cX11_stepTo 5 = .ok (.pop, 1) := by decide +kernel
theorem dX11_stepTo_6 : decode cX11_stepTo 6 = .ok (.iconst 0, 1) := by decide +kernel
theorem dX11_stepTo_7 : decode cX11_stepTo 7 = .ok (.istore 4, 2) := by decide +kernel
theorem dX11_stepTo_9 : decode cX11_stepTo 9 = .ok (.iload 4, 2) := by decide +kernel
theorem dX11_stepTo_11 : decode cX11_stepTo 11 = .ok (.aload_n 0, 1) := by decide +kernel
theorem dX11_stepTo_12 : decode cX11_stepTo 12 = .ok (.getfield 85, 3) := by decide +kernel
theorem dX11_stepTo_15 : decode cX11_stepTo 15 = .ok (.if_icmp .ge 22, 3) := by decide +kernel
theorem dX11_stepTo_18 : decode cX11_stepTo 18 = .ok (.aload_n 0, 1) := by decide +kernel
theorem dX11_stepTo_19 : decode cX11_stepTo 19 = .ok (.getfield 57, 3) := by decide +kernel
theorem dX11_stepTo_22 : decode cX11_stepTo 22 = .ok (.iload 4, 2) := by decide +kernel
theorem dX11_stepTo_24 : decode cX11_stepTo 24 = .ok (.iaload, 1) := by decide +kernel
theorem dX11_stepTo_25 : decode cX11_stepTo 25 = .ok (.iload_n 3, 1) := by decide +kernel
theorem dX11_stepTo_26 : decode cX11_stepTo 26 = .ok (.if_icmp .ne 5, 3) := by decide +kernel
theorem dX11_stepTo_29 : decode cX11_stepTo 29 = .ok (.iconst (-1), 1) := by decide +kernel
theorem dX11_stepTo_30 : decode cX11_stepTo 30 = .ok (.ireturn, 1) := by decide +kernel
theorem dX11_stepTo_31 : decode cX11_stepTo 31 = .ok (.iinc 4 1, 3) := by decide +kernel
theorem dX11_stepTo_34 : decode cX11_stepTo 34 = .ok (.goto (-25), 3) := by decide +kernel
theorem dX11_stepTo_37 : decode cX11_stepTo 37 = .ok (.aload_n 0, 1) := by decide +kernel
theorem dX11_stepTo_38 : decode cX11_stepTo 38 = .ok (.getfield 57, 3) := by decide +kernel
theorem dX11_stepTo_41 : decode cX11_stepTo 41 = .ok (.iload_n 2, 1) := by decide +kernel
theorem dX11_stepTo_42 : decode cX11_stepTo 42 = .ok (.iload_n 3, 1) := by decide +kernel
theorem dX11_stepTo_43 : decode cX11_stepTo 43 = .ok (.iastore, 1) := by decide +kernel
theorem dX11_stepTo_44 : decode cX11_stepTo 44 = .ok (.aload_n 0, 1) := by decide +kernel
theorem dX11_stepTo_45 : decode cX11_stepTo 45 = .ok (.invokevirtual 159, 3) := by decide +kernel
theorem dX11_stepTo_48 : decode cX11_stepTo 48 = .ok (.ireturn, 1) := by decide +kernel
theorem dX11_withStep_0 : decode cX11_withStep 0 = .ok (.aload_n 0, 1) := by decide +kernel
theorem dX11_withStep_1 : decode cX11_withStep 1 = .ok (.iload_n 1, 1) := by decide +kernel
theorem dX11_withStep_2 : decode cX11_withStep 2 = .ok (.iload_n 2, 1) := by decide +kernel
theorem dX11_withStep_3 : decode cX11_withStep 3 = .ok (.iload_n 3, 1) := by decide +kernel
theorem dX11_withStep_4 : decode cX11_withStep 4 = .ok (.invokevirtual 174, 3) := by decide +kernel
theorem dX11_withStep_7 : decode cX11_withStep 7 = .ok (.istore 4, 2) := by decide +kernel
theorem dX11_withStep_9 : decode cX11_withStep 9 = .ok (.iload 4, 2) := by decide +kernel
theorem dX11_withStep_11 : decode cX11_withStep 11 = .ok (.iconst (-1), 1) := by decide +kernel
theorem dX11_withStep_12 : decode cX11_withStep 12 = .ok (.if_icmp .eq 15, 3) := by decide +kernel
theorem dX11_withStep_15 : decode cX11_withStep 15 = .ok (.aload_n 0, 1) := by decide +kernel
theorem dX11_withStep_16 : decode cX11_withStep 16 = .ok (.getfield 66, 3) := by decide +kernel
theorem dX11_withStep_19 : decode cX11_withStep 19 = .ok (.iload 4, 2) := by decide +kernel
theorem dX11_withStep_21 : decode cX11_withStep 21 = .ok (.iaload, 1) := by decide +kernel
theorem dX11_withStep_22 : decode cX11_withStep 22 = .ok (.ldc 138, 2) := by decide +kernel
theorem dX11_withStep_24 : decode cX11_withStep 24 = .ok (.if_icmp .ne 8, 3) := by decide +kernel
theorem dX11_withStep_27 : decode cX11_withStep 27 = .ok (.ldc 138, 2) := by decide +kernel
theorem dX11_withStep_29 : decode cX11_withStep 29 = .ok (.goto 23, 3) := by decide +kernel
theorem dX11_withStep_32 : decode cX11_withStep 32 = .ok (.aload_n 0, 1) := by decide +kernel
theorem dX11_withStep_33 : decode cX11_withStep 33 = .ok (.getfield 66, 3) := by decide +kernel
theorem dX11_withStep_36 : decode cX11_withStep 36 = .ok (.iload 4, 2) := by decide +kernel
theorem dX11_withStep_38 : decode cX11_withStep 38 = .ok (.iaload, 1) := by decide +kernel
theorem dX11_withStep_39 : decode cX11_withStep 39 = .ok (.sipush 1000, 3) := by decide +kernel
theorem dX11_withStep_42 : decode cX11_withStep 42 = .ok (.aload_n 0, 1) := by decide +kernel
theorem dX11_withStep_43 : decode cX11_withStep 43 = .ok (.getfield 30, 3) := by decide +kernel
theorem dX11_withStep_46 : decode cX11_withStep 46 = .ok (.iload_n 2, 1) := by decide +kernel
theorem dX11_withStep_47 : decode cX11_withStep 47 = .ok (.iaload, 1) := by decide +kernel
theorem dX11_withStep_48 : decode cX11_withStep 48 = .ok (.imul, 1) := by decide +kernel
theorem dX11_withStep_49 : decode cX11_withStep 49 = .ok (.iadd, 1) := by decide +kernel
theorem dX11_withStep_50 : decode cX11_withStep 50 = .ok (.iconst 1, 1) := by decide +kernel
theorem dX11_withStep_51 : decode cX11_withStep 51 = .ok (.iadd, 1) := by decide +kernel
theorem dX11_withStep_52 : decode cX11_withStep 52 = .ok (.ireturn, 1) := by decide +kernel
theorem dX11_leastStep_0 : decode cX11_leastStep 0 = .ok (.aload_n 0, 1) := by decide +kernel
theorem dX11_leastStep_1 : decode cX11_leastStep 1 = .ok (.getfield 66, 3) := by decide +kernel
theorem dX11_leastStep_4 : decode cX11_leastStep 4 = .ok (.iload_n 1, 1) := by decide +kernel
theorem dX11_leastStep_5 : decode cX11_leastStep 5 = .ok (.iaload, 1) := by decide +kernel
theorem dX11_leastStep_6 : decode cX11_leastStep 6 = .ok (.istore_n 2, 1) := by decide +kernel
theorem dX11_leastStep_7 : decode cX11_leastStep 7 = .ok (.iconst 0, 1) := by decide +kernel
theorem dX11_leastStep_8 : decode cX11_leastStep 8 = .ok (.istore_n 3, 1) := by decide +kernel
theorem dX11_leastStep_9 : decode cX11_leastStep 9 = .ok (.iload_n 3, 1) := by decide +kernel
theorem dX11_leastStep_10 : decode cX11_leastStep 10 = .ok (.aload_n 0, 1) := by decide +kernel
theorem dX11_leastStep_11 : decode cX11_leastStep 11 = .ok (.getfield 85, 3) := by decide +kernel
theorem dX11_leastStep_14 : decode cX11_leastStep 14 = .ok (.if_icmp .ge 50, 3) := by decide +kernel
theorem dX11_leastStep_17 : decode cX11_leastStep 17 = .ok (.iconst 0, 1) := by decide +kernel
theorem dX11_leastStep_18 : decode cX11_leastStep 18 = .ok (.istore 4, 2) := by decide +kernel
theorem dX11_leastStep_20 : decode cX11_leastStep 20 = .ok (.iload 4, 2) := by decide +kernel
theorem dX11_leastStep_22 : decode cX11_leastStep 22 = .ok (.aload_n 0, 1) := by decide +kernel
theorem dX11_leastStep_23 : decode cX11_leastStep 23 = .ok (.getfield 82, 3) := by decide +kernel
theorem dX11_leastStep_26 : decode cX11_leastStep 26 = .ok (.if_icmp .ge 32, 3) := by decide +kernel
theorem dX11_leastStep_29 : decode cX11_leastStep 29 = .ok (.aload_n 0, 1) := by decide +kernel
theorem dX11_leastStep_30 : decode cX11_leastStep 30 = .ok (.iload_n 1, 1) := by decide +kernel
theorem dX11_leastStep_31 : decode cX11_leastStep 31 = .ok (.iload_n 3, 1) := by decide +kernel
theorem dX11_leastStep_32 : decode cX11_leastStep 32 = .ok (.iload 4, 2) := by decide +kernel
theorem dX11_leastStep_34 : decode cX11_leastStep 34 = .ok (.invokevirtual 178, 3) := by decide +kernel
theorem dX11_leastStep_37 : decode cX11_leastStep 37 = .ok (.istore 5, 2) := by decide +kernel
theorem dX11_leastStep_39 : decode cX11_leastStep 39 = .ok (.iload 5, 2) := by decide +kernel
theorem dX11_leastStep_41 : decode cX11_leastStep 41 = .ok (.iload_n 2, 1) := by decide +kernel
theorem dX11_leastStep_42 : decode cX11_leastStep 42 = .ok (.if_icmp .ge 8, 3) := by decide +kernel
theorem dX11_leastStep_45 : decode cX11_leastStep 45 = .ok (.iload 5, 2) := by decide +kernel
theorem dX11_leastStep_47 : decode cX11_leastStep 47 = .ok (.goto 4, 3) := by decide +kernel
theorem dX11_leastStep_50 : decode cX11_leastStep 50 = .ok (.iload_n 2, 1) := by decide +kernel
theorem dX11_leastStep_51 : decode cX11_leastStep 51 = .ok (.istore_n 2, 1) := by decide +kernel
theorem dX11_leastStep_52 : decode cX11_leastStep 52 = .ok (.iinc 4 1, 3) := by decide +kernel
theorem dX11_leastStep_55 : decode cX11_leastStep 55 = .ok (.goto (-35), 3) := by decide +kernel
theorem dX11_leastStep_58 : decode cX11_leastStep 58 = .ok (.iinc 3 1, 3) := by decide +kernel
theorem dX11_leastStep_61 : decode cX11_leastStep 61 = .ok (.goto (-52), 3) := by decide +kernel
theorem dX11_leastStep_64 : decode cX11_leastStep 64 = .ok (.iload_n 2, 1) := by decide +kernel
theorem dX11_leastStep_65 : decode cX11_leastStep 65 = .ok (.ireturn, 1) := by decide +kernel
theorem dX11_layMoves_0 : decode cX11_layMoves 0 = .ok (.aload_n 0, 1) := by decide +kernel
theorem dX11_layMoves_1 : decode cX11_layMoves 1 = .ok (.invokevirtual 116, 3) := by decide +kernel
theorem dX11_layMoves_4 : decode cX11_layMoves 4 = .ok (.istore_n 1, 1) := by decide +kernel
theorem dX11_layMoves_5 : decode cX11_layMoves 5 = .ok (.aload_n 0, 1) := by decide +kernel
theorem dX11_layMoves_6 : decode cX11_layMoves 6 = .ok (.invokevirtual 159, 3) := by decide +kernel
theorem dX11_layMoves_9 : decode cX11_layMoves 9 = .ok (.istore_n 2, 1) := by decide +kernel
theorem dX11_layMoves_10 : decode cX11_layMoves 10 = .ok (.iconst 0, 1) := by decide +kernel
theorem dX11_layMoves_11 : decode cX11_layMoves 11 = .ok (.istore_n 3, 1) := by decide +kernel
theorem dX11_layMoves_12 : decode cX11_layMoves 12 = .ok (.iload_n 3, 1) := by decide +kernel
theorem dX11_layMoves_13 : decode cX11_layMoves 13 = .ok (.iload_n 1, 1) := by decide +kernel
theorem dX11_layMoves_14 : decode cX11_layMoves 14 = .ok (.if_icmp .ge 17, 3) := by decide +kernel
theorem dX11_layMoves_17 : decode cX11_layMoves 17 = .ok (.aload_n 0, 1) := by decide +kernel
theorem dX11_layMoves_18 : decode cX11_layMoves 18 = .ok (.getfield 66, 3) := by decide +kernel
theorem dX11_layMoves_21 : decode cX11_layMoves 21 = .ok (.iload_n 3, 1) := by decide +kernel
theorem dX11_layMoves_22 : decode cX11_layMoves 22 = .ok (.ldc 138, 2) := by decide +kernel
theorem dX11_layMoves_24 : decode cX11_layMoves 24 = .ok (.iastore, 1) := by decide +kernel
theorem dX11_layMoves_25 : decode cX11_layMoves 25 = .ok (.iinc 3 1, 3) := by decide +kernel
theorem dX11_layMoves_28 : decode cX11_layMoves 28 = .ok (.goto (-16), 3) := by decide +kernel
theorem dX11_layMoves_31 : decode cX11_layMoves 31 = .ok (.aload_n 0, 1) := by decide +kernel
theorem dX11_layMoves_32 : decode cX11_layMoves 32 = .ok (.getfield 66, 3) := by decide +kernel
theorem dX11_layMoves_35 : decode cX11_layMoves 35 = .ok (.iload_n 2, 1) := by decide +kernel
theorem dX11_layMoves_36 : decode cX11_layMoves 36 = .ok (.iconst 0, 1) := by decide +kernel
theorem dX11_layMoves_37 : decode cX11_layMoves 37 = .ok (.iastore, 1) := by decide +kernel
theorem dX11_layMoves_38 : decode cX11_layMoves 38 = .ok (.iconst 1, 1) := by decide +kernel
theorem dX11_layMoves_39 : decode cX11_layMoves 39 = .ok (.istore_n 3, 1) := by decide +kernel
theorem dX11_layMoves_40 : decode cX11_layMoves 40 = .ok (.iload_n 3, 1) := by decide +kernel
theorem dX11_layMoves_41 : decode cX11_layMoves 41 = .ok (.ifCond .eq 76, 3) := by decide +kernel
theorem dX11_layMoves_44 : decode cX11_layMoves 44 = .ok (.iconst 0, 1) := by decide +kernel
theorem dX11_layMoves_45 : decode cX11_layMoves 45 = .ok (.istore_n 3, 1) := by decide +kernel
theorem dX11_layMoves_46 : decode cX11_layMoves 46 = .ok (.iconst 0, 1) := by decide +kernel
theorem dX11_layMoves_47 : decode cX11_layMoves 47 = .ok (.istore 4, 2) := by decide +kernel
theorem dX11_layMoves_49 : decode cX11_layMoves 49 = .ok (.iload 4, 2) := by decide +kernel
theorem dX11_layMoves_51 : decode cX11_layMoves 51 = .ok (.iload_n 1, 1) := by decide +kernel
theorem dX11_layMoves_52 : decode cX11_layMoves 52 = .ok (.if_icmp .ge 62, 3) := by decide +kernel
theorem dX11_layMoves_55 : decode cX11_layMoves 55 = .ok (.aload_n 0, 1) := by decide +kernel
theorem dX11_layMoves_56 : decode cX11_layMoves 56 = .ok (.iload 4, 2) := by decide +kernel
theorem dX11_layMoves_58 : decode cX11_layMoves 58 = .ok (.invokevirtual 149, 3) := by decide +kernel
theorem dX11_layMoves_61 : decode cX11_layMoves 61 = .ok (.ifCond .eq 12, 3) := by decide +kernel
theorem dX11_layMoves_64 : decode cX11_layMoves 64 = .ok (.aload_n 0, 1) := by decide +kernel
theorem dX11_layMoves_65 : decode cX11_layMoves 65 = .ok (.iload 4, 2) := by decide +kernel
theorem dX11_layMoves_67 : decode cX11_layMoves 67 = .ok (.invokevirtual 181, 3) := by decide +kernel
theorem dX11_layMoves_70 : decode cX11_layMoves 70 = .ok (.goto 5, 3) := by decide +kernel
theorem dX11_layMoves_73 : decode cX11_layMoves 73 = .ok (.ldc 138, 2) := by decide +kernel
theorem dX11_layMoves_75 : decode cX11_layMoves 75 = .ok (.istore 5, 2) := by decide +kernel
theorem dX11_layMoves_77 : decode cX11_layMoves 77 = .ok (.iload_n 3, 1) := by decide +kernel
theorem dX11_layMoves_78 : decode cX11_layMoves 78 = .ok (.ifCond .ne 15, 3) := by decide +kernel
theorem dX11_layMoves_81 : decode cX11_layMoves 81 = .ok (.iload 5, 2) := by decide +kernel
theorem dX11_layMoves_83 : decode cX11_layMoves 83 = .ok (.aload_n 0, 1) := by decide +kernel
theorem dX11_layMoves_84 : decode cX11_layMoves 84 = .ok (.getfield 66, 3) := by decide +kernel
theorem dX11_layMoves_87 : decode cX11_layMoves 87 = .ok (.iload 4, 2) := by decide +kernel
theorem dX11_layMoves_89 : decode cX11_layMoves 89 = .ok (.iaload, 1) := by decide +kernel
theorem dX11_layMoves_90 : decode cX11_layMoves 90 = .ok (.if_icmp .ge 7, 3) := by decide +kernel
theorem dX11_layMoves_93 : decode cX11_layMoves 93 = .ok (.iconst 1, 1) := by decide +kernel
theorem dX11_layMoves_94 : decode cX11_layMoves 94 = .ok (.goto 4, 3) := by decide +kernel
theorem dX11_layMoves_97 : decode cX11_layMoves 97 = .ok (.iconst 0, 1) := by decide +kernel
theorem dX11_layMoves_98 : decode cX11_layMoves 98 = .ok (.istore_n 3, 1) := by decide +kernel
theorem dX11_layMoves_99 : decode cX11_layMoves 99 = .ok (.aload_n 0, 1) := by decide +kernel
theorem dX11_layMoves_100 : decode cX11_layMoves 100 = .ok (.getfield 66, 3) := by decide +kernel
theorem dX11_layMoves_103 : decode cX11_layMoves 103 = .ok (.iload 4, 2) := by decide +kernel
theorem dX11_layMoves_105 : decode cX11_layMoves 105 = .ok (.iload 5, 2) := by decide +kernel
theorem dX11_layMoves_107 : decode cX11_layMoves 107 = .ok (.iastore, 1) := by decide +kernel
theorem dX11_layMoves_108 : decode cX11_layMoves 108 = .ok (.iinc 4 1, 3) := by decide +kernel
theorem dX11_layMoves_111 : decode cX11_layMoves 111 = .ok (.goto (-62), 3) := by decide +kernel
theorem dX11_layMoves_114 : decode cX11_layMoves 114 = .ok (.goto (-74), 3) := by decide +kernel
theorem dX11_layMoves_117 : decode cX11_layMoves 117 = .ok (.return_, 1) := by decide +kernel
theorem dX11_move_0 : decode cX11_move 0 = .ok (.aload_n 0, 1) := by decide +kernel
theorem dX11_move_1 : decode cX11_move 1 = .ok (.iload_n 1, 1) := by decide +kernel
theorem dX11_move_2 : decode cX11_move 2 = .ok (.invokevirtual 120, 3) := by decide +kernel
theorem dX11_move_5 : decode cX11_move 5 = .ok (.ifCond .ne 6, 3) := by decide +kernel
theorem dX11_move_8 : decode cX11_move 8 = .ok (.bipush (-2), 2) := by decide +kernel
theorem dX11_move_10 : decode cX11_move 10 = .ok (.ireturn, 1) := by decide +kernel
theorem dX11_move_11 : decode cX11_move 11 = .ok (.aload_n 0, 1) := by decide +kernel
theorem dX11_move_12 : decode cX11_move 12 = .ok (.invokevirtual 184, 3) := by decide +kernel
theorem dX11_move_15 : decode cX11_move 15 = .ok (.aload_n 0, 1) := by decide +kernel
theorem dX11_move_16 : decode cX11_move 16 = .ok (.invokevirtual 126, 3) := by decide +kernel
theorem dX11_move_19 : decode cX11_move 19 = .ok (.aload_n 0, 1) := by decide +kernel
theorem dX11_move_20 : decode cX11_move 20 = .ok (.getfield 66, 3) := by decide +kernel
theorem dX11_move_23 : decode cX11_move 23 = .ok (.aload_n 0, 1) := by decide +kernel
theorem dX11_move_24 : decode cX11_move 24 = .ok (.invokevirtual 159, 3) := by decide +kernel
theorem dX11_move_27 : decode cX11_move 27 = .ok (.iaload, 1) := by decide +kernel
theorem dX11_move_28 : decode cX11_move 28 = .ok (.istore_n 2, 1) := by decide +kernel
theorem dX11_move_29 : decode cX11_move 29 = .ok (.iload_n 2, 1) := by decide +kernel
theorem dX11_move_30 : decode cX11_move 30 = .ok (.ldc 138, 2) := by decide +kernel
theorem dX11_move_32 : decode cX11_move 32 = .ok (.if_icmp .ne 7, 3) := by decide +kernel
theorem dX11_move_35 : decode cX11_move 35 = .ok (.iconst (-1), 1) := by decide +kernel
theorem dX11_move_36 : decode cX11_move 36 = .ok (.goto 8, 3) := by decide +kernel
theorem dX11_move_39 : decode cX11_move 39 = .ok (.iload_n 2, 1) := by decide +kernel
theorem dX11_move_40 : decode cX11_move 40 = .ok (.sipush 1000, 3) := by decide +kernel
theorem dX11_move_43 : decode cX11_move 43 = .ok (.idiv, 1) := by decide +kernel
theorem dX11_move_44 : decode cX11_move 44 = .ok (.ireturn, 1) := by decide +kernel
theorem dX11_step_0 : decode cX11_step 0 = .ok (.iload_n 2, 1) := by decide +kernel
theorem dX11_step_1 : decode cX11_step 1 = .ok (.ifCond .lt 11, 3) := by decide +kernel
theorem dX11_step_4 : decode cX11_step 4 = .ok (.aload_n 0, 1) := by decide +kernel
theorem dX11_step_5 : decode cX11_step 5 = .ok (.iload_n 1, 1) := by decide +kernel
theorem dX11_step_6 : decode cX11_step 6 = .ok (.invokevirtual 120, 3) := by decide +kernel
theorem dX11_step_9 : decode cX11_step 9 = .ok (.ifCond .ne 6, 3) := by decide +kernel
theorem dX11_step_12 : decode cX11_step 12 = .ok (.bipush (-2), 2) := by decide +kernel
theorem dX11_step_14 : decode cX11_step 14 = .ok (.ireturn, 1) := by decide +kernel
theorem dX11_step_15 : decode cX11_step 15 = .ok (.aload_n 0, 1) := by decide +kernel
theorem dX11_step_16 : decode cX11_step 16 = .ok (.invokevirtual 184, 3) := by decide +kernel
theorem dX11_step_19 : decode cX11_step 19 = .ok (.aload_n 0, 1) := by decide +kernel
theorem dX11_step_20 : decode cX11_step 20 = .ok (.invokevirtual 126, 3) := by decide +kernel
theorem dX11_step_23 : decode cX11_step 23 = .ok (.aload_n 0, 1) := by decide +kernel
theorem dX11_step_24 : decode cX11_step 24 = .ok (.invokevirtual 159, 3) := by decide +kernel
theorem dX11_step_27 : decode cX11_step 27 = .ok (.istore_n 3, 1) := by decide +kernel
theorem dX11_step_28 : decode cX11_step 28 = .ok (.iconst (-1), 1) := by decide +kernel
theorem dX11_step_29 : decode cX11_step 29 = .ok (.istore 4, 2) := by decide +kernel
theorem dX11_step_31 : decode cX11_step 31 = .ok (.iconst 0, 1) := by decide +kernel
theorem dX11_step_32 : decode cX11_step 32 = .ok (.istore 5, 2) := by decide +kernel
theorem dX11_step_34 : decode cX11_step 34 = .ok (.iload 5, 2) := by decide +kernel
theorem dX11_step_36 : decode cX11_step 36 = .ok (.iload_n 2, 1) := by decide +kernel
theorem dX11_step_37 : decode cX11_step 37 = .ok (.if_icmp .gt 96, 3) := by decide +kernel
theorem dX11_step_40 : decode cX11_step 40 = .ok (.aload_n 0, 1) := by decide +kernel
theorem dX11_step_41 : decode cX11_step 41 = .ok (.getfield 66, 3) := by decide +kernel
theorem dX11_step_44 : decode cX11_step 44 = .ok (.iload_n 3, 1) := by decide +kernel
theorem dX11_step_45 : decode cX11_step 45 = .ok (.iaload, 1) := by decide +kernel
theorem dX11_step_46 : decode cX11_step 46 = .ok (.ifCond .eq 14, 3) := by decide +kernel
theorem dX11_step_49 : decode cX11_step 49 = .ok (.aload_n 0, 1) := by decide +kernel
theorem dX11_step_50 : decode cX11_step 50 = .ok (.getfield 66, 3) := by decide +kernel
theorem dX11_step_53 : decode cX11_step 53 = .ok (.iload_n 3, 1) := by decide +kernel
theorem dX11_step_54 : decode cX11_step 54 = .ok (.iaload, 1) := by decide +kernel
theorem dX11_step_55 : decode cX11_step 55 = .ok (.ldc 138, 2) := by decide +kernel
theorem dX11_step_57 : decode cX11_step 57 = .ok (.if_icmp .ne 5, 3) := by decide +kernel
theorem dX11_step_60 : decode cX11_step 60 = .ok (.iconst (-1), 1) := by decide +kernel
theorem dX11_step_61 : decode cX11_step 61 = .ok (.ireturn, 1) := by decide +kernel
theorem dX11_step_62 : decode cX11_step 62 = .ok (.iconst 0, 1) := by decide +kernel
theorem dX11_step_63 : decode cX11_step 63 = .ok (.istore 6, 2) := by decide +kernel
theorem dX11_step_65 : decode cX11_step 65 = .ok (.aload_n 0, 1) := by decide +kernel
theorem dX11_step_66 : decode cX11_step 66 = .ok (.iload_n 3, 1) := by decide +kernel
theorem dX11_step_67 : decode cX11_step 67 = .ok (.iload 6, 2) := by decide +kernel
theorem dX11_step_69 : decode cX11_step 69 = .ok (.bipush 6, 2) := by decide +kernel
theorem dX11_step_71 : decode cX11_step 71 = .ok (.idiv, 1) := by decide +kernel
theorem dX11_step_72 : decode cX11_step 72 = .ok (.iload 6, 2) := by decide +kernel
theorem dX11_step_74 : decode cX11_step 74 = .ok (.bipush 6, 2) := by decide +kernel
theorem dX11_step_76 : decode cX11_step 76 = .ok (.irem, 1) := by decide +kernel
theorem dX11_step_77 : decode cX11_step 77 = .ok (.invokevirtual 178, 3) := by decide +kernel
theorem dX11_step_80 : decode cX11_step 80 = .ok (.aload_n 0, 1) := by decide +kernel
theorem dX11_step_81 : decode cX11_step 81 = .ok (.getfield 66, 3) := by decide +kernel
theorem dX11_step_84 : decode cX11_step 84 = .ok (.iload_n 3, 1) := by decide +kernel
theorem dX11_step_85 : decode cX11_step 85 = .ok (.iaload, 1) := by decide +kernel
theorem dX11_step_86 : decode cX11_step 86 = .ok (.if_icmp .eq 9, 3) := by decide +kernel
theorem dX11_step_89 : decode cX11_step 89 = .ok (.iinc 6 1, 3) := by decide +kernel
theorem dX11_step_92 : decode cX11_step 92 = .ok (.goto (-27), 3) := by decide +kernel
theorem dX11_step_95 : decode cX11_step 95 = .ok (.bipush 10, 2) := by decide +kernel
theorem dX11_step_97 : decode cX11_step 97 = .ok (.iload 6, 2) := by decide +kernel
theorem dX11_step_99 : decode cX11_step 99 = .ok (.bipush 6, 2) := by decide +kernel
theorem dX11_step_101 : decode cX11_step 101 = .ok (.idiv, 1) := by decide +kernel
theorem dX11_step_102 : decode cX11_step 102 = .ok (.imul, 1) := by decide +kernel
theorem dX11_step_103 : decode cX11_step 103 = .ok (.iload 6, 2) := by decide +kernel
theorem dX11_step_105 : decode cX11_step 105 = .ok (.bipush 6, 2) := by decide +kernel
theorem dX11_step_107 : decode cX11_step 107 = .ok (.irem, 1) := by decide +kernel
theorem dX11_step_108 : decode cX11_step 108 = .ok (.iadd, 1) := by decide +kernel
theorem dX11_step_109 : decode cX11_step 109 = .ok (.istore 4, 2) := by decide +kernel
theorem dX11_step_111 : decode cX11_step 111 = .ok (.aload_n 0, 1) := by decide +kernel
theorem dX11_step_112 : decode cX11_step 112 = .ok (.iload_n 3, 1) := by decide +kernel
theorem dX11_step_113 : decode cX11_step 113 = .ok (.iload 6, 2) := by decide +kernel
theorem dX11_step_115 : decode cX11_step 115 = .ok (.bipush 6, 2) := by decide +kernel
theorem dX11_step_117 : decode cX11_step 117 = .ok (.idiv, 1) := by decide +kernel
theorem dX11_step_118 : decode cX11_step 118 = .ok (.iload 6, 2) := by decide +kernel
theorem dX11_step_120 : decode cX11_step 120 = .ok (.bipush 6, 2) := by decide +kernel
theorem dX11_step_122 : decode cX11_step 122 = .ok (.irem, 1) := by decide +kernel
theorem dX11_step_123 : decode cX11_step 123 = .ok (.invokevirtual 174, 3) := by decide +kernel
theorem dX11_step_126 : decode cX11_step 126 = .ok (.istore_n 3, 1) := by decide +kernel
theorem dX11_step_127 : decode cX11_step 127 = .ok (.iinc 5 1, 3) := by decide +kernel
theorem dX11_step_130 : decode cX11_step 130 = .ok (.goto (-96), 3) := by decide +kernel
theorem dX11_step_133 : decode cX11_step 133 = .ok (.iload 4, 2) := by decide +kernel
theorem dX11_step_135 : decode cX11_step 135 = .ok (.ireturn, 1) := by decide +kernel
theorem dX11_changed_0 : decode cX11_changed 0 = .ok (.aload_n 0, 1) := by decide +kernel
theorem dX11_changed_1 : decode cX11_changed 1 = .ok (.aload_n 0, 1) := by decide +kernel
theorem dX11_changed_2 : decode cX11_changed 2 = .ok (.getfield 69, 3) := by decide +kernel
theorem dX11_changed_5 : decode cX11_changed 5 = .ok (.iload_n 1, 1) := by decide +kernel
theorem dX11_changed_6 : decode cX11_changed 6 = .ok (.iaload, 1) := by decide +kernel
theorem dX11_changed_7 : decode cX11_changed 7 = .ok (.invokevirtual 149, 3) := by decide +kernel
theorem dX11_changed_10 : decode cX11_changed 10 = .ok (.pop, 1) := by decide +kernel
theorem dX11_changed_11 : decode cX11_changed 11 = .ok (.iconst 0, 1) := by decide +kernel
theorem dX11_changed_12 : decode cX11_changed 12 = .ok (.istore_n 3, 1) := by decide +kernel
theorem dX11_changed_13 : decode cX11_changed 13 = .ok (.iload_n 3, 1) := by decide +kernel
theorem dX11_changed_14 : decode cX11_changed 14 = .ok (.aload_n 0, 1) := by decide +kernel
theorem dX11_changed_15 : decode cX11_changed 15 = .ok (.getfield 85, 3) := by decide +kernel
theorem dX11_changed_18 : decode cX11_changed 18 = .ok (.if_icmp .ge 21, 3) := by decide +kernel
theorem dX11_changed_21 : decode cX11_changed 21 = .ok (.aload_n 0, 1) := by decide +kernel
theorem dX11_changed_22 : decode cX11_changed 22 = .ok (.getfield 75, 3) := by decide +kernel
theorem dX11_changed_25 : decode cX11_changed 25 = .ok (.iload_n 3, 1) := by decide +kernel
theorem dX11_changed_26 : decode cX11_changed 26 = .ok (.aload_n 0, 1) := by decide +kernel
theorem dX11_changed_27 : decode cX11_changed 27 = .ok (.getfield 57, 3) := by decide +kernel
theorem dX11_changed_30 : decode cX11_changed 30 = .ok (.iload_n 3, 1) := by decide +kernel
theorem dX11_changed_31 : decode cX11_changed 31 = .ok (.iaload, 1) := by decide +kernel
theorem dX11_changed_32 : decode cX11_changed 32 = .ok (.iastore, 1) := by decide +kernel
theorem dX11_changed_33 : decode cX11_changed 33 = .ok (.iinc 3 1, 3) := by decide +kernel
theorem dX11_changed_36 : decode cX11_changed 36 = .ok (.goto (-23), 3) := by decide +kernel
theorem dX11_changed_39 : decode cX11_changed 39 = .ok (.aload_n 0, 1) := by decide +kernel
theorem dX11_changed_40 : decode cX11_changed 40 = .ok (.aload_n 0, 1) := by decide +kernel
theorem dX11_changed_41 : decode cX11_changed 41 = .ok (.getfield 69, 3) := by decide +kernel
theorem dX11_changed_44 : decode cX11_changed 44 = .ok (.iload_n 2, 1) := by decide +kernel
theorem dX11_changed_45 : decode cX11_changed 45 = .ok (.iaload, 1) := by decide +kernel
theorem dX11_changed_46 : decode cX11_changed 46 = .ok (.invokevirtual 149, 3) := by decide +kernel
theorem dX11_changed_49 : decode cX11_changed 49 = .ok (.pop, 1) := by decide +kernel
theorem dX11_changed_50 : decode cX11_changed 50 = .ok (.iconst 0, 1) := by decide +kernel
theorem dX11_changed_51 : decode cX11_changed 51 = .ok (.istore_n 3, 1) := by decide +kernel
theorem dX11_changed_52 : decode cX11_changed 52 = .ok (.iconst 0, 1) := by decide +kernel
theorem dX11_changed_53 : decode cX11_changed 53 = .ok (.istore 4, 2) := by decide +kernel
theorem dX11_changed_55 : decode cX11_changed 55 = .ok (.iload 4, 2) := by decide +kernel
theorem dX11_changed_57 : decode cX11_changed 57 = .ok (.aload_n 0, 1) := by decide +kernel
theorem dX11_changed_58 : decode cX11_changed 58 = .ok (.getfield 85, 3) := by decide +kernel
theorem dX11_changed_61 : decode cX11_changed 61 = .ok (.if_icmp .ge 40, 3) := by decide +kernel
theorem dX11_changed_64 : decode cX11_changed 64 = .ok (.iload_n 3, 1) := by decide +kernel
theorem dX11_changed_65 : decode cX11_changed 65 = .ok (.aload_n 0, 1) := by decide +kernel
theorem dX11_changed_66 : decode cX11_changed 66 = .ok (.getfield 57, 3) := by decide +kernel
theorem dX11_changed_69 : decode cX11_changed 69 = .ok (.iload 4, 2) := by decide +kernel
theorem dX11_changed_71 : decode cX11_changed 71 = .ok (.iaload, 1) := by decide +kernel
theorem dX11_changed_72 : decode cX11_changed 72 = .ok (.aload_n 0, 1) := by decide +kernel
theorem dX11_changed_73 : decode cX11_changed 73 = .ok (.getfield 75, 3) := by decide +kernel
theorem dX11_changed_76 : decode cX11_changed 76 = .ok (.iload 4, 2) := by decide +kernel
theorem dX11_changed_78 : decode cX11_changed 78 = .ok (.iaload, 1) := by decide +kernel
theorem dX11_changed_79 : decode cX11_changed 79 = .ok (.if_icmp .ne 7, 3) := by decide +kernel
theorem dX11_changed_82 : decode cX11_changed 82 = .ok (.iconst 0, 1) := by decide +kernel
theorem dX11_changed_83 : decode cX11_changed 83 = .ok (.goto 10, 3) := by decide +kernel
theorem dX11_changed_86 : decode cX11_changed 86 = .ok (.aload_n 0, 1) := by decide +kernel
theorem dX11_changed_87 : decode cX11_changed 87 = .ok (.getfield 30, 3) := by decide +kernel
theorem dX11_changed_90 : decode cX11_changed 90 = .ok (.iload 4, 2) := by decide +kernel
theorem dX11_changed_92 : decode cX11_changed 92 = .ok (.iaload, 1) := by decide +kernel
theorem dX11_changed_93 : decode cX11_changed 93 = .ok (.iadd, 1) := by decide +kernel
theorem dX11_changed_94 : decode cX11_changed 94 = .ok (.istore_n 3, 1) := by decide +kernel
theorem dX11_changed_95 : decode cX11_changed 95 = .ok (.iinc 4 1, 3) := by decide +kernel
theorem dX11_changed_98 : decode cX11_changed 98 = .ok (.goto (-43), 3) := by decide +kernel
theorem dX11_changed_101 : decode cX11_changed 101 = .ok (.iload_n 3, 1) := by decide +kernel
theorem dX11_changed_102 : decode cX11_changed 102 = .ok (.ireturn, 1) := by decide +kernel
theorem dX11_layPlans_0 : decode cX11_layPlans 0 = .ok (.aload_n 0, 1) := by decide +kernel
theorem dX11_layPlans_1 : decode cX11_layPlans 1 = .ok (.invokevirtual 104, 3) := by decide +kernel
theorem dX11_layPlans_4 : decode cX11_layPlans 4 = .ok (.aload_n 0, 1) := by decide +kernel
theorem dX11_layPlans_5 : decode cX11_layPlans 5 = .ok (.iconst 0, 1) := by decide +kernel
theorem dX11_layPlans_6 : decode cX11_layPlans 6 = .ok (.putfield 187, 3) := by decide +kernel
theorem dX11_layPlans_9 : decode cX11_layPlans 9 = .ok (.aload_n 0, 1) := by decide +kernel
theorem dX11_layPlans_10 : decode cX11_layPlans 10 = .ok (.invokevirtual 116, 3) := by decide +kernel
theorem dX11_layPlans_13 : decode cX11_layPlans 13 = .ok (.istore_n 2, 1) := by decide +kernel
theorem dX11_layPlans_14 : decode cX11_layPlans 14 = .ok (.iconst 0, 1) := by decide +kernel
theorem dX11_layPlans_15 : decode cX11_layPlans 15 = .ok (.istore_n 3, 1) := by decide +kernel
theorem dX11_layPlans_16 : decode cX11_layPlans 16 = .ok (.iload_n 3, 1) := by decide +kernel
theorem dX11_layPlans_17 : decode cX11_layPlans 17 = .ok (.iload_n 2, 1) := by decide +kernel
theorem dX11_layPlans_18 : decode cX11_layPlans 18 = .ok (.if_icmp .ge 37, 3) := by decide +kernel
theorem dX11_layPlans_21 : decode cX11_layPlans 21 = .ok (.aload_n 0, 1) := by decide +kernel
theorem dX11_layPlans_22 : decode cX11_layPlans 22 = .ok (.iload_n 3, 1) := by decide +kernel
theorem dX11_layPlans_23 : decode cX11_layPlans 23 = .ok (.invokevirtual 149, 3) := by decide +kernel
theorem dX11_layPlans_26 : decode cX11_layPlans 26 = .ok (.ifCond .eq 23, 3) := by decide +kernel
theorem dX11_layPlans_29 : decode cX11_layPlans 29 = .ok (.aload_n 0, 1) := by decide +kernel
theorem dX11_layPlans_30 : decode cX11_layPlans 30 = .ok (.getfield 69, 3) := by decide +kernel
theorem dX11_layPlans_33 : decode cX11_layPlans 33 = .ok (.aload_n 0, 1) := by decide +kernel
theorem dX11_layPlans_34 : decode cX11_layPlans 34 = .ok (.getfield 187, 3) := by decide +kernel
theorem dX11_layPlans_37 : decode cX11_layPlans 37 = .ok (.iload_n 3, 1) := by decide +kernel
theorem dX11_layPlans_38 : decode cX11_layPlans 38 = .ok (.iastore, 1) := by decide +kernel
theorem dX11_layPlans_39 : decode cX11_layPlans 39 = .ok (.aload_n 0, 1) := by decide +kernel
theorem dX11_layPlans_40 : decode cX11_layPlans 40 = .ok (.dup, 1) := by decide +kernel
theorem dX11_layPlans_41 : decode cX11_layPlans 41 = .ok (.getfield 187, 3) := by decide +kernel
theorem dX11_layPlans_44 : decode cX11_layPlans 44 = .ok (.iconst 1, 1) := by decide +kernel
theorem dX11_layPlans_45 : decode cX11_layPlans 45 = .ok (.iadd, 1) := by decide +kernel
theorem dX11_layPlans_46 : decode cX11_layPlans 46 = .ok (.putfield 187, 3) := by decide +kernel
theorem dX11_layPlans_49 : decode cX11_layPlans 49 = .ok (.iinc 3 1, 3) := by decide +kernel
theorem dX11_layPlans_52 : decode cX11_layPlans 52 = .ok (.goto (-36), 3) := by decide +kernel
theorem dX11_layPlans_55 : decode cX11_layPlans 55 = .ok (.iload_n 1, 1) := by decide +kernel
theorem dX11_layPlans_56 : decode cX11_layPlans 56 = .ok (.iconst 1, 1) := by decide +kernel
theorem dX11_layPlans_57 : decode cX11_layPlans 57 = .ok (.isub, 1) := by decide +kernel
theorem dX11_layPlans_58 : decode cX11_layPlans 58 = .ok (.istore_n 3, 1) := by decide +kernel
theorem dX11_layPlans_59 : decode cX11_layPlans 59 = .ok (.iload_n 3, 1) := by decide +kernel
theorem dX11_layPlans_60 : decode cX11_layPlans 60 = .ok (.ifCond .lt 197, 3) := by decide +kernel
theorem dX11_layPlans_63 : decode cX11_layPlans 63 = .ok (.iconst 0, 1) := by decide +kernel
theorem dX11_layPlans_64 : decode cX11_layPlans 64 = .ok (.istore 4, 2) := by decide +kernel
theorem dX11_layPlans_66 : decode cX11_layPlans 66 = .ok (.iload 4, 2) := by decide +kernel
theorem dX11_layPlans_68 : decode cX11_layPlans 68 = .ok (.aload_n 0, 1) := by decide +kernel
theorem dX11_layPlans_69 : decode cX11_layPlans 69 = .ok (.getfield 187, 3) := by decide +kernel
theorem dX11_layPlans_72 : decode cX11_layPlans 72 = .ok (.if_icmp .ge 179, 3) := by decide +kernel
theorem dX11_layPlans_75 : decode cX11_layPlans 75 = .ok (.aload_n 0, 1) := by decide +kernel
theorem dX11_layPlans_76 : decode cX11_layPlans 76 = .ok (.aload_n 0, 1) := by decide +kernel
theorem dX11_layPlans_77 : decode cX11_layPlans 77 = .ok (.getfield 69, 3) := by decide +kernel
theorem dX11_layPlans_80 : decode cX11_layPlans 80 = .ok (.iload 4, 2) := by decide +kernel
theorem dX11_layPlans_82 : decode cX11_layPlans 82 = .ok (.iaload, 1) := by decide +kernel
theorem dX11_layPlans_83 : decode cX11_layPlans 83 = .ok (.invokevirtual 149, 3) := by decide +kernel
theorem dX11_layPlans_86 : decode cX11_layPlans 86 = .ok (.pop, 1) := by decide +kernel
theorem dX11_layPlans_87 : decode cX11_layPlans 87 = .ok (.aload_n 0, 1) := by decide +kernel
theorem dX11_layPlans_88 : decode cX11_layPlans 88 = .ok (.iload_n 3, 1) := by decide +kernel
theorem dX11_layPlans_89 : decode cX11_layPlans 89 = .ok (.invokevirtual 139, 3) := by decide +kernel
theorem dX11_layPlans_92 : decode cX11_layPlans 92 = .ok (.istore 5, 2) := by decide +kernel
theorem dX11_layPlans_94 : decode cX11_layPlans 94 = .ok (.iload_n 3, 1) := by decide +kernel
theorem dX11_layPlans_95 : decode cX11_layPlans 95 = .ok (.iload_n 1, 1) := by decide +kernel
theorem dX11_layPlans_96 : decode cX11_layPlans 96 = .ok (.iconst 1, 1) := by decide +kernel
theorem dX11_layPlans_97 : decode cX11_layPlans 97 = .ok (.isub, 1) := by decide +kernel
theorem dX11_layPlans_98 : decode cX11_layPlans 98 = .ok (.if_icmp .ne 7, 3) := by decide +kernel
theorem dX11_layPlans_101 : decode cX11_layPlans 101 = .ok (.iconst 0, 1) := by decide +kernel
theorem dX11_layPlans_102 : decode cX11_layPlans 102 = .ok (.goto 5, 3) := by decide +kernel
theorem dX11_layPlans_105 : decode cX11_layPlans 105 = .ok (.ldc 138, 2) := by decide +kernel
theorem dX11_layPlans_107 : decode cX11_layPlans 107 = .ok (.istore 6, 2) := by decide +kernel
theorem dX11_layPlans_109 : decode cX11_layPlans 109 = .ok (.iconst 0, 1) := by decide +kernel
theorem dX11_layPlans_110 : decode cX11_layPlans 110 = .ok (.istore 7, 2) := by decide +kernel
theorem dX11_layPlans_112 : decode cX11_layPlans 112 = .ok (.iload 7, 2) := by decide +kernel
theorem dX11_layPlans_114 : decode cX11_layPlans 114 = .ok (.aload_n 0, 1) := by decide +kernel
theorem dX11_layPlans_115 : decode cX11_layPlans 115 = .ok (.getfield 187, 3) := by decide +kernel
theorem dX11_layPlans_118 : decode cX11_layPlans 118 = .ok (.if_icmp .ge 90, 3) := by decide +kernel
theorem dX11_layPlans_121 : decode cX11_layPlans 121 = .ok (.iload_n 3, 1) := by decide +kernel
theorem dX11_layPlans_122 : decode cX11_layPlans 122 = .ok (.iload_n 1, 1) := by decide +kernel
theorem dX11_layPlans_123 : decode cX11_layPlans 123 = .ok (.iconst 1, 1) := by decide +kernel
theorem dX11_layPlans_124 : decode cX11_layPlans 124 = .ok (.isub, 1) := by decide +kernel
theorem dX11_layPlans_125 : decode cX11_layPlans 125 = .ok (.if_icmp .ge 83, 3) := by decide +kernel
theorem dX11_layPlans_128 : decode cX11_layPlans 128 = .ok (.iload 5, 2) := by decide +kernel
theorem dX11_layPlans_130 : decode cX11_layPlans 130 = .ok (.ldc 138, 2) := by decide +kernel
theorem dX11_layPlans_132 : decode cX11_layPlans 132 = .ok (.if_icmp .ge 76, 3) := by decide +kernel
theorem dX11_layPlans_135 : decode cX11_layPlans 135 = .ok (.aload_n 0, 1) := by decide +kernel
theorem dX11_layPlans_136 : decode cX11_layPlans 136 = .ok (.getfield 72, 3) := by decide +kernel
theorem dX11_layPlans_139 : decode cX11_layPlans 139 = .ok (.sipush 720, 3) := by decide +kernel
theorem dX11_layPlans_142 : decode cX11_layPlans 142 = .ok (.iload_n 3, 1) := by decide +kernel
theorem dX11_layPlans_143 : decode cX11_layPlans 143 = .ok (.iconst 1, 1) := by decide +kernel
theorem dX11_layPlans_144 : decode cX11_layPlans 144 = .ok (.iadd, 1) := by decide +kernel
theorem dX11_layPlans_145 : decode cX11_layPlans 145 = .ok (.imul, 1) := by decide +kernel
theorem dX11_layPlans_146 : decode cX11_layPlans 146 = .ok (.iload 7, 2) := by decide +kernel
theorem dX11_layPlans_148 : decode cX11_layPlans 148 = .ok (.iadd, 1) := by decide +kernel
theorem dX11_layPlans_149 : decode cX11_layPlans 149 = .ok (.iaload, 1) := by decide +kernel
theorem dX11_layPlans_150 : decode cX11_layPlans 150 = .ok (.ldc 138, 2) := by decide +kernel
theorem dX11_layPlans_152 : decode cX11_layPlans 152 = .ok (.if_icmp .ne 8, 3) := by decide +kernel
theorem dX11_layPlans_155 : decode cX11_layPlans 155 = .ok (.ldc 138, 2) := by decide +kernel
theorem dX11_layPlans_157 : decode cX11_layPlans 157 = .ok (.goto 27, 3) := by decide +kernel
theorem dX11_layPlans_160 : decode cX11_layPlans 160 = .ok (.aload_n 0, 1) := by decide +kernel
theorem dX11_layPlans_161 : decode cX11_layPlans 161 = .ok (.getfield 72, 3) := by decide +kernel
theorem dX11_layPlans_164 : decode cX11_layPlans 164 = .ok (.sipush 720, 3) := by decide +kernel
theorem dX11_layPlans_167 : decode cX11_layPlans 167 = .ok (.iload_n 3, 1) := by decide +kernel
theorem dX11_layPlans_168 : decode cX11_layPlans 168 = .ok (.iconst 1, 1) := by decide +kernel
theorem dX11_layPlans_169 : decode cX11_layPlans 169 = .ok (.iadd, 1) := by decide +kernel
theorem dX11_layPlans_170 : decode cX11_layPlans 170 = .ok (.imul, 1) := by decide +kernel
theorem dX11_layPlans_171 : decode cX11_layPlans 171 = .ok (.iload 7, 2) := by decide +kernel
theorem dX11_layPlans_173 : decode cX11_layPlans 173 = .ok (.iadd, 1) := by decide +kernel
theorem dX11_layPlans_174 : decode cX11_layPlans 174 = .ok (.iaload, 1) := by decide +kernel
theorem dX11_layPlans_175 : decode cX11_layPlans 175 = .ok (.aload_n 0, 1) := by decide +kernel
theorem dX11_layPlans_176 : decode cX11_layPlans 176 = .ok (.iload 4, 2) := by decide +kernel
theorem dX11_layPlans_178 : decode cX11_layPlans 178 = .ok (.iload 7, 2) := by decide +kernel
theorem dX11_layPlans_180 : decode cX11_layPlans 180 = .ok (.invokevirtual 190, 3) := by decide +kernel
theorem dX11_layPlans_183 : decode cX11_layPlans 183 = .ok (.iadd, 1) := by decide +kernel
theorem dX11_layPlans_184 : decode cX11_layPlans 184 = .ok (.istore 8, 2) := by decide +kernel
theorem dX11_layPlans_186 : decode cX11_layPlans 186 = .ok (.iload 8, 2) := by decide +kernel
theorem dX11_layPlans_188 : decode cX11_layPlans 188 = .ok (.iload 6, 2) := by decide +kernel
theorem dX11_layPlans_190 : decode cX11_layPlans 190 = .ok (.if_icmp .ge 8, 3) := by decide +kernel
theorem dX11_layPlans_193 : decode cX11_layPlans 193 = .ok (.iload 8, 2) := by decide +kernel
theorem dX11_layPlans_195 : decode cX11_layPlans 195 = .ok (.goto 5, 3) := by decide +kernel
theorem dX11_layPlans_198 : decode cX11_layPlans 198 = .ok (.iload 6, 2) := by decide +kernel
theorem dX11_layPlans_200 : decode cX11_layPlans 200 = .ok (.istore 6, 2) := by decide +kernel
theorem dX11_layPlans_202 : decode cX11_layPlans 202 = .ok (.iinc 7 1, 3) := by decide +kernel
theorem dX11_layPlans_205 : decode cX11_layPlans 205 = .ok (.goto (-93), 3) := by decide +kernel
theorem dX11_layPlans_208 : decode cX11_layPlans 208 = .ok (.aload_n 0, 1) := by decide +kernel
theorem dX11_layPlans_209 : decode cX11_layPlans 209 = .ok (.getfield 72, 3) := by decide +kernel
theorem dX11_layPlans_212 : decode cX11_layPlans 212 = .ok (.sipush 720, 3) := by decide +kernel
theorem dX11_layPlans_215 : decode cX11_layPlans 215 = .ok (.iload_n 3, 1) := by decide +kernel
theorem dX11_layPlans_216 : decode cX11_layPlans 216 = .ok (.imul, 1) := by decide +kernel
theorem dX11_layPlans_217 : decode cX11_layPlans 217 = .ok (.iload 4, 2) := by decide +kernel
theorem dX11_layPlans_219 : decode cX11_layPlans 219 = .ok (.iadd, 1) := by decide +kernel
theorem dX11_layPlans_220 : decode cX11_layPlans 220 = .ok (.iload 5, 2) := by decide +kernel
theorem dX11_layPlans_222 : decode cX11_layPlans 222 = .ok (.ldc 138, 2) := by decide +kernel
theorem dX11_layPlans_224 : decode cX11_layPlans 224 = .ok (.if_icmp .eq 10, 3) := by decide +kernel
theorem dX11_layPlans_227 : decode cX11_layPlans 227 = .ok (.iload 6, 2) := by decide +kernel
theorem dX11_layPlans_229 : decode cX11_layPlans 229 = .ok (.ldc 138, 2) := by decide +kernel
theorem dX11_layPlans_231 : decode cX11_layPlans 231 = .ok (.if_icmp .ne 8, 3) := by decide +kernel
theorem dX11_layPlans_234 : decode cX11_layPlans 234 = .ok (.ldc 138, 2) := by decide +kernel
theorem dX11_layPlans_236 : decode cX11_layPlans 236 = .ok (.goto 8, 3) := by decide +kernel
theorem dX11_layPlans_239 : decode cX11_layPlans 239 = .ok (.iload 5, 2) := by decide +kernel
theorem dX11_layPlans_241 : decode cX11_layPlans 241 = .ok (.iload 6, 2) := by decide +kernel
theorem dX11_layPlans_243 : decode cX11_layPlans 243 = .ok (.iadd, 1) := by decide +kernel
theorem dX11_layPlans_244 : decode cX11_layPlans 244 = .ok (.iastore, 1) := by decide +kernel
theorem dX11_layPlans_245 : decode cX11_layPlans 245 = .ok (.iinc 4 1, 3) := by decide +kernel
theorem dX11_layPlans_248 : decode cX11_layPlans 248 = .ok (.goto (-182), 3) := by decide +kernel
theorem dX11_layPlans_251 : decode cX11_layPlans 251 = .ok (.iinc 3 (-1), 3) := by decide +kernel
theorem dX11_layPlans_254 : decode cX11_layPlans 254 = .ok (.goto (-195), 3) := by decide +kernel
theorem dX11_layPlans_257 : decode cX11_layPlans 257 = .ok (.return_, 1) := by decide +kernel
theorem dX11_firstOf_0 : decode cX11_firstOf 0 = .ok (.iconst (-1), 1) := by decide +kernel
theorem dX11_firstOf_1 : decode cX11_firstOf 1 = .ok (.istore_n 3, 1) := by decide +kernel
theorem dX11_firstOf_2 : decode cX11_firstOf 2 = .ok (.ldc 138, 2) := by decide +kernel
theorem dX11_firstOf_4 : decode cX11_firstOf 4 = .ok (.istore 4, 2) := by decide +kernel
theorem dX11_firstOf_6 : decode cX11_firstOf 6 = .ok (.iconst 0, 1) := by decide +kernel
theorem dX11_firstOf_7 : decode cX11_firstOf 7 = .ok (.istore 5, 2) := by decide +kernel
theorem dX11_firstOf_9 : decode cX11_firstOf 9 = .ok (.iload 5, 2) := by decide +kernel
theorem dX11_firstOf_11 : decode cX11_firstOf 11 = .ok (.aload_n 0, 1) := by decide +kernel
theorem dX11_firstOf_12 : decode cX11_firstOf 12 = .ok (.getfield 187, 3) := by decide +kernel
theorem dX11_firstOf_15 : decode cX11_firstOf 15 = .ok (.if_icmp .ge 66, 3) := by decide +kernel
theorem dX11_firstOf_18 : decode cX11_firstOf 18 = .ok (.aload_n 0, 1) := by decide +kernel
theorem dX11_firstOf_19 : decode cX11_firstOf 19 = .ok (.getfield 72, 3) := by decide +kernel
theorem dX11_firstOf_22 : decode cX11_firstOf 22 = .ok (.sipush 720, 3) := by decide +kernel
theorem dX11_firstOf_25 : decode cX11_firstOf 25 = .ok (.iload_n 1, 1) := by decide +kernel
theorem dX11_firstOf_26 : decode cX11_firstOf 26 = .ok (.imul, 1) := by decide +kernel
theorem dX11_firstOf_27 : decode cX11_firstOf 27 = .ok (.iload 5, 2) := by decide +kernel
theorem dX11_firstOf_29 : decode cX11_firstOf 29 = .ok (.iadd, 1) := by decide +kernel
theorem dX11_firstOf_30 : decode cX11_firstOf 30 = .ok (.iaload, 1) := by decide +kernel
theorem dX11_firstOf_31 : decode cX11_firstOf 31 = .ok (.istore 6, 2) := by decide +kernel
theorem dX11_firstOf_33 : decode cX11_firstOf 33 = .ok (.iload 6, 2) := by decide +kernel
theorem dX11_firstOf_35 : decode cX11_firstOf 35 = .ok (.iload 6, 2) := by decide +kernel
theorem dX11_firstOf_37 : decode cX11_firstOf 37 = .ok (.ldc 138, 2) := by decide +kernel
theorem dX11_firstOf_39 : decode cX11_firstOf 39 = .ok (.if_icmp .ge 18, 3) := by decide +kernel
theorem dX11_firstOf_42 : decode cX11_firstOf 42 = .ok (.iload_n 2, 1) := by decide +kernel
theorem dX11_firstOf_43 : decode cX11_firstOf 43 = .ok (.iconst (-1), 1) := by decide +kernel
theorem dX11_firstOf_44 : decode cX11_firstOf 44 = .ok (.if_icmp .eq 13, 3) := by decide +kernel
theorem dX11_firstOf_47 : decode cX11_firstOf 47 = .ok (.aload_n 0, 1) := by decide +kernel
theorem dX11_firstOf_48 : decode cX11_firstOf 48 = .ok (.iload_n 2, 1) := by decide +kernel
theorem dX11_firstOf_49 : decode cX11_firstOf 49 = .ok (.iload 5, 2) := by decide +kernel
theorem dX11_firstOf_51 : decode cX11_firstOf 51 = .ok (.invokevirtual 190, 3) := by decide +kernel
theorem dX11_firstOf_54 : decode cX11_firstOf 54 = .ok (.goto 4, 3) := by decide +kernel
theorem dX11_firstOf_57 : decode cX11_firstOf 57 = .ok (.iconst 0, 1) := by decide +kernel
theorem dX11_firstOf_58 : decode cX11_firstOf 58 = .ok (.iadd, 1) := by decide +kernel
theorem dX11_firstOf_59 : decode cX11_firstOf 59 = .ok (.istore 6, 2) := by decide +kernel
theorem dX11_firstOf_61 : decode cX11_firstOf 61 = .ok (.iload 6, 2) := by decide +kernel
theorem dX11_firstOf_63 : decode cX11_firstOf 63 = .ok (.iload 4, 2) := by decide +kernel
theorem dX11_firstOf_65 : decode cX11_firstOf 65 = .ok (.if_icmp .ge 10, 3) := by decide +kernel
theorem dX11_firstOf_68 : decode cX11_firstOf 68 = .ok (.iload 6, 2) := by decide +kernel
theorem dX11_firstOf_70 : decode cX11_firstOf 70 = .ok (.istore 4, 2) := by decide +kernel
theorem dX11_firstOf_72 : decode cX11_firstOf 72 = .ok (.iload 5, 2) := by decide +kernel
theorem dX11_firstOf_74 : decode cX11_firstOf 74 = .ok (.istore_n 3, 1) := by decide +kernel
theorem dX11_firstOf_75 : decode cX11_firstOf 75 = .ok (.iinc 5 1, 3) := by decide +kernel
theorem dX11_firstOf_78 : decode cX11_firstOf 78 = .ok (.goto (-69), 3) := by decide +kernel
theorem dX11_firstOf_81 : decode cX11_firstOf 81 = .ok (.iload_n 3, 1) := by decide +kernel
theorem dX11_firstOf_82 : decode cX11_firstOf 82 = .ok (.ireturn, 1) := by decide +kernel
theorem dX11_isSpan_0 : decode cX11_isSpan 0 = .ok (.iload_n 0, 1) := by decide +kernel
theorem dX11_isSpan_1 : decode cX11_isSpan 1 = .ok (.iconst 1, 1) := by decide +kernel
theorem dX11_isSpan_2 : decode cX11_isSpan 2 = .ok (.iconst 4, 1) := by decide +kernel
theorem dX11_isSpan_3 : decode cX11_isSpan 3 = .ok (.invokestatic 78, 3) := by decide +kernel
theorem dX11_isSpan_6 : decode cX11_isSpan 6 = .ok (.ireturn, 1) := by decide +kernel
theorem dX11_plan_0 : decode cX11_plan 0 = .ok (.iload_n 1, 1) := by decide +kernel
theorem dX11_plan_1 : decode cX11_plan 1 = .ok (.invokestatic 193, 3) := by decide +kernel
theorem dX11_plan_4 : decode cX11_plan 4 = .ok (.ifCond .ne 6, 3) := by decide +kernel
theorem dX11_plan_7 : decode cX11_plan 7 = .ok (.bipush (-2), 2) := by decide +kernel
theorem dX11_plan_9 : decode cX11_plan 9 = .ok (.ireturn, 1) := by decide +kernel
theorem dX11_plan_10 : decode cX11_plan 10 = .ok (.aload_n 0, 1) := by decide +kernel
theorem dX11_plan_11 : decode cX11_plan 11 = .ok (.iload_n 1, 1) := by decide +kernel
theorem dX11_plan_12 : decode cX11_plan 12 = .ok (.invokevirtual 196, 3) := by decide +kernel
theorem dX11_plan_15 : decode cX11_plan 15 = .ok (.aload_n 0, 1) := by decide +kernel
theorem dX11_plan_16 : decode cX11_plan 16 = .ok (.iconst 0, 1) := by decide +kernel
theorem dX11_plan_17 : decode cX11_plan 17 = .ok (.iconst (-1), 1) := by decide +kernel
theorem dX11_plan_18 : decode cX11_plan 18 = .ok (.invokevirtual 199, 3) := by decide +kernel
theorem dX11_plan_21 : decode cX11_plan 21 = .ok (.istore_n 2, 1) := by decide +kernel
theorem dX11_plan_22 : decode cX11_plan 22 = .ok (.iload_n 2, 1) := by decide +kernel
theorem dX11_plan_23 : decode cX11_plan 23 = .ok (.iconst (-1), 1) := by decide +kernel
theorem dX11_plan_24 : decode cX11_plan 24 = .ok (.if_icmp .ne 7, 3) := by decide +kernel
theorem dX11_plan_27 : decode cX11_plan 27 = .ok (.iconst (-1), 1) := by decide +kernel
theorem dX11_plan_28 : decode cX11_plan 28 = .ok (.goto 9, 3) := by decide +kernel
theorem dX11_plan_31 : decode cX11_plan 31 = .ok (.aload_n 0, 1) := by decide +kernel
theorem dX11_plan_32 : decode cX11_plan 32 = .ok (.getfield 72, 3) := by decide +kernel
theorem dX11_plan_35 : decode cX11_plan 35 = .ok (.iload_n 2, 1) := by decide +kernel
theorem dX11_plan_36 : decode cX11_plan 36 = .ok (.iaload, 1) := by decide +kernel
theorem dX11_plan_37 : decode cX11_plan 37 = .ok (.ireturn, 1) := by decide +kernel
theorem dX11_planned_0 : decode cX11_planned 0 = .ok (.iload_n 1, 1) := by decide +kernel
theorem dX11_planned_1 : decode cX11_planned 1 = .ok (.invokestatic 193, 3) := by decide +kernel
theorem dX11_planned_4 : decode cX11_planned 4 = .ok (.ifCond .eq 14, 3) := by decide +kernel
theorem dX11_planned_7 : decode cX11_planned 7 = .ok (.iload_n 2, 1) := by decide +kernel
theorem dX11_planned_8 : decode cX11_planned 8 = .ok (.iconst 0, 1) := by decide +kernel
theorem dX11_planned_9 : decode cX11_planned 9 = .ok (.iload_n 1, 1) := by decide +kernel
theorem dX11_planned_10 : decode cX11_planned 10 = .ok (.iconst 1, 1) := by decide +kernel
theorem dX11_planned_11 : decode cX11_planned 11 = .ok (.isub, 1) := by decide +kernel
theorem dX11_planned_12 : decode cX11_planned 12 = .ok (.invokestatic 78, 3) := by decide +kernel
theorem dX11_planned_15 : decode cX11_planned 15 = .ok (.ifCond .ne 6, 3) := by decide +kernel
theorem dX11_planned_18 : decode cX11_planned 18 = .ok (.bipush (-2), 2) := by decide +kernel
theorem dX11_planned_20 : decode cX11_planned 20 = .ok (.ireturn, 1) := by decide +kernel
theorem dX11_planned_21 : decode cX11_planned 21 = .ok (.aload_n 0, 1) := by decide +kernel
theorem dX11_planned_22 : decode cX11_planned 22 = .ok (.iload_n 1, 1) := by decide +kernel
theorem dX11_planned_23 : decode cX11_planned 23 = .ok (.invokevirtual 196, 3) := by decide +kernel
theorem dX11_planned_26 : decode cX11_planned 26 = .ok (.aload_n 0, 1) := by decide +kernel
theorem dX11_planned_27 : decode cX11_planned 27 = .ok (.iconst 0, 1) := by decide +kernel
theorem dX11_planned_28 : decode cX11_planned 28 = .ok (.iconst (-1), 1) := by decide +kernel
theorem dX11_planned_29 : decode cX11_planned 29 = .ok (.invokevirtual 199, 3) := by decide +kernel
theorem dX11_planned_32 : decode cX11_planned 32 = .ok (.istore_n 3, 1) := by decide +kernel
theorem dX11_planned_33 : decode cX11_planned 33 = .ok (.iconst 1, 1) := by decide +kernel
theorem dX11_planned_34 : decode cX11_planned 34 = .ok (.istore 4, 2) := by decide +kernel
theorem dX11_planned_36 : decode cX11_planned 36 = .ok (.iload 4, 2) := by decide +kernel
theorem dX11_planned_38 : decode cX11_planned 38 = .ok (.iload_n 2, 1) := by decide +kernel
theorem dX11_planned_39 : decode cX11_planned 39 = .ok (.if_icmp .gt 22, 3) := by decide +kernel
theorem dX11_planned_42 : decode cX11_planned 42 = .ok (.iload_n 3, 1) := by decide +kernel
theorem dX11_planned_43 : decode cX11_planned 43 = .ok (.iconst (-1), 1) := by decide +kernel
theorem dX11_planned_44 : decode cX11_planned 44 = .ok (.if_icmp .eq 17, 3) := by decide +kernel
theorem dX11_planned_47 : decode cX11_planned 47 = .ok (.aload_n 0, 1) := by decide +kernel
theorem dX11_planned_48 : decode cX11_planned 48 = .ok (.iload 4, 2) := by decide +kernel
theorem dX11_planned_50 : decode cX11_planned 50 = .ok (.iload_n 3, 1) := by decide +kernel
theorem dX11_planned_51 : decode cX11_planned 51 = .ok (.invokevirtual 199, 3) := by decide +kernel
theorem dX11_planned_54 : decode cX11_planned 54 = .ok (.istore_n 3, 1) := by decide +kernel
theorem dX11_planned_55 : decode cX11_planned 55 = .ok (.iinc 4 1, 3) := by decide +kernel
theorem dX11_planned_58 : decode cX11_planned 58 = .ok (.goto (-22), 3) := by decide +kernel
theorem dX11_planned_61 : decode cX11_planned 61 = .ok (.iload_n 3, 1) := by decide +kernel
theorem dX11_planned_62 : decode cX11_planned 62 = .ok (.iconst (-1), 1) := by decide +kernel
theorem dX11_planned_63 : decode cX11_planned 63 = .ok (.if_icmp .ne 5, 3) := by decide +kernel
theorem dX11_planned_66 : decode cX11_planned 66 = .ok (.iconst (-1), 1) := by decide +kernel
theorem dX11_planned_67 : decode cX11_planned 67 = .ok (.ireturn, 1) := by decide +kernel
theorem dX11_planned_68 : decode cX11_planned 68 = .ok (.aload_n 0, 1) := by decide +kernel
theorem dX11_planned_69 : decode cX11_planned 69 = .ok (.aload_n 0, 1) := by decide +kernel
theorem dX11_planned_70 : decode cX11_planned 70 = .ok (.getfield 69, 3) := by decide +kernel
theorem dX11_planned_73 : decode cX11_planned 73 = .ok (.iload_n 3, 1) := by decide +kernel
theorem dX11_planned_74 : decode cX11_planned 74 = .ok (.iaload, 1) := by decide +kernel
theorem dX11_planned_75 : decode cX11_planned 75 = .ok (.invokevirtual 149, 3) := by decide +kernel
theorem dX11_planned_78 : decode cX11_planned 78 = .ok (.pop, 1) := by decide +kernel
theorem dX11_planned_79 : decode cX11_planned 79 = .ok (.aload_n 0, 1) := by decide +kernel
theorem dX11_planned_80 : decode cX11_planned 80 = .ok (.invokevirtual 129, 3) := by decide +kernel
theorem dX11_planned_83 : decode cX11_planned 83 = .ok (.ireturn, 1) := by decide +kernel
theorem dX11_count_0 : decode cX11_count 0 = .ok (.iconst 0, 1) := by decide +kernel
theorem dX11_count_1 : decode cX11_count 1 = .ok (.istore_n 2, 1) := by decide +kernel
theorem dX11_count_2 : decode cX11_count 2 = .ok (.iload_n 1, 1) := by decide +kernel
theorem dX11_count_3 : decode cX11_count 3 = .ok (.tableswitch 116 0 4 #[33, 38, 43, 48, 83], 33) := by decide +kernel
theorem dX11_count_36 : decode cX11_count 36 = .ok (.aload_n 0, 1) := by decide +kernel
theorem dX11_count_37 : decode cX11_count 37 = .ok (.getfield 82, 3) := by decide +kernel
theorem dX11_count_40 : decode cX11_count 40 = .ok (.ireturn, 1) := by decide +kernel
theorem dX11_count_41 : decode cX11_count 41 = .ok (.aload_n 0, 1) := by decide +kernel
theorem dX11_count_42 : decode cX11_count 42 = .ok (.getfield 85, 3) := by decide +kernel
theorem dX11_count_45 : decode cX11_count 45 = .ok (.ireturn, 1) := by decide +kernel
theorem dX11_count_46 : decode cX11_count 46 = .ok (.aload_n 0, 1) := by decide +kernel
theorem dX11_count_47 : decode cX11_count 47 = .ok (.getfield 113, 3) := by decide +kernel
theorem dX11_count_50 : decode cX11_count 50 = .ok (.ireturn, 1) := by decide +kernel
theorem dX11_count_51 : decode cX11_count 51 = .ok (.iconst 0, 1) := by decide +kernel
theorem dX11_count_52 : decode cX11_count 52 = .ok (.istore_n 3, 1) := by decide +kernel
theorem dX11_count_53 : decode cX11_count 53 = .ok (.iload_n 3, 1) := by decide +kernel
theorem dX11_count_54 : decode cX11_count 54 = .ok (.bipush 36, 2) := by decide +kernel
theorem dX11_count_56 : decode cX11_count 56 = .ok (.if_icmp .ge 28, 3) := by decide +kernel
theorem dX11_count_59 : decode cX11_count 59 = .ok (.iload_n 2, 1) := by decide +kernel
theorem dX11_count_60 : decode cX11_count 60 = .ok (.aload_n 0, 1) := by decide +kernel
theorem dX11_count_61 : decode cX11_count 61 = .ok (.getfield 7, 3) := by decide +kernel
theorem dX11_count_64 : decode cX11_count 64 = .ok (.iload_n 3, 1) := by decide +kernel
theorem dX11_count_65 : decode cX11_count 65 = .ok (.iaload, 1) := by decide +kernel
theorem dX11_count_66 : decode cX11_count 66 = .ok (.bipush (-2), 2) := by decide +kernel
theorem dX11_count_68 : decode cX11_count 68 = .ok (.if_icmp .ne 7, 3) := by decide +kernel
theorem dX11_count_71 : decode cX11_count 71 = .ok (.iconst 1, 1) := by decide +kernel
theorem dX11_count_72 : decode cX11_count 72 = .ok (.goto 4, 3) := by decide +kernel
theorem dX11_count_75 : decode cX11_count 75 = .ok (.iconst 0, 1) := by decide +kernel
theorem dX11_count_76 : decode cX11_count 76 = .ok (.iadd, 1) := by decide +kernel
theorem dX11_count_77 : decode cX11_count 77 = .ok (.istore_n 2, 1) := by decide +kernel
theorem dX11_count_78 : decode cX11_count 78 = .ok (.iinc 3 1, 3) := by decide +kernel
theorem dX11_count_81 : decode cX11_count 81 = .ok (.goto (-28), 3) := by decide +kernel
theorem dX11_count_84 : decode cX11_count 84 = .ok (.iload_n 2, 1) := by decide +kernel
theorem dX11_count_85 : decode cX11_count 85 = .ok (.ireturn, 1) := by decide +kernel
theorem dX11_count_86 : decode cX11_count 86 = .ok (.iconst 0, 1) := by decide +kernel
theorem dX11_count_87 : decode cX11_count 87 = .ok (.istore_n 3, 1) := by decide +kernel
theorem dX11_count_88 : decode cX11_count 88 = .ok (.iload_n 3, 1) := by decide +kernel
theorem dX11_count_89 : decode cX11_count 89 = .ok (.bipush 36, 2) := by decide +kernel
theorem dX11_count_91 : decode cX11_count 91 = .ok (.if_icmp .ge 26, 3) := by decide +kernel
theorem dX11_count_94 : decode cX11_count 94 = .ok (.iload_n 2, 1) := by decide +kernel
theorem dX11_count_95 : decode cX11_count 95 = .ok (.aload_n 0, 1) := by decide +kernel
theorem dX11_count_96 : decode cX11_count 96 = .ok (.getfield 13, 3) := by decide +kernel
theorem dX11_count_99 : decode cX11_count 99 = .ok (.iload_n 3, 1) := by decide +kernel
theorem dX11_count_100 : decode cX11_count 100 = .ok (.baload, 1) := by decide +kernel
theorem dX11_count_101 : decode cX11_count 101 = .ok (.ifCond .eq 7, 3) := by decide +kernel
theorem dX11_count_104 : decode cX11_count 104 = .ok (.iconst 1, 1) := by decide +kernel
theorem dX11_count_105 : decode cX11_count 105 = .ok (.goto 4, 3) := by decide +kernel
theorem dX11_count_108 : decode cX11_count 108 = .ok (.iconst 0, 1) := by decide +kernel
theorem dX11_count_109 : decode cX11_count 109 = .ok (.iadd, 1) := by decide +kernel
theorem dX11_count_110 : decode cX11_count 110 = .ok (.istore_n 2, 1) := by decide +kernel
theorem dX11_count_111 : decode cX11_count 111 = .ok (.iinc 3 1, 3) := by decide +kernel
theorem dX11_count_114 : decode cX11_count 114 = .ok (.goto (-26), 3) := by decide +kernel
theorem dX11_count_117 : decode cX11_count 117 = .ok (.iload_n 2, 1) := by decide +kernel
theorem dX11_count_118 : decode cX11_count 118 = .ok (.ireturn, 1) := by decide +kernel
theorem dX11_count_119 : decode cX11_count 119 = .ok (.bipush (-2), 2) := by decide +kernel
theorem dX11_count_121 : decode cX11_count 121 = .ok (.ireturn, 1) := by decide +kernel
end
section
theorem uw_X0 : ∀ w ∈ u_ws RX0 TX0 7, w ∈ TB := by decide +kernel
theorem uw_X1 : ∀ w ∈ u_ws RX1 TX1 6, w ∈ TB := by decide +kernel
theorem uw_X2 : ∀ w ∈ u_ws RX2 TX2 9, w ∈ TB := by decide +kernel
theorem uw_X3 : ∀ w ∈ u_ws RX3 TX3 2, w ∈ TB := by decide +kernel
theorem uw_X4 : ∀ w ∈ u_ws RX4 TX4 4, w ∈ TB := by decide +kernel
theorem uw_X5 : ∀ w ∈ u_ws RX5 TX5 3, w ∈ TB := by decide +kernel
theorem uw_X6 : ∀ w ∈ u_ws RX6 TX6 11, w ∈ TB := by decide +kernel
theorem uw_X7 : ∀ w ∈ u_ws RX7 TX7 1, w ∈ TB := by decide +kernel
theorem uw_X8 : ∀ w ∈ u_ws RX8 TX8 2, w ∈ TB := by decide +kernel
theorem uw_X9 : ∀ w ∈ u_ws RX9 TX9 8, w ∈ TB := by decide +kernel
theorem uw_X10 : ∀ w ∈ u_ws RX10 TX10 10, w ∈ TB := by decide +kernel
theorem uw_X11 : ∀ w ∈ u_ws RX11 TX11 30, w ∈ TB := by decide +kernel
abbrev mX0_init : MD := (yX0_init, cX0_init, 4, none, 1, 3, 61)
abbrev mX0_least : MD := (yX0_least, cX0_least, 1, (some .int), 0, 0, 0)
abbrev mX0_howMany : MD := (yX0_howMany, cX0_howMany, 1, (some .int), 0, 0, 0)
abbrev mX0_first : MD := (yX0_first, cX0_first, 1, (some (.object "ShopsOnFloor$Seats")), 2, 0, 0)
abbrev mX0_search : MD := (yX0_search, cX0_search, 4, none, 1, 4, 95)
abbrev mX0_compare : MD := (yX0_compare, cX0_compare, 2, none, 1, 2, 44)
abbrev mX1_init : MD := (yX1_init, cX1_init, 3, none, 1, 3, 61)
abbrev mX1_found : MD := (yX1_found, cX1_found, 1, (some (.object "ShopsOnFloor$Seats")), 2, 0, 0)
abbrev mX1_search : MD := (yX1_search, cX1_search, 5, (some .boolean), 3, 5, 120)
abbrev mX1_tryChange : MD := (yX1_tryChange, cX1_tryChange, 6, none, 1, 4, 95)
abbrev mX1_compare : MD := (yX1_compare, cX1_compare, 3, none, 1, 2, 45)
abbrev mX2_init : MD := (yX2_init, cX2_init, 1, none, 1, 2, 41)
abbrev mX2_kindOf : MD := (yX2_kindOf, cX2_kindOf, 2, (some .int), 0, 1, 21)
abbrev mX2_slots : MD := (yX2_slots, cX2_slots, 1, (some .int), 0, 0, 0)
abbrev mX2_hasSlot : MD := (yX2_hasSlot, cX2_hasSlot, 2, (some .boolean), 3, 0, 0)
abbrev mX2_cellsOf : MD := (yX2_cellsOf, cX2_cellsOf, 4, (some .int), 0, 1, 21)
abbrev mX2_wayBetween : MD := (yX2_wayBetween, cX2_wayBetween, 3, (some .int), 0, 1, 21)
abbrev mX2_wayOut : MD := (yX2_wayOut, cX2_wayOut, 2, (some .int), 0, 1, 21)
abbrev mX2_changeBound : MD := (yX2_changeBound, cX2_changeBound, 3, (some .int), 0, 0, 0)
abbrev mX2_isOutNear : MD := (yX2_isOutNear, cX2_isOutNear, 3, (some .boolean), 3, 1, 21)
abbrev mX2_become : MD := (yX2_become, cX2_become, 3, none, 1, 4, 92)
abbrev mX2_addSlot : MD := (yX2_addSlot, cX2_addSlot, 3, (some .int), 0, 5, 114)
abbrev mX2_measure : MD := (yX2_measure, cX2_measure, 3, none, 1, 3, 70)
abbrev mX2_flood : MD := (yX2_flood, cX2_flood, 7, none, 1, 2, 44)
abbrev mX2_reach : MD := (yX2_reach, cX2_reach, 3, none, 1, 1, 22)
abbrev mX2_nearestExit : MD := (yX2_nearestExit, cX2_nearestExit, 4, (some .int), 0, 1, 21)
abbrev mX3_init : MD := (yX3_init, cX3_init, 3, none, 1, 1, 20)
abbrev mX3_costOf : MD := (yX3_costOf, cX3_costOf, 8, (some .int), 0, 3, 68)
abbrev mX3_areExitsNear : MD := (yX3_areExitsNear, cX3_areExitsNear, 3, (some .boolean), 3, 2, 43)
abbrev mX3_areWishesMet : MD := (yX3_areWishesMet, cX3_areWishesMet, 5, (some .boolean), 3, 2, 44)
abbrev mX4_init : MD := (yX4_init, cX4_init, 3, none, 1, 2, 41)
abbrev mX4_of : MD := (yX4_of, cX4_of, 5, (some .int), 0, 3, 70)
abbrev mX4_sortLoads : MD := (yX4_sortLoads, cX4_sortLoads, 6, (some .int), 0, 2, 45)
abbrev mX4_sortWays : MD := (yX4_sortWays, cX4_sortWays, 5, (some .int), 0, 2, 45)
abbrev mX4_insert : MD := (yX4_insert, cX4_insert, 4, none, 1, 1, 22)
abbrev mX5_init : MD := (yX5_init, cX5_init, 3, none, 1, 3, 61)
abbrev mX5_least : MD := (yX5_least, cX5_least, 5, (some .int), 0, 3, 70)
abbrev mX5_asideWeight : MD := (yX5_asideWeight, cX5_asideWeight, 7, (some .int), 0, 2, 44)
abbrev mX5_walk : MD := (yX5_walk, cX5_walk, 6, (some .int), 0, 5, 120)
abbrev mX5_firstStep : MD := (yX5_firstStep, cX5_firstStep, 7, (some .int), 0, 4, 94)
abbrev mX6_init : MD := (yX6_init, cX6_init, 4, none, 1, 3, 61)
abbrev mX6_forget : MD := (yX6_forget, cX6_forget, 1, none, 1, 0, 0)
abbrev mX6_price : MD := (yX6_price, cX6_price, 1, (some .int), 0, 0, 0)
abbrev mX6_toldOf : MD := (yX6_toldOf, cX6_toldOf, 2, (some .int), 0, 1, 21)
abbrev mX6_makePlan : MD := (yX6_makePlan, cX6_makePlan, 3, none, 1, 5, 121)
abbrev mX6_reckon : MD := (yX6_reckon, cX6_reckon, 7, none, 1, 4, 95)
abbrev mX6_stay : MD := (yX6_stay, cX6_stay, 5, none, 1, 4, 91)
abbrev mX6_letAllMove : MD := (yX6_letAllMove, cX6_letAllMove, 6, none, 1, 2, 48)
abbrev mX6_toldEnd : MD := (yX6_toldEnd, cX6_toldEnd, 3, (some .int), 0, 1, 20)
abbrev mX6_letMove : MD := (yX6_letMove, cX6_letMove, 7, none, 1, 1, 22)
abbrev mX6_choose : MD := (yX6_choose, cX6_choose, 7, none, 1, 4, 91)
abbrev mX7_init : MD := (yX7_init, cX7_init, 2, none, 1, 1, 20)
abbrev mX7_get : MD := (yX7_get, cX7_get, 2, (some .int), 0, 0, 0)
abbrev mX7_set : MD := (yX7_set, cX7_set, 3, none, 1, 0, 0)
abbrev mX8_init : MD := (yX8_init, cX8_init, 1, none, 1, 2, 41)
abbrev mX8_shops : MD := (yX8_shops, cX8_shops, 1, (some .int), 0, 0, 0)
abbrev mX8_at : MD := (yX8_at, cX8_at, 2, (some .int), 0, 1, 21)
abbrev mX8_seat : MD := (yX8_seat, cX8_seat, 3, none, 1, 1, 22)
abbrev mX8_copy : MD := (yX8_copy, cX8_copy, 3, none, 1, 1, 22)
abbrev mX8_whoIsAt : MD := (yX8_whoIsAt, cX8_whoIsAt, 4, (some .int), 0, 1, 21)
abbrev mX8_addShop : MD := (yX8_addShop, cX8_addShop, 2, none, 1, 3, 68)
abbrev mX8_seatBehind : MD := (yX8_seatBehind, cX8_seatBehind, 5, (some .boolean), 3, 2, 44)
abbrev mX8_told : MD := (yX8_told, cX8_told, 3, (some .int), 0, 1, 21)
abbrev mX8_read : MD := (yX8_read, cX8_read, 6, (some .boolean), 3, 2, 44)
abbrev mX8_begin : MD := (yX8_begin, cX8_begin, 4, none, 1, 3, 68)
abbrev mX8_goOn : MD := (yX8_goOn, cX8_goOn, 4, (some .boolean), 3, 3, 68)
abbrev mX8_comesBefore : MD := (yX8_comesBefore, cX8_comesBefore, 5, (some .boolean), 3, 1, 21)
abbrev mX9_init : MD := (yX9_init, cX9_init, 1, none, 1, 2, 41)
abbrev mX9_shops : MD := (yX9_shops, cX9_shops, 1, (some .int), 0, 0, 0)
abbrev mX9_wishes : MD := (yX9_wishes, cX9_wishes, 1, (some .int), 0, 0, 0)
abbrev mX9_hasShop : MD := (yX9_hasShop, cX9_hasShop, 2, (some .boolean), 3, 0, 0)
abbrev mX9_areTwo : MD := (yX9_areTwo, cX9_areTwo, 3, (some .boolean), 3, 1, 21)
abbrev mX9_addShop : MD := (yX9_addShop, cX9_addShop, 2, (some .int), 0, 1, 22)
abbrev mX9_changeLoad : MD := (yX9_changeLoad, cX9_changeLoad, 7, (some .int), 0, 1, 22)
abbrev mX9_bothWays : MD := (yX9_bothWays, cX9_bothWays, 4, (some .int), 0, 1, 22)
abbrev mX9_loadAt : MD := (yX9_loadAt, cX9_loadAt, 3, (some .int), 0, 0, 0)
abbrev mX9_weightOf : MD := (yX9_weightOf, cX9_weightOf, 2, (some .int), 0, 1, 21)
abbrev mX9_changeWeight : MD := (yX9_changeWeight, cX9_changeWeight, 4, (some .int), 0, 1, 22)
abbrev mX9_movedWeight : MD := (yX9_movedWeight, cX9_movedWeight, 5, (some .int), 0, 2, 42)
abbrev mX9_addWish : MD := (yX9_addWish, cX9_addWish, 6, (some .int), 0, 1, 22)
abbrev mX9_dropWish : MD := (yX9_dropWish, cX9_dropWish, 3, none, 1, 1, 22)
abbrev mX9_oneOf : MD := (yX9_oneOf, cX9_oneOf, 2, (some .int), 0, 1, 21)
abbrev mX9_otherOf : MD := (yX9_otherOf, cX9_otherOf, 2, (some .int), 0, 1, 21)
abbrev mX9_isMet : MD := (yX9_isMet, cX9_isMet, 4, (some .boolean), 3, 1, 21)
abbrev mX10_init : MD := (yX10_init, cX10_init, 1, none, 1, 4, 84)
abbrev mX10_column : MD := (yX10_column, cX10_column, 5, (some .int), 0, 5, 114)
abbrev mX10_slot : MD := (yX10_slot, cX10_slot, 4, (some .int), 0, 6, 136)
abbrev mX10_exit : MD := (yX10_exit, cX10_exit, 6, (some .int), 0, 5, 114)
abbrev mX10_far : MD := (yX10_far, cX10_far, 3, (some .int), 0, 2, 43)
abbrev mX10_out : MD := (yX10_out, cX10_out, 2, (some .int), 0, 2, 42)
abbrev mX10_bound : MD := (yX10_bound, cX10_bound, 2, (some .int), 0, 1, 22)
abbrev mX10_shop : MD := (yX10_shop, cX10_shop, 1, (some .int), 0, 4, 89)
abbrev mX10_load : MD := (yX10_load, cX10_load, 5, (some .int), 0, 2, 48)
abbrev mX10_weight : MD := (yX10_weight, cX10_weight, 3, (some .int), 0, 2, 45)
abbrev mX10_wish : MD := (yX10_wish, cX10_wish, 5, (some .int), 0, 2, 47)
abbrev mX10_unwish : MD := (yX10_unwish, cX10_unwish, 2, (some .int), 0, 2, 44)
abbrev mX10_put : MD := (yX10_put, cX10_put, 2, (some .int), 0, 3, 69)
abbrev mX10_places : MD := (yX10_places, cX10_places, 1, (some .int), 0, 2, 43)
abbrev mX10_cost : MD := (yX10_cost, cX10_cost, 2, (some .int), 0, 4, 95)
abbrev mX10_best : MD := (yX10_best, cX10_best, 2, (some .int), 0, 5, 118)
abbrev mX10_many : MD := (yX10_many, cX10_many, 2, (some .int), 0, 5, 118)
abbrev mX10_take : MD := (yX10_take, cX10_take, 2, (some .int), 0, 5, 118)
abbrev mX10_floor : MD := (yX10_floor, cX10_floor, 2, (some .int), 0, 4, 94)
abbrev mX10_settled : MD := (yX10_settled, cX10_settled, 3, (some .int), 0, 6, 144)
abbrev mX10_climb : MD := (yX10_climb, cX10_climb, 3, (some .int), 0, 6, 144)
abbrev mX10_move : MD := (yX10_move, cX10_move, 2, (some .int), 0, 4, 94)
abbrev mX10_step : MD := (yX10_step, cX10_step, 3, (some .int), 0, 6, 145)
abbrev mX10_plan : MD := (yX10_plan, cX10_plan, 2, (some .int), 0, 6, 143)
abbrev mX10_planned : MD := (yX10_planned, cX10_planned, 3, (some .int), 0, 6, 143)
abbrev mX10_count : MD := (yX10_count, cX10_count, 2, (some .int), 0, 2, 44)
abbrev mX10_cellAt : MD := (yX10_cellAt, cX10_cellAt, 2, (some .int), 0, 0, 0)
abbrev mX10_isYear : MD := (yX10_isYear, cX10_isYear, 1, (some .boolean), 3, 0, 0)
abbrev mX11_init : MD := (yX11_init, cX11_init, 2, none, 1, 1, 20)
abbrev mX11_in : MD := (yX11_in, cX11_in, 3, (some .boolean), 3, 0, 0)
abbrev mX11_isCell : MD := (yX11_isCell, cX11_isCell, 2, (some .boolean), 3, 1, 22)
abbrev mX11_isSlot : MD := (yX11_isSlot, cX11_isSlot, 2, (some .boolean), 3, 1, 22)
abbrev mX11_isShop : MD := (yX11_isShop, cX11_isShop, 2, (some .boolean), 3, 1, 22)
abbrev mX11_isYear : MD := (yX11_isYear, cX11_isYear, 1, (some .boolean), 3, 1, 22)
abbrev mX11_column : MD := (yX11_column, cX11_column, 5, (some .int), 0, 2, 43)
abbrev mX11_slot : MD := (yX11_slot, cX11_slot, 4, (some .int), 0, 2, 43)
abbrev mX11_exit : MD := (yX11_exit, cX11_exit, 6, (some .int), 0, 2, 43)
abbrev mX11_beside : MD := (yX11_beside, cX11_beside, 5, (some .int), 0, 0, 0)
abbrev mX11_walk : MD := (yX11_walk, cX11_walk, 7, none, 1, 1, 24)
abbrev mX11_layFloor : MD := (yX11_layFloor, cX11_layFloor, 3, none, 1, 2, 50)
abbrev mX11_far : MD := (yX11_far, cX11_far, 3, (some .int), 0, 3, 72)
abbrev mX11_out : MD := (yX11_out, cX11_out, 2, (some .int), 0, 3, 72)
abbrev mX11_bound : MD := (yX11_bound, cX11_bound, 3, (some .int), 0, 1, 22)
abbrev mX11_shop : MD := (yX11_shop, cX11_shop, 3, (some .int), 0, 0, 0)
abbrev mX11_load : MD := (yX11_load, cX11_load, 7, (some .int), 0, 2, 43)
abbrev mX11_weight : MD := (yX11_weight, cX11_weight, 4, (some .int), 0, 2, 43)
abbrev mX11_wish : MD := (yX11_wish, cX11_wish, 5, (some .int), 0, 2, 43)
abbrev mX11_unwish : MD := (yX11_unwish, cX11_unwish, 3, (some .int), 0, 1, 22)
abbrev mX11_allNumbers : MD := (yX11_allNumbers, cX11_allNumbers, 3, (some .int), 0, 0, 0)
abbrev mX11_layRow : MD := (yX11_layRow, cX11_layRow, 6, (some .boolean), 3, 0, 0)
abbrev mX11_numberOf : MD := (yX11_numberOf, cX11_numberOf, 3, (some .int), 0, 0, 0)
abbrev mX11_takeNow : MD := (yX11_takeNow, cX11_takeNow, 2, none, 1, 0, 0)
abbrev mX11_becomeNow : MD := (yX11_becomeNow, cX11_becomeNow, 2, none, 1, 0, 0)
abbrev mX11_layTold : MD := (yX11_layTold, cX11_layTold, 6, (some .boolean), 3, 1, 22)
abbrev mX11_toldOf : MD := (yX11_toldOf, cX11_toldOf, 3, (some .int), 0, 0, 0)
abbrev mX11_put : MD := (yX11_put, cX11_put, 2, (some .int), 0, 2, 47)
abbrev mX11_places : MD := (yX11_places, cX11_places, 1, (some .int), 0, 1, 22)
abbrev mX11_farOf : MD := (yX11_farOf, cX11_farOf, 3, (some .int), 0, 0, 0)
abbrev mX11_meets : MD := (yX11_meets, cX11_meets, 3, (some .boolean), 3, 1, 22)
abbrev mX11_costOf : MD := (yX11_costOf, cX11_costOf, 7, (some .int), 0, 2, 44)
abbrev mX11_cost : MD := (yX11_cost, cX11_cost, 3, (some .int), 0, 3, 72)
abbrev mX11_bestOf : MD := (yX11_bestOf, cX11_bestOf, 6, (some .int), 0, 3, 72)
abbrev mX11_best : MD := (yX11_best, cX11_best, 3, (some .int), 0, 4, 97)
abbrev mX11_many : MD := (yX11_many, cX11_many, 2, (some .int), 0, 4, 97)
abbrev mX11_take : MD := (yX11_take, cX11_take, 3, (some .int), 0, 4, 97)
abbrev mX11_sortIn : MD := (yX11_sortIn, cX11_sortIn, 4, none, 1, 0, 0)
abbrev mX11_floor : MD := (yX11_floor, cX11_floor, 6, (some .int), 0, 3, 72)
abbrev mX11_look : MD := (yX11_look, cX11_look, 4, none, 1, 3, 70)
abbrev mX11_findChange : MD := (yX11_findChange, cX11_findChange, 6, none, 1, 4, 93)
abbrev mX11_settled : MD := (yX11_settled, cX11_settled, 2, (some .int), 0, 5, 118)
abbrev mX11_climb : MD := (yX11_climb, cX11_climb, 3, (some .int), 0, 5, 118)
abbrev mX11_stepTo : MD := (yX11_stepTo, cX11_stepTo, 5, (some .int), 0, 1, 25)
abbrev mX11_withStep : MD := (yX11_withStep, cX11_withStep, 5, (some .int), 0, 2, 49)
abbrev mX11_leastStep : MD := (yX11_leastStep, cX11_leastStep, 6, (some .int), 0, 3, 73)
abbrev mX11_layMoves : MD := (yX11_layMoves, cX11_layMoves, 6, none, 1, 4, 98)
abbrev mX11_move : MD := (yX11_move, cX11_move, 3, (some .int), 0, 5, 123)
abbrev mX11_step : MD := (yX11_step, cX11_step, 7, (some .int), 0, 5, 123)
abbrev mX11_changed : MD := (yX11_changed, cX11_changed, 5, (some .int), 0, 1, 25)
abbrev mX11_layPlans : MD := (yX11_layPlans, cX11_layPlans, 9, none, 1, 3, 72)
abbrev mX11_firstOf : MD := (yX11_firstOf, cX11_firstOf, 7, (some .int), 0, 2, 49)
abbrev mX11_isSpan : MD := (yX11_isSpan, cX11_isSpan, 1, (some .boolean), 3, 1, 22)
abbrev mX11_plan : MD := (yX11_plan, cX11_plan, 3, (some .int), 0, 4, 100)
abbrev mX11_planned : MD := (yX11_planned, cX11_planned, 5, (some .int), 0, 4, 100)
abbrev mX11_count : MD := (yX11_count, cX11_count, 4, (some .int), 0, 0, 0)
theorem okX0_least : MOV mX0_least 0 := ⟨(tb_of 603 (by decide +kernel) rfl), (tb_of 604 (by decide +kernel) rfl), (tb_of 52 (by decide +kernel) rfl), (tb_of 605 (by decide +kernel) rfl), by decide, by decide, by decide +kernel⟩
theorem okX0_howMany : MOV mX0_howMany 0 := ⟨(tb_of 611 (by decide +kernel) rfl), (tb_of 612 (by decide +kernel) rfl), (tb_of 52 (by decide +kernel) rfl), (tb_of 613 (by decide +kernel) rfl), by decide, by decide, by decide +kernel⟩
theorem okX0_first : MOV mX0_first 0 := ⟨(tb_of 619 (by decide +kernel) rfl), (tb_of 620 (by decide +kernel) rfl), (tb_of 52 (by decide +kernel) rfl), (tb_of 621 (by decide +kernel) rfl), by decide, by decide, by decide +kernel⟩
theorem okX0_search : MOV mX0_search 1 := ⟨(tb_of 583 (by decide +kernel) rfl), (tb_of 584 (by decide +kernel) rfl), (tb_of 52 (by decide +kernel) rfl), (tb_of 585 (by decide +kernel) rfl), by decide, by decide, by decide +kernel⟩
theorem okX0_compare : MOV mX0_compare 1 := ⟨(tb_of 595 (by decide +kernel) rfl), (tb_of 7 (by decide +kernel) rfl), (tb_of 52 (by decide +kernel) rfl), (tb_of 596 (by decide +kernel) rfl), by decide, by decide, by decide +kernel⟩
theorem okX1_found : MOV mX1_found 0 := ⟨(tb_of 682 (by decide +kernel) rfl), (tb_of 683 (by decide +kernel) rfl), (tb_of 54 (by decide +kernel) rfl), (tb_of 684 (by decide +kernel) rfl), by decide, by decide, by decide +kernel⟩
theorem okX1_search : MOV mX1_search 2 := ⟨(tb_of 652 (by decide +kernel) rfl), (tb_of 653 (by decide +kernel) rfl), (tb_of 54 (by decide +kernel) rfl), (tb_of 654 (by decide +kernel) rfl), by decide, by decide, by decide +kernel⟩
theorem okX1_tryChange : MOV mX1_tryChange 3 := ⟨(tb_of 661 (by decide +kernel) rfl), (tb_of 10 (by decide +kernel) rfl), (tb_of 54 (by decide +kernel) rfl), (tb_of 662 (by decide +kernel) rfl), by decide, by decide, by decide +kernel⟩
theorem okX1_compare : MOV mX1_compare 1 := ⟨(tb_of 671 (by decide +kernel) rfl), (tb_of 11 (by decide +kernel) rfl), (tb_of 54 (by decide +kernel) rfl), (tb_of 672 (by decide +kernel) rfl), by decide, by decide, by decide +kernel⟩
theorem okX2_kindOf : MOV mX2_kindOf 1 := ⟨(tb_of 352 (by decide +kernel) rfl), (tb_of 353 (by decide +kernel) rfl), (tb_of 47 (by decide +kernel) rfl), (tb_of 354 (by decide +kernel) rfl), by decide, by decide, by decide +kernel⟩
theorem okX2_slots : MOV mX2_slots 0 := ⟨(tb_of 393 (by decide +kernel) rfl), (tb_of 394 (by decide +kernel) rfl), (tb_of 47 (by decide +kernel) rfl), (tb_of 395 (by decide +kernel) rfl), by decide, by decide, by decide +kernel⟩
theorem okX2_hasSlot : MOV mX2_hasSlot 1 := ⟨(tb_of 410 (by decide +kernel) rfl), (tb_of 411 (by decide +kernel) rfl), (tb_of 47 (by decide +kernel) rfl), (tb_of 412 (by decide +kernel) rfl), by decide, by decide, by decide +kernel⟩
theorem okX2_cellsOf : MOV mX2_cellsOf 1 := ⟨(tb_of 790 (by decide +kernel) rfl), (tb_of 791 (by decide +kernel) rfl), (tb_of 47 (by decide +kernel) rfl), (tb_of 792 (by decide +kernel) rfl), by decide, by decide, by decide +kernel⟩
theorem okX2_wayBetween : MOV mX2_wayBetween 2 := ⟨(tb_of 414 (by decide +kernel) rfl), (tb_of 415 (by decide +kernel) rfl), (tb_of 47 (by decide +kernel) rfl), (tb_of 416 (by decide +kernel) rfl), by decide, by decide, by decide +kernel⟩
theorem okX2_wayOut : MOV mX2_wayOut 1 := ⟨(tb_of 422 (by decide +kernel) rfl), (tb_of 423 (by decide +kernel) rfl), (tb_of 47 (by decide +kernel) rfl), (tb_of 424 (by decide +kernel) rfl), by decide, by decide, by decide +kernel⟩
theorem okX2_changeBound : MOV mX2_changeBound 1 := ⟨(tb_of 430 (by decide +kernel) rfl), (tb_of 431 (by decide +kernel) rfl), (tb_of 47 (by decide +kernel) rfl), (tb_of 432 (by decide +kernel) rfl), by decide, by decide, by decide +kernel⟩
theorem okX2_isOutNear : MOV mX2_isOutNear 1 := ⟨(tb_of 553 (by decide +kernel) rfl), (tb_of 554 (by decide +kernel) rfl), (tb_of 47 (by decide +kernel) rfl), (tb_of 555 (by decide +kernel) rfl), by decide, by decide, by decide +kernel⟩
theorem okX2_become : MOV mX2_become 2 := ⟨(tb_of 360 (by decide +kernel) rfl), (tb_of 361 (by decide +kernel) rfl), (tb_of 47 (by decide +kernel) rfl), (tb_of 362 (by decide +kernel) rfl), by decide, by decide, by decide +kernel⟩
theorem okX2_addSlot : MOV mX2_addSlot 1 := ⟨(tb_of 397 (by decide +kernel) rfl), (tb_of 398 (by decide +kernel) rfl), (tb_of 47 (by decide +kernel) rfl), (tb_of 399 (by decide +kernel) rfl), by decide, by decide, by decide +kernel⟩
theorem okX2_measure : MOV mX2_measure 0 := ⟨(tb_of 369 (by decide +kernel) rfl), (tb_of 0 (by decide +kernel) rfl), (tb_of 47 (by decide +kernel) rfl), (tb_of 370 (by decide +kernel) rfl), by decide, by decide, by decide +kernel⟩
theorem okX2_flood : MOV mX2_flood 1 := ⟨(tb_of 373 (by decide +kernel) rfl), (tb_of 1 (by decide +kernel) rfl), (tb_of 47 (by decide +kernel) rfl), (tb_of 374 (by decide +kernel) rfl), by decide, by decide, by decide +kernel⟩
theorem okX2_reach : MOV mX2_reach 2 := ⟨(tb_of 378 (by decide +kernel) rfl), (tb_of 2 (by decide +kernel) rfl), (tb_of 47 (by decide +kernel) rfl), (tb_of 379 (by decide +kernel) rfl), by decide, by decide, by decide +kernel⟩
theorem okX2_nearestExit : MOV mX2_nearestExit 0 := ⟨(tb_of 382 (by decide +kernel) rfl), (tb_of 3 (by decide +kernel) rfl), (tb_of 47 (by decide +kernel) rfl), (tb_of 383 (by decide +kernel) rfl), by decide, by decide, by decide +kernel⟩
theorem okX3_costOf : MOV mX3_costOf 2 := ⟨(tb_of 537 (by decide +kernel) rfl), (tb_of 538 (by decide +kernel) rfl), (tb_of 50 (by decide +kernel) rfl), (tb_of 539 (by decide +kernel) rfl), by decide, by decide, by decide +kernel⟩
theorem okX3_areExitsNear : MOV mX3_areExitsNear 1 := ⟨(tb_of 542 (by decide +kernel) rfl), (tb_of 5 (by decide +kernel) rfl), (tb_of 50 (by decide +kernel) rfl), (tb_of 543 (by decide +kernel) rfl), by decide, by decide, by decide +kernel⟩
theorem okX3_areWishesMet : MOV mX3_areWishesMet 1 := ⟨(tb_of 558 (by decide +kernel) rfl), (tb_of 6 (by decide +kernel) rfl), (tb_of 50 (by decide +kernel) rfl), (tb_of 559 (by decide +kernel) rfl), by decide, by decide, by decide +kernel⟩
theorem okX4_of : MOV mX4_of 1 := ⟨(tb_of 627 (by decide +kernel) rfl), (tb_of 628 (by decide +kernel) rfl), (tb_of 51 (by decide +kernel) rfl), (tb_of 629 (by decide +kernel) rfl), by decide, by decide, by decide +kernel⟩
theorem okX4_sortLoads : MOV mX4_sortLoads 1 := ⟨(tb_of 632 (by decide +kernel) rfl), (tb_of 8 (by decide +kernel) rfl), (tb_of 51 (by decide +kernel) rfl), (tb_of 633 (by decide +kernel) rfl), by decide, by decide, by decide +kernel⟩
theorem okX4_sortWays : MOV mX4_sortWays 0 := ⟨(tb_of 643 (by decide +kernel) rfl), (tb_of 9 (by decide +kernel) rfl), (tb_of 51 (by decide +kernel) rfl), (tb_of 644 (by decide +kernel) rfl), by decide, by decide, by decide +kernel⟩
theorem okX4_insert : MOS mX4_insert 3 := ⟨(tb_of 637 (by decide +kernel) rfl), (tb_of 51 (by decide +kernel) rfl), (tb_of 638 (by decide +kernel) rfl), by decide, by decide, by decide +kernel⟩
theorem okX5_least : MOV mX5_least 2 := ⟨(tb_of 690 (by decide +kernel) rfl), (tb_of 691 (by decide +kernel) rfl), (tb_of 55 (by decide +kernel) rfl), (tb_of 692 (by decide +kernel) rfl), by decide, by decide, by decide +kernel⟩
theorem okX5_asideWeight : MOV mX5_asideWeight 3 := ⟨(tb_of 702 (by decide +kernel) rfl), (tb_of 12 (by decide +kernel) rfl), (tb_of 55 (by decide +kernel) rfl), (tb_of 703 (by decide +kernel) rfl), by decide, by decide, by decide +kernel⟩
theorem okX5_walk : MOV mX5_walk 3 := ⟨(tb_of 718 (by decide +kernel) rfl), (tb_of 719 (by decide +kernel) rfl), (tb_of 55 (by decide +kernel) rfl), (tb_of 720 (by decide +kernel) rfl), by decide, by decide, by decide +kernel⟩
theorem okX5_firstStep : MOV mX5_firstStep 1 := ⟨(tb_of 724 (by decide +kernel) rfl), (tb_of 13 (by decide +kernel) rfl), (tb_of 55 (by decide +kernel) rfl), (tb_of 725 (by decide +kernel) rfl), by decide, by decide, by decide +kernel⟩
theorem okX6_forget : MOV mX6_forget 0 := ⟨(tb_of 385 (by decide +kernel) rfl), (tb_of 386 (by decide +kernel) rfl), (tb_of 56 (by decide +kernel) rfl), (tb_of 387 (by decide +kernel) rfl), by decide, by decide, by decide +kernel⟩
theorem okX6_price : MOV mX6_price 0 := ⟨(tb_of 774 (by decide +kernel) rfl), (tb_of 775 (by decide +kernel) rfl), (tb_of 56 (by decide +kernel) rfl), (tb_of 776 (by decide +kernel) rfl), by decide, by decide, by decide +kernel⟩
theorem okX6_toldOf : MOV mX6_toldOf 1 := ⟨(tb_of 782 (by decide +kernel) rfl), (tb_of 783 (by decide +kernel) rfl), (tb_of 56 (by decide +kernel) rfl), (tb_of 784 (by decide +kernel) rfl), by decide, by decide, by decide +kernel⟩
theorem okX6_makePlan : MOV mX6_makePlan 1 := ⟨(tb_of 733 (by decide +kernel) rfl), (tb_of 734 (by decide +kernel) rfl), (tb_of 56 (by decide +kernel) rfl), (tb_of 735 (by decide +kernel) rfl), by decide, by decide, by decide +kernel⟩
theorem okX6_reckon : MOV mX6_reckon 2 := ⟨(tb_of 738 (by decide +kernel) rfl), (tb_of 14 (by decide +kernel) rfl), (tb_of 56 (by decide +kernel) rfl), (tb_of 739 (by decide +kernel) rfl), by decide, by decide, by decide +kernel⟩
theorem okX6_stay : MOV mX6_stay 1 := ⟨(tb_of 752 (by decide +kernel) rfl), (tb_of 15 (by decide +kernel) rfl), (tb_of 56 (by decide +kernel) rfl), (tb_of 753 (by decide +kernel) rfl), by decide, by decide, by decide +kernel⟩
theorem okX6_letAllMove : MOV mX6_letAllMove 0 := ⟨(tb_of 760 (by decide +kernel) rfl), (tb_of 17 (by decide +kernel) rfl), (tb_of 56 (by decide +kernel) rfl), (tb_of 761 (by decide +kernel) rfl), by decide, by decide, by decide +kernel⟩
theorem okX6_toldEnd : MOV mX6_toldEnd 0 := ⟨(tb_of 756 (by decide +kernel) rfl), (tb_of 16 (by decide +kernel) rfl), (tb_of 56 (by decide +kernel) rfl), (tb_of 757 (by decide +kernel) rfl), by decide, by decide, by decide +kernel⟩
theorem okX6_letMove : MOV mX6_letMove 3 := ⟨(tb_of 765 (by decide +kernel) rfl), (tb_of 18 (by decide +kernel) rfl), (tb_of 56 (by decide +kernel) rfl), (tb_of 766 (by decide +kernel) rfl), by decide, by decide, by decide +kernel⟩
theorem okX6_choose : MOV mX6_choose 1 := ⟨(tb_of 769 (by decide +kernel) rfl), (tb_of 19 (by decide +kernel) rfl), (tb_of 56 (by decide +kernel) rfl), (tb_of 770 (by decide +kernel) rfl), by decide, by decide, by decide +kernel⟩
theorem okX7_get : MOV mX7_get 1 := ⟨(tb_of 356 (by decide +kernel) rfl), (tb_of 357 (by decide +kernel) rfl), (tb_of 48 (by decide +kernel) rfl), (tb_of 358 (by decide +kernel) rfl), by decide, by decide, by decide +kernel⟩
theorem okX7_set : MOV mX7_set 2 := ⟨(tb_of 364 (by decide +kernel) rfl), (tb_of 365 (by decide +kernel) rfl), (tb_of 48 (by decide +kernel) rfl), (tb_of 366 (by decide +kernel) rfl), by decide, by decide, by decide +kernel⟩
theorem okX8_shops : MOV mX8_shops 0 := ⟨(tb_of 545 (by decide +kernel) rfl), (tb_of 546 (by decide +kernel) rfl), (tb_of 53 (by decide +kernel) rfl), (tb_of 547 (by decide +kernel) rfl), by decide, by decide, by decide +kernel⟩
theorem okX8_at : MOV mX8_at 1 := ⟨(tb_of 549 (by decide +kernel) rfl), (tb_of 550 (by decide +kernel) rfl), (tb_of 53 (by decide +kernel) rfl), (tb_of 551 (by decide +kernel) rfl), by decide, by decide, by decide +kernel⟩
theorem okX8_seat : MOV mX8_seat 2 := ⟨(tb_of 666 (by decide +kernel) rfl), (tb_of 667 (by decide +kernel) rfl), (tb_of 53 (by decide +kernel) rfl), (tb_of 668 (by decide +kernel) rfl), by decide, by decide, by decide +kernel⟩
theorem okX8_copy : MOV mX8_copy 1 := ⟨(tb_of 521 (by decide +kernel) rfl), (tb_of 522 (by decide +kernel) rfl), (tb_of 53 (by decide +kernel) rfl), (tb_of 523 (by decide +kernel) rfl), by decide, by decide, by decide +kernel⟩
theorem okX8_whoIsAt : MOV mX8_whoIsAt 2 := ⟨(tb_of 450 (by decide +kernel) rfl), (tb_of 451 (by decide +kernel) rfl), (tb_of 53 (by decide +kernel) rfl), (tb_of 452 (by decide +kernel) rfl), by decide, by decide, by decide +kernel⟩
theorem okX8_addShop : MOV mX8_addShop 1 := ⟨(tb_of 442 (by decide +kernel) rfl), (tb_of 443 (by decide +kernel) rfl), (tb_of 53 (by decide +kernel) rfl), (tb_of 444 (by decide +kernel) rfl), by decide, by decide, by decide +kernel⟩
theorem okX8_seatBehind : MOV mX8_seatBehind 3 := ⟨(tb_of 447 (by decide +kernel) rfl), (tb_of 4 (by decide +kernel) rfl), (tb_of 53 (by decide +kernel) rfl), (tb_of 448 (by decide +kernel) rfl), by decide, by decide, by decide +kernel⟩
theorem okX8_told : MOV mX8_told 0 := ⟨(tb_of 529 (by decide +kernel) rfl), (tb_of 530 (by decide +kernel) rfl), (tb_of 53 (by decide +kernel) rfl), (tb_of 531 (by decide +kernel) rfl), by decide, by decide, by decide +kernel⟩
theorem okX8_read : MOV mX8_read 3 := ⟨(tb_of 517 (by decide +kernel) rfl), (tb_of 518 (by decide +kernel) rfl), (tb_of 53 (by decide +kernel) rfl), (tb_of 519 (by decide +kernel) rfl), by decide, by decide, by decide +kernel⟩
theorem okX8_begin : MOV mX8_begin 2 := ⟨(tb_of 589 (by decide +kernel) rfl), (tb_of 590 (by decide +kernel) rfl), (tb_of 53 (by decide +kernel) rfl), (tb_of 591 (by decide +kernel) rfl), by decide, by decide, by decide +kernel⟩
theorem okX8_goOn : MOV mX8_goOn 1 := ⟨(tb_of 599 (by decide +kernel) rfl), (tb_of 600 (by decide +kernel) rfl), (tb_of 53 (by decide +kernel) rfl), (tb_of 601 (by decide +kernel) rfl), by decide, by decide, by decide +kernel⟩
theorem okX8_comesBefore : MOV mX8_comesBefore 1 := ⟨(tb_of 674 (by decide +kernel) rfl), (tb_of 675 (by decide +kernel) rfl), (tb_of 53 (by decide +kernel) rfl), (tb_of 676 (by decide +kernel) rfl), by decide, by decide, by decide +kernel⟩
theorem okX9_shops : MOV mX9_shops 0 := ⟨(tb_of 438 (by decide +kernel) rfl), (tb_of 439 (by decide +kernel) rfl), (tb_of 49 (by decide +kernel) rfl), (tb_of 440 (by decide +kernel) rfl), by decide, by decide, by decide +kernel⟩
theorem okX9_wishes : MOV mX9_wishes 0 := ⟨(tb_of 497 (by decide +kernel) rfl), (tb_of 498 (by decide +kernel) rfl), (tb_of 49 (by decide +kernel) rfl), (tb_of 499 (by decide +kernel) rfl), by decide, by decide, by decide +kernel⟩
theorem okX9_hasShop : MOV mX9_hasShop 1 := ⟨(tb_of 472 (by decide +kernel) rfl), (tb_of 473 (by decide +kernel) rfl), (tb_of 49 (by decide +kernel) rfl), (tb_of 474 (by decide +kernel) rfl), by decide, by decide, by decide +kernel⟩
theorem okX9_areTwo : MOV mX9_areTwo 2 := ⟨(tb_of 468 (by decide +kernel) rfl), (tb_of 469 (by decide +kernel) rfl), (tb_of 49 (by decide +kernel) rfl), (tb_of 470 (by decide +kernel) rfl), by decide, by decide, by decide +kernel⟩
theorem okX9_addShop : MOV mX9_addShop 0 := ⟨(tb_of 456 (by decide +kernel) rfl), (tb_of 457 (by decide +kernel) rfl), (tb_of 49 (by decide +kernel) rfl), (tb_of 458 (by decide +kernel) rfl), by decide, by decide, by decide +kernel⟩
theorem okX9_changeLoad : MOV mX9_changeLoad 4 := ⟨(tb_of 476 (by decide +kernel) rfl), (tb_of 477 (by decide +kernel) rfl), (tb_of 49 (by decide +kernel) rfl), (tb_of 478 (by decide +kernel) rfl), by decide, by decide, by decide +kernel⟩
theorem okX9_bothWays : MOV mX9_bothWays 3 := ⟨(tb_of 575 (by decide +kernel) rfl), (tb_of 576 (by decide +kernel) rfl), (tb_of 49 (by decide +kernel) rfl), (tb_of 577 (by decide +kernel) rfl), by decide, by decide, by decide +kernel⟩
theorem okX9_loadAt : MOS mX9_loadAt 3 := ⟨(tb_of 480 (by decide +kernel) rfl), (tb_of 49 (by decide +kernel) rfl), (tb_of 481 (by decide +kernel) rfl), by decide, by decide, by decide +kernel⟩
theorem okX9_weightOf : MOV mX9_weightOf 1 := ⟨(tb_of 705 (by decide +kernel) rfl), (tb_of 706 (by decide +kernel) rfl), (tb_of 49 (by decide +kernel) rfl), (tb_of 707 (by decide +kernel) rfl), by decide, by decide, by decide +kernel⟩
theorem okX9_changeWeight : MOV mX9_changeWeight 2 := ⟨(tb_of 489 (by decide +kernel) rfl), (tb_of 490 (by decide +kernel) rfl), (tb_of 49 (by decide +kernel) rfl), (tb_of 491 (by decide +kernel) rfl), by decide, by decide, by decide +kernel⟩
theorem okX9_movedWeight : MOV mX9_movedWeight 2 := ⟨(tb_of 694 (by decide +kernel) rfl), (tb_of 695 (by decide +kernel) rfl), (tb_of 49 (by decide +kernel) rfl), (tb_of 696 (by decide +kernel) rfl), by decide, by decide, by decide +kernel⟩
theorem okX9_addWish : MOV mX9_addWish 4 := ⟨(tb_of 501 (by decide +kernel) rfl), (tb_of 502 (by decide +kernel) rfl), (tb_of 49 (by decide +kernel) rfl), (tb_of 503 (by decide +kernel) rfl), by decide, by decide, by decide +kernel⟩
theorem okX9_dropWish : MOV mX9_dropWish 1 := ⟨(tb_of 509 (by decide +kernel) rfl), (tb_of 510 (by decide +kernel) rfl), (tb_of 49 (by decide +kernel) rfl), (tb_of 511 (by decide +kernel) rfl), by decide, by decide, by decide +kernel⟩
theorem okX9_oneOf : MOV mX9_oneOf 1 := ⟨(tb_of 562 (by decide +kernel) rfl), (tb_of 563 (by decide +kernel) rfl), (tb_of 49 (by decide +kernel) rfl), (tb_of 564 (by decide +kernel) rfl), by decide, by decide, by decide +kernel⟩
theorem okX9_otherOf : MOV mX9_otherOf 1 := ⟨(tb_of 566 (by decide +kernel) rfl), (tb_of 567 (by decide +kernel) rfl), (tb_of 49 (by decide +kernel) rfl), (tb_of 568 (by decide +kernel) rfl), by decide, by decide, by decide +kernel⟩
theorem okX9_isMet : MOV mX9_isMet 2 := ⟨(tb_of 571 (by decide +kernel) rfl), (tb_of 572 (by decide +kernel) rfl), (tb_of 49 (by decide +kernel) rfl), (tb_of 573 (by decide +kernel) rfl), by decide, by decide, by decide +kernel⟩
theorem okX10_column : MOV mX10_column 3 := ⟨(tb_of 345 (by decide +kernel) rfl), (tb_of 346 (by decide +kernel) rfl), (tb_of 46 (by decide +kernel) rfl), (tb_of 347 (by decide +kernel) rfl), by decide, by decide, by decide +kernel⟩
theorem okX10_slot : MOV mX10_slot 2 := ⟨(tb_of 389 (by decide +kernel) rfl), (tb_of 390 (by decide +kernel) rfl), (tb_of 46 (by decide +kernel) rfl), (tb_of 391 (by decide +kernel) rfl), by decide, by decide, by decide +kernel⟩
theorem okX10_exit : MOV mX10_exit 3 := ⟨(tb_of 402 (by decide +kernel) rfl), (tb_of 403 (by decide +kernel) rfl), (tb_of 46 (by decide +kernel) rfl), (tb_of 404 (by decide +kernel) rfl), by decide, by decide, by decide +kernel⟩
theorem okX10_far : MOV mX10_far 2 := ⟨(tb_of 406 (by decide +kernel) rfl), (tb_of 407 (by decide +kernel) rfl), (tb_of 46 (by decide +kernel) rfl), (tb_of 408 (by decide +kernel) rfl), by decide, by decide, by decide +kernel⟩
theorem okX10_out : MOV mX10_out 1 := ⟨(tb_of 418 (by decide +kernel) rfl), (tb_of 419 (by decide +kernel) rfl), (tb_of 46 (by decide +kernel) rfl), (tb_of 420 (by decide +kernel) rfl), by decide, by decide, by decide +kernel⟩
theorem okX10_bound : MOV mX10_bound 1 := ⟨(tb_of 426 (by decide +kernel) rfl), (tb_of 427 (by decide +kernel) rfl), (tb_of 46 (by decide +kernel) rfl), (tb_of 428 (by decide +kernel) rfl), by decide, by decide, by decide +kernel⟩
theorem okX10_shop : MOV mX10_shop 0 := ⟨(tb_of 434 (by decide +kernel) rfl), (tb_of 435 (by decide +kernel) rfl), (tb_of 46 (by decide +kernel) rfl), (tb_of 436 (by decide +kernel) rfl), by decide, by decide, by decide +kernel⟩
theorem okX10_load : MOV mX10_load 4 := ⟨(tb_of 461 (by decide +kernel) rfl), (tb_of 462 (by decide +kernel) rfl), (tb_of 46 (by decide +kernel) rfl), (tb_of 463 (by decide +kernel) rfl), by decide, by decide, by decide +kernel⟩
theorem okX10_weight : MOV mX10_weight 2 := ⟨(tb_of 484 (by decide +kernel) rfl), (tb_of 485 (by decide +kernel) rfl), (tb_of 46 (by decide +kernel) rfl), (tb_of 486 (by decide +kernel) rfl), by decide, by decide, by decide +kernel⟩
theorem okX10_wish : MOV mX10_wish 4 := ⟨(tb_of 493 (by decide +kernel) rfl), (tb_of 494 (by decide +kernel) rfl), (tb_of 46 (by decide +kernel) rfl), (tb_of 495 (by decide +kernel) rfl), by decide, by decide, by decide +kernel⟩
theorem okX10_unwish : MOV mX10_unwish 1 := ⟨(tb_of 505 (by decide +kernel) rfl), (tb_of 506 (by decide +kernel) rfl), (tb_of 46 (by decide +kernel) rfl), (tb_of 507 (by decide +kernel) rfl), by decide, by decide, by decide +kernel⟩
theorem okX10_put : MOV mX10_put 1 := ⟨(tb_of 513 (by decide +kernel) rfl), (tb_of 514 (by decide +kernel) rfl), (tb_of 46 (by decide +kernel) rfl), (tb_of 515 (by decide +kernel) rfl), by decide, by decide, by decide +kernel⟩
theorem okX10_places : MOV mX10_places 0 := ⟨(tb_of 525 (by decide +kernel) rfl), (tb_of 526 (by decide +kernel) rfl), (tb_of 46 (by decide +kernel) rfl), (tb_of 527 (by decide +kernel) rfl), by decide, by decide, by decide +kernel⟩
theorem okX10_cost : MOV mX10_cost 1 := ⟨(tb_of 533 (by decide +kernel) rfl), (tb_of 534 (by decide +kernel) rfl), (tb_of 46 (by decide +kernel) rfl), (tb_of 535 (by decide +kernel) rfl), by decide, by decide, by decide +kernel⟩
theorem okX10_best : MOV mX10_best 1 := ⟨(tb_of 579 (by decide +kernel) rfl), (tb_of 580 (by decide +kernel) rfl), (tb_of 46 (by decide +kernel) rfl), (tb_of 581 (by decide +kernel) rfl), by decide, by decide, by decide +kernel⟩
theorem okX10_many : MOV mX10_many 1 := ⟨(tb_of 607 (by decide +kernel) rfl), (tb_of 608 (by decide +kernel) rfl), (tb_of 46 (by decide +kernel) rfl), (tb_of 609 (by decide +kernel) rfl), by decide, by decide, by decide +kernel⟩
theorem okX10_take : MOV mX10_take 1 := ⟨(tb_of 615 (by decide +kernel) rfl), (tb_of 616 (by decide +kernel) rfl), (tb_of 46 (by decide +kernel) rfl), (tb_of 617 (by decide +kernel) rfl), by decide, by decide, by decide +kernel⟩
theorem okX10_floor : MOV mX10_floor 1 := ⟨(tb_of 623 (by decide +kernel) rfl), (tb_of 624 (by decide +kernel) rfl), (tb_of 46 (by decide +kernel) rfl), (tb_of 625 (by decide +kernel) rfl), by decide, by decide, by decide +kernel⟩
theorem okX10_settled : MOV mX10_settled 1 := ⟨(tb_of 648 (by decide +kernel) rfl), (tb_of 649 (by decide +kernel) rfl), (tb_of 46 (by decide +kernel) rfl), (tb_of 650 (by decide +kernel) rfl), by decide, by decide, by decide +kernel⟩
theorem okX10_climb : MOV mX10_climb 1 := ⟨(tb_of 678 (by decide +kernel) rfl), (tb_of 679 (by decide +kernel) rfl), (tb_of 46 (by decide +kernel) rfl), (tb_of 680 (by decide +kernel) rfl), by decide, by decide, by decide +kernel⟩
theorem okX10_move : MOV mX10_move 1 := ⟨(tb_of 686 (by decide +kernel) rfl), (tb_of 687 (by decide +kernel) rfl), (tb_of 46 (by decide +kernel) rfl), (tb_of 688 (by decide +kernel) rfl), by decide, by decide, by decide +kernel⟩
theorem okX10_step : MOV mX10_step 2 := ⟨(tb_of 714 (by decide +kernel) rfl), (tb_of 715 (by decide +kernel) rfl), (tb_of 46 (by decide +kernel) rfl), (tb_of 716 (by decide +kernel) rfl), by decide, by decide, by decide +kernel⟩
theorem okX10_plan : MOV mX10_plan 1 := ⟨(tb_of 729 (by decide +kernel) rfl), (tb_of 730 (by decide +kernel) rfl), (tb_of 46 (by decide +kernel) rfl), (tb_of 731 (by decide +kernel) rfl), by decide, by decide, by decide +kernel⟩
theorem okX10_planned : MOV mX10_planned 2 := ⟨(tb_of 778 (by decide +kernel) rfl), (tb_of 779 (by decide +kernel) rfl), (tb_of 46 (by decide +kernel) rfl), (tb_of 780 (by decide +kernel) rfl), by decide, by decide, by decide +kernel⟩
theorem okX10_count : MOV mX10_count 1 := ⟨(tb_of 786 (by decide +kernel) rfl), (tb_of 787 (by decide +kernel) rfl), (tb_of 46 (by decide +kernel) rfl), (tb_of 788 (by decide +kernel) rfl), by decide, by decide, by decide +kernel⟩
theorem okX10_cellAt : MOS mX10_cellAt 2 := ⟨(tb_of 349 (by decide +kernel) rfl), (tb_of 46 (by decide +kernel) rfl), (tb_of 350 (by decide +kernel) rfl), by decide, by decide, by decide +kernel⟩
theorem okX10_isYear : MOS mX10_isYear 1 := ⟨(tb_of 465 (by decide +kernel) rfl), (tb_of 46 (by decide +kernel) rfl), (tb_of 466 (by decide +kernel) rfl), by decide, by decide, by decide +kernel⟩
theorem okX11_in : MOS mX11_in 3 := ⟨(tb_of 899 (by decide +kernel) rfl), (tb_of 57 (by decide +kernel) rfl), (tb_of 900 (by decide +kernel) rfl), by decide, by decide, by decide +kernel⟩
theorem okX11_isCell : MOS mX11_isCell 2 := ⟨(tb_of 896 (by decide +kernel) rfl), (tb_of 57 (by decide +kernel) rfl), (tb_of 897 (by decide +kernel) rfl), by decide, by decide, by decide +kernel⟩
theorem okX11_isSlot : MOV mX11_isSlot 1 := ⟨(tb_of 915 (by decide +kernel) rfl), (tb_of 20 (by decide +kernel) rfl), (tb_of 57 (by decide +kernel) rfl), (tb_of 916 (by decide +kernel) rfl), by decide, by decide, by decide +kernel⟩
theorem okX11_isShop : MOV mX11_isShop 1 := ⟨(tb_of 949 (by decide +kernel) rfl), (tb_of 23 (by decide +kernel) rfl), (tb_of 57 (by decide +kernel) rfl), (tb_of 950 (by decide +kernel) rfl), by decide, by decide, by decide +kernel⟩
theorem okX11_isYear : MOS mX11_isYear 1 := ⟨(tb_of 945 (by decide +kernel) rfl), (tb_of 57 (by decide +kernel) rfl), (tb_of 946 (by decide +kernel) rfl), by decide, by decide, by decide +kernel⟩
theorem okX11_column : MOV mX11_column 3 := ⟨(tb_of 892 (by decide +kernel) rfl), (tb_of 893 (by decide +kernel) rfl), (tb_of 57 (by decide +kernel) rfl), (tb_of 894 (by decide +kernel) rfl), by decide, by decide, by decide +kernel⟩
theorem okX11_slot : MOV mX11_slot 2 := ⟨(tb_of 902 (by decide +kernel) rfl), (tb_of 903 (by decide +kernel) rfl), (tb_of 57 (by decide +kernel) rfl), (tb_of 904 (by decide +kernel) rfl), by decide, by decide, by decide +kernel⟩
theorem okX11_exit : MOV mX11_exit 3 := ⟨(tb_of 906 (by decide +kernel) rfl), (tb_of 907 (by decide +kernel) rfl), (tb_of 57 (by decide +kernel) rfl), (tb_of 908 (by decide +kernel) rfl), by decide, by decide, by decide +kernel⟩
theorem okX11_beside : MOS mX11_beside 2 := ⟨(tb_of 926 (by decide +kernel) rfl), (tb_of 57 (by decide +kernel) rfl), (tb_of 927 (by decide +kernel) rfl), by decide, by decide, by decide +kernel⟩
theorem okX11_walk : MOV mX11_walk 1 := ⟨(tb_of 923 (by decide +kernel) rfl), (tb_of 22 (by decide +kernel) rfl), (tb_of 57 (by decide +kernel) rfl), (tb_of 924 (by decide +kernel) rfl), by decide, by decide, by decide +kernel⟩
theorem okX11_layFloor : MOV mX11_layFloor 0 := ⟨(tb_of 919 (by decide +kernel) rfl), (tb_of 21 (by decide +kernel) rfl), (tb_of 57 (by decide +kernel) rfl), (tb_of 920 (by decide +kernel) rfl), by decide, by decide, by decide +kernel⟩
theorem okX11_far : MOV mX11_far 2 := ⟨(tb_of 910 (by decide +kernel) rfl), (tb_of 911 (by decide +kernel) rfl), (tb_of 57 (by decide +kernel) rfl), (tb_of 912 (by decide +kernel) rfl), by decide, by decide, by decide +kernel⟩
theorem okX11_out : MOV mX11_out 1 := ⟨(tb_of 929 (by decide +kernel) rfl), (tb_of 930 (by decide +kernel) rfl), (tb_of 57 (by decide +kernel) rfl), (tb_of 931 (by decide +kernel) rfl), by decide, by decide, by decide +kernel⟩
theorem okX11_bound : MOV mX11_bound 1 := ⟨(tb_of 933 (by decide +kernel) rfl), (tb_of 934 (by decide +kernel) rfl), (tb_of 57 (by decide +kernel) rfl), (tb_of 935 (by decide +kernel) rfl), by decide, by decide, by decide +kernel⟩
theorem okX11_shop : MOV mX11_shop 0 := ⟨(tb_of 937 (by decide +kernel) rfl), (tb_of 938 (by decide +kernel) rfl), (tb_of 57 (by decide +kernel) rfl), (tb_of 939 (by decide +kernel) rfl), by decide, by decide, by decide +kernel⟩
theorem okX11_load : MOV mX11_load 4 := ⟨(tb_of 941 (by decide +kernel) rfl), (tb_of 942 (by decide +kernel) rfl), (tb_of 57 (by decide +kernel) rfl), (tb_of 943 (by decide +kernel) rfl), by decide, by decide, by decide +kernel⟩
theorem okX11_weight : MOV mX11_weight 2 := ⟨(tb_of 952 (by decide +kernel) rfl), (tb_of 953 (by decide +kernel) rfl), (tb_of 57 (by decide +kernel) rfl), (tb_of 954 (by decide +kernel) rfl), by decide, by decide, by decide +kernel⟩
theorem okX11_wish : MOV mX11_wish 4 := ⟨(tb_of 956 (by decide +kernel) rfl), (tb_of 957 (by decide +kernel) rfl), (tb_of 57 (by decide +kernel) rfl), (tb_of 958 (by decide +kernel) rfl), by decide, by decide, by decide +kernel⟩
theorem okX11_unwish : MOV mX11_unwish 1 := ⟨(tb_of 960 (by decide +kernel) rfl), (tb_of 961 (by decide +kernel) rfl), (tb_of 57 (by decide +kernel) rfl), (tb_of 962 (by decide +kernel) rfl), by decide, by decide, by decide +kernel⟩
theorem okX11_allNumbers : MOV mX11_allNumbers 0 := ⟨(tb_of 973 (by decide +kernel) rfl), (tb_of 25 (by decide +kernel) rfl), (tb_of 57 (by decide +kernel) rfl), (tb_of 974 (by decide +kernel) rfl), by decide, by decide, by decide +kernel⟩
theorem okX11_layRow : MOV mX11_layRow 1 := ⟨(tb_of 1018 (by decide +kernel) rfl), (tb_of 33 (by decide +kernel) rfl), (tb_of 57 (by decide +kernel) rfl), (tb_of 1019 (by decide +kernel) rfl), by decide, by decide, by decide +kernel⟩
theorem okX11_numberOf : MOV mX11_numberOf 0 := ⟨(tb_of 1050 (by decide +kernel) rfl), (tb_of 37 (by decide +kernel) rfl), (tb_of 57 (by decide +kernel) rfl), (tb_of 1051 (by decide +kernel) rfl), by decide, by decide, by decide +kernel⟩
theorem okX11_takeNow : MOV mX11_takeNow 0 := ⟨(tb_of 985 (by decide +kernel) rfl), (tb_of 27 (by decide +kernel) rfl), (tb_of 57 (by decide +kernel) rfl), (tb_of 986 (by decide +kernel) rfl), by decide, by decide, by decide +kernel⟩
theorem okX11_becomeNow : MOV mX11_becomeNow 0 := ⟨(tb_of 977 (by decide +kernel) rfl), (tb_of 26 (by decide +kernel) rfl), (tb_of 57 (by decide +kernel) rfl), (tb_of 978 (by decide +kernel) rfl), by decide, by decide, by decide +kernel⟩
theorem okX11_layTold : MOV mX11_layTold 1 := ⟨(tb_of 969 (by decide +kernel) rfl), (tb_of 24 (by decide +kernel) rfl), (tb_of 57 (by decide +kernel) rfl), (tb_of 970 (by decide +kernel) rfl), by decide, by decide, by decide +kernel⟩
theorem okX11_toldOf : MOV mX11_toldOf 0 := ⟨(tb_of 989 (by decide +kernel) rfl), (tb_of 28 (by decide +kernel) rfl), (tb_of 57 (by decide +kernel) rfl), (tb_of 990 (by decide +kernel) rfl), by decide, by decide, by decide +kernel⟩
theorem okX11_put : MOV mX11_put 1 := ⟨(tb_of 964 (by decide +kernel) rfl), (tb_of 965 (by decide +kernel) rfl), (tb_of 57 (by decide +kernel) rfl), (tb_of 966 (by decide +kernel) rfl), by decide, by decide, by decide +kernel⟩
theorem okX11_places : MOV mX11_places 0 := ⟨(tb_of 980 (by decide +kernel) rfl), (tb_of 981 (by decide +kernel) rfl), (tb_of 57 (by decide +kernel) rfl), (tb_of 982 (by decide +kernel) rfl), by decide, by decide, by decide +kernel⟩
theorem okX11_farOf : MOV mX11_farOf 2 := ⟨(tb_of 1005 (by decide +kernel) rfl), (tb_of 31 (by decide +kernel) rfl), (tb_of 57 (by decide +kernel) rfl), (tb_of 1006 (by decide +kernel) rfl), by decide, by decide, by decide +kernel⟩
theorem okX11_meets : MOV mX11_meets 1 := ⟨(tb_of 1001 (by decide +kernel) rfl), (tb_of 30 (by decide +kernel) rfl), (tb_of 57 (by decide +kernel) rfl), (tb_of 1002 (by decide +kernel) rfl), by decide, by decide, by decide +kernel⟩
theorem okX11_costOf : MOV mX11_costOf 1 := ⟨(tb_of 997 (by decide +kernel) rfl), (tb_of 29 (by decide +kernel) rfl), (tb_of 57 (by decide +kernel) rfl), (tb_of 998 (by decide +kernel) rfl), by decide, by decide, by decide +kernel⟩
theorem okX11_cost : MOV mX11_cost 1 := ⟨(tb_of 992 (by decide +kernel) rfl), (tb_of 993 (by decide +kernel) rfl), (tb_of 57 (by decide +kernel) rfl), (tb_of 994 (by decide +kernel) rfl), by decide, by decide, by decide +kernel⟩
theorem okX11_bestOf : MOV mX11_bestOf 1 := ⟨(tb_of 1014 (by decide +kernel) rfl), (tb_of 32 (by decide +kernel) rfl), (tb_of 57 (by decide +kernel) rfl), (tb_of 1015 (by decide +kernel) rfl), by decide, by decide, by decide +kernel⟩
theorem okX11_best : MOV mX11_best 1 := ⟨(tb_of 1009 (by decide +kernel) rfl), (tb_of 1010 (by decide +kernel) rfl), (tb_of 57 (by decide +kernel) rfl), (tb_of 1011 (by decide +kernel) rfl), by decide, by decide, by decide +kernel⟩
theorem okX11_many : MOV mX11_many 1 := ⟨(tb_of 1021 (by decide +kernel) rfl), (tb_of 1022 (by decide +kernel) rfl), (tb_of 57 (by decide +kernel) rfl), (tb_of 1023 (by decide +kernel) rfl), by decide, by decide, by decide +kernel⟩
theorem okX11_take : MOV mX11_take 1 := ⟨(tb_of 1025 (by decide +kernel) rfl), (tb_of 1026 (by decide +kernel) rfl), (tb_of 57 (by decide +kernel) rfl), (tb_of 1027 (by decide +kernel) rfl), by decide, by decide, by decide +kernel⟩
theorem okX11_sortIn : MOV mX11_sortIn 2 := ⟨(tb_of 1034 (by decide +kernel) rfl), (tb_of 34 (by decide +kernel) rfl), (tb_of 57 (by decide +kernel) rfl), (tb_of 1035 (by decide +kernel) rfl), by decide, by decide, by decide +kernel⟩
theorem okX11_floor : MOV mX11_floor 1 := ⟨(tb_of 1029 (by decide +kernel) rfl), (tb_of 1030 (by decide +kernel) rfl), (tb_of 57 (by decide +kernel) rfl), (tb_of 1031 (by decide +kernel) rfl), by decide, by decide, by decide +kernel⟩
theorem okX11_look : MOV mX11_look 1 := ⟨(tb_of 1046 (by decide +kernel) rfl), (tb_of 36 (by decide +kernel) rfl), (tb_of 57 (by decide +kernel) rfl), (tb_of 1047 (by decide +kernel) rfl), by decide, by decide, by decide +kernel⟩
theorem okX11_findChange : MOV mX11_findChange 1 := ⟨(tb_of 1042 (by decide +kernel) rfl), (tb_of 35 (by decide +kernel) rfl), (tb_of 57 (by decide +kernel) rfl), (tb_of 1043 (by decide +kernel) rfl), by decide, by decide, by decide +kernel⟩
theorem okX11_settled : MOV mX11_settled 1 := ⟨(tb_of 1037 (by decide +kernel) rfl), (tb_of 1038 (by decide +kernel) rfl), (tb_of 57 (by decide +kernel) rfl), (tb_of 1039 (by decide +kernel) rfl), by decide, by decide, by decide +kernel⟩
theorem okX11_climb : MOV mX11_climb 1 := ⟨(tb_of 1053 (by decide +kernel) rfl), (tb_of 1054 (by decide +kernel) rfl), (tb_of 57 (by decide +kernel) rfl), (tb_of 1055 (by decide +kernel) rfl), by decide, by decide, by decide +kernel⟩
theorem okX11_stepTo : MOV mX11_stepTo 3 := ⟨(tb_of 1074 (by decide +kernel) rfl), (tb_of 41 (by decide +kernel) rfl), (tb_of 57 (by decide +kernel) rfl), (tb_of 1075 (by decide +kernel) rfl), by decide, by decide, by decide +kernel⟩
theorem okX11_withStep : MOV mX11_withStep 3 := ⟨(tb_of 1070 (by decide +kernel) rfl), (tb_of 40 (by decide +kernel) rfl), (tb_of 57 (by decide +kernel) rfl), (tb_of 1071 (by decide +kernel) rfl), by decide, by decide, by decide +kernel⟩
theorem okX11_leastStep : MOV mX11_leastStep 1 := ⟨(tb_of 1066 (by decide +kernel) rfl), (tb_of 39 (by decide +kernel) rfl), (tb_of 57 (by decide +kernel) rfl), (tb_of 1067 (by decide +kernel) rfl), by decide, by decide, by decide +kernel⟩
theorem okX11_layMoves : MOV mX11_layMoves 0 := ⟨(tb_of 1062 (by decide +kernel) rfl), (tb_of 38 (by decide +kernel) rfl), (tb_of 57 (by decide +kernel) rfl), (tb_of 1063 (by decide +kernel) rfl), by decide, by decide, by decide +kernel⟩
theorem okX11_move : MOV mX11_move 1 := ⟨(tb_of 1057 (by decide +kernel) rfl), (tb_of 1058 (by decide +kernel) rfl), (tb_of 57 (by decide +kernel) rfl), (tb_of 1059 (by decide +kernel) rfl), by decide, by decide, by decide +kernel⟩
theorem okX11_step : MOV mX11_step 2 := ⟨(tb_of 1077 (by decide +kernel) rfl), (tb_of 1078 (by decide +kernel) rfl), (tb_of 57 (by decide +kernel) rfl), (tb_of 1079 (by decide +kernel) rfl), by decide, by decide, by decide +kernel⟩
theorem okX11_changed : MOV mX11_changed 2 := ⟨(tb_of 1093 (by decide +kernel) rfl), (tb_of 43 (by decide +kernel) rfl), (tb_of 57 (by decide +kernel) rfl), (tb_of 1094 (by decide +kernel) rfl), by decide, by decide, by decide +kernel⟩
theorem okX11_layPlans : MOV mX11_layPlans 1 := ⟨(tb_of 1089 (by decide +kernel) rfl), (tb_of 42 (by decide +kernel) rfl), (tb_of 57 (by decide +kernel) rfl), (tb_of 1090 (by decide +kernel) rfl), by decide, by decide, by decide +kernel⟩
theorem okX11_firstOf : MOV mX11_firstOf 2 := ⟨(tb_of 1097 (by decide +kernel) rfl), (tb_of 44 (by decide +kernel) rfl), (tb_of 57 (by decide +kernel) rfl), (tb_of 1098 (by decide +kernel) rfl), by decide, by decide, by decide +kernel⟩
theorem okX11_isSpan : MOS mX11_isSpan 1 := ⟨(tb_of 1085 (by decide +kernel) rfl), (tb_of 57 (by decide +kernel) rfl), (tb_of 1086 (by decide +kernel) rfl), by decide, by decide, by decide +kernel⟩
theorem okX11_plan : MOV mX11_plan 1 := ⟨(tb_of 1081 (by decide +kernel) rfl), (tb_of 1082 (by decide +kernel) rfl), (tb_of 57 (by decide +kernel) rfl), (tb_of 1083 (by decide +kernel) rfl), by decide, by decide, by decide +kernel⟩
theorem okX11_planned : MOV mX11_planned 2 := ⟨(tb_of 1100 (by decide +kernel) rfl), (tb_of 1101 (by decide +kernel) rfl), (tb_of 57 (by decide +kernel) rfl), (tb_of 1102 (by decide +kernel) rfl), by decide, by decide, by decide +kernel⟩
theorem okX11_count : MOV mX11_count 1 := ⟨(tb_of 1104 (by decide +kernel) rfl), (tb_of 1105 (by decide +kernel) rfl), (tb_of 57 (by decide +kernel) rfl), (tb_of 1106 (by decide +kernel) rfl), by decide, by decide, by decide +kernel⟩
theorem flX10_12 : FL RX10 12 10 0 := ⟨RX10, TX10, 10, rfl, by decide, rfl, tb_of 313 (by decide +kernel) rfl, uw_X10⟩
theorem flX10_19 : FL RX10 19 10 1 := ⟨RX10, TX10, 10, rfl, by decide, rfl, tb_of 314 (by decide +kernel) rfl, uw_X10⟩
theorem flX10_28 : FL RX10 28 10 2 := ⟨RX10, TX10, 10, rfl, by decide, rfl, tb_of 315 (by decide +kernel) rfl, uw_X10⟩
theorem flX10_35 : FL RX10 35 10 3 := ⟨RX10, TX10, 10, rfl, by decide, rfl, tb_of 316 (by decide +kernel) rfl, uw_X10⟩
theorem flX10_44 : FL RX10 44 10 4 := ⟨RX10, TX10, 10, rfl, by decide, rfl, tb_of 317 (by decide +kernel) rfl, uw_X10⟩
theorem flX10_53 : FL RX10 53 10 5 := ⟨RX10, TX10, 10, rfl, by decide, rfl, tb_of 318 (by decide +kernel) rfl, uw_X10⟩
theorem flX10_60 : FL RX10 60 10 6 := ⟨RX10, TX10, 10, rfl, by decide, rfl, tb_of 319 (by decide +kernel) rfl, uw_X10⟩
theorem flX10_67 : FL RX10 67 10 7 := ⟨RX10, TX10, 10, rfl, by decide, rfl, tb_of 320 (by decide +kernel) rfl, uw_X10⟩
theorem flX10_74 : FL RX10 74 10 8 := ⟨RX10, TX10, 10, rfl, by decide, rfl, tb_of 321 (by decide +kernel) rfl, uw_X10⟩
theorem flX10_78 : FL RX10 78 10 9 := ⟨RX10, TX10, 10, rfl, by decide, rfl, tb_of 322 (by decide +kernel) rfl, uw_X10⟩
theorem flX0_12 : FL RX0 12 0 3 := ⟨RX0, TX0, 7, rfl, by decide, rfl, tb_of 203 (by decide +kernel) rfl, uw_X0⟩
theorem flX0_18 : FL RX0 18 0 4 := ⟨RX0, TX0, 7, rfl, by decide, rfl, tb_of 204 (by decide +kernel) rfl, uw_X0⟩
theorem flX0_21 : FL RX0 21 0 5 := ⟨RX0, TX0, 7, rfl, by decide, rfl, tb_of 205 (by decide +kernel) rfl, uw_X0⟩
theorem fpX0_21 : FP RX0 21 0 5 .int := ⟨RX0, TX0, 7, tyX0, rfl, by decide, rfl, tb_of 205 (by decide +kernel) rfl, uw_X0, tyX0_ok, nmX0, rfl, rfl⟩
theorem flX0_25 : FL RX0 25 0 6 := ⟨RX0, TX0, 7, rfl, by decide, rfl, tb_of 206 (by decide +kernel) rfl, uw_X0⟩
theorem fpX0_25 : FP RX0 25 0 6 .int := ⟨RX0, TX0, 7, tyX0, rfl, by decide, rfl, tb_of 206 (by decide +kernel) rfl, uw_X0, tyX0_ok, nmX0, rfl, rfl⟩
theorem flX0_28 : FL RX0 28 0 0 := ⟨RX0, TX0, 7, rfl, by decide, rfl, tb_of 200 (by decide +kernel) rfl, uw_X0⟩
theorem flX0_32 : FL RX0 32 0 1 := ⟨RX0, TX0, 7, rfl, by decide, rfl, tb_of 201 (by decide +kernel) rfl, uw_X0⟩
theorem flX0_36 : FL RX0 36 0 2 := ⟨RX0, TX0, 7, rfl, by decide, rfl, tb_of 202 (by decide +kernel) rfl, uw_X0⟩
theorem flX1_12 : FL RX1 12 1 2 := ⟨RX1, TX1, 6, rfl, by decide, rfl, tb_of 232 (by decide +kernel) rfl, uw_X1⟩
theorem flX1_18 : FL RX1 18 1 3 := ⟨RX1, TX1, 6, rfl, by decide, rfl, tb_of 233 (by decide +kernel) rfl, uw_X1⟩
theorem flX1_21 : FL RX1 21 1 4 := ⟨RX1, TX1, 6, rfl, by decide, rfl, tb_of 234 (by decide +kernel) rfl, uw_X1⟩
theorem fpX1_21 : FP RX1 21 1 4 .int := ⟨RX1, TX1, 6, tyX1, rfl, by decide, rfl, tb_of 234 (by decide +kernel) rfl, uw_X1, tyX1_ok, nmX1, rfl, rfl⟩
theorem flX1_25 : FL RX1 25 1 5 := ⟨RX1, TX1, 6, rfl, by decide, rfl, tb_of 235 (by decide +kernel) rfl, uw_X1⟩
theorem fpX1_25 : FP RX1 25 1 5 .boolean := ⟨RX1, TX1, 6, tyX1, rfl, by decide, rfl, tb_of 235 (by decide +kernel) rfl, uw_X1, tyX1_ok, nmX1, rfl, rfl⟩
theorem flX1_29 : FL RX1 29 1 0 := ⟨RX1, TX1, 6, rfl, by decide, rfl, tb_of 230 (by decide +kernel) rfl, uw_X1⟩
theorem flX1_33 : FL RX1 33 1 1 := ⟨RX1, TX1, 6, rfl, by decide, rfl, tb_of 231 (by decide +kernel) rfl, uw_X1⟩
theorem flX2_14 : FL RX2 14 2 0 := ⟨RX2, TX2, 9, rfl, by decide, rfl, tb_of 84 (by decide +kernel) rfl, uw_X2⟩
theorem flX2_20 : FL RX2 20 2 1 := ⟨RX2, TX2, 9, rfl, by decide, rfl, tb_of 85 (by decide +kernel) rfl, uw_X2⟩
theorem flX2_23 : FL RX2 23 2 2 := ⟨RX2, TX2, 9, rfl, by decide, rfl, tb_of 86 (by decide +kernel) rfl, uw_X2⟩
theorem flX2_26 : FL RX2 26 2 3 := ⟨RX2, TX2, 9, rfl, by decide, rfl, tb_of 87 (by decide +kernel) rfl, uw_X2⟩
theorem flX2_29 : FL RX2 29 2 4 := ⟨RX2, TX2, 9, rfl, by decide, rfl, tb_of 88 (by decide +kernel) rfl, uw_X2⟩
theorem flX2_32 : FL RX2 32 2 5 := ⟨RX2, TX2, 9, rfl, by decide, rfl, tb_of 89 (by decide +kernel) rfl, uw_X2⟩
theorem flX2_35 : FL RX2 35 2 6 := ⟨RX2, TX2, 9, rfl, by decide, rfl, tb_of 90 (by decide +kernel) rfl, uw_X2⟩
theorem fpX2_35 : FP RX2 35 2 6 .int := ⟨RX2, TX2, 9, tyX2, rfl, by decide, rfl, tb_of 90 (by decide +kernel) rfl, uw_X2, tyX2_ok, nmX2, rfl, rfl⟩
theorem flX2_39 : FL RX2 39 2 7 := ⟨RX2, TX2, 9, rfl, by decide, rfl, tb_of 91 (by decide +kernel) rfl, uw_X2⟩
theorem fpX2_39 : FP RX2 39 2 7 .int := ⟨RX2, TX2, 9, tyX2, rfl, by decide, rfl, tb_of 91 (by decide +kernel) rfl, uw_X2, tyX2_ok, nmX2, rfl, rfl⟩
theorem flX2_42 : FL RX2 42 2 8 := ⟨RX2, TX2, 9, rfl, by decide, rfl, tb_of 92 (by decide +kernel) rfl, uw_X2⟩
theorem fpX2_42 : FP RX2 42 2 8 .int := ⟨RX2, TX2, 9, tyX2, rfl, by decide, rfl, tb_of 92 (by decide +kernel) rfl, uw_X2, tyX2_ok, nmX2, rfl, rfl⟩
theorem flX3_9 : FL RX3 9 3 0 := ⟨RX3, TX3, 2, rfl, by decide, rfl, tb_of 151 (by decide +kernel) rfl, uw_X3⟩
theorem flX3_15 : FL RX3 15 3 1 := ⟨RX3, TX3, 2, rfl, by decide, rfl, tb_of 152 (by decide +kernel) rfl, uw_X3⟩
theorem flX4_14 : FL RX4 14 4 2 := ⟨RX4, TX4, 4, rfl, by decide, rfl, tb_of 168 (by decide +kernel) rfl, uw_X4⟩
theorem flX4_20 : FL RX4 20 4 3 := ⟨RX4, TX4, 4, rfl, by decide, rfl, tb_of 169 (by decide +kernel) rfl, uw_X4⟩
theorem flX4_23 : FL RX4 23 4 0 := ⟨RX4, TX4, 4, rfl, by decide, rfl, tb_of 166 (by decide +kernel) rfl, uw_X4⟩
theorem flX4_27 : FL RX4 27 4 1 := ⟨RX4, TX4, 4, rfl, by decide, rfl, tb_of 167 (by decide +kernel) rfl, uw_X4⟩
theorem flX5_12 : FL RX5 12 5 2 := ⟨RX5, TX5, 3, rfl, by decide, rfl, tb_of 259 (by decide +kernel) rfl, uw_X5⟩
theorem flX5_18 : FL RX5 18 5 0 := ⟨RX5, TX5, 3, rfl, by decide, rfl, tb_of 257 (by decide +kernel) rfl, uw_X5⟩
theorem flX5_22 : FL RX5 22 5 1 := ⟨RX5, TX5, 3, rfl, by decide, rfl, tb_of 258 (by decide +kernel) rfl, uw_X5⟩
theorem flX6_12 : FL RX6 12 6 3 := ⟨RX6, TX6, 11, rfl, by decide, rfl, tb_of 280 (by decide +kernel) rfl, uw_X6⟩
theorem flX6_18 : FL RX6 18 6 4 := ⟨RX6, TX6, 11, rfl, by decide, rfl, tb_of 281 (by decide +kernel) rfl, uw_X6⟩
theorem flX6_21 : FL RX6 21 6 5 := ⟨RX6, TX6, 11, rfl, by decide, rfl, tb_of 282 (by decide +kernel) rfl, uw_X6⟩
theorem flX6_29 : FL RX6 29 6 6 := ⟨RX6, TX6, 11, rfl, by decide, rfl, tb_of 283 (by decide +kernel) rfl, uw_X6⟩
theorem flX6_33 : FL RX6 33 6 7 := ⟨RX6, TX6, 11, rfl, by decide, rfl, tb_of 284 (by decide +kernel) rfl, uw_X6⟩
theorem flX6_36 : FL RX6 36 6 8 := ⟨RX6, TX6, 11, rfl, by decide, rfl, tb_of 285 (by decide +kernel) rfl, uw_X6⟩
theorem flX6_39 : FL RX6 39 6 9 := ⟨RX6, TX6, 11, rfl, by decide, rfl, tb_of 286 (by decide +kernel) rfl, uw_X6⟩
theorem fpX6_39 : FP RX6 39 6 9 .int := ⟨RX6, TX6, 11, tyX6, rfl, by decide, rfl, tb_of 286 (by decide +kernel) rfl, uw_X6, tyX6_ok, nmX6, rfl, rfl⟩
theorem flX6_43 : FL RX6 43 6 10 := ⟨RX6, TX6, 11, rfl, by decide, rfl, tb_of 287 (by decide +kernel) rfl, uw_X6⟩
theorem fpX6_43 : FP RX6 43 6 10 .int := ⟨RX6, TX6, 11, tyX6, rfl, by decide, rfl, tb_of 287 (by decide +kernel) rfl, uw_X6, tyX6_ok, nmX6, rfl, rfl⟩
theorem flX6_46 : FL RX6 46 6 0 := ⟨RX6, TX6, 11, rfl, by decide, rfl, tb_of 277 (by decide +kernel) rfl, uw_X6⟩
theorem flX6_50 : FL RX6 50 6 1 := ⟨RX6, TX6, 11, rfl, by decide, rfl, tb_of 278 (by decide +kernel) rfl, uw_X6⟩
theorem flX6_54 : FL RX6 54 6 2 := ⟨RX6, TX6, 11, rfl, by decide, rfl, tb_of 279 (by decide +kernel) rfl, uw_X6⟩
theorem flX7_7 : FL RX7 7 7 0 := ⟨RX7, TX7, 1, rfl, by decide, rfl, tb_of 79 (by decide +kernel) rfl, uw_X7⟩
theorem flX8_14 : FL RX8 14 8 0 := ⟨RX8, TX8, 2, rfl, by decide, rfl, tb_of 193 (by decide +kernel) rfl, uw_X8⟩
theorem flX8_20 : FL RX8 20 8 1 := ⟨RX8, TX8, 2, rfl, by decide, rfl, tb_of 194 (by decide +kernel) rfl, uw_X8⟩
theorem fpX8_20 : FP RX8 20 8 1 .int := ⟨RX8, TX8, 2, tyX8, rfl, by decide, rfl, tb_of 194 (by decide +kernel) rfl, uw_X8, tyX8_ok, nmX8, rfl, rfl⟩
theorem flX9_14 : FL RX9 14 9 0 := ⟨RX9, TX9, 8, rfl, by decide, rfl, tb_of 120 (by decide +kernel) rfl, uw_X9⟩
theorem flX9_20 : FL RX9 20 9 1 := ⟨RX9, TX9, 8, rfl, by decide, rfl, tb_of 121 (by decide +kernel) rfl, uw_X9⟩
theorem flX9_23 : FL RX9 23 9 2 := ⟨RX9, TX9, 8, rfl, by decide, rfl, tb_of 122 (by decide +kernel) rfl, uw_X9⟩
theorem flX9_26 : FL RX9 26 9 3 := ⟨RX9, TX9, 8, rfl, by decide, rfl, tb_of 123 (by decide +kernel) rfl, uw_X9⟩
theorem flX9_29 : FL RX9 29 9 4 := ⟨RX9, TX9, 8, rfl, by decide, rfl, tb_of 124 (by decide +kernel) rfl, uw_X9⟩
theorem flX9_32 : FL RX9 32 9 5 := ⟨RX9, TX9, 8, rfl, by decide, rfl, tb_of 125 (by decide +kernel) rfl, uw_X9⟩
theorem flX9_35 : FL RX9 35 9 6 := ⟨RX9, TX9, 8, rfl, by decide, rfl, tb_of 126 (by decide +kernel) rfl, uw_X9⟩
theorem fpX9_35 : FP RX9 35 9 6 .int := ⟨RX9, TX9, 8, tyX9, rfl, by decide, rfl, tb_of 126 (by decide +kernel) rfl, uw_X9, tyX9_ok, nmX9, rfl, rfl⟩
theorem flX9_39 : FL RX9 39 9 7 := ⟨RX9, TX9, 8, rfl, by decide, rfl, tb_of 127 (by decide +kernel) rfl, uw_X9⟩
theorem fpX9_39 : FP RX9 39 9 7 .int := ⟨RX9, TX9, 8, tyX9, rfl, by decide, rfl, tb_of 127 (by decide +kernel) rfl, uw_X9, tyX9_ok, nmX9, rfl, rfl⟩
theorem flX11_7 : FL RX11 7 11 0 := ⟨RX11, TX11, 30, rfl, by decide, rfl, tb_of 799 (by decide +kernel) rfl, uw_X11⟩
theorem flX11_13 : FL RX11 13 11 1 := ⟨RX11, TX11, 30, rfl, by decide, rfl, tb_of 800 (by decide +kernel) rfl, uw_X11⟩
theorem flX11_17 : FL RX11 17 11 3 := ⟨RX11, TX11, 30, rfl, by decide, rfl, tb_of 802 (by decide +kernel) rfl, uw_X11⟩
theorem flX11_20 : FL RX11 20 11 4 := ⟨RX11, TX11, 30, rfl, by decide, rfl, tb_of 803 (by decide +kernel) rfl, uw_X11⟩
theorem fpX11_20 : FP RX11 20 11 4 .int := ⟨RX11, TX11, 30, tyX11, rfl, by decide, rfl, tb_of 803 (by decide +kernel) rfl, uw_X11, tyX11_ok, nmX11, rfl, rfl⟩
theorem flX11_24 : FL RX11 24 11 6 := ⟨RX11, TX11, 30, rfl, by decide, rfl, tb_of 805 (by decide +kernel) rfl, uw_X11⟩
theorem flX11_27 : FL RX11 27 11 7 := ⟨RX11, TX11, 30, rfl, by decide, rfl, tb_of 806 (by decide +kernel) rfl, uw_X11⟩
theorem flX11_30 : FL RX11 30 11 8 := ⟨RX11, TX11, 30, rfl, by decide, rfl, tb_of 807 (by decide +kernel) rfl, uw_X11⟩
theorem flX11_33 : FL RX11 33 11 10 := ⟨RX11, TX11, 30, rfl, by decide, rfl, tb_of 809 (by decide +kernel) rfl, uw_X11⟩
theorem flX11_36 : FL RX11 36 11 11 := ⟨RX11, TX11, 30, rfl, by decide, rfl, tb_of 810 (by decide +kernel) rfl, uw_X11⟩
theorem flX11_39 : FL RX11 39 11 12 := ⟨RX11, TX11, 30, rfl, by decide, rfl, tb_of 811 (by decide +kernel) rfl, uw_X11⟩
theorem flX11_42 : FL RX11 42 11 13 := ⟨RX11, TX11, 30, rfl, by decide, rfl, tb_of 812 (by decide +kernel) rfl, uw_X11⟩
theorem flX11_45 : FL RX11 45 11 14 := ⟨RX11, TX11, 30, rfl, by decide, rfl, tb_of 813 (by decide +kernel) rfl, uw_X11⟩
theorem flX11_48 : FL RX11 48 11 15 := ⟨RX11, TX11, 30, rfl, by decide, rfl, tb_of 814 (by decide +kernel) rfl, uw_X11⟩
theorem flX11_51 : FL RX11 51 11 16 := ⟨RX11, TX11, 30, rfl, by decide, rfl, tb_of 815 (by decide +kernel) rfl, uw_X11⟩
theorem flX11_54 : FL RX11 54 11 17 := ⟨RX11, TX11, 30, rfl, by decide, rfl, tb_of 816 (by decide +kernel) rfl, uw_X11⟩
theorem flX11_57 : FL RX11 57 11 18 := ⟨RX11, TX11, 30, rfl, by decide, rfl, tb_of 817 (by decide +kernel) rfl, uw_X11⟩
theorem flX11_60 : FL RX11 60 11 21 := ⟨RX11, TX11, 30, rfl, by decide, rfl, tb_of 820 (by decide +kernel) rfl, uw_X11⟩
theorem flX11_63 : FL RX11 63 11 22 := ⟨RX11, TX11, 30, rfl, by decide, rfl, tb_of 821 (by decide +kernel) rfl, uw_X11⟩
theorem flX11_66 : FL RX11 66 11 25 := ⟨RX11, TX11, 30, rfl, by decide, rfl, tb_of 824 (by decide +kernel) rfl, uw_X11⟩
theorem flX11_69 : FL RX11 69 11 27 := ⟨RX11, TX11, 30, rfl, by decide, rfl, tb_of 826 (by decide +kernel) rfl, uw_X11⟩
theorem flX11_72 : FL RX11 72 11 28 := ⟨RX11, TX11, 30, rfl, by decide, rfl, tb_of 827 (by decide +kernel) rfl, uw_X11⟩
theorem flX11_75 : FL RX11 75 11 29 := ⟨RX11, TX11, 30, rfl, by decide, rfl, tb_of 828 (by decide +kernel) rfl, uw_X11⟩
theorem flX11_82 : FL RX11 82 11 2 := ⟨RX11, TX11, 30, rfl, by decide, rfl, tb_of 801 (by decide +kernel) rfl, uw_X11⟩
theorem fpX11_82 : FP RX11 82 11 2 .int := ⟨RX11, TX11, 30, tyX11, rfl, by decide, rfl, tb_of 801 (by decide +kernel) rfl, uw_X11, tyX11_ok, nmX11, rfl, rfl⟩
theorem flX11_85 : FL RX11 85 11 5 := ⟨RX11, TX11, 30, rfl, by decide, rfl, tb_of 804 (by decide +kernel) rfl, uw_X11⟩
theorem fpX11_85 : FP RX11 85 11 5 .int := ⟨RX11, TX11, 30, tyX11, rfl, by decide, rfl, tb_of 804 (by decide +kernel) rfl, uw_X11, tyX11_ok, nmX11, rfl, rfl⟩
theorem flX11_113 : FL RX11 113 11 9 := ⟨RX11, TX11, 30, rfl, by decide, rfl, tb_of 808 (by decide +kernel) rfl, uw_X11⟩
theorem fpX11_113 : FP RX11 113 11 9 .int := ⟨RX11, TX11, 30, tyX11, rfl, by decide, rfl, tb_of 808 (by decide +kernel) rfl, uw_X11, tyX11_ok, nmX11, rfl, rfl⟩
theorem flX11_143 : FL RX11 143 11 19 := ⟨RX11, TX11, 30, rfl, by decide, rfl, tb_of 818 (by decide +kernel) rfl, uw_X11⟩
theorem fpX11_143 : FP RX11 143 11 19 .int := ⟨RX11, TX11, 30, tyX11, rfl, by decide, rfl, tb_of 818 (by decide +kernel) rfl, uw_X11, tyX11_ok, nmX11, rfl, rfl⟩
theorem flX11_146 : FL RX11 146 11 20 := ⟨RX11, TX11, 30, rfl, by decide, rfl, tb_of 819 (by decide +kernel) rfl, uw_X11⟩
theorem fpX11_146 : FP RX11 146 11 20 .int := ⟨RX11, TX11, 30, tyX11, rfl, by decide, rfl, tb_of 819 (by decide +kernel) rfl, uw_X11, tyX11_ok, nmX11, rfl, rfl⟩
theorem flX11_162 : FL RX11 162 11 23 := ⟨RX11, TX11, 30, rfl, by decide, rfl, tb_of 822 (by decide +kernel) rfl, uw_X11⟩
theorem fpX11_162 : FP RX11 162 11 23 .int := ⟨RX11, TX11, 30, tyX11, rfl, by decide, rfl, tb_of 822 (by decide +kernel) rfl, uw_X11, tyX11_ok, nmX11, rfl, rfl⟩
theorem flX11_165 : FL RX11 165 11 24 := ⟨RX11, TX11, 30, rfl, by decide, rfl, tb_of 823 (by decide +kernel) rfl, uw_X11⟩
theorem fpX11_165 : FP RX11 165 11 24 .int := ⟨RX11, TX11, 30, tyX11, rfl, by decide, rfl, tb_of 823 (by decide +kernel) rfl, uw_X11, tyX11_ok, nmX11, rfl, rfl⟩
theorem flX11_187 : FL RX11 187 11 26 := ⟨RX11, TX11, 30, rfl, by decide, rfl, tb_of 825 (by decide +kernel) rfl, uw_X11⟩
theorem fpX11_187 : FP RX11 187 11 26 .int := ⟨RX11, TX11, 30, tyX11, rfl, by decide, rfl, tb_of 825 (by decide +kernel) rfl, uw_X11, tyX11_ok, nmX11, rfl, rfl⟩
theorem mlX10_81 : Cond.methodLink RX10 81 yX10_cellAt ∈ TB := tb_of 348 (by decide +kernel) rfl
theorem mlX10_85 : Cond.methodLink RX10 85 yX2_kindOf ∈ TB := tb_of 351 (by decide +kernel) rfl
theorem mlX10_89 : Cond.methodLink RX10 89 yX2_become ∈ TB := tb_of 359 (by decide +kernel) rfl
theorem mlX10_93 : Cond.methodLink RX10 93 yX6_forget ∈ TB := tb_of 384 (by decide +kernel) rfl
theorem mlX10_96 : Cond.methodLink RX10 96 yX2_slots ∈ TB := tb_of 392 (by decide +kernel) rfl
theorem mlX10_100 : Cond.methodLink RX10 100 yX2_addSlot ∈ TB := tb_of 396 (by decide +kernel) rfl
theorem mlX10_103 : Cond.methodLink RX10 103 yX2_hasSlot ∈ TB := tb_of 409 (by decide +kernel) rfl
theorem mlX10_107 : Cond.methodLink RX10 107 yX2_wayBetween ∈ TB := tb_of 413 (by decide +kernel) rfl
theorem mlX10_110 : Cond.methodLink RX10 110 yX2_wayOut ∈ TB := tb_of 421 (by decide +kernel) rfl
theorem mlX10_113 : Cond.methodLink RX10 113 yX2_changeBound ∈ TB := tb_of 429 (by decide +kernel) rfl
theorem mlX10_116 : Cond.methodLink RX10 116 yX9_shops ∈ TB := tb_of 437 (by decide +kernel) rfl
theorem mlX10_119 : Cond.methodLink RX10 119 yX8_addShop ∈ TB := tb_of 441 (by decide +kernel) rfl
theorem mlX10_123 : Cond.methodLink RX10 123 yX9_addShop ∈ TB := tb_of 455 (by decide +kernel) rfl
theorem mlX10_125 : Cond.methodLink RX10 125 yX10_isYear ∈ TB := tb_of 464 (by decide +kernel) rfl
theorem mlX10_128 : Cond.methodLink RX10 128 yX9_areTwo ∈ TB := tb_of 467 (by decide +kernel) rfl
theorem mlX10_132 : Cond.methodLink RX10 132 yX9_changeLoad ∈ TB := tb_of 475 (by decide +kernel) rfl
theorem mlX10_136 : Cond.methodLink RX10 136 yX9_hasShop ∈ TB := tb_of 487 (by decide +kernel) rfl
theorem mlX10_139 : Cond.methodLink RX10 139 yX9_changeWeight ∈ TB := tb_of 488 (by decide +kernel) rfl
theorem mlX10_142 : Cond.methodLink RX10 142 yX9_wishes ∈ TB := tb_of 496 (by decide +kernel) rfl
theorem mlX10_145 : Cond.methodLink RX10 145 yX9_addWish ∈ TB := tb_of 500 (by decide +kernel) rfl
theorem mlX10_149 : Cond.methodLink RX10 149 yX9_dropWish ∈ TB := tb_of 508 (by decide +kernel) rfl
theorem mlX10_152 : Cond.methodLink RX10 152 yX8_read ∈ TB := tb_of 516 (by decide +kernel) rfl
theorem mlX10_156 : Cond.methodLink RX10 156 yX8_copy ∈ TB := tb_of 520 (by decide +kernel) rfl
theorem mlX10_160 : Cond.methodLink RX10 160 yX8_told ∈ TB := tb_of 528 (by decide +kernel) rfl
theorem mlX10_163 : Cond.methodLink RX10 163 yX3_costOf ∈ TB := tb_of 536 (by decide +kernel) rfl
theorem mlX10_167 : Cond.methodLink RX10 167 yX0_search ∈ TB := tb_of 582 (by decide +kernel) rfl
theorem mlX10_170 : Cond.methodLink RX10 170 yX0_least ∈ TB := tb_of 602 (by decide +kernel) rfl
theorem mlX10_173 : Cond.methodLink RX10 173 yX0_howMany ∈ TB := tb_of 610 (by decide +kernel) rfl
theorem mlX10_176 : Cond.methodLink RX10 176 yX0_first ∈ TB := tb_of 618 (by decide +kernel) rfl
theorem mlX10_180 : Cond.methodLink RX10 180 yX4_of ∈ TB := tb_of 626 (by decide +kernel) rfl
theorem mlX10_183 : Cond.methodLink RX10 183 yX1_search ∈ TB := tb_of 651 (by decide +kernel) rfl
theorem mlX10_186 : Cond.methodLink RX10 186 yX1_found ∈ TB := tb_of 681 (by decide +kernel) rfl
theorem mlX10_189 : Cond.methodLink RX10 189 yX5_least ∈ TB := tb_of 689 (by decide +kernel) rfl
theorem mlX10_192 : Cond.methodLink RX10 192 yX5_walk ∈ TB := tb_of 717 (by decide +kernel) rfl
theorem mlX10_196 : Cond.methodLink RX10 196 yX6_makePlan ∈ TB := tb_of 732 (by decide +kernel) rfl
theorem mlX10_199 : Cond.methodLink RX10 199 yX6_price ∈ TB := tb_of 773 (by decide +kernel) rfl
theorem mlX10_202 : Cond.methodLink RX10 202 yX6_toldOf ∈ TB := tb_of 781 (by decide +kernel) rfl
theorem mlX10_205 : Cond.methodLink RX10 205 yX2_cellsOf ∈ TB := tb_of 789 (by decide +kernel) rfl
theorem mlX0_40 : Cond.methodLink RX0 40 yX9_shops ∈ TB := tb_of 586 (by decide +kernel) rfl
theorem mlX0_46 : Cond.methodLink RX0 46 yX2_slots ∈ TB := tb_of 587 (by decide +kernel) rfl
theorem mlX0_51 : Cond.methodLink RX0 51 yX8_begin ∈ TB := tb_of 588 (by decide +kernel) rfl
theorem mlX0_55 : Cond.methodLink RX0 55 yX3_costOf ∈ TB := tb_of 592 (by decide +kernel) rfl
theorem mlX0_61 : Cond.methodLink RX0 61 yX0_compare ∈ TB := tb_of 593 (by decide +kernel) rfl
theorem mlX0_65 : Cond.methodLink RX0 65 yX8_goOn ∈ TB := tb_of 598 (by decide +kernel) rfl
theorem mlX0_69 : Cond.methodLink RX0 69 yX8_copy ∈ TB := tb_of 597 (by decide +kernel) rfl
theorem mlX1_37 : Cond.methodLink RX1 37 yX8_copy ∈ TB := tb_of 655 (by decide +kernel) rfl
theorem mlX1_41 : Cond.methodLink RX1 41 yX3_costOf ∈ TB := tb_of 656 (by decide +kernel) rfl
theorem mlX1_47 : Cond.methodLink RX1 47 yX8_shops ∈ TB := tb_of 657 (by decide +kernel) rfl
theorem mlX1_51 : Cond.methodLink RX1 51 yX2_slots ∈ TB := tb_of 658 (by decide +kernel) rfl
theorem mlX1_56 : Cond.methodLink RX1 56 yX1_tryChange ∈ TB := tb_of 659 (by decide +kernel) rfl
theorem mlX1_60 : Cond.methodLink RX1 60 yX8_at ∈ TB := tb_of 663 (by decide +kernel) rfl
theorem mlX1_64 : Cond.methodLink RX1 64 yX8_whoIsAt ∈ TB := tb_of 664 (by decide +kernel) rfl
theorem mlX1_68 : Cond.methodLink RX1 68 yX8_seat ∈ TB := tb_of 665 (by decide +kernel) rfl
theorem mlX1_72 : Cond.methodLink RX1 72 yX1_compare ∈ TB := tb_of 669 (by decide +kernel) rfl
theorem mlX1_76 : Cond.methodLink RX1 76 yX8_comesBefore ∈ TB := tb_of 673 (by decide +kernel) rfl
theorem mlX2_45 : Cond.methodLink RX2 45 yX7_get ∈ TB := tb_of 355 (by decide +kernel) rfl
theorem mlX2_49 : Cond.methodLink RX2 49 yX7_set ∈ TB := tb_of 363 (by decide +kernel) rfl
theorem mlX2_53 : Cond.methodLink RX2 53 yX2_measure ∈ TB := tb_of 367 (by decide +kernel) rfl
theorem mlX2_56 : Cond.methodLink RX2 56 yX2_become ∈ TB := tb_of 400 (by decide +kernel) rfl
theorem mlX2_59 : Cond.methodLink RX2 59 yX2_flood ∈ TB := tb_of 371 (by decide +kernel) rfl
theorem mlX2_62 : Cond.methodLink RX2 62 yX2_nearestExit ∈ TB := tb_of 380 (by decide +kernel) rfl
theorem mlX2_70 : Cond.methodLink RX2 70 yX2_reach ∈ TB := tb_of 376 (by decide +kernel) rfl
theorem mlX3_19 : Cond.methodLink RX3 19 yX3_areExitsNear ∈ TB := tb_of 540 (by decide +kernel) rfl
theorem mlX3_23 : Cond.methodLink RX3 23 yX3_areWishesMet ∈ TB := tb_of 556 (by decide +kernel) rfl
theorem mlX3_26 : Cond.methodLink RX3 26 yX8_shops ∈ TB := tb_of 544 (by decide +kernel) rfl
theorem mlX3_32 : Cond.methodLink RX3 32 yX9_bothWays ∈ TB := tb_of 574 (by decide +kernel) rfl
theorem mlX3_38 : Cond.methodLink RX3 38 yX8_at ∈ TB := tb_of 548 (by decide +kernel) rfl
theorem mlX3_42 : Cond.methodLink RX3 42 yX2_wayBetween ∈ TB := tb_of 569 (by decide +kernel) rfl
theorem mlX3_48 : Cond.methodLink RX3 48 yX2_isOutNear ∈ TB := tb_of 552 (by decide +kernel) rfl
theorem mlX3_52 : Cond.methodLink RX3 52 yX9_wishes ∈ TB := tb_of 560 (by decide +kernel) rfl
theorem mlX3_55 : Cond.methodLink RX3 55 yX9_oneOf ∈ TB := tb_of 561 (by decide +kernel) rfl
theorem mlX3_58 : Cond.methodLink RX3 58 yX9_otherOf ∈ TB := tb_of 565 (by decide +kernel) rfl
theorem mlX3_61 : Cond.methodLink RX3 61 yX9_isMet ∈ TB := tb_of 570 (by decide +kernel) rfl
theorem mlX4_31 : Cond.methodLink RX4 31 yX4_sortLoads ∈ TB := tb_of 630 (by decide +kernel) rfl
theorem mlX4_35 : Cond.methodLink RX4 35 yX4_sortWays ∈ TB := tb_of 641 (by decide +kernel) rfl
theorem mlX4_39 : Cond.methodLink RX4 39 yX7_get ∈ TB := tb_of 639 (by decide +kernel) rfl
theorem mlX4_42 : Cond.methodLink RX4 42 yX9_shops ∈ TB := tb_of 634 (by decide +kernel) rfl
theorem mlX4_47 : Cond.methodLink RX4 47 yX9_bothWays ∈ TB := tb_of 635 (by decide +kernel) rfl
theorem mlX4_51 : Cond.methodLink RX4 51 yX4_insert ∈ TB := tb_of 636 (by decide +kernel) rfl
theorem mlX4_55 : Cond.methodLink RX4 55 yX2_slots ∈ TB := tb_of 645 (by decide +kernel) rfl
theorem mlX4_60 : Cond.methodLink RX4 60 yX2_wayBetween ∈ TB := tb_of 646 (by decide +kernel) rfl
theorem mlX4_64 : Cond.methodLink RX4 64 yX7_set ∈ TB := tb_of 640 (by decide +kernel) rfl
theorem mlX5_26 : Cond.methodLink RX5 26 yX9_movedWeight ∈ TB := tb_of 693 (by decide +kernel) rfl
theorem mlX5_32 : Cond.methodLink RX5 32 yX2_slots ∈ TB := tb_of 698 (by decide +kernel) rfl
theorem mlX5_38 : Cond.methodLink RX5 38 yX8_shops ∈ TB := tb_of 699 (by decide +kernel) rfl
theorem mlX5_41 : Cond.methodLink RX5 41 yX5_asideWeight ∈ TB := tb_of 700 (by decide +kernel) rfl
theorem mlX5_45 : Cond.methodLink RX5 45 yX9_weightOf ∈ TB := tb_of 704 (by decide +kernel) rfl
theorem mlX5_49 : Cond.methodLink RX5 49 yX8_at ∈ TB := tb_of 708 (by decide +kernel) rfl
theorem mlX5_52 : Cond.methodLink RX5 52 yX8_whoIsAt ∈ TB := tb_of 709 (by decide +kernel) rfl
theorem mlX5_56 : Cond.methodLink RX5 56 Lib.Math.min.name ∈ TB := tb_of 710 (by decide +kernel) rfl
theorem mlX5_61 : Cond.methodLink RX5 61 yX8_copy ∈ TB := tb_of 721 (by decide +kernel) rfl
theorem mlX5_65 : Cond.methodLink RX5 65 yX5_firstStep ∈ TB := tb_of 722 (by decide +kernel) rfl
theorem mlX5_69 : Cond.methodLink RX5 69 yX5_least ∈ TB := tb_of 726 (by decide +kernel) rfl
theorem mlX5_72 : Cond.methodLink RX5 72 yX8_seat ∈ TB := tb_of 727 (by decide +kernel) rfl
theorem mlX6_58 : Cond.methodLink RX6 58 yX7_get ∈ TB := tb_of 745 (by decide +kernel) rfl
theorem mlX6_62 : Cond.methodLink RX6 62 yX6_reckon ∈ TB := tb_of 736 (by decide +kernel) rfl
theorem mlX6_66 : Cond.methodLink RX6 66 yX6_stay ∈ TB := tb_of 750 (by decide +kernel) rfl
theorem mlX6_69 : Cond.methodLink RX6 69 yX6_letAllMove ∈ TB := tb_of 758 (by decide +kernel) rfl
theorem mlX6_72 : Cond.methodLink RX6 72 yX6_choose ∈ TB := tb_of 767 (by decide +kernel) rfl
theorem mlX6_75 : Cond.methodLink RX6 75 yX9_shops ∈ TB := tb_of 740 (by decide +kernel) rfl
theorem mlX6_81 : Cond.methodLink RX6 81 yX2_slots ∈ TB := tb_of 741 (by decide +kernel) rfl
theorem mlX6_86 : Cond.methodLink RX6 86 yX8_begin ∈ TB := tb_of 742 (by decide +kernel) rfl
theorem mlX6_90 : Cond.methodLink RX6 90 yX3_costOf ∈ TB := tb_of 743 (by decide +kernel) rfl
theorem mlX6_96 : Cond.methodLink RX6 96 yX8_told ∈ TB := tb_of 744 (by decide +kernel) rfl
theorem mlX6_100 : Cond.methodLink RX6 100 Lib.Math.min.name ∈ TB := tb_of 747 (by decide +kernel) rfl
theorem mlX6_106 : Cond.methodLink RX6 106 yX7_set ∈ TB := tb_of 748 (by decide +kernel) rfl
theorem mlX6_109 : Cond.methodLink RX6 109 yX8_goOn ∈ TB := tb_of 749 (by decide +kernel) rfl
theorem mlX6_113 : Cond.methodLink RX6 113 yX6_toldEnd ∈ TB := tb_of 754 (by decide +kernel) rfl
theorem mlX6_116 : Cond.methodLink RX6 116 yX9_weightOf ∈ TB := tb_of 762 (by decide +kernel) rfl
theorem mlX6_119 : Cond.methodLink RX6 119 yX6_letMove ∈ TB := tb_of 763 (by decide +kernel) rfl
theorem mlX6_123 : Cond.methodLink RX6 123 yX9_movedWeight ∈ TB := tb_of 771 (by decide +kernel) rfl
theorem mlX6_127 : Cond.methodLink RX6 127 yX8_copy ∈ TB := tb_of 772 (by decide +kernel) rfl
theorem mlX8_24 : Cond.methodLink RX8 24 yX7_get ∈ TB := tb_of 453 (by decide +kernel) rfl
theorem mlX8_28 : Cond.methodLink RX8 28 yX7_set ∈ TB := tb_of 454 (by decide +kernel) rfl
theorem mlX8_32 : Cond.methodLink RX8 32 yX8_seatBehind ∈ TB := tb_of 445 (by decide +kernel) rfl
theorem mlX8_36 : Cond.methodLink RX8 36 yX8_whoIsAt ∈ TB := tb_of 449 (by decide +kernel) rfl
theorem mlX9_42 : Cond.methodLink RX9 42 yX9_hasShop ∈ TB := tb_of 471 (by decide +kernel) rfl
theorem mlX9_46 : Cond.methodLink RX9 46 yX7_set ∈ TB := tb_of 459 (by decide +kernel) rfl
theorem mlX9_50 : Cond.methodLink RX9 50 yX9_loadAt ∈ TB := tb_of 479 (by decide +kernel) rfl
theorem mlX9_54 : Cond.methodLink RX9 54 yX7_get ∈ TB := tb_of 482 (by decide +kernel) rfl
theorem mlX9_58 : Cond.methodLink RX9 58 yX8_at ∈ TB := tb_of 697 (by decide +kernel) rfl
theorem mlX11_78 : Cond.methodLink RX11 78 yX11_in ∈ TB := tb_of 898 (by decide +kernel) rfl
theorem mlX11_88 : Cond.methodLink RX11 88 yX11_isCell ∈ TB := tb_of 895 (by decide +kernel) rfl
theorem mlX11_92 : Cond.methodLink RX11 92 yX11_beside ∈ TB := tb_of 925 (by decide +kernel) rfl
theorem mlX11_96 : Cond.methodLink RX11 96 yX11_walk ∈ TB := tb_of 921 (by decide +kernel) rfl
theorem mlX11_100 : Cond.methodLink RX11 100 yX11_isSlot ∈ TB := tb_of 913 (by decide +kernel) rfl
theorem mlX11_104 : Cond.methodLink RX11 104 yX11_layFloor ∈ TB := tb_of 917 (by decide +kernel) rfl
theorem mlX11_107 : Cond.methodLink RX11 107 yX11_isYear ∈ TB := tb_of 944 (by decide +kernel) rfl
theorem mlX11_110 : Cond.methodLink RX11 110 yX11_isShop ∈ TB := tb_of 947 (by decide +kernel) rfl
theorem mlX11_116 : Cond.methodLink RX11 116 yX11_allNumbers ∈ TB := tb_of 971 (by decide +kernel) rfl
theorem mlX11_120 : Cond.methodLink RX11 120 yX11_layTold ∈ TB := tb_of 967 (by decide +kernel) rfl
theorem mlX11_123 : Cond.methodLink RX11 123 yX11_becomeNow ∈ TB := tb_of 975 (by decide +kernel) rfl
theorem mlX11_126 : Cond.methodLink RX11 126 yX11_takeNow ∈ TB := tb_of 983 (by decide +kernel) rfl
theorem mlX11_129 : Cond.methodLink RX11 129 yX11_toldOf ∈ TB := tb_of 987 (by decide +kernel) rfl
theorem mlX11_132 : Cond.methodLink RX11 132 yX11_farOf ∈ TB := tb_of 1003 (by decide +kernel) rfl
theorem mlX11_135 : Cond.methodLink RX11 135 yX11_meets ∈ TB := tb_of 999 (by decide +kernel) rfl
theorem mlX11_139 : Cond.methodLink RX11 139 yX11_costOf ∈ TB := tb_of 995 (by decide +kernel) rfl
theorem mlX11_149 : Cond.methodLink RX11 149 yX11_layRow ∈ TB := tb_of 1016 (by decide +kernel) rfl
theorem mlX11_152 : Cond.methodLink RX11 152 yX11_bestOf ∈ TB := tb_of 1012 (by decide +kernel) rfl
theorem mlX11_155 : Cond.methodLink RX11 155 yX11_sortIn ∈ TB := tb_of 1032 (by decide +kernel) rfl
theorem mlX11_159 : Cond.methodLink RX11 159 yX11_numberOf ∈ TB := tb_of 1048 (by decide +kernel) rfl
theorem mlX11_168 : Cond.methodLink RX11 168 yX11_look ∈ TB := tb_of 1044 (by decide +kernel) rfl
theorem mlX11_171 : Cond.methodLink RX11 171 yX11_findChange ∈ TB := tb_of 1040 (by decide +kernel) rfl
theorem mlX11_174 : Cond.methodLink RX11 174 yX11_stepTo ∈ TB := tb_of 1072 (by decide +kernel) rfl
theorem mlX11_178 : Cond.methodLink RX11 178 yX11_withStep ∈ TB := tb_of 1068 (by decide +kernel) rfl
theorem mlX11_181 : Cond.methodLink RX11 181 yX11_leastStep ∈ TB := tb_of 1064 (by decide +kernel) rfl
theorem mlX11_184 : Cond.methodLink RX11 184 yX11_layMoves ∈ TB := tb_of 1060 (by decide +kernel) rfl
theorem mlX11_190 : Cond.methodLink RX11 190 yX11_changed ∈ TB := tb_of 1091 (by decide +kernel) rfl
theorem mlX11_193 : Cond.methodLink RX11 193 yX11_isSpan ∈ TB := tb_of 1084 (by decide +kernel) rfl
theorem mlX11_196 : Cond.methodLink RX11 196 yX11_layPlans ∈ TB := tb_of 1087 (by decide +kernel) rfl
theorem mlX11_199 : Cond.methodLink RX11 199 yX11_firstOf ∈ TB := tb_of 1095 (by decide +kernel) rfl
theorem kcX6_99 : Cond.constant RX6 99 (268435456) ∈ TB := tb_of 746 (by decide +kernel) rfl
theorem kcX11_138 : Cond.constant RX11 138 (100000000) ∈ TB := tb_of 1007 (by decide +kernel) rfl
theorem min_s : Cond.static Lib.Math.min.name ∈ TB := tb_of 711 (by decide +kernel) rfl
theorem min_i : Cond.initialized "java/lang/Math" ∈ TB := tb_of 58 (by decide +kernel) rfl
theorem min_c : Cond.code Lib.Math.min.name Lib.Math.min.code 2 (some .int) ∈ TB := tb_of 712 (by decide +kernel) rfl
end
section
/-! ===== what a walk stands on beside the instructions ===== -/
def isRow (k n : Nat) : Prop := k < NC ∧ k + 1 < NC ∧ shp k = (7, 1) ∧ rfs k 0 = some (k + 1) ∧ shp (k + 1) = (12, n)
def isSeats (k : Nat) : Prop := k < NC ∧ shp k = (8, 2) ∧ rfs k 0 = some (k + 1) ∧ rfs k 1 = none ∧ isRow (k + 1) 5
theorem shp_lt : ∀ k, (shp k).2 < 8000 := by
  intro k
  by_cases h : k < 95
  · have : ∀ k, k < 95 → (shp k).2 < 8000 := by decide +kernel
    exact this k h
  · unfold shp
    have h2 : shpL[k]? = none := List.getElem?_eq_none (by show 95 ≤ k; omega)
    simp [List.getD, h2]
theorem row_n {k n : Nat} (h : isRow k n) : n < 2147483648 := by
  have h1 := shp_lt (k + 1)
  rw [h.2.2.2.2] at h1
  exact Nat.lt_trans h1 (by decide)
theorem mu_eq {σ : Mem} {k j : Nat} {v : Int} : mu σ k j v k j = v := by simp [mu]
section WK
variable {xs : XS} {d : MD} {pc : Nat} {ls : List (Option AV)} {st : List AV} {σ : Mem} {Q : Int → Mem → Prop}
theorem g_top {v w : Int} (h : v = w) (k : GO xs d pc ls (.inl w :: st) σ Q) : GO xs d pc ls (.inl v :: st) σ Q := by rw [h]; exact k
theorem g_kill {i : Nat} {ls' : List (Option AV)} (he : ls.set i none = ls') (k : GO xs d pc ls' st σ Q) : GO xs d pc ls st σ Q := by
  intro p l e R s m args below meth c D cyI cyZ adr A cells slots QF C RT0 H locs lsA hR hS hL hst
  subst he
  refine k p l e R s m args below meth c D cyI cyZ adr A cells slots QF C RT0 H locs lsA hR hS ⟨hL.1, hL.2.1, by rw [List.length_set]; exact hL.2.2.1, fun j v hj => ?_⟩ hst
  by_cases e1 : j = i
  · subst e1
    rw [List.getElem?_set] at hj
    simp at hj
  · rw [List.getElem?_set_ne (Ne.symm e1)] at hj
    exact hL.2.2.2 j v hj
theorem g_table {dflt lo hi x : Int} {offs : Array Int} {len : Nat} (hd : decode (mC d) pc = .ok (.tableswitch dflt lo hi offs, len)) (ho : (x < lo ∨ hi < x) → ∃ tgt : Nat, (pc : Int) + dflt = (tgt : Int) ∧ GO xs d tgt ls st σ Q) (hi2 : lo ≤ x → x ≤ hi → ∃ (off : Int) (tgt : Nat), offs[(x - lo).toNat]? = some off ∧ (pc : Int) + off = (tgt : Int) ∧ GO xs d tgt ls st σ Q) : GO xs d pc ls (.inl x :: st) σ Q := by
  intro p l e R s m args below meth c D cyI cyZ adr A cells slots QF C RT0 H locs lsA hR hS hL hst
  have hv := List.forall_mem_cons.mp hst
  have hx : inR x := hv.1
  by_cases h : x < lo ∨ hi < x
  · obtain ⟨tgt, ht, k⟩ := ho h
    exact lv_tableOut C.1 C.2.1 hd (by rw [ofI_toInt hx]; exact h) ht (k p l e R s m args below meth c D cyI cyZ adr A cells slots QF C RT0 H locs lsA hR hS hL hv.2)
  · obtain ⟨off, tgt, hoff, ht, k⟩ := hi2 (by omega) (by omega)
    exact lv_tableIn C.1 C.2.1 hd (by rw [ofI_toInt hx]; omega) (by rw [ofI_toInt hx]; omega) (by rw [ofI_toInt hx]; exact hoff) ht (k p l e R s m args below meth c D cyI cyZ adr A cells slots QF C RT0 H locs lsA hR hS hL hv.2)
end WK
-- a contract may say less
theorem CM.mono {d : MD} {as : List AV} {σ : Mem} {Q Q' : Int → Mem → Prop} (h : ∀ v σ', Q v σ' → Q' v σ') (hc : CM d as σ Q) : CM d as σ Q' := by
  intro l D cyI cyZ adr sz hinj hok
  have hM := hc l D cyI cyZ adr sz hinj hok
  unfold Met at hM ⊢
  intro p e ha hcc hk s m args below hf hfit hp hkk
  obtain ⟨k, o, h1, h2, h3, hQ, hF⟩ := hM p e ha hcc hk s m args below hf hfit hp hkk
  refine ⟨k, o, h1, h2, h3, ?_, hF⟩
  unfold QcM at hQ ⊢
  generalize mK d = kk at hQ ⊢
  rcases kk with _ | _ | _ | kk
  · obtain ⟨⟨r, u, q1, ⟨q2, q2b, q2c⟩, q3⟩, q4⟩ := hQ
    exact ⟨⟨r, u, q1, ⟨q2, q2b, h _ _ q2c⟩, q3⟩, q4⟩
  · obtain ⟨⟨u, q1, q2, q3⟩, q4⟩ := hQ
    exact ⟨⟨u, q1, h _ _ q2, q3⟩, q4⟩
  · obtain ⟨⟨u, a, q1, q2, q3⟩, q4⟩ := hQ
    exact ⟨⟨u, a, q1, h _ _ q2, q3⟩, q4⟩
  · obtain ⟨⟨r, u, q1, ⟨q2, q2b, q2c⟩, q3⟩, q4⟩ := hQ
    exact ⟨⟨r, u, q1, ⟨q2, q2b, h _ _ q2c⟩, q3⟩, q4⟩
/-! Row -/
set_option maxRecDepth 100000 in
theorem rX7_get_0 {x1 : Int} {k0 n0 : Nat} (hk0 : isRow k0 n0) {σ : Mem} {Q : Int → Mem → Prop} (h : (x1 < 0 → Q 0 σ) ∧ (0 ≤ x1 → (x1 < ((n0 : Nat) : Int) → ((0 ≤ x1) ∧ (((x1 < n0) ∧ (Q (σ (k0 + 1) (x1).toNat) σ))))) ∧ (((n0 : Nat) : Int) ≤ x1 → Q 0 σ))) : CM mX7_get [.inr k0, .inl x1] σ Q := by
  refine CM_of_GO (by decide +kernel) rfl (Nat.le_of_ble_eq_true rfl) ?_
  show GO none mX7_get 0 [some (.inr k0), some (.inl x1)] [] σ Q
  refine g_iload_n dX7_get_0 rfl rfl ?_
  refine g_if_lt (tgt := 13) dX7_get_1 (by decide) (fun c1 => ?_) (fun c1 => ?_)
  · have h := h.1 c1
    refine g_iconst dX7_get_13 (by decide) ?_
    refine g_goto (tgt := 23) dX7_get_14 (by decide) ?_
    exact g_ireturn rfl dX7_get_23 h
  · have h := h.2 c1
    refine g_iload_n dX7_get_4 rfl rfl ?_
    refine g_aload_n dX7_get_5 rfl rfl ?_
    refine g_getR (r' := (k0 + 1)) flX7_7 hk0.1 hk0.2.2.1 (by decide) hk0.2.2.2.1 dX7_get_6 ?_
    refine g_alen hk0.2.1 hk0.2.2.2.2 (row_n hk0) dX7_get_9 ?_
    refine g_icmp_lt (tgt := 17) dX7_get_10 (by decide) (fun c2 => ?_) (fun c2 => ?_)
    · have h := h.1 c2
      refine g_aload_n dX7_get_17 rfl rfl ?_
      refine g_getR (r' := (k0 + 1)) flX7_7 hk0.1 hk0.2.2.1 (by decide) hk0.2.2.2.1 dX7_get_18 ?_
      refine g_iload_n dX7_get_21 rfl rfl ?_
      obtain ⟨p3, h⟩ := h
      obtain ⟨p4, h⟩ := h
      refine g_iald hk0.2.1 hk0.2.2.2.2 p3 p4 dX7_get_22 ?_
      exact g_ireturn rfl dX7_get_23 h
    · have h := h.2 c2
      refine g_iconst dX7_get_13 (by decide) ?_
      refine g_goto (tgt := 23) dX7_get_14 (by decide) ?_
      exact g_ireturn rfl dX7_get_23 h
set_option maxRecDepth 100000 in
theorem rX7_set_0 {x1 x2 : Int} {k0 n0 : Nat} (hk0 : isRow k0 n0) {σ : Mem} {Q : Int → Mem → Prop} (h : (x1 < 0 → Q 0 σ) ∧ (0 ≤ x1 → (((n0 : Nat) : Int) ≤ x1 → Q 0 σ) ∧ (x1 < ((n0 : Nat) : Int) → ((0 ≤ x1) ∧ (((x1 < n0) ∧ (Q 0 (mu σ (k0 + 1) (x1).toNat x2)))))))) : CM mX7_set [.inr k0, .inl x1, .inl x2] σ Q := by
  refine CM_of_GO (by decide +kernel) rfl (Nat.le_of_ble_eq_true rfl) ?_
  show GO none mX7_set 0 [some (.inr k0), some (.inl x1), some (.inl x2)] [] σ Q
  refine g_iload_n dX7_set_0 rfl rfl ?_
  refine g_if_lt (tgt := 20) dX7_set_1 (by decide) (fun c1 => ?_) (fun c1 => ?_)
  · have h := h.1 c1
    exact g_return rfl dX7_set_20 h
  · have h := h.2 c1
    refine g_iload_n dX7_set_4 rfl rfl ?_
    refine g_aload_n dX7_set_5 rfl rfl ?_
    refine g_getR (r' := (k0 + 1)) flX7_7 hk0.1 hk0.2.2.1 (by decide) hk0.2.2.2.1 dX7_set_6 ?_
    refine g_alen hk0.2.1 hk0.2.2.2.2 (row_n hk0) dX7_set_9 ?_
    refine g_icmp_ge (tgt := 20) dX7_set_10 (by decide) (fun c2 => ?_) (fun c2 => ?_)
    · have h := h.1 c2
      exact g_return rfl dX7_set_20 h
    · have h := h.2 c2
      refine g_aload_n dX7_set_13 rfl rfl ?_
      refine g_getR (r' := (k0 + 1)) flX7_7 hk0.1 hk0.2.2.1 (by decide) hk0.2.2.2.1 dX7_set_14 ?_
      refine g_iload_n dX7_set_17 rfl rfl ?_
      refine g_iload_n dX7_set_18 rfl rfl ?_
      obtain ⟨p3, h⟩ := h
      obtain ⟨p4, h⟩ := h
      refine g_iast hk0.2.1 hk0.2.2.2.2 p3 p4 dX7_set_19 ?_
      exact g_return rfl dX7_set_20 h
theorem c_X7_get {k n : Nat} {i : Int} {σ : Mem} (hk : isRow k n) (h0 : 0 ≤ i) (hn : i < n) : CM mX7_get [.inr k, .inl i] σ (fun v σ1 => v = σ (k + 1) i.toNat ∧ σ1 = σ) := by
  refine rX7_get_0 hk ⟨fun h => ?_, fun _ => ⟨fun h => ⟨h0, hn, rfl, rfl⟩, fun h => ?_⟩⟩
  · omega
  · omega
theorem c_X7_set {k n : Nat} {i v : Int} {σ : Mem} (hk : isRow k n) (h0 : 0 ≤ i) (hn : i < n) : CM mX7_set [.inr k, .inl i, .inl v] σ (fun _ σ1 => σ1 = mu σ (k + 1) i.toNat v) := by
  refine rX7_set_0 hk ⟨fun h => ?_, fun _ => ⟨fun h => ?_, fun _ => ⟨h0, hn, rfl⟩⟩⟩
  · omega
  · omega
end
section
/-! ===== places in memory, as rows of slots ===== -/
def setA (σ : Mem) (k : Nat) (f : Nat → Int) : Mem := fun a => if a = k then f else σ a
def fup (f : Nat → Int) (i : Nat) (v : Int) : Nat → Int := fun j => if j = i then v else f j
theorem mu_setA (σ : Mem) (k j : Nat) (v : Int) : mu σ k j v = setA σ k (fup (σ k) j v) := by
  funext a b
  unfold mu setA fup
  by_cases h : a = k
  · subst h
    by_cases h2 : b = j <;> simp [h2]
  · simp [h]
theorem setA_eq {σ : Mem} {k : Nat} {f : Nat → Int} : setA σ k f k = f := by simp [setA]
theorem setA_ne {σ : Mem} {k a : Nat} {f : Nat → Int} (h : a ≠ k) : setA σ k f a = σ a := by simp [setA, h]
theorem setA_self {σ : Mem} {k : Nat} : setA σ k (σ k) = σ := by
  funext a
  by_cases h : a = k
  · rw [h, setA_eq]
  · rw [setA_ne h]
theorem setA_twice {σ : Mem} {k : Nat} {f g : Nat → Int} : setA (setA σ k f) k g = setA σ k g := by
  funext a
  by_cases h : a = k
  · rw [h, setA_eq, setA_eq]
  · rw [setA_ne h, setA_ne h, setA_ne h]
theorem mu_nef {σ : Mem} {k j a : Nat} {v : Int} (h : a ≠ k) : mu σ k j v a = σ a := by
  funext b
  exact mu_ne a h b
theorem mu_at (σ : Mem) (k j : Nat) (v : Int) (b : Nat) : mu σ k j v k b = if b = j then v else σ k b := by
  unfold mu
  by_cases h : b = j <;> simp [h]
theorem mu_atn {σ : Mem} {k j : Nat} {v : Int} {b : Nat} (h : b ≠ j) : mu σ k j v k b = σ k b := by
  rw [mu_at, if_neg h]
theorem ite_no {c : Prop} [Decidable c] (h : (if c then (1 : Int) else 0) = 0) : ¬ c := fun q => by rw [if_pos q] at h; omega
theorem ite_yes {c : Prop} [Decidable c] (h : (if c then (1 : Int) else 0) ≠ 0) : c := Classical.byContradiction (fun q => h (if_neg q))
theorem s_at {k : Nat} (h : isSeats k) : k ≠ k + 2 := by omega
/-- the cells outside S stay -/
def Same (S : List Nat) (σ σ1 : Mem) : Prop := ∀ a, a ∉ S → σ1 a = σ a
theorem Same.rf {S : List Nat} {σ : Mem} : Same S σ σ := fun _ _ => rfl
theorem Same.tr {S : List Nat} {σ σ1 σ2 : Mem} (h : Same S σ σ1) (h2 : Same S σ1 σ2) : Same S σ σ2 := fun a ha => (h2 a ha).trans (h a ha)
theorem Same.wk {S S' : List Nat} {σ σ1 : Mem} (h : Same S σ σ1) (hs : ∀ a ∈ S, a ∈ S') : Same S' σ σ1 := fun a ha => h a (fun q => ha (hs a q))
theorem Same.mu {S : List Nat} {σ : Mem} {k j : Nat} {v : Int} (hk : k ∈ S) : Same S σ (mu σ k j v) := fun a ha => mu_nef (fun q => ha (q ▸ hk))
theorem Same.setA {S : List Nat} {σ : Mem} {k : Nat} {f : Nat → Int} (hk : k ∈ S) : Same S σ (setA σ k f) := fun a ha => setA_ne (fun q => ha (q ▸ hk))
/-- the row a begins with p -/
def hld (σ : Mem) (a : Nat) (p : List Nat) : Prop := ∀ (i : Nat) (h : i < p.length), σ a i = (p[i] : Int)
theorem hld_nil {σ : Mem} {a : Nat} : hld σ a [] := fun i h => by simp at h
theorem hld.take {σ : Mem} {a : Nat} {p : List Nat} (h : hld σ a p) (t : Nat) : hld σ a (p.take t) := by
  intro i hi
  rw [List.length_take] at hi
  rw [List.getElem_take]
  exact h i (by omega)
theorem hld.snoc {σ : Mem} {a : Nat} {p : List Nat} (h : hld σ a p) (s : Nat) : hld (mu σ a p.length (s : Int)) a (p ++ [s]) := by
  intro i hi
  rw [List.length_append, List.length_singleton] at hi
  by_cases e : i = p.length
  · subst e
    rw [mu_at, if_pos rfl]
    simp
  · rw [mu_at, if_neg e, List.getElem_append_left (by omega)]
    exact h i (by omega)
theorem hld.cong {σ σ1 : Mem} {a b : Nat} {p : List Nat} (h : hld σ a p) (e : σ1 b = σ a) : hld σ1 b p := fun i hi => by rw [e]; exact h i hi
theorem hld_un {σ : Mem} {a : Nat} {p q : List Nat} (h : hld σ a p) (h2 : hld σ a q) (hl : p.length = q.length) : p = q := by
  apply List.ext_getElem hl
  intro i h3 h4
  have := (h i h3).symm.trans (h2 i h4)
  omega
set_option maxRecDepth 100000 in
theorem rX8_shops_0 {k0 : Nat} (hk0 : isSeats k0) {σ : Mem} {Q : Int → Mem → Prop} (h : Q (σ k0 1) σ) : CM mX8_shops [.inr k0] σ Q := by
  refine CM_of_GO (by decide +kernel) rfl (Nat.le_of_ble_eq_true rfl) ?_
  show GO none mX8_shops 0 [some (.inr k0)] [] σ Q
  refine g_aload_n dX8_shops_0 rfl rfl ?_
  refine g_getI flX8_20 hk0.1 hk0.2.1 (by decide) hk0.2.2.2.1 dX8_shops_1 ?_
  exact g_ireturn rfl dX8_shops_4 h
set_option maxRecDepth 100000 in
theorem rX8_at_0 {x1 : Int} {k0 : Nat} (hk0 : isSeats k0) {σ : Mem} {Q : Int → Mem → Prop} (h : ((0 ≤ x1) ∧ (((x1 < 5) ∧ (Q (σ (k0 + 2) (x1).toNat) σ))))) : CM mX8_at [.inr k0, .inl x1] σ Q := by
  refine CM_of_GO (by decide +kernel) rfl (Nat.le_of_ble_eq_true rfl) ?_
  show GO none mX8_at 0 [some (.inr k0), some (.inl x1)] [] σ Q
  refine g_aload_n dX8_at_0 rfl rfl ?_
  refine g_getR (r' := (k0 + 1)) flX8_14 hk0.1 hk0.2.1 (by decide) hk0.2.2.1 dX8_at_1 ?_
  refine g_iload_n dX8_at_4 rfl rfl ?_
  obtain ⟨p1, h⟩ := h
  obtain ⟨p2, h⟩ := h
  refine g_invVI (as := [.inl x1]) (rest := []) okX7_get mlX8_24 hk0.2.2.2.2.1 hk0.2.2.2.2.2.2.1 ⟨_, _, rfl⟩ rfl ⟨Nat.le_of_ble_eq_true rfl, Nat.le_of_ble_eq_true rfl⟩ (Nat.le_of_ble_eq_true rfl) rfl dX8_at_5 (c_X7_get hk0.2.2.2.2 p1 p2) (Or.inl rfl) (fun v3 σ4 e5 => ?_)
  obtain ⟨e5a, e5b⟩ := e5; subst v3; subst σ4
  exact g_ireturn rfl dX8_at_8 h
set_option maxRecDepth 100000 in
theorem rX8_seat_0 {x1 x2 : Int} {k0 : Nat} (hk0 : isSeats k0) {σ : Mem} {Q : Int → Mem → Prop} (h : ((0 ≤ x1) ∧ (((x1 < 5) ∧ (Q 0 (mu σ (k0 + 2) (x1).toNat x2)))))) : CM mX8_seat [.inr k0, .inl x1, .inl x2] σ Q := by
  refine CM_of_GO (by decide +kernel) rfl (Nat.le_of_ble_eq_true rfl) ?_
  show GO none mX8_seat 0 [some (.inr k0), some (.inl x1), some (.inl x2)] [] σ Q
  refine g_aload_n dX8_seat_0 rfl rfl ?_
  refine g_getR (r' := (k0 + 1)) flX8_14 hk0.1 hk0.2.1 (by decide) hk0.2.2.1 dX8_seat_1 ?_
  refine g_iload_n dX8_seat_4 rfl rfl ?_
  refine g_iload_n dX8_seat_5 rfl rfl ?_
  obtain ⟨p1, h⟩ := h
  obtain ⟨p2, h⟩ := h
  refine g_invVV (as := [.inl x1, .inl x2]) (rest := []) okX7_set mlX8_28 hk0.2.2.2.2.1 hk0.2.2.2.2.2.2.1 ⟨_, _, rfl⟩ rfl ⟨Nat.le_of_ble_eq_true rfl, Nat.le_of_ble_eq_true rfl⟩ (Nat.le_of_ble_eq_true rfl) rfl dX8_seat_6 (c_X7_set hk0.2.2.2.2 p1 p2) rfl (fun σ4 e5 => ?_)
  subst σ4
  exact g_return rfl dX8_seat_9 h
theorem c_X8_shops {k : Nat} {σ : Mem} (hk : isSeats k) : CM mX8_shops [.inr k] σ (fun v σ1 => v = σ k 1 ∧ σ1 = σ) := rX8_shops_0 hk ⟨rfl, rfl⟩
theorem c_X8_at {k : Nat} {i : Int} {σ : Mem} (hk : isSeats k) (h0 : 0 ≤ i) (h5 : i < 5) : CM mX8_at [.inr k, .inl i] σ (fun v σ1 => v = σ (k + 2) i.toNat ∧ σ1 = σ) := rX8_at_0 hk ⟨h0, h5, rfl, rfl⟩
theorem c_X8_seat {k : Nat} {i s : Int} {σ : Mem} (hk : isSeats k) (h0 : 0 ≤ i) (h5 : i < 5) : CM mX8_seat [.inr k, .inl i, .inl s] σ (fun _ σ1 => σ1 = mu σ (k + 2) i.toNat s) := rX8_seat_0 hk ⟨h0, h5, rfl⟩
/-- the first place from i on, of d places, that holds s; -1 -/
def whoF (f : Nat → Int) (s : Int) : Nat → Nat → Int
  | _, 0 => -1
  | i, d + 1 => if f i = s then (i : Int) else whoF f s (i + 1) d
theorem whoF_spec (f : Nat → Int) (s : Int) : ∀ d i, (whoF f s i d = -1 ∧ ∀ j, i ≤ j → j < i + d → f j ≠ s) ∨ (∃ j : Nat, whoF f s i d = (j : Int) ∧ i ≤ j ∧ j < i + d ∧ f j = s ∧ ∀ l, i ≤ l → l < j → f l ≠ s)
  | 0, i => Or.inl ⟨rfl, fun j h1 h2 => by omega⟩
  | d + 1, i => by
    unfold whoF
    by_cases h : f i = s
    · rw [if_pos h]
      exact Or.inr ⟨i, rfl, Nat.le_refl _, by omega, h, fun l h1 h2 => by omega⟩
    · rw [if_neg h]
      rcases whoF_spec f s d (i + 1) with ⟨h1, h2⟩ | ⟨j, h1, h2, h3, h4, h5⟩
      · refine Or.inl ⟨h1, fun j q1 q2 => ?_⟩
        by_cases e : j = i
        · rw [e]; exact h
        · exact h2 j (by omega) (by omega)
      · refine Or.inr ⟨j, h1, by omega, by omega, h4, fun l q1 q2 => ?_⟩
        by_cases e : l = i
        · rw [e]; exact h
        · exact h5 l (by omega) q2
set_option maxRecDepth 100000 in
theorem rX8_whoIsAt_0 {x1 x2 : Int} {k0 : Nat} (hk0 : isSeats k0) {σ : Mem} {Q : Int → Mem → Prop} (h : GO none mX8_whoIsAt 2 [some (.inr k0), some (.inl x1), some (.inl x2), some (.inl 0)] [] σ Q) : CM mX8_whoIsAt [.inr k0, .inl x1, .inl x2] σ Q := by
  refine CM_of_GO (by decide +kernel) rfl (Nat.le_of_ble_eq_true rfl) ?_
  show GO none mX8_whoIsAt 0 [some (.inr k0), some (.inl x1), some (.inl x2), none] [] σ Q
  refine g_iconst dX8_whoIsAt_0 (by decide) ?_
  refine g_istore_n (ls' := [some (.inr k0), some (.inl x1), some (.inl x2), some (.inl 0)]) dX8_whoIsAt_1 rfl (by decide) rfl ?_
  exact h
set_option maxRecDepth 100000 in
theorem rX8_whoIsAt_2 {x1 x2 x3 : Int} {k0 : Nat} (hk0 : isSeats k0) {σ : Mem} {Q : Int → Mem → Prop} (h : (x2 ≤ x3 → Q (-1) σ) ∧ (x3 < x2 → ((0 ≤ x3) ∧ (((x3 < 5) ∧ (((σ (k0 + 2) (x3).toNat) ≠ x1 → ((inR (x3 + 1)) ∧ (GO none mX8_whoIsAt 2 [some (.inr k0), some (.inl x1), some (.inl x2), some (.inl (x3 + 1))] [] σ Q))) ∧ ((σ (k0 + 2) (x3).toNat) = x1 → Q x3 σ))))))) : GO none mX8_whoIsAt 2 [some (.inr k0), some (.inl x1), some (.inl x2), some (.inl x3)] [] σ Q := by
  refine g_iload_n dX8_whoIsAt_2 rfl rfl ?_
  refine g_iload_n dX8_whoIsAt_3 rfl rfl ?_
  refine g_icmp_ge (tgt := 27) dX8_whoIsAt_4 (by decide) (fun c1 => ?_) (fun c1 => ?_)
  · have h := h.1 c1
    refine g_iconst dX8_whoIsAt_27 (by decide) ?_
    exact g_ireturn rfl dX8_whoIsAt_28 h
  · have h := h.2 c1
    refine g_aload_n dX8_whoIsAt_7 rfl rfl ?_
    refine g_getR (r' := (k0 + 1)) flX8_14 hk0.1 hk0.2.1 (by decide) hk0.2.2.1 dX8_whoIsAt_8 ?_
    refine g_iload_n dX8_whoIsAt_11 rfl rfl ?_
    obtain ⟨p2, h⟩ := h
    obtain ⟨p3, h⟩ := h
    refine g_invVI (as := [.inl x3]) (rest := []) okX7_get mlX8_24 hk0.2.2.2.2.1 hk0.2.2.2.2.2.2.1 ⟨_, _, rfl⟩ rfl ⟨Nat.le_of_ble_eq_true rfl, Nat.le_of_ble_eq_true rfl⟩ (Nat.le_of_ble_eq_true rfl) rfl dX8_whoIsAt_12 (c_X7_get hk0.2.2.2.2 p2 p3) (Or.inl rfl) (fun v4 σ5 e6 => ?_)
    obtain ⟨e6a, e6b⟩ := e6; subst v4; subst σ5
    refine g_iload_n dX8_whoIsAt_15 rfl rfl ?_
    refine g_icmp_ne (tgt := 21) dX8_whoIsAt_16 (by decide) (fun c7 => ?_) (fun c7 => ?_)
    · have h := h.1 c7
      obtain ⟨p8, h⟩ := h
      refine g_iinc (ls' := [some (.inr k0), some (.inl x1), some (.inl x2), some (.inl (x3 + 1))]) dX8_whoIsAt_21 (by decide) rfl p8 rfl ?_
      refine g_goto (tgt := 2) dX8_whoIsAt_24 (by decide) ?_
      exact h
    · have h := h.2 c7
      refine g_iload_n dX8_whoIsAt_19 rfl rfl ?_
      exact g_ireturn rfl dX8_whoIsAt_20 h
theorem c_X8_whoIsAt {k : Nat} {s e : Int} {σ : Mem} (hk : isSeats k) (he : e ≤ 5) : CM mX8_whoIsAt [.inr k, .inl s, .inl e] σ (fun v σ1 => v = whoF (σ (k + 2)) s 0 e.toNat ∧ σ1 = σ) := by
  have key : ∀ (d i : Nat), (e.toNat = i + d ∨ (d = 0 ∧ e ≤ i)) → GO none mX8_whoIsAt 2 [some (.inr k), some (.inl s), some (.inl e), some (.inl (i : Int))] [] σ (fun v σ1 => v = whoF (σ (k + 2)) s i d ∧ σ1 = σ) := by
    intro d
    induction d with
    | zero =>
      intro i hi
      exact rX8_whoIsAt_2 hk ⟨fun h => ⟨rfl, rfl⟩, fun h => by omega⟩
    | succ d ih =>
      intro i hi
      refine rX8_whoIsAt_2 hk ⟨fun h => by omega, fun h => ⟨by omega, by omega, fun h2 => ⟨by omega, ?_⟩, fun h2 => ⟨?_, rfl⟩⟩⟩
      · rw [Int.toNat_natCast] at h2
        have := ih (i + 1) (by omega)
        unfold whoF
        rw [if_neg h2]
        exact this
      · rw [Int.toNat_natCast] at h2
        unfold whoF
        rw [if_pos h2]
  refine rX8_whoIsAt_0 hk ?_
  exact key e.toNat 0 (by omega)
end
section
/-! ===== the next free slot, the first places, the next places ===== -/
def nfF (pre : List Nat) : Nat → Nat → Option Nat
  | _, 0 => none
  | s, d + 1 => if s ∈ pre then nfF pre (s + 1) d else some s
def nf (n : Nat) (pre : List Nat) (lo : Nat) : Option Nat := nfF pre lo (n - lo)
theorem nfF_succ {pre : List Nat} {s d : Nat} : nfF pre s (d + 1) = if s ∈ pre then nfF pre (s + 1) d else some s := rfl
theorem nfF_some {pre : List Nat} : ∀ {d s r : Nat}, nfF pre s d = some r → s ≤ r ∧ r < s + d ∧ r ∉ pre ∧ ∀ j, s ≤ j → j < r → j ∈ pre
  | 0, s, r, h => by cases h
  | d + 1, s, r, h => by
    unfold nfF at h
    by_cases hm : s ∈ pre
    · rw [if_pos hm] at h
      obtain ⟨h1, h2, h3, h4⟩ := nfF_some h
      refine ⟨by omega, by omega, h3, fun j q1 q2 => ?_⟩
      by_cases e : j = s
      · rw [e]; exact hm
      · exact h4 j (by omega) q2
    · rw [if_neg hm] at h
      cases h
      exact ⟨Nat.le_refl _, by omega, hm, fun j q1 q2 => by omega⟩
theorem nfF_none {pre : List Nat} : ∀ {d s : Nat}, nfF pre s d = none → ∀ j, s ≤ j → j < s + d → j ∈ pre
  | 0, s, _, j, h1, h2 => by omega
  | d + 1, s, h, j, h1, h2 => by
    unfold nfF at h
    by_cases hm : s ∈ pre
    · rw [if_pos hm] at h
      by_cases e : j = s
      · rw [e]; exact hm
      · exact nfF_none h j (by omega) (by omega)
    · rw [if_neg hm] at h
      cases h
theorem nf_some {n : Nat} {pre : List Nat} {lo r : Nat} (h : nf n pre lo = some r) : lo ≤ r ∧ r < n ∧ r ∉ pre := by
  obtain ⟨h1, h2, h3, -⟩ := nfF_some h
  exact ⟨h1, by omega, h3⟩
theorem nf_free {n : Nat} {pre : List Nat} (h : pre.length < n) : ∃ r, nf n pre 0 = some r := by
  cases e : nf n pre 0 with
  | some r => exact ⟨r, rfl⟩
  | none =>
    have h1 := nfF_none e
    have h2 := List.Nodup.length_le_of_subset (List.nodup_range (n := n)) (l₂ := pre) (fun j hj => h1 j (Nat.zero_le _) (by have := List.mem_range.mp hj; omega))
    rw [List.length_range] at h2
    omega
theorem whoF_mem {σ : Mem} {a : Nat} {pre : List Nat} (h : hld σ a pre) (s : Nat) : whoF (σ a) (s : Int) 0 pre.length = -1 ↔ s ∉ pre := by
  rcases whoF_spec (σ a) (s : Int) pre.length 0 with ⟨h1, h2⟩ | ⟨j, h1, -, h3, h4, -⟩
  · refine ⟨fun _ hm => ?_, fun _ => h1⟩
    obtain ⟨i, hi, e⟩ := List.getElem_of_mem hm
    exact h2 i (Nat.zero_le _) (by omega) (by rw [h i hi, e])
  · rw [h1]
    refine ⟨fun q => by omega, fun q => absurd ?_ q⟩
    have hj : j < pre.length := by omega
    have e := (h j hj).symm.trans h4
    have e2 : pre[j] = s := by omega
    exact e2 ▸ List.getElem_mem hj
def sbR (n : Nat) (pre : List Nat) (lo : Nat) (a : Nat) (σ : Mem) (v : Int) (σ1 : Mem) : Prop := match nf n pre lo with
  | none => v = 0 ∧ σ1 = σ
  | some s => v = 1 ∧ σ1 = mu σ a pre.length (s : Int)
set_option maxRecDepth 100000 in
theorem rX8_seatBehind_0 {x1 x2 x3 : Int} {k0 : Nat} (hk0 : isSeats k0) {σ : Mem} {Q : Int → Mem → Prop} (h : ((inR (x2 + 1)) ∧ (GO none mX8_seatBehind 5 [some (.inr k0), some (.inl x1), some (.inl x2), some (.inl x3), some (.inl (x2 + 1))] [] σ Q))) : CM mX8_seatBehind [.inr k0, .inl x1, .inl x2, .inl x3] σ Q := by
  refine CM_of_GO (by decide +kernel) rfl (Nat.le_of_ble_eq_true rfl) ?_
  show GO none mX8_seatBehind 0 [some (.inr k0), some (.inl x1), some (.inl x2), some (.inl x3), none] [] σ Q
  refine g_iload_n dX8_seatBehind_0 rfl rfl ?_
  refine g_iconst dX8_seatBehind_1 (by decide) ?_
  obtain ⟨p1, h⟩ := h
  refine g_iadd dX8_seatBehind_2 p1 ?_
  refine g_istore (ls' := [some (.inr k0), some (.inl x1), some (.inl x2), some (.inl x3), some (.inl (x2 + 1))]) dX8_seatBehind_3 (by decide) rfl ?_
  exact h
set_option maxRecDepth 100000 in
theorem rX8_seatBehind_5 {x1 x2 x3 x4 : Int} {k0 : Nat} (hk0 : isSeats k0) {σ : Mem} {Q : Int → Mem → Prop} (h : (x3 ≤ x4 → Q 0 σ) ∧ (x4 < x3 → ((x1 ≤ 5) ∧ (((whoF (σ (k0 + 2)) x4 0 (x1).toNat) ≠ (-1) → ((inR (x4 + 1)) ∧ (GO none mX8_seatBehind 5 [some (.inr k0), some (.inl x1), some (.inl x2), some (.inl x3), some (.inl (x4 + 1))] [] σ Q))) ∧ ((whoF (σ (k0 + 2)) x4 0 (x1).toNat) = (-1) → ((0 ≤ x1) ∧ (((x1 < 5) ∧ (Q 1 (mu σ (k0 + 2) (x1).toNat x4)))))))))) : GO none mX8_seatBehind 5 [some (.inr k0), some (.inl x1), some (.inl x2), some (.inl x3), some (.inl x4)] [] σ Q := by
  refine g_iload dX8_seatBehind_5 rfl ?_
  refine g_iload_n dX8_seatBehind_7 rfl rfl ?_
  refine g_icmp_ge (tgt := 40) dX8_seatBehind_8 (by decide) (fun c1 => ?_) (fun c1 => ?_)
  · have h := h.1 c1
    refine g_iconst dX8_seatBehind_40 (by decide) ?_
    exact g_zreturn rfl dX8_seatBehind_41 (by decide) h
  · have h := h.2 c1
    refine g_aload_n dX8_seatBehind_11 rfl rfl ?_
    refine g_iload dX8_seatBehind_12 rfl ?_
    refine g_iload_n dX8_seatBehind_14 rfl rfl ?_
    obtain ⟨p2, h⟩ := h
    refine g_invVI (as := [.inl x4, .inl x1]) (rest := []) okX8_whoIsAt mlX8_36 hk0.1 hk0.2.1 ⟨_, _, rfl⟩ rfl ⟨Nat.le_of_ble_eq_true rfl, Nat.le_of_ble_eq_true rfl⟩ (Nat.le_of_ble_eq_true rfl) rfl dX8_seatBehind_15 (c_X8_whoIsAt hk0 p2) (Or.inl rfl) (fun v3 σ4 e5 => ?_)
    obtain ⟨e5a, e5b⟩ := e5; subst v3; subst σ4
    refine g_iconst dX8_seatBehind_18 (by decide) ?_
    refine g_icmp_ne (tgt := 34) dX8_seatBehind_19 (by decide) (fun c6 => ?_) (fun c6 => ?_)
    · have h := h.1 c6
      obtain ⟨p7, h⟩ := h
      refine g_iinc (ls' := [some (.inr k0), some (.inl x1), some (.inl x2), some (.inl x3), some (.inl (x4 + 1))]) dX8_seatBehind_34 (by decide) rfl p7 rfl ?_
      refine g_goto (tgt := 5) dX8_seatBehind_37 (by decide) ?_
      exact h
    · have h := h.2 c6
      refine g_aload_n dX8_seatBehind_22 rfl rfl ?_
      refine g_getR (r' := (k0 + 1)) flX8_14 hk0.1 hk0.2.1 (by decide) hk0.2.2.1 dX8_seatBehind_23 ?_
      refine g_iload_n dX8_seatBehind_26 rfl rfl ?_
      refine g_iload dX8_seatBehind_27 rfl ?_
      obtain ⟨p8, h⟩ := h
      obtain ⟨p9, h⟩ := h
      refine g_invVV (as := [.inl x1, .inl x4]) (rest := []) okX7_set mlX8_28 hk0.2.2.2.2.1 hk0.2.2.2.2.2.2.1 ⟨_, _, rfl⟩ rfl ⟨Nat.le_of_ble_eq_true rfl, Nat.le_of_ble_eq_true rfl⟩ (Nat.le_of_ble_eq_true rfl) rfl dX8_seatBehind_29 (c_X7_set hk0.2.2.2.2 p8 p9) rfl (fun σ11 e12 => ?_)
      subst σ11
      refine g_iconst dX8_seatBehind_32 (by decide) ?_
      exact g_zreturn rfl dX8_seatBehind_33 (by decide) h
theorem c_X8_seatBehind {k : Nat} {pre : List Nat} {lo n : Nat} {x1 x2 x3 : Int} {σ : Mem} (hk : isSeats k) (hp : hld σ (k + 2) pre) (h5 : pre.length < 5) (hlo : lo ≤ 10) (hn : n ≤ 6) (e1 : x1 = pre.length) (e2 : x2 = (lo : Int) - 1) (e3 : x3 = n) : CM mX8_seatBehind [.inr k, .inl x1, .inl x2, .inl x3] σ (sbR n pre lo (k + 2) σ) := by
  subst e1 e2 e3
  have key : ∀ (d s : Nat), s ≤ 20 → (n = s + d ∨ (d = 0 ∧ n ≤ s)) → nfF pre s d = nf n pre lo → GO none mX8_seatBehind 5 [some (.inr k), some (.inl (pre.length : Int)), some (.inl ((lo : Int) - 1)), some (.inl (n : Int)), some (.inl (s : Int))] [] σ (sbR n pre lo (k + 2) σ) := by
    intro d
    induction d with
    | zero =>
      intro s h20 hi he
      refine rX8_seatBehind_5 hk ⟨fun h => ?_, fun h => by omega⟩
      unfold sbR
      rw [← he]
      exact ⟨rfl, rfl⟩
    | succ d ih =>
      intro s h20 hi he
      refine rX8_seatBehind_5 hk ⟨fun h => by omega, fun h => ⟨by omega, fun h2 => ⟨by omega, ?_⟩, fun h2 => ⟨by omega, by omega, ?_⟩⟩⟩
      · rw [Int.toNat_natCast, Ne, whoF_mem hp] at h2
        refine ih (s + 1) (by omega) (by omega) ?_
        rw [← he, nfF_succ, if_pos (Classical.not_not.mp h2)]
      · rw [Int.toNat_natCast, whoF_mem hp] at h2
        unfold sbR
        rw [← he, nfF_succ, if_neg h2, Int.toNat_natCast]
        exact ⟨rfl, rfl⟩
  refine rX8_seatBehind_0 hk ⟨by omega, ?_⟩
  have := key (n - lo) lo (by omega) (by omega) rfl
  rw [show ((lo : Int) - 1 + 1) = (lo : Int) by omega]
  exact this
/-- d shops more, each on the first free slot -/
def fillF (n : Nat) : Nat → List Nat → List Nat
  | 0, p => p
  | d + 1, p => match nf n p 0 with
    | some s => fillF n d (p ++ [s])
    | none => p
theorem fillF_len (n : Nat) : ∀ (d : Nat) (p : List Nat), p.length + d ≤ n → (fillF n d p).length = p.length + d
  | 0, p, _ => rfl
  | d + 1, p, h => by
    obtain ⟨r, hr⟩ := nf_free (n := n) (pre := p) (by omega)
    unfold fillF
    rw [hr]
    show (fillF n d (p ++ [r])).length = _
    rw [fillF_len n d (p ++ [r]) (by rw [List.length_append, List.length_singleton]; omega), List.length_append, List.length_singleton]
    omega
set_option maxRecDepth 100000 in
theorem rX8_begin_0 {x1 x2 : Int} {k0 : Nat} (hk0 : isSeats k0) {σ : Mem} {Q : Int → Mem → Prop} (h : GO none mX8_begin 7 [some (.inr k0), some (.inl x1), some (.inl x2), some (.inl 0)] [] (mu σ k0 1 x1) Q) : CM mX8_begin [.inr k0, .inl x1, .inl x2] σ Q := by
  refine CM_of_GO (by decide +kernel) rfl (Nat.le_of_ble_eq_true rfl) ?_
  show GO none mX8_begin 0 [some (.inr k0), some (.inl x1), some (.inl x2), none] [] σ Q
  refine g_aload_n dX8_begin_0 rfl rfl ?_
  refine g_iload_n dX8_begin_1 rfl rfl ?_
  refine g_putI fpX8_20 hk0.1 hk0.2.1 (by decide) hk0.2.2.2.1 (Or.inl rfl) dX8_begin_2 ?_
  refine g_iconst dX8_begin_5 (by decide) ?_
  refine g_istore_n (ls' := [some (.inr k0), some (.inl x1), some (.inl x2), some (.inl 0)]) dX8_begin_6 rfl (by decide) rfl ?_
  exact h
set_option maxRecDepth 100000 in
theorem rX8_begin_7 {x1 x2 x3 : Int} {k0 : Nat} (hk0 : isSeats k0) {σ : Mem} {Q : Int → Mem → Prop} (h : (x1 ≤ x3 → Q 0 σ) ∧ (x3 < x1 → CM mX8_seatBehind [.inr k0, .inl x3, .inl (-1), .inl x2] σ (fun v2 σ3 => ((inR (x3 + 1)) ∧ (GO none mX8_begin 7 [some (.inr k0), some (.inl x1), some (.inl x2), some (.inl (x3 + 1))] [] σ3 Q))))) : GO none mX8_begin 7 [some (.inr k0), some (.inl x1), some (.inl x2), some (.inl x3)] [] σ Q := by
  refine g_iload_n dX8_begin_7 rfl rfl ?_
  refine g_iload_n dX8_begin_8 rfl rfl ?_
  refine g_icmp_ge (tgt := 26) dX8_begin_9 (by decide) (fun c1 => ?_) (fun c1 => ?_)
  · have h := h.1 c1
    exact g_return rfl dX8_begin_26 h
  · have h := h.2 c1
    refine g_aload_n dX8_begin_12 rfl rfl ?_
    refine g_iload_n dX8_begin_13 rfl rfl ?_
    refine g_iconst dX8_begin_14 (by decide) ?_
    refine g_iload_n dX8_begin_15 rfl rfl ?_
    refine g_invVI (as := [.inl x3, .inl (-1), .inl x2]) (rest := []) okX8_seatBehind mlX8_32 hk0.1 hk0.2.1 ⟨_, _, rfl⟩ rfl ⟨Nat.le_of_ble_eq_true rfl, Nat.le_of_ble_eq_true rfl⟩ (Nat.le_of_ble_eq_true rfl) rfl dX8_begin_16 h (Or.inr rfl) (fun v2 σ3 e4 => ?_)
    have h := e4
    refine g_pop dX8_begin_19 ?_
    obtain ⟨p5, h⟩ := h
    refine g_iinc (ls' := [some (.inr k0), some (.inl x1), some (.inl x2), some (.inl (x3 + 1))]) dX8_begin_20 (by decide) rfl p5 rfl ?_
    refine g_goto (tgt := 7) dX8_begin_23 (by decide) ?_
    exact h
theorem c_X8_begin {k : Nat} {m n : Nat} {x1 x2 : Int} {σ : Mem} (hk : isSeats k) (hmn : m ≤ n) (hm : m ≤ 5) (hn : n ≤ 6) (e1 : x1 = m) (e2 : x2 = n) : CM mX8_begin [.inr k, .inl x1, .inl x2] σ (fun _ σ1 => σ1 k 1 = m ∧ hld σ1 (k + 2) (fillF n m []) ∧ Same [k, k + 2] σ σ1) := by
  subst e1 e2
  have key : ∀ (d : Nat) (p : List Nat) (σ0 : Mem), p.length + d = m → σ0 k 1 = m → hld σ0 (k + 2) p → Same [k, k + 2] σ σ0 → GO none mX8_begin 7 [some (.inr k), some (.inl (m : Int)), some (.inl (n : Int)), some (.inl (p.length : Int))] [] σ0 (fun _ σ1 => σ1 k 1 = m ∧ hld σ1 (k + 2) (fillF n d p) ∧ Same [k, k + 2] σ σ1) := by
    intro d
    induction d with
    | zero =>
      intro p σ0 hd h1 h2 h3
      exact rX8_begin_7 hk ⟨fun h => ⟨h1, h2, h3⟩, fun h => by omega⟩
    | succ d ih =>
      intro p σ0 hd h1 h2 h3
      obtain ⟨r, hr⟩ := nf_free (n := n) (pre := p) (by omega)
      refine rX8_begin_7 hk ⟨fun h => by omega, fun h => ?_⟩
      refine CM.mono (fun v σ1 hq => ?_) (c_X8_seatBehind (lo := 0) hk h2 (by omega) (by omega) hn rfl rfl rfl)
      unfold sbR at hq
      rw [hr] at hq
      obtain ⟨-, rfl⟩ := hq
      refine ⟨by omega, ?_⟩
      have := ih (p ++ [r]) (mu σ0 (k + 2) p.length r) (by rw [List.length_append, List.length_singleton]; omega) (by rw [mu_ne k (by omega)]; exact h1) (h2.snoc r) (h3.tr (Same.mu (by simp)))
      rw [List.length_append, List.length_singleton] at this
      unfold fillF
      rw [hr]
      exact this
  refine rX8_begin_0 hk ?_
  exact key m [] _ (by simp) (by rw [mu_at, if_pos rfl]) hld_nil (Same.mu (by simp))
/-- the next places in their order -/
def nxtA (n : Nat) : Nat → List Nat → Option (List Nat)
  | 0, _ => none
  | t + 1, p => match nf n (p.take t) (p.getD t 0 + 1) with
    | some s => some (fillF n (p.length - (t + 1)) (p.take t ++ [s]))
    | none => nxtA n t p
def nxt (n : Nat) (p : List Nat) : Option (List Nat) := nxtA n p.length p
set_option maxRecDepth 100000 in
theorem rX8_goOn_0 {x1 : Int} {k0 : Nat} (hk0 : isSeats k0) {σ : Mem} {Q : Int → Mem → Prop} (h : ((inR ((σ k0 1) - 1)) ∧ (GO none mX8_goOn 7 [some (.inr k0), some (.inl x1), some (.inl ((σ k0 1) - 1)), none] [] σ Q))) : CM mX8_goOn [.inr k0, .inl x1] σ Q := by
  refine CM_of_GO (by decide +kernel) rfl (Nat.le_of_ble_eq_true rfl) ?_
  show GO none mX8_goOn 0 [some (.inr k0), some (.inl x1), none, none] [] σ Q
  refine g_aload_n dX8_goOn_0 rfl rfl ?_
  refine g_getI flX8_20 hk0.1 hk0.2.1 (by decide) hk0.2.2.2.1 dX8_goOn_1 ?_
  refine g_iconst dX8_goOn_4 (by decide) ?_
  obtain ⟨p1, h⟩ := h
  refine g_isub dX8_goOn_5 p1 ?_
  refine g_istore_n (ls' := [some (.inr k0), some (.inl x1), some (.inl ((σ k0 1) - 1)), none]) dX8_goOn_6 rfl (by decide) rfl ?_
  exact h
set_option maxRecDepth 100000 in
theorem rX8_goOn_7 {x1 x2 : Int} {k0 : Nat} (hk0 : isSeats k0) {σ : Mem} {Q : Int → Mem → Prop} (h : (x2 < 0 → ((inR (x2 + 1)) ∧ (GO none mX8_goOn 38 [some (.inr k0), some (.inl x1), some (.inl x2), some (.inl (x2 + 1))] [] σ Q))) ∧ (0 ≤ x2 → ((x2 < 5) ∧ (CM mX8_seatBehind [.inr k0, .inl x2, .inl (σ (k0 + 2) (x2).toNat), .inl x1] σ (fun v7 σ8 => (v7 ≠ 0 → ((inR (x2 + 1)) ∧ (GO none mX8_goOn 38 [some (.inr k0), some (.inl x1), some (.inl x2), some (.inl (x2 + 1))] [] σ8 Q))) ∧ (v7 = 0 → ((inR (x2 + (-1))) ∧ (GO none mX8_goOn 7 [some (.inr k0), some (.inl x1), some (.inl (x2 + (-1))), none] [] σ8 Q)))))))) : GO none mX8_goOn 7 [some (.inr k0), some (.inl x1), some (.inl x2), none] [] σ Q := by
  refine g_iload_n dX8_goOn_7 rfl rfl ?_
  refine g_if_lt (tgt := 34) dX8_goOn_8 (by decide) (fun c1 => ?_) (fun c1 => ?_)
  · have h := h.1 c1
    refine g_iload_n dX8_goOn_34 rfl rfl ?_
    refine g_iconst dX8_goOn_35 (by decide) ?_
    obtain ⟨p2, h⟩ := h
    refine g_iadd dX8_goOn_36 p2 ?_
    refine g_istore_n (ls' := [some (.inr k0), some (.inl x1), some (.inl x2), some (.inl (x2 + 1))]) dX8_goOn_37 rfl (by decide) rfl ?_
    exact h
  · have h := h.2 c1
    refine g_aload_n dX8_goOn_11 rfl rfl ?_
    refine g_iload_n dX8_goOn_12 rfl rfl ?_
    refine g_aload_n dX8_goOn_13 rfl rfl ?_
    refine g_getR (r' := (k0 + 1)) flX8_14 hk0.1 hk0.2.1 (by decide) hk0.2.2.1 dX8_goOn_14 ?_
    refine g_iload_n dX8_goOn_17 rfl rfl ?_
    obtain ⟨p3, h⟩ := h
    refine g_invVI (as := [.inl x2]) (rest := [.inl x2, .inr k0]) okX7_get mlX8_24 hk0.2.2.2.2.1 hk0.2.2.2.2.2.2.1 ⟨_, _, rfl⟩ rfl ⟨Nat.le_of_ble_eq_true rfl, Nat.le_of_ble_eq_true rfl⟩ (Nat.le_of_ble_eq_true rfl) rfl dX8_goOn_18 (c_X7_get hk0.2.2.2.2 c1 p3) (Or.inl rfl) (fun v4 σ5 e6 => ?_)
    obtain ⟨e6a, e6b⟩ := e6; subst v4; subst σ5
    refine g_iload_n dX8_goOn_21 rfl rfl ?_
    refine g_invVI (as := [.inl x2, .inl (σ (k0 + 2) (x2).toNat), .inl x1]) (rest := []) okX8_seatBehind mlX8_32 hk0.1 hk0.2.1 ⟨_, _, rfl⟩ rfl ⟨Nat.le_of_ble_eq_true rfl, Nat.le_of_ble_eq_true rfl⟩ (Nat.le_of_ble_eq_true rfl) rfl dX8_goOn_22 h (Or.inr rfl) (fun v7 σ8 e9 => ?_)
    have h := e9
    refine g_if_ne (tgt := 34) dX8_goOn_25 (by decide) (fun c10 => ?_) (fun c10 => ?_)
    · have h := h.1 c10
      refine g_iload_n dX8_goOn_34 rfl rfl ?_
      refine g_iconst dX8_goOn_35 (by decide) ?_
      obtain ⟨p11, h⟩ := h
      refine g_iadd dX8_goOn_36 p11 ?_
      refine g_istore_n (ls' := [some (.inr k0), some (.inl x1), some (.inl x2), some (.inl (x2 + 1))]) dX8_goOn_37 rfl (by decide) rfl ?_
      exact h
    · have h := h.2 c10
      obtain ⟨p12, h⟩ := h
      refine g_iinc (ls' := [some (.inr k0), some (.inl x1), some (.inl (x2 + (-1))), none]) dX8_goOn_28 (by decide) rfl p12 rfl ?_
      refine g_goto (tgt := 7) dX8_goOn_31 (by decide) ?_
      exact h
set_option maxRecDepth 100000 in
theorem rX8_goOn_38 {x1 x2 x3 : Int} {k0 : Nat} (hk0 : isSeats k0) {σ : Mem} {Q : Int → Mem → Prop} (h : (x2 < 0 → (x2 < 0 → Q 0 σ) ∧ (0 ≤ x2 → Q 1 σ)) ∧ (0 ≤ x2 → ((σ k0 1) ≤ x3 → (x2 < 0 → Q 0 σ) ∧ (0 ≤ x2 → Q 1 σ)) ∧ (x3 < (σ k0 1) → CM mX8_seatBehind [.inr k0, .inl x3, .inl (-1), .inl x1] σ (fun v5 σ6 => ((inR (x3 + 1)) ∧ (GO none mX8_goOn 38 [some (.inr k0), some (.inl x1), some (.inl x2), some (.inl (x3 + 1))] [] σ6 Q)))))) : GO none mX8_goOn 38 [some (.inr k0), some (.inl x1), some (.inl x2), some (.inl x3)] [] σ Q := by
  refine g_iload_n dX8_goOn_38 rfl rfl ?_
  refine g_if_lt (tgt := 64) dX8_goOn_39 (by decide) (fun c1 => ?_) (fun c1 => ?_)
  · have h := h.1 c1
    refine g_iload_n dX8_goOn_64 rfl rfl ?_
    refine g_if_lt (tgt := 72) dX8_goOn_65 (by decide) (fun c2 => ?_) (fun c2 => ?_)
    · have h := h.1 c2
      refine g_iconst dX8_goOn_72 (by decide) ?_
      exact g_zreturn rfl dX8_goOn_73 (by decide) h
    · have h := h.2 c2
      refine g_iconst dX8_goOn_68 (by decide) ?_
      refine g_goto (tgt := 73) dX8_goOn_69 (by decide) ?_
      exact g_zreturn rfl dX8_goOn_73 (by decide) h
  · have h := h.2 c1
    refine g_iload_n dX8_goOn_42 rfl rfl ?_
    refine g_aload_n dX8_goOn_43 rfl rfl ?_
    refine g_getI flX8_20 hk0.1 hk0.2.1 (by decide) hk0.2.2.2.1 dX8_goOn_44 ?_
    refine g_icmp_ge (tgt := 64) dX8_goOn_47 (by decide) (fun c3 => ?_) (fun c3 => ?_)
    · have h := h.1 c3
      refine g_iload_n dX8_goOn_64 rfl rfl ?_
      refine g_if_lt (tgt := 72) dX8_goOn_65 (by decide) (fun c4 => ?_) (fun c4 => ?_)
      · have h := h.1 c4
        refine g_iconst dX8_goOn_72 (by decide) ?_
        exact g_zreturn rfl dX8_goOn_73 (by decide) h
      · have h := h.2 c4
        refine g_iconst dX8_goOn_68 (by decide) ?_
        refine g_goto (tgt := 73) dX8_goOn_69 (by decide) ?_
        exact g_zreturn rfl dX8_goOn_73 (by decide) h
    · have h := h.2 c3
      refine g_aload_n dX8_goOn_50 rfl rfl ?_
      refine g_iload_n dX8_goOn_51 rfl rfl ?_
      refine g_iconst dX8_goOn_52 (by decide) ?_
      refine g_iload_n dX8_goOn_53 rfl rfl ?_
      refine g_invVI (as := [.inl x3, .inl (-1), .inl x1]) (rest := []) okX8_seatBehind mlX8_32 hk0.1 hk0.2.1 ⟨_, _, rfl⟩ rfl ⟨Nat.le_of_ble_eq_true rfl, Nat.le_of_ble_eq_true rfl⟩ (Nat.le_of_ble_eq_true rfl) rfl dX8_goOn_54 h (Or.inr rfl) (fun v5 σ6 e7 => ?_)
      have h := e7
      refine g_pop dX8_goOn_57 ?_
      obtain ⟨p8, h⟩ := h
      refine g_iinc (ls' := [some (.inr k0), some (.inl x1), some (.inl x2), some (.inl (x3 + 1))]) dX8_goOn_58 (by decide) rfl p8 rfl ?_
      refine g_goto (tgt := 38) dX8_goOn_61 (by decide) ?_
      exact h
theorem c_X8_goOn {k : Nat} {p : List Nat} {n : Nat} {x1 : Int} {σ : Mem} (hk : isSeats k) (hp : hld σ (k + 2) p) (hc : σ k 1 = p.length) (h5 : p.length ≤ 5) (hpn : p.length ≤ n) (hn : n ≤ 6) (hs : ∀ s ∈ p, s < n) (e1 : x1 = n) : CM mX8_goOn [.inr k, .inl x1] σ (fun v σ1 => match nxt n p with
    | none => v = 0 ∧ σ1 = σ
    | some q => v = 1 ∧ hld σ1 (k + 2) q ∧ Same [k + 2] σ σ1) := by
  subst e1
  -- behind the turn
  have tail : ∀ (d : Nat) (t : Nat) (q : List Nat) (σ0 : Mem), q.length + d = p.length → t < p.length → σ0 k 1 = p.length → hld σ0 (k + 2) q → Same [k + 2] σ σ0 → GO none mX8_goOn 38 [some (.inr k), some (.inl (n : Int)), some (.inl (t : Int)), some (.inl (q.length : Int))] [] σ0 (fun v σ1 => v = 1 ∧ hld σ1 (k + 2) (fillF n d q) ∧ Same [k + 2] σ σ1) := by
    intro d
    induction d with
    | zero =>
      intro t q σ0 hd ht h1 h2 h3
      exact rX8_goOn_38 hk ⟨fun h => by omega, fun h => ⟨fun h' => ⟨fun _ => by omega, fun _ => ⟨rfl, h2, h3⟩⟩, fun h' => by omega⟩⟩
    | succ d ih =>
      intro t q σ0 hd ht h1 h2 h3
      obtain ⟨r, hr⟩ := nf_free (n := n) (pre := q) (by omega)
      refine rX8_goOn_38 hk ⟨fun h => by omega, fun h => ⟨fun h' => by omega, fun h' => ?_⟩⟩
      refine CM.mono (fun v σ1 hq => ?_) (c_X8_seatBehind (lo := 0) hk h2 (by omega) (by omega) hn rfl rfl rfl)
      unfold sbR at hq
      rw [hr] at hq
      obtain ⟨-, rfl⟩ := hq
      refine ⟨by omega, ?_⟩
      have := ih t (q ++ [r]) (mu σ0 (k + 2) q.length r) (by rw [List.length_append, List.length_singleton]; omega) ht (by rw [mu_ne k (by omega)]; exact h1) (h2.snoc r) (h3.tr (Same.mu (by simp)))
      rw [List.length_append, List.length_singleton] at this
      unfold fillF
      rw [hr]
      exact this
  have key : ∀ (t : Nat), t ≤ p.length → GO none mX8_goOn 7 [some (.inr k), some (.inl (n : Int)), some (.inl ((t : Int) - 1)), none] [] σ (fun v σ1 => match nxtA n t p with
    | none => v = 0 ∧ σ1 = σ
    | some q => v = 1 ∧ hld σ1 (k + 2) q ∧ Same [k + 2] σ σ1) := by
    intro t
    induction t with
    | zero =>
      intro _
      refine rX8_goOn_7 hk ⟨fun h => ⟨by omega, ?_⟩, fun h => by omega⟩
      exact rX8_goOn_38 hk ⟨fun h => ⟨fun _ => ⟨rfl, rfl⟩, fun h' => by omega⟩, fun h => by omega⟩
    | succ t ih =>
      intro ht
      refine rX8_goOn_7 hk ⟨fun h => by omega, fun h => ⟨by omega, ?_⟩⟩
      have et : (((t + 1 : Nat) : Int) - 1) = (t : Int) := by omega
      have hsl : (p.take t).length = t := by rw [List.length_take]; omega
      have hpt : σ (k + 2) t = ((p.getD t 0 : Nat) : Int) := by
        rw [hp t (by omega)]
        simp [List.getD, show t < p.length by omega]
      have hlt : p.getD t 0 < n := by
        have : p.getD t 0 ∈ p := by
          have e : p.getD t 0 = p[t] := by simp [List.getD, show t < p.length by omega]
          rw [e]
          exact List.getElem_mem _
        exact hs _ this
      rw [et, Int.toNat_natCast]
      refine CM.mono (fun v σ1 hq => ?_) (c_X8_seatBehind (pre := p.take t) (lo := p.getD t 0 + 1) (n := n) hk (hp.take t) (by omega) (by omega) hn (by rw [hsl]) (by rw [hpt]; omega) rfl)
      unfold sbR at hq
      cases hr : nf n (p.take t) (p.getD t 0 + 1) with
      | none =>
        rw [hr] at hq
        obtain ⟨rfl, rfl⟩ := hq
        refine ⟨fun h' => by omega, fun _ => ⟨by omega, ?_⟩⟩
        have := ih (by omega)
        unfold nxtA
        rw [hr]
        exact this
      | some s =>
        rw [hr] at hq
        obtain ⟨rfl, rfl⟩ := hq
        refine ⟨fun _ => ⟨by omega, ?_⟩, fun h' => by omega⟩
        have h6 := (hp.take t).snoc s
        have := tail (p.length - (t + 1)) t (p.take t ++ [s]) (mu σ (k + 2) (p.take t).length s) (by rw [List.length_append, List.length_singleton, hsl]; omega) (by omega) (by rw [mu_ne k (by omega)]; exact hc) h6 (Same.mu (by simp))
        rw [List.length_append, List.length_singleton, hsl] at this
        unfold nxtA
        rw [hr, hsl]
        exact this
  refine rX8_goOn_0 hk ⟨by omega, ?_⟩
  rw [hc]
  exact key p.length (Nat.le_refl _)
end
section
/-! ===== places: told, read, copied, compared ===== -/
theorem seats_ne {a b : Nat} (ha : isSeats a) (hb : isSeats b) : a ≠ b + 2 := by
  intro h
  have h1 := ha.2.1
  have h2 : shp (b + 2) = (12, 5) := hb.2.2.2.2.2.2.2.2
  rw [h, h2] at h1
  cases h1
def isPl (m n : Nat) (p : List Nat) : Prop := p.length = m ∧ (∀ s ∈ p, s < n) ∧ p.Nodup
def tld : List Nat → Int
  | [] => 0
  | s :: p => (s : Int) + 6 * tld p
theorem tld_nn : ∀ p, 0 ≤ tld p
  | [] => Int.le_refl _
  | s :: p => by have := tld_nn p; unfold tld; omega
theorem tld_lt : ∀ (p : List Nat), (∀ s ∈ p, s < 6) → tld p < (6 ^ p.length : Nat)
  | [], _ => by decide
  | s :: p, h => by
    have h1 := List.forall_mem_cons.mp h
    have := tld_lt p h1.2
    unfold tld
    rw [List.length_cons, Nat.pow_succ]
    omega
theorem pow6_le {m : Nat} (h : m ≤ 5) : 6 ^ m ≤ 7776 := by
  rcases (show m = 0 ∨ m = 1 ∨ m = 2 ∨ m = 3 ∨ m = 4 ∨ m = 5 by omega) with rfl | rfl | rfl | rfl | rfl | rfl <;> decide
set_option maxRecDepth 100000 in
theorem rX8_addShop_0 {x1 : Int} {k0 : Nat} (hk0 : isSeats k0) {σ : Mem} {Q : Int → Mem → Prop} (h : ((inR ((σ k0 1) + 1)) ∧ (((inR (((σ k0 1) + 1) - 1)) ∧ (CM mX8_seatBehind [.inr k0, .inl (((σ k0 1) + 1) - 1), .inl (-1), .inl x1] (mu σ k0 1 ((σ k0 1) + 1)) (fun v3 σ4 => Q 0 σ4)))))) : CM mX8_addShop [.inr k0, .inl x1] σ Q := by
  refine CM_of_GO (by decide +kernel) rfl (Nat.le_of_ble_eq_true rfl) ?_
  show GO none mX8_addShop 0 [some (.inr k0), some (.inl x1)] [] σ Q
  refine g_aload_n dX8_addShop_0 rfl rfl ?_
  refine g_dup dX8_addShop_1 ?_
  refine g_getI flX8_20 hk0.1 hk0.2.1 (by decide) hk0.2.2.2.1 dX8_addShop_2 ?_
  refine g_iconst dX8_addShop_5 (by decide) ?_
  obtain ⟨p1, h⟩ := h
  refine g_iadd dX8_addShop_6 p1 ?_
  refine g_putI fpX8_20 hk0.1 hk0.2.1 (by decide) hk0.2.2.2.1 (Or.inl rfl) dX8_addShop_7 ?_
  refine g_aload_n dX8_addShop_10 rfl rfl ?_
  refine g_aload_n dX8_addShop_11 rfl rfl ?_
  refine g_getI flX8_20 hk0.1 hk0.2.1 (by decide) hk0.2.2.2.1 dX8_addShop_12 ?_
  refine g_top (w := ((σ k0 1) + 1)) (by simp [mu] <;> (intros; omega)) ?_
  refine g_iconst dX8_addShop_15 (by decide) ?_
  obtain ⟨p2, h⟩ := h
  refine g_isub dX8_addShop_16 p2 ?_
  refine g_iconst dX8_addShop_17 (by decide) ?_
  refine g_iload_n dX8_addShop_18 rfl rfl ?_
  refine g_invVI (as := [.inl (((σ k0 1) + 1) - 1), .inl (-1), .inl x1]) (rest := []) okX8_seatBehind mlX8_32 hk0.1 hk0.2.1 ⟨_, _, rfl⟩ rfl ⟨Nat.le_of_ble_eq_true rfl, Nat.le_of_ble_eq_true rfl⟩ (Nat.le_of_ble_eq_true rfl) rfl dX8_addShop_19 h (Or.inr rfl) (fun v3 σ4 e5 => ?_)
  have h := e5
  refine g_pop dX8_addShop_22 ?_
  exact g_return rfl dX8_addShop_23 h
set_option maxRecDepth 100000 in
theorem rX8_copy_0 {k0 : Nat} (hk0 : isSeats k0) {k1 : Nat} (hk1 : isSeats k1) {σ : Mem} {Q : Int → Mem → Prop} (h : GO none mX8_copy 10 [some (.inr k0), some (.inr k1), some (.inl 0)] [] (mu σ k0 1 (σ k1 1)) Q) : CM mX8_copy [.inr k0, .inr k1] σ Q := by
  refine CM_of_GO (by decide +kernel) rfl (Nat.le_of_ble_eq_true rfl) ?_
  show GO none mX8_copy 0 [some (.inr k0), some (.inr k1), none] [] σ Q
  refine g_aload_n dX8_copy_0 rfl rfl ?_
  refine g_aload_n dX8_copy_1 rfl rfl ?_
  refine g_getI flX8_20 hk1.1 hk1.2.1 (by decide) hk1.2.2.2.1 dX8_copy_2 ?_
  refine g_putI fpX8_20 hk0.1 hk0.2.1 (by decide) hk0.2.2.2.1 (Or.inl rfl) dX8_copy_5 ?_
  refine g_iconst dX8_copy_8 (by decide) ?_
  refine g_istore_n (ls' := [some (.inr k0), some (.inr k1), some (.inl 0)]) dX8_copy_9 rfl (by decide) rfl ?_
  exact h
set_option maxRecDepth 100000 in
theorem rX8_copy_10 {x2 : Int} {k0 : Nat} (hk0 : isSeats k0) {k1 : Nat} (hk1 : isSeats k1) {σ : Mem} {Q : Int → Mem → Prop} (h : ((σ k0 1) ≤ x2 → Q 0 σ) ∧ (x2 < (σ k0 1) → ((0 ≤ x2) ∧ (((x2 < 5) ∧ (((inR (x2 + 1)) ∧ (GO none mX8_copy 10 [some (.inr k0), some (.inr k1), some (.inl (x2 + 1))] [] (mu σ (k0 + 2) (x2).toNat (σ (k1 + 2) (x2).toNat)) Q)))))))) : GO none mX8_copy 10 [some (.inr k0), some (.inr k1), some (.inl x2)] [] σ Q := by
  refine g_iload_n dX8_copy_10 rfl rfl ?_
  refine g_aload_n dX8_copy_11 rfl rfl ?_
  refine g_getI flX8_20 hk0.1 hk0.2.1 (by decide) hk0.2.2.2.1 dX8_copy_12 ?_
  refine g_icmp_ge (tgt := 40) dX8_copy_15 (by decide) (fun c1 => ?_) (fun c1 => ?_)
  · have h := h.1 c1
    exact g_return rfl dX8_copy_40 h
  · have h := h.2 c1
    refine g_aload_n dX8_copy_18 rfl rfl ?_
    refine g_getR (r' := (k0 + 1)) flX8_14 hk0.1 hk0.2.1 (by decide) hk0.2.2.1 dX8_copy_19 ?_
    refine g_iload_n dX8_copy_22 rfl rfl ?_
    refine g_aload_n dX8_copy_23 rfl rfl ?_
    refine g_getR (r' := (k1 + 1)) flX8_14 hk1.1 hk1.2.1 (by decide) hk1.2.2.1 dX8_copy_24 ?_
    refine g_iload_n dX8_copy_27 rfl rfl ?_
    obtain ⟨p2, h⟩ := h
    obtain ⟨p3, h⟩ := h
    refine g_invVI (as := [.inl x2]) (rest := [.inl x2, .inr (k0 + 1)]) okX7_get mlX8_24 hk1.2.2.2.2.1 hk1.2.2.2.2.2.2.1 ⟨_, _, rfl⟩ rfl ⟨Nat.le_of_ble_eq_true rfl, Nat.le_of_ble_eq_true rfl⟩ (Nat.le_of_ble_eq_true rfl) rfl dX8_copy_28 (c_X7_get hk1.2.2.2.2 p2 p3) (Or.inl rfl) (fun v4 σ5 e6 => ?_)
    obtain ⟨e6a, e6b⟩ := e6; subst v4; subst σ5
    refine g_invVV (as := [.inl x2, .inl (σ (k1 + 2) (x2).toNat)]) (rest := []) okX7_set mlX8_28 hk0.2.2.2.2.1 hk0.2.2.2.2.2.2.1 ⟨_, _, rfl⟩ rfl ⟨Nat.le_of_ble_eq_true rfl, Nat.le_of_ble_eq_true rfl⟩ (Nat.le_of_ble_eq_true rfl) rfl dX8_copy_31 (c_X7_set hk0.2.2.2.2 p2 p3) rfl (fun σ8 e9 => ?_)
    subst σ8
    obtain ⟨p10, h⟩ := h
    refine g_iinc (ls' := [some (.inr k0), some (.inr k1), some (.inl (x2 + 1))]) dX8_copy_34 (by decide) rfl p10 rfl ?_
    refine g_goto (tgt := 10) dX8_copy_37 (by decide) ?_
    exact h
set_option maxRecDepth 100000 in
theorem rX8_told_0 {k0 : Nat} (hk0 : isSeats k0) {σ : Mem} {Q : Int → Mem → Prop} (h : ((inR ((σ k0 1) - 1)) ∧ (GO none mX8_told 9 [some (.inr k0), some (.inl 0), some (.inl ((σ k0 1) - 1))] [] σ Q))) : CM mX8_told [.inr k0] σ Q := by
  refine CM_of_GO (by decide +kernel) rfl (Nat.le_of_ble_eq_true rfl) ?_
  show GO none mX8_told 0 [some (.inr k0), none, none] [] σ Q
  refine g_iconst dX8_told_0 (by decide) ?_
  refine g_istore_n (ls' := [some (.inr k0), some (.inl 0), none]) dX8_told_1 rfl (by decide) rfl ?_
  refine g_aload_n dX8_told_2 rfl rfl ?_
  refine g_getI flX8_20 hk0.1 hk0.2.1 (by decide) hk0.2.2.2.1 dX8_told_3 ?_
  refine g_iconst dX8_told_6 (by decide) ?_
  obtain ⟨p1, h⟩ := h
  refine g_isub dX8_told_7 p1 ?_
  refine g_istore_n (ls' := [some (.inr k0), some (.inl 0), some (.inl ((σ k0 1) - 1))]) dX8_told_8 rfl (by decide) rfl ?_
  exact h
set_option maxRecDepth 100000 in
theorem rX8_told_9 {x1 x2 : Int} {k0 : Nat} (hk0 : isSeats k0) {σ : Mem} {Q : Int → Mem → Prop} (h : (x2 < 0 → Q x1 σ) ∧ (0 ≤ x2 → ((inR (x1 * 6)) ∧ (((x2 < 5) ∧ (((inR ((x1 * 6) + (σ (k0 + 2) (x2).toNat))) ∧ (((inR (x2 + (-1))) ∧ (GO none mX8_told 9 [some (.inr k0), some (.inl ((x1 * 6) + (σ (k0 + 2) (x2).toNat))), some (.inl (x2 + (-1)))] [] σ Q)))))))))) : GO none mX8_told 9 [some (.inr k0), some (.inl x1), some (.inl x2)] [] σ Q := by
  refine g_iload_n dX8_told_9 rfl rfl ?_
  refine g_if_lt (tgt := 33) dX8_told_10 (by decide) (fun c1 => ?_) (fun c1 => ?_)
  · have h := h.1 c1
    refine g_iload_n dX8_told_33 rfl rfl ?_
    exact g_ireturn rfl dX8_told_34 h
  · have h := h.2 c1
    refine g_iload_n dX8_told_13 rfl rfl ?_
    refine g_bipush dX8_told_14 (by decide) (by decide) ?_
    obtain ⟨p2, h⟩ := h
    refine g_imul dX8_told_16 p2 ?_
    refine g_aload_n dX8_told_17 rfl rfl ?_
    refine g_getR (r' := (k0 + 1)) flX8_14 hk0.1 hk0.2.1 (by decide) hk0.2.2.1 dX8_told_18 ?_
    refine g_iload_n dX8_told_21 rfl rfl ?_
    obtain ⟨p3, h⟩ := h
    refine g_invVI (as := [.inl x2]) (rest := [.inl (x1 * 6)]) okX7_get mlX8_24 hk0.2.2.2.2.1 hk0.2.2.2.2.2.2.1 ⟨_, _, rfl⟩ rfl ⟨Nat.le_of_ble_eq_true rfl, Nat.le_of_ble_eq_true rfl⟩ (Nat.le_of_ble_eq_true rfl) rfl dX8_told_22 (c_X7_get hk0.2.2.2.2 c1 p3) (Or.inl rfl) (fun v4 σ5 e6 => ?_)
    obtain ⟨e6a, e6b⟩ := e6; subst v4; subst σ5
    obtain ⟨p7, h⟩ := h
    refine g_iadd dX8_told_25 p7 ?_
    refine g_istore_n (ls' := [some (.inr k0), some (.inl ((x1 * 6) + (σ (k0 + 2) (x2).toNat))), some (.inl x2)]) dX8_told_26 rfl (by decide) rfl ?_
    obtain ⟨p8, h⟩ := h
    refine g_iinc (ls' := [some (.inr k0), some (.inl ((x1 * 6) + (σ (k0 + 2) (x2).toNat))), some (.inl (x2 + (-1)))]) dX8_told_27 (by decide) rfl p8 rfl ?_
    refine g_goto (tgt := 9) dX8_told_30 (by decide) ?_
    exact h
set_option maxRecDepth 100000 in
theorem rX8_comesBefore_0 {k0 : Nat} (hk0 : isSeats k0) {k1 : Nat} (hk1 : isSeats k1) {σ : Mem} {Q : Int → Mem → Prop} (h : GO none mX8_comesBefore 2 [some (.inr k0), some (.inr k1), some (.inl 0), none, none] [] σ Q) : CM mX8_comesBefore [.inr k0, .inr k1] σ Q := by
  refine CM_of_GO (by decide +kernel) rfl (Nat.le_of_ble_eq_true rfl) ?_
  show GO none mX8_comesBefore 0 [some (.inr k0), some (.inr k1), none, none, none] [] σ Q
  refine g_iconst dX8_comesBefore_0 (by decide) ?_
  refine g_istore_n (ls' := [some (.inr k0), some (.inr k1), some (.inl 0), none, none]) dX8_comesBefore_1 rfl (by decide) rfl ?_
  exact h
set_option maxRecDepth 100000 in
theorem rX8_comesBefore_2 {x2 : Int} {k0 : Nat} (hk0 : isSeats k0) {k1 : Nat} (hk1 : isSeats k1) {σ : Mem} {Q : Int → Mem → Prop} (h : ((σ k0 1) ≤ x2 → Q 0 σ) ∧ (x2 < (σ k0 1) → ((0 ≤ x2) ∧ (((x2 < 5) ∧ (((σ (k0 + 2) (x2).toNat) = (σ (k1 + 2) (x2).toNat) → ((inR (x2 + 1)) ∧ (GO none mX8_comesBefore 2 [some (.inr k0), some (.inr k1), some (.inl (x2 + 1)), none, none] [] σ Q))) ∧ ((σ (k0 + 2) (x2).toNat) ≠ (σ (k1 + 2) (x2).toNat) → ((σ (k1 + 2) (x2).toNat) ≤ (σ (k0 + 2) (x2).toNat) → Q 0 σ) ∧ ((σ (k0 + 2) (x2).toNat) < (σ (k1 + 2) (x2).toNat) → Q 1 σ)))))))) : GO none mX8_comesBefore 2 [some (.inr k0), some (.inr k1), some (.inl x2), none, none] [] σ Q := by
  refine g_iload_n dX8_comesBefore_2 rfl rfl ?_
  refine g_aload_n dX8_comesBefore_3 rfl rfl ?_
  refine g_getI flX8_20 hk0.1 hk0.2.1 (by decide) hk0.2.2.2.1 dX8_comesBefore_4 ?_
  refine g_icmp_ge (tgt := 53) dX8_comesBefore_7 (by decide) (fun c1 => ?_) (fun c1 => ?_)
  · have h := h.1 c1
    refine g_iconst dX8_comesBefore_53 (by decide) ?_
    exact g_zreturn rfl dX8_comesBefore_54 (by decide) h
  · have h := h.2 c1
    refine g_aload_n dX8_comesBefore_10 rfl rfl ?_
    refine g_getR (r' := (k0 + 1)) flX8_14 hk0.1 hk0.2.1 (by decide) hk0.2.2.1 dX8_comesBefore_11 ?_
    refine g_iload_n dX8_comesBefore_14 rfl rfl ?_
    obtain ⟨p2, h⟩ := h
    obtain ⟨p3, h⟩ := h
    refine g_invVI (as := [.inl x2]) (rest := []) okX7_get mlX8_24 hk0.2.2.2.2.1 hk0.2.2.2.2.2.2.1 ⟨_, _, rfl⟩ rfl ⟨Nat.le_of_ble_eq_true rfl, Nat.le_of_ble_eq_true rfl⟩ (Nat.le_of_ble_eq_true rfl) rfl dX8_comesBefore_15 (c_X7_get hk0.2.2.2.2 p2 p3) (Or.inl rfl) (fun v4 σ5 e6 => ?_)
    obtain ⟨e6a, e6b⟩ := e6; subst v4; subst σ5
    refine g_istore_n (ls' := [some (.inr k0), some (.inr k1), some (.inl x2), some (.inl (σ (k0 + 2) (x2).toNat)), none]) dX8_comesBefore_18 rfl (by decide) rfl ?_
    refine g_aload_n dX8_comesBefore_19 rfl rfl ?_
    refine g_getR (r' := (k1 + 1)) flX8_14 hk1.1 hk1.2.1 (by decide) hk1.2.2.1 dX8_comesBefore_20 ?_
    refine g_iload_n dX8_comesBefore_23 rfl rfl ?_
    refine g_invVI (as := [.inl x2]) (rest := []) okX7_get mlX8_24 hk1.2.2.2.2.1 hk1.2.2.2.2.2.2.1 ⟨_, _, rfl⟩ rfl ⟨Nat.le_of_ble_eq_true rfl, Nat.le_of_ble_eq_true rfl⟩ (Nat.le_of_ble_eq_true rfl) rfl dX8_comesBefore_24 (c_X7_get hk1.2.2.2.2 p2 p3) (Or.inl rfl) (fun v7 σ8 e9 => ?_)
    obtain ⟨e9a, e9b⟩ := e9; subst v7; subst σ8
    refine g_istore (ls' := [some (.inr k0), some (.inr k1), some (.inl x2), some (.inl (σ (k0 + 2) (x2).toNat)), some (.inl (σ (k1 + 2) (x2).toNat))]) dX8_comesBefore_27 (by decide) rfl ?_
    refine g_iload_n dX8_comesBefore_29 rfl rfl ?_
    refine g_iload dX8_comesBefore_30 rfl ?_
    refine g_icmp_eq (tgt := 47) dX8_comesBefore_32 (by decide) (fun c10 => ?_) (fun c10 => ?_)
    · have h := h.1 c10
      obtain ⟨p11, h⟩ := h
      refine g_iinc (ls' := [some (.inr k0), some (.inr k1), some (.inl (x2 + 1)), some (.inl (σ (k0 + 2) (x2).toNat)), some (.inl (σ (k1 + 2) (x2).toNat))]) dX8_comesBefore_47 (by decide) rfl p11 rfl ?_
      refine g_goto (tgt := 2) dX8_comesBefore_50 (by decide) ?_
      refine g_kill (i := 3) (ls' := [some (.inr k0), some (.inr k1), some (.inl (x2 + 1)), none, some (.inl (σ (k1 + 2) (x2).toNat))]) rfl ?_
      refine g_kill (i := 4) (ls' := [some (.inr k0), some (.inr k1), some (.inl (x2 + 1)), none, none]) rfl ?_
      exact h
    · have h := h.2 c10
      refine g_iload_n dX8_comesBefore_35 rfl rfl ?_
      refine g_iload dX8_comesBefore_36 rfl ?_
      refine g_icmp_ge (tgt := 45) dX8_comesBefore_38 (by decide) (fun c12 => ?_) (fun c12 => ?_)
      · have h := h.1 c12
        refine g_iconst dX8_comesBefore_45 (by decide) ?_
        exact g_zreturn rfl dX8_comesBefore_46 (by decide) h
      · have h := h.2 c12
        refine g_iconst dX8_comesBefore_41 (by decide) ?_
        refine g_goto (tgt := 46) dX8_comesBefore_42 (by decide) ?_
        exact g_zreturn rfl dX8_comesBefore_46 (by decide) h
set_option maxRecDepth 100000 in
theorem rX8_read_0 {x1 x2 x3 : Int} {k0 : Nat} (hk0 : isSeats k0) {σ : Mem} {Q : Int → Mem → Prop} (h : GO none mX8_read 8 [some (.inr k0), some (.inl x1), some (.inl x2), some (.inl x3), some (.inl x1), none] [] (mu σ k0 1 0) Q) : CM mX8_read [.inr k0, .inl x1, .inl x2, .inl x3] σ Q := by
  refine CM_of_GO (by decide +kernel) rfl (Nat.le_of_ble_eq_true rfl) ?_
  show GO none mX8_read 0 [some (.inr k0), some (.inl x1), some (.inl x2), some (.inl x3), none, none] [] σ Q
  refine g_iload_n dX8_read_0 rfl rfl ?_
  refine g_istore (ls' := [some (.inr k0), some (.inl x1), some (.inl x2), some (.inl x3), some (.inl x1), none]) dX8_read_1 (by decide) rfl ?_
  refine g_aload_n dX8_read_3 rfl rfl ?_
  refine g_iconst dX8_read_4 (by decide) ?_
  refine g_putI fpX8_20 hk0.1 hk0.2.1 (by decide) hk0.2.2.2.1 (Or.inl rfl) dX8_read_5 ?_
  exact h
set_option maxRecDepth 100000 in
theorem rX8_read_8 {x1 x2 x3 x4 : Int} {k0 : Nat} (hk0 : isSeats k0) {σ : Mem} {Q : Int → Mem → Prop} (h : (x2 ≤ (σ k0 1) → (x4 ≠ 0 → Q 0 σ) ∧ (x4 = 0 → Q 1 σ)) ∧ ((σ k0 1) < x2 → ((Int.tmod x4 6) < 0 → Q 0 σ) ∧ (0 ≤ (Int.tmod x4 6) → (x3 ≤ (Int.tmod x4 6) → Q 0 σ) ∧ ((Int.tmod x4 6) < x3 → (((σ k0 1) ≤ 5) ∧ (((whoF (σ (k0 + 2)) (Int.tmod x4 6) 0 ((σ k0 1)).toNat) = (-1) → ((0 ≤ (σ k0 1)) ∧ ((((σ k0 1) < 5) ∧ (((inR ((σ k0 1) + 1)) ∧ (GO none mX8_read 8 [some (.inr k0), some (.inl x1), some (.inl x2), some (.inl x3), some (.inl (Int.tdiv x4 6)), none] [] (mu (mu σ (k0 + 2) ((σ k0 1)).toNat (Int.tmod x4 6)) k0 1 ((σ k0 1) + 1)) Q))))))) ∧ ((whoF (σ (k0 + 2)) (Int.tmod x4 6) 0 ((σ k0 1)).toNat) ≠ (-1) → Q 0 σ))))))) : GO none mX8_read 8 [some (.inr k0), some (.inl x1), some (.inl x2), some (.inl x3), some (.inl x4), none] [] σ Q := by
  refine g_aload_n dX8_read_8 rfl rfl ?_
  refine g_getI flX8_20 hk0.1 hk0.2.1 (by decide) hk0.2.2.2.1 dX8_read_9 ?_
  refine g_iload_n dX8_read_12 rfl rfl ?_
  refine g_icmp_ge (tgt := 83) dX8_read_13 (by decide) (fun c1 => ?_) (fun c1 => ?_)
  · have h := h.1 c1
    refine g_iload dX8_read_83 rfl ?_
    refine g_if_ne (tgt := 92) dX8_read_85 (by decide) (fun c2 => ?_) (fun c2 => ?_)
    · have h := h.1 c2
      refine g_iconst dX8_read_92 (by decide) ?_
      exact g_zreturn rfl dX8_read_93 (by decide) h
    · have h := h.2 c2
      refine g_iconst dX8_read_88 (by decide) ?_
      refine g_goto (tgt := 93) dX8_read_89 (by decide) ?_
      exact g_zreturn rfl dX8_read_93 (by decide) h
  · have h := h.2 c1
    refine g_iload dX8_read_16 rfl ?_
    refine g_bipush dX8_read_18 (by decide) (by decide) ?_
    refine g_irem dX8_read_20 (by decide) ?_
    refine g_istore (ls' := [some (.inr k0), some (.inl x1), some (.inl x2), some (.inl x3), some (.inl x4), some (.inl (Int.tmod x4 6))]) dX8_read_21 (by decide) rfl ?_
    refine g_iload dX8_read_23 rfl ?_
    refine g_if_lt (tgt := 48) dX8_read_25 (by decide) (fun c3 => ?_) (fun c3 => ?_)
    · have h := h.1 c3
      refine g_iconst dX8_read_48 (by decide) ?_
      exact g_zreturn rfl dX8_read_49 (by decide) h
    · have h := h.2 c3
      refine g_iload dX8_read_28 rfl ?_
      refine g_iload_n dX8_read_30 rfl rfl ?_
      refine g_icmp_ge (tgt := 48) dX8_read_31 (by decide) (fun c4 => ?_) (fun c4 => ?_)
      · have h := h.1 c4
        refine g_iconst dX8_read_48 (by decide) ?_
        exact g_zreturn rfl dX8_read_49 (by decide) h
      · have h := h.2 c4
        refine g_aload_n dX8_read_34 rfl rfl ?_
        refine g_iload dX8_read_35 rfl ?_
        refine g_aload_n dX8_read_37 rfl rfl ?_
        refine g_getI flX8_20 hk0.1 hk0.2.1 (by decide) hk0.2.2.2.1 dX8_read_38 ?_
        obtain ⟨p5, h⟩ := h
        refine g_invVI (as := [.inl (Int.tmod x4 6), .inl (σ k0 1)]) (rest := []) okX8_whoIsAt mlX8_36 hk0.1 hk0.2.1 ⟨_, _, rfl⟩ rfl ⟨Nat.le_of_ble_eq_true rfl, Nat.le_of_ble_eq_true rfl⟩ (Nat.le_of_ble_eq_true rfl) rfl dX8_read_41 (c_X8_whoIsAt hk0 p5) (Or.inl rfl) (fun v6 σ7 e8 => ?_)
        obtain ⟨e8a, e8b⟩ := e8; subst v6; subst σ7
        refine g_iconst dX8_read_44 (by decide) ?_
        refine g_icmp_eq (tgt := 50) dX8_read_45 (by decide) (fun c9 => ?_) (fun c9 => ?_)
        · have h := h.1 c9
          refine g_aload_n dX8_read_50 rfl rfl ?_
          refine g_getR (r' := (k0 + 1)) flX8_14 hk0.1 hk0.2.1 (by decide) hk0.2.2.1 dX8_read_51 ?_
          refine g_aload_n dX8_read_54 rfl rfl ?_
          refine g_getI flX8_20 hk0.1 hk0.2.1 (by decide) hk0.2.2.2.1 dX8_read_55 ?_
          refine g_iload dX8_read_58 rfl ?_
          obtain ⟨p10, h⟩ := h
          obtain ⟨p11, h⟩ := h
          refine g_invVV (as := [.inl (σ k0 1), .inl (Int.tmod x4 6)]) (rest := []) okX7_set mlX8_28 hk0.2.2.2.2.1 hk0.2.2.2.2.2.2.1 ⟨_, _, rfl⟩ rfl ⟨Nat.le_of_ble_eq_true rfl, Nat.le_of_ble_eq_true rfl⟩ (Nat.le_of_ble_eq_true rfl) rfl dX8_read_60 (c_X7_set hk0.2.2.2.2 p10 p11) rfl (fun σ13 e14 => ?_)
          subst σ13
          refine g_iload dX8_read_63 rfl ?_
          refine g_bipush dX8_read_65 (by decide) (by decide) ?_
          refine g_idiv dX8_read_67 (by decide) ?_
          refine g_istore (ls' := [some (.inr k0), some (.inl x1), some (.inl x2), some (.inl x3), some (.inl (Int.tdiv x4 6)), some (.inl (Int.tmod x4 6))]) dX8_read_68 (by decide) rfl ?_
          refine g_aload_n dX8_read_70 rfl rfl ?_
          refine g_dup dX8_read_71 ?_
          refine g_getI flX8_20 hk0.1 hk0.2.1 (by decide) hk0.2.2.2.1 dX8_read_72 ?_
          refine g_top (w := (σ k0 1)) (by simp [mu] <;> (intros; omega)) ?_
          refine g_iconst dX8_read_75 (by decide) ?_
          obtain ⟨p15, h⟩ := h
          refine g_iadd dX8_read_76 p15 ?_
          refine g_putI fpX8_20 hk0.1 hk0.2.1 (by decide) hk0.2.2.2.1 (Or.inl rfl) dX8_read_77 ?_
          refine g_goto (tgt := 8) dX8_read_80 (by decide) ?_
          refine g_kill (i := 5) (ls' := [some (.inr k0), some (.inl x1), some (.inl x2), some (.inl x3), some (.inl (Int.tdiv x4 6)), none]) rfl ?_
          exact h
        · have h := h.2 c9
          refine g_iconst dX8_read_48 (by decide) ?_
          exact g_zreturn rfl dX8_read_49 (by decide) h
theorem c_X8_addShop {k : Nat} {p : List Nat} {n r : Nat} {x1 : Int} {σ : Mem} (hk : isSeats k) (hp : hld σ (k + 2) p) (hc : σ k 1 = p.length) (h5 : p.length < 5) (hn : n ≤ 6) (hr : nf n p 0 = some r) (e1 : x1 = n) : CM mX8_addShop [.inr k, .inl x1] σ (fun _ σ1 => σ1 k 1 = (p.length : Int) + 1 ∧ hld σ1 (k + 2) (p ++ [r]) ∧ σ1 = mu (mu σ k 1 ((p.length : Int) + 1)) (k + 2) p.length (r : Int)) := by
  subst e1
  refine rX8_addShop_0 hk ⟨by omega, by omega, ?_⟩
  rw [hc]
  have hp1 : hld (mu σ k 1 ((p.length : Int) + 1)) (k + 2) p := hp.cong (mu_nef (by omega))
  refine CM.mono (fun v σ1 hq => ?_) (c_X8_seatBehind (pre := p) (lo := 0) (n := n) hk hp1 h5 (by omega) hn (by omega) rfl rfl)
  unfold sbR at hq
  rw [hr] at hq
  obtain ⟨-, rfl⟩ := hq
  refine ⟨?_, hp1.snoc r, rfl⟩
  rw [mu_ne k (by omega), mu_at, if_pos rfl]
theorem c_X8_copy {k j : Nat} {p : List Nat} {σ : Mem} (hk : isSeats k) (hj : isSeats j) (hne : k ≠ j) (hp : hld σ (j + 2) p) (hc : σ j 1 = p.length) (h5 : p.length ≤ 5) : CM mX8_copy [.inr k, .inr j] σ (fun _ σ1 => σ1 k 1 = p.length ∧ hld σ1 (k + 2) p ∧ Same [k, k + 2] σ σ1) := by
  have n1 := seats_ne hj hk
  have n2 := seats_ne hk hj
  have key : ∀ (d i : Nat) (σ0 : Mem), i + d = p.length → σ0 k 1 = p.length → hld σ0 (k + 2) (p.take i) → Same [k, k + 2] σ σ0 → GO none mX8_copy 10 [some (.inr k), some (.inr j), some (.inl (i : Int))] [] σ0 (fun _ σ1 => σ1 k 1 = p.length ∧ hld σ1 (k + 2) p ∧ Same [k, k + 2] σ σ1) := by
    intro d
    induction d with
    | zero =>
      intro i σ0 hd h1 h2 h3
      refine rX8_copy_10 hk hj ⟨fun h => ⟨h1, ?_, h3⟩, fun h => by omega⟩
      rw [show i = p.length by omega, List.take_length] at h2
      exact h2
    | succ d ih =>
      intro i σ0 hd h1 h2 h3
      refine rX8_copy_10 hk hj ⟨fun h => by omega, fun h => ⟨by omega, by omega, by omega, ?_⟩⟩
      rw [Int.toNat_natCast]
      have hi : i < p.length := by omega
      have e1 : σ0 (j + 2) i = (p[i] : Int) := by
        rw [h3 (j + 2) (by simp; omega)]
        exact hp i hi
      rw [e1]
      have hs := h2.snoc p[i]
      have el : (p.take i).length = i := by rw [List.length_take]; omega
      rw [el, List.take_append_getElem hi] at hs
      exact ih (i + 1) (mu σ0 (k + 2) i (p[i] : Int)) (by omega) (by rw [mu_ne k (by omega)]; exact h1) hs (h3.tr (Same.mu (by simp)))
  refine rX8_copy_0 hk hj ?_
  exact key p.length 0 _ (by omega) (by rw [mu_at, if_pos rfl]; exact hc) hld_nil (Same.mu (by simp))
theorem drop_tld {p : List Nat} {i : Nat} (h : i < p.length) : tld (p.drop i) = (p[i] : Int) + 6 * tld (p.drop (i + 1)) := by
  rw [List.drop_eq_getElem_cons h]
  rfl
theorem c_X8_told {k : Nat} {p : List Nat} {σ : Mem} (hk : isSeats k) (hp : hld σ (k + 2) p) (hc : σ k 1 = p.length) (h5 : p.length ≤ 5) (hs : ∀ s ∈ p, s < 6) : CM mX8_told [.inr k] σ (fun v σ1 => v = tld p ∧ σ1 = σ) := by
  have hb : ∀ i, 0 ≤ tld (p.drop i) ∧ tld (p.drop i) < 7776 := fun i => by
    refine ⟨tld_nn _, ?_⟩
    have h1 := tld_lt (p.drop i) (fun s hm => hs s (List.mem_of_mem_drop hm))
    have h2 : (p.drop i).length ≤ 5 := by rw [List.length_drop]; omega
    have h3 := pow6_le h2
    omega
  have key : ∀ (i : Nat), i ≤ p.length → GO none mX8_told 9 [some (.inr k), some (.inl (tld (p.drop i))), some (.inl ((i : Int) - 1))] [] σ (fun v σ1 => v = tld p ∧ σ1 = σ) := by
    intro i
    induction i with
    | zero =>
      intro _
      exact rX8_told_9 hk ⟨fun _ => ⟨rfl, rfl⟩, fun h => by omega⟩
    | succ i ih =>
      intro hi
      have h1 := hb (i + 1)
      have h2 := hb i
      have e1 : (((i + 1 : Nat) : Int) - 1) = (i : Int) := by omega
      have e2 : σ (k + 2) i = (p[i] : Int) := hp i (by omega)
      have e3 := drop_tld (p := p) (i := i) (by omega)
      rw [e1]
      refine rX8_told_9 hk ⟨fun h => by omega, fun _ => ⟨by omega, by omega, ?_, by omega, ?_⟩⟩
      · rw [Int.toNat_natCast, e2]
        omega
      · rw [Int.toNat_natCast, e2, show tld (p.drop (i + 1)) * 6 + (p[i] : Int) = tld (p.drop i) by omega]
        exact ih (by omega)
  refine rX8_told_0 hk ⟨by omega, ?_⟩
  have := key p.length (Nat.le_refl _)
  rw [List.drop_length] at this
  rw [hc]
  exact this
def lexlt : List Nat → List Nat → Bool
  | s :: p, t :: q => if s = t then lexlt p q else decide (s < t)
  | _, _ => false
theorem lexlt_cons {s t : Nat} {p q : List Nat} : lexlt (s :: p) (t :: q) = if s = t then lexlt p q else decide (s < t) := by rw [lexlt]
theorem c_X8_comesBefore {k j : Nat} {p q : List Nat} {σ : Mem} (hk : isSeats k) (hj : isSeats j) (hp : hld σ (k + 2) p) (hq : hld σ (j + 2) q) (hc : σ k 1 = p.length) (hl : q.length = p.length) (h5 : p.length ≤ 5) : CM mX8_comesBefore [.inr k, .inr j] σ (fun v σ1 => v = (if lexlt p q = true then 1 else 0) ∧ σ1 = σ) := by
  have key : ∀ (d i : Nat), i + d = p.length → lexlt (p.drop i) (q.drop i) = lexlt p q → GO none mX8_comesBefore 2 [some (.inr k), some (.inr j), some (.inl (i : Int)), none, none] [] σ (fun v σ1 => v = (if lexlt p q = true then 1 else 0) ∧ σ1 = σ) := by
    intro d
    induction d with
    | zero =>
      intro i hd he
      refine rX8_comesBefore_2 hk hj ⟨fun h => ⟨?_, rfl⟩, fun h => by omega⟩
      rw [List.drop_eq_nil_of_le (by omega), List.drop_eq_nil_of_le (by omega)] at he
      rw [← he]
      rfl
    | succ d ih =>
      intro i hd he
      have hi : i < p.length := by omega
      have hi2 : i < q.length := by omega
      have e1 : σ (k + 2) i = (p[i] : Int) := hp i hi
      have e2 : σ (j + 2) i = (q[i] : Int) := hq i hi2
      rw [List.drop_eq_getElem_cons hi, List.drop_eq_getElem_cons hi2, lexlt_cons] at he
      refine rX8_comesBefore_2 hk hj ⟨fun h => by omega, fun h => ⟨by omega, by omega, ?_, ?_⟩⟩
      · intro h2
        rw [Int.toNat_natCast, e1, e2] at h2
        rw [if_pos (by omega)] at he
        exact ⟨by omega, ih (i + 1) (by omega) he⟩
      · intro h2
        rw [Int.toNat_natCast, e1, e2] at h2 ⊢
        rw [if_neg (by omega)] at he
        refine ⟨fun h3 => ⟨?_, rfl⟩, fun h3 => ⟨?_, rfl⟩⟩
        · rw [← he, if_neg]
          simp
          omega
        · rw [← he, if_pos]
          simp
          omega
  refine rX8_comesBefore_0 hk hj ?_
  exact key p.length 0 (by omega) rfl
def comb : List Nat → Int → Int
  | [], r => r
  | s :: p, r => (s : Int) + 6 * comb p r
theorem comb_snoc : ∀ (p : List Nat) (s : Nat) (r : Int), comb (p ++ [s]) r = comb p ((s : Int) + 6 * r)
  | [], s, r => rfl
  | t :: p, s, r => by
    show (t : Int) + 6 * comb (p ++ [s]) r = (t : Int) + 6 * comb p _
    rw [comb_snoc p s r]
theorem comb_0 : ∀ p, comb p 0 = tld p
  | [] => rfl
  | s :: p => by
    show (s : Int) + 6 * comb p 0 = (s : Int) + 6 * tld p
    rw [comb_0 p]
def readP (m n : Nat) (told : Int) (k : Nat) (σ : Mem) (v : Int) (σ1 : Mem) : Prop :=
  Same [k, k + 2] σ σ1 ∧ ((v = 1 ∧ ∃ q, isPl m n q ∧ tld q = told ∧ σ1 k 1 = m ∧ hld σ1 (k + 2) q) ∨ (v = 0 ∧ ∀ q, isPl m n q → tld q ≠ told))
theorem c_X8_read {k m n : Nat} {x1 x2 x3 : Int} {σ : Mem} (hk : isSeats k) (hm : m ≤ 5) (hn : n ≤ 6) (e2 : x2 = m) (e3 : x3 = n) : CM mX8_read [.inr k, .inl x1, .inl x2, .inl x3] σ (readP m n x1 k σ) := by
  subst e2 e3
  have key : ∀ (d : Nat) (p : List Nat) (r : Int) (σ0 : Mem), p.length + d = m → σ0 k 1 = p.length → hld σ0 (k + 2) p → Same [k, k + 2] σ σ0 → (∀ s ∈ p, s < n) → p.Nodup → comb p r = x1 → (∀ q, isPl m n q → tld q = x1 → q.take p.length = p ∧ r = tld (q.drop p.length)) → GO none mX8_read 8 [some (.inr k), some (.inl x1), some (.inl (m : Int)), some (.inl (n : Int)), some (.inl r), none] [] σ0 (readP m n x1 k σ) := by
    intro d
    induction d with
    | zero =>
      intro p r σ0 hd h1 h2 h3 h4 h5 h6 h7
      refine rX8_read_8 hk ⟨fun _ => ⟨fun hr => ⟨h3, Or.inr ⟨rfl, fun q hq e => ?_⟩⟩, fun hr => ⟨h3, Or.inl ⟨rfl, p, ⟨by omega, h4, h5⟩, ?_, by omega, h2⟩⟩⟩, fun h => by omega⟩
      · obtain ⟨-, h8⟩ := h7 q hq e
        rw [List.drop_eq_nil_of_le (by have := hq.1; omega)] at h8
        exact hr h8
      · rw [← comb_0, ← h6, hr]
    | succ d ih =>
      intro p r σ0 hd h1 h2 h3 h4 h5 h6 h7
      -- any places that are told so go on with the digit
      have dig : ∀ q, isPl m n q → tld q = x1 → ∃ (hl : p.length < q.length), Int.tmod r 6 = (q[p.length] : Int) ∧ Int.tdiv r 6 = tld (q.drop (p.length + 1)) ∧ q.take p.length = p := by
        intro q hq e
        obtain ⟨h8, h9⟩ := h7 q hq e
        have hl : p.length < q.length := by have := hq.1; omega
        have h10 := drop_tld hl
        have h11 := tld_nn (q.drop (p.length + 1))
        have h12 : q[p.length] < 6 := by have := hq.2.1 _ (List.getElem_mem hl); omega
        have hr0 : 0 ≤ r := by omega
        have e1 : Int.tmod r 6 = r % 6 := Int.tmod_eq_emod_of_nonneg hr0
        have e2 : Int.tdiv r 6 = r / 6 := Int.tdiv_eq_ediv_of_nonneg hr0
        exact ⟨hl, by omega, by omega, h8⟩
      have hdm : r = Int.tmod r 6 + 6 * Int.tdiv r 6 := by
        have := Int.tmod_add_tdiv_mul r 6
        omega
      refine rX8_read_8 hk ⟨fun h => by omega, fun h => ⟨fun h8 => ⟨h3, Or.inr ⟨rfl, fun q hq e => ?_⟩⟩, fun h8 => ⟨fun h9 => ⟨h3, Or.inr ⟨rfl, fun q hq e => ?_⟩⟩, fun h9 => ⟨by omega, ?_, ?_⟩⟩⟩⟩
      · obtain ⟨hl, h10, -, -⟩ := dig q hq e
        omega
      · obtain ⟨hl, h10, -, -⟩ := dig q hq e
        have := hq.2.1 _ (List.getElem_mem hl)
        omega
      · intro h10
        obtain ⟨s, hs⟩ : ∃ s : Nat, Int.tmod r 6 = (s : Int) := ⟨(Int.tmod r 6).toNat, by omega⟩
        rw [h1, hs, Int.toNat_natCast, whoF_mem h2] at h10
        rw [h1, hs, Int.toNat_natCast]
        refine ⟨by omega, by omega, by omega, ?_⟩
        have el : (p ++ [s]).length = p.length + 1 := by rw [List.length_append, List.length_singleton]
        refine ih (p ++ [s]) _ _ (by omega) (by rw [mu_at, if_pos rfl, el]; omega) ((h2.snoc s).cong (mu_nef (by omega))) ((h3.tr (Same.mu (by simp))).tr (Same.mu (by simp))) ?_ ?_ ?_ ?_
        · intro t ht
          rcases List.mem_append.mp ht with h | h
          · exact h4 t h
          · rw [List.mem_singleton.mp h]; omega
        · exact List.nodup_append.mpr ⟨h5, by simp, fun a ha b hb => by rw [List.mem_singleton.mp hb]; exact fun q => h10 (q ▸ ha)⟩
        · rw [comb_snoc, ← hs, ← hdm]
          exact h6
        · intro q hq e
          obtain ⟨hl, h11, h12, h13⟩ := dig q hq e
          rw [el]
          refine ⟨?_, h12⟩
          rw [← List.take_append_getElem hl, h13]
          have : q[p.length] = s := by omega
          rw [this]
      · intro h10
        refine ⟨h3, Or.inr ⟨rfl, fun q hq e => ?_⟩⟩
        obtain ⟨hl, h11, h12, h13⟩ := dig q hq e
        rw [h1, h11, Int.toNat_natCast] at h10
        refine h10 ((whoF_mem h2 _).mpr (fun hm => ?_))
        have hm2 : q[p.length] ∈ q.take p.length := by rw [h13]; exact hm
        have hnd := hq.2.2
        rw [← List.take_append_drop p.length q, List.nodup_append] at hnd
        exact hnd.2.2 _ hm2 _ (by rw [List.drop_eq_getElem_cons hl]; exact List.mem_cons_self) rfl
  refine rX8_read_0 hk ?_
  exact key m [] x1 _ (by simp) (by rw [mu_at, if_pos rfl]; rfl) hld_nil (Same.mu (by simp)) (by simp) List.nodup_nil rfl (fun q hq e => ⟨rfl, by rw [← e]; rfl⟩)
end
section
/-! ===== the shops' numbers, the ground's numbers: methods that only read or write ===== -/
set_option maxRecDepth 100000 in
theorem rX9_shops_0  {σ : Mem} {Q : Int → Mem → Prop} (h : Q (σ 14 6) σ) : CM mX9_shops [.inr 14] σ Q := by
  refine CM_of_GO (by decide +kernel) rfl (Nat.le_of_ble_eq_true rfl) ?_
  show GO none mX9_shops 0 [some (.inr 14)] [] σ Q
  refine g_aload_n dX9_shops_0 rfl rfl ?_
  refine g_getI flX9_35 (by decide) rfl (by decide) rfl dX9_shops_1 ?_
  exact g_ireturn rfl dX9_shops_4 h
set_option maxRecDepth 100000 in
theorem rX9_wishes_0  {σ : Mem} {Q : Int → Mem → Prop} (h : Q (σ 14 7) σ) : CM mX9_wishes [.inr 14] σ Q := by
  refine CM_of_GO (by decide +kernel) rfl (Nat.le_of_ble_eq_true rfl) ?_
  show GO none mX9_wishes 0 [some (.inr 14)] [] σ Q
  refine g_aload_n dX9_wishes_0 rfl rfl ?_
  refine g_getI flX9_39 (by decide) rfl (by decide) rfl dX9_wishes_1 ?_
  exact g_ireturn rfl dX9_wishes_4 h
set_option maxRecDepth 100000 in
theorem rX9_hasShop_0 {x1 : Int}  {σ : Mem} {Q : Int → Mem → Prop} (h : (x1 < 0 → Q 0 σ) ∧ (0 ≤ x1 → ((σ 14 6) ≤ x1 → Q 0 σ) ∧ (x1 < (σ 14 6) → Q 1 σ))) : CM mX9_hasShop [.inr 14, .inl x1] σ Q := by
  refine CM_of_GO (by decide +kernel) rfl (Nat.le_of_ble_eq_true rfl) ?_
  show GO none mX9_hasShop 0 [some (.inr 14), some (.inl x1)] [] σ Q
  refine g_iload_n dX9_hasShop_0 rfl rfl ?_
  refine g_if_lt (tgt := 16) dX9_hasShop_1 (by decide) (fun c1 => ?_) (fun c1 => ?_)
  · have h := h.1 c1
    refine g_iconst dX9_hasShop_16 (by decide) ?_
    exact g_zreturn rfl dX9_hasShop_17 (by decide) h
  · have h := h.2 c1
    refine g_iload_n dX9_hasShop_4 rfl rfl ?_
    refine g_aload_n dX9_hasShop_5 rfl rfl ?_
    refine g_getI flX9_35 (by decide) rfl (by decide) rfl dX9_hasShop_6 ?_
    refine g_icmp_ge (tgt := 16) dX9_hasShop_9 (by decide) (fun c2 => ?_) (fun c2 => ?_)
    · have h := h.1 c2
      refine g_iconst dX9_hasShop_16 (by decide) ?_
      exact g_zreturn rfl dX9_hasShop_17 (by decide) h
    · have h := h.2 c2
      refine g_iconst dX9_hasShop_12 (by decide) ?_
      refine g_goto (tgt := 17) dX9_hasShop_13 (by decide) ?_
      exact g_zreturn rfl dX9_hasShop_17 (by decide) h
set_option maxRecDepth 100000 in
theorem rX9_weightOf_0 {x1 : Int}  {σ : Mem} {Q : Int → Mem → Prop} (h : ((0 ≤ x1) ∧ (((x1 < 5) ∧ (Q (σ 18 (x1).toNat) σ))))) : CM mX9_weightOf [.inr 14, .inl x1] σ Q := by
  refine CM_of_GO (by decide +kernel) rfl (Nat.le_of_ble_eq_true rfl) ?_
  show GO none mX9_weightOf 0 [some (.inr 14), some (.inl x1)] [] σ Q
  refine g_aload_n dX9_weightOf_0 rfl rfl ?_
  refine g_getR (r' := 17) flX9_20 (by decide) rfl (by decide) rfl dX9_weightOf_1 ?_
  refine g_iload_n dX9_weightOf_4 rfl rfl ?_
  obtain ⟨p1, h⟩ := h
  obtain ⟨p2, h⟩ := h
  refine g_invVI (as := [.inl x1]) (rest := []) okX7_get mlX9_54 (by decide) rfl ⟨_, _, rfl⟩ rfl ⟨Nat.le_of_ble_eq_true rfl, Nat.le_of_ble_eq_true rfl⟩ (Nat.le_of_ble_eq_true rfl) rfl dX9_weightOf_5 (c_X7_get ⟨by decide, by decide, rfl, rfl, rfl⟩ p1 p2) (Or.inl rfl) (fun v3 σ4 e5 => ?_)
  obtain ⟨e5a, e5b⟩ := e5; subst v3; subst σ4
  exact g_ireturn rfl dX9_weightOf_8 h
set_option maxRecDepth 100000 in
theorem rX9_changeWeight_0 {x1 x2 : Int}  {σ : Mem} {Q : Int → Mem → Prop} (h : ((0 ≤ x1) ∧ (((x1 < 5) ∧ (Q (σ 18 (x1).toNat) (mu σ 18 (x1).toNat x2)))))) : CM mX9_changeWeight [.inr 14, .inl x1, .inl x2] σ Q := by
  refine CM_of_GO (by decide +kernel) rfl (Nat.le_of_ble_eq_true rfl) ?_
  show GO none mX9_changeWeight 0 [some (.inr 14), some (.inl x1), some (.inl x2), none] [] σ Q
  refine g_aload_n dX9_changeWeight_0 rfl rfl ?_
  refine g_getR (r' := 17) flX9_20 (by decide) rfl (by decide) rfl dX9_changeWeight_1 ?_
  refine g_iload_n dX9_changeWeight_4 rfl rfl ?_
  obtain ⟨p1, h⟩ := h
  obtain ⟨p2, h⟩ := h
  refine g_invVI (as := [.inl x1]) (rest := []) okX7_get mlX9_54 (by decide) rfl ⟨_, _, rfl⟩ rfl ⟨Nat.le_of_ble_eq_true rfl, Nat.le_of_ble_eq_true rfl⟩ (Nat.le_of_ble_eq_true rfl) rfl dX9_changeWeight_5 (c_X7_get ⟨by decide, by decide, rfl, rfl, rfl⟩ p1 p2) (Or.inl rfl) (fun v3 σ4 e5 => ?_)
  obtain ⟨e5a, e5b⟩ := e5; subst v3; subst σ4
  refine g_istore_n (ls' := [some (.inr 14), some (.inl x1), some (.inl x2), some (.inl (σ 18 (x1).toNat))]) dX9_changeWeight_8 rfl (by decide) rfl ?_
  refine g_aload_n dX9_changeWeight_9 rfl rfl ?_
  refine g_getR (r' := 17) flX9_20 (by decide) rfl (by decide) rfl dX9_changeWeight_10 ?_
  refine g_iload_n dX9_changeWeight_13 rfl rfl ?_
  refine g_iload_n dX9_changeWeight_14 rfl rfl ?_
  refine g_invVV (as := [.inl x1, .inl x2]) (rest := []) okX7_set mlX9_46 (by decide) rfl ⟨_, _, rfl⟩ rfl ⟨Nat.le_of_ble_eq_true rfl, Nat.le_of_ble_eq_true rfl⟩ (Nat.le_of_ble_eq_true rfl) rfl dX9_changeWeight_15 (c_X7_set ⟨by decide, by decide, rfl, rfl, rfl⟩ p1 p2) rfl (fun σ7 e8 => ?_)
  subst σ7
  refine g_iload_n dX9_changeWeight_18 rfl rfl ?_
  exact g_ireturn rfl dX9_changeWeight_19 h
set_option maxRecDepth 100000 in
theorem rX9_addShop_0  {σ : Mem} {Q : Int → Mem → Prop} (h : ((0 ≤ (σ 14 6)) ∧ ((((σ 14 6) < 5) ∧ (((inR ((σ 14 6) + 1)) ∧ (Q (σ 14 6) (mu (mu σ 18 ((σ 14 6)).toNat 1) 14 6 ((σ 14 6) + 1))))))))) : CM mX9_addShop [.inr 14] σ Q := by
  refine CM_of_GO (by decide +kernel) rfl (Nat.le_of_ble_eq_true rfl) ?_
  show GO none mX9_addShop 0 [some (.inr 14), none] [] σ Q
  refine g_aload_n dX9_addShop_0 rfl rfl ?_
  refine g_getI flX9_35 (by decide) rfl (by decide) rfl dX9_addShop_1 ?_
  refine g_istore_n (ls' := [some (.inr 14), some (.inl (σ 14 6))]) dX9_addShop_4 rfl (by decide) rfl ?_
  refine g_aload_n dX9_addShop_5 rfl rfl ?_
  refine g_getR (r' := 17) flX9_20 (by decide) rfl (by decide) rfl dX9_addShop_6 ?_
  refine g_iload_n dX9_addShop_9 rfl rfl ?_
  refine g_iconst dX9_addShop_10 (by decide) ?_
  obtain ⟨p1, h⟩ := h
  obtain ⟨p2, h⟩ := h
  refine g_invVV (as := [.inl (σ 14 6), .inl 1]) (rest := []) okX7_set mlX9_46 (by decide) rfl ⟨_, _, rfl⟩ rfl ⟨Nat.le_of_ble_eq_true rfl, Nat.le_of_ble_eq_true rfl⟩ (Nat.le_of_ble_eq_true rfl) rfl dX9_addShop_11 (c_X7_set ⟨by decide, by decide, rfl, rfl, rfl⟩ p1 p2) rfl (fun σ4 e5 => ?_)
  subst σ4
  refine g_aload_n dX9_addShop_14 rfl rfl ?_
  refine g_dup dX9_addShop_15 ?_
  refine g_getI flX9_35 (by decide) rfl (by decide) rfl dX9_addShop_16 ?_
  refine g_top (w := (σ 14 6)) rfl ?_
  refine g_iconst dX9_addShop_19 (by decide) ?_
  obtain ⟨p6, h⟩ := h
  refine g_iadd dX9_addShop_20 p6 ?_
  refine g_putI fpX9_35 (by decide) rfl (by decide) rfl (Or.inl rfl) dX9_addShop_21 ?_
  refine g_iload_n dX9_addShop_24 rfl rfl ?_
  exact g_ireturn rfl dX9_addShop_25 h
set_option maxRecDepth 100000 in
theorem rX9_loadAt_0 {x0 x1 x2 : Int}  {σ : Mem} {Q : Int → Mem → Prop} (h : ((inR (x0 * 5)) ∧ (((inR ((x0 * 5) + x1)) ∧ (((inR (((x0 * 5) + x1) * 5)) ∧ (((inR ((((x0 * 5) + x1) * 5) + x2)) ∧ (Q ((((x0 * 5) + x1) * 5) + x2) σ))))))))) : CM mX9_loadAt [.inl x0, .inl x1, .inl x2] σ Q := by
  refine CM_of_GO (by decide +kernel) rfl (Nat.le_of_ble_eq_true rfl) ?_
  show GO none mX9_loadAt 0 [some (.inl x0), some (.inl x1), some (.inl x2)] [] σ Q
  refine g_iload_n dX9_loadAt_0 rfl rfl ?_
  refine g_iconst dX9_loadAt_1 (by decide) ?_
  obtain ⟨p1, h⟩ := h
  refine g_imul dX9_loadAt_2 p1 ?_
  refine g_iload_n dX9_loadAt_3 rfl rfl ?_
  obtain ⟨p2, h⟩ := h
  refine g_iadd dX9_loadAt_4 p2 ?_
  refine g_iconst dX9_loadAt_5 (by decide) ?_
  obtain ⟨p3, h⟩ := h
  refine g_imul dX9_loadAt_6 p3 ?_
  refine g_iload_n dX9_loadAt_7 rfl rfl ?_
  obtain ⟨p4, h⟩ := h
  refine g_iadd dX9_loadAt_8 p4 ?_
  exact g_ireturn rfl dX9_loadAt_9 h
set_option maxRecDepth 100000 in
theorem rX9_oneOf_0 {x1 : Int}  {σ : Mem} {Q : Int → Mem → Prop} (h : ((0 ≤ x1) ∧ (((x1 < 6) ∧ (Q (σ 20 (x1).toNat) σ))))) : CM mX9_oneOf [.inr 14, .inl x1] σ Q := by
  refine CM_of_GO (by decide +kernel) rfl (Nat.le_of_ble_eq_true rfl) ?_
  show GO none mX9_oneOf 0 [some (.inr 14), some (.inl x1)] [] σ Q
  refine g_aload_n dX9_oneOf_0 rfl rfl ?_
  refine g_getR (r' := 19) flX9_23 (by decide) rfl (by decide) rfl dX9_oneOf_1 ?_
  refine g_iload_n dX9_oneOf_4 rfl rfl ?_
  obtain ⟨p1, h⟩ := h
  obtain ⟨p2, h⟩ := h
  refine g_invVI (as := [.inl x1]) (rest := []) okX7_get mlX9_54 (by decide) rfl ⟨_, _, rfl⟩ rfl ⟨Nat.le_of_ble_eq_true rfl, Nat.le_of_ble_eq_true rfl⟩ (Nat.le_of_ble_eq_true rfl) rfl dX9_oneOf_5 (c_X7_get ⟨by decide, by decide, rfl, rfl, rfl⟩ p1 p2) (Or.inl rfl) (fun v3 σ4 e5 => ?_)
  obtain ⟨e5a, e5b⟩ := e5; subst v3; subst σ4
  exact g_ireturn rfl dX9_oneOf_8 h
set_option maxRecDepth 100000 in
theorem rX9_otherOf_0 {x1 : Int}  {σ : Mem} {Q : Int → Mem → Prop} (h : ((0 ≤ x1) ∧ (((x1 < 6) ∧ (Q (σ 22 (x1).toNat) σ))))) : CM mX9_otherOf [.inr 14, .inl x1] σ Q := by
  refine CM_of_GO (by decide +kernel) rfl (Nat.le_of_ble_eq_true rfl) ?_
  show GO none mX9_otherOf 0 [some (.inr 14), some (.inl x1)] [] σ Q
  refine g_aload_n dX9_otherOf_0 rfl rfl ?_
  refine g_getR (r' := 21) flX9_26 (by decide) rfl (by decide) rfl dX9_otherOf_1 ?_
  refine g_iload_n dX9_otherOf_4 rfl rfl ?_
  obtain ⟨p1, h⟩ := h
  obtain ⟨p2, h⟩ := h
  refine g_invVI (as := [.inl x1]) (rest := []) okX7_get mlX9_54 (by decide) rfl ⟨_, _, rfl⟩ rfl ⟨Nat.le_of_ble_eq_true rfl, Nat.le_of_ble_eq_true rfl⟩ (Nat.le_of_ble_eq_true rfl) rfl dX9_otherOf_5 (c_X7_get ⟨by decide, by decide, rfl, rfl, rfl⟩ p1 p2) (Or.inl rfl) (fun v3 σ4 e5 => ?_)
  obtain ⟨e5a, e5b⟩ := e5; subst v3; subst σ4
  exact g_ireturn rfl dX9_otherOf_8 h
set_option maxRecDepth 100000 in
theorem rX9_isMet_0 {x1 x2 : Int}  {σ : Mem} {Q : Int → Mem → Prop} (h : ((0 ≤ x1) ∧ (((x1 < 6) ∧ (((σ 24 (x1).toNat) ≠ 1 → (x2 = (-1) → Q 1 σ) ∧ (x2 ≠ (-1) → (x2 < (σ 26 (x1).toNat) → Q 0 σ) ∧ ((σ 26 (x1).toNat) ≤ x2 → Q 1 σ))) ∧ ((σ 24 (x1).toNat) = 1 → (x2 = (-1) → Q 0 σ) ∧ (x2 ≠ (-1) → ((σ 26 (x1).toNat) < x2 → Q 0 σ) ∧ (x2 ≤ (σ 26 (x1).toNat) → Q 1 σ)))))))) : CM mX9_isMet [.inr 14, .inl x1, .inl x2] σ Q := by
  refine CM_of_GO (by decide +kernel) rfl (Nat.le_of_ble_eq_true rfl) ?_
  show GO none mX9_isMet 0 [some (.inr 14), some (.inl x1), some (.inl x2), none] [] σ Q
  refine g_aload_n dX9_isMet_0 rfl rfl ?_
  refine g_getR (r' := 25) flX9_32 (by decide) rfl (by decide) rfl dX9_isMet_1 ?_
  refine g_iload_n dX9_isMet_4 rfl rfl ?_
  obtain ⟨p1, h⟩ := h
  obtain ⟨p2, h⟩ := h
  refine g_invVI (as := [.inl x1]) (rest := []) okX7_get mlX9_54 (by decide) rfl ⟨_, _, rfl⟩ rfl ⟨Nat.le_of_ble_eq_true rfl, Nat.le_of_ble_eq_true rfl⟩ (Nat.le_of_ble_eq_true rfl) rfl dX9_isMet_5 (c_X7_get ⟨by decide, by decide, rfl, rfl, rfl⟩ p1 p2) (Or.inl rfl) (fun v3 σ4 e5 => ?_)
  obtain ⟨e5a, e5b⟩ := e5; subst v3; subst σ4
  refine g_istore_n (ls' := [some (.inr 14), some (.inl x1), some (.inl x2), some (.inl (σ 26 (x1).toNat))]) dX9_isMet_8 rfl (by decide) rfl ?_
  refine g_aload_n dX9_isMet_9 rfl rfl ?_
  refine g_getR (r' := 23) flX9_29 (by decide) rfl (by decide) rfl dX9_isMet_10 ?_
  refine g_iload_n dX9_isMet_13 rfl rfl ?_
  refine g_invVI (as := [.inl x1]) (rest := []) okX7_get mlX9_54 (by decide) rfl ⟨_, _, rfl⟩ rfl ⟨Nat.le_of_ble_eq_true rfl, Nat.le_of_ble_eq_true rfl⟩ (Nat.le_of_ble_eq_true rfl) rfl dX9_isMet_14 (c_X7_get ⟨by decide, by decide, rfl, rfl, rfl⟩ p1 p2) (Or.inl rfl) (fun v6 σ7 e8 => ?_)
  obtain ⟨e8a, e8b⟩ := e8; subst v6; subst σ7
  refine g_iconst dX9_isMet_17 (by decide) ?_
  refine g_icmp_ne (tgt := 37) dX9_isMet_18 (by decide) (fun c9 => ?_) (fun c9 => ?_)
  · have h := h.1 c9
    refine g_iload_n dX9_isMet_37 rfl rfl ?_
    refine g_iconst dX9_isMet_38 (by decide) ?_
    refine g_icmp_eq (tgt := 47) dX9_isMet_39 (by decide) (fun c10 => ?_) (fun c10 => ?_)
    · have h := h.1 c10
      refine g_iconst dX9_isMet_47 (by decide) ?_
      refine g_goto (tgt := 52) dX9_isMet_48 (by decide) ?_
      exact g_zreturn rfl dX9_isMet_52 (by decide) h
    · have h := h.2 c10
      refine g_iload_n dX9_isMet_42 rfl rfl ?_
      refine g_iload_n dX9_isMet_43 rfl rfl ?_
      refine g_icmp_lt (tgt := 51) dX9_isMet_44 (by decide) (fun c11 => ?_) (fun c11 => ?_)
      · have h := h.1 c11
        refine g_iconst dX9_isMet_51 (by decide) ?_
        exact g_zreturn rfl dX9_isMet_52 (by decide) h
      · have h := h.2 c11
        refine g_iconst dX9_isMet_47 (by decide) ?_
        refine g_goto (tgt := 52) dX9_isMet_48 (by decide) ?_
        exact g_zreturn rfl dX9_isMet_52 (by decide) h
  · have h := h.2 c9
    refine g_iload_n dX9_isMet_21 rfl rfl ?_
    refine g_iconst dX9_isMet_22 (by decide) ?_
    refine g_icmp_eq (tgt := 35) dX9_isMet_23 (by decide) (fun c12 => ?_) (fun c12 => ?_)
    · have h := h.1 c12
      refine g_iconst dX9_isMet_35 (by decide) ?_
      exact g_zreturn rfl dX9_isMet_36 (by decide) h
    · have h := h.2 c12
      refine g_iload_n dX9_isMet_26 rfl rfl ?_
      refine g_iload_n dX9_isMet_27 rfl rfl ?_
      refine g_icmp_gt (tgt := 35) dX9_isMet_28 (by decide) (fun c13 => ?_) (fun c13 => ?_)
      · have h := h.1 c13
        refine g_iconst dX9_isMet_35 (by decide) ?_
        exact g_zreturn rfl dX9_isMet_36 (by decide) h
      · have h := h.2 c13
        refine g_iconst dX9_isMet_31 (by decide) ?_
        refine g_goto (tgt := 36) dX9_isMet_32 (by decide) ?_
        exact g_zreturn rfl dX9_isMet_36 (by decide) h
set_option maxRecDepth 100000 in
theorem rX9_addWish_0 {x1 x2 x3 x4 : Int}  {σ : Mem} {Q : Int → Mem → Prop} (h : ((0 ≤ (σ 14 7)) ∧ ((((σ 14 7) < 6) ∧ ((x3 = 0 → ((inR ((σ 14 7) + 1)) ∧ (Q (σ 14 7) (mu (mu (mu (mu (mu σ 20 ((σ 14 7)).toNat x1) 22 ((σ 14 7)).toNat x2) 24 ((σ 14 7)).toNat 0) 26 ((σ 14 7)).toNat x4) 14 7 ((σ 14 7) + 1))))) ∧ (x3 ≠ 0 → ((inR ((σ 14 7) + 1)) ∧ (Q (σ 14 7) (mu (mu (mu (mu (mu σ 20 ((σ 14 7)).toNat x1) 22 ((σ 14 7)).toNat x2) 24 ((σ 14 7)).toNat 1) 26 ((σ 14 7)).toNat x4) 14 7 ((σ 14 7) + 1)))))))))) : CM mX9_addWish [.inr 14, .inl x1, .inl x2, .inl x3, .inl x4] σ Q := by
  refine CM_of_GO (by decide +kernel) rfl (Nat.le_of_ble_eq_true rfl) ?_
  show GO none mX9_addWish 0 [some (.inr 14), some (.inl x1), some (.inl x2), some (.inl x3), some (.inl x4), none] [] σ Q
  refine g_aload_n dX9_addWish_0 rfl rfl ?_
  refine g_getI flX9_39 (by decide) rfl (by decide) rfl dX9_addWish_1 ?_
  refine g_istore (ls' := [some (.inr 14), some (.inl x1), some (.inl x2), some (.inl x3), some (.inl x4), some (.inl (σ 14 7))]) dX9_addWish_4 (by decide) rfl ?_
  refine g_aload_n dX9_addWish_6 rfl rfl ?_
  refine g_getR (r' := 19) flX9_23 (by decide) rfl (by decide) rfl dX9_addWish_7 ?_
  refine g_iload dX9_addWish_10 rfl ?_
  refine g_iload_n dX9_addWish_12 rfl rfl ?_
  obtain ⟨p1, h⟩ := h
  obtain ⟨p2, h⟩ := h
  refine g_invVV (as := [.inl (σ 14 7), .inl x1]) (rest := []) okX7_set mlX9_46 (by decide) rfl ⟨_, _, rfl⟩ rfl ⟨Nat.le_of_ble_eq_true rfl, Nat.le_of_ble_eq_true rfl⟩ (Nat.le_of_ble_eq_true rfl) rfl dX9_addWish_13 (c_X7_set ⟨by decide, by decide, rfl, rfl, rfl⟩ p1 p2) rfl (fun σ4 e5 => ?_)
  subst σ4
  refine g_aload_n dX9_addWish_16 rfl rfl ?_
  refine g_getR (r' := 21) flX9_26 (by decide) rfl (by decide) rfl dX9_addWish_17 ?_
  refine g_iload dX9_addWish_20 rfl ?_
  refine g_iload_n dX9_addWish_22 rfl rfl ?_
  refine g_invVV (as := [.inl (σ 14 7), .inl x2]) (rest := []) okX7_set mlX9_46 (by decide) rfl ⟨_, _, rfl⟩ rfl ⟨Nat.le_of_ble_eq_true rfl, Nat.le_of_ble_eq_true rfl⟩ (Nat.le_of_ble_eq_true rfl) rfl dX9_addWish_23 (c_X7_set ⟨by decide, by decide, rfl, rfl, rfl⟩ p1 p2) rfl (fun σ7 e8 => ?_)
  subst σ7
  refine g_aload_n dX9_addWish_26 rfl rfl ?_
  refine g_getR (r' := 23) flX9_29 (by decide) rfl (by decide) rfl dX9_addWish_27 ?_
  refine g_iload dX9_addWish_30 rfl ?_
  refine g_iload_n dX9_addWish_32 rfl rfl ?_
  refine g_if_eq (tgt := 40) dX9_addWish_33 (by decide) (fun c9 => ?_) (fun c9 => ?_)
  · have h := h.1 c9
    refine g_iconst dX9_addWish_40 (by decide) ?_
    refine g_invVV (as := [.inl (σ 14 7), .inl 0]) (rest := []) okX7_set mlX9_46 (by decide) rfl ⟨_, _, rfl⟩ rfl ⟨Nat.le_of_ble_eq_true rfl, Nat.le_of_ble_eq_true rfl⟩ (Nat.le_of_ble_eq_true rfl) rfl dX9_addWish_41 (c_X7_set ⟨by decide, by decide, rfl, rfl, rfl⟩ p1 p2) rfl (fun σ11 e12 => ?_)
    subst σ11
    refine g_aload_n dX9_addWish_44 rfl rfl ?_
    refine g_getR (r' := 25) flX9_32 (by decide) rfl (by decide) rfl dX9_addWish_45 ?_
    refine g_iload dX9_addWish_48 rfl ?_
    refine g_iload dX9_addWish_50 rfl ?_
    refine g_invVV (as := [.inl (σ 14 7), .inl x4]) (rest := []) okX7_set mlX9_46 (by decide) rfl ⟨_, _, rfl⟩ rfl ⟨Nat.le_of_ble_eq_true rfl, Nat.le_of_ble_eq_true rfl⟩ (Nat.le_of_ble_eq_true rfl) rfl dX9_addWish_52 (c_X7_set ⟨by decide, by decide, rfl, rfl, rfl⟩ p1 p2) rfl (fun σ14 e15 => ?_)
    subst σ14
    refine g_aload_n dX9_addWish_55 rfl rfl ?_
    refine g_dup dX9_addWish_56 ?_
    refine g_getI flX9_39 (by decide) rfl (by decide) rfl dX9_addWish_57 ?_
    refine g_top (w := (σ 14 7)) rfl ?_
    refine g_iconst dX9_addWish_60 (by decide) ?_
    obtain ⟨p16, h⟩ := h
    refine g_iadd dX9_addWish_61 p16 ?_
    refine g_putI fpX9_39 (by decide) rfl (by decide) rfl (Or.inl rfl) dX9_addWish_62 ?_
    refine g_iload dX9_addWish_65 rfl ?_
    exact g_ireturn rfl dX9_addWish_67 h
  · have h := h.2 c9
    refine g_iconst dX9_addWish_36 (by decide) ?_
    refine g_goto (tgt := 41) dX9_addWish_37 (by decide) ?_
    refine g_invVV (as := [.inl (σ 14 7), .inl 1]) (rest := []) okX7_set mlX9_46 (by decide) rfl ⟨_, _, rfl⟩ rfl ⟨Nat.le_of_ble_eq_true rfl, Nat.le_of_ble_eq_true rfl⟩ (Nat.le_of_ble_eq_true rfl) rfl dX9_addWish_41 (c_X7_set ⟨by decide, by decide, rfl, rfl, rfl⟩ p1 p2) rfl (fun σ18 e19 => ?_)
    subst σ18
    refine g_aload_n dX9_addWish_44 rfl rfl ?_
    refine g_getR (r' := 25) flX9_32 (by decide) rfl (by decide) rfl dX9_addWish_45 ?_
    refine g_iload dX9_addWish_48 rfl ?_
    refine g_iload dX9_addWish_50 rfl ?_
    refine g_invVV (as := [.inl (σ 14 7), .inl x4]) (rest := []) okX7_set mlX9_46 (by decide) rfl ⟨_, _, rfl⟩ rfl ⟨Nat.le_of_ble_eq_true rfl, Nat.le_of_ble_eq_true rfl⟩ (Nat.le_of_ble_eq_true rfl) rfl dX9_addWish_52 (c_X7_set ⟨by decide, by decide, rfl, rfl, rfl⟩ p1 p2) rfl (fun σ21 e22 => ?_)
    subst σ21
    refine g_aload_n dX9_addWish_55 rfl rfl ?_
    refine g_dup dX9_addWish_56 ?_
    refine g_getI flX9_39 (by decide) rfl (by decide) rfl dX9_addWish_57 ?_
    refine g_top (w := (σ 14 7)) rfl ?_
    refine g_iconst dX9_addWish_60 (by decide) ?_
    obtain ⟨p23, h⟩ := h
    refine g_iadd dX9_addWish_61 p23 ?_
    refine g_putI fpX9_39 (by decide) rfl (by decide) rfl (Or.inl rfl) dX9_addWish_62 ?_
    refine g_iload dX9_addWish_65 rfl ?_
    exact g_ireturn rfl dX9_addWish_67 h
set_option maxRecDepth 100000 in
theorem rX2_kindOf_0 {x1 : Int}  {σ : Mem} {Q : Int → Mem → Prop} (h : ((0 ≤ x1) ∧ (((x1 < 36) ∧ (Q (σ 3 (x1).toNat) σ))))) : CM mX2_kindOf [.inr 1, .inl x1] σ Q := by
  refine CM_of_GO (by decide +kernel) rfl (Nat.le_of_ble_eq_true rfl) ?_
  show GO none mX2_kindOf 0 [some (.inr 1), some (.inl x1)] [] σ Q
  refine g_aload_n dX2_kindOf_0 rfl rfl ?_
  refine g_getR (r' := 2) flX2_14 (by decide) rfl (by decide) rfl dX2_kindOf_1 ?_
  refine g_iload_n dX2_kindOf_4 rfl rfl ?_
  obtain ⟨p1, h⟩ := h
  obtain ⟨p2, h⟩ := h
  refine g_invVI (as := [.inl x1]) (rest := []) okX7_get mlX2_45 (by decide) rfl ⟨_, _, rfl⟩ rfl ⟨Nat.le_of_ble_eq_true rfl, Nat.le_of_ble_eq_true rfl⟩ (Nat.le_of_ble_eq_true rfl) rfl dX2_kindOf_5 (c_X7_get ⟨by decide, by decide, rfl, rfl, rfl⟩ p1 p2) (Or.inl rfl) (fun v3 σ4 e5 => ?_)
  obtain ⟨e5a, e5b⟩ := e5; subst v3; subst σ4
  exact g_ireturn rfl dX2_kindOf_8 h
set_option maxRecDepth 100000 in
theorem rX2_slots_0  {σ : Mem} {Q : Int → Mem → Prop} (h : Q (σ 1 7) σ) : CM mX2_slots [.inr 1] σ Q := by
  refine CM_of_GO (by decide +kernel) rfl (Nat.le_of_ble_eq_true rfl) ?_
  show GO none mX2_slots 0 [some (.inr 1)] [] σ Q
  refine g_aload_n dX2_slots_0 rfl rfl ?_
  refine g_getI flX2_39 (by decide) rfl (by decide) rfl dX2_slots_1 ?_
  exact g_ireturn rfl dX2_slots_4 h
set_option maxRecDepth 100000 in
theorem rX2_hasSlot_0 {x1 : Int}  {σ : Mem} {Q : Int → Mem → Prop} (h : (x1 < 0 → Q 0 σ) ∧ (0 ≤ x1 → ((σ 1 7) ≤ x1 → Q 0 σ) ∧ (x1 < (σ 1 7) → Q 1 σ))) : CM mX2_hasSlot [.inr 1, .inl x1] σ Q := by
  refine CM_of_GO (by decide +kernel) rfl (Nat.le_of_ble_eq_true rfl) ?_
  show GO none mX2_hasSlot 0 [some (.inr 1), some (.inl x1)] [] σ Q
  refine g_iload_n dX2_hasSlot_0 rfl rfl ?_
  refine g_if_lt (tgt := 16) dX2_hasSlot_1 (by decide) (fun c1 => ?_) (fun c1 => ?_)
  · have h := h.1 c1
    refine g_iconst dX2_hasSlot_16 (by decide) ?_
    exact g_zreturn rfl dX2_hasSlot_17 (by decide) h
  · have h := h.2 c1
    refine g_iload_n dX2_hasSlot_4 rfl rfl ?_
    refine g_aload_n dX2_hasSlot_5 rfl rfl ?_
    refine g_getI flX2_39 (by decide) rfl (by decide) rfl dX2_hasSlot_6 ?_
    refine g_icmp_ge (tgt := 16) dX2_hasSlot_9 (by decide) (fun c2 => ?_) (fun c2 => ?_)
    · have h := h.1 c2
      refine g_iconst dX2_hasSlot_16 (by decide) ?_
      exact g_zreturn rfl dX2_hasSlot_17 (by decide) h
    · have h := h.2 c2
      refine g_iconst dX2_hasSlot_12 (by decide) ?_
      refine g_goto (tgt := 17) dX2_hasSlot_13 (by decide) ?_
      exact g_zreturn rfl dX2_hasSlot_17 (by decide) h
set_option maxRecDepth 100000 in
theorem rX2_wayBetween_0 {x1 x2 : Int}  {σ : Mem} {Q : Int → Mem → Prop} (h : ((inR (x1 * 6)) ∧ (((inR ((x1 * 6) + x2)) ∧ (((0 ≤ ((x1 * 6) + x2)) ∧ (((((x1 * 6) + x2) < 36) ∧ (Q (σ 7 (((x1 * 6) + x2)).toNat) σ))))))))) : CM mX2_wayBetween [.inr 1, .inl x1, .inl x2] σ Q := by
  refine CM_of_GO (by decide +kernel) rfl (Nat.le_of_ble_eq_true rfl) ?_
  show GO none mX2_wayBetween 0 [some (.inr 1), some (.inl x1), some (.inl x2)] [] σ Q
  refine g_aload_n dX2_wayBetween_0 rfl rfl ?_
  refine g_getR (r' := 6) flX2_23 (by decide) rfl (by decide) rfl dX2_wayBetween_1 ?_
  refine g_iload_n dX2_wayBetween_4 rfl rfl ?_
  refine g_bipush dX2_wayBetween_5 (by decide) (by decide) ?_
  obtain ⟨p1, h⟩ := h
  refine g_imul dX2_wayBetween_7 p1 ?_
  refine g_iload_n dX2_wayBetween_8 rfl rfl ?_
  obtain ⟨p2, h⟩ := h
  refine g_iadd dX2_wayBetween_9 p2 ?_
  obtain ⟨p3, h⟩ := h
  obtain ⟨p4, h⟩ := h
  refine g_invVI (as := [.inl ((x1 * 6) + x2)]) (rest := []) okX7_get mlX2_45 (by decide) rfl ⟨_, _, rfl⟩ rfl ⟨Nat.le_of_ble_eq_true rfl, Nat.le_of_ble_eq_true rfl⟩ (Nat.le_of_ble_eq_true rfl) rfl dX2_wayBetween_10 (c_X7_get ⟨by decide, by decide, rfl, rfl, rfl⟩ p3 p4) (Or.inl rfl) (fun v5 σ6 e7 => ?_)
  obtain ⟨e7a, e7b⟩ := e7; subst v5; subst σ6
  exact g_ireturn rfl dX2_wayBetween_13 h
set_option maxRecDepth 100000 in
theorem rX2_wayOut_0 {x1 : Int}  {σ : Mem} {Q : Int → Mem → Prop} (h : ((0 ≤ x1) ∧ (((x1 < 6) ∧ (Q (σ 9 (x1).toNat) σ))))) : CM mX2_wayOut [.inr 1, .inl x1] σ Q := by
  refine CM_of_GO (by decide +kernel) rfl (Nat.le_of_ble_eq_true rfl) ?_
  show GO none mX2_wayOut 0 [some (.inr 1), some (.inl x1)] [] σ Q
  refine g_aload_n dX2_wayOut_0 rfl rfl ?_
  refine g_getR (r' := 8) flX2_26 (by decide) rfl (by decide) rfl dX2_wayOut_1 ?_
  refine g_iload_n dX2_wayOut_4 rfl rfl ?_
  obtain ⟨p1, h⟩ := h
  obtain ⟨p2, h⟩ := h
  refine g_invVI (as := [.inl x1]) (rest := []) okX7_get mlX2_45 (by decide) rfl ⟨_, _, rfl⟩ rfl ⟨Nat.le_of_ble_eq_true rfl, Nat.le_of_ble_eq_true rfl⟩ (Nat.le_of_ble_eq_true rfl) rfl dX2_wayOut_5 (c_X7_get ⟨by decide, by decide, rfl, rfl, rfl⟩ p1 p2) (Or.inl rfl) (fun v3 σ4 e5 => ?_)
  obtain ⟨e5a, e5b⟩ := e5; subst v3; subst σ4
  exact g_ireturn rfl dX2_wayOut_8 h
set_option maxRecDepth 100000 in
theorem rX2_changeBound_0 {x1 : Int}  {σ : Mem} {Q : Int → Mem → Prop} (h : Q (σ 1 8) (mu σ 1 8 x1)) : CM mX2_changeBound [.inr 1, .inl x1] σ Q := by
  refine CM_of_GO (by decide +kernel) rfl (Nat.le_of_ble_eq_true rfl) ?_
  show GO none mX2_changeBound 0 [some (.inr 1), some (.inl x1), none] [] σ Q
  refine g_aload_n dX2_changeBound_0 rfl rfl ?_
  refine g_getI flX2_42 (by decide) rfl (by decide) rfl dX2_changeBound_1 ?_
  refine g_istore_n (ls' := [some (.inr 1), some (.inl x1), some (.inl (σ 1 8))]) dX2_changeBound_4 rfl (by decide) rfl ?_
  refine g_aload_n dX2_changeBound_5 rfl rfl ?_
  refine g_iload_n dX2_changeBound_6 rfl rfl ?_
  refine g_putI fpX2_42 (by decide) rfl (by decide) rfl (Or.inl rfl) dX2_changeBound_7 ?_
  refine g_iload_n dX2_changeBound_10 rfl rfl ?_
  exact g_ireturn rfl dX2_changeBound_11 h
set_option maxRecDepth 100000 in
theorem rX2_isOutNear_0 {x1 : Int}  {σ : Mem} {Q : Int → Mem → Prop} (h : ((0 ≤ x1) ∧ (((x1 < 6) ∧ (((σ 1 8) = 41 → Q 1 σ) ∧ ((σ 1 8) ≠ 41 → ((σ 9 (x1).toNat) = (-1) → Q 0 σ) ∧ ((σ 9 (x1).toNat) ≠ (-1) → ((σ 1 8) < (σ 9 (x1).toNat) → Q 0 σ) ∧ ((σ 9 (x1).toNat) ≤ (σ 1 8) → Q 1 σ)))))))) : CM mX2_isOutNear [.inr 1, .inl x1] σ Q := by
  refine CM_of_GO (by decide +kernel) rfl (Nat.le_of_ble_eq_true rfl) ?_
  show GO none mX2_isOutNear 0 [some (.inr 1), some (.inl x1), none] [] σ Q
  refine g_aload_n dX2_isOutNear_0 rfl rfl ?_
  refine g_getR (r' := 8) flX2_26 (by decide) rfl (by decide) rfl dX2_isOutNear_1 ?_
  refine g_iload_n dX2_isOutNear_4 rfl rfl ?_
  obtain ⟨p1, h⟩ := h
  obtain ⟨p2, h⟩ := h
  refine g_invVI (as := [.inl x1]) (rest := []) okX7_get mlX2_45 (by decide) rfl ⟨_, _, rfl⟩ rfl ⟨Nat.le_of_ble_eq_true rfl, Nat.le_of_ble_eq_true rfl⟩ (Nat.le_of_ble_eq_true rfl) rfl dX2_isOutNear_5 (c_X7_get ⟨by decide, by decide, rfl, rfl, rfl⟩ p1 p2) (Or.inl rfl) (fun v3 σ4 e5 => ?_)
  obtain ⟨e5a, e5b⟩ := e5; subst v3; subst σ4
  refine g_istore_n (ls' := [some (.inr 1), some (.inl x1), some (.inl (σ 9 (x1).toNat))]) dX2_isOutNear_8 rfl (by decide) rfl ?_
  refine g_aload_n dX2_isOutNear_9 rfl rfl ?_
  refine g_getI flX2_42 (by decide) rfl (by decide) rfl dX2_isOutNear_10 ?_
  refine g_bipush dX2_isOutNear_13 (by decide) (by decide) ?_
  refine g_icmp_eq (tgt := 31) dX2_isOutNear_15 (by decide) (fun c6 => ?_) (fun c6 => ?_)
  · have h := h.1 c6
    refine g_iconst dX2_isOutNear_31 (by decide) ?_
    refine g_goto (tgt := 36) dX2_isOutNear_32 (by decide) ?_
    exact g_zreturn rfl dX2_isOutNear_36 (by decide) h
  · have h := h.2 c6
    refine g_iload_n dX2_isOutNear_18 rfl rfl ?_
    refine g_iconst dX2_isOutNear_19 (by decide) ?_
    refine g_icmp_eq (tgt := 35) dX2_isOutNear_20 (by decide) (fun c7 => ?_) (fun c7 => ?_)
    · have h := h.1 c7
      refine g_iconst dX2_isOutNear_35 (by decide) ?_
      exact g_zreturn rfl dX2_isOutNear_36 (by decide) h
    · have h := h.2 c7
      refine g_iload_n dX2_isOutNear_23 rfl rfl ?_
      refine g_aload_n dX2_isOutNear_24 rfl rfl ?_
      refine g_getI flX2_42 (by decide) rfl (by decide) rfl dX2_isOutNear_25 ?_
      refine g_icmp_gt (tgt := 35) dX2_isOutNear_28 (by decide) (fun c8 => ?_) (fun c8 => ?_)
      · have h := h.1 c8
        refine g_iconst dX2_isOutNear_35 (by decide) ?_
        exact g_zreturn rfl dX2_isOutNear_36 (by decide) h
      · have h := h.2 c8
        refine g_iconst dX2_isOutNear_31 (by decide) ?_
        refine g_goto (tgt := 36) dX2_isOutNear_32 (by decide) ?_
        exact g_zreturn rfl dX2_isOutNear_36 (by decide) h
set_option maxRecDepth 100000 in
theorem rX10_cellAt_0 {x0 x1 : Int}  {σ : Mem} {Q : Int → Mem → Prop} (h : (x0 < 0 → Q (-1) σ) ∧ (0 ≤ x0 → (6 ≤ x0 → Q (-1) σ) ∧ (x0 < 6 → (x1 < 0 → Q (-1) σ) ∧ (0 ≤ x1 → (x1 < 6 → ((inR (x1 * 6)) ∧ (((inR ((x1 * 6) + x0)) ∧ (Q ((x1 * 6) + x0) σ))))) ∧ (6 ≤ x1 → Q (-1) σ))))) : CM mX10_cellAt [.inl x0, .inl x1] σ Q := by
  refine CM_of_GO (by decide +kernel) rfl (Nat.le_of_ble_eq_true rfl) ?_
  show GO none mX10_cellAt 0 [some (.inl x0), some (.inl x1)] [] σ Q
  refine g_iload_n dX10_cellAt_0 rfl rfl ?_
  refine g_if_lt (tgt := 20) dX10_cellAt_1 (by decide) (fun c1 => ?_) (fun c1 => ?_)
  · have h := h.1 c1
    refine g_iconst dX10_cellAt_20 (by decide) ?_
    refine g_goto (tgt := 30) dX10_cellAt_21 (by decide) ?_
    exact g_ireturn rfl dX10_cellAt_30 h
  · have h := h.2 c1
    refine g_iload_n dX10_cellAt_4 rfl rfl ?_
    refine g_bipush dX10_cellAt_5 (by decide) (by decide) ?_
    refine g_icmp_ge (tgt := 20) dX10_cellAt_7 (by decide) (fun c2 => ?_) (fun c2 => ?_)
    · have h := h.1 c2
      refine g_iconst dX10_cellAt_20 (by decide) ?_
      refine g_goto (tgt := 30) dX10_cellAt_21 (by decide) ?_
      exact g_ireturn rfl dX10_cellAt_30 h
    · have h := h.2 c2
      refine g_iload_n dX10_cellAt_10 rfl rfl ?_
      refine g_if_lt (tgt := 20) dX10_cellAt_11 (by decide) (fun c3 => ?_) (fun c3 => ?_)
      · have h := h.1 c3
        refine g_iconst dX10_cellAt_20 (by decide) ?_
        refine g_goto (tgt := 30) dX10_cellAt_21 (by decide) ?_
        exact g_ireturn rfl dX10_cellAt_30 h
      · have h := h.2 c3
        refine g_iload_n dX10_cellAt_14 rfl rfl ?_
        refine g_bipush dX10_cellAt_15 (by decide) (by decide) ?_
        refine g_icmp_lt (tgt := 24) dX10_cellAt_17 (by decide) (fun c4 => ?_) (fun c4 => ?_)
        · have h := h.1 c4
          refine g_iload_n dX10_cellAt_24 rfl rfl ?_
          refine g_bipush dX10_cellAt_25 (by decide) (by decide) ?_
          obtain ⟨p5, h⟩ := h
          refine g_imul dX10_cellAt_27 p5 ?_
          refine g_iload_n dX10_cellAt_28 rfl rfl ?_
          obtain ⟨p6, h⟩ := h
          refine g_iadd dX10_cellAt_29 p6 ?_
          exact g_ireturn rfl dX10_cellAt_30 h
        · have h := h.2 c4
          refine g_iconst dX10_cellAt_20 (by decide) ?_
          refine g_goto (tgt := 30) dX10_cellAt_21 (by decide) ?_
          exact g_ireturn rfl dX10_cellAt_30 h
set_option maxRecDepth 100000 in
theorem rX10_isYear_0 {x0 : Int}  {σ : Mem} {Q : Int → Mem → Prop} (h : (x0 < 0 → Q 0 σ) ∧ (0 ≤ x0 → (4 ≤ x0 → Q 0 σ) ∧ (x0 < 4 → Q 1 σ))) : CM mX10_isYear [.inl x0] σ Q := by
  refine CM_of_GO (by decide +kernel) rfl (Nat.le_of_ble_eq_true rfl) ?_
  show GO none mX10_isYear 0 [some (.inl x0)] [] σ Q
  refine g_iload_n dX10_isYear_0 rfl rfl ?_
  refine g_if_lt (tgt := 13) dX10_isYear_1 (by decide) (fun c1 => ?_) (fun c1 => ?_)
  · have h := h.1 c1
    refine g_iconst dX10_isYear_13 (by decide) ?_
    exact g_zreturn rfl dX10_isYear_14 (by decide) h
  · have h := h.2 c1
    refine g_iload_n dX10_isYear_4 rfl rfl ?_
    refine g_iconst dX10_isYear_5 (by decide) ?_
    refine g_icmp_ge (tgt := 13) dX10_isYear_6 (by decide) (fun c2 => ?_) (fun c2 => ?_)
    · have h := h.1 c2
      refine g_iconst dX10_isYear_13 (by decide) ?_
      exact g_zreturn rfl dX10_isYear_14 (by decide) h
    · have h := h.2 c2
      refine g_iconst dX10_isYear_9 (by decide) ?_
      refine g_goto (tgt := 14) dX10_isYear_10 (by decide) ?_
      exact g_zreturn rfl dX10_isYear_14 (by decide) h
set_option maxRecDepth 100000 in
theorem rX0_least_0  {σ : Mem} {Q : Int → Mem → Prop} (h : Q (σ 33 5) σ) : CM mX0_least [.inr 33] σ Q := by
  refine CM_of_GO (by decide +kernel) rfl (Nat.le_of_ble_eq_true rfl) ?_
  show GO none mX0_least 0 [some (.inr 33)] [] σ Q
  refine g_aload_n dX0_least_0 rfl rfl ?_
  refine g_getI flX0_21 (by decide) rfl (by decide) rfl dX0_least_1 ?_
  exact g_ireturn rfl dX0_least_4 h
set_option maxRecDepth 100000 in
theorem rX0_howMany_0  {σ : Mem} {Q : Int → Mem → Prop} (h : Q (σ 33 6) σ) : CM mX0_howMany [.inr 33] σ Q := by
  refine CM_of_GO (by decide +kernel) rfl (Nat.le_of_ble_eq_true rfl) ?_
  show GO none mX0_howMany 0 [some (.inr 33)] [] σ Q
  refine g_aload_n dX0_howMany_0 rfl rfl ?_
  refine g_getI flX0_25 (by decide) rfl (by decide) rfl dX0_howMany_1 ?_
  exact g_ireturn rfl dX0_howMany_4 h
set_option maxRecDepth 100000 in
theorem rX0_first_0  {σ : Mem} {Q : Int → Mem → Prop} (h : Q 37 σ) : CM mX0_first [.inr 33] σ Q := by
  refine CM_of_GO (by decide +kernel) ⟨_, rfl⟩ (Nat.le_of_ble_eq_true rfl) ?_
  show GO none mX0_first 0 [some (.inr 33)] [] σ Q
  refine g_aload_n dX0_first_0 rfl rfl ?_
  refine g_getR (r' := 37) flX0_18 (by decide) rfl (by decide) rfl dX0_first_1 ?_
  exact g_areturn rfl dX0_first_4 h
set_option maxRecDepth 100000 in
theorem rX1_found_0  {σ : Mem} {Q : Int → Mem → Prop} (h : Q 44 σ) : CM mX1_found [.inr 40] σ Q := by
  refine CM_of_GO (by decide +kernel) ⟨_, rfl⟩ (Nat.le_of_ble_eq_true rfl) ?_
  show GO none mX1_found 0 [some (.inr 40)] [] σ Q
  refine g_aload_n dX1_found_0 rfl rfl ?_
  refine g_getR (r' := 44) flX1_18 (by decide) rfl (by decide) rfl dX1_found_1 ?_
  exact g_areturn rfl dX1_found_4 h
set_option maxRecDepth 100000 in
theorem rX6_forget_0  {σ : Mem} {Q : Int → Mem → Prop} (h : Q 0 (mu σ 51 10 0)) : CM mX6_forget [.inr 51] σ Q := by
  refine CM_of_GO (by decide +kernel) rfl (Nat.le_of_ble_eq_true rfl) ?_
  show GO none mX6_forget 0 [some (.inr 51)] [] σ Q
  refine g_aload_n dX6_forget_0 rfl rfl ?_
  refine g_iconst dX6_forget_1 (by decide) ?_
  refine g_putI fpX6_43 (by decide) rfl (by decide) rfl (Or.inl rfl) dX6_forget_2 ?_
  exact g_return rfl dX6_forget_5 h
set_option maxRecDepth 100000 in
theorem rX6_price_0  {σ : Mem} {Q : Int → Mem → Prop} (h : Q (σ 51 9) σ) : CM mX6_price [.inr 51] σ Q := by
  refine CM_of_GO (by decide +kernel) rfl (Nat.le_of_ble_eq_true rfl) ?_
  show GO none mX6_price 0 [some (.inr 51)] [] σ Q
  refine g_aload_n dX6_price_0 rfl rfl ?_
  refine g_getI flX6_39 (by decide) rfl (by decide) rfl dX6_price_1 ?_
  exact g_ireturn rfl dX6_price_4 h
theorem c_X9_shops {σ : Mem} : CM mX9_shops [.inr 14] σ (fun v σ1 => v = σ 14 6 ∧ σ1 = σ) := rX9_shops_0 ⟨rfl, rfl⟩
theorem c_X9_wishes {σ : Mem} : CM mX9_wishes [.inr 14] σ (fun v σ1 => v = σ 14 7 ∧ σ1 = σ) := rX9_wishes_0 ⟨rfl, rfl⟩
theorem c_X9_hasShop {σ : Mem} {x : Int} : CM mX9_hasShop [.inr 14, .inl x] σ (fun v σ1 => v = (if 0 ≤ x ∧ x < σ 14 6 then 1 else 0) ∧ σ1 = σ) :=
  rX9_hasShop_0 ⟨fun h => ⟨by rw [if_neg (by omega)], rfl⟩, fun h => ⟨fun h2 => ⟨by rw [if_neg (by omega)], rfl⟩, fun h2 => ⟨by rw [if_pos ⟨h, h2⟩], rfl⟩⟩⟩
theorem c_X9_weightOf {σ : Mem} {x : Int} (h0 : 0 ≤ x) (h5 : x < 5) : CM mX9_weightOf [.inr 14, .inl x] σ (fun v σ1 => v = σ 18 x.toNat ∧ σ1 = σ) := rX9_weightOf_0 ⟨h0, h5, rfl, rfl⟩
theorem c_X9_changeWeight {σ : Mem} {x w : Int} (h0 : 0 ≤ x) (h5 : x < 5) : CM mX9_changeWeight [.inr 14, .inl x, .inl w] σ (fun v σ1 => v = σ 18 x.toNat ∧ σ1 = mu σ 18 x.toNat w) := rX9_changeWeight_0 ⟨h0, h5, rfl, rfl⟩
theorem c_X9_addShop {σ : Mem} (h0 : 0 ≤ σ 14 6) (h5 : σ 14 6 < 5) : CM mX9_addShop [.inr 14] σ (fun v σ1 => v = σ 14 6 ∧ σ1 = mu (mu σ 18 (σ 14 6).toNat 1) 14 6 (σ 14 6 + 1)) := rX9_addShop_0 ⟨h0, h5, by omega, rfl, rfl⟩
theorem c_X9_loadAt {σ : Mem} {y a b : Int} (h1 : 0 ≤ y) (h2 : y < 4) (h3 : 0 ≤ a) (h4 : a < 5) (h5 : 0 ≤ b) (h6 : b < 5) : CM mX9_loadAt [.inl y, .inl a, .inl b] σ (fun v σ1 => v = 25 * y + 5 * a + b ∧ σ1 = σ) := rX9_loadAt_0 ⟨by omega, by omega, by omega, by omega, by omega, rfl⟩
theorem c_X9_oneOf {σ : Mem} {x : Int} (h0 : 0 ≤ x) (h5 : x < 6) : CM mX9_oneOf [.inr 14, .inl x] σ (fun v σ1 => v = σ 20 x.toNat ∧ σ1 = σ) := rX9_oneOf_0 ⟨h0, h5, rfl, rfl⟩
theorem c_X9_otherOf {σ : Mem} {x : Int} (h0 : 0 ≤ x) (h5 : x < 6) : CM mX9_otherOf [.inr 14, .inl x] σ (fun v σ1 => v = σ 22 x.toNat ∧ σ1 = σ) := rX9_otherOf_0 ⟨h0, h5, rfl, rfl⟩
theorem c_X9_isMet {σ : Mem} {x w : Int} (h0 : 0 ≤ x) (h6 : x < 6) : CM mX9_isMet [.inr 14, .inl x, .inl w] σ (fun v σ1 => v = (if (σ 24 x.toNat = 1 ∧ w ≠ -1 ∧ w ≤ σ 26 x.toNat) ∨ (σ 24 x.toNat ≠ 1 ∧ (w = -1 ∨ σ 26 x.toNat ≤ w)) then 1 else 0) ∧ σ1 = σ) := by
  refine rX9_isMet_0 ⟨h0, h6, fun h => ⟨fun h1 => ⟨?_, rfl⟩, fun h1 => ⟨fun h2 => ⟨?_, rfl⟩, fun h2 => ⟨?_, rfl⟩⟩⟩, fun h => ⟨fun h1 => ⟨?_, rfl⟩, fun h1 => ⟨fun h2 => ⟨?_, rfl⟩, fun h2 => ⟨?_, rfl⟩⟩⟩⟩ <;> first
    | (rw [if_pos]; omega)
    | (rw [if_neg]; omega)
theorem c_X9_areTwo_pre {σ : Mem} : True := trivial
theorem c_X9_addWish {σ : Mem} {a b n e : Int} (h0 : 0 ≤ σ 14 7) (h6 : σ 14 7 < 6) (hn : n = 0 ∨ n = 1) : CM mX9_addWish [.inr 14, .inl a, .inl b, .inl n, .inl e] σ (fun v σ1 => v = σ 14 7 ∧ σ1 = mu (mu (mu (mu (mu σ 20 (σ 14 7).toNat a) 22 (σ 14 7).toNat b) 24 (σ 14 7).toNat n) 26 (σ 14 7).toNat e) 14 7 (σ 14 7 + 1)) := by
  refine rX9_addWish_0 ⟨h0, h6, fun h => ⟨by omega, rfl, ?_⟩, fun h => ⟨by omega, rfl, ?_⟩⟩
  · rw [h]
  · rw [show n = 1 by omega]
theorem c_X2_kindOf {σ : Mem} {x : Int} (h0 : 0 ≤ x) (h6 : x < 36) : CM mX2_kindOf [.inr 1, .inl x] σ (fun v σ1 => v = σ 3 x.toNat ∧ σ1 = σ) := rX2_kindOf_0 ⟨h0, h6, rfl, rfl⟩
theorem c_X2_slots {σ : Mem} : CM mX2_slots [.inr 1] σ (fun v σ1 => v = σ 1 7 ∧ σ1 = σ) := rX2_slots_0 ⟨rfl, rfl⟩
theorem c_X2_hasSlot {σ : Mem} {x : Int} : CM mX2_hasSlot [.inr 1, .inl x] σ (fun v σ1 => v = (if 0 ≤ x ∧ x < σ 1 7 then 1 else 0) ∧ σ1 = σ) :=
  rX2_hasSlot_0 ⟨fun h => ⟨by rw [if_neg (by omega)], rfl⟩, fun h => ⟨fun h2 => ⟨by rw [if_neg (by omega)], rfl⟩, fun h2 => ⟨by rw [if_pos ⟨h, h2⟩], rfl⟩⟩⟩
theorem c_X2_wayBetween {σ : Mem} {a b : Int} (h0 : 0 ≤ a) (h1 : a < 6) (h2 : 0 ≤ b) (h3 : b < 6) : CM mX2_wayBetween [.inr 1, .inl a, .inl b] σ (fun v σ1 => v = σ 7 (6 * a + b).toNat ∧ σ1 = σ) :=
  rX2_wayBetween_0 ⟨by omega, by omega, by omega, by omega, by rw [show a * 6 + b = 6 * a + b by omega], rfl⟩
theorem c_X2_wayOut {σ : Mem} {x : Int} (h0 : 0 ≤ x) (h6 : x < 6) : CM mX2_wayOut [.inr 1, .inl x] σ (fun v σ1 => v = σ 9 x.toNat ∧ σ1 = σ) := rX2_wayOut_0 ⟨h0, h6, rfl, rfl⟩
theorem c_X2_changeBound {σ : Mem} {x : Int} : CM mX2_changeBound [.inr 1, .inl x] σ (fun v σ1 => v = σ 1 8 ∧ σ1 = mu σ 1 8 x) := rX2_changeBound_0 ⟨rfl, rfl⟩
theorem c_X2_isOutNear {σ : Mem} {x : Int} (h0 : 0 ≤ x) (h6 : x < 6) : CM mX2_isOutNear [.inr 1, .inl x] σ (fun v σ1 => v = (if σ 1 8 = 41 ∨ (σ 9 x.toNat ≠ -1 ∧ σ 9 x.toNat ≤ σ 1 8) then 1 else 0) ∧ σ1 = σ) := by
  refine rX2_isOutNear_0 ⟨h0, h6, fun h => ⟨?_, rfl⟩, fun h => ⟨fun h1 => ⟨?_, rfl⟩, fun h1 => ⟨fun h2 => ⟨?_, rfl⟩, fun h2 => ⟨?_, rfl⟩⟩⟩⟩ <;> first
    | (rw [if_pos]; omega)
    | (rw [if_neg]; omega)
theorem c_X10_cellAt {σ : Mem} {x y : Int} : CM mX10_cellAt [.inl x, .inl y] σ (fun v σ1 => ((0 ≤ x ∧ x < 6 ∧ 0 ≤ y ∧ y < 6 ∧ v = 6 * y + x) ∨ (¬ (0 ≤ x ∧ x < 6 ∧ 0 ≤ y ∧ y < 6) ∧ v = -1)) ∧ σ1 = σ) := by
  refine rX10_cellAt_0 ⟨fun h => ⟨?_, rfl⟩, fun h => ⟨fun h1 => ⟨?_, rfl⟩, fun h1 => ⟨fun h2 => ⟨?_, rfl⟩, fun h2 => ⟨fun h3 => ⟨by omega, by omega, ?_, rfl⟩, fun h3 => ⟨?_, rfl⟩⟩⟩⟩⟩ <;> omega
theorem c_X10_isYear {σ : Mem} {x : Int} : CM mX10_isYear [.inl x] σ (fun v σ1 => v = (if 0 ≤ x ∧ x < 4 then 1 else 0) ∧ σ1 = σ) :=
  rX10_isYear_0 ⟨fun h => ⟨by rw [if_neg (by omega)], rfl⟩, fun h => ⟨fun h2 => ⟨by rw [if_neg (by omega)], rfl⟩, fun h2 => ⟨by rw [if_pos ⟨h, h2⟩], rfl⟩⟩⟩
theorem c_X0_least {σ : Mem} : CM mX0_least [.inr 33] σ (fun v σ1 => v = σ 33 5 ∧ σ1 = σ) := rX0_least_0 ⟨rfl, rfl⟩
theorem c_X0_howMany {σ : Mem} : CM mX0_howMany [.inr 33] σ (fun v σ1 => v = σ 33 6 ∧ σ1 = σ) := rX0_howMany_0 ⟨rfl, rfl⟩
theorem c_X0_first {σ : Mem} : CM mX0_first [.inr 33] σ (fun v σ1 => v = 37 ∧ σ1 = σ) := rX0_first_0 ⟨rfl, rfl⟩
theorem c_X1_found {σ : Mem} : CM mX1_found [.inr 40] σ (fun v σ1 => v = 44 ∧ σ1 = σ) := rX1_found_0 ⟨rfl, rfl⟩
theorem c_X6_forget {σ : Mem} : CM mX6_forget [.inr 51] σ (fun _ σ1 => σ1 = mu σ 51 10 0) := rX6_forget_0 rfl
theorem c_X6_price {σ : Mem} : CM mX6_price [.inr 51] σ (fun v σ1 => v = σ 51 9 ∧ σ1 = σ) := rX6_price_0 ⟨rfl, rfl⟩
end
section
/-! ===== loads, wishes, weights moved, cells counted ===== -/
def sumF (g : Nat → Int) : Nat → Int
  | 0 => 0
  | n + 1 => sumF g n + g n
theorem sumF_succ (g : Nat → Int) (n : Nat) : sumF g (n + 1) = sumF g n + g n := rfl
theorem sumF_cong {f g : Nat → Int} : ∀ {n : Nat}, (∀ i, i < n → f i = g i) → sumF f n = sumF g n
  | 0, _ => rfl
  | n + 1, h => by rw [sumF_succ, sumF_succ, sumF_cong (fun i hi => h i (by omega)), h n (by omega)]
theorem sumF_bd {f : Nat → Int} {c : Int} : ∀ {n : Nat}, (∀ i, i < n → 0 ≤ f i ∧ f i ≤ c) → 0 ≤ sumF f n ∧ sumF f n ≤ n * c
  | 0, _ => ⟨Int.le_refl _, by simp [sumF]⟩
  | n + 1, h => by
    have h1 := sumF_bd (n := n) (fun i hi => h i (by omega))
    have h2 := h n (by omega)
    rw [sumF_succ]
    refine ⟨by omega, ?_⟩
    rw [show ((n + 1 : Nat) : Int) * c = (n : Int) * c + c by rw [Int.natCast_succ, Int.add_mul]; omega]
    omega
set_option maxRecDepth 100000 in
theorem rX9_areTwo_0 {x1 x2 : Int}  {σ : Mem} {Q : Int → Mem → Prop} (h : (¬ (0 ≤ x1 ∧ x1 < σ 14 6) → Q 0 σ) ∧ (0 ≤ x1 ∧ x1 < σ 14 6 → (¬ (0 ≤ x2 ∧ x2 < σ 14 6) → Q 0 σ) ∧ (0 ≤ x2 ∧ x2 < σ 14 6 → (x1 = x2 → Q 0 σ) ∧ (x1 ≠ x2 → Q 1 σ)))) : CM mX9_areTwo [.inr 14, .inl x1, .inl x2] σ Q := by
  refine CM_of_GO (by decide +kernel) rfl (Nat.le_of_ble_eq_true rfl) ?_
  show GO none mX9_areTwo 0 [some (.inr 14), some (.inl x1), some (.inl x2)] [] σ Q
  refine g_aload_n dX9_areTwo_0 rfl rfl ?_
  refine g_iload_n dX9_areTwo_1 rfl rfl ?_
  refine g_invVI (as := [.inl x1]) (rest := []) okX9_hasShop mlX9_42 (by decide) rfl ⟨_, _, rfl⟩ rfl ⟨Nat.le_of_ble_eq_true rfl, Nat.le_of_ble_eq_true rfl⟩ (Nat.le_of_ble_eq_true rfl) rfl dX9_areTwo_2 (c_X9_hasShop) (Or.inr rfl) (fun v1 σ2 e3 => ?_)
  obtain ⟨e3a, e3b⟩ := e3; subst v1; subst σ2
  refine g_if_eq (tgt := 25) dX9_areTwo_5 (by decide) (fun c4 => ?_) (fun c4 => ?_)
  · have h := h.1 (ite_no c4)
    refine g_iconst dX9_areTwo_25 (by decide) ?_
    exact g_zreturn rfl dX9_areTwo_26 (by decide) h
  · have h := h.2 (ite_yes c4)
    refine g_aload_n dX9_areTwo_8 rfl rfl ?_
    refine g_iload_n dX9_areTwo_9 rfl rfl ?_
    refine g_invVI (as := [.inl x2]) (rest := []) okX9_hasShop mlX9_42 (by decide) rfl ⟨_, _, rfl⟩ rfl ⟨Nat.le_of_ble_eq_true rfl, Nat.le_of_ble_eq_true rfl⟩ (Nat.le_of_ble_eq_true rfl) rfl dX9_areTwo_10 (c_X9_hasShop) (Or.inr rfl) (fun v5 σ6 e7 => ?_)
    obtain ⟨e7a, e7b⟩ := e7; subst v5; subst σ6
    refine g_if_eq (tgt := 25) dX9_areTwo_13 (by decide) (fun c8 => ?_) (fun c8 => ?_)
    · have h := h.1 (ite_no c8)
      refine g_iconst dX9_areTwo_25 (by decide) ?_
      exact g_zreturn rfl dX9_areTwo_26 (by decide) h
    · have h := h.2 (ite_yes c8)
      refine g_iload_n dX9_areTwo_16 rfl rfl ?_
      refine g_iload_n dX9_areTwo_17 rfl rfl ?_
      refine g_icmp_eq (tgt := 25) dX9_areTwo_18 (by decide) (fun c9 => ?_) (fun c9 => ?_)
      · have h := h.1 c9
        refine g_iconst dX9_areTwo_25 (by decide) ?_
        exact g_zreturn rfl dX9_areTwo_26 (by decide) h
      · have h := h.2 c9
        refine g_iconst dX9_areTwo_21 (by decide) ?_
        refine g_goto (tgt := 26) dX9_areTwo_22 (by decide) ?_
        exact g_zreturn rfl dX9_areTwo_26 (by decide) h
set_option maxRecDepth 100000 in
theorem rX9_changeLoad_0 {x1 x2 x3 x4 : Int}  {σ : Mem} {Q : Int → Mem → Prop} (h : ((0 ≤ x1) ∧ (((x1 < 4) ∧ (((0 ≤ x2) ∧ (((x2 < 5) ∧ (((0 ≤ x3) ∧ (((x3 < 5) ∧ (((0 ≤ (25 * x1 + 5 * x2 + x3)) ∧ ((((25 * x1 + 5 * x2 + x3) < 100) ∧ (Q (σ 16 ((25 * x1 + 5 * x2 + x3)).toNat) (mu σ 16 ((25 * x1 + 5 * x2 + x3)).toNat x4)))))))))))))))))) : CM mX9_changeLoad [.inr 14, .inl x1, .inl x2, .inl x3, .inl x4] σ Q := by
  refine CM_of_GO (by decide +kernel) rfl (Nat.le_of_ble_eq_true rfl) ?_
  show GO none mX9_changeLoad 0 [some (.inr 14), some (.inl x1), some (.inl x2), some (.inl x3), some (.inl x4), none, none] [] σ Q
  refine g_iload_n dX9_changeLoad_0 rfl rfl ?_
  refine g_iload_n dX9_changeLoad_1 rfl rfl ?_
  refine g_iload_n dX9_changeLoad_2 rfl rfl ?_
  obtain ⟨p1, h⟩ := h
  obtain ⟨p2, h⟩ := h
  obtain ⟨p3, h⟩ := h
  obtain ⟨p4, h⟩ := h
  obtain ⟨p5, h⟩ := h
  obtain ⟨p6, h⟩ := h
  refine g_invSI (as := [.inl x1, .inl x2, .inl x3]) (rest := []) okX9_loadAt rfl mlX9_50 rfl ⟨Nat.le_of_ble_eq_true rfl, Nat.le_of_ble_eq_true rfl⟩ (Nat.le_of_ble_eq_true rfl) rfl dX9_changeLoad_3 (c_X9_loadAt p1 p2 p3 p4 p5 p6) (Or.inl rfl) (fun v7 σ8 e9 => ?_)
  obtain ⟨e9a, e9b⟩ := e9; subst v7; subst σ8
  refine g_istore (ls' := [some (.inr 14), some (.inl x1), some (.inl x2), some (.inl x3), some (.inl x4), some (.inl (25 * x1 + 5 * x2 + x3)), none]) dX9_changeLoad_6 (by decide) rfl ?_
  refine g_aload_n dX9_changeLoad_8 rfl rfl ?_
  refine g_getR (r' := 15) flX9_14 (by decide) rfl (by decide) rfl dX9_changeLoad_9 ?_
  refine g_iload dX9_changeLoad_12 rfl ?_
  obtain ⟨p10, h⟩ := h
  obtain ⟨p11, h⟩ := h
  refine g_invVI (as := [.inl (25 * x1 + 5 * x2 + x3)]) (rest := []) okX7_get mlX9_54 (by decide) rfl ⟨_, _, rfl⟩ rfl ⟨Nat.le_of_ble_eq_true rfl, Nat.le_of_ble_eq_true rfl⟩ (Nat.le_of_ble_eq_true rfl) rfl dX9_changeLoad_14 (c_X7_get ⟨by decide, by decide, rfl, rfl, rfl⟩ p10 p11) (Or.inl rfl) (fun v12 σ13 e14 => ?_)
  obtain ⟨e14a, e14b⟩ := e14; subst v12; subst σ13
  refine g_istore (ls' := [some (.inr 14), some (.inl x1), some (.inl x2), some (.inl x3), some (.inl x4), some (.inl (25 * x1 + 5 * x2 + x3)), some (.inl (σ 16 ((25 * x1 + 5 * x2 + x3)).toNat))]) dX9_changeLoad_17 (by decide) rfl ?_
  refine g_aload_n dX9_changeLoad_19 rfl rfl ?_
  refine g_getR (r' := 15) flX9_14 (by decide) rfl (by decide) rfl dX9_changeLoad_20 ?_
  refine g_iload dX9_changeLoad_23 rfl ?_
  refine g_iload dX9_changeLoad_25 rfl ?_
  refine g_invVV (as := [.inl (25 * x1 + 5 * x2 + x3), .inl x4]) (rest := []) okX7_set mlX9_46 (by decide) rfl ⟨_, _, rfl⟩ rfl ⟨Nat.le_of_ble_eq_true rfl, Nat.le_of_ble_eq_true rfl⟩ (Nat.le_of_ble_eq_true rfl) rfl dX9_changeLoad_27 (c_X7_set ⟨by decide, by decide, rfl, rfl, rfl⟩ p10 p11) rfl (fun σ16 e17 => ?_)
  subst σ16
  refine g_iload dX9_changeLoad_30 rfl ?_
  exact g_ireturn rfl dX9_changeLoad_32 h
set_option maxRecDepth 100000 in
theorem rX9_bothWays_0 {x1 x2 x3 : Int}  {σ : Mem} {Q : Int → Mem → Prop} (h : ((0 ≤ x1) ∧ (((x1 < 4) ∧ (((0 ≤ x2) ∧ (((x2 < 5) ∧ (((0 ≤ x3) ∧ (((x3 < 5) ∧ (((0 ≤ (25 * x1 + 5 * x2 + x3)) ∧ ((((25 * x1 + 5 * x2 + x3) < 100) ∧ (((0 ≤ (25 * x1 + 5 * x3 + x2)) ∧ ((((25 * x1 + 5 * x3 + x2) < 100) ∧ (((inR ((σ 16 ((25 * x1 + 5 * x2 + x3)).toNat) + (σ 16 ((25 * x1 + 5 * x3 + x2)).toNat))) ∧ (Q ((σ 16 ((25 * x1 + 5 * x2 + x3)).toNat) + (σ 16 ((25 * x1 + 5 * x3 + x2)).toNat)) σ))))))))))))))))))))))) : CM mX9_bothWays [.inr 14, .inl x1, .inl x2, .inl x3] σ Q := by
  refine CM_of_GO (by decide +kernel) rfl (Nat.le_of_ble_eq_true rfl) ?_
  show GO none mX9_bothWays 0 [some (.inr 14), some (.inl x1), some (.inl x2), some (.inl x3)] [] σ Q
  refine g_aload_n dX9_bothWays_0 rfl rfl ?_
  refine g_getR (r' := 15) flX9_14 (by decide) rfl (by decide) rfl dX9_bothWays_1 ?_
  refine g_iload_n dX9_bothWays_4 rfl rfl ?_
  refine g_iload_n dX9_bothWays_5 rfl rfl ?_
  refine g_iload_n dX9_bothWays_6 rfl rfl ?_
  obtain ⟨p1, h⟩ := h
  obtain ⟨p2, h⟩ := h
  obtain ⟨p3, h⟩ := h
  obtain ⟨p4, h⟩ := h
  obtain ⟨p5, h⟩ := h
  obtain ⟨p6, h⟩ := h
  refine g_invSI (as := [.inl x1, .inl x2, .inl x3]) (rest := [.inr 15]) okX9_loadAt rfl mlX9_50 rfl ⟨Nat.le_of_ble_eq_true rfl, Nat.le_of_ble_eq_true rfl⟩ (Nat.le_of_ble_eq_true rfl) rfl dX9_bothWays_7 (c_X9_loadAt p1 p2 p3 p4 p5 p6) (Or.inl rfl) (fun v7 σ8 e9 => ?_)
  obtain ⟨e9a, e9b⟩ := e9; subst v7; subst σ8
  obtain ⟨p10, h⟩ := h
  obtain ⟨p11, h⟩ := h
  refine g_invVI (as := [.inl (25 * x1 + 5 * x2 + x3)]) (rest := []) okX7_get mlX9_54 (by decide) rfl ⟨_, _, rfl⟩ rfl ⟨Nat.le_of_ble_eq_true rfl, Nat.le_of_ble_eq_true rfl⟩ (Nat.le_of_ble_eq_true rfl) rfl dX9_bothWays_10 (c_X7_get ⟨by decide, by decide, rfl, rfl, rfl⟩ p10 p11) (Or.inl rfl) (fun v12 σ13 e14 => ?_)
  obtain ⟨e14a, e14b⟩ := e14; subst v12; subst σ13
  refine g_aload_n dX9_bothWays_13 rfl rfl ?_
  refine g_getR (r' := 15) flX9_14 (by decide) rfl (by decide) rfl dX9_bothWays_14 ?_
  refine g_iload_n dX9_bothWays_17 rfl rfl ?_
  refine g_iload_n dX9_bothWays_18 rfl rfl ?_
  refine g_iload_n dX9_bothWays_19 rfl rfl ?_
  refine g_invSI (as := [.inl x1, .inl x3, .inl x2]) (rest := [.inr 15, .inl (σ 16 ((25 * x1 + 5 * x2 + x3)).toNat)]) okX9_loadAt rfl mlX9_50 rfl ⟨Nat.le_of_ble_eq_true rfl, Nat.le_of_ble_eq_true rfl⟩ (Nat.le_of_ble_eq_true rfl) rfl dX9_bothWays_20 (c_X9_loadAt p1 p2 p5 p6 p3 p4) (Or.inl rfl) (fun v15 σ16 e17 => ?_)
  obtain ⟨e17a, e17b⟩ := e17; subst v15; subst σ16
  obtain ⟨p18, h⟩ := h
  obtain ⟨p19, h⟩ := h
  refine g_invVI (as := [.inl (25 * x1 + 5 * x3 + x2)]) (rest := [.inl (σ 16 ((25 * x1 + 5 * x2 + x3)).toNat)]) okX7_get mlX9_54 (by decide) rfl ⟨_, _, rfl⟩ rfl ⟨Nat.le_of_ble_eq_true rfl, Nat.le_of_ble_eq_true rfl⟩ (Nat.le_of_ble_eq_true rfl) rfl dX9_bothWays_23 (c_X7_get ⟨by decide, by decide, rfl, rfl, rfl⟩ p18 p19) (Or.inl rfl) (fun v20 σ21 e22 => ?_)
  obtain ⟨e22a, e22b⟩ := e22; subst v20; subst σ21
  obtain ⟨p23, h⟩ := h
  refine g_iadd dX9_bothWays_26 p23 ?_
  exact g_ireturn rfl dX9_bothWays_27 h
set_option maxRecDepth 100000 in
theorem rX9_dropWish_0 {x1 : Int}  {σ : Mem} {Q : Int → Mem → Prop} (h : GO none mX9_dropWish 2 [some (.inr 14), some (.inl x1), some (.inl x1)] [] σ Q) : CM mX9_dropWish [.inr 14, .inl x1] σ Q := by
  refine CM_of_GO (by decide +kernel) rfl (Nat.le_of_ble_eq_true rfl) ?_
  show GO none mX9_dropWish 0 [some (.inr 14), some (.inl x1), none] [] σ Q
  refine g_iload_n dX9_dropWish_0 rfl rfl ?_
  refine g_istore_n (ls' := [some (.inr 14), some (.inl x1), some (.inl x1)]) dX9_dropWish_1 rfl (by decide) rfl ?_
  exact h
set_option maxRecDepth 100000 in
theorem rX9_dropWish_2 {x1 x2 : Int}  {σ : Mem} {Q : Int → Mem → Prop} (h : ((inR ((σ 14 7) - 1)) ∧ ((((σ 14 7) - 1) ≤ x2 → Q 0 (mu σ 14 7 ((σ 14 7) - 1))) ∧ (x2 < ((σ 14 7) - 1) → ((inR (x2 + 1)) ∧ (((0 ≤ (x2 + 1)) ∧ ((((x2 + 1) < 6) ∧ (((0 ≤ x2) ∧ (((x2 < 6) ∧ (GO none mX9_dropWish 2 [some (.inr 14), some (.inl x1), some (.inl (x2 + 1))] [] (mu (mu (mu (mu σ 20 (x2).toNat (σ 20 ((x2 + 1)).toNat)) 22 (x2).toNat (σ 22 ((x2 + 1)).toNat)) 24 (x2).toNat (σ 24 ((x2 + 1)).toNat)) 26 (x2).toNat (σ 26 ((x2 + 1)).toNat)) Q)))))))))))))) : GO none mX9_dropWish 2 [some (.inr 14), some (.inl x1), some (.inl x2)] [] σ Q := by
  refine g_iload_n dX9_dropWish_2 rfl rfl ?_
  refine g_aload_n dX9_dropWish_3 rfl rfl ?_
  refine g_getI flX9_39 (by decide) rfl (by decide) rfl dX9_dropWish_4 ?_
  refine g_iconst dX9_dropWish_7 (by decide) ?_
  obtain ⟨p1, h⟩ := h
  refine g_isub dX9_dropWish_8 p1 ?_
  refine g_icmp_ge (tgt := 90) dX9_dropWish_9 (by decide) (fun c2 => ?_) (fun c2 => ?_)
  · have h := h.1 c2
    refine g_aload_n dX9_dropWish_90 rfl rfl ?_
    refine g_dup dX9_dropWish_91 ?_
    refine g_getI flX9_39 (by decide) rfl (by decide) rfl dX9_dropWish_92 ?_
    refine g_iconst dX9_dropWish_95 (by decide) ?_
    refine g_isub dX9_dropWish_96 p1 ?_
    refine g_putI fpX9_39 (by decide) rfl (by decide) rfl (Or.inl rfl) dX9_dropWish_97 ?_
    exact g_return rfl dX9_dropWish_100 h
  · have h := h.2 c2
    refine g_aload_n dX9_dropWish_12 rfl rfl ?_
    refine g_getR (r' := 19) flX9_23 (by decide) rfl (by decide) rfl dX9_dropWish_13 ?_
    refine g_iload_n dX9_dropWish_16 rfl rfl ?_
    refine g_aload_n dX9_dropWish_17 rfl rfl ?_
    refine g_getR (r' := 19) flX9_23 (by decide) rfl (by decide) rfl dX9_dropWish_18 ?_
    refine g_iload_n dX9_dropWish_21 rfl rfl ?_
    refine g_iconst dX9_dropWish_22 (by decide) ?_
    obtain ⟨p3, h⟩ := h
    refine g_iadd dX9_dropWish_23 p3 ?_
    obtain ⟨p4, h⟩ := h
    obtain ⟨p5, h⟩ := h
    refine g_invVI (as := [.inl (x2 + 1)]) (rest := [.inl x2, .inr 19]) okX7_get mlX9_54 (by decide) rfl ⟨_, _, rfl⟩ rfl ⟨Nat.le_of_ble_eq_true rfl, Nat.le_of_ble_eq_true rfl⟩ (Nat.le_of_ble_eq_true rfl) rfl dX9_dropWish_24 (c_X7_get ⟨by decide, by decide, rfl, rfl, rfl⟩ p4 p5) (Or.inl rfl) (fun v6 σ7 e8 => ?_)
    obtain ⟨e8a, e8b⟩ := e8; subst v6; subst σ7
    obtain ⟨p9, h⟩ := h
    obtain ⟨p10, h⟩ := h
    refine g_invVV (as := [.inl x2, .inl (σ 20 ((x2 + 1)).toNat)]) (rest := []) okX7_set mlX9_46 (by decide) rfl ⟨_, _, rfl⟩ rfl ⟨Nat.le_of_ble_eq_true rfl, Nat.le_of_ble_eq_true rfl⟩ (Nat.le_of_ble_eq_true rfl) rfl dX9_dropWish_27 (c_X7_set ⟨by decide, by decide, rfl, rfl, rfl⟩ p9 p10) rfl (fun σ12 e13 => ?_)
    subst σ12
    refine g_aload_n dX9_dropWish_30 rfl rfl ?_
    refine g_getR (r' := 21) flX9_26 (by decide) rfl (by decide) rfl dX9_dropWish_31 ?_
    refine g_iload_n dX9_dropWish_34 rfl rfl ?_
    refine g_aload_n dX9_dropWish_35 rfl rfl ?_
    refine g_getR (r' := 21) flX9_26 (by decide) rfl (by decide) rfl dX9_dropWish_36 ?_
    refine g_iload_n dX9_dropWish_39 rfl rfl ?_
    refine g_iconst dX9_dropWish_40 (by decide) ?_
    refine g_iadd dX9_dropWish_41 p3 ?_
    refine g_invVI (as := [.inl (x2 + 1)]) (rest := [.inl x2, .inr 21]) okX7_get mlX9_54 (by decide) rfl ⟨_, _, rfl⟩ rfl ⟨Nat.le_of_ble_eq_true rfl, Nat.le_of_ble_eq_true rfl⟩ (Nat.le_of_ble_eq_true rfl) rfl dX9_dropWish_42 (c_X7_get ⟨by decide, by decide, rfl, rfl, rfl⟩ p4 p5) (Or.inl rfl) (fun v14 σ15 e16 => ?_)
    obtain ⟨e16a, e16b⟩ := e16; subst v14; subst σ15
    refine g_top (w := (σ 22 ((x2 + 1)).toNat)) rfl ?_
    refine g_invVV (as := [.inl x2, .inl (σ 22 ((x2 + 1)).toNat)]) (rest := []) okX7_set mlX9_46 (by decide) rfl ⟨_, _, rfl⟩ rfl ⟨Nat.le_of_ble_eq_true rfl, Nat.le_of_ble_eq_true rfl⟩ (Nat.le_of_ble_eq_true rfl) rfl dX9_dropWish_45 (c_X7_set ⟨by decide, by decide, rfl, rfl, rfl⟩ p9 p10) rfl (fun σ18 e19 => ?_)
    subst σ18
    refine g_aload_n dX9_dropWish_48 rfl rfl ?_
    refine g_getR (r' := 23) flX9_29 (by decide) rfl (by decide) rfl dX9_dropWish_49 ?_
    refine g_iload_n dX9_dropWish_52 rfl rfl ?_
    refine g_aload_n dX9_dropWish_53 rfl rfl ?_
    refine g_getR (r' := 23) flX9_29 (by decide) rfl (by decide) rfl dX9_dropWish_54 ?_
    refine g_iload_n dX9_dropWish_57 rfl rfl ?_
    refine g_iconst dX9_dropWish_58 (by decide) ?_
    refine g_iadd dX9_dropWish_59 p3 ?_
    refine g_invVI (as := [.inl (x2 + 1)]) (rest := [.inl x2, .inr 23]) okX7_get mlX9_54 (by decide) rfl ⟨_, _, rfl⟩ rfl ⟨Nat.le_of_ble_eq_true rfl, Nat.le_of_ble_eq_true rfl⟩ (Nat.le_of_ble_eq_true rfl) rfl dX9_dropWish_60 (c_X7_get ⟨by decide, by decide, rfl, rfl, rfl⟩ p4 p5) (Or.inl rfl) (fun v20 σ21 e22 => ?_)
    obtain ⟨e22a, e22b⟩ := e22; subst v20; subst σ21
    refine g_top (w := (σ 24 ((x2 + 1)).toNat)) rfl ?_
    refine g_invVV (as := [.inl x2, .inl (σ 24 ((x2 + 1)).toNat)]) (rest := []) okX7_set mlX9_46 (by decide) rfl ⟨_, _, rfl⟩ rfl ⟨Nat.le_of_ble_eq_true rfl, Nat.le_of_ble_eq_true rfl⟩ (Nat.le_of_ble_eq_true rfl) rfl dX9_dropWish_63 (c_X7_set ⟨by decide, by decide, rfl, rfl, rfl⟩ p9 p10) rfl (fun σ24 e25 => ?_)
    subst σ24
    refine g_aload_n dX9_dropWish_66 rfl rfl ?_
    refine g_getR (r' := 25) flX9_32 (by decide) rfl (by decide) rfl dX9_dropWish_67 ?_
    refine g_iload_n dX9_dropWish_70 rfl rfl ?_
    refine g_aload_n dX9_dropWish_71 rfl rfl ?_
    refine g_getR (r' := 25) flX9_32 (by decide) rfl (by decide) rfl dX9_dropWish_72 ?_
    refine g_iload_n dX9_dropWish_75 rfl rfl ?_
    refine g_iconst dX9_dropWish_76 (by decide) ?_
    refine g_iadd dX9_dropWish_77 p3 ?_
    refine g_invVI (as := [.inl (x2 + 1)]) (rest := [.inl x2, .inr 25]) okX7_get mlX9_54 (by decide) rfl ⟨_, _, rfl⟩ rfl ⟨Nat.le_of_ble_eq_true rfl, Nat.le_of_ble_eq_true rfl⟩ (Nat.le_of_ble_eq_true rfl) rfl dX9_dropWish_78 (c_X7_get ⟨by decide, by decide, rfl, rfl, rfl⟩ p4 p5) (Or.inl rfl) (fun v26 σ27 e28 => ?_)
    obtain ⟨e28a, e28b⟩ := e28; subst v26; subst σ27
    refine g_top (w := (σ 26 ((x2 + 1)).toNat)) rfl ?_
    refine g_invVV (as := [.inl x2, .inl (σ 26 ((x2 + 1)).toNat)]) (rest := []) okX7_set mlX9_46 (by decide) rfl ⟨_, _, rfl⟩ rfl ⟨Nat.le_of_ble_eq_true rfl, Nat.le_of_ble_eq_true rfl⟩ (Nat.le_of_ble_eq_true rfl) rfl dX9_dropWish_81 (c_X7_set ⟨by decide, by decide, rfl, rfl, rfl⟩ p9 p10) rfl (fun σ30 e31 => ?_)
    subst σ30
    refine g_iinc (ls' := [some (.inr 14), some (.inl x1), some (.inl (x2 + 1))]) dX9_dropWish_84 (by decide) rfl p3 rfl ?_
    refine g_goto (tgt := 2) dX9_dropWish_87 (by decide) ?_
    exact h
set_option maxRecDepth 100000 in
theorem rX9_movedWeight_0 {k1 : Nat} (hk1 : isSeats k1) {k2 : Nat} (hk2 : isSeats k2) {σ : Mem} {Q : Int → Mem → Prop} (h : GO none mX9_movedWeight 5 [some (.inr 14), some (.inr k1), some (.inr k2), some (.inl 0), some (.inl 0)] [] σ Q) : CM mX9_movedWeight [.inr 14, .inr k1, .inr k2] σ Q := by
  refine CM_of_GO (by decide +kernel) rfl (Nat.le_of_ble_eq_true rfl) ?_
  show GO none mX9_movedWeight 0 [some (.inr 14), some (.inr k1), some (.inr k2), none, none] [] σ Q
  refine g_iconst dX9_movedWeight_0 (by decide) ?_
  refine g_istore_n (ls' := [some (.inr 14), some (.inr k1), some (.inr k2), some (.inl 0), none]) dX9_movedWeight_1 rfl (by decide) rfl ?_
  refine g_iconst dX9_movedWeight_2 (by decide) ?_
  refine g_istore (ls' := [some (.inr 14), some (.inr k1), some (.inr k2), some (.inl 0), some (.inl 0)]) dX9_movedWeight_3 (by decide) rfl ?_
  exact h
set_option maxRecDepth 100000 in
theorem rX9_movedWeight_5 {x3 x4 : Int} {k1 : Nat} (hk1 : isSeats k1) {k2 : Nat} (hk2 : isSeats k2) {σ : Mem} {Q : Int → Mem → Prop} (h : ((σ 14 6) ≤ x4 → Q x3 σ) ∧ (x4 < (σ 14 6) → ((0 ≤ x4) ∧ (((x4 < 5) ∧ (((σ (k1 + 2) (x4).toNat) = (σ (k2 + 2) (x4).toNat) → ((inR (x4 + 1)) ∧ (GO none mX9_movedWeight 5 [some (.inr 14), some (.inr k1), some (.inr k2), some (.inl x3), some (.inl (x4 + 1))] [] σ Q))) ∧ ((σ (k1 + 2) (x4).toNat) ≠ (σ (k2 + 2) (x4).toNat) → ((inR (x3 + (σ 18 (x4).toNat))) ∧ (((inR (x4 + 1)) ∧ (GO none mX9_movedWeight 5 [some (.inr 14), some (.inr k1), some (.inr k2), some (.inl (x3 + (σ 18 (x4).toNat))), some (.inl (x4 + 1))] [] σ Q))))))))))) : GO none mX9_movedWeight 5 [some (.inr 14), some (.inr k1), some (.inr k2), some (.inl x3), some (.inl x4)] [] σ Q := by
  refine g_iload dX9_movedWeight_5 rfl ?_
  refine g_aload_n dX9_movedWeight_7 rfl rfl ?_
  refine g_getI flX9_35 (by decide) rfl (by decide) rfl dX9_movedWeight_8 ?_
  refine g_icmp_ge (tgt := 47) dX9_movedWeight_11 (by decide) (fun c1 => ?_) (fun c1 => ?_)
  · have h := h.1 c1
    refine g_iload_n dX9_movedWeight_47 rfl rfl ?_
    exact g_ireturn rfl dX9_movedWeight_48 h
  · have h := h.2 c1
    refine g_aload_n dX9_movedWeight_14 rfl rfl ?_
    refine g_iload dX9_movedWeight_15 rfl ?_
    obtain ⟨p2, h⟩ := h
    obtain ⟨p3, h⟩ := h
    refine g_invVI (as := [.inl x4]) (rest := []) okX8_at mlX9_58 hk1.1 hk1.2.1 ⟨_, _, rfl⟩ rfl ⟨Nat.le_of_ble_eq_true rfl, Nat.le_of_ble_eq_true rfl⟩ (Nat.le_of_ble_eq_true rfl) rfl dX9_movedWeight_17 (c_X8_at hk1 p2 p3) (Or.inl rfl) (fun v4 σ5 e6 => ?_)
    obtain ⟨e6a, e6b⟩ := e6; subst v4; subst σ5
    refine g_aload_n dX9_movedWeight_20 rfl rfl ?_
    refine g_iload dX9_movedWeight_21 rfl ?_
    refine g_invVI (as := [.inl x4]) (rest := [.inl (σ (k1 + 2) (x4).toNat)]) okX8_at mlX9_58 hk2.1 hk2.2.1 ⟨_, _, rfl⟩ rfl ⟨Nat.le_of_ble_eq_true rfl, Nat.le_of_ble_eq_true rfl⟩ (Nat.le_of_ble_eq_true rfl) rfl dX9_movedWeight_23 (c_X8_at hk2 p2 p3) (Or.inl rfl) (fun v7 σ8 e9 => ?_)
    obtain ⟨e9a, e9b⟩ := e9; subst v7; subst σ8
    refine g_icmp_eq (tgt := 41) dX9_movedWeight_26 (by decide) (fun c10 => ?_) (fun c10 => ?_)
    · have h := h.1 c10
      obtain ⟨p11, h⟩ := h
      refine g_iinc (ls' := [some (.inr 14), some (.inr k1), some (.inr k2), some (.inl x3), some (.inl (x4 + 1))]) dX9_movedWeight_41 (by decide) rfl p11 rfl ?_
      refine g_goto (tgt := 5) dX9_movedWeight_44 (by decide) ?_
      exact h
    · have h := h.2 c10
      refine g_iload_n dX9_movedWeight_29 rfl rfl ?_
      refine g_aload_n dX9_movedWeight_30 rfl rfl ?_
      refine g_getR (r' := 17) flX9_20 (by decide) rfl (by decide) rfl dX9_movedWeight_31 ?_
      refine g_iload dX9_movedWeight_34 rfl ?_
      refine g_invVI (as := [.inl x4]) (rest := [.inl x3]) okX7_get mlX9_54 (by decide) rfl ⟨_, _, rfl⟩ rfl ⟨Nat.le_of_ble_eq_true rfl, Nat.le_of_ble_eq_true rfl⟩ (Nat.le_of_ble_eq_true rfl) rfl dX9_movedWeight_36 (c_X7_get ⟨by decide, by decide, rfl, rfl, rfl⟩ p2 p3) (Or.inl rfl) (fun v12 σ13 e14 => ?_)
      obtain ⟨e14a, e14b⟩ := e14; subst v12; subst σ13
      obtain ⟨p15, h⟩ := h
      refine g_iadd dX9_movedWeight_39 p15 ?_
      refine g_istore_n (ls' := [some (.inr 14), some (.inr k1), some (.inr k2), some (.inl (x3 + (σ 18 (x4).toNat))), some (.inl x4)]) dX9_movedWeight_40 rfl (by decide) rfl ?_
      obtain ⟨p16, h⟩ := h
      refine g_iinc (ls' := [some (.inr 14), some (.inr k1), some (.inr k2), some (.inl (x3 + (σ 18 (x4).toNat))), some (.inl (x4 + 1))]) dX9_movedWeight_41 (by decide) rfl p16 rfl ?_
      refine g_goto (tgt := 5) dX9_movedWeight_44 (by decide) ?_
      exact h
set_option maxRecDepth 100000 in
theorem rX2_cellsOf_0 {x1 : Int}  {σ : Mem} {Q : Int → Mem → Prop} (h : GO none mX2_cellsOf 4 [some (.inr 1), some (.inl x1), some (.inl 0), some (.inl 0)] [] σ Q) : CM mX2_cellsOf [.inr 1, .inl x1] σ Q := by
  refine CM_of_GO (by decide +kernel) rfl (Nat.le_of_ble_eq_true rfl) ?_
  show GO none mX2_cellsOf 0 [some (.inr 1), some (.inl x1), none, none] [] σ Q
  refine g_iconst dX2_cellsOf_0 (by decide) ?_
  refine g_istore_n (ls' := [some (.inr 1), some (.inl x1), some (.inl 0), none]) dX2_cellsOf_1 rfl (by decide) rfl ?_
  refine g_iconst dX2_cellsOf_2 (by decide) ?_
  refine g_istore_n (ls' := [some (.inr 1), some (.inl x1), some (.inl 0), some (.inl 0)]) dX2_cellsOf_3 rfl (by decide) rfl ?_
  exact h
set_option maxRecDepth 100000 in
theorem rX2_cellsOf_4 {x1 x2 x3 : Int}  {σ : Mem} {Q : Int → Mem → Prop} (h : (36 ≤ x3 → Q x2 σ) ∧ (x3 < 36 → ((0 ≤ x3) ∧ (((σ 3 (x3).toNat) ≠ x1 → ((inR (x3 + 1)) ∧ (GO none mX2_cellsOf 4 [some (.inr 1), some (.inl x1), some (.inl x2), some (.inl (x3 + 1))] [] σ Q))) ∧ ((σ 3 (x3).toNat) = x1 → ((inR (x2 + 1)) ∧ (((inR (x3 + 1)) ∧ (GO none mX2_cellsOf 4 [some (.inr 1), some (.inl x1), some (.inl (x2 + 1)), some (.inl (x3 + 1))] [] σ Q))))))))) : GO none mX2_cellsOf 4 [some (.inr 1), some (.inl x1), some (.inl x2), some (.inl x3)] [] σ Q := by
  refine g_iload_n dX2_cellsOf_4 rfl rfl ?_
  refine g_bipush dX2_cellsOf_5 (by decide) (by decide) ?_
  refine g_icmp_ge (tgt := 31) dX2_cellsOf_7 (by decide) (fun c1 => ?_) (fun c1 => ?_)
  · have h := h.1 c1
    refine g_iload_n dX2_cellsOf_31 rfl rfl ?_
    exact g_ireturn rfl dX2_cellsOf_32 h
  · have h := h.2 c1
    refine g_aload_n dX2_cellsOf_10 rfl rfl ?_
    refine g_getR (r' := 2) flX2_14 (by decide) rfl (by decide) rfl dX2_cellsOf_11 ?_
    refine g_iload_n dX2_cellsOf_14 rfl rfl ?_
    obtain ⟨p2, h⟩ := h
    refine g_invVI (as := [.inl x3]) (rest := []) okX7_get mlX2_45 (by decide) rfl ⟨_, _, rfl⟩ rfl ⟨Nat.le_of_ble_eq_true rfl, Nat.le_of_ble_eq_true rfl⟩ (Nat.le_of_ble_eq_true rfl) rfl dX2_cellsOf_15 (c_X7_get ⟨by decide, by decide, rfl, rfl, rfl⟩ p2 c1) (Or.inl rfl) (fun v3 σ4 e5 => ?_)
    obtain ⟨e5a, e5b⟩ := e5; subst v3; subst σ4
    refine g_iload_n dX2_cellsOf_18 rfl rfl ?_
    refine g_icmp_ne (tgt := 25) dX2_cellsOf_19 (by decide) (fun c6 => ?_) (fun c6 => ?_)
    · have h := h.1 c6
      obtain ⟨p7, h⟩ := h
      refine g_iinc (ls' := [some (.inr 1), some (.inl x1), some (.inl x2), some (.inl (x3 + 1))]) dX2_cellsOf_25 (by decide) rfl p7 rfl ?_
      refine g_goto (tgt := 4) dX2_cellsOf_28 (by decide) ?_
      exact h
    · have h := h.2 c6
      obtain ⟨p8, h⟩ := h
      refine g_iinc (ls' := [some (.inr 1), some (.inl x1), some (.inl (x2 + 1)), some (.inl x3)]) dX2_cellsOf_22 (by decide) rfl p8 rfl ?_
      obtain ⟨p9, h⟩ := h
      refine g_iinc (ls' := [some (.inr 1), some (.inl x1), some (.inl (x2 + 1)), some (.inl (x3 + 1))]) dX2_cellsOf_25 (by decide) rfl p9 rfl ?_
      refine g_goto (tgt := 4) dX2_cellsOf_28 (by decide) ?_
      exact h
theorem c_X9_areTwo {σ : Mem} {a b : Int} : CM mX9_areTwo [.inr 14, .inl a, .inl b] σ (fun v σ1 => v = (if (0 ≤ a ∧ a < σ 14 6) ∧ (0 ≤ b ∧ b < σ 14 6) ∧ a ≠ b then 1 else 0) ∧ σ1 = σ) := by
  refine rX9_areTwo_0 ⟨fun h => ⟨?_, rfl⟩, fun h => ⟨fun h1 => ⟨?_, rfl⟩, fun h1 => ⟨fun h2 => ⟨?_, rfl⟩, fun h2 => ⟨?_, rfl⟩⟩⟩⟩ <;> first
    | (rw [if_pos]; omega)
    | (rw [if_neg]; omega)
theorem c_X9_changeLoad {σ : Mem} {y a b w : Int} (h1 : 0 ≤ y) (h2 : y < 4) (h3 : 0 ≤ a) (h4 : a < 5) (h5 : 0 ≤ b) (h6 : b < 5) : CM mX9_changeLoad [.inr 14, .inl y, .inl a, .inl b, .inl w] σ (fun v σ1 => v = σ 16 (25 * y + 5 * a + b).toNat ∧ σ1 = mu σ 16 (25 * y + 5 * a + b).toNat w) :=
  rX9_changeLoad_0 ⟨h1, h2, h3, h4, h5, h6, by omega, by omega, rfl, rfl⟩
theorem c_X9_bothWays {σ : Mem} {y a b : Int} (h1 : 0 ≤ y) (h2 : y < 4) (h3 : 0 ≤ a) (h4 : a < 5) (h5 : 0 ≤ b) (h6 : b < 5) (h7 : inR (σ 16 (25 * y + 5 * a + b).toNat + σ 16 (25 * y + 5 * b + a).toNat)) : CM mX9_bothWays [.inr 14, .inl y, .inl a, .inl b] σ (fun v σ1 => v = σ 16 (25 * y + 5 * a + b).toNat + σ 16 (25 * y + 5 * b + a).toNat ∧ σ1 = σ) :=
  rX9_bothWays_0 ⟨h1, h2, h3, h4, h5, h6, by omega, by omega, by omega, by omega, h7, rfl, rfl⟩
/-- the row without the place g, up to the place w -/
def shF (f : Nat → Int) (g w : Nat) : Nat → Int := fun i => if g ≤ i ∧ i < w then f (i + 1) else f i
theorem shF_step {f : Nat → Int} {g w : Nat} (h : g ≤ w) : fup (shF f g w) w (shF f g w (w + 1)) = shF f g (w + 1) := by
  funext i
  unfold fup shF
  by_cases e : i = w
  · subst e
    rw [if_pos rfl, if_neg (by omega), if_pos (by omega)]
  · rw [if_neg e]
    by_cases e2 : g ≤ i ∧ i < w
    · rw [if_pos e2, if_pos (by omega)]
    · rw [if_neg e2, if_neg (by omega)]
theorem shF_0 {f : Nat → Int} {g : Nat} : shF f g g = f := by
  funext i
  unfold shF
  rw [if_neg (by omega)]
def dropP (g c : Nat) (σ σ1 : Mem) : Prop := σ1 20 = shF (σ 20) g (c - 1) ∧ σ1 22 = shF (σ 22) g (c - 1) ∧ σ1 24 = shF (σ 24) g (c - 1) ∧ σ1 26 = shF (σ 26) g (c - 1) ∧ σ1 14 = fup (σ 14) 7 ((c : Int) - 1) ∧ Same [14, 20, 22, 24, 26] σ σ1
theorem mu_f (σ : Mem) (k j : Nat) (v : Int) : mu σ k j v k = fup (σ k) j v := by rw [mu_setA, setA_eq]
theorem c_X9_dropWish {σ : Mem} {x : Int} {g c : Nat} (hc : σ 14 7 = c) (h6 : c ≤ 6) (hg : g < c) (ex : x = g) : CM mX9_dropWish [.inr 14, .inl x] σ (fun _ σ1 => dropP g c σ σ1) := by
  subst ex
  have key : ∀ (d w : Nat) (σ0 : Mem), w + d = c - 1 → g ≤ w → σ0 20 = shF (σ 20) g w → σ0 22 = shF (σ 22) g w → σ0 24 = shF (σ 24) g w → σ0 26 = shF (σ 26) g w → Same [20, 22, 24, 26] σ σ0 → GO none mX9_dropWish 2 [some (.inr 14), some (.inl (g : Int)), some (.inl (w : Int))] [] σ0 (fun _ σ1 => dropP g c σ σ1) := by
    intro d
    induction d with
    | zero =>
      intro w σ0 hd hw h1 h2 h3 h4 hS
      have e14 : σ0 14 = σ 14 := hS 14 (by decide)
      have e7 : σ0 14 7 = c := by rw [e14, hc]
      refine rX9_dropWish_2 ⟨by omega, fun _ => ?_, fun h => by omega⟩
      rw [e7]
      have ew : w = c - 1 := by omega
      subst ew
      refine ⟨by rw [mu_nef (by decide)]; exact h1, by rw [mu_nef (by decide)]; exact h2, by rw [mu_nef (by decide)]; exact h3, by rw [mu_nef (by decide)]; exact h4, by rw [mu_f, e14], (hS.wk (by decide)).tr (Same.mu (by decide))⟩
    | succ d ih =>
      intro w σ0 hd hw h1 h2 h3 h4 hS
      have e14 : σ0 14 = σ 14 := hS 14 (by decide)
      have e7 : σ0 14 7 = c := by rw [e14, hc]
      refine rX9_dropWish_2 ⟨by omega, fun h => by omega, fun _ => ⟨by omega, by omega, by omega, by omega, by omega, ?_⟩⟩
      rw [Int.toNat_natCast, show ((w : Int) + 1).toNat = w + 1 by omega]
      refine ih (w + 1) _ (by omega) (by omega) ?_ ?_ ?_ ?_ ?_
      · rw [mu_nef (by decide), mu_nef (by decide), mu_nef (by decide), mu_f, h1, shF_step hw]
      · rw [mu_nef (by decide), mu_nef (by decide), mu_f, mu_nef (by decide), h2, shF_step hw]
      · rw [mu_nef (by decide), mu_f, mu_nef (by decide), mu_nef (by decide), h3, shF_step hw]
      · rw [mu_f, mu_nef (by decide), mu_nef (by decide), mu_nef (by decide), h4, shF_step hw]
      · exact (((hS.tr (Same.mu (by decide))).tr (Same.mu (by decide))).tr (Same.mu (by decide))).tr (Same.mu (by decide))
  refine rX9_dropWish_0 ?_
  exact key (c - 1 - g) g σ (by omega) (Nat.le_refl _) shF_0.symm shF_0.symm shF_0.symm shF_0.symm Same.rf
/-- the weights of the shops that lie elsewhere -/
def mvW (w : Nat → Int) (f g : Nat → Int) (m : Nat) : Int := sumF (fun i => if f i = g i then 0 else w i) m
theorem mvW_bd {w f g : Nat → Int} {m : Nat} (h : ∀ i, i < m → 0 ≤ w i ∧ w i ≤ 50) : 0 ≤ mvW w f g m ∧ mvW w f g m ≤ m * 50 := by
  refine sumF_bd (fun i hi => ?_)
  have := h i hi
  by_cases e : f i = g i
  · simp only [if_pos e]; omega
  · simp only [if_neg e]; omega
theorem c_X9_movedWeight {k j m : Nat} {σ : Mem} (hk : isSeats k) (hj : isSeats j) (hm : σ 14 6 = m) (h5 : m ≤ 5) (hw : ∀ i, i < m → 0 ≤ σ 18 i ∧ σ 18 i ≤ 50) : CM mX9_movedWeight [.inr 14, .inr k, .inr j] σ (fun v σ1 => v = mvW (σ 18) (σ (k + 2)) (σ (j + 2)) m ∧ σ1 = σ) := by
  have key : ∀ (d i : Nat), i + d = m → GO none mX9_movedWeight 5 [some (.inr 14), some (.inr k), some (.inr j), some (.inl (mvW (σ 18) (σ (k + 2)) (σ (j + 2)) i)), some (.inl (i : Int))] [] σ (fun v σ1 => v = mvW (σ 18) (σ (k + 2)) (σ (j + 2)) m ∧ σ1 = σ) := by
    intro d
    induction d with
    | zero =>
      intro i hd
      refine rX9_movedWeight_5 hk hj ⟨fun h => ⟨by rw [show i = m by omega], rfl⟩, fun h => by omega⟩
    | succ d ih =>
      intro i hd
      have hb := mvW_bd (w := σ 18) (f := σ (k + 2)) (g := σ (j + 2)) (m := i) (fun i hi => hw i (by omega))
      have h1 := hw i (by omega)
      have h2 := ih (i + 1) (by omega)
      unfold mvW at h2 hb ⊢
      rw [sumF_succ] at h2
      refine rX9_movedWeight_5 hk hj ⟨fun h => by omega, fun h => ⟨by omega, by omega, fun e => ?_, fun e => ?_⟩⟩
      · rw [Int.toNat_natCast] at e
        rw [if_pos e, Int.add_zero] at h2
        exact ⟨by omega, h2⟩
      · rw [Int.toNat_natCast] at e
        rw [if_neg e] at h2
        rw [Int.toNat_natCast]
        exact ⟨by omega, by omega, h2⟩
  exact rX9_movedWeight_0 hk hj (key m 0 (by omega))
/-- how many of the first n places hold x -/
def cntF (f : Nat → Int) (x : Int) (n : Nat) : Int := sumF (fun i => if f i = x then 1 else 0) n
theorem cntF_bd (f : Nat → Int) (x : Int) (n : Nat) : 0 ≤ cntF f x n ∧ cntF f x n ≤ n := by
  have := sumF_bd (f := fun i => if f i = x then 1 else 0) (c := 1) (n := n) (fun i hi => by split <;> omega)
  unfold cntF
  omega
theorem c_X2_cellsOf {x : Int} {σ : Mem} : CM mX2_cellsOf [.inr 1, .inl x] σ (fun v σ1 => v = cntF (σ 3) x 36 ∧ σ1 = σ) := by
  have key : ∀ (d i : Nat), i + d = 36 → GO none mX2_cellsOf 4 [some (.inr 1), some (.inl x), some (.inl (cntF (σ 3) x i)), some (.inl (i : Int))] [] σ (fun v σ1 => v = cntF (σ 3) x 36 ∧ σ1 = σ) := by
    intro d
    induction d with
    | zero =>
      intro i hd
      exact rX2_cellsOf_4 ⟨fun h => ⟨by rw [show i = 36 by omega], rfl⟩, fun h => by omega⟩
    | succ d ih =>
      intro i hd
      have hb := cntF_bd (σ 3) x i
      have h2 := ih (i + 1) (by omega)
      unfold cntF at h2 hb ⊢
      rw [sumF_succ] at h2
      refine rX2_cellsOf_4 ⟨fun h => by omega, fun h => ⟨by omega, fun e => ?_, fun e => ?_⟩⟩
      · rw [Int.toNat_natCast] at e
        rw [if_neg e, Int.add_zero] at h2
        exact ⟨by omega, h2⟩
      · rw [Int.toNat_natCast] at e
        rw [if_pos e] at h2
        exact ⟨by omega, by omega, h2⟩
  exact rX2_cellsOf_0 (key 36 0 rfl)
end
section
/-! ===== a year's problem: slots and shops, ways, ways out, bound, loads, weights, wishes ===== -/
abbrev Dt : Type := (Nat × Nat) × (Nat → Nat → Int) × (Nat → Int) × Int × (Nat → Int) × (Nat → Int) × Nat × (Nat → Int) × (Nat → Int) × (Nat → Int) × (Nat → Int)
def dn (D : Dt) : Nat := D.1.1
def dm (D : Dt) : Nat := D.1.2
def dW (D : Dt) : Nat → Nat → Int := D.2.1
def dO (D : Dt) : Nat → Int := D.2.2.1
def dB (D : Dt) : Int := D.2.2.2.1
def dL (D : Dt) : Nat → Int := D.2.2.2.2.1
def dV (D : Dt) : Nat → Int := D.2.2.2.2.2.1
def dwn (D : Dt) : Nat := D.2.2.2.2.2.2.1
def dwa (D : Dt) : Nat → Int := D.2.2.2.2.2.2.2.1
def dwb (D : Dt) : Nat → Int := D.2.2.2.2.2.2.2.2.1
def dwe (D : Dt) : Nat → Int := D.2.2.2.2.2.2.2.2.2.1
def dwd (D : Dt) : Nat → Int := D.2.2.2.2.2.2.2.2.2.2
def WF (D : Dt) : Prop := dn D ≤ 6 ∧ dm D ≤ 5 ∧ dm D ≤ dn D ∧ (∀ a b, a < dn D → b < dn D → -1 ≤ dW D a b ∧ dW D a b ≤ 36 ∧ dW D a b = dW D b a) ∧ (∀ a, a < dn D → dW D a a = 0) ∧ (∀ a, a < dn D → -1 ≤ dO D a ∧ dO D a ≤ 36) ∧ (0 ≤ dB D ∧ dB D ≤ 41) ∧ (∀ i, i < 100 → 0 ≤ dL D i ∧ dL D i ≤ 99) ∧ (∀ i, i < 5 → 0 ≤ dV D i ∧ dV D i ≤ 50) ∧ (∀ i, i < dm D → 1 ≤ dV D i) ∧ dwn D ≤ 6 ∧ ∀ i, i < dwn D → (0 ≤ dwa D i ∧ dwa D i < dm D) ∧ (0 ≤ dwb D i ∧ dwb D i < dm D) ∧ (dwe D i = 0 ∨ dwe D i = 1) ∧ 0 ≤ dwd D i ∧ dwd D i ≤ 20
def pg (p : List Nat) (i : Nat) : Nat := p.getD i 0
theorem pg_eq {p : List Nat} {i : Nat} (h : i < p.length) : pg p i = p[i] := by simp [pg, List.getD, h]
theorem hld.pg {σ : Mem} {a : Nat} {p : List Nat} (h : hld σ a p) {i : Nat} (hi : i < p.length) : σ a i = (pg p i : Int) := by rw [pg_eq hi]; exact h i hi
theorem pg_mem {p : List Nat} {i : Nat} (h : i < p.length) : pg p i ∈ p := by rw [pg_eq h]; exact List.getElem_mem h
def okE (D : Dt) (s : Nat) : Prop := dB D = 41 ∨ (dO D s ≠ -1 ∧ dO D s ≤ dB D)
def metW (D : Dt) (i : Nat) (w : Int) : Prop := (dwe D i = 1 ∧ w ≠ -1 ∧ w ≤ dwd D i) ∨ (dwe D i ≠ 1 ∧ (w = -1 ∨ dwd D i ≤ w))
/-- the way between two shops, the loads from one to another -/
def wy (D : Dt) (p : List Nat) (a b : Nat) : Int := dW D (pg p a) (pg p b)
def ld (D : Dt) (y a b : Nat) : Int := dL D (25 * y + 5 * a + b)
def right (D : Dt) (y : Nat) (p : List Nat) : Prop := (∀ s ∈ p, okE D s) ∧ (∀ i, i < dwn D → metW D i (wy D p (dwa D i).toNat (dwb D i).toNat)) ∧ ∀ a b, a < dm D → b < dm D → 0 < ld D y a b → wy D p a b ≠ -1
def csum (D : Dt) (y : Nat) (p : List Nat) : Int := sumF (fun a => sumF (fun b => ld D y a b * wy D p a b) (dm D)) (dm D)
noncomputable def cost (D : Dt) (y : Nat) (p : List Nat) : Int := @ite Int (right D y p) (Classical.propDecidable _) (csum D y p) (-1)
theorem cost_yes {D : Dt} {y : Nat} {p : List Nat} (h : right D y p) : cost D y p = csum D y p := if_pos h
theorem cost_no {D : Dt} {y : Nat} {p : List Nat} (h : ¬ right D y p) : cost D y p = -1 := if_neg h
/-- the class's memory holds the problem -/
def CD (D : Dt) (σ : Mem) : Prop := σ 1 7 = dn D ∧ σ 14 6 = dm D ∧ (∀ a b, a < dn D → b < dn D → σ 7 (6 * a + b) = dW D a b) ∧ (∀ a, a < dn D → σ 9 a = dO D a) ∧ σ 1 8 = dB D ∧ σ 16 = dL D ∧ σ 18 = dV D ∧ σ 14 7 = dwn D ∧ σ 20 = dwa D ∧ σ 22 = dwb D ∧ σ 24 = dwe D ∧ σ 26 = dwd D
theorem CD.same {D : Dt} {S : List Nat} {σ σ1 : Mem} (h : CD D σ) (hS : Same S σ σ1) (hn : ∀ a ∈ S, a ∉ [1, 7, 9, 14, 16, 18, 20, 22, 24, 26]) : CD D σ1 := by
  have e : ∀ a, a ∈ [1, 7, 9, 14, 16, 18, 20, 22, 24, 26] → σ1 a = σ a := fun a ha => hS a (fun q => hn a q ha)
  unfold CD at h ⊢
  rw [e 1 (by decide), e 7 (by decide), e 9 (by decide), e 14 (by decide), e 16 (by decide), e 18 (by decide), e 20 (by decide), e 22 (by decide), e 24 (by decide), e 26 (by decide)]
  exact h
/-! sums over all two -/
theorem sumF_add (f g : Nat → Int) : ∀ n, sumF (fun i => f i + g i) n = sumF f n + sumF g n
  | 0 => rfl
  | n + 1 => by
    have := sumF_add f g n
    simp only [sumF_succ] at this ⊢
    omega
theorem sumF_zero {f : Nat → Int} {n : Nat} (h : ∀ i, i < n → f i = 0) : sumF f n = 0 := by
  rw [sumF_cong h]
  induction n with
  | zero => rfl
  | succ n ih => rw [sumF_succ, ih (fun i hi => h i (by omega))]; rfl
/-- one behind the other: the pairs with the lower one first -/
def tri (g : Nat → Nat → Int) (m : Nat) : Int := sumF (fun a => sumF (fun j => g a (a + 1 + j)) (m - 1 - a)) m
theorem tri_succ (g : Nat → Nat → Int) (m : Nat) : tri g (m + 1) = tri g m + sumF (fun a => g a m) m := by
  unfold tri
  rw [sumF_succ, show m + 1 - 1 - m = 0 by omega, ← sumF_add]
  show sumF _ m + 0 = _
  rw [Int.add_zero]
  refine sumF_cong (fun a ha => ?_)
  rw [show m + 1 - 1 - a = (m - 1 - a) + 1 by omega, sumF_succ, show a + 1 + (m - 1 - a) = m by omega]
theorem square_tri (f : Nat → Nat → Int) : ∀ (m : Nat), (∀ a, a < m → f a a = 0) → sumF (fun a => sumF (f a) m) m = tri (fun a b => f a b + f b a) m
  | 0, _ => rfl
  | m + 1, h => by
    have ih := square_tri f m (fun a ha => h a (by omega))
    have h0 := h m (by omega)
    rw [tri_succ, ← ih, sumF_add]
    rw [sumF_succ]
    have e : sumF (fun a => sumF (f a) (m + 1)) m = sumF (fun a => sumF (f a) m) m + sumF (fun a => f a m) m := by
      rw [← sumF_add]
      exact sumF_cong (fun a _ => sumF_succ _ _)
    rw [e, sumF_succ, h0]
    have e2 : sumF (fun a => f m a) m = sumF (f m) m := rfl
    omega
theorem wy_sym {D : Dt} (hw : WF D) {p : List Nat} (hl : p.length = dm D) (hs : ∀ s ∈ p, s < dn D) {a b : Nat} (ha : a < dm D) (hb : b < dm D) : wy D p a b = wy D p b a := (hw.2.2.2.1 _ _ (hs _ (pg_mem (by omega))) (hs _ (pg_mem (by omega)))).2.2
theorem wy_self {D : Dt} (hw : WF D) {p : List Nat} (hl : p.length = dm D) (hs : ∀ s ∈ p, s < dn D) {a : Nat} (ha : a < dm D) : wy D p a a = 0 := hw.2.2.2.2.1 _ (hs _ (pg_mem (by omega)))
theorem wy_bd {D : Dt} (hw : WF D) {p : List Nat} (hl : p.length = dm D) (hs : ∀ s ∈ p, s < dn D) {a b : Nat} (ha : a < dm D) (hb : b < dm D) : -1 ≤ wy D p a b ∧ wy D p a b ≤ 36 := by
  have := hw.2.2.2.1 _ _ (hs _ (pg_mem (p := p) (i := a) (by omega))) (hs _ (pg_mem (p := p) (i := b) (by omega)))
  exact ⟨this.1, this.2.1⟩
theorem ld_bd {D : Dt} (hw : WF D) {y a b : Nat} (hy : y < 4) (ha : a < dm D) (hb : b < dm D) : 0 ≤ ld D y a b ∧ ld D y a b ≤ 99 := by
  have := hw.2.1
  exact hw.2.2.2.2.2.2.2.1 _ (by omega)
def bw (D : Dt) (y : Nat) (p : List Nat) (a b : Nat) : Int := (ld D y a b + ld D y b a) * wy D p a b
theorem csum_tri {D : Dt} (hw : WF D) {y : Nat} {p : List Nat} (hl : p.length = dm D) (hs : ∀ s ∈ p, s < dn D) : csum D y p = tri (bw D y p) (dm D) := by
  unfold csum
  rw [square_tri _ _ (fun a ha => by rw [wy_self hw hl hs ha, Int.mul_zero])]
  unfold tri
  refine sumF_cong (fun a ha => sumF_cong (fun j hj => ?_))
  show ld D y a (a + 1 + j) * wy D p a (a + 1 + j) + ld D y (a + 1 + j) a * wy D p (a + 1 + j) a = (ld D y a (a + 1 + j) + ld D y (a + 1 + j) a) * wy D p a (a + 1 + j)
  rw [wy_sym hw hl hs (a := a + 1 + j) (b := a) (by omega) ha, Int.add_mul]
theorem mul_bd {x w : Int} (h0 : 0 ≤ x) (h1 : x ≤ 198) (h2 : -1 ≤ w) (h3 : w ≤ 36) : -198 ≤ x * w ∧ x * w ≤ 7128 := by
  have a1 : x * w ≤ x * 36 := Int.mul_le_mul_of_nonneg_left h3 h0
  have a2 : x * (-1) ≤ x * w := Int.mul_le_mul_of_nonneg_left h2 h0
  constructor <;> omega
theorem sumF_bd2 {f : Nat → Int} {c d : Int} : ∀ {n : Nat}, (∀ i, i < n → -d ≤ f i ∧ f i ≤ c) → -(n * d) ≤ sumF f n ∧ sumF f n ≤ n * c
  | 0, _ => by simp [sumF]
  | n + 1, h => by
    have h1 := sumF_bd2 (n := n) (fun i hi => h i (by omega))
    have h2 := h n (by omega)
    rw [sumF_succ]
    have e1 : ((n + 1 : Nat) : Int) * c = (n : Int) * c + c := by rw [Int.natCast_succ, Int.add_mul]; omega
    have e2 : ((n + 1 : Nat) : Int) * d = (n : Int) * d + d := by rw [Int.natCast_succ, Int.add_mul]; omega
    omega
/-! Judge -/
set_option maxRecDepth 100000 in
theorem rX3_areExitsNear_0 {k1 : Nat} (hk1 : isSeats k1) {σ : Mem} {Q : Int → Mem → Prop} (h : GO none mX3_areExitsNear 2 [some (.inr 27), some (.inr k1), some (.inl 0)] [] σ Q) : CM mX3_areExitsNear [.inr 27, .inr k1] σ Q := by
  refine CM_of_GO (by decide +kernel) rfl (Nat.le_of_ble_eq_true rfl) ?_
  show GO none mX3_areExitsNear 0 [some (.inr 27), some (.inr k1), none] [] σ Q
  refine g_iconst dX3_areExitsNear_0 (by decide) ?_
  refine g_istore_n (ls' := [some (.inr 27), some (.inr k1), some (.inl 0)]) dX3_areExitsNear_1 rfl (by decide) rfl ?_
  exact h
set_option maxRecDepth 100000 in
theorem rX3_areExitsNear_2 {x2 : Int} {k1 : Nat} (hk1 : isSeats k1) {σ : Mem} {Q : Int → Mem → Prop} (h : ((σ k1 1) ≤ x2 → Q 1 σ) ∧ (x2 < (σ k1 1) → ((0 ≤ x2) ∧ (((x2 < 5) ∧ (((0 ≤ (σ (k1 + 2) (x2).toNat)) ∧ ((((σ (k1 + 2) (x2).toNat) < 6) ∧ ((σ 1 8 = 41 ∨ (σ 9 ((σ (k1 + 2) (x2).toNat)).toNat ≠ -1 ∧ σ 9 ((σ (k1 + 2) (x2).toNat)).toNat ≤ σ 1 8) → ((inR (x2 + 1)) ∧ (GO none mX3_areExitsNear 2 [some (.inr 27), some (.inr k1), some (.inl (x2 + 1))] [] σ Q))) ∧ (¬ (σ 1 8 = 41 ∨ (σ 9 ((σ (k1 + 2) (x2).toNat)).toNat ≠ -1 ∧ σ 9 ((σ (k1 + 2) (x2).toNat)).toNat ≤ σ 1 8)) → Q 0 σ))))))))))) : GO none mX3_areExitsNear 2 [some (.inr 27), some (.inr k1), some (.inl x2)] [] σ Q := by
  refine g_iload_n dX3_areExitsNear_2 rfl rfl ?_
  refine g_aload_n dX3_areExitsNear_3 rfl rfl ?_
  refine g_invVI (as := []) (rest := [.inl x2]) okX8_shops mlX3_26 hk1.1 hk1.2.1 ⟨_, _, rfl⟩ rfl ⟨Nat.le_of_ble_eq_true rfl, Nat.le_of_ble_eq_true rfl⟩ (Nat.le_of_ble_eq_true rfl) rfl dX3_areExitsNear_4 (c_X8_shops hk1) (Or.inl rfl) (fun v1 σ2 e3 => ?_)
  obtain ⟨e3a, e3b⟩ := e3; subst v1; subst σ2
  refine g_icmp_ge (tgt := 33) dX3_areExitsNear_7 (by decide) (fun c4 => ?_) (fun c4 => ?_)
  · have h := h.1 c4
    refine g_iconst dX3_areExitsNear_33 (by decide) ?_
    exact g_zreturn rfl dX3_areExitsNear_34 (by decide) h
  · have h := h.2 c4
    refine g_aload_n dX3_areExitsNear_10 rfl rfl ?_
    refine g_getR (r' := 1) flX3_9 (by decide) rfl (by decide) rfl dX3_areExitsNear_11 ?_
    refine g_aload_n dX3_areExitsNear_14 rfl rfl ?_
    refine g_iload_n dX3_areExitsNear_15 rfl rfl ?_
    obtain ⟨p5, h⟩ := h
    obtain ⟨p6, h⟩ := h
    refine g_invVI (as := [.inl x2]) (rest := [.inr 1]) okX8_at mlX3_38 hk1.1 hk1.2.1 ⟨_, _, rfl⟩ rfl ⟨Nat.le_of_ble_eq_true rfl, Nat.le_of_ble_eq_true rfl⟩ (Nat.le_of_ble_eq_true rfl) rfl dX3_areExitsNear_16 (c_X8_at hk1 p5 p6) (Or.inl rfl) (fun v7 σ8 e9 => ?_)
    obtain ⟨e9a, e9b⟩ := e9; subst v7; subst σ8
    obtain ⟨p10, h⟩ := h
    obtain ⟨p11, h⟩ := h
    refine g_invVI (as := [.inl (σ (k1 + 2) (x2).toNat)]) (rest := []) okX2_isOutNear mlX3_48 (by decide) rfl ⟨_, _, rfl⟩ rfl ⟨Nat.le_of_ble_eq_true rfl, Nat.le_of_ble_eq_true rfl⟩ (Nat.le_of_ble_eq_true rfl) rfl dX3_areExitsNear_19 (c_X2_isOutNear p10 p11) (Or.inr rfl) (fun v12 σ13 e14 => ?_)
    obtain ⟨e14a, e14b⟩ := e14; subst v12; subst σ13
    refine g_if_ne (tgt := 27) dX3_areExitsNear_22 (by decide) (fun c15 => ?_) (fun c15 => ?_)
    · have h := h.1 (ite_yes c15)
      obtain ⟨p16, h⟩ := h
      refine g_iinc (ls' := [some (.inr 27), some (.inr k1), some (.inl (x2 + 1))]) dX3_areExitsNear_27 (by decide) rfl p16 rfl ?_
      refine g_goto (tgt := 2) dX3_areExitsNear_30 (by decide) ?_
      exact h
    · have h := h.2 (ite_no c15)
      refine g_iconst dX3_areExitsNear_25 (by decide) ?_
      exact g_zreturn rfl dX3_areExitsNear_26 (by decide) h
set_option maxRecDepth 100000 in
theorem rX3_areWishesMet_0 {k1 : Nat} (hk1 : isSeats k1) {σ : Mem} {Q : Int → Mem → Prop} (h : GO none mX3_areWishesMet 2 [some (.inr 27), some (.inr k1), some (.inl 0), none, none] [] σ Q) : CM mX3_areWishesMet [.inr 27, .inr k1] σ Q := by
  refine CM_of_GO (by decide +kernel) rfl (Nat.le_of_ble_eq_true rfl) ?_
  show GO none mX3_areWishesMet 0 [some (.inr 27), some (.inr k1), none, none, none] [] σ Q
  refine g_iconst dX3_areWishesMet_0 (by decide) ?_
  refine g_istore_n (ls' := [some (.inr 27), some (.inr k1), some (.inl 0), none, none]) dX3_areWishesMet_1 rfl (by decide) rfl ?_
  exact h
set_option maxRecDepth 100000 in
theorem rX3_areWishesMet_2 {x2 : Int} {k1 : Nat} (hk1 : isSeats k1) {σ : Mem} {Q : Int → Mem → Prop} (h : ((σ 14 7) ≤ x2 → Q 1 σ) ∧ (x2 < (σ 14 7) → ((0 ≤ x2) ∧ (((x2 < 6) ∧ (((0 ≤ (σ 20 (x2).toNat)) ∧ ((((σ 20 (x2).toNat) < 5) ∧ (((0 ≤ (σ 22 (x2).toNat)) ∧ ((((σ 22 (x2).toNat) < 5) ∧ (((0 ≤ (σ (k1 + 2) ((σ 20 (x2).toNat)).toNat)) ∧ ((((σ (k1 + 2) ((σ 20 (x2).toNat)).toNat) < 6) ∧ (((0 ≤ (σ (k1 + 2) ((σ 22 (x2).toNat)).toNat)) ∧ ((((σ (k1 + 2) ((σ 22 (x2).toNat)).toNat) < 6) ∧ (((σ 24 (x2).toNat = 1 ∧ (σ 7 (6 * (σ (k1 + 2) ((σ 20 (x2).toNat)).toNat) + (σ (k1 + 2) ((σ 22 (x2).toNat)).toNat)).toNat) ≠ -1 ∧ (σ 7 (6 * (σ (k1 + 2) ((σ 20 (x2).toNat)).toNat) + (σ (k1 + 2) ((σ 22 (x2).toNat)).toNat)).toNat) ≤ σ 26 (x2).toNat) ∨ (σ 24 (x2).toNat ≠ 1 ∧ ((σ 7 (6 * (σ (k1 + 2) ((σ 20 (x2).toNat)).toNat) + (σ (k1 + 2) ((σ 22 (x2).toNat)).toNat)).toNat) = -1 ∨ σ 26 (x2).toNat ≤ (σ 7 (6 * (σ (k1 + 2) ((σ 20 (x2).toNat)).toNat) + (σ (k1 + 2) ((σ 22 (x2).toNat)).toNat)).toNat))) → ((inR (x2 + 1)) ∧ (GO none mX3_areWishesMet 2 [some (.inr 27), some (.inr k1), some (.inl (x2 + 1)), none, none] [] σ Q))) ∧ (¬ ((σ 24 (x2).toNat = 1 ∧ (σ 7 (6 * (σ (k1 + 2) ((σ 20 (x2).toNat)).toNat) + (σ (k1 + 2) ((σ 22 (x2).toNat)).toNat)).toNat) ≠ -1 ∧ (σ 7 (6 * (σ (k1 + 2) ((σ 20 (x2).toNat)).toNat) + (σ (k1 + 2) ((σ 22 (x2).toNat)).toNat)).toNat) ≤ σ 26 (x2).toNat) ∨ (σ 24 (x2).toNat ≠ 1 ∧ ((σ 7 (6 * (σ (k1 + 2) ((σ 20 (x2).toNat)).toNat) + (σ (k1 + 2) ((σ 22 (x2).toNat)).toNat)).toNat) = -1 ∨ σ 26 (x2).toNat ≤ (σ 7 (6 * (σ (k1 + 2) ((σ 20 (x2).toNat)).toNat) + (σ (k1 + 2) ((σ 22 (x2).toNat)).toNat)).toNat)))) → Q 0 σ))))))))))))))))))))))) : GO none mX3_areWishesMet 2 [some (.inr 27), some (.inr k1), some (.inl x2), none, none] [] σ Q := by
  refine g_iload_n dX3_areWishesMet_2 rfl rfl ?_
  refine g_aload_n dX3_areWishesMet_3 rfl rfl ?_
  refine g_getR (r' := 14) flX3_15 (by decide) rfl (by decide) rfl dX3_areWishesMet_4 ?_
  refine g_invVI (as := []) (rest := [.inl x2]) okX9_wishes mlX3_52 (by decide) rfl ⟨_, _, rfl⟩ rfl ⟨Nat.le_of_ble_eq_true rfl, Nat.le_of_ble_eq_true rfl⟩ (Nat.le_of_ble_eq_true rfl) rfl dX3_areWishesMet_7 (c_X9_wishes) (Or.inl rfl) (fun v1 σ2 e3 => ?_)
  obtain ⟨e3a, e3b⟩ := e3; subst v1; subst σ2
  refine g_icmp_ge (tgt := 69) dX3_areWishesMet_10 (by decide) (fun c4 => ?_) (fun c4 => ?_)
  · have h := h.1 c4
    refine g_iconst dX3_areWishesMet_69 (by decide) ?_
    exact g_zreturn rfl dX3_areWishesMet_70 (by decide) h
  · have h := h.2 c4
    refine g_aload_n dX3_areWishesMet_13 rfl rfl ?_
    refine g_aload_n dX3_areWishesMet_14 rfl rfl ?_
    refine g_getR (r' := 14) flX3_15 (by decide) rfl (by decide) rfl dX3_areWishesMet_15 ?_
    refine g_iload_n dX3_areWishesMet_18 rfl rfl ?_
    obtain ⟨p5, h⟩ := h
    obtain ⟨p6, h⟩ := h
    refine g_invVI (as := [.inl x2]) (rest := [.inr k1]) okX9_oneOf mlX3_55 (by decide) rfl ⟨_, _, rfl⟩ rfl ⟨Nat.le_of_ble_eq_true rfl, Nat.le_of_ble_eq_true rfl⟩ (Nat.le_of_ble_eq_true rfl) rfl dX3_areWishesMet_19 (c_X9_oneOf p5 p6) (Or.inl rfl) (fun v7 σ8 e9 => ?_)
    obtain ⟨e9a, e9b⟩ := e9; subst v7; subst σ8
    obtain ⟨p10, h⟩ := h
    obtain ⟨p11, h⟩ := h
    refine g_invVI (as := [.inl (σ 20 (x2).toNat)]) (rest := []) okX8_at mlX3_38 hk1.1 hk1.2.1 ⟨_, _, rfl⟩ rfl ⟨Nat.le_of_ble_eq_true rfl, Nat.le_of_ble_eq_true rfl⟩ (Nat.le_of_ble_eq_true rfl) rfl dX3_areWishesMet_22 (c_X8_at hk1 p10 p11) (Or.inl rfl) (fun v12 σ13 e14 => ?_)
    obtain ⟨e14a, e14b⟩ := e14; subst v12; subst σ13
    refine g_istore_n (ls' := [some (.inr 27), some (.inr k1), some (.inl x2), some (.inl (σ (k1 + 2) ((σ 20 (x2).toNat)).toNat)), none]) dX3_areWishesMet_25 rfl (by decide) rfl ?_
    refine g_aload_n dX3_areWishesMet_26 rfl rfl ?_
    refine g_aload_n dX3_areWishesMet_27 rfl rfl ?_
    refine g_getR (r' := 14) flX3_15 (by decide) rfl (by decide) rfl dX3_areWishesMet_28 ?_
    refine g_iload_n dX3_areWishesMet_31 rfl rfl ?_
    refine g_invVI (as := [.inl x2]) (rest := [.inr k1]) okX9_otherOf mlX3_58 (by decide) rfl ⟨_, _, rfl⟩ rfl ⟨Nat.le_of_ble_eq_true rfl, Nat.le_of_ble_eq_true rfl⟩ (Nat.le_of_ble_eq_true rfl) rfl dX3_areWishesMet_32 (c_X9_otherOf p5 p6) (Or.inl rfl) (fun v15 σ16 e17 => ?_)
    obtain ⟨e17a, e17b⟩ := e17; subst v15; subst σ16
    obtain ⟨p18, h⟩ := h
    obtain ⟨p19, h⟩ := h
    refine g_invVI (as := [.inl (σ 22 (x2).toNat)]) (rest := []) okX8_at mlX3_38 hk1.1 hk1.2.1 ⟨_, _, rfl⟩ rfl ⟨Nat.le_of_ble_eq_true rfl, Nat.le_of_ble_eq_true rfl⟩ (Nat.le_of_ble_eq_true rfl) rfl dX3_areWishesMet_35 (c_X8_at hk1 p18 p19) (Or.inl rfl) (fun v20 σ21 e22 => ?_)
    obtain ⟨e22a, e22b⟩ := e22; subst v20; subst σ21
    refine g_istore (ls' := [some (.inr 27), some (.inr k1), some (.inl x2), some (.inl (σ (k1 + 2) ((σ 20 (x2).toNat)).toNat)), some (.inl (σ (k1 + 2) ((σ 22 (x2).toNat)).toNat))]) dX3_areWishesMet_38 (by decide) rfl ?_
    refine g_aload_n dX3_areWishesMet_40 rfl rfl ?_
    refine g_getR (r' := 14) flX3_15 (by decide) rfl (by decide) rfl dX3_areWishesMet_41 ?_
    refine g_iload_n dX3_areWishesMet_44 rfl rfl ?_
    refine g_aload_n dX3_areWishesMet_45 rfl rfl ?_
    refine g_getR (r' := 1) flX3_9 (by decide) rfl (by decide) rfl dX3_areWishesMet_46 ?_
    refine g_iload_n dX3_areWishesMet_49 rfl rfl ?_
    refine g_iload dX3_areWishesMet_50 rfl ?_
    obtain ⟨p23, h⟩ := h
    obtain ⟨p24, h⟩ := h
    obtain ⟨p25, h⟩ := h
    obtain ⟨p26, h⟩ := h
    refine g_invVI (as := [.inl (σ (k1 + 2) ((σ 20 (x2).toNat)).toNat), .inl (σ (k1 + 2) ((σ 22 (x2).toNat)).toNat)]) (rest := [.inl x2, .inr 14]) okX2_wayBetween mlX3_42 (by decide) rfl ⟨_, _, rfl⟩ rfl ⟨Nat.le_of_ble_eq_true rfl, Nat.le_of_ble_eq_true rfl⟩ (Nat.le_of_ble_eq_true rfl) rfl dX3_areWishesMet_52 (c_X2_wayBetween p23 p24 p25 p26) (Or.inl rfl) (fun v27 σ28 e29 => ?_)
    obtain ⟨e29a, e29b⟩ := e29; subst v27; subst σ28
    refine g_invVI (as := [.inl x2, .inl (σ 7 (6 * (σ (k1 + 2) ((σ 20 (x2).toNat)).toNat) + (σ (k1 + 2) ((σ 22 (x2).toNat)).toNat)).toNat)]) (rest := []) okX9_isMet mlX3_61 (by decide) rfl ⟨_, _, rfl⟩ rfl ⟨Nat.le_of_ble_eq_true rfl, Nat.le_of_ble_eq_true rfl⟩ (Nat.le_of_ble_eq_true rfl) rfl dX3_areWishesMet_55 (c_X9_isMet p5 p6) (Or.inr rfl) (fun v30 σ31 e32 => ?_)
    obtain ⟨e32a, e32b⟩ := e32; subst v30; subst σ31
    refine g_if_ne (tgt := 63) dX3_areWishesMet_58 (by decide) (fun c33 => ?_) (fun c33 => ?_)
    · have h := h.1 (ite_yes c33)
      obtain ⟨p34, h⟩ := h
      refine g_iinc (ls' := [some (.inr 27), some (.inr k1), some (.inl (x2 + 1)), some (.inl (σ (k1 + 2) ((σ 20 (x2).toNat)).toNat)), some (.inl (σ (k1 + 2) ((σ 22 (x2).toNat)).toNat))]) dX3_areWishesMet_63 (by decide) rfl p34 rfl ?_
      refine g_goto (tgt := 2) dX3_areWishesMet_66 (by decide) ?_
      refine g_kill (i := 3) (ls' := [some (.inr 27), some (.inr k1), some (.inl (x2 + 1)), none, some (.inl (σ (k1 + 2) ((σ 22 (x2).toNat)).toNat))]) rfl ?_
      refine g_kill (i := 4) (ls' := [some (.inr 27), some (.inr k1), some (.inl (x2 + 1)), none, none]) rfl ?_
      exact h
    · have h := h.2 (ite_no c33)
      refine g_iconst dX3_areWishesMet_61 (by decide) ?_
      exact g_zreturn rfl dX3_areWishesMet_62 (by decide) h
set_option maxRecDepth 100000 in
theorem rX3_costOf_0 {x1 : Int} {k2 : Nat} (hk2 : isSeats k2) {σ : Mem} {Q : Int → Mem → Prop} (h : CM mX3_areExitsNear [.inr 27, .inr k2] σ (fun v1 σ2 => (v1 = 0 → Q (-1) σ2) ∧ (v1 ≠ 0 → CM mX3_areWishesMet [.inr 27, .inr k2] σ2 (fun v5 σ6 => (v5 ≠ 0 → GO none mX3_costOf 23 [some (.inr 27), some (.inl x1), some (.inr k2), some (.inl 0), some (.inl 0), none, none, none] [] σ6 Q) ∧ (v5 = 0 → Q (-1) σ6))))) : CM mX3_costOf [.inr 27, .inl x1, .inr k2] σ Q := by
  refine CM_of_GO (by decide +kernel) rfl (Nat.le_of_ble_eq_true rfl) ?_
  show GO none mX3_costOf 0 [some (.inr 27), some (.inl x1), some (.inr k2), none, none, none, none, none] [] σ Q
  refine g_aload_n dX3_costOf_0 rfl rfl ?_
  refine g_aload_n dX3_costOf_1 rfl rfl ?_
  refine g_invVI (as := [.inr k2]) (rest := []) okX3_areExitsNear mlX3_19 (by decide) rfl ⟨_, _, rfl⟩ rfl ⟨Nat.le_of_ble_eq_true rfl, Nat.le_of_ble_eq_true rfl⟩ (Nat.le_of_ble_eq_true rfl) rfl dX3_costOf_2 h (Or.inr rfl) (fun v1 σ2 e3 => ?_)
  have h := e3
  refine g_if_eq (tgt := 16) dX3_costOf_5 (by decide) (fun c4 => ?_) (fun c4 => ?_)
  · have h := h.1 c4
    refine g_iconst dX3_costOf_16 (by decide) ?_
    exact g_ireturn rfl dX3_costOf_17 h
  · have h := h.2 c4
    refine g_aload_n dX3_costOf_8 rfl rfl ?_
    refine g_aload_n dX3_costOf_9 rfl rfl ?_
    refine g_invVI (as := [.inr k2]) (rest := []) okX3_areWishesMet mlX3_23 (by decide) rfl ⟨_, _, rfl⟩ rfl ⟨Nat.le_of_ble_eq_true rfl, Nat.le_of_ble_eq_true rfl⟩ (Nat.le_of_ble_eq_true rfl) rfl dX3_costOf_10 h (Or.inr rfl) (fun v5 σ6 e7 => ?_)
    have h := e7
    refine g_if_ne (tgt := 18) dX3_costOf_13 (by decide) (fun c8 => ?_) (fun c8 => ?_)
    · have h := h.1 c8
      refine g_iconst dX3_costOf_18 (by decide) ?_
      refine g_istore_n (ls' := [some (.inr 27), some (.inl x1), some (.inr k2), some (.inl 0), none, none, none, none]) dX3_costOf_19 rfl (by decide) rfl ?_
      refine g_iconst dX3_costOf_20 (by decide) ?_
      refine g_istore (ls' := [some (.inr 27), some (.inl x1), some (.inr k2), some (.inl 0), some (.inl 0), none, none, none]) dX3_costOf_21 (by decide) rfl ?_
      exact h
    · have h := h.2 c8
      refine g_iconst dX3_costOf_16 (by decide) ?_
      exact g_ireturn rfl dX3_costOf_17 h
set_option maxRecDepth 100000 in
theorem rX3_costOf_23 {x1 x3 x4 : Int} {k2 : Nat} (hk2 : isSeats k2) {σ : Mem} {Q : Int → Mem → Prop} (h : ((σ k2 1) ≤ x4 → Q x3 σ) ∧ (x4 < (σ k2 1) → ((inR (x4 + 1)) ∧ (GO none mX3_costOf 38 [some (.inr 27), some (.inl x1), some (.inr k2), some (.inl x3), some (.inl x4), some (.inl (x4 + 1)), none, none] [] σ Q)))) : GO none mX3_costOf 23 [some (.inr 27), some (.inl x1), some (.inr k2), some (.inl x3), some (.inl x4), none, none, none] [] σ Q := by
  refine g_iload dX3_costOf_23 rfl ?_
  refine g_aload_n dX3_costOf_25 rfl rfl ?_
  refine g_invVI (as := []) (rest := [.inl x4]) okX8_shops mlX3_26 hk2.1 hk2.2.1 ⟨_, _, rfl⟩ rfl ⟨Nat.le_of_ble_eq_true rfl, Nat.le_of_ble_eq_true rfl⟩ (Nat.le_of_ble_eq_true rfl) rfl dX3_costOf_26 (c_X8_shops hk2) (Or.inl rfl) (fun v1 σ2 e3 => ?_)
  obtain ⟨e3a, e3b⟩ := e3; subst v1; subst σ2
  refine g_icmp_ge (tgt := 115) dX3_costOf_29 (by decide) (fun c4 => ?_) (fun c4 => ?_)
  · have h := h.1 c4
    refine g_iload_n dX3_costOf_115 rfl rfl ?_
    exact g_ireturn rfl dX3_costOf_116 h
  · have h := h.2 c4
    refine g_iload dX3_costOf_32 rfl ?_
    refine g_iconst dX3_costOf_34 (by decide) ?_
    obtain ⟨p5, h⟩ := h
    refine g_iadd dX3_costOf_35 p5 ?_
    refine g_istore (ls' := [some (.inr 27), some (.inl x1), some (.inr k2), some (.inl x3), some (.inl x4), some (.inl (x4 + 1)), none, none]) dX3_costOf_36 (by decide) rfl ?_
    exact h
set_option maxRecDepth 100000 in
theorem rX3_costOf_38 {x1 x3 x4 x5 : Int} {k2 : Nat} (hk2 : isSeats k2) {σ : Mem} {Q : Int → Mem → Prop} (h : ((σ k2 1) ≤ x5 → ((inR (x4 + 1)) ∧ (GO none mX3_costOf 23 [some (.inr 27), some (.inl x1), some (.inr k2), some (.inl x3), some (.inl (x4 + 1)), none, none, none] [] σ Q))) ∧ (x5 < (σ k2 1) → ((0 ≤ x1) ∧ (((x1 < 4) ∧ (((0 ≤ x4) ∧ (((x4 < 5) ∧ (((0 ≤ x5) ∧ (((x5 < 5) ∧ (((inR (σ 16 (25 * x1 + 5 * x4 + x5).toNat + σ 16 (25 * x1 + 5 * x5 + x4).toNat)) ∧ (((0 ≤ (σ (k2 + 2) (x4).toNat)) ∧ ((((σ (k2 + 2) (x4).toNat) < 6) ∧ (((0 ≤ (σ (k2 + 2) (x5).toNat)) ∧ ((((σ (k2 + 2) (x5).toNat) < 6) ∧ (((σ 16 (25 * x1 + 5 * x4 + x5).toNat + σ 16 (25 * x1 + 5 * x5 + x4).toNat) ≤ 0 → ((inR ((σ 16 (25 * x1 + 5 * x4 + x5).toNat + σ 16 (25 * x1 + 5 * x5 + x4).toNat) * (σ 7 (6 * (σ (k2 + 2) (x4).toNat) + (σ (k2 + 2) (x5).toNat)).toNat))) ∧ (((inR (x3 + ((σ 16 (25 * x1 + 5 * x4 + x5).toNat + σ 16 (25 * x1 + 5 * x5 + x4).toNat) * (σ 7 (6 * (σ (k2 + 2) (x4).toNat) + (σ (k2 + 2) (x5).toNat)).toNat)))) ∧ (((inR (x5 + 1)) ∧ (GO none mX3_costOf 38 [some (.inr 27), some (.inl x1), some (.inr k2), some (.inl (x3 + ((σ 16 (25 * x1 + 5 * x4 + x5).toNat + σ 16 (25 * x1 + 5 * x5 + x4).toNat) * (σ 7 (6 * (σ (k2 + 2) (x4).toNat) + (σ (k2 + 2) (x5).toNat)).toNat)))), some (.inl x4), some (.inl (x5 + 1)), none, none] [] σ Q))))))) ∧ (0 < (σ 16 (25 * x1 + 5 * x4 + x5).toNat + σ 16 (25 * x1 + 5 * x5 + x4).toNat) → ((σ 7 (6 * (σ (k2 + 2) (x4).toNat) + (σ (k2 + 2) (x5).toNat)).toNat) ≠ (-1) → ((inR ((σ 16 (25 * x1 + 5 * x4 + x5).toNat + σ 16 (25 * x1 + 5 * x5 + x4).toNat) * (σ 7 (6 * (σ (k2 + 2) (x4).toNat) + (σ (k2 + 2) (x5).toNat)).toNat))) ∧ (((inR (x3 + ((σ 16 (25 * x1 + 5 * x4 + x5).toNat + σ 16 (25 * x1 + 5 * x5 + x4).toNat) * (σ 7 (6 * (σ (k2 + 2) (x4).toNat) + (σ (k2 + 2) (x5).toNat)).toNat)))) ∧ (((inR (x5 + 1)) ∧ (GO none mX3_costOf 38 [some (.inr 27), some (.inl x1), some (.inr k2), some (.inl (x3 + ((σ 16 (25 * x1 + 5 * x4 + x5).toNat + σ 16 (25 * x1 + 5 * x5 + x4).toNat) * (σ 7 (6 * (σ (k2 + 2) (x4).toNat) + (σ (k2 + 2) (x5).toNat)).toNat)))), some (.inl x4), some (.inl (x5 + 1)), none, none] [] σ Q))))))) ∧ ((σ 7 (6 * (σ (k2 + 2) (x4).toNat) + (σ (k2 + 2) (x5).toNat)).toNat) = (-1) → Q (-1) σ)))))))))))))))))))))))))) : GO none mX3_costOf 38 [some (.inr 27), some (.inl x1), some (.inr k2), some (.inl x3), some (.inl x4), some (.inl x5), none, none] [] σ Q := by
  refine g_iload dX3_costOf_38 rfl ?_
  refine g_aload_n dX3_costOf_40 rfl rfl ?_
  refine g_invVI (as := []) (rest := [.inl x5]) okX8_shops mlX3_26 hk2.1 hk2.2.1 ⟨_, _, rfl⟩ rfl ⟨Nat.le_of_ble_eq_true rfl, Nat.le_of_ble_eq_true rfl⟩ (Nat.le_of_ble_eq_true rfl) rfl dX3_costOf_41 (c_X8_shops hk2) (Or.inl rfl) (fun v1 σ2 e3 => ?_)
  obtain ⟨e3a, e3b⟩ := e3; subst v1; subst σ2
  refine g_icmp_ge (tgt := 109) dX3_costOf_44 (by decide) (fun c4 => ?_) (fun c4 => ?_)
  · have h := h.1 c4
    obtain ⟨p5, h⟩ := h
    refine g_iinc (ls' := [some (.inr 27), some (.inl x1), some (.inr k2), some (.inl x3), some (.inl (x4 + 1)), some (.inl x5), none, none]) dX3_costOf_109 (by decide) rfl p5 rfl ?_
    refine g_goto (tgt := 23) dX3_costOf_112 (by decide) ?_
    refine g_kill (i := 5) (ls' := [some (.inr 27), some (.inl x1), some (.inr k2), some (.inl x3), some (.inl (x4 + 1)), none, none, none]) rfl ?_
    exact h
  · have h := h.2 c4
    refine g_aload_n dX3_costOf_47 rfl rfl ?_
    refine g_getR (r' := 14) flX3_15 (by decide) rfl (by decide) rfl dX3_costOf_48 ?_
    refine g_iload_n dX3_costOf_51 rfl rfl ?_
    refine g_iload dX3_costOf_52 rfl ?_
    refine g_iload dX3_costOf_54 rfl ?_
    obtain ⟨p6, h⟩ := h
    obtain ⟨p7, h⟩ := h
    obtain ⟨p8, h⟩ := h
    obtain ⟨p9, h⟩ := h
    obtain ⟨p10, h⟩ := h
    obtain ⟨p11, h⟩ := h
    obtain ⟨p12, h⟩ := h
    refine g_invVI (as := [.inl x1, .inl x4, .inl x5]) (rest := []) okX9_bothWays mlX3_32 (by decide) rfl ⟨_, _, rfl⟩ rfl ⟨Nat.le_of_ble_eq_true rfl, Nat.le_of_ble_eq_true rfl⟩ (Nat.le_of_ble_eq_true rfl) rfl dX3_costOf_56 (c_X9_bothWays p6 p7 p8 p9 p10 p11 p12) (Or.inl rfl) (fun v13 σ14 e15 => ?_)
    obtain ⟨e15a, e15b⟩ := e15; subst v13; subst σ14
    refine g_istore (ls' := [some (.inr 27), some (.inl x1), some (.inr k2), some (.inl x3), some (.inl x4), some (.inl x5), some (.inl (σ 16 (25 * x1 + 5 * x4 + x5).toNat + σ 16 (25 * x1 + 5 * x5 + x4).toNat)), none]) dX3_costOf_59 (by decide) rfl ?_
    refine g_aload_n dX3_costOf_61 rfl rfl ?_
    refine g_getR (r' := 1) flX3_9 (by decide) rfl (by decide) rfl dX3_costOf_62 ?_
    refine g_aload_n dX3_costOf_65 rfl rfl ?_
    refine g_iload dX3_costOf_66 rfl ?_
    refine g_invVI (as := [.inl x4]) (rest := [.inr 1]) okX8_at mlX3_38 hk2.1 hk2.2.1 ⟨_, _, rfl⟩ rfl ⟨Nat.le_of_ble_eq_true rfl, Nat.le_of_ble_eq_true rfl⟩ (Nat.le_of_ble_eq_true rfl) rfl dX3_costOf_68 (c_X8_at hk2 p8 p9) (Or.inl rfl) (fun v16 σ17 e18 => ?_)
    obtain ⟨e18a, e18b⟩ := e18; subst v16; subst σ17
    refine g_aload_n dX3_costOf_71 rfl rfl ?_
    refine g_iload dX3_costOf_72 rfl ?_
    refine g_invVI (as := [.inl x5]) (rest := [.inl (σ (k2 + 2) (x4).toNat), .inr 1]) okX8_at mlX3_38 hk2.1 hk2.2.1 ⟨_, _, rfl⟩ rfl ⟨Nat.le_of_ble_eq_true rfl, Nat.le_of_ble_eq_true rfl⟩ (Nat.le_of_ble_eq_true rfl) rfl dX3_costOf_74 (c_X8_at hk2 p10 p11) (Or.inl rfl) (fun v19 σ20 e21 => ?_)
    obtain ⟨e21a, e21b⟩ := e21; subst v19; subst σ20
    obtain ⟨p22, h⟩ := h
    obtain ⟨p23, h⟩ := h
    obtain ⟨p24, h⟩ := h
    obtain ⟨p25, h⟩ := h
    refine g_invVI (as := [.inl (σ (k2 + 2) (x4).toNat), .inl (σ (k2 + 2) (x5).toNat)]) (rest := []) okX2_wayBetween mlX3_42 (by decide) rfl ⟨_, _, rfl⟩ rfl ⟨Nat.le_of_ble_eq_true rfl, Nat.le_of_ble_eq_true rfl⟩ (Nat.le_of_ble_eq_true rfl) rfl dX3_costOf_77 (c_X2_wayBetween p22 p23 p24 p25) (Or.inl rfl) (fun v26 σ27 e28 => ?_)
    obtain ⟨e28a, e28b⟩ := e28; subst v26; subst σ27
    refine g_istore (ls' := [some (.inr 27), some (.inl x1), some (.inr k2), some (.inl x3), some (.inl x4), some (.inl x5), some (.inl (σ 16 (25 * x1 + 5 * x4 + x5).toNat + σ 16 (25 * x1 + 5 * x5 + x4).toNat)), some (.inl (σ 7 (6 * (σ (k2 + 2) (x4).toNat) + (σ (k2 + 2) (x5).toNat)).toNat))]) dX3_costOf_80 (by decide) rfl ?_
    refine g_iload dX3_costOf_82 rfl ?_
    refine g_if_le (tgt := 95) dX3_costOf_84 (by decide) (fun c29 => ?_) (fun c29 => ?_)
    · have h := h.1 c29
      refine g_iload_n dX3_costOf_95 rfl rfl ?_
      refine g_iload dX3_costOf_96 rfl ?_
      refine g_iload dX3_costOf_98 rfl ?_
      obtain ⟨p30, h⟩ := h
      refine g_imul dX3_costOf_100 p30 ?_
      obtain ⟨p31, h⟩ := h
      refine g_iadd dX3_costOf_101 p31 ?_
      refine g_istore_n (ls' := [some (.inr 27), some (.inl x1), some (.inr k2), some (.inl (x3 + ((σ 16 (25 * x1 + 5 * x4 + x5).toNat + σ 16 (25 * x1 + 5 * x5 + x4).toNat) * (σ 7 (6 * (σ (k2 + 2) (x4).toNat) + (σ (k2 + 2) (x5).toNat)).toNat)))), some (.inl x4), some (.inl x5), some (.inl (σ 16 (25 * x1 + 5 * x4 + x5).toNat + σ 16 (25 * x1 + 5 * x5 + x4).toNat)), some (.inl (σ 7 (6 * (σ (k2 + 2) (x4).toNat) + (σ (k2 + 2) (x5).toNat)).toNat))]) dX3_costOf_102 rfl (by decide) rfl ?_
      obtain ⟨p32, h⟩ := h
      refine g_iinc (ls' := [some (.inr 27), some (.inl x1), some (.inr k2), some (.inl (x3 + ((σ 16 (25 * x1 + 5 * x4 + x5).toNat + σ 16 (25 * x1 + 5 * x5 + x4).toNat) * (σ 7 (6 * (σ (k2 + 2) (x4).toNat) + (σ (k2 + 2) (x5).toNat)).toNat)))), some (.inl x4), some (.inl (x5 + 1)), some (.inl (σ 16 (25 * x1 + 5 * x4 + x5).toNat + σ 16 (25 * x1 + 5 * x5 + x4).toNat)), some (.inl (σ 7 (6 * (σ (k2 + 2) (x4).toNat) + (σ (k2 + 2) (x5).toNat)).toNat))]) dX3_costOf_103 (by decide) rfl p32 rfl ?_
      refine g_goto (tgt := 38) dX3_costOf_106 (by decide) ?_
      refine g_kill (i := 6) (ls' := [some (.inr 27), some (.inl x1), some (.inr k2), some (.inl (x3 + ((σ 16 (25 * x1 + 5 * x4 + x5).toNat + σ 16 (25 * x1 + 5 * x5 + x4).toNat) * (σ 7 (6 * (σ (k2 + 2) (x4).toNat) + (σ (k2 + 2) (x5).toNat)).toNat)))), some (.inl x4), some (.inl (x5 + 1)), none, some (.inl (σ 7 (6 * (σ (k2 + 2) (x4).toNat) + (σ (k2 + 2) (x5).toNat)).toNat))]) rfl ?_
      refine g_kill (i := 7) (ls' := [some (.inr 27), some (.inl x1), some (.inr k2), some (.inl (x3 + ((σ 16 (25 * x1 + 5 * x4 + x5).toNat + σ 16 (25 * x1 + 5 * x5 + x4).toNat) * (σ 7 (6 * (σ (k2 + 2) (x4).toNat) + (σ (k2 + 2) (x5).toNat)).toNat)))), some (.inl x4), some (.inl (x5 + 1)), none, none]) rfl ?_
      exact h
    · have h := h.2 c29
      refine g_iload dX3_costOf_87 rfl ?_
      refine g_iconst dX3_costOf_89 (by decide) ?_
      refine g_icmp_ne (tgt := 95) dX3_costOf_90 (by decide) (fun c33 => ?_) (fun c33 => ?_)
      · have h := h.1 c33
        refine g_iload_n dX3_costOf_95 rfl rfl ?_
        refine g_iload dX3_costOf_96 rfl ?_
        refine g_iload dX3_costOf_98 rfl ?_
        obtain ⟨p34, h⟩ := h
        refine g_imul dX3_costOf_100 p34 ?_
        obtain ⟨p35, h⟩ := h
        refine g_iadd dX3_costOf_101 p35 ?_
        refine g_istore_n (ls' := [some (.inr 27), some (.inl x1), some (.inr k2), some (.inl (x3 + ((σ 16 (25 * x1 + 5 * x4 + x5).toNat + σ 16 (25 * x1 + 5 * x5 + x4).toNat) * (σ 7 (6 * (σ (k2 + 2) (x4).toNat) + (σ (k2 + 2) (x5).toNat)).toNat)))), some (.inl x4), some (.inl x5), some (.inl (σ 16 (25 * x1 + 5 * x4 + x5).toNat + σ 16 (25 * x1 + 5 * x5 + x4).toNat)), some (.inl (σ 7 (6 * (σ (k2 + 2) (x4).toNat) + (σ (k2 + 2) (x5).toNat)).toNat))]) dX3_costOf_102 rfl (by decide) rfl ?_
        obtain ⟨p36, h⟩ := h
        refine g_iinc (ls' := [some (.inr 27), some (.inl x1), some (.inr k2), some (.inl (x3 + ((σ 16 (25 * x1 + 5 * x4 + x5).toNat + σ 16 (25 * x1 + 5 * x5 + x4).toNat) * (σ 7 (6 * (σ (k2 + 2) (x4).toNat) + (σ (k2 + 2) (x5).toNat)).toNat)))), some (.inl x4), some (.inl (x5 + 1)), some (.inl (σ 16 (25 * x1 + 5 * x4 + x5).toNat + σ 16 (25 * x1 + 5 * x5 + x4).toNat)), some (.inl (σ 7 (6 * (σ (k2 + 2) (x4).toNat) + (σ (k2 + 2) (x5).toNat)).toNat))]) dX3_costOf_103 (by decide) rfl p36 rfl ?_
        refine g_goto (tgt := 38) dX3_costOf_106 (by decide) ?_
        refine g_kill (i := 6) (ls' := [some (.inr 27), some (.inl x1), some (.inr k2), some (.inl (x3 + ((σ 16 (25 * x1 + 5 * x4 + x5).toNat + σ 16 (25 * x1 + 5 * x5 + x4).toNat) * (σ 7 (6 * (σ (k2 + 2) (x4).toNat) + (σ (k2 + 2) (x5).toNat)).toNat)))), some (.inl x4), some (.inl (x5 + 1)), none, some (.inl (σ 7 (6 * (σ (k2 + 2) (x4).toNat) + (σ (k2 + 2) (x5).toNat)).toNat))]) rfl ?_
        refine g_kill (i := 7) (ls' := [some (.inr 27), some (.inl x1), some (.inr k2), some (.inl (x3 + ((σ 16 (25 * x1 + 5 * x4 + x5).toNat + σ 16 (25 * x1 + 5 * x5 + x4).toNat) * (σ 7 (6 * (σ (k2 + 2) (x4).toNat) + (σ (k2 + 2) (x5).toNat)).toNat)))), some (.inl x4), some (.inl (x5 + 1)), none, none]) rfl ?_
        exact h
      · have h := h.2 c33
        refine g_iconst dX3_costOf_93 (by decide) ?_
        exact g_ireturn rfl dX3_costOf_94 h
theorem c_X3_areExitsNear {D : Dt} {k : Nat} {p : List Nat} {σ : Mem} (hw : WF D) (hD : CD D σ) (hk : isSeats k) (hp : hld σ (k + 2) p) (hc : σ k 1 = p.length) (hl : p.length = dm D) (hs : ∀ s ∈ p, s < dn D) : CM mX3_areExitsNear [.inr 27, .inr k] σ (fun v σ1 => ((v = 1 ∧ ∀ s ∈ p, okE D s) ∨ (v = 0 ∧ ¬ ∀ s ∈ p, okE D s)) ∧ σ1 = σ) := by
  have hm := hw.2.1
  have key : ∀ (d i : Nat), i + d = p.length → (∀ j, j < i → okE D (pg p j)) → GO none mX3_areExitsNear 2 [some (.inr 27), some (.inr k), some (.inl (i : Int))] [] σ (fun v σ1 => ((v = 1 ∧ ∀ s ∈ p, okE D s) ∨ (v = 0 ∧ ¬ ∀ s ∈ p, okE D s)) ∧ σ1 = σ) := by
    intro d
    induction d with
    | zero =>
      intro i hd ho
      refine rX3_areExitsNear_2 hk ⟨fun h => ⟨Or.inl ⟨rfl, fun s hs => ?_⟩, rfl⟩, fun h => by omega⟩
      obtain ⟨j, hj, rfl⟩ := List.getElem_of_mem hs
      have := ho j (by omega)
      rw [pg_eq hj] at this
      exact this
    | succ d ih =>
      intro i hd ho
      have hi : i < p.length := by omega
      have e1 := hp.pg hi
      have hlt := hs _ (pg_mem hi)
      have hn := hw.1
      refine rX3_areExitsNear_2 hk ⟨fun h => by omega, fun h => ⟨by omega, by omega, ?_⟩⟩
      rw [Int.toNat_natCast, e1, Int.toNat_natCast, hD.2.2.2.1 _ hlt, hD.2.2.2.2.1]
      refine ⟨by omega, by omega, fun h1 => ⟨by omega, ih (i + 1) (by omega) (fun j hj => ?_)⟩, fun h1 => ⟨Or.inr ⟨rfl, fun h2 => h1 (h2 _ (pg_mem hi))⟩, rfl⟩⟩
      by_cases e : j = i
      · rw [e]; exact h1
      · exact ho j (by omega)
  exact rX3_areExitsNear_0 hk (key p.length 0 (by omega) (fun j hj => by omega))
theorem wy_cls {D : Dt} {σ : Mem} {k : Nat} {p : List Nat} (hD : CD D σ) (hp : hld σ (k + 2) p) (hs : ∀ s ∈ p, s < dn D) {a b : Nat} (ha : a < p.length) (hb : b < p.length) : σ 7 (6 * σ (k + 2) a + σ (k + 2) b).toNat = wy D p a b := by
  rw [hp.pg ha, hp.pg hb, show (6 * (pg p a : Int) + (pg p b : Int)).toNat = 6 * pg p a + pg p b by omega]
  exact hD.2.2.1 _ _ (hs _ (pg_mem ha)) (hs _ (pg_mem hb))
def metAll (D : Dt) (p : List Nat) : Prop := ∀ i, i < dwn D → metW D i (wy D p (dwa D i).toNat (dwb D i).toNat)
theorem c_X3_areWishesMet {D : Dt} {k : Nat} {p : List Nat} {σ : Mem} (hw : WF D) (hD : CD D σ) (hk : isSeats k) (hp : hld σ (k + 2) p) (hl : p.length = dm D) (hs : ∀ s ∈ p, s < dn D) : CM mX3_areWishesMet [.inr 27, .inr k] σ (fun v σ1 => ((v = 1 ∧ metAll D p) ∨ (v = 0 ∧ ¬ metAll D p)) ∧ σ1 = σ) := by
  obtain ⟨hn, hm, hmn, -, -, -, -, -, -, -, hwn, hwi⟩ := id hw
  obtain ⟨-, -, -, -, -, -, -, e7, ea, eb, ee, ed⟩ := id hD
  have key : ∀ (d i : Nat), i + d = dwn D → (∀ j, j < i → metW D j (wy D p (dwa D j).toNat (dwb D j).toNat)) → GO none mX3_areWishesMet 2 [some (.inr 27), some (.inr k), some (.inl (i : Int)), none, none] [] σ (fun v σ1 => ((v = 1 ∧ metAll D p) ∨ (v = 0 ∧ ¬ metAll D p)) ∧ σ1 = σ) := by
    intro d
    induction d with
    | zero =>
      intro i hd ho
      exact rX3_areWishesMet_2 hk ⟨fun h => ⟨Or.inl ⟨rfl, fun j hj => ho j (by omega)⟩, rfl⟩, fun h => by omega⟩
    | succ d ih =>
      intro i hd ho
      obtain ⟨⟨a1, a2⟩, ⟨b1, b2⟩, -, -⟩ := hwi i (by omega)
      have la : (dwa D i).toNat < p.length := by omega
      have lb : (dwb D i).toNat < p.length := by omega
      have ha := hs _ (pg_mem la)
      have hb := hs _ (pg_mem lb)
      refine rX3_areWishesMet_2 hk ⟨fun h => by omega, fun h => ⟨by omega, by omega, ?_⟩⟩
      rw [Int.toNat_natCast, ea, eb, ee, ed, wy_cls hD hp hs la lb, hp.pg la, hp.pg lb]
      refine ⟨by omega, by omega, by omega, by omega, by omega, by omega, by omega, by omega, fun h1 => ⟨by omega, ih (i + 1) (by omega) (fun j hj => ?_)⟩, fun h1 => ⟨Or.inr ⟨rfl, fun h2 => h1 (h2 i (by omega))⟩, rfl⟩⟩
      by_cases e : j = i
      · rw [e]; exact h1
      · exact ho j (by omega)
  exact rX3_areWishesMet_0 hk (key (dwn D) 0 (by omega) (fun j hj => by omega))
theorem c_X3_costOf {D : Dt} {k y : Nat} {x1 : Int} {p : List Nat} {σ : Mem} (hw : WF D) (hD : CD D σ) (hk : isSeats k) (hp : hld σ (k + 2) p) (hc : σ k 1 = p.length) (hl : p.length = dm D) (hs : ∀ s ∈ p, s < dn D) (hy : y < 4) (ey : x1 = y) : CM mX3_costOf [.inr 27, .inl x1, .inr k] σ (fun v σ1 => v = cost D y p ∧ σ1 = σ) := by
  subst ey
  have hn := hw.1
  have hm := hw.2.1
  refine rX3_costOf_0 hk (CM.mono (fun v σ1 h => ?_) (c_X3_areExitsNear hw hD hk hp hc hl hs))
  obtain ⟨h, rfl⟩ := h
  refine ⟨fun hv => ⟨?_, rfl⟩, fun hv => CM.mono (fun v2 σ2 h2 => ?_) (c_X3_areWishesMet hw hD hk hp hl hs)⟩
  · rcases h with ⟨h1, -⟩ | ⟨-, h1⟩
    · omega
    · rw [cost_no (fun hr => h1 hr.1)]
  obtain ⟨h2, rfl⟩ := h2
  have hE : ∀ s ∈ p, okE D s := by
    rcases h with ⟨-, h1⟩ | ⟨h1, -⟩
    · exact h1
    · exact absurd h1 hv
  clear h hv
  refine ⟨fun hv => ?_, fun hv => ⟨?_, rfl⟩⟩
  case refine_2 =>
    rcases h2 with ⟨h1, -⟩ | ⟨-, h1⟩
    · omega
    · rw [cost_no (fun hr => h1 hr.2.1)]
  have hM : metAll D p := by
    rcases h2 with ⟨-, h1⟩ | ⟨h1, -⟩
    · exact h1
    · exact absurd h1 hv
  clear h2 hv
  -- the sums so far, and the pairs so far
  have hbw : ∀ a b, a < dm D → b < dm D → -198 ≤ bw D y p a b ∧ bw D y p a b ≤ 7128 := fun a b ha hb => by
    have h1 := ld_bd hw hy ha hb
    have h2 := ld_bd hw hy hb ha
    have h3 := wy_bd hw hl hs ha hb
    exact mul_bd (by omega) (by omega) h3.1 h3.2
  have hin : ∀ a j, a < dm D → a + 1 + j ≤ dm D → -990 ≤ sumF (fun j => bw D y p a (a + 1 + j)) j ∧ sumF (fun j => bw D y p a (a + 1 + j)) j ≤ 35640 := fun a j ha hj => by
    have h1 := sumF_bd2 (f := fun j => bw D y p a (a + 1 + j)) (c := 7128) (d := 198) (n := j) (fun i hi => hbw a (a + 1 + i) ha (by omega))
    omega
  have hout : ∀ a, a ≤ dm D → -4950 ≤ sumF (fun a => sumF (fun j => bw D y p a (a + 1 + j)) (dm D - 1 - a)) a ∧ sumF (fun a => sumF (fun j => bw D y p a (a + 1 + j)) (dm D - 1 - a)) a ≤ 178200 := fun a ha => by
    have h1 := sumF_bd2 (f := fun a => sumF (fun j => bw D y p a (a + 1 + j)) (dm D - 1 - a)) (c := 35640) (d := 990) (n := a) (fun i hi => hin i (dm D - 1 - i) (by omega) (by omega))
    omega
  have outer : ∀ (d a : Nat), a + d = dm D → (∀ a' b, a' < a → a' < b → b < dm D → 0 < ld D y a' b + ld D y b a' → wy D p a' b ≠ -1) → GO none mX3_costOf 23 [some (.inr 27), some (.inl (y : Int)), some (.inr k), some (.inl (sumF (fun a => sumF (fun j => bw D y p a (a + 1 + j)) (dm D - 1 - a)) a)), some (.inl (a : Int)), none, none, none] [] σ2 (fun v σ1 => v = cost D y p ∧ σ1 = σ2) := by
    intro d
    induction d with
    | zero =>
      intro a hd ho
      refine rX3_costOf_23 hk ⟨fun h => ⟨?_, rfl⟩, fun h => by omega⟩
      have ea : a = dm D := by omega
      subst ea
      rw [cost_yes, csum_tri hw hl hs]
      · rfl
      · refine ⟨hE, hM, fun a b ha hb h0 => ?_⟩
        have l1 := ld_bd hw hy ha hb
        have l2 := ld_bd hw hy hb ha
        rcases Nat.lt_trichotomy a b with h1 | h1 | h1
        · exact ho a b ha h1 hb (by omega)
        · rw [h1, wy_self hw hl hs hb]; decide
        · rw [wy_sym hw hl hs ha hb]
          exact ho b a hb h1 ha (by omega)
    | succ d ih =>
      intro a hd ho
      refine rX3_costOf_23 hk ⟨fun h => by omega, fun h => ⟨by omega, ?_⟩⟩
      have inner : ∀ (d2 j : Nat), a + 1 + j + d2 = dm D → (∀ b, a < b → b < a + 1 + j → 0 < ld D y a b + ld D y b a → wy D p a b ≠ -1) → GO none mX3_costOf 38 [some (.inr 27), some (.inl (y : Int)), some (.inr k), some (.inl (sumF (fun a => sumF (fun j => bw D y p a (a + 1 + j)) (dm D - 1 - a)) a + sumF (fun j => bw D y p a (a + 1 + j)) j)), some (.inl (a : Int)), some (.inl ((a + 1 + j : Nat) : Int)), none, none] [] σ2 (fun v σ1 => v = cost D y p ∧ σ1 = σ2) := by
        intro d2
        induction d2 with
        | zero =>
          intro j hd2 ho2
          refine rX3_costOf_38 hk ⟨fun h => ⟨by omega, ?_⟩, fun h => by omega⟩
          have := ih (a + 1) (by omega) (fun a' b h1 h2 h3 => by
            by_cases e : a' = a
            · subst e
              exact ho2 b h2 (by omega)
            · exact ho a' b (by omega) h2 h3)
          rw [sumF_succ, show dm D - 1 - a = j by omega] at this
          exact this
        | succ d2 ih2 =>
          intro j hd2 ho2
          have ha : a < dm D := by omega
          have hb : a + 1 + j < dm D := by omega
          have pa := hs _ (pg_mem (p := p) (i := a) (by omega))
          have pb := hs _ (pg_mem (p := p) (i := a + 1 + j) (by omega))
          have l1 := ld_bd hw hy ha hb
          have l2 := ld_bd hw hy hb ha
          have b1 := hbw a (a + 1 + j) ha hb
          have b2 := hin a j ha (by omega)
          have b3 := hout a (by omega)
          have e16 := hD.2.2.2.2.2.1
          have i1 : (25 * (y : Int) + 5 * (a : Int) + ((a + 1 + j : Nat) : Int)).toNat = 25 * y + 5 * a + (a + 1 + j) := by omega
          have i2 : (25 * (y : Int) + 5 * ((a + 1 + j : Nat) : Int) + (a : Int)).toNat = 25 * y + 5 * (a + 1 + j) + a := by omega
          have s1 : σ2 16 (25 * y + 5 * a + (a + 1 + j)) = ld D y a (a + 1 + j) := by rw [e16]; rfl
          have s2 : σ2 16 (25 * y + 5 * (a + 1 + j) + a) = ld D y (a + 1 + j) a := by rw [e16]; rfl
          have hnext : (0 < ld D y a (a + 1 + j) + ld D y (a + 1 + j) a → wy D p a (a + 1 + j) ≠ -1) → GO none mX3_costOf 38 [some (.inr 27), some (.inl (y : Int)), some (.inr k), some (.inl (sumF (fun a => sumF (fun j => bw D y p a (a + 1 + j)) (dm D - 1 - a)) a + sumF (fun j => bw D y p a (a + 1 + j)) j + bw D y p a (a + 1 + j))), some (.inl (a : Int)), some (.inl (((a + 1 + j : Nat) : Int) + 1)), none, none] [] σ2 (fun v σ1 => v = cost D y p ∧ σ1 = σ2) := fun hok => by
            have := ih2 (j + 1) (by omega) (fun b h1 h2 h3 => by
              by_cases e : b = a + 1 + j
              · subst e
                exact hok h3
              · exact ho2 b h1 (by omega) h3)
            rw [sumF_succ, ← Int.add_assoc] at this
            exact this
          refine rX3_costOf_38 hk ⟨fun h => by omega, fun h => ?_⟩
          rw [i1, i2, s1, s2, Int.toNat_natCast, Int.toNat_natCast, wy_cls hD hp hs (by omega) (by omega), hp.pg (i := a) (by omega), hp.pg (i := a + 1 + j) (by omega)]
          refine ⟨by omega, by omega, by omega, by omega, by omega, by omega, by omega, by omega, by omega, by omega, by omega, fun h0 => ⟨?_, ?_, by omega, hnext (fun h9 => by omega)⟩, fun h0 => ⟨fun h1 => ⟨?_, ?_, by omega, hnext (fun _ => h1)⟩, fun h1 => ⟨?_, rfl⟩⟩⟩
          · exact ⟨by unfold bw at b1; omega, by unfold bw at b1; omega⟩
          · exact ⟨by unfold bw at b1 b2 b3 ⊢; omega, by unfold bw at b1 b2 b3 ⊢; omega⟩
          · exact ⟨by unfold bw at b1; omega, by unfold bw at b1; omega⟩
          · exact ⟨by unfold bw at b1 b2 b3 ⊢; omega, by unfold bw at b1 b2 b3 ⊢; omega⟩
          · rw [cost_no]
            intro hr
            by_cases q : 0 < ld D y a (a + 1 + j)
            · exact hr.2.2 a (a + 1 + j) ha hb q h1
            · refine hr.2.2 (a + 1 + j) a hb ha (by omega) ?_
              rw [wy_sym hw hl hs hb ha]
              exact h1
      have := inner (dm D - (a + 1)) 0 (by omega) (fun b h1 h2 => by omega)
      rw [show sumF (fun j => bw D y p a (a + 1 + j)) 0 = 0 from rfl, Int.add_zero] at this
      exact this
  exact outer (dm D) 0 (by omega) (fun a' b h1 => by omega)
end
section
/-! ===== all places in their order ===== -/
def okP (n : Nat) (p : List Nat) : Prop := (∀ s ∈ p, s < n) ∧ p.Nodup
theorem okP.take {n : Nat} {p : List Nat} (h : okP n p) (t : Nat) : okP n (p.take t) := ⟨fun s hs => h.1 s (List.mem_of_mem_take hs), h.2.sublist (List.take_sublist t p)⟩
theorem okP.snoc {n s : Nat} {p : List Nat} (h : okP n p) (h1 : s < n) (h2 : s ∉ p) : okP n (p ++ [s]) := by
  refine ⟨fun t ht => ?_, List.nodup_append.mpr ⟨h.2, by simp, fun a ha b hb => by rw [List.mem_singleton.mp hb]; exact fun q => h2 (q ▸ ha)⟩⟩
  rcases List.mem_append.mp ht with q | q
  · exact h.1 t q
  · rw [List.mem_singleton.mp q]; exact h1
theorem fillF_ok {n : Nat} : ∀ (d : Nat) (p : List Nat), okP n p → okP n (fillF n d p)
  | 0, p, h => h
  | d + 1, p, h => by
    unfold fillF
    cases e : nf n p 0 with
    | none => exact h
    | some s =>
      have := nf_some e
      exact fillF_ok d _ (h.snoc this.2.1 this.2.2)
theorem nxtA_ok {n : Nat} {p q : List Nat} (hp : okP n p) (hn : p.length ≤ n) : ∀ (t : Nat), t ≤ p.length → nxtA n t p = some q → q.length = p.length ∧ okP n q
  | 0, _, h => by cases h
  | t + 1, ht, h => by
    unfold nxtA at h
    cases e : nf n (p.take t) (p.getD t 0 + 1) with
    | none =>
      rw [e] at h
      exact nxtA_ok hp hn t (by omega) h
    | some s =>
      rw [e] at h
      cases h
      have h1 := nf_some e
      have hl : (p.take t ++ [s]).length = t + 1 := by rw [List.length_append, List.length_singleton, List.length_take]; omega
      exact ⟨by rw [fillF_len n _ _ (by omega), hl]; omega, fillF_ok _ _ ((hp.take t).snoc h1.2.1 h1.2.2)⟩
theorem nxt_ok {n : Nat} {p q : List Nat} (hp : okP n p) (hn : p.length ≤ n) (h : nxt n p = some q) : q.length = p.length ∧ okP n q := nxtA_ok hp hn p.length (Nat.le_refl _) h
def walkN (n : Nat) : Nat → List Nat → List (List Nat)
  | 0, _ => []
  | f + 1, p => p :: match nxt n p with
    | some q => walkN n f q
    | none => []
/-- the places of a number, the first shop's slot its highest digit -/
def dig : Nat → Nat → List Nat
  | 0, _ => []
  | m + 1, k => dig m (k / 6) ++ [k % 6]
def vB (n : Nat) : List Nat → Bool
  | [] => true
  | s :: p => decide (s < n) && (!p.contains s && vB n p)
theorem vB_iff {n : Nat} : ∀ (p : List Nat), vB n p = true ↔ okP n p
  | [] => by simp [vB, okP]
  | s :: p => by
    have ih := vB_iff (n := n) p
    unfold vB
    simp only [Bool.and_eq_true, decide_eq_true_eq, Bool.not_eq_true', ih]
    unfold okP
    rw [List.nodup_cons]
    constructor
    · rintro ⟨h1, h2, h3, h4⟩
      refine ⟨List.forall_mem_cons.mpr ⟨h1, h3⟩, ?_, h4⟩
      intro hm
      rw [List.contains_iff_mem.mpr hm] at h2
      cases h2
    · rintro ⟨h1, h2, h3⟩
      have := List.forall_mem_cons.mp h1
      refine ⟨this.1, ?_, this.2, h3⟩
      cases e : p.contains s with
      | false => rfl
      | true => exact absurd (List.contains_iff_mem.mp e) h2
def enumN (m n : Nat) : List (List Nat) := ((List.range (6 ^ m)).map (dig m)).filter (vB n)
theorem walk_enum : ∀ n, n < 7 → ∀ m, m < 6 → m ≤ n → walkN n 720 (fillF n m []) = enumN m n := by decide +kernel
theorem dig_len : ∀ (m k : Nat), (dig m k).length = m
  | 0, _ => rfl
  | m + 1, k => by
    unfold dig
    rw [List.length_append, dig_len m, List.length_singleton]
theorem enumN_mem {m n : Nat} {p : List Nat} (h : p ∈ enumN m n) : p.length = m ∧ okP n p := by
  obtain ⟨h1, h2⟩ := List.mem_filter.mp h
  obtain ⟨k, -, rfl⟩ := List.mem_map.mp h1
  exact ⟨dig_len m k, (vB_iff _).mp h2⟩
end
section
/-! ===== the best places of a year ===== -/
/-- one more places looked at: the least cost so far (-1: none), how many have it, the first of them -/
def bst (c : List Nat → Int) (s : Int × Int × List Nat) (p : List Nat) : Int × Int × List Nat :=
  if c p = -1 then s else if s.1 = -1 ∨ c p < s.1 then (c p, 1, p) else if c p = s.1 then (s.1, s.2.1 + 1, s.2.2) else s
noncomputable def bestS (D : Dt) (y : Nat) : Int × Int × List Nat := (enumN (dm D) (dn D)).foldl (bst (cost D y)) (-1, 0, [])
/-- the chooser's own numbers -/
def chH (m : Nat) (s : Int × Int × List Nat) (σ : Mem) : Prop := σ 33 5 = s.1 ∧ σ 33 6 = s.2.1 ∧ (s.1 ≠ -1 → s.2.2.length = m ∧ σ 37 1 = m ∧ hld σ 39 s.2.2)
def seats37 : isSeats 37 := ⟨by decide, rfl, rfl, rfl, by decide, by decide, rfl, rfl, rfl⟩
def seats34 : isSeats 34 := ⟨by decide, rfl, rfl, rfl, by decide, by decide, rfl, rfl, rfl⟩
set_option maxRecDepth 100000 in
theorem rX0_compare_0 {x1 : Int}  {σ : Mem} {Q : Int → Mem → Prop} (h : (x1 ≠ (-1) → ((σ 33 5) = (-1) → CM mX8_copy [.inr 37, .inr 34] (mu (mu σ 33 5 x1) 33 6 0) (fun _ σ4 => (x1 ≠ (σ4 33 5) → Q 0 σ4) ∧ (x1 = (σ4 33 5) → ((inR ((σ4 33 6) + 1)) ∧ (Q 0 (mu σ4 33 6 ((σ4 33 6) + 1))))))) ∧ ((σ 33 5) ≠ (-1) → ((σ 33 5) ≤ x1 → (x1 ≠ (σ 33 5) → Q 0 σ) ∧ (x1 = (σ 33 5) → ((inR ((σ 33 6) + 1)) ∧ (Q 0 (mu σ 33 6 ((σ 33 6) + 1)))))) ∧ (x1 < (σ 33 5) → CM mX8_copy [.inr 37, .inr 34] (mu (mu σ 33 5 x1) 33 6 0) (fun _ σ12 => (x1 ≠ (σ12 33 5) → Q 0 σ12) ∧ (x1 = (σ12 33 5) → ((inR ((σ12 33 6) + 1)) ∧ (Q 0 (mu σ12 33 6 ((σ12 33 6) + 1))))))))) ∧ (x1 = (-1) → Q 0 σ)) : CM mX0_compare [.inr 33, .inl x1] σ Q := by
  refine CM_of_GO (by decide +kernel) rfl (Nat.le_of_ble_eq_true rfl) ?_
  show GO none mX0_compare 0 [some (.inr 33), some (.inl x1)] [] σ Q
  refine g_iload_n dX0_compare_0 rfl rfl ?_
  refine g_iconst dX0_compare_1 (by decide) ?_
  refine g_icmp_ne (tgt := 6) dX0_compare_2 (by decide) (fun c1 => ?_) (fun c1 => ?_)
  · have h := h.1 c1
    refine g_aload_n dX0_compare_6 rfl rfl ?_
    refine g_getI flX0_21 (by decide) rfl (by decide) rfl dX0_compare_7 ?_
    refine g_iconst dX0_compare_10 (by decide) ?_
    refine g_icmp_eq (tgt := 22) dX0_compare_11 (by decide) (fun c2 => ?_) (fun c2 => ?_)
    · have h := h.1 c2
      refine g_aload_n dX0_compare_22 rfl rfl ?_
      refine g_iload_n dX0_compare_23 rfl rfl ?_
      refine g_putI fpX0_21 (by decide) rfl (by decide) rfl (Or.inl rfl) dX0_compare_24 ?_
      refine g_aload_n dX0_compare_27 rfl rfl ?_
      refine g_iconst dX0_compare_28 (by decide) ?_
      refine g_putI fpX0_25 (by decide) rfl (by decide) rfl (Or.inl rfl) dX0_compare_29 ?_
      refine g_aload_n dX0_compare_32 rfl rfl ?_
      refine g_getR (r' := 37) flX0_18 (by decide) rfl (by decide) rfl dX0_compare_33 ?_
      refine g_aload_n dX0_compare_36 rfl rfl ?_
      refine g_getR (r' := 34) flX0_12 (by decide) rfl (by decide) rfl dX0_compare_37 ?_
      refine g_invVV (as := [.inr 34]) (rest := []) okX8_copy mlX0_69 (by decide) rfl ⟨_, _, rfl⟩ rfl ⟨Nat.le_of_ble_eq_true rfl, Nat.le_of_ble_eq_true rfl⟩ (Nat.le_of_ble_eq_true rfl) rfl dX0_compare_40 h rfl (fun σ4 e5 => ?_)
      have h := e5
      refine g_iload_n dX0_compare_43 rfl rfl ?_
      refine g_aload_n dX0_compare_44 rfl rfl ?_
      refine g_getI flX0_21 (by decide) rfl (by decide) rfl dX0_compare_45 ?_
      refine g_icmp_ne (tgt := 61) dX0_compare_48 (by decide) (fun c6 => ?_) (fun c6 => ?_)
      · have h := h.1 c6
        exact g_return rfl dX0_compare_61 h
      · have h := h.2 c6
        refine g_aload_n dX0_compare_51 rfl rfl ?_
        refine g_dup dX0_compare_52 ?_
        refine g_getI flX0_25 (by decide) rfl (by decide) rfl dX0_compare_53 ?_
        refine g_iconst dX0_compare_56 (by decide) ?_
        obtain ⟨p7, h⟩ := h
        refine g_iadd dX0_compare_57 p7 ?_
        refine g_putI fpX0_25 (by decide) rfl (by decide) rfl (Or.inl rfl) dX0_compare_58 ?_
        exact g_return rfl dX0_compare_61 h
    · have h := h.2 c2
      refine g_iload_n dX0_compare_14 rfl rfl ?_
      refine g_aload_n dX0_compare_15 rfl rfl ?_
      refine g_getI flX0_21 (by decide) rfl (by decide) rfl dX0_compare_16 ?_
      refine g_icmp_ge (tgt := 43) dX0_compare_19 (by decide) (fun c8 => ?_) (fun c8 => ?_)
      · have h := h.1 c8
        refine g_iload_n dX0_compare_43 rfl rfl ?_
        refine g_aload_n dX0_compare_44 rfl rfl ?_
        refine g_getI flX0_21 (by decide) rfl (by decide) rfl dX0_compare_45 ?_
        refine g_icmp_ne (tgt := 61) dX0_compare_48 (by decide) (fun c9 => ?_) (fun c9 => ?_)
        · have h := h.1 c9
          exact g_return rfl dX0_compare_61 h
        · have h := h.2 c9
          refine g_aload_n dX0_compare_51 rfl rfl ?_
          refine g_dup dX0_compare_52 ?_
          refine g_getI flX0_25 (by decide) rfl (by decide) rfl dX0_compare_53 ?_
          refine g_iconst dX0_compare_56 (by decide) ?_
          obtain ⟨p10, h⟩ := h
          refine g_iadd dX0_compare_57 p10 ?_
          refine g_putI fpX0_25 (by decide) rfl (by decide) rfl (Or.inl rfl) dX0_compare_58 ?_
          exact g_return rfl dX0_compare_61 h
      · have h := h.2 c8
        refine g_aload_n dX0_compare_22 rfl rfl ?_
        refine g_iload_n dX0_compare_23 rfl rfl ?_
        refine g_putI fpX0_21 (by decide) rfl (by decide) rfl (Or.inl rfl) dX0_compare_24 ?_
        refine g_aload_n dX0_compare_27 rfl rfl ?_
        refine g_iconst dX0_compare_28 (by decide) ?_
        refine g_putI fpX0_25 (by decide) rfl (by decide) rfl (Or.inl rfl) dX0_compare_29 ?_
        refine g_aload_n dX0_compare_32 rfl rfl ?_
        refine g_getR (r' := 37) flX0_18 (by decide) rfl (by decide) rfl dX0_compare_33 ?_
        refine g_aload_n dX0_compare_36 rfl rfl ?_
        refine g_getR (r' := 34) flX0_12 (by decide) rfl (by decide) rfl dX0_compare_37 ?_
        refine g_invVV (as := [.inr 34]) (rest := []) okX8_copy mlX0_69 (by decide) rfl ⟨_, _, rfl⟩ rfl ⟨Nat.le_of_ble_eq_true rfl, Nat.le_of_ble_eq_true rfl⟩ (Nat.le_of_ble_eq_true rfl) rfl dX0_compare_40 h rfl (fun σ12 e13 => ?_)
        have h := e13
        refine g_iload_n dX0_compare_43 rfl rfl ?_
        refine g_aload_n dX0_compare_44 rfl rfl ?_
        refine g_getI flX0_21 (by decide) rfl (by decide) rfl dX0_compare_45 ?_
        refine g_icmp_ne (tgt := 61) dX0_compare_48 (by decide) (fun c14 => ?_) (fun c14 => ?_)
        · have h := h.1 c14
          exact g_return rfl dX0_compare_61 h
        · have h := h.2 c14
          refine g_aload_n dX0_compare_51 rfl rfl ?_
          refine g_dup dX0_compare_52 ?_
          refine g_getI flX0_25 (by decide) rfl (by decide) rfl dX0_compare_53 ?_
          refine g_iconst dX0_compare_56 (by decide) ?_
          obtain ⟨p15, h⟩ := h
          refine g_iadd dX0_compare_57 p15 ?_
          refine g_putI fpX0_25 (by decide) rfl (by decide) rfl (Or.inl rfl) dX0_compare_58 ?_
          exact g_return rfl dX0_compare_61 h
  · have h := h.2 c1
    exact g_return rfl dX0_compare_5 h
theorem c_X0_compare {m : Nat} {p : List Nat} {x1 : Int} {s : Int × Int × List Nat} {σ : Mem} {c : List Nat → Int} (hp : hld σ 36 p) (hc : σ 34 1 = p.length) (hl : p.length = m) (h5 : m ≤ 5) (hs : chH m s σ) (h1 : 0 ≤ s.2.1 ∧ s.2.1 < 1000) (ex : x1 = c p) : CM mX0_compare [.inr 33, .inl x1] σ (fun _ σ1 => chH m (bst c s p) σ1 ∧ Same [33, 37, 39] σ σ1) := by
  subst ex
  obtain ⟨e5, e6, e7⟩ := id hs
  have fresh : ∀ {R : Prop}, ((s.1 = -1 ∨ c p < s.1) → c p ≠ -1 → CM mX8_copy [.inr 37, .inr 34] (mu (mu σ 33 5 (c p)) 33 6 0) (fun _ σ4 => (c p ≠ (σ4 33 5) → chH m (bst c s p) σ4 ∧ Same [33, 37, 39] σ σ4) ∧ (c p = (σ4 33 5) → ((inR ((σ4 33 6) + 1)) ∧ (chH m (bst c s p) (mu σ4 33 6 ((σ4 33 6) + 1)) ∧ Same [33, 37, 39] σ (mu σ4 33 6 ((σ4 33 6) + 1))))))) := by
    intro R hlt hne
    have hp2 : hld (mu (mu σ 33 5 (c p)) 33 6 0) (34 + 2) p := (hp.cong (mu_nef (by decide))).cong (mu_nef (by decide))
    refine CM.mono (fun v σ4 h => ?_) (c_X8_copy seats37 seats34 (by decide) hp2 (by rw [mu_nef (by decide), mu_nef (by decide)]; exact hc) (by omega))
    obtain ⟨q1, q2, q3⟩ := h
    have r5 : σ4 33 5 = c p := by rw [q3 33 (by decide), mu_atn (by decide), mu_at, if_pos rfl]
    have r6 : σ4 33 6 = 0 := by rw [q3 33 (by decide), mu_at, if_pos rfl]
    refine ⟨fun h => absurd r5.symm h, fun _ => ?_⟩
    rw [r6]
    refine ⟨by decide, ?_, ?_⟩
    · unfold bst
      rw [if_neg hne, if_pos hlt]
      refine ⟨by rw [mu_atn (by decide)]; exact r5, by rw [mu_at, if_pos rfl]; rfl, fun _ => ⟨hl, ?_, ?_⟩⟩
      · rw [mu_nef (by decide), q1, hl]
      · exact q2.cong (mu_nef (by decide))
    · exact (((Same.mu (by decide)).tr (Same.mu (by decide))).tr (q3.wk (by decide))).tr (Same.mu (by decide))
  refine rX0_compare_0 ⟨fun hne => ⟨fun h => fresh (R := True) (Or.inl (by rw [← e5]; exact h)) hne, fun h => ⟨fun h2 => ⟨fun h3 => ⟨?_, Same.rf⟩, fun h3 => ⟨by omega, ?_, Same.mu (by decide)⟩⟩, fun h2 => fresh (R := True) (Or.inr (by rw [← e5]; exact h2)) hne⟩⟩, fun h => ⟨?_, Same.rf⟩⟩
  · unfold bst
    rw [if_neg hne, if_neg (by omega), if_neg (by omega)]
    exact hs
  · unfold bst
    rw [if_neg hne, if_neg (by omega), if_pos (by omega)]
    refine ⟨by rw [mu_atn (by decide)]; exact e5, by rw [mu_at, if_pos rfl, e6], fun h9 => ?_⟩
    have := e7 h9
    exact ⟨this.1, by rw [mu_nef (by decide)]; exact this.2.1, this.2.2.cong (mu_nef (by decide))⟩
  · unfold bst
    rw [if_pos h]
    exact hs
set_option maxRecDepth 100000 in
theorem rX0_search_0 {x1 : Int}  {σ : Mem} {Q : Int → Mem → Prop} (h : CM mX8_begin [.inr 34, .inl (σ 14 6), .inl (σ 1 7)] (mu (mu σ 33 5 (-1)) 33 6 0) (fun _ σ8 => GO none mX0_search 35 [some (.inr 33), some (.inl x1), some (.inl 1), some (.inl 0)] [] σ8 Q)) : CM mX0_search [.inr 33, .inl x1] σ Q := by
  refine CM_of_GO (by decide +kernel) rfl (Nat.le_of_ble_eq_true rfl) ?_
  show GO none mX0_search 0 [some (.inr 33), some (.inl x1), none, none] [] σ Q
  refine g_aload_n dX0_search_0 rfl rfl ?_
  refine g_iconst dX0_search_1 (by decide) ?_
  refine g_putI fpX0_21 (by decide) rfl (by decide) rfl (Or.inl rfl) dX0_search_2 ?_
  refine g_aload_n dX0_search_5 rfl rfl ?_
  refine g_iconst dX0_search_6 (by decide) ?_
  refine g_putI fpX0_25 (by decide) rfl (by decide) rfl (Or.inl rfl) dX0_search_7 ?_
  refine g_aload_n dX0_search_10 rfl rfl ?_
  refine g_getR (r' := 34) flX0_12 (by decide) rfl (by decide) rfl dX0_search_11 ?_
  refine g_aload_n dX0_search_14 rfl rfl ?_
  refine g_getR (r' := 14) flX0_32 (by decide) rfl (by decide) rfl dX0_search_15 ?_
  refine g_invVI (as := []) (rest := [.inr 34]) okX9_shops mlX0_40 (by decide) rfl ⟨_, _, rfl⟩ rfl ⟨Nat.le_of_ble_eq_true rfl, Nat.le_of_ble_eq_true rfl⟩ (Nat.le_of_ble_eq_true rfl) rfl dX0_search_18 (c_X9_shops) (Or.inl rfl) (fun v1 σ2 e3 => ?_)
  obtain ⟨e3a, e3b⟩ := e3; subst v1; subst σ2
  refine g_top (w := (σ 14 6)) rfl ?_
  refine g_aload_n dX0_search_21 rfl rfl ?_
  refine g_getR (r' := 1) flX0_28 (by decide) rfl (by decide) rfl dX0_search_22 ?_
  refine g_invVI (as := []) (rest := [.inl (σ 14 6), .inr 34]) okX2_slots mlX0_46 (by decide) rfl ⟨_, _, rfl⟩ rfl ⟨Nat.le_of_ble_eq_true rfl, Nat.le_of_ble_eq_true rfl⟩ (Nat.le_of_ble_eq_true rfl) rfl dX0_search_25 (c_X2_slots) (Or.inl rfl) (fun v4 σ5 e6 => ?_)
  obtain ⟨e6a, e6b⟩ := e6; subst v4; subst σ5
  refine g_top (w := (σ 1 7)) rfl ?_
  refine g_invVV (as := [.inl (σ 14 6), .inl (σ 1 7)]) (rest := []) okX8_begin mlX0_51 (by decide) rfl ⟨_, _, rfl⟩ rfl ⟨Nat.le_of_ble_eq_true rfl, Nat.le_of_ble_eq_true rfl⟩ (Nat.le_of_ble_eq_true rfl) rfl dX0_search_28 h rfl (fun σ8 e9 => ?_)
  have h := e9
  refine g_iconst dX0_search_31 (by decide) ?_
  refine g_istore_n (ls' := [some (.inr 33), some (.inl x1), some (.inl 1), none]) dX0_search_32 rfl (by decide) rfl ?_
  refine g_iconst dX0_search_33 (by decide) ?_
  refine g_istore_n (ls' := [some (.inr 33), some (.inl x1), some (.inl 1), some (.inl 0)]) dX0_search_34 rfl (by decide) rfl ?_
  exact h
set_option maxRecDepth 100000 in
theorem rX0_search_35 {x1 x2 x3 : Int}  {σ : Mem} {Q : Int → Mem → Prop} (h : (x2 = 0 → Q 0 σ) ∧ (x2 ≠ 0 → (720 ≤ x3 → Q 0 σ) ∧ (x3 < 720 → CM mX3_costOf [.inr 27, .inl x1, .inr 34] σ (fun v3 σ4 => CM mX0_compare [.inr 33, .inl v3] σ4 (fun _ σ7 => CM mX8_goOn [.inr 34, .inl (σ7 1 7)] σ7 (fun v12 σ13 => ((inR (x3 + 1)) ∧ (GO none mX0_search 35 [some (.inr 33), some (.inl x1), some (.inl v12), some (.inl (x3 + 1))] [] σ13 Q)))))))) : GO none mX0_search 35 [some (.inr 33), some (.inl x1), some (.inl x2), some (.inl x3)] [] σ Q := by
  refine g_iload_n dX0_search_35 rfl rfl ?_
  refine g_if_eq (tgt := 83) dX0_search_36 (by decide) (fun c1 => ?_) (fun c1 => ?_)
  · have h := h.1 c1
    exact g_return rfl dX0_search_83 h
  · have h := h.2 c1
    refine g_iload_n dX0_search_39 rfl rfl ?_
    refine g_sipush dX0_search_40 (by decide) (by decide) ?_
    refine g_icmp_ge (tgt := 83) dX0_search_43 (by decide) (fun c2 => ?_) (fun c2 => ?_)
    · have h := h.1 c2
      exact g_return rfl dX0_search_83 h
    · have h := h.2 c2
      refine g_aload_n dX0_search_46 rfl rfl ?_
      refine g_aload_n dX0_search_47 rfl rfl ?_
      refine g_getR (r' := 27) flX0_36 (by decide) rfl (by decide) rfl dX0_search_48 ?_
      refine g_iload_n dX0_search_51 rfl rfl ?_
      refine g_aload_n dX0_search_52 rfl rfl ?_
      refine g_getR (r' := 34) flX0_12 (by decide) rfl (by decide) rfl dX0_search_53 ?_
      refine g_invVI (as := [.inl x1, .inr 34]) (rest := [.inr 33]) okX3_costOf mlX0_55 (by decide) rfl ⟨_, _, rfl⟩ rfl ⟨Nat.le_of_ble_eq_true rfl, Nat.le_of_ble_eq_true rfl⟩ (Nat.le_of_ble_eq_true rfl) rfl dX0_search_56 h (Or.inl rfl) (fun v3 σ4 e5 => ?_)
      have h := e5
      refine g_invVV (as := [.inl v3]) (rest := []) okX0_compare mlX0_61 (by decide) rfl ⟨_, _, rfl⟩ rfl ⟨Nat.le_of_ble_eq_true rfl, Nat.le_of_ble_eq_true rfl⟩ (Nat.le_of_ble_eq_true rfl) rfl dX0_search_59 h rfl (fun σ7 e8 => ?_)
      have h := e8
      refine g_aload_n dX0_search_62 rfl rfl ?_
      refine g_getR (r' := 34) flX0_12 (by decide) rfl (by decide) rfl dX0_search_63 ?_
      refine g_aload_n dX0_search_66 rfl rfl ?_
      refine g_getR (r' := 1) flX0_28 (by decide) rfl (by decide) rfl dX0_search_67 ?_
      refine g_invVI (as := []) (rest := [.inr 34]) okX2_slots mlX0_46 (by decide) rfl ⟨_, _, rfl⟩ rfl ⟨Nat.le_of_ble_eq_true rfl, Nat.le_of_ble_eq_true rfl⟩ (Nat.le_of_ble_eq_true rfl) rfl dX0_search_70 (c_X2_slots) (Or.inl rfl) (fun v9 σ10 e11 => ?_)
      obtain ⟨e11a, e11b⟩ := e11; subst v9; subst σ10
      refine g_invVI (as := [.inl (σ7 1 7)]) (rest := []) okX8_goOn mlX0_65 (by decide) rfl ⟨_, _, rfl⟩ rfl ⟨Nat.le_of_ble_eq_true rfl, Nat.le_of_ble_eq_true rfl⟩ (Nat.le_of_ble_eq_true rfl) rfl dX0_search_73 h (Or.inr rfl) (fun v12 σ13 e14 => ?_)
      have h := e14
      refine g_istore_n (ls' := [some (.inr 33), some (.inl x1), some (.inl v12), some (.inl x3)]) dX0_search_76 rfl (by decide) rfl ?_
      obtain ⟨p15, h⟩ := h
      refine g_iinc (ls' := [some (.inr 33), some (.inl x1), some (.inl v12), some (.inl (x3 + 1))]) dX0_search_77 (by decide) rfl p15 rfl ?_
      refine g_goto (tgt := 35) dX0_search_80 (by decide) ?_
      exact h
theorem c_X0_search {D : Dt} {y : Nat} {x1 : Int} {σ : Mem} (hw : WF D) (hD : CD D σ) (hy : y < 4) (ex : x1 = y) : CM mX0_search [.inr 33, .inl x1] σ (fun _ σ1 => chH (dm D) (bestS D y) σ1 ∧ Same [33, 34, 36, 37, 39] σ σ1) := by
  subst ex
  have hn := hw.1
  have hm := hw.2.1
  have hmn := hw.2.2.1
  have key : ∀ (f i : Nat) (p : List Nat) (s : Int × Int × List Nat) (σ0 : Mem), i + f = 720 → p.length = dm D → okP (dn D) p → hld σ0 36 p → σ0 34 1 = p.length → chH (dm D) s σ0 → 0 ≤ s.2.1 → s.2.1 ≤ i → CD D σ0 → Same [33, 34, 36, 37, 39] σ σ0 → GO none mX0_search 35 [some (.inr 33), some (.inl (y : Int)), some (.inl 1), some (.inl (i : Int))] [] σ0 (fun _ σ1 => chH (dm D) ((walkN (dn D) f p).foldl (bst (cost D y)) s) σ1 ∧ Same [33, 34, 36, 37, 39] σ σ1) := by
    intro f
    induction f with
    | zero =>
      intro i p s σ0 hi hl ho hp hc hs h1 h2 hD0 hS
      exact rX0_search_35 ⟨fun h => by omega, fun _ => ⟨fun _ => ⟨hs, hS⟩, fun h => by omega⟩⟩
    | succ f ih =>
      intro i p s σ0 hi hl ho hp hc hs h1 h2 hD0 hS
      refine rX0_search_35 ⟨fun h => by omega, fun _ => ⟨fun h => by omega, fun _ => ?_⟩⟩
      refine CM.mono (fun v σ4 h => ?_) (c_X3_costOf (k := 34) hw hD0 seats34 hp hc hl ho.1 hy rfl)
      obtain ⟨rfl, rfl⟩ := h
      refine CM.mono (fun v2 σ7 h => ?_) (c_X0_compare (c := cost D y) hp hc hl hm hs ⟨h1, by omega⟩ rfl)
      obtain ⟨hs7, hS7⟩ := h
      have hD7 := hD0.same hS7 (by decide)
      have hp7 : hld σ7 36 p := hp.cong (hS7 36 (by decide))
      refine CM.mono (fun v3 σ13 h => ?_) (c_X8_goOn (k := 34) seats34 hp7 (by rw [hS7 34 (by decide)]; exact hc) (by omega) (by omega) hn ho.1 hD7.1)
      refine ⟨by omega, ?_⟩
      have hcnt : 0 ≤ (bst (cost D y) s p).2.1 ∧ (bst (cost D y) s p).2.1 ≤ i + 1 := by
        unfold bst
        split
        · exact ⟨h1, by omega⟩
        · split
          · exact ⟨by show (0 : Int) ≤ 1; omega, by show (1 : Int) ≤ _; omega⟩
          · split
            · exact ⟨by show (0 : Int) ≤ s.2.1 + 1; omega, by show s.2.1 + 1 ≤ _; omega⟩
            · exact ⟨h1, by omega⟩
      unfold walkN
      cases e : nxt (dn D) p with
      | none =>
        rw [e] at h
        obtain ⟨rfl, rfl⟩ := h
        exact rX0_search_35 ⟨fun _ => ⟨hs7, (hS.tr (hS7.wk (by decide)))⟩, fun h => by omega⟩
      | some q =>
        rw [e] at h
        obtain ⟨rfl, hq, hS13⟩ := h
        have hok := nxt_ok ho (by omega) e
        have := ih (i + 1) q (bst (cost D y) s p) σ13 (by omega) (by omega) hok.2 hq (by rw [hS13 34 (by decide), hS7 34 (by decide), hc, hok.1]) ?_ hcnt.1 (by omega) (hD7.same hS13 (by decide)) ((hS.tr (hS7.wk (by decide))).tr (hS13.wk (by decide)))
        · rw [List.foldl_cons]
          exact this
        · obtain ⟨a1, a2, a3⟩ := hs7
          exact ⟨by rw [hS13 33 (by decide)]; exact a1, by rw [hS13 33 (by decide)]; exact a2, fun h9 => ⟨(a3 h9).1, by rw [hS13 37 (by decide)]; exact (a3 h9).2.1, (a3 h9).2.2.cong (hS13 39 (by decide))⟩⟩
  have hS0 : Same [33, 34, 36, 37, 39] σ (mu (mu σ 33 5 (-1)) 33 6 0) := (Same.mu (by decide)).tr (Same.mu (by decide))
  have hD0 := hD.same hS0 (by decide)
  refine rX0_search_0 (CM.mono (fun v σ1 h => ?_) (c_X8_begin (k := 34) seats34 hmn hm hn hD.2.1 hD.1))
  obtain ⟨h1, h2, h3⟩ := h
  have hlen := fillF_len (dn D) (dm D) [] (by simp; exact hmn)
  rw [List.length_nil, Nat.zero_add] at hlen
  have := key 720 0 _ (-1, 0, []) σ1 rfl hlen (fillF_ok _ _ ⟨by simp, List.nodup_nil⟩) h2 (by rw [h1, hlen]) ⟨by rw [h3 33 (by decide), mu_atn (by decide), mu_at, if_pos rfl], by rw [h3 33 (by decide), mu_at, if_pos rfl], fun h => absurd rfl h⟩ (Int.le_refl 0) (Int.le_refl 0) (hD0.same h3 (by decide)) (hS0.tr (h3.wk (by decide)))
  rw [walk_enum _ (by omega) _ (by omega) hmn] at this
  exact this
end
section
/-! ===== how low no cost can go: loads and ways, sorted ===== -/
def hldI (σ : Mem) (a : Nat) (l : List Int) : Prop := ∀ (i : Nat) (h : i < l.length), σ a i = l[i]
theorem hldI.cong {σ σ1 : Mem} {a b : Nat} {p : List Int} (h : hldI σ a p) (e : σ1 b = σ a) : hldI σ1 b p := fun i hi => by rw [e]; exact h i hi
def srt (l : List Int) : Prop := l.Pairwise (· ≤ ·)
def insA (l : List Int) (i : Nat) (v : Int) : List Int := l.take i ++ v :: l.drop i
theorem insA_perm (l : List Int) (i : Nat) (v : Int) : (insA l i v).Perm (v :: l) := by
  unfold insA
  have := List.perm_middle (a := v) (l₁ := l.take i) (l₂ := l.drop i)
  rw [List.take_append_drop] at this
  exact this
theorem insA_srt {l : List Int} {i : Nat} {v : Int} (hs : srt l) (hi : i ≤ l.length) (h1 : ∀ (j : Nat) (h : j < l.length), j < i → l[j] ≤ v) (h2 : ∀ (j : Nat) (h : j < l.length), i ≤ j → v < l[j]) : srt (insA l i v) := by
  unfold srt insA
  rw [List.pairwise_append, List.pairwise_cons]
  have hs2 := hs
  unfold srt at hs2
  rw [← List.take_append_drop i l, List.pairwise_append] at hs2
  refine ⟨hs2.1, ⟨fun b hb => ?_, hs2.2.1⟩, fun a ha b hb => ?_⟩
  · obtain ⟨j, hj, rfl⟩ := List.getElem_of_mem hb
    rw [List.getElem_drop]
    have := h2 (i + j) (by rw [List.length_drop] at hj; omega) (by omega)
    omega
  · rcases List.mem_cons.mp hb with rfl | hb
    · obtain ⟨j, hj, rfl⟩ := List.getElem_of_mem ha
      rw [List.getElem_take]
      rw [List.length_take] at hj
      exact h1 j (by omega) (by omega)
    · exact hs2.2.2 a ha b hb
theorem insA_hld {σ : Mem} {a i : Nat} {l : List Int} {v : Int} (hi : i ≤ l.length) (h1 : ∀ (j : Nat) (h : j < l.length), j < i → σ a j = l[j]) (h2 : ∀ (j : Nat) (h : j < l.length), i ≤ j → σ a (j + 1) = l[j]) : hldI (mu σ a i v) a (insA l i v) := by
  intro j hj
  unfold insA at hj ⊢
  rw [List.length_append, List.length_cons, List.length_take, List.length_drop] at hj
  rw [mu_at]
  by_cases e : j = i
  · subst e
    rw [if_pos rfl, List.getElem_append_right (by rw [List.length_take]; omega)]
    simp only [List.length_take, Nat.min_eq_left hi, Nat.sub_self, List.getElem_cons_zero]
  · rw [if_neg e]
    by_cases e2 : j < i
    · rw [List.getElem_append_left (by rw [List.length_take]; omega), List.getElem_take]
      exact h1 j (by omega) e2
    · rw [List.getElem_append_right (by rw [List.length_take]; omega)]
      obtain ⟨q, rfl⟩ : ∃ q, j = q + 1 := ⟨j - 1, by omega⟩
      rw [h2 q (by omega) (by omega)]
      have e3 : q + 1 - (List.take i l).length = (q - i) + 1 := by rw [List.length_take]; omega
      simp only [e3, List.getElem_cons_succ, List.getElem_drop, show i + (q - i) = q by omega]
set_option maxRecDepth 100000 in
theorem rX4_insert_0 {x1 x2 : Int} {k0 n0 : Nat} (hk0 : isRow k0 n0) {σ : Mem} {Q : Int → Mem → Prop} (h : GO none mX4_insert 2 [some (.inr k0), some (.inl x1), some (.inl x2), some (.inl x1)] [] σ Q) : CM mX4_insert [.inr k0, .inl x1, .inl x2] σ Q := by
  refine CM_of_GO (by decide +kernel) rfl (Nat.le_of_ble_eq_true rfl) ?_
  show GO none mX4_insert 0 [some (.inr k0), some (.inl x1), some (.inl x2), none] [] σ Q
  refine g_iload_n dX4_insert_0 rfl rfl ?_
  refine g_istore_n (ls' := [some (.inr k0), some (.inl x1), some (.inl x2), some (.inl x1)]) dX4_insert_1 rfl (by decide) rfl ?_
  exact h
set_option maxRecDepth 100000 in
theorem rX4_insert_2 {x1 x2 x3 : Int} {k0 n0 : Nat} (hk0 : isRow k0 n0) {σ : Mem} {Q : Int → Mem → Prop} (h : (x3 ≤ 0 → ((0 ≤ x3) ∧ (((x3 < n0) ∧ (Q 0 (mu σ (k0 + 1) (x3).toNat x2)))))) ∧ (0 < x3 → ((inR (x3 - 1)) ∧ (((0 ≤ (x3 - 1)) ∧ ((((x3 - 1) < n0) ∧ (((σ (k0 + 1) ((x3 - 1)).toNat) ≤ x2 → ((0 ≤ x3) ∧ (((x3 < n0) ∧ (Q 0 (mu σ (k0 + 1) (x3).toNat x2)))))) ∧ (x2 < (σ (k0 + 1) ((x3 - 1)).toNat) → ((0 ≤ x3) ∧ (((x3 < n0) ∧ (((inR (x3 + (-1))) ∧ (GO none mX4_insert 2 [some (.inr k0), some (.inl x1), some (.inl x2), some (.inl (x3 + (-1)))] [] (mu σ (k0 + 1) (x3).toNat (σ (k0 + 1) ((x3 - 1)).toNat)) Q))))))))))))))) : GO none mX4_insert 2 [some (.inr k0), some (.inl x1), some (.inl x2), some (.inl x3)] [] σ Q := by
  refine g_iload_n dX4_insert_2 rfl rfl ?_
  refine g_if_le (tgt := 35) dX4_insert_3 (by decide) (fun c1 => ?_) (fun c1 => ?_)
  · have h := h.1 c1
    refine g_aload_n dX4_insert_35 rfl rfl ?_
    refine g_iload_n dX4_insert_36 rfl rfl ?_
    refine g_iload_n dX4_insert_37 rfl rfl ?_
    obtain ⟨p2, h⟩ := h
    obtain ⟨p3, h⟩ := h
    refine g_invVV (as := [.inl x3, .inl x2]) (rest := []) okX7_set mlX4_64 hk0.1 hk0.2.2.1 ⟨_, _, rfl⟩ rfl ⟨Nat.le_of_ble_eq_true rfl, Nat.le_of_ble_eq_true rfl⟩ (Nat.le_of_ble_eq_true rfl) rfl dX4_insert_38 (c_X7_set hk0 p2 p3) rfl (fun σ5 e6 => ?_)
    subst σ5
    exact g_return rfl dX4_insert_41 h
  · have h := h.2 c1
    refine g_aload_n dX4_insert_6 rfl rfl ?_
    refine g_iload_n dX4_insert_7 rfl rfl ?_
    refine g_iconst dX4_insert_8 (by decide) ?_
    obtain ⟨p7, h⟩ := h
    refine g_isub dX4_insert_9 p7 ?_
    obtain ⟨p8, h⟩ := h
    obtain ⟨p9, h⟩ := h
    refine g_invVI (as := [.inl (x3 - 1)]) (rest := []) okX7_get mlX4_39 hk0.1 hk0.2.2.1 ⟨_, _, rfl⟩ rfl ⟨Nat.le_of_ble_eq_true rfl, Nat.le_of_ble_eq_true rfl⟩ (Nat.le_of_ble_eq_true rfl) rfl dX4_insert_10 (c_X7_get hk0 p8 p9) (Or.inl rfl) (fun v10 σ11 e12 => ?_)
    obtain ⟨e12a, e12b⟩ := e12; subst v10; subst σ11
    refine g_iload_n dX4_insert_13 rfl rfl ?_
    refine g_icmp_le (tgt := 35) dX4_insert_14 (by decide) (fun c13 => ?_) (fun c13 => ?_)
    · have h := h.1 c13
      refine g_aload_n dX4_insert_35 rfl rfl ?_
      refine g_iload_n dX4_insert_36 rfl rfl ?_
      refine g_iload_n dX4_insert_37 rfl rfl ?_
      obtain ⟨p14, h⟩ := h
      obtain ⟨p15, h⟩ := h
      refine g_invVV (as := [.inl x3, .inl x2]) (rest := []) okX7_set mlX4_64 hk0.1 hk0.2.2.1 ⟨_, _, rfl⟩ rfl ⟨Nat.le_of_ble_eq_true rfl, Nat.le_of_ble_eq_true rfl⟩ (Nat.le_of_ble_eq_true rfl) rfl dX4_insert_38 (c_X7_set hk0 p14 p15) rfl (fun σ17 e18 => ?_)
      subst σ17
      exact g_return rfl dX4_insert_41 h
    · have h := h.2 c13
      refine g_aload_n dX4_insert_17 rfl rfl ?_
      refine g_iload_n dX4_insert_18 rfl rfl ?_
      refine g_aload_n dX4_insert_19 rfl rfl ?_
      refine g_iload_n dX4_insert_20 rfl rfl ?_
      refine g_iconst dX4_insert_21 (by decide) ?_
      refine g_isub dX4_insert_22 p7 ?_
      refine g_invVI (as := [.inl (x3 - 1)]) (rest := [.inl x3, .inr k0]) okX7_get mlX4_39 hk0.1 hk0.2.2.1 ⟨_, _, rfl⟩ rfl ⟨Nat.le_of_ble_eq_true rfl, Nat.le_of_ble_eq_true rfl⟩ (Nat.le_of_ble_eq_true rfl) rfl dX4_insert_23 (c_X7_get hk0 p8 p9) (Or.inl rfl) (fun v19 σ20 e21 => ?_)
      obtain ⟨e21a, e21b⟩ := e21; subst v19; subst σ20
      obtain ⟨p22, h⟩ := h
      obtain ⟨p23, h⟩ := h
      refine g_invVV (as := [.inl x3, .inl (σ (k0 + 1) ((x3 - 1)).toNat)]) (rest := []) okX7_set mlX4_64 hk0.1 hk0.2.2.1 ⟨_, _, rfl⟩ rfl ⟨Nat.le_of_ble_eq_true rfl, Nat.le_of_ble_eq_true rfl⟩ (Nat.le_of_ble_eq_true rfl) rfl dX4_insert_26 (c_X7_set hk0 p22 p23) rfl (fun σ25 e26 => ?_)
      subst σ25
      obtain ⟨p27, h⟩ := h
      refine g_iinc (ls' := [some (.inr k0), some (.inl x1), some (.inl x2), some (.inl (x3 + (-1)))]) dX4_insert_29 (by decide) rfl p27 rfl ?_
      refine g_goto (tgt := 2) dX4_insert_32 (by decide) ?_
      exact h
theorem c_X4_insert {k n : Nat} {l : List Int} {x1 v : Int} {σ : Mem} (hk : isRow k n) (hl : l.length < n) (h99 : n < 1000) (hp : hldI σ (k + 1) l) (hs : srt l) (ex : x1 = l.length) : CM mX4_insert [.inr k, .inl x1, .inl v] σ (fun _ σ1 => ∃ l', hldI σ1 (k + 1) l' ∧ srt l' ∧ l'.Perm (v :: l) ∧ Same [k + 1] σ σ1) := by
  subst ex
  have key : ∀ (i : Nat) (σ0 : Mem), i ≤ l.length → (∀ (j : Nat) (h : j < l.length), j < i → σ0 (k + 1) j = l[j]) → (∀ (j : Nat) (h : j < l.length), i ≤ j → σ0 (k + 1) (j + 1) = l[j]) → (∀ (j : Nat) (h : j < l.length), i ≤ j → v < l[j]) → Same [k + 1] σ σ0 → GO none mX4_insert 2 [some (.inr k), some (.inl (l.length : Int)), some (.inl v), some (.inl (i : Int))] [] σ0 (fun _ σ1 => ∃ l', hldI σ1 (k + 1) l' ∧ srt l' ∧ l'.Perm (v :: l) ∧ Same [k + 1] σ σ1) := by
    intro i
    induction i with
    | zero =>
      intro σ0 hi h1 h2 h3 hS
      refine rX4_insert_2 hk ⟨fun _ => ⟨by omega, by omega, ?_⟩, fun h => by omega⟩
      exact ⟨insA l 0 v, insA_hld (by omega) h1 h2, insA_srt hs (by omega) (fun j h q => by omega) h3, insA_perm _ _ _, hS.tr (Same.mu (by simp))⟩
    | succ i ih =>
      intro σ0 hi h1 h2 h3 hS
      have e1 : (((i + 1 : Nat) : Int) - 1).toNat = i := by omega
      have e2 := h1 i (by omega) (by omega)
      refine rX4_insert_2 hk ⟨fun h => by omega, fun _ => ⟨by omega, by omega, by omega, ?_⟩⟩
      rw [e1, e2, Int.toNat_natCast]
      refine ⟨fun h => ⟨by omega, by omega, ?_⟩, fun h => ⟨by omega, by omega, by omega, ?_⟩⟩
      · refine ⟨insA l (i + 1) v, insA_hld hi h1 h2, insA_srt hs hi (fun j hj q => ?_) h3, insA_perm _ _ _, hS.tr (Same.mu (by simp))⟩
        by_cases e : j = i
        · subst e; exact h
        · have := List.pairwise_iff_getElem.mp hs j i hj (by omega) (by omega)
          omega
      · rw [show (((i + 1 : Nat) : Int) + (-1)) = (i : Int) by omega]
        refine ih _ (by omega) (fun j hj q => ?_) (fun j hj q => ?_) (fun j hj q => ?_) (hS.tr (Same.mu (by simp)))
        · rw [mu_atn (by omega)]
          exact h1 j hj (by omega)
        · by_cases e : j = i
          · subst e
            rw [mu_at, if_pos rfl]
          · rw [mu_atn (by omega)]
            exact h2 j hj (by omega)
        · by_cases e : j = i
          · subst e; exact h
          · exact h3 j hj (by omega)
  refine rX4_insert_0 hk ?_
  exact key l.length σ (Nat.le_refl _) (fun j h _ => hp j h) (fun j h q => by omega) (fun j h q => by omega) Same.rf
/-- how many pairs carry x, how many pairs lie x apart -/
def fCnt (D : Dt) (y : Nat) (x : Int) : Int := tri (fun a b => if ld D y a b + ld D y b a = x ∧ 0 < x then 1 else 0) (dm D)
def wCnt (D : Dt) (x : Int) : Int := tri (fun a b => if dW D a b = x ∧ x ≠ -1 then 1 else 0) (dn D)
def floorV (A B : List Int) : Int := if B.length < A.length then -1 else sumF (fun i => A.getD (A.length - 1 - i) 0 * B.getD i 0) A.length
def FloorIs (D : Dt) (y : Nat) (v : Int) : Prop := ∃ A B : List Int, srt A ∧ srt B ∧ (∀ x, (A.count x : Int) = fCnt D y x) ∧ (∀ x, (B.count x : Int) = wCnt D x) ∧ v = floorV A B
theorem FloorIs.un {D : Dt} {y : Nat} {v w : Int} (h : FloorIs D y v) (h2 : FloorIs D y w) : v = w := by
  obtain ⟨A, B, a1, a2, a3, a4, rfl⟩ := h
  obtain ⟨A', B', b1, b2, b3, b4, rfl⟩ := h2
  have e1 : A = A' := List.Perm.eq_of_pairwise (le := (· ≤ ·)) (fun a b _ _ q1 q2 => Int.le_antisymm q1 q2) a1 b1 (List.perm_iff_count.mpr (fun x => by have := a3 x; have := b3 x; omega))
  have e2 : B = B' := List.Perm.eq_of_pairwise (le := (· ≤ ·)) (fun a b _ _ q1 q2 => Int.le_antisymm q1 q2) a2 b2 (List.perm_iff_count.mpr (fun x => by have := a4 x; have := b4 x; omega))
  rw [e1, e2]
theorem cnt_cons {A A' : List Int} {v x : Int} (h : A'.Perm (v :: A)) : (A'.count x : Int) = (A.count x : Int) + (if v = x then 1 else 0) := by
  rw [h.count_eq, List.count_cons]
  by_cases e : v = x
  · simp [e]
  · simp [e]
set_option maxRecDepth 100000 in
theorem rX4_sortLoads_0 {x1 : Int}  {σ : Mem} {Q : Int → Mem → Prop} (h : GO none mX4_sortLoads 4 [some (.inr 28), some (.inl x1), some (.inl 0), some (.inl 0), none, none] [] σ Q) : CM mX4_sortLoads [.inr 28, .inl x1] σ Q := by
  refine CM_of_GO (by decide +kernel) rfl (Nat.le_of_ble_eq_true rfl) ?_
  show GO none mX4_sortLoads 0 [some (.inr 28), some (.inl x1), none, none, none, none] [] σ Q
  refine g_iconst dX4_sortLoads_0 (by decide) ?_
  refine g_istore_n (ls' := [some (.inr 28), some (.inl x1), some (.inl 0), none, none, none]) dX4_sortLoads_1 rfl (by decide) rfl ?_
  refine g_iconst dX4_sortLoads_2 (by decide) ?_
  refine g_istore_n (ls' := [some (.inr 28), some (.inl x1), some (.inl 0), some (.inl 0), none, none]) dX4_sortLoads_3 rfl (by decide) rfl ?_
  exact h
set_option maxRecDepth 100000 in
theorem rX4_sortLoads_4 {x1 x2 x3 : Int}  {σ : Mem} {Q : Int → Mem → Prop} (h : ((σ 14 6) ≤ x3 → Q x2 σ) ∧ (x3 < (σ 14 6) → ((inR (x3 + 1)) ∧ (GO none mX4_sortLoads 20 [some (.inr 28), some (.inl x1), some (.inl x2), some (.inl x3), some (.inl (x3 + 1)), none] [] σ Q)))) : GO none mX4_sortLoads 4 [some (.inr 28), some (.inl x1), some (.inl x2), some (.inl x3), none, none] [] σ Q := by
  refine g_iload_n dX4_sortLoads_4 rfl rfl ?_
  refine g_aload_n dX4_sortLoads_5 rfl rfl ?_
  refine g_getR (r' := 14) flX4_27 (by decide) rfl (by decide) rfl dX4_sortLoads_6 ?_
  refine g_invVI (as := []) (rest := [.inl x3]) okX9_shops mlX4_42 (by decide) rfl ⟨_, _, rfl⟩ rfl ⟨Nat.le_of_ble_eq_true rfl, Nat.le_of_ble_eq_true rfl⟩ (Nat.le_of_ble_eq_true rfl) rfl dX4_sortLoads_9 (c_X9_shops) (Or.inl rfl) (fun v1 σ2 e3 => ?_)
  obtain ⟨e3a, e3b⟩ := e3; subst v1; subst σ2
  refine g_icmp_ge (tgt := 75) dX4_sortLoads_12 (by decide) (fun c4 => ?_) (fun c4 => ?_)
  · have h := h.1 c4
    refine g_iload_n dX4_sortLoads_75 rfl rfl ?_
    exact g_ireturn rfl dX4_sortLoads_76 h
  · have h := h.2 c4
    refine g_iload_n dX4_sortLoads_15 rfl rfl ?_
    refine g_iconst dX4_sortLoads_16 (by decide) ?_
    obtain ⟨p5, h⟩ := h
    refine g_iadd dX4_sortLoads_17 p5 ?_
    refine g_istore (ls' := [some (.inr 28), some (.inl x1), some (.inl x2), some (.inl x3), some (.inl (x3 + 1)), none]) dX4_sortLoads_18 (by decide) rfl ?_
    exact h
set_option maxRecDepth 100000 in
theorem rX4_sortLoads_20 {x1 x2 x3 x4 : Int}  {σ : Mem} {Q : Int → Mem → Prop} (h : ((σ 14 6) ≤ x4 → ((inR (x3 + 1)) ∧ (GO none mX4_sortLoads 4 [some (.inr 28), some (.inl x1), some (.inl x2), some (.inl (x3 + 1)), none, none] [] σ Q))) ∧ (x4 < (σ 14 6) → ((0 ≤ x1) ∧ (((x1 < 4) ∧ (((0 ≤ x3) ∧ (((x3 < 5) ∧ (((0 ≤ x4) ∧ (((x4 < 5) ∧ (((inR (σ 16 (25 * x1 + 5 * x3 + x4).toNat + σ 16 (25 * x1 + 5 * x4 + x3).toNat)) ∧ (((σ 16 (25 * x1 + 5 * x3 + x4).toNat + σ 16 (25 * x1 + 5 * x4 + x3).toNat) ≤ 0 → ((inR (x4 + 1)) ∧ (GO none mX4_sortLoads 20 [some (.inr 28), some (.inl x1), some (.inl x2), some (.inl x3), some (.inl (x4 + 1)), none] [] σ Q))) ∧ (0 < (σ 16 (25 * x1 + 5 * x3 + x4).toNat + σ 16 (25 * x1 + 5 * x4 + x3).toNat) → CM mX4_insert [.inr 29, .inl x2, .inl (σ 16 (25 * x1 + 5 * x3 + x4).toNat + σ 16 (25 * x1 + 5 * x4 + x3).toNat)] σ (fun _ σ19 => ((inR (x2 + 1)) ∧ (((inR (x4 + 1)) ∧ (GO none mX4_sortLoads 20 [some (.inr 28), some (.inl x1), some (.inl (x2 + 1)), some (.inl x3), some (.inl (x4 + 1)), none] [] σ19 Q)))))))))))))))))))))) : GO none mX4_sortLoads 20 [some (.inr 28), some (.inl x1), some (.inl x2), some (.inl x3), some (.inl x4), none] [] σ Q := by
  refine g_iload dX4_sortLoads_20 rfl ?_
  refine g_aload_n dX4_sortLoads_22 rfl rfl ?_
  refine g_getR (r' := 14) flX4_27 (by decide) rfl (by decide) rfl dX4_sortLoads_23 ?_
  refine g_invVI (as := []) (rest := [.inl x4]) okX9_shops mlX4_42 (by decide) rfl ⟨_, _, rfl⟩ rfl ⟨Nat.le_of_ble_eq_true rfl, Nat.le_of_ble_eq_true rfl⟩ (Nat.le_of_ble_eq_true rfl) rfl dX4_sortLoads_26 (c_X9_shops) (Or.inl rfl) (fun v1 σ2 e3 => ?_)
  obtain ⟨e3a, e3b⟩ := e3; subst v1; subst σ2
  refine g_icmp_ge (tgt := 69) dX4_sortLoads_29 (by decide) (fun c4 => ?_) (fun c4 => ?_)
  · have h := h.1 c4
    obtain ⟨p5, h⟩ := h
    refine g_iinc (ls' := [some (.inr 28), some (.inl x1), some (.inl x2), some (.inl (x3 + 1)), some (.inl x4), none]) dX4_sortLoads_69 (by decide) rfl p5 rfl ?_
    refine g_goto (tgt := 4) dX4_sortLoads_72 (by decide) ?_
    refine g_kill (i := 4) (ls' := [some (.inr 28), some (.inl x1), some (.inl x2), some (.inl (x3 + 1)), none, none]) rfl ?_
    exact h
  · have h := h.2 c4
    refine g_aload_n dX4_sortLoads_32 rfl rfl ?_
    refine g_getR (r' := 14) flX4_27 (by decide) rfl (by decide) rfl dX4_sortLoads_33 ?_
    refine g_iload_n dX4_sortLoads_36 rfl rfl ?_
    refine g_iload_n dX4_sortLoads_37 rfl rfl ?_
    refine g_iload dX4_sortLoads_38 rfl ?_
    obtain ⟨p6, h⟩ := h
    obtain ⟨p7, h⟩ := h
    obtain ⟨p8, h⟩ := h
    obtain ⟨p9, h⟩ := h
    obtain ⟨p10, h⟩ := h
    obtain ⟨p11, h⟩ := h
    obtain ⟨p12, h⟩ := h
    refine g_invVI (as := [.inl x1, .inl x3, .inl x4]) (rest := []) okX9_bothWays mlX4_47 (by decide) rfl ⟨_, _, rfl⟩ rfl ⟨Nat.le_of_ble_eq_true rfl, Nat.le_of_ble_eq_true rfl⟩ (Nat.le_of_ble_eq_true rfl) rfl dX4_sortLoads_40 (c_X9_bothWays p6 p7 p8 p9 p10 p11 p12) (Or.inl rfl) (fun v13 σ14 e15 => ?_)
    obtain ⟨e15a, e15b⟩ := e15; subst v13; subst σ14
    refine g_istore (ls' := [some (.inr 28), some (.inl x1), some (.inl x2), some (.inl x3), some (.inl x4), some (.inl (σ 16 (25 * x1 + 5 * x3 + x4).toNat + σ 16 (25 * x1 + 5 * x4 + x3).toNat))]) dX4_sortLoads_43 (by decide) rfl ?_
    refine g_iload dX4_sortLoads_45 rfl ?_
    refine g_if_le (tgt := 63) dX4_sortLoads_47 (by decide) (fun c16 => ?_) (fun c16 => ?_)
    · have h := h.1 c16
      obtain ⟨p17, h⟩ := h
      refine g_iinc (ls' := [some (.inr 28), some (.inl x1), some (.inl x2), some (.inl x3), some (.inl (x4 + 1)), some (.inl (σ 16 (25 * x1 + 5 * x3 + x4).toNat + σ 16 (25 * x1 + 5 * x4 + x3).toNat))]) dX4_sortLoads_63 (by decide) rfl p17 rfl ?_
      refine g_goto (tgt := 20) dX4_sortLoads_66 (by decide) ?_
      refine g_kill (i := 5) (ls' := [some (.inr 28), some (.inl x1), some (.inl x2), some (.inl x3), some (.inl (x4 + 1)), none]) rfl ?_
      exact h
    · have h := h.2 c16
      refine g_aload_n dX4_sortLoads_50 rfl rfl ?_
      refine g_getR (r' := 29) flX4_14 (by decide) rfl (by decide) rfl dX4_sortLoads_51 ?_
      refine g_iload_n dX4_sortLoads_54 rfl rfl ?_
      refine g_iload dX4_sortLoads_55 rfl ?_
      refine g_invSV (as := [.inr 29, .inl x2, .inl (σ 16 (25 * x1 + 5 * x3 + x4).toNat + σ 16 (25 * x1 + 5 * x4 + x3).toNat)]) (rest := []) okX4_insert rfl mlX4_51 rfl ⟨Nat.le_of_ble_eq_true rfl, Nat.le_of_ble_eq_true rfl⟩ (Nat.le_of_ble_eq_true rfl) rfl dX4_sortLoads_57 h rfl (fun σ19 e20 => ?_)
      have h := e20
      obtain ⟨p21, h⟩ := h
      refine g_iinc (ls' := [some (.inr 28), some (.inl x1), some (.inl (x2 + 1)), some (.inl x3), some (.inl x4), some (.inl (σ 16 (25 * x1 + 5 * x3 + x4).toNat + σ 16 (25 * x1 + 5 * x4 + x3).toNat))]) dX4_sortLoads_60 (by decide) rfl p21 rfl ?_
      obtain ⟨p22, h⟩ := h
      refine g_iinc (ls' := [some (.inr 28), some (.inl x1), some (.inl (x2 + 1)), some (.inl x3), some (.inl (x4 + 1)), some (.inl (σ 16 (25 * x1 + 5 * x3 + x4).toNat + σ 16 (25 * x1 + 5 * x4 + x3).toNat))]) dX4_sortLoads_63 (by decide) rfl p22 rfl ?_
      refine g_goto (tgt := 20) dX4_sortLoads_66 (by decide) ?_
      refine g_kill (i := 5) (ls' := [some (.inr 28), some (.inl x1), some (.inl (x2 + 1)), some (.inl x3), some (.inl (x4 + 1)), none]) rfl ?_
      exact h
set_option maxRecDepth 100000 in
theorem rX4_sortWays_0  {σ : Mem} {Q : Int → Mem → Prop} (h : GO none mX4_sortWays 4 [some (.inr 28), some (.inl 0), some (.inl 0), none, none] [] σ Q) : CM mX4_sortWays [.inr 28] σ Q := by
  refine CM_of_GO (by decide +kernel) rfl (Nat.le_of_ble_eq_true rfl) ?_
  show GO none mX4_sortWays 0 [some (.inr 28), none, none, none, none] [] σ Q
  refine g_iconst dX4_sortWays_0 (by decide) ?_
  refine g_istore_n (ls' := [some (.inr 28), some (.inl 0), none, none, none]) dX4_sortWays_1 rfl (by decide) rfl ?_
  refine g_iconst dX4_sortWays_2 (by decide) ?_
  refine g_istore_n (ls' := [some (.inr 28), some (.inl 0), some (.inl 0), none, none]) dX4_sortWays_3 rfl (by decide) rfl ?_
  exact h
set_option maxRecDepth 100000 in
theorem rX4_sortWays_4 {x1 x2 : Int}  {σ : Mem} {Q : Int → Mem → Prop} (h : ((σ 1 7) ≤ x2 → Q x1 σ) ∧ (x2 < (σ 1 7) → ((inR (x2 + 1)) ∧ (GO none mX4_sortWays 19 [some (.inr 28), some (.inl x1), some (.inl x2), some (.inl (x2 + 1)), none] [] σ Q)))) : GO none mX4_sortWays 4 [some (.inr 28), some (.inl x1), some (.inl x2), none, none] [] σ Q := by
  refine g_iload_n dX4_sortWays_4 rfl rfl ?_
  refine g_aload_n dX4_sortWays_5 rfl rfl ?_
  refine g_getR (r' := 1) flX4_23 (by decide) rfl (by decide) rfl dX4_sortWays_6 ?_
  refine g_invVI (as := []) (rest := [.inl x2]) okX2_slots mlX4_55 (by decide) rfl ⟨_, _, rfl⟩ rfl ⟨Nat.le_of_ble_eq_true rfl, Nat.le_of_ble_eq_true rfl⟩ (Nat.le_of_ble_eq_true rfl) rfl dX4_sortWays_9 (c_X2_slots) (Or.inl rfl) (fun v1 σ2 e3 => ?_)
  obtain ⟨e3a, e3b⟩ := e3; subst v1; subst σ2
  refine g_icmp_ge (tgt := 72) dX4_sortWays_12 (by decide) (fun c4 => ?_) (fun c4 => ?_)
  · have h := h.1 c4
    refine g_iload_n dX4_sortWays_72 rfl rfl ?_
    exact g_ireturn rfl dX4_sortWays_73 h
  · have h := h.2 c4
    refine g_iload_n dX4_sortWays_15 rfl rfl ?_
    refine g_iconst dX4_sortWays_16 (by decide) ?_
    obtain ⟨p5, h⟩ := h
    refine g_iadd dX4_sortWays_17 p5 ?_
    refine g_istore_n (ls' := [some (.inr 28), some (.inl x1), some (.inl x2), some (.inl (x2 + 1)), none]) dX4_sortWays_18 rfl (by decide) rfl ?_
    exact h
set_option maxRecDepth 100000 in
theorem rX4_sortWays_19 {x1 x2 x3 : Int}  {σ : Mem} {Q : Int → Mem → Prop} (h : ((σ 1 7) ≤ x3 → ((inR (x2 + 1)) ∧ (GO none mX4_sortWays 4 [some (.inr 28), some (.inl x1), some (.inl (x2 + 1)), none, none] [] σ Q))) ∧ (x3 < (σ 1 7) → ((0 ≤ x2) ∧ (((x2 < 6) ∧ (((0 ≤ x3) ∧ (((x3 < 6) ∧ (((σ 7 (6 * x2 + x3).toNat) = (-1) → ((inR (x3 + 1)) ∧ (GO none mX4_sortWays 19 [some (.inr 28), some (.inl x1), some (.inl x2), some (.inl (x3 + 1)), none] [] σ Q))) ∧ ((σ 7 (6 * x2 + x3).toNat) ≠ (-1) → CM mX4_insert [.inr 31, .inl x1, .inl (σ 7 (6 * x2 + x3).toNat)] σ (fun _ σ16 => ((inR (x1 + 1)) ∧ (((inR (x3 + 1)) ∧ (GO none mX4_sortWays 19 [some (.inr 28), some (.inl (x1 + 1)), some (.inl x2), some (.inl (x3 + 1)), none] [] σ16 Q)))))))))))))))) : GO none mX4_sortWays 19 [some (.inr 28), some (.inl x1), some (.inl x2), some (.inl x3), none] [] σ Q := by
  refine g_iload_n dX4_sortWays_19 rfl rfl ?_
  refine g_aload_n dX4_sortWays_20 rfl rfl ?_
  refine g_getR (r' := 1) flX4_23 (by decide) rfl (by decide) rfl dX4_sortWays_21 ?_
  refine g_invVI (as := []) (rest := [.inl x3]) okX2_slots mlX4_55 (by decide) rfl ⟨_, _, rfl⟩ rfl ⟨Nat.le_of_ble_eq_true rfl, Nat.le_of_ble_eq_true rfl⟩ (Nat.le_of_ble_eq_true rfl) rfl dX4_sortWays_24 (c_X2_slots) (Or.inl rfl) (fun v1 σ2 e3 => ?_)
  obtain ⟨e3a, e3b⟩ := e3; subst v1; subst σ2
  refine g_icmp_ge (tgt := 66) dX4_sortWays_27 (by decide) (fun c4 => ?_) (fun c4 => ?_)
  · have h := h.1 c4
    obtain ⟨p5, h⟩ := h
    refine g_iinc (ls' := [some (.inr 28), some (.inl x1), some (.inl (x2 + 1)), some (.inl x3), none]) dX4_sortWays_66 (by decide) rfl p5 rfl ?_
    refine g_goto (tgt := 4) dX4_sortWays_69 (by decide) ?_
    refine g_kill (i := 3) (ls' := [some (.inr 28), some (.inl x1), some (.inl (x2 + 1)), none, none]) rfl ?_
    exact h
  · have h := h.2 c4
    refine g_aload_n dX4_sortWays_30 rfl rfl ?_
    refine g_getR (r' := 1) flX4_23 (by decide) rfl (by decide) rfl dX4_sortWays_31 ?_
    refine g_iload_n dX4_sortWays_34 rfl rfl ?_
    refine g_iload_n dX4_sortWays_35 rfl rfl ?_
    obtain ⟨p6, h⟩ := h
    obtain ⟨p7, h⟩ := h
    obtain ⟨p8, h⟩ := h
    obtain ⟨p9, h⟩ := h
    refine g_invVI (as := [.inl x2, .inl x3]) (rest := []) okX2_wayBetween mlX4_60 (by decide) rfl ⟨_, _, rfl⟩ rfl ⟨Nat.le_of_ble_eq_true rfl, Nat.le_of_ble_eq_true rfl⟩ (Nat.le_of_ble_eq_true rfl) rfl dX4_sortWays_36 (c_X2_wayBetween p6 p7 p8 p9) (Or.inl rfl) (fun v10 σ11 e12 => ?_)
    obtain ⟨e12a, e12b⟩ := e12; subst v10; subst σ11
    refine g_istore (ls' := [some (.inr 28), some (.inl x1), some (.inl x2), some (.inl x3), some (.inl (σ 7 (6 * x2 + x3).toNat))]) dX4_sortWays_39 (by decide) rfl ?_
    refine g_iload dX4_sortWays_41 rfl ?_
    refine g_iconst dX4_sortWays_43 (by decide) ?_
    refine g_icmp_eq (tgt := 60) dX4_sortWays_44 (by decide) (fun c13 => ?_) (fun c13 => ?_)
    · have h := h.1 c13
      obtain ⟨p14, h⟩ := h
      refine g_iinc (ls' := [some (.inr 28), some (.inl x1), some (.inl x2), some (.inl (x3 + 1)), some (.inl (σ 7 (6 * x2 + x3).toNat))]) dX4_sortWays_60 (by decide) rfl p14 rfl ?_
      refine g_goto (tgt := 19) dX4_sortWays_63 (by decide) ?_
      refine g_kill (i := 4) (ls' := [some (.inr 28), some (.inl x1), some (.inl x2), some (.inl (x3 + 1)), none]) rfl ?_
      exact h
    · have h := h.2 c13
      refine g_aload_n dX4_sortWays_47 rfl rfl ?_
      refine g_getR (r' := 31) flX4_20 (by decide) rfl (by decide) rfl dX4_sortWays_48 ?_
      refine g_iload_n dX4_sortWays_51 rfl rfl ?_
      refine g_iload dX4_sortWays_52 rfl ?_
      refine g_invSV (as := [.inr 31, .inl x1, .inl (σ 7 (6 * x2 + x3).toNat)]) (rest := []) okX4_insert rfl mlX4_51 rfl ⟨Nat.le_of_ble_eq_true rfl, Nat.le_of_ble_eq_true rfl⟩ (Nat.le_of_ble_eq_true rfl) rfl dX4_sortWays_54 h rfl (fun σ16 e17 => ?_)
      have h := e17
      obtain ⟨p18, h⟩ := h
      refine g_iinc (ls' := [some (.inr 28), some (.inl (x1 + 1)), some (.inl x2), some (.inl x3), some (.inl (σ 7 (6 * x2 + x3).toNat))]) dX4_sortWays_57 (by decide) rfl p18 rfl ?_
      obtain ⟨p19, h⟩ := h
      refine g_iinc (ls' := [some (.inr 28), some (.inl (x1 + 1)), some (.inl x2), some (.inl (x3 + 1)), some (.inl (σ 7 (6 * x2 + x3).toNat))]) dX4_sortWays_60 (by decide) rfl p19 rfl ?_
      refine g_goto (tgt := 19) dX4_sortWays_63 (by decide) ?_
      refine g_kill (i := 4) (ls' := [some (.inr 28), some (.inl (x1 + 1)), some (.inl x2), some (.inl (x3 + 1)), none]) rfl ?_
      exact h
set_option maxRecDepth 100000 in
theorem rX4_of_0 {x1 : Int}  {σ : Mem} {Q : Int → Mem → Prop} (h : CM mX4_sortLoads [.inr 28, .inl x1] σ (fun v1 σ2 => CM mX4_sortWays [.inr 28] σ2 (fun v4 σ5 => (v1 ≤ v4 → GO none mX4_of 21 [some (.inr 28), some (.inl x1), some (.inl v1), some (.inl 0), some (.inl 0)] [] σ5 Q) ∧ (v4 < v1 → Q (-1) σ5)))) : CM mX4_of [.inr 28, .inl x1] σ Q := by
  refine CM_of_GO (by decide +kernel) rfl (Nat.le_of_ble_eq_true rfl) ?_
  show GO none mX4_of 0 [some (.inr 28), some (.inl x1), none, none, none] [] σ Q
  refine g_aload_n dX4_of_0 rfl rfl ?_
  refine g_iload_n dX4_of_1 rfl rfl ?_
  refine g_invVI (as := [.inl x1]) (rest := []) okX4_sortLoads mlX4_31 (by decide) rfl ⟨_, _, rfl⟩ rfl ⟨Nat.le_of_ble_eq_true rfl, Nat.le_of_ble_eq_true rfl⟩ (Nat.le_of_ble_eq_true rfl) rfl dX4_of_2 h (Or.inl rfl) (fun v1 σ2 e3 => ?_)
  have h := e3
  refine g_istore_n (ls' := [some (.inr 28), some (.inl x1), some (.inl v1), none, none]) dX4_of_5 rfl (by decide) rfl ?_
  refine g_aload_n dX4_of_6 rfl rfl ?_
  refine g_invVI (as := []) (rest := []) okX4_sortWays mlX4_35 (by decide) rfl ⟨_, _, rfl⟩ rfl ⟨Nat.le_of_ble_eq_true rfl, Nat.le_of_ble_eq_true rfl⟩ (Nat.le_of_ble_eq_true rfl) rfl dX4_of_7 h (Or.inl rfl) (fun v4 σ5 e6 => ?_)
  have h := e6
  refine g_iload_n dX4_of_10 rfl rfl ?_
  refine g_icmp_ge (tgt := 16) dX4_of_11 (by decide) (fun c7 => ?_) (fun c7 => ?_)
  · have h := h.1 c7
    refine g_iconst dX4_of_16 (by decide) ?_
    refine g_istore_n (ls' := [some (.inr 28), some (.inl x1), some (.inl v1), some (.inl 0), none]) dX4_of_17 rfl (by decide) rfl ?_
    refine g_iconst dX4_of_18 (by decide) ?_
    refine g_istore (ls' := [some (.inr 28), some (.inl x1), some (.inl v1), some (.inl 0), some (.inl 0)]) dX4_of_19 (by decide) rfl ?_
    exact h
  · have h := h.2 c7
    refine g_iconst dX4_of_14 (by decide) ?_
    exact g_ireturn rfl dX4_of_15 h
set_option maxRecDepth 100000 in
theorem rX4_of_21 {x1 x2 x3 x4 : Int}  {σ : Mem} {Q : Int → Mem → Prop} (h : (x2 ≤ x4 → Q x3 σ) ∧ (x4 < x2 → ((inR (x2 - 1)) ∧ (((inR ((x2 - 1) - x4)) ∧ (((0 ≤ ((x2 - 1) - x4)) ∧ (((((x2 - 1) - x4) < 25) ∧ (((0 ≤ x4) ∧ (((x4 < 36) ∧ (((inR ((σ 30 (((x2 - 1) - x4)).toNat) * (σ 32 (x4).toNat))) ∧ (((inR (x3 + ((σ 30 (((x2 - 1) - x4)).toNat) * (σ 32 (x4).toNat)))) ∧ (((inR (x4 + 1)) ∧ (GO none mX4_of 21 [some (.inr 28), some (.inl x1), some (.inl x2), some (.inl (x3 + ((σ 30 (((x2 - 1) - x4)).toNat) * (σ 32 (x4).toNat)))), some (.inl (x4 + 1))] [] σ Q)))))))))))))))))))) : GO none mX4_of 21 [some (.inr 28), some (.inl x1), some (.inl x2), some (.inl x3), some (.inl x4)] [] σ Q := by
  refine g_iload dX4_of_21 rfl ?_
  refine g_iload_n dX4_of_23 rfl rfl ?_
  refine g_icmp_ge (tgt := 59) dX4_of_24 (by decide) (fun c1 => ?_) (fun c1 => ?_)
  · have h := h.1 c1
    refine g_iload_n dX4_of_59 rfl rfl ?_
    exact g_ireturn rfl dX4_of_60 h
  · have h := h.2 c1
    refine g_iload_n dX4_of_27 rfl rfl ?_
    refine g_aload_n dX4_of_28 rfl rfl ?_
    refine g_getR (r' := 29) flX4_14 (by decide) rfl (by decide) rfl dX4_of_29 ?_
    refine g_iload_n dX4_of_32 rfl rfl ?_
    refine g_iconst dX4_of_33 (by decide) ?_
    obtain ⟨p2, h⟩ := h
    refine g_isub dX4_of_34 p2 ?_
    refine g_iload dX4_of_35 rfl ?_
    obtain ⟨p3, h⟩ := h
    refine g_isub dX4_of_37 p3 ?_
    obtain ⟨p4, h⟩ := h
    obtain ⟨p5, h⟩ := h
    refine g_invVI (as := [.inl ((x2 - 1) - x4)]) (rest := [.inl x3]) okX7_get mlX4_39 (by decide) rfl ⟨_, _, rfl⟩ rfl ⟨Nat.le_of_ble_eq_true rfl, Nat.le_of_ble_eq_true rfl⟩ (Nat.le_of_ble_eq_true rfl) rfl dX4_of_38 (c_X7_get ⟨by decide, by decide, rfl, rfl, rfl⟩ p4 p5) (Or.inl rfl) (fun v6 σ7 e8 => ?_)
    obtain ⟨e8a, e8b⟩ := e8; subst v6; subst σ7
    refine g_aload_n dX4_of_41 rfl rfl ?_
    refine g_getR (r' := 31) flX4_20 (by decide) rfl (by decide) rfl dX4_of_42 ?_
    refine g_iload dX4_of_45 rfl ?_
    obtain ⟨p9, h⟩ := h
    obtain ⟨p10, h⟩ := h
    refine g_invVI (as := [.inl x4]) (rest := [.inl (σ 30 (((x2 - 1) - x4)).toNat), .inl x3]) okX7_get mlX4_39 (by decide) rfl ⟨_, _, rfl⟩ rfl ⟨Nat.le_of_ble_eq_true rfl, Nat.le_of_ble_eq_true rfl⟩ (Nat.le_of_ble_eq_true rfl) rfl dX4_of_47 (c_X7_get ⟨by decide, by decide, rfl, rfl, rfl⟩ p9 p10) (Or.inl rfl) (fun v11 σ12 e13 => ?_)
    obtain ⟨e13a, e13b⟩ := e13; subst v11; subst σ12
    obtain ⟨p14, h⟩ := h
    refine g_imul dX4_of_50 p14 ?_
    obtain ⟨p15, h⟩ := h
    refine g_iadd dX4_of_51 p15 ?_
    refine g_istore_n (ls' := [some (.inr 28), some (.inl x1), some (.inl x2), some (.inl (x3 + ((σ 30 (((x2 - 1) - x4)).toNat) * (σ 32 (x4).toNat)))), some (.inl x4)]) dX4_of_52 rfl (by decide) rfl ?_
    obtain ⟨p16, h⟩ := h
    refine g_iinc (ls' := [some (.inr 28), some (.inl x1), some (.inl x2), some (.inl (x3 + ((σ 30 (((x2 - 1) - x4)).toNat) * (σ 32 (x4).toNat)))), some (.inl (x4 + 1))]) dX4_of_53 (by decide) rfl p16 rfl ?_
    refine g_goto (tgt := 21) dX4_of_56 (by decide) ?_
    exact h
def row29 : isRow 29 25 := ⟨by decide, by decide, rfl, rfl, rfl⟩
def row31 : isRow 31 36 := ⟨by decide, by decide, rfl, rfl, rfl⟩
theorem c_X4_sortLoads {D : Dt} {y : Nat} {x1 : Int} {σ : Mem} (hw : WF D) (hD : CD D σ) (hy : y < 4) (ex : x1 = y) : CM mX4_sortLoads [.inr 28, .inl x1] σ (fun v σ1 => ∃ A : List Int, v = A.length ∧ A.length ≤ 20 ∧ hldI σ1 30 A ∧ srt A ∧ (∀ z ∈ A, 0 ≤ z ∧ z ≤ 198) ∧ (∀ x, (A.count x : Int) = fCnt D y x) ∧ Same [30] σ σ1) := by
  subst ex
  have hm := hw.2.1
  have outer : ∀ (d a : Nat) (A : List Int) (σ0 : Mem), a + d = dm D → A.length ≤ 4 * a → hldI σ0 30 A → srt A → (∀ z ∈ A, 0 ≤ z ∧ z ≤ 198) → (∀ x, (A.count x : Int) = sumF (fun a => sumF (fun j => if ld D y a (a + 1 + j) + ld D y (a + 1 + j) a = x ∧ 0 < x then 1 else 0) (dm D - 1 - a)) a) → Same [30] σ σ0 → GO none mX4_sortLoads 4 [some (.inr 28), some (.inl (y : Int)), some (.inl (A.length : Int)), some (.inl (a : Int)), none, none] [] σ0 (fun v σ1 => ∃ A : List Int, v = A.length ∧ A.length ≤ 20 ∧ hldI σ1 30 A ∧ srt A ∧ (∀ z ∈ A, 0 ≤ z ∧ z ≤ 198) ∧ (∀ x, (A.count x : Int) = fCnt D y x) ∧ Same [30] σ σ1) := by
    intro d
    induction d with
    | zero =>
      intro a A σ0 hd hl hp hs hb hc hS
      have e14 : σ0 14 6 = dm D := by rw [hS 14 (by decide)]; exact hD.2.1
      refine rX4_sortLoads_4 ⟨fun _ => ⟨A, rfl, by omega, hp, hs, hb, fun x => ?_, hS⟩, fun h => by omega⟩
      rw [hc x, show a = dm D by omega]
      rfl
    | succ d ih =>
      intro a A σ0 hd hl hp hs hb hc hS
      have e14 : σ0 14 6 = dm D := by rw [hS 14 (by decide)]; exact hD.2.1
      refine rX4_sortLoads_4 ⟨fun h => by omega, fun _ => ⟨by omega, ?_⟩⟩
      have inner : ∀ (d2 j : Nat) (A2 : List Int) (σ2 : Mem), a + 1 + j + d2 = dm D → A2.length ≤ 4 * a + j → hldI σ2 30 A2 → srt A2 → (∀ z ∈ A2, 0 ≤ z ∧ z ≤ 198) → (∀ x, (A2.count x : Int) = sumF (fun a => sumF (fun j => if ld D y a (a + 1 + j) + ld D y (a + 1 + j) a = x ∧ 0 < x then 1 else 0) (dm D - 1 - a)) a + sumF (fun j => if ld D y a (a + 1 + j) + ld D y (a + 1 + j) a = x ∧ 0 < x then 1 else 0) j) → Same [30] σ σ2 → GO none mX4_sortLoads 20 [some (.inr 28), some (.inl (y : Int)), some (.inl (A2.length : Int)), some (.inl (a : Int)), some (.inl ((a + 1 + j : Nat) : Int)), none] [] σ2 (fun v σ1 => ∃ A : List Int, v = A.length ∧ A.length ≤ 20 ∧ hldI σ1 30 A ∧ srt A ∧ (∀ z ∈ A, 0 ≤ z ∧ z ≤ 198) ∧ (∀ x, (A.count x : Int) = fCnt D y x) ∧ Same [30] σ σ1) := by
        intro d2
        induction d2 with
        | zero =>
          intro j A2 σ2 hd2 hl2 hp2 hs2 hb2 hc2 hS2
          have e14 : σ2 14 6 = dm D := by rw [hS2 14 (by decide)]; exact hD.2.1
          refine rX4_sortLoads_20 ⟨fun _ => ⟨by omega, ?_⟩, fun h => by omega⟩
          refine ih (a + 1) A2 σ2 (by omega) (by omega) hp2 hs2 hb2 (fun x => ?_) hS2
          rw [hc2 x, sumF_succ, show dm D - 1 - a = j by omega]
        | succ d2 ih2 =>
          intro j A2 σ2 hd2 hl2 hp2 hs2 hb2 hc2 hS2
          have e14 : σ2 14 6 = dm D := by rw [hS2 14 (by decide)]; exact hD.2.1
          have ha : a < dm D := by omega
          have hb' : a + 1 + j < dm D := by omega
          have l1 := ld_bd hw hy ha hb'
          have l2 := ld_bd hw hy hb' ha
          have e16 : σ2 16 = dL D := by rw [hS2 16 (by decide)]; exact hD.2.2.2.2.2.1
          have i1 : (25 * (y : Int) + 5 * (a : Int) + ((a + 1 + j : Nat) : Int)).toNat = 25 * y + 5 * a + (a + 1 + j) := by omega
          have i2 : (25 * (y : Int) + 5 * ((a + 1 + j : Nat) : Int) + (a : Int)).toNat = 25 * y + 5 * (a + 1 + j) + a := by omega
          have s1 : σ2 16 (25 * y + 5 * a + (a + 1 + j)) = ld D y a (a + 1 + j) := by rw [e16]; rfl
          have s2 : σ2 16 (25 * y + 5 * (a + 1 + j) + a) = ld D y (a + 1 + j) a := by rw [e16]; rfl
          refine rX4_sortLoads_20 ⟨fun h => by omega, fun _ => ?_⟩
          rw [i1, i2, s1, s2]
          refine ⟨by omega, by omega, by omega, by omega, by omega, by omega, by omega, fun h0 => ⟨by omega, ?_⟩, fun h0 => ?_⟩
          · refine ih2 (j + 1) A2 σ2 (by omega) (by omega) hp2 hs2 hb2 (fun x => ?_) hS2
            rw [hc2 x, sumF_succ, if_neg (by omega), Int.add_zero]
          · refine CM.mono (fun v σ9 h => ?_) (c_X4_insert (l := A2) row29 (by omega) (by omega) hp2 hs2 rfl)
            obtain ⟨A3, q1, q2, q3, q4⟩ := h
            have hl3 : A3.length = A2.length + 1 := by rw [q3.length_eq, List.length_cons]
            refine ⟨by omega, by omega, ?_⟩
            have := ih2 (j + 1) A3 σ9 (by omega) (by omega) q1 q2 (fun z hz => ?_) (fun x => ?_) (hS2.tr q4)
            · rw [hl3] at this
              exact this
            · rcases List.mem_cons.mp ((q3.mem_iff).mp hz) with rfl | hz
              · omega
              · exact hb2 z hz
            · rw [cnt_cons q3, hc2 x, sumF_succ, ← Int.add_assoc]
              by_cases e : ld D y a (a + 1 + j) + ld D y (a + 1 + j) a = x
              · rw [if_pos e, if_pos ⟨e, by omega⟩]
              · rw [if_neg e, if_neg (fun q => e q.1)]
      exact inner (dm D - (a + 1)) 0 A σ0 (by omega) (by omega) hp hs hb (fun x => by rw [hc x]; simp [sumF]) hS
  refine rX4_sortLoads_0 ?_
  exact outer (dm D) 0 [] σ (by omega) (by simp) (fun i h => by simp at h) List.Pairwise.nil (by simp) (fun x => by simp [sumF]) Same.rf
theorem c_X4_sortWays {D : Dt} {σ : Mem} (hw : WF D) (hD : CD D σ) : CM mX4_sortWays [.inr 28] σ (fun v σ1 => ∃ B : List Int, v = B.length ∧ B.length ≤ 30 ∧ hldI σ1 32 B ∧ srt B ∧ (∀ z ∈ B, 0 ≤ z ∧ z ≤ 36) ∧ (∀ x, (B.count x : Int) = wCnt D x) ∧ Same [32] σ σ1) := by
  have hn := hw.1
  have outer : ∀ (d a : Nat) (A : List Int) (σ0 : Mem), a + d = dn D → A.length ≤ 5 * a → hldI σ0 32 A → srt A → (∀ z ∈ A, 0 ≤ z ∧ z ≤ 36) → (∀ x, (A.count x : Int) = sumF (fun a => sumF (fun j => if dW D a (a + 1 + j) = x ∧ x ≠ -1 then 1 else 0) (dn D - 1 - a)) a) → Same [32] σ σ0 → GO none mX4_sortWays 4 [some (.inr 28), some (.inl (A.length : Int)), some (.inl (a : Int)), none, none] [] σ0 (fun v σ1 => ∃ A : List Int, v = A.length ∧ A.length ≤ 30 ∧ hldI σ1 32 A ∧ srt A ∧ (∀ z ∈ A, 0 ≤ z ∧ z ≤ 36) ∧ (∀ x, (A.count x : Int) = wCnt D x) ∧ Same [32] σ σ1) := by
    intro d
    induction d with
    | zero =>
      intro a A σ0 hd hl hp hs hb hc hS
      have e14 : σ0 1 7 = dn D := by rw [hS 1 (by decide)]; exact hD.1
      refine rX4_sortWays_4 ⟨fun _ => ⟨A, rfl, by omega, hp, hs, hb, fun x => ?_, hS⟩, fun h => by omega⟩
      rw [hc x, show a = dn D by omega]
      rfl
    | succ d ih =>
      intro a A σ0 hd hl hp hs hb hc hS
      have e14 : σ0 1 7 = dn D := by rw [hS 1 (by decide)]; exact hD.1
      refine rX4_sortWays_4 ⟨fun h => by omega, fun _ => ⟨by omega, ?_⟩⟩
      have inner : ∀ (d2 j : Nat) (A2 : List Int) (σ2 : Mem), a + 1 + j + d2 = dn D → A2.length ≤ 5 * a + j → hldI σ2 32 A2 → srt A2 → (∀ z ∈ A2, 0 ≤ z ∧ z ≤ 36) → (∀ x, (A2.count x : Int) = sumF (fun a => sumF (fun j => if dW D a (a + 1 + j) = x ∧ x ≠ -1 then 1 else 0) (dn D - 1 - a)) a + sumF (fun j => if dW D a (a + 1 + j) = x ∧ x ≠ -1 then 1 else 0) j) → Same [32] σ σ2 → GO none mX4_sortWays 19 [some (.inr 28), some (.inl (A2.length : Int)), some (.inl (a : Int)), some (.inl ((a + 1 + j : Nat) : Int)), none] [] σ2 (fun v σ1 => ∃ A : List Int, v = A.length ∧ A.length ≤ 30 ∧ hldI σ1 32 A ∧ srt A ∧ (∀ z ∈ A, 0 ≤ z ∧ z ≤ 36) ∧ (∀ x, (A.count x : Int) = wCnt D x) ∧ Same [32] σ σ1) := by
        intro d2
        induction d2 with
        | zero =>
          intro j A2 σ2 hd2 hl2 hp2 hs2 hb2 hc2 hS2
          have e14 : σ2 1 7 = dn D := by rw [hS2 1 (by decide)]; exact hD.1
          refine rX4_sortWays_19 ⟨fun _ => ⟨by omega, ?_⟩, fun h => by omega⟩
          refine ih (a + 1) A2 σ2 (by omega) (by omega) hp2 hs2 hb2 (fun x => ?_) hS2
          rw [hc2 x, sumF_succ, show dn D - 1 - a = j by omega]
        | succ d2 ih2 =>
          intro j A2 σ2 hd2 hl2 hp2 hs2 hb2 hc2 hS2
          have e14 : σ2 1 7 = dn D := by rw [hS2 1 (by decide)]; exact hD.1
          have ha : a < dn D := by omega
          have hb' : a + 1 + j < dn D := by omega
          have b1 := hw.2.2.2.1 _ _ ha hb'
          have e7 : σ2 7 (6 * (a : Int) + ((a + 1 + j : Nat) : Int)).toNat = dW D a (a + 1 + j) := by
            rw [show (6 * (a : Int) + ((a + 1 + j : Nat) : Int)).toNat = 6 * a + (a + 1 + j) by omega, hS2 7 (by decide)]
            exact hD.2.2.1 _ _ ha hb'
          refine rX4_sortWays_19 ⟨fun h => by omega, fun _ => ?_⟩
          rw [e7]
          refine ⟨by omega, by omega, by omega, by omega, fun h0 => ⟨by omega, ?_⟩, fun h0 => ?_⟩
          · refine ih2 (j + 1) A2 σ2 (by omega) (by omega) hp2 hs2 hb2 (fun x => ?_) hS2
            rw [hc2 x, sumF_succ, if_neg (by omega), Int.add_zero]
          · refine CM.mono (fun v σ9 h => ?_) (c_X4_insert (l := A2) row31 (by omega) (by omega) hp2 hs2 rfl)
            obtain ⟨A3, q1, q2, q3, q4⟩ := h
            have hl3 : A3.length = A2.length + 1 := by rw [q3.length_eq, List.length_cons]
            refine ⟨by omega, by omega, ?_⟩
            have := ih2 (j + 1) A3 σ9 (by omega) (by omega) q1 q2 (fun z hz => ?_) (fun x => ?_) (hS2.tr q4)
            · rw [hl3] at this
              exact this
            · rcases List.mem_cons.mp ((q3.mem_iff).mp hz) with rfl | hz
              · omega
              · exact hb2 z hz
            · rw [cnt_cons q3, hc2 x, sumF_succ, ← Int.add_assoc]
              by_cases e : dW D a (a + 1 + j) = x
              · rw [if_pos e, if_pos ⟨e, by omega⟩]
              · rw [if_neg e, if_neg (fun q => e q.1)]
      exact inner (dn D - (a + 1)) 0 A σ0 (by omega) (by omega) hp hs hb (fun x => by rw [hc x]; simp [sumF]) hS
  refine rX4_sortWays_0 ?_
  exact outer (dn D) 0 [] σ (by omega) (by simp) (fun i h => by simp at h) List.Pairwise.nil (by simp) (fun x => by simp [sumF]) Same.rf
theorem getDI {l : List Int} {i : Nat} (h : i < l.length) : l.getD i 0 = l[i] := by simp [List.getD, h]
theorem c_X4_of {D : Dt} {y : Nat} {x1 : Int} {σ : Mem} (hw : WF D) (hD : CD D σ) (hy : y < 4) (ex : x1 = y) : CM mX4_of [.inr 28, .inl x1] σ (fun v σ1 => FloorIs D y v ∧ Same [30, 32] σ σ1) := by
  refine rX4_of_0 (CM.mono (fun v σ2 h => ?_) (c_X4_sortLoads hw hD hy ex))
  obtain ⟨A, rfl, a2, a3, a4, a5, a6, a7⟩ := h
  refine CM.mono (fun v σ5 h => ?_) (c_X4_sortWays hw (hD.same a7 (by decide)))
  obtain ⟨B, rfl, b2, b3, b4, b5, b6, b7⟩ := h
  have hS : Same [30, 32] σ σ5 := (a7.wk (by decide)).tr (b7.wk (by decide))
  have hA : hldI σ5 30 A := a3.cong (b7 30 (by decide))
  refine ⟨fun hle => ?_, fun hlt => ⟨⟨A, B, a4, b4, a6, b6, ?_⟩, hS⟩⟩
  · have hsum : ∀ i, i ≤ A.length → 0 ≤ sumF (fun i => A.getD (A.length - 1 - i) 0 * B.getD i 0) i ∧ sumF (fun i => A.getD (A.length - 1 - i) 0 * B.getD i 0) i ≤ i * 7128 := fun i hi => by
      refine sumF_bd (fun j hj => ?_)
      have h1 := a5 _ (List.getElem_mem (l := A) (n := A.length - 1 - j) (by omega))
      have h2 := b5 _ (List.getElem_mem (l := B) (n := j) (by omega))
      rw [getDI (by omega), getDI (by omega)]
      exact ⟨Int.mul_nonneg h1.1 h2.1, (mul_bd h1.1 h1.2 (by omega) h2.2).2⟩
    have key : ∀ (d i : Nat), i + d = A.length → GO none mX4_of 21 [some (.inr 28), some (.inl x1), some (.inl (A.length : Int)), some (.inl (sumF (fun i => A.getD (A.length - 1 - i) 0 * B.getD i 0) i)), some (.inl (i : Int))] [] σ5 (fun v σ1 => FloorIs D y v ∧ Same [30, 32] σ σ1) := by
      intro d
      induction d with
      | zero =>
        intro i hd
        refine rX4_of_21 ⟨fun _ => ⟨⟨A, B, a4, b4, a6, b6, ?_⟩, hS⟩, fun h => by omega⟩
        unfold floorV
        rw [if_neg (by omega), show i = A.length by omega]
      | succ d ih =>
        intro i hd
        have e1 : ((A.length : Int) - 1 - (i : Int)).toNat = A.length - 1 - i := by omega
        have e2 : σ5 30 (A.length - 1 - i) = A.getD (A.length - 1 - i) 0 := by rw [getDI (by omega)]; exact hA _ (by omega)
        have e3 : σ5 32 i = B.getD i 0 := by rw [getDI (by omega)]; exact b3 _ (by omega)
        have s1 := hsum i (by omega)
        have s2 := hsum (i + 1) (by omega)
        have s3 : sumF (fun i => A.getD (A.length - 1 - i) 0 * B.getD i 0) (i + 1) = sumF (fun i => A.getD (A.length - 1 - i) 0 * B.getD i 0) i + A.getD (A.length - 1 - i) 0 * B.getD i 0 := rfl
        refine rX4_of_21 ⟨fun h => by omega, fun _ => ?_⟩
        rw [e1, Int.toNat_natCast, e2, e3]
        refine ⟨by omega, by omega, by omega, by omega, by omega, by omega, by omega, by omega, by omega, ?_⟩
        rw [← s3]
        exact ih (i + 1) (by omega)
    exact key A.length 0 (by omega)
  · unfold floorV
    rw [if_pos (by omega)]
end
section
/-! ===== changes that better places ===== -/
theorem hld.set {σ : Mem} {a i : Nat} {p : List Nat} (h : hld σ a p) (hi : i < p.length) (s : Nat) : hld (mu σ a i (s : Int)) a (p.set i s) := by
  intro j hj
  rw [List.length_set] at hj
  rw [mu_at, List.getElem_set]
  by_cases e : j = i
  · subst e; simp
  · rw [if_neg e, if_neg (fun q => e q.symm)]
    exact h j hj
/-- the places behind a change: the shop goes to the slot, who is there goes to the shop's -/
def chg (p : List Nat) (a s : Nat) : Option (List Nat) :=
  if s ∈ p then (if pg p a = s then none else some ((p.set a s).set (p.idxOf s) (pg p a))) else some (p.set a s)
theorem chg_ok {n a s : Nat} {p q : List Nat} (hp : okP n p) (ha : a < p.length) (hs : s < n) (h : chg p a s = some q) : q.length = p.length ∧ ∀ t ∈ q, t < n := by
  unfold chg at h
  have hpa := hp.1 _ (pg_mem ha)
  split at h
  · split at h
    · cases h
    · cases h
      refine ⟨by simp, fun t ht => ?_⟩
      rcases List.mem_or_eq_of_mem_set ht with q | q
      · rcases List.mem_or_eq_of_mem_set q with q | q
        · exact hp.1 t q
        · rw [q]; exact hs
      · rw [q]; exact hpa
  · cases h
    refine ⟨by simp, fun t ht => ?_⟩
    rcases List.mem_or_eq_of_mem_set ht with q | q
    · exact hp.1 t q
    · rw [q]; exact hs
/-- one more change looked at: the least cost so far (-1: none), the places that have it -/
def cst (c : List Nat → Int) (st : Int × Option (List Nat)) (q : List Nat) : Int × Option (List Nat) :=
  if c q = -1 then st else if st.1 = -1 ∨ c q < st.1 then (c q, some q) else match st.2 with
    | some r => if c q = st.1 ∧ lexlt q r = true then (c q, some q) else st
    | none => st
def cstO (c : List Nat → Int) (st : Int × Option (List Nat)) : Option (List Nat) → Int × Option (List Nat)
  | some q => cst c st q
  | none => st
/-- the changes of a shop to the slots s .., d of them; of the shops a .., d of them -/
def chA (c : List Nat → Int) (p : List Nat) (a : Nat) : Nat → Nat → Int × Option (List Nat) → Int × Option (List Nat)
  | _, 0, st => st
  | s, d + 1, st => chA c p a (s + 1) d (cstO c st (chg p a s))
def chB (c : List Nat → Int) (p : List Nat) (n : Nat) : Nat → Nat → Int × Option (List Nat) → Int × Option (List Nat)
  | _, 0, st => st
  | a, d + 1, st => chB c p n (a + 1) d (chA c p a 0 n st)
/-- the best change: its cost and its places; none -/
def fcS (c : List Nat → Int) (n : Nat) (p : List Nat) : Int × Option (List Nat) := chB c p n 0 p.length (c p, none)
def clH (m : Nat) (st : Int × Option (List Nat)) (σ : Mem) : Prop := σ 40 4 = st.1 ∧ σ 40 5 = (if st.2 = none then 0 else 1) ∧ ∀ r, st.2 = some r → r.length = m ∧ σ 44 1 = m ∧ hld σ 46 r
def seats41 : isSeats 41 := ⟨by decide, rfl, rfl, rfl, by decide, by decide, rfl, rfl, rfl⟩
def seats44 : isSeats 44 := ⟨by decide, rfl, rfl, rfl, by decide, by decide, rfl, rfl, rfl⟩
theorem clH.same {m : Nat} {st : Int × Option (List Nat)} {σ σ1 : Mem} {S : List Nat} (h : clH m st σ) (hS : Same S σ σ1) (h0 : 40 ∉ S) (h1 : 44 ∉ S) (h2 : 46 ∉ S) : clH m st σ1 := by
  refine ⟨by rw [hS 40 h0]; exact h.1, by rw [hS 40 h0]; exact h.2.1, fun r hr => ?_⟩
  have := h.2.2 r hr
  exact ⟨this.1, by rw [hS 44 h1]; exact this.2.1, this.2.2.cong (hS 46 h2)⟩
set_option maxRecDepth 100000 in
theorem rX1_compare_0 {x1 : Int}  {σ : Mem} {Q : Int → Mem → Prop} (h : (x1 ≠ (-1) → ((σ 40 4) = (-1) → CM mX8_copy [.inr 44, .inr 41] (mu (mu σ 40 4 x1) 40 5 1) (fun _ σ4 => Q 0 σ4)) ∧ ((σ 40 4) ≠ (-1) → ((σ 40 4) ≤ x1 → ((σ 40 5) = 0 → Q 0 σ) ∧ ((σ 40 5) ≠ 0 → (x1 ≠ (σ 40 4) → Q 0 σ) ∧ (x1 = (σ 40 4) → CM mX8_comesBefore [.inr 41, .inr 44] σ (fun v9 σ10 => (v9 = 0 → Q 0 σ10) ∧ (v9 ≠ 0 → CM mX8_copy [.inr 44, .inr 41] (mu (mu σ10 40 4 x1) 40 5 1) (fun _ σ14 => Q 0 σ14)))))) ∧ (x1 < (σ 40 4) → CM mX8_copy [.inr 44, .inr 41] (mu (mu σ 40 4 x1) 40 5 1) (fun _ σ17 => Q 0 σ17)))) ∧ (x1 = (-1) → Q 0 σ)) : CM mX1_compare [.inr 40, .inl x1] σ Q := by
  refine CM_of_GO (by decide +kernel) rfl (Nat.le_of_ble_eq_true rfl) ?_
  show GO none mX1_compare 0 [some (.inr 40), some (.inl x1), none] [] σ Q
  refine g_iload_n dX1_compare_0 rfl rfl ?_
  refine g_iconst dX1_compare_1 (by decide) ?_
  refine g_icmp_ne (tgt := 6) dX1_compare_2 (by decide) (fun c1 => ?_) (fun c1 => ?_)
  · have h := h.1 c1
    refine g_aload_n dX1_compare_6 rfl rfl ?_
    refine g_getI flX1_21 (by decide) rfl (by decide) rfl dX1_compare_7 ?_
    refine g_iconst dX1_compare_10 (by decide) ?_
    refine g_icmp_eq (tgt := 22) dX1_compare_11 (by decide) (fun c2 => ?_) (fun c2 => ?_)
    · have h := h.1 c2
      refine g_iconst dX1_compare_22 (by decide) ?_
      refine g_goto (tgt := 27) dX1_compare_23 (by decide) ?_
      refine g_istore_n (ls' := [some (.inr 40), some (.inl x1), some (.inl 1)]) dX1_compare_27 rfl (by decide) rfl ?_
      refine g_iload_n dX1_compare_28 rfl rfl ?_
      refine g_if_ne (tgt := 61) dX1_compare_29 (by decide) (fun _ => ?_) (fun c9 => absurd c9 (by decide))
      refine g_aload_n dX1_compare_61 rfl rfl ?_
      refine g_iload_n dX1_compare_62 rfl rfl ?_
      refine g_putI fpX1_21 (by decide) rfl (by decide) rfl (Or.inl rfl) dX1_compare_63 ?_
      refine g_aload_n dX1_compare_66 rfl rfl ?_
      refine g_iconst dX1_compare_67 (by decide) ?_
      refine g_putI fpX1_25 (by decide) rfl (by decide) rfl (Or.inr ⟨rfl, (by decide)⟩) dX1_compare_68 ?_
      refine g_aload_n dX1_compare_71 rfl rfl ?_
      refine g_getR (r' := 44) flX1_18 (by decide) rfl (by decide) rfl dX1_compare_72 ?_
      refine g_aload_n dX1_compare_75 rfl rfl ?_
      refine g_getR (r' := 41) flX1_12 (by decide) rfl (by decide) rfl dX1_compare_76 ?_
      refine g_invVV (as := [.inr 41]) (rest := []) okX8_copy mlX1_37 (by decide) rfl ⟨_, _, rfl⟩ rfl ⟨Nat.le_of_ble_eq_true rfl, Nat.le_of_ble_eq_true rfl⟩ (Nat.le_of_ble_eq_true rfl) rfl dX1_compare_79 h rfl (fun σ4 e5 => ?_)
      have h := e5
      exact g_return rfl dX1_compare_82 h
    · have h := h.2 c2
      refine g_iload_n dX1_compare_14 rfl rfl ?_
      refine g_aload_n dX1_compare_15 rfl rfl ?_
      refine g_getI flX1_21 (by decide) rfl (by decide) rfl dX1_compare_16 ?_
      refine g_icmp_ge (tgt := 26) dX1_compare_19 (by decide) (fun c6 => ?_) (fun c6 => ?_)
      · have h := h.1 c6
        refine g_iconst dX1_compare_26 (by decide) ?_
        refine g_istore_n (ls' := [some (.inr 40), some (.inl x1), some (.inl 0)]) dX1_compare_27 rfl (by decide) rfl ?_
        refine g_iload_n dX1_compare_28 rfl rfl ?_
        refine g_if_ne (tgt := 61) dX1_compare_29 (by decide) (fun c9 => absurd c9 (by decide)) (fun _ => ?_)
        refine g_aload_n dX1_compare_32 rfl rfl ?_
        refine g_getI flX1_25 (by decide) rfl (by decide) rfl dX1_compare_33 ?_
        refine g_if_eq (tgt := 82) dX1_compare_36 (by decide) (fun c7 => ?_) (fun c7 => ?_)
        · have h := h.1 c7
          exact g_return rfl dX1_compare_82 h
        · have h := h.2 c7
          refine g_iload_n dX1_compare_39 rfl rfl ?_
          refine g_aload_n dX1_compare_40 rfl rfl ?_
          refine g_getI flX1_21 (by decide) rfl (by decide) rfl dX1_compare_41 ?_
          refine g_icmp_ne (tgt := 82) dX1_compare_44 (by decide) (fun c8 => ?_) (fun c8 => ?_)
          · have h := h.1 c8
            exact g_return rfl dX1_compare_82 h
          · have h := h.2 c8
            refine g_aload_n dX1_compare_47 rfl rfl ?_
            refine g_getR (r' := 41) flX1_12 (by decide) rfl (by decide) rfl dX1_compare_48 ?_
            refine g_aload_n dX1_compare_51 rfl rfl ?_
            refine g_getR (r' := 44) flX1_18 (by decide) rfl (by decide) rfl dX1_compare_52 ?_
            refine g_invVI (as := [.inr 44]) (rest := []) okX8_comesBefore mlX1_76 (by decide) rfl ⟨_, _, rfl⟩ rfl ⟨Nat.le_of_ble_eq_true rfl, Nat.le_of_ble_eq_true rfl⟩ (Nat.le_of_ble_eq_true rfl) rfl dX1_compare_55 h (Or.inr rfl) (fun v9 σ10 e11 => ?_)
            have h := e11
            refine g_if_eq (tgt := 82) dX1_compare_58 (by decide) (fun c12 => ?_) (fun c12 => ?_)
            · have h := h.1 c12
              exact g_return rfl dX1_compare_82 h
            · have h := h.2 c12
              refine g_aload_n dX1_compare_61 rfl rfl ?_
              refine g_iload_n dX1_compare_62 rfl rfl ?_
              refine g_putI fpX1_21 (by decide) rfl (by decide) rfl (Or.inl rfl) dX1_compare_63 ?_
              refine g_aload_n dX1_compare_66 rfl rfl ?_
              refine g_iconst dX1_compare_67 (by decide) ?_
              refine g_putI fpX1_25 (by decide) rfl (by decide) rfl (Or.inr ⟨rfl, (by decide)⟩) dX1_compare_68 ?_
              refine g_aload_n dX1_compare_71 rfl rfl ?_
              refine g_getR (r' := 44) flX1_18 (by decide) rfl (by decide) rfl dX1_compare_72 ?_
              refine g_aload_n dX1_compare_75 rfl rfl ?_
              refine g_getR (r' := 41) flX1_12 (by decide) rfl (by decide) rfl dX1_compare_76 ?_
              refine g_invVV (as := [.inr 41]) (rest := []) okX8_copy mlX1_37 (by decide) rfl ⟨_, _, rfl⟩ rfl ⟨Nat.le_of_ble_eq_true rfl, Nat.le_of_ble_eq_true rfl⟩ (Nat.le_of_ble_eq_true rfl) rfl dX1_compare_79 h rfl (fun σ14 e15 => ?_)
              have h := e15
              exact g_return rfl dX1_compare_82 h
      · have h := h.2 c6
        refine g_iconst dX1_compare_22 (by decide) ?_
        refine g_goto (tgt := 27) dX1_compare_23 (by decide) ?_
        refine g_istore_n (ls' := [some (.inr 40), some (.inl x1), some (.inl 1)]) dX1_compare_27 rfl (by decide) rfl ?_
        refine g_iload_n dX1_compare_28 rfl rfl ?_
        refine g_if_ne (tgt := 61) dX1_compare_29 (by decide) (fun _ => ?_) (fun c9 => absurd c9 (by decide))
        refine g_aload_n dX1_compare_61 rfl rfl ?_
        refine g_iload_n dX1_compare_62 rfl rfl ?_
        refine g_putI fpX1_21 (by decide) rfl (by decide) rfl (Or.inl rfl) dX1_compare_63 ?_
        refine g_aload_n dX1_compare_66 rfl rfl ?_
        refine g_iconst dX1_compare_67 (by decide) ?_
        refine g_putI fpX1_25 (by decide) rfl (by decide) rfl (Or.inr ⟨rfl, (by decide)⟩) dX1_compare_68 ?_
        refine g_aload_n dX1_compare_71 rfl rfl ?_
        refine g_getR (r' := 44) flX1_18 (by decide) rfl (by decide) rfl dX1_compare_72 ?_
        refine g_aload_n dX1_compare_75 rfl rfl ?_
        refine g_getR (r' := 41) flX1_12 (by decide) rfl (by decide) rfl dX1_compare_76 ?_
        refine g_invVV (as := [.inr 41]) (rest := []) okX8_copy mlX1_37 (by decide) rfl ⟨_, _, rfl⟩ rfl ⟨Nat.le_of_ble_eq_true rfl, Nat.le_of_ble_eq_true rfl⟩ (Nat.le_of_ble_eq_true rfl) rfl dX1_compare_79 h rfl (fun σ17 e18 => ?_)
        have h := e18
        exact g_return rfl dX1_compare_82 h
  · have h := h.2 c1
    exact g_return rfl dX1_compare_5 h
theorem c_X1_compare {m : Nat} {q : List Nat} {x1 : Int} {st : Int × Option (List Nat)} {σ : Mem} {c : List Nat → Int} (hp : hld σ 43 q) (hc : σ 41 1 = q.length) (hl : q.length = m) (h5 : m ≤ 5) (hs : clH m st σ) (ex : x1 = c q) : CM mX1_compare [.inr 40, .inl x1] σ (fun _ σ1 => clH m (cst c st q) σ1 ∧ Same [40, 44, 46] σ σ1) := by
  subst ex
  obtain ⟨e4, e5, e6⟩ := id hs
  have take : cst c st q = (c q, some q) → CM mX8_copy [.inr 44, .inr 41] (mu (mu σ 40 4 (c q)) 40 5 1) (fun _ σ4 => clH m (cst c st q) σ4 ∧ Same [40, 44, 46] σ σ4) := by
    intro he
    have hp2 : hld (mu (mu σ 40 4 (c q)) 40 5 1) (41 + 2) q := (hp.cong (mu_nef (by decide))).cong (mu_nef (by decide))
    refine CM.mono (fun v σ4 h => ?_) (c_X8_copy seats44 seats41 (by decide) hp2 (by rw [mu_nef (by decide), mu_nef (by decide)]; exact hc) (by omega))
    obtain ⟨q1, q2, q3⟩ := h
    refine ⟨?_, ((Same.mu (by decide)).tr (Same.mu (by decide))).tr (q3.wk (by decide))⟩
    rw [he]
    refine ⟨by rw [q3 40 (by decide), mu_atn (by decide), mu_at, if_pos rfl], by rw [q3 40 (by decide), mu_at, if_pos rfl]; simp, fun r hr => ?_⟩
    cases hr
    exact ⟨hl, by rw [q1, hl], q2⟩
  refine rX1_compare_0 ⟨fun hne => ⟨fun h => take ?_, fun h => ⟨fun h2 => ⟨fun h3 => ⟨?_, Same.rf⟩, fun h3 => ⟨fun h4 => ⟨?_, Same.rf⟩, fun h4 => ?_⟩⟩, fun h2 => take ?_⟩⟩, fun h => ⟨?_, Same.rf⟩⟩
  · unfold cst
    rw [if_neg hne, if_pos (Or.inl (by rw [← e4]; exact h))]
  · have e : cst c st q = st := by
      unfold cst
      rw [if_neg hne, if_neg (by omega)]
      cases h8 : st.2 with
      | none => rfl
      | some r => rw [h8] at e5; rw [e5] at h3; simp at h3
    rw [e]; exact hs
  · have e : cst c st q = st := by
      unfold cst
      rw [if_neg hne, if_neg (by omega)]
      cases h8 : st.2 with
      | none => rfl
      | some r => show (if c q = st.1 ∧ lexlt q r = true then (c q, some q) else st) = st; rw [if_neg (fun z => h4 (by rw [e4]; exact z.1))]
    rw [e]; exact hs
  · cases h8 : st.2 with
    | none => rw [h8] at e5; rw [e5] at h3; simp at h3
    | some r =>
      obtain ⟨r1, r2, r3⟩ := e6 r h8
      refine CM.mono (fun v σ10 h9 => ?_) (c_X8_comesBefore seats41 seats44 hp r3 hc (by omega) (by omega))
      obtain ⟨rfl, rfl⟩ := h9
      refine ⟨fun z => ⟨?_, Same.rf⟩, fun z => take ?_⟩
      · have e : cst c st q = st := by
          unfold cst
          rw [if_neg hne, if_neg (by omega), h8]
          show (if c q = st.1 ∧ lexlt q r = true then (c q, some q) else st) = st
          rw [if_neg (fun y => ite_no z y.2)]
        rw [e]; exact hs
      · unfold cst
        rw [if_neg hne, if_neg (by omega), h8]
        show (if c q = st.1 ∧ lexlt q r = true then (c q, some q) else st) = (c q, some q)
        rw [if_pos ⟨by rw [← e4]; exact h4, ite_yes z⟩]
  · unfold cst
    rw [if_neg hne, if_pos (Or.inr (by rw [← e4]; exact h2))]
  · unfold cst
    rw [if_pos h]
    exact hs
set_option maxRecDepth 100000 in
theorem rX1_tryChange_0 {x1 x2 x3 : Int}  {σ : Mem} {Q : Int → Mem → Prop} (h : ((0 ≤ x2) ∧ (((x2 < 5) ∧ ((((σ 41 1) ≤ 5) ∧ (((whoF (σ 43) x3 0 ((σ 41 1)).toNat) ≠ x2 → ((whoF (σ 43) x3 0 ((σ 41 1)).toNat) = (-1) → CM mX3_costOf [.inr 27, .inl x1, .inr 41] (mu σ 43 (x2).toNat x3) (fun v18 σ19 => CM mX1_compare [.inr 40, .inl v18] σ19 (fun _ σ22 => ((whoF (σ 43) x3 0 ((σ 41 1)).toNat) = (-1) → Q 0 (mu σ22 43 (x2).toNat (σ 43 (x2).toNat))) ∧ ((whoF (σ 43) x3 0 ((σ 41 1)).toNat) ≠ (-1) → ((0 ≤ (whoF (σ 43) x3 0 ((σ 41 1)).toNat)) ∧ ((((whoF (σ 43) x3 0 ((σ 41 1)).toNat) < 5) ∧ (Q 0 (mu (mu σ22 43 (x2).toNat (σ 43 (x2).toNat)) 43 ((whoF (σ 43) x3 0 ((σ 41 1)).toNat)).toNat x3))))))))) ∧ ((whoF (σ 43) x3 0 ((σ 41 1)).toNat) ≠ (-1) → ((0 ≤ (whoF (σ 43) x3 0 ((σ 41 1)).toNat)) ∧ ((((whoF (σ 43) x3 0 ((σ 41 1)).toNat) < 5) ∧ (CM mX3_costOf [.inr 27, .inl x1, .inr 41] (mu (mu σ 43 (x2).toNat x3) 43 ((whoF (σ 43) x3 0 ((σ 41 1)).toNat)).toNat (σ 43 (x2).toNat)) (fun v38 σ39 => CM mX1_compare [.inr 40, .inl v38] σ39 (fun _ σ42 => ((whoF (σ 43) x3 0 ((σ 41 1)).toNat) = (-1) → Q 0 (mu σ42 43 (x2).toNat (σ 43 (x2).toNat))) ∧ ((whoF (σ 43) x3 0 ((σ 41 1)).toNat) ≠ (-1) → Q 0 (mu (mu σ42 43 (x2).toNat (σ 43 (x2).toNat)) 43 ((whoF (σ 43) x3 0 ((σ 41 1)).toNat)).toNat x3)))))))))) ∧ ((whoF (σ 43) x3 0 ((σ 41 1)).toNat) = x2 → Q 0 σ)))))))) : CM mX1_tryChange [.inr 40, .inl x1, .inl x2, .inl x3] σ Q := by
  refine CM_of_GO (by decide +kernel) rfl (Nat.le_of_ble_eq_true rfl) ?_
  show GO none mX1_tryChange 0 [some (.inr 40), some (.inl x1), some (.inl x2), some (.inl x3), none, none] [] σ Q
  refine g_aload_n dX1_tryChange_0 rfl rfl ?_
  refine g_getR (r' := 41) flX1_12 (by decide) rfl (by decide) rfl dX1_tryChange_1 ?_
  refine g_iload_n dX1_tryChange_4 rfl rfl ?_
  obtain ⟨p1, h⟩ := h
  obtain ⟨p2, h⟩ := h
  refine g_invVI (as := [.inl x2]) (rest := []) okX8_at mlX1_60 (by decide) rfl ⟨_, _, rfl⟩ rfl ⟨Nat.le_of_ble_eq_true rfl, Nat.le_of_ble_eq_true rfl⟩ (Nat.le_of_ble_eq_true rfl) rfl dX1_tryChange_5 (c_X8_at ⟨by decide, rfl, rfl, rfl, by decide, by decide, rfl, rfl, rfl⟩ p1 p2) (Or.inl rfl) (fun v3 σ4 e5 => ?_)
  obtain ⟨e5a, e5b⟩ := e5; subst v3; subst σ4
  refine g_istore (ls' := [some (.inr 40), some (.inl x1), some (.inl x2), some (.inl x3), some (.inl (σ 43 (x2).toNat)), none]) dX1_tryChange_8 (by decide) rfl ?_
  refine g_aload_n dX1_tryChange_10 rfl rfl ?_
  refine g_getR (r' := 41) flX1_12 (by decide) rfl (by decide) rfl dX1_tryChange_11 ?_
  refine g_iload_n dX1_tryChange_14 rfl rfl ?_
  refine g_aload_n dX1_tryChange_15 rfl rfl ?_
  refine g_getR (r' := 41) flX1_12 (by decide) rfl (by decide) rfl dX1_tryChange_16 ?_
  refine g_invVI (as := []) (rest := [.inl x3, .inr 41]) okX8_shops mlX1_47 (by decide) rfl ⟨_, _, rfl⟩ rfl ⟨Nat.le_of_ble_eq_true rfl, Nat.le_of_ble_eq_true rfl⟩ (Nat.le_of_ble_eq_true rfl) rfl dX1_tryChange_19 (c_X8_shops ⟨by decide, rfl, rfl, rfl, by decide, by decide, rfl, rfl, rfl⟩) (Or.inl rfl) (fun v6 σ7 e8 => ?_)
  obtain ⟨e8a, e8b⟩ := e8; subst v6; subst σ7
  obtain ⟨p9, h⟩ := h
  refine g_invVI (as := [.inl x3, .inl (σ 41 1)]) (rest := []) okX8_whoIsAt mlX1_64 (by decide) rfl ⟨_, _, rfl⟩ rfl ⟨Nat.le_of_ble_eq_true rfl, Nat.le_of_ble_eq_true rfl⟩ (Nat.le_of_ble_eq_true rfl) rfl dX1_tryChange_22 (c_X8_whoIsAt ⟨by decide, rfl, rfl, rfl, by decide, by decide, rfl, rfl, rfl⟩ p9) (Or.inl rfl) (fun v10 σ11 e12 => ?_)
  obtain ⟨e12a, e12b⟩ := e12; subst v10; subst σ11
  refine g_istore (ls' := [some (.inr 40), some (.inl x1), some (.inl x2), some (.inl x3), some (.inl (σ 43 (x2).toNat)), some (.inl (whoF (σ 43) x3 0 ((σ 41 1)).toNat))]) dX1_tryChange_25 (by decide) rfl ?_
  refine g_iload dX1_tryChange_27 rfl ?_
  refine g_iload_n dX1_tryChange_29 rfl rfl ?_
  refine g_icmp_ne (tgt := 34) dX1_tryChange_30 (by decide) (fun c13 => ?_) (fun c13 => ?_)
  · have h := h.1 c13
    refine g_aload_n dX1_tryChange_34 rfl rfl ?_
    refine g_getR (r' := 41) flX1_12 (by decide) rfl (by decide) rfl dX1_tryChange_35 ?_
    refine g_iload_n dX1_tryChange_38 rfl rfl ?_
    refine g_iload_n dX1_tryChange_39 rfl rfl ?_
    refine g_invVV (as := [.inl x2, .inl x3]) (rest := []) okX8_seat mlX1_68 (by decide) rfl ⟨_, _, rfl⟩ rfl ⟨Nat.le_of_ble_eq_true rfl, Nat.le_of_ble_eq_true rfl⟩ (Nat.le_of_ble_eq_true rfl) rfl dX1_tryChange_40 (c_X8_seat ⟨by decide, rfl, rfl, rfl, by decide, by decide, rfl, rfl, rfl⟩ p1 p2) rfl (fun σ15 e16 => ?_)
    subst σ15
    refine g_iload dX1_tryChange_43 rfl ?_
    refine g_iconst dX1_tryChange_45 (by decide) ?_
    refine g_icmp_eq (tgt := 60) dX1_tryChange_46 (by decide) (fun c17 => ?_) (fun c17 => ?_)
    · have h := h.1 c17
      refine g_aload_n dX1_tryChange_60 rfl rfl ?_
      refine g_aload_n dX1_tryChange_61 rfl rfl ?_
      refine g_getR (r' := 27) flX1_33 (by decide) rfl (by decide) rfl dX1_tryChange_62 ?_
      refine g_iload_n dX1_tryChange_65 rfl rfl ?_
      refine g_aload_n dX1_tryChange_66 rfl rfl ?_
      refine g_getR (r' := 41) flX1_12 (by decide) rfl (by decide) rfl dX1_tryChange_67 ?_
      refine g_invVI (as := [.inl x1, .inr 41]) (rest := [.inr 40]) okX3_costOf mlX1_41 (by decide) rfl ⟨_, _, rfl⟩ rfl ⟨Nat.le_of_ble_eq_true rfl, Nat.le_of_ble_eq_true rfl⟩ (Nat.le_of_ble_eq_true rfl) rfl dX1_tryChange_70 h (Or.inl rfl) (fun v18 σ19 e20 => ?_)
      have h := e20
      refine g_invVV (as := [.inl v18]) (rest := []) okX1_compare mlX1_72 (by decide) rfl ⟨_, _, rfl⟩ rfl ⟨Nat.le_of_ble_eq_true rfl, Nat.le_of_ble_eq_true rfl⟩ (Nat.le_of_ble_eq_true rfl) rfl dX1_tryChange_73 h rfl (fun σ22 e23 => ?_)
      have h := e23
      refine g_aload_n dX1_tryChange_76 rfl rfl ?_
      refine g_getR (r' := 41) flX1_12 (by decide) rfl (by decide) rfl dX1_tryChange_77 ?_
      refine g_iload_n dX1_tryChange_80 rfl rfl ?_
      refine g_iload dX1_tryChange_81 rfl ?_
      refine g_invVV (as := [.inl x2, .inl (σ 43 (x2).toNat)]) (rest := []) okX8_seat mlX1_68 (by decide) rfl ⟨_, _, rfl⟩ rfl ⟨Nat.le_of_ble_eq_true rfl, Nat.le_of_ble_eq_true rfl⟩ (Nat.le_of_ble_eq_true rfl) rfl dX1_tryChange_83 (c_X8_seat ⟨by decide, rfl, rfl, rfl, by decide, by decide, rfl, rfl, rfl⟩ p1 p2) rfl (fun σ25 e26 => ?_)
      subst σ25
      refine g_iload dX1_tryChange_86 rfl ?_
      refine g_iconst dX1_tryChange_88 (by decide) ?_
      refine g_icmp_eq (tgt := 102) dX1_tryChange_89 (by decide) (fun c27 => ?_) (fun c27 => ?_)
      · have h := h.1 c27
        exact g_return rfl dX1_tryChange_102 h
      · have h := h.2 c27
        refine g_aload_n dX1_tryChange_92 rfl rfl ?_
        refine g_getR (r' := 41) flX1_12 (by decide) rfl (by decide) rfl dX1_tryChange_93 ?_
        refine g_iload dX1_tryChange_96 rfl ?_
        refine g_iload_n dX1_tryChange_98 rfl rfl ?_
        obtain ⟨p28, h⟩ := h
        obtain ⟨p29, h⟩ := h
        refine g_invVV (as := [.inl (whoF (σ 43) x3 0 ((σ 41 1)).toNat), .inl x3]) (rest := []) okX8_seat mlX1_68 (by decide) rfl ⟨_, _, rfl⟩ rfl ⟨Nat.le_of_ble_eq_true rfl, Nat.le_of_ble_eq_true rfl⟩ (Nat.le_of_ble_eq_true rfl) rfl dX1_tryChange_99 (c_X8_seat ⟨by decide, rfl, rfl, rfl, by decide, by decide, rfl, rfl, rfl⟩ p28 p29) rfl (fun σ31 e32 => ?_)
        subst σ31
        exact g_return rfl dX1_tryChange_102 h
    · have h := h.2 c17
      refine g_aload_n dX1_tryChange_49 rfl rfl ?_
      refine g_getR (r' := 41) flX1_12 (by decide) rfl (by decide) rfl dX1_tryChange_50 ?_
      refine g_iload dX1_tryChange_53 rfl ?_
      refine g_iload dX1_tryChange_55 rfl ?_
      obtain ⟨p33, h⟩ := h
      obtain ⟨p34, h⟩ := h
      refine g_invVV (as := [.inl (whoF (σ 43) x3 0 ((σ 41 1)).toNat), .inl (σ 43 (x2).toNat)]) (rest := []) okX8_seat mlX1_68 (by decide) rfl ⟨_, _, rfl⟩ rfl ⟨Nat.le_of_ble_eq_true rfl, Nat.le_of_ble_eq_true rfl⟩ (Nat.le_of_ble_eq_true rfl) rfl dX1_tryChange_57 (c_X8_seat ⟨by decide, rfl, rfl, rfl, by decide, by decide, rfl, rfl, rfl⟩ p33 p34) rfl (fun σ36 e37 => ?_)
      subst σ36
      refine g_aload_n dX1_tryChange_60 rfl rfl ?_
      refine g_aload_n dX1_tryChange_61 rfl rfl ?_
      refine g_getR (r' := 27) flX1_33 (by decide) rfl (by decide) rfl dX1_tryChange_62 ?_
      refine g_iload_n dX1_tryChange_65 rfl rfl ?_
      refine g_aload_n dX1_tryChange_66 rfl rfl ?_
      refine g_getR (r' := 41) flX1_12 (by decide) rfl (by decide) rfl dX1_tryChange_67 ?_
      refine g_invVI (as := [.inl x1, .inr 41]) (rest := [.inr 40]) okX3_costOf mlX1_41 (by decide) rfl ⟨_, _, rfl⟩ rfl ⟨Nat.le_of_ble_eq_true rfl, Nat.le_of_ble_eq_true rfl⟩ (Nat.le_of_ble_eq_true rfl) rfl dX1_tryChange_70 h (Or.inl rfl) (fun v38 σ39 e40 => ?_)
      have h := e40
      refine g_invVV (as := [.inl v38]) (rest := []) okX1_compare mlX1_72 (by decide) rfl ⟨_, _, rfl⟩ rfl ⟨Nat.le_of_ble_eq_true rfl, Nat.le_of_ble_eq_true rfl⟩ (Nat.le_of_ble_eq_true rfl) rfl dX1_tryChange_73 h rfl (fun σ42 e43 => ?_)
      have h := e43
      refine g_aload_n dX1_tryChange_76 rfl rfl ?_
      refine g_getR (r' := 41) flX1_12 (by decide) rfl (by decide) rfl dX1_tryChange_77 ?_
      refine g_iload_n dX1_tryChange_80 rfl rfl ?_
      refine g_iload dX1_tryChange_81 rfl ?_
      refine g_invVV (as := [.inl x2, .inl (σ 43 (x2).toNat)]) (rest := []) okX8_seat mlX1_68 (by decide) rfl ⟨_, _, rfl⟩ rfl ⟨Nat.le_of_ble_eq_true rfl, Nat.le_of_ble_eq_true rfl⟩ (Nat.le_of_ble_eq_true rfl) rfl dX1_tryChange_83 (c_X8_seat ⟨by decide, rfl, rfl, rfl, by decide, by decide, rfl, rfl, rfl⟩ p1 p2) rfl (fun σ45 e46 => ?_)
      subst σ45
      refine g_iload dX1_tryChange_86 rfl ?_
      refine g_iconst dX1_tryChange_88 (by decide) ?_
      refine g_icmp_eq (tgt := 102) dX1_tryChange_89 (by decide) (fun c47 => ?_) (fun c47 => ?_)
      · have h := h.1 c47
        exact g_return rfl dX1_tryChange_102 h
      · have h := h.2 c47
        refine g_aload_n dX1_tryChange_92 rfl rfl ?_
        refine g_getR (r' := 41) flX1_12 (by decide) rfl (by decide) rfl dX1_tryChange_93 ?_
        refine g_iload dX1_tryChange_96 rfl ?_
        refine g_iload_n dX1_tryChange_98 rfl rfl ?_
        refine g_invVV (as := [.inl (whoF (σ 43) x3 0 ((σ 41 1)).toNat), .inl x3]) (rest := []) okX8_seat mlX1_68 (by decide) rfl ⟨_, _, rfl⟩ rfl ⟨Nat.le_of_ble_eq_true rfl, Nat.le_of_ble_eq_true rfl⟩ (Nat.le_of_ble_eq_true rfl) rfl dX1_tryChange_99 (c_X8_seat ⟨by decide, rfl, rfl, rfl, by decide, by decide, rfl, rfl, rfl⟩ p33 p34) rfl (fun σ49 e50 => ?_)
        subst σ49
        exact g_return rfl dX1_tryChange_102 h
  · have h := h.2 c13
    exact g_return rfl dX1_tryChange_33 h
theorem whoF_idx {σ : Mem} {a : Nat} {p : List Nat} (h : hld σ a p) (hn : p.Nodup) {s : Nat} (hs : s ∈ p) : whoF (σ a) (s : Int) 0 p.length = (p.idxOf s : Int) := by
  rcases whoF_spec (σ a) (s : Int) p.length 0 with ⟨h1, -⟩ | ⟨j, h1, -, h3, h4, -⟩
  · exact absurd hs ((whoF_mem h s).mp h1)
  · have hj : j < p.length := by omega
    have e := (h j hj).symm.trans h4
    have e2 : p[j] = s := by omega
    rw [h1, ← e2, hn.idxOf_getElem j hj]
theorem c_X1_tryChange {D : Dt} {y a s : Nat} {x1 x2 x3 : Int} {p : List Nat} {st : Int × Option (List Nat)} {σ : Mem} (hw : WF D) (hD : CD D σ) (hp : hld σ 43 p) (hc : σ 41 1 = p.length) (hl : p.length = dm D) (hok : okP (dn D) p) (ha : a < dm D) (hsn : s < dn D) (hst : clH (dm D) st σ) (hy : y < 4) (e1 : x1 = y) (e2 : x2 = a) (e3 : x3 = s) : CM mX1_tryChange [.inr 40, .inl x1, .inl x2, .inl x3] σ (fun _ σ1 => clH (dm D) (cstO (cost D y) st (chg p a s)) σ1 ∧ hld σ1 43 p ∧ Same [40, 43, 44, 46] σ σ1) := by
  subst e1 e2 e3
  have hm := hw.2.1
  have hap : a < p.length := by omega
  have epa := hp.pg hap
  refine rX1_tryChange_0 ⟨by omega, by omega, by omega, ?_⟩
  rw [hc, Int.toNat_natCast, Int.toNat_natCast, epa]
  by_cases hs : s ∈ p
  · have hj : p.idxOf s < p.length := List.idxOf_lt_length_of_mem hs
    have ej : p[p.idxOf s] = s := List.getElem_idxOf hj
    rw [whoF_idx hp hok.2 hs, Int.toNat_natCast]
    refine ⟨fun hne => ⟨fun h => by omega, fun _ => ⟨by omega, by omega, ?_⟩⟩, fun he => ⟨?_, hp, Same.rf⟩⟩
    · have hne2 : p.idxOf s ≠ a := fun q => hne (by rw [q])
      have hps : pg p a ≠ s := fun q => hne2 (by rw [← q, pg_eq hap, hok.2.idxOf_getElem a hap])
      have ech : chg p a s = some ((p.set a s).set (p.idxOf s) (pg p a)) := by
        unfold chg
        rw [if_pos hs, if_neg hps]
      have hck := chg_ok hok hap hsn ech
      have hq : hld (mu (mu σ 43 a s) 43 (p.idxOf s) (pg p a)) 43 ((p.set a s).set (p.idxOf s) (pg p a)) := (hp.set hap s).set (by rw [List.length_set]; exact hj) _
      have hD2 : CD D (mu (mu σ 43 a s) 43 (p.idxOf s) (pg p a)) := hD.same (S := [43]) ((Same.mu (by simp)).tr (Same.mu (by simp))) (by decide)
      refine CM.mono (fun v σ39 h => ?_) (c_X3_costOf (k := 41) hw hD2 seats41 hq (by rw [mu_nef (by decide), mu_nef (by decide), hc, hck.1]) (by rw [hck.1, hl]) hck.2 hy rfl)
      obtain ⟨rfl, rfl⟩ := h
      refine CM.mono (fun v σ42 h => ?_) (c_X1_compare (c := cost D y) (m := dm D) hq (by rw [mu_nef (by decide), mu_nef (by decide), hc, hck.1]) (by rw [hck.1, hl]) hm (hst.same (S := [43]) ((Same.mu (by simp)).tr (Same.mu (by simp))) (by decide) (by decide) (by decide)) rfl)
      obtain ⟨h1, h2⟩ := h
      refine ⟨fun h => by omega, fun _ => ?_⟩
      have h43 : σ42 43 = mu (mu σ 43 a s) 43 (p.idxOf s) (pg p a) 43 := h2 43 (by decide)
      refine ⟨?_, ?_, (((((Same.mu (by decide)).tr (Same.mu (by decide))).tr (h2.wk (by decide))).tr (Same.mu (by decide))).tr (Same.mu (by decide)))⟩
      · rw [ech]
        exact h1.same (S := [43]) ((Same.mu (by simp)).tr (Same.mu (by simp))) (by decide) (by decide) (by decide)
      · intro i hi
        rw [mu_at, mu_at, h43, mu_at, mu_at]
        by_cases q1 : i = p.idxOf s
        · subst q1
          rw [if_pos rfl]
          omega
        · rw [if_neg q1]
          by_cases q2 : i = a
          · subst q2
            rw [if_pos rfl, pg_eq hap]
          · rw [if_neg q2, if_neg q1, if_neg q2]
            exact hp i hi
    · have hps : pg p a = s := by
        have : p.idxOf s = a := by omega
        subst this
        rw [pg_eq hj, ej]
      have ech : chg p a s = none := by
        unfold chg
        rw [if_pos hs, if_pos hps]
      rw [ech]
      exact hst
  · rw [(whoF_mem hp s).mpr hs]
    have ech : chg p a s = some (p.set a s) := by
      unfold chg
      rw [if_neg hs]
    have hck := chg_ok hok hap hsn ech
    refine ⟨fun hne => ⟨fun _ => ?_, fun h => absurd rfl h⟩, fun he => by omega⟩
    have hq : hld (mu σ 43 a s) 43 (p.set a s) := hp.set hap s
    have hD2 : CD D (mu σ 43 a s) := hD.same (S := [43]) (Same.mu (by simp)) (by decide)
    refine CM.mono (fun v σ39 h => ?_) (c_X3_costOf (k := 41) hw hD2 seats41 hq (by rw [mu_nef (by decide), hc, hck.1]) (by rw [hck.1, hl]) hck.2 hy rfl)
    obtain ⟨rfl, rfl⟩ := h
    refine CM.mono (fun v σ42 h => ?_) (c_X1_compare (c := cost D y) (m := dm D) hq (by rw [mu_nef (by decide), hc, hck.1]) (by rw [hck.1, hl]) hm (hst.same (S := [43]) (Same.mu (by simp)) (by decide) (by decide) (by decide)) rfl)
    obtain ⟨h1, h2⟩ := h
    refine ⟨fun _ => ?_, fun h => absurd rfl h⟩
    have h43 : σ42 43 = mu σ 43 a s 43 := h2 43 (by decide)
    refine ⟨?_, ?_, (((Same.mu (by decide)).tr (h2.wk (by decide))).tr (Same.mu (by decide)))⟩
    · rw [ech]
      exact h1.same (S := [43]) (Same.mu (by simp)) (by decide) (by decide) (by decide)
    · intro i hi
      rw [mu_at, h43, mu_at]
      by_cases q2 : i = a
      · subst q2
        rw [if_pos rfl, pg_eq hap]
      · rw [if_neg q2, if_neg q2]
        exact hp i hi
set_option maxRecDepth 100000 in
theorem rX1_search_0 {x1 : Int} {k2 : Nat} (hk2 : isSeats k2) {σ : Mem} {Q : Int → Mem → Prop} (h : CM mX8_copy [.inr 41, .inr k2] σ (fun _ σ2 => CM mX3_costOf [.inr 27, .inl x1, .inr 41] σ2 (fun v4 σ5 => GO none mX1_search 31 [some (.inr 40), some (.inl x1), some (.inr k2), some (.inl 0), none] [] (mu (mu σ5 40 4 v4) 40 5 0) Q))) : CM mX1_search [.inr 40, .inl x1, .inr k2] σ Q := by
  refine CM_of_GO (by decide +kernel) rfl (Nat.le_of_ble_eq_true rfl) ?_
  show GO none mX1_search 0 [some (.inr 40), some (.inl x1), some (.inr k2), none, none] [] σ Q
  refine g_aload_n dX1_search_0 rfl rfl ?_
  refine g_getR (r' := 41) flX1_12 (by decide) rfl (by decide) rfl dX1_search_1 ?_
  refine g_aload_n dX1_search_4 rfl rfl ?_
  refine g_invVV (as := [.inr k2]) (rest := []) okX8_copy mlX1_37 (by decide) rfl ⟨_, _, rfl⟩ rfl ⟨Nat.le_of_ble_eq_true rfl, Nat.le_of_ble_eq_true rfl⟩ (Nat.le_of_ble_eq_true rfl) rfl dX1_search_5 h rfl (fun σ2 e3 => ?_)
  have h := e3
  refine g_aload_n dX1_search_8 rfl rfl ?_
  refine g_aload_n dX1_search_9 rfl rfl ?_
  refine g_getR (r' := 27) flX1_33 (by decide) rfl (by decide) rfl dX1_search_10 ?_
  refine g_iload_n dX1_search_13 rfl rfl ?_
  refine g_aload_n dX1_search_14 rfl rfl ?_
  refine g_getR (r' := 41) flX1_12 (by decide) rfl (by decide) rfl dX1_search_15 ?_
  refine g_invVI (as := [.inl x1, .inr 41]) (rest := [.inr 40]) okX3_costOf mlX1_41 (by decide) rfl ⟨_, _, rfl⟩ rfl ⟨Nat.le_of_ble_eq_true rfl, Nat.le_of_ble_eq_true rfl⟩ (Nat.le_of_ble_eq_true rfl) rfl dX1_search_18 h (Or.inl rfl) (fun v4 σ5 e6 => ?_)
  have h := e6
  refine g_putI fpX1_21 (by decide) rfl (by decide) rfl (Or.inl rfl) dX1_search_21 ?_
  refine g_aload_n dX1_search_24 rfl rfl ?_
  refine g_iconst dX1_search_25 (by decide) ?_
  refine g_putI fpX1_25 (by decide) rfl (by decide) rfl (Or.inr ⟨rfl, (by decide)⟩) dX1_search_26 ?_
  refine g_iconst dX1_search_29 (by decide) ?_
  refine g_istore_n (ls' := [some (.inr 40), some (.inl x1), some (.inr k2), some (.inl 0), none]) dX1_search_30 rfl (by decide) rfl ?_
  exact h
set_option maxRecDepth 100000 in
theorem rX1_search_31 {x1 x3 : Int} {k2 : Nat} (hk2 : isSeats k2) {σ : Mem} {Q : Int → Mem → Prop} (h : ((σ 41 1) ≤ x3 → (((σ 40 5) = 0 ∨ (σ 40 5) = 1) ∧ (Q (σ 40 5) σ))) ∧ (x3 < (σ 41 1) → GO none mX1_search 45 [some (.inr 40), some (.inl x1), some (.inr k2), some (.inl x3), some (.inl 0)] [] σ Q)) : GO none mX1_search 31 [some (.inr 40), some (.inl x1), some (.inr k2), some (.inl x3), none] [] σ Q := by
  refine g_iload_n dX1_search_31 rfl rfl ?_
  refine g_aload_n dX1_search_32 rfl rfl ?_
  refine g_getR (r' := 41) flX1_12 (by decide) rfl (by decide) rfl dX1_search_33 ?_
  refine g_invVI (as := []) (rest := [.inl x3]) okX8_shops mlX1_47 (by decide) rfl ⟨_, _, rfl⟩ rfl ⟨Nat.le_of_ble_eq_true rfl, Nat.le_of_ble_eq_true rfl⟩ (Nat.le_of_ble_eq_true rfl) rfl dX1_search_36 (c_X8_shops ⟨by decide, rfl, rfl, rfl, by decide, by decide, rfl, rfl, rfl⟩) (Or.inl rfl) (fun v1 σ2 e3 => ?_)
  obtain ⟨e3a, e3b⟩ := e3; subst v1; subst σ2
  refine g_icmp_ge (tgt := 77) dX1_search_39 (by decide) (fun c4 => ?_) (fun c4 => ?_)
  · have h := h.1 c4
    refine g_aload_n dX1_search_77 rfl rfl ?_
    refine g_getI flX1_25 (by decide) rfl (by decide) rfl dX1_search_78 ?_
    obtain ⟨p5, h⟩ := h
    exact g_zreturn rfl dX1_search_81 p5 h
  · have h := h.2 c4
    refine g_iconst dX1_search_42 (by decide) ?_
    refine g_istore (ls' := [some (.inr 40), some (.inl x1), some (.inr k2), some (.inl x3), some (.inl 0)]) dX1_search_43 (by decide) rfl ?_
    exact h
set_option maxRecDepth 100000 in
theorem rX1_search_45 {x1 x3 x4 : Int} {k2 : Nat} (hk2 : isSeats k2) {σ : Mem} {Q : Int → Mem → Prop} (h : ((σ 1 7) ≤ x4 → ((inR (x3 + 1)) ∧ (GO none mX1_search 31 [some (.inr 40), some (.inl x1), some (.inr k2), some (.inl (x3 + 1)), none] [] σ Q))) ∧ (x4 < (σ 1 7) → CM mX1_tryChange [.inr 40, .inl x1, .inl x3, .inl x4] σ (fun _ σ7 => ((inR (x4 + 1)) ∧ (GO none mX1_search 45 [some (.inr 40), some (.inl x1), some (.inr k2), some (.inl x3), some (.inl (x4 + 1))] [] σ7 Q))))) : GO none mX1_search 45 [some (.inr 40), some (.inl x1), some (.inr k2), some (.inl x3), some (.inl x4)] [] σ Q := by
  refine g_iload dX1_search_45 rfl ?_
  refine g_aload_n dX1_search_47 rfl rfl ?_
  refine g_getR (r' := 1) flX1_29 (by decide) rfl (by decide) rfl dX1_search_48 ?_
  refine g_invVI (as := []) (rest := [.inl x4]) okX2_slots mlX1_51 (by decide) rfl ⟨_, _, rfl⟩ rfl ⟨Nat.le_of_ble_eq_true rfl, Nat.le_of_ble_eq_true rfl⟩ (Nat.le_of_ble_eq_true rfl) rfl dX1_search_51 (c_X2_slots) (Or.inl rfl) (fun v1 σ2 e3 => ?_)
  obtain ⟨e3a, e3b⟩ := e3; subst v1; subst σ2
  refine g_icmp_ge (tgt := 71) dX1_search_54 (by decide) (fun c4 => ?_) (fun c4 => ?_)
  · have h := h.1 c4
    obtain ⟨p5, h⟩ := h
    refine g_iinc (ls' := [some (.inr 40), some (.inl x1), some (.inr k2), some (.inl (x3 + 1)), some (.inl x4)]) dX1_search_71 (by decide) rfl p5 rfl ?_
    refine g_goto (tgt := 31) dX1_search_74 (by decide) ?_
    refine g_kill (i := 4) (ls' := [some (.inr 40), some (.inl x1), some (.inr k2), some (.inl (x3 + 1)), none]) rfl ?_
    exact h
  · have h := h.2 c4
    refine g_aload_n dX1_search_57 rfl rfl ?_
    refine g_iload_n dX1_search_58 rfl rfl ?_
    refine g_iload_n dX1_search_59 rfl rfl ?_
    refine g_iload dX1_search_60 rfl ?_
    refine g_invVV (as := [.inl x1, .inl x3, .inl x4]) (rest := []) okX1_tryChange mlX1_56 (by decide) rfl ⟨_, _, rfl⟩ rfl ⟨Nat.le_of_ble_eq_true rfl, Nat.le_of_ble_eq_true rfl⟩ (Nat.le_of_ble_eq_true rfl) rfl dX1_search_62 h rfl (fun σ7 e8 => ?_)
    have h := e8
    obtain ⟨p9, h⟩ := h
    refine g_iinc (ls' := [some (.inr 40), some (.inl x1), some (.inr k2), some (.inl x3), some (.inl (x4 + 1))]) dX1_search_65 (by decide) rfl p9 rfl ?_
    refine g_goto (tgt := 45) dX1_search_68 (by decide) ?_
    exact h
theorem c_X1_search {D : Dt} {k y : Nat} {x1 : Int} {p : List Nat} {σ : Mem} (hw : WF D) (hD : CD D σ) (hk : isSeats k) (hk41 : k ≠ 41) (hp : hld σ (k + 2) p) (hc : σ k 1 = p.length) (hl : p.length = dm D) (hok : okP (dn D) p) (hy : y < 4) (e1 : x1 = y) : CM mX1_search [.inr 40, .inl x1, .inr k] σ (fun v σ1 => v = (if (fcS (cost D y) (dn D) p).2 = none then 0 else 1) ∧ clH (dm D) (fcS (cost D y) (dn D) p) σ1 ∧ Same [40, 41, 43, 44, 46] σ σ1) := by
  subst e1
  have hm := hw.2.1
  have hn := hw.1
  refine rX1_search_0 hk (CM.mono (fun v σ2 h => ?_) (c_X8_copy seats41 hk (Ne.symm hk41) hp hc (by omega)))
  obtain ⟨q1, q2, q3⟩ := h
  have hD2 := hD.same q3 (by decide)
  refine CM.mono (fun v σ5 h => ?_) (c_X3_costOf (k := 41) hw hD2 seats41 q2 q1 hl hok.1 hy rfl)
  obtain ⟨rfl, rfl⟩ := h
  have outer : ∀ (d a : Nat) (st : Int × Option (List Nat)) (σ0 : Mem), a + d = dm D → CD D σ0 → hld σ0 43 p → σ0 41 1 = p.length → clH (dm D) st σ0 → Same [40, 41, 43, 44, 46] σ σ0 → GO none mX1_search 31 [some (.inr 40), some (.inl (y : Int)), some (.inr k), some (.inl (a : Int)), none] [] σ0 (fun v σ1 => v = (if (chB (cost D y) p (dn D) a d st).2 = none then 0 else 1) ∧ clH (dm D) (chB (cost D y) p (dn D) a d st) σ1 ∧ Same [40, 41, 43, 44, 46] σ σ1) := by
    intro d
    induction d with
    | zero =>
      intro a st σ0 hd h1 h2 h3 h4 hS
      refine rX1_search_31 hk ⟨fun _ => ⟨?_, h4.2.1, h4, hS⟩, fun h => by omega⟩
      rw [h4.2.1]
      split
      · exact Or.inl rfl
      · exact Or.inr rfl
    | succ d ih =>
      intro a st σ0 hd h1 h2 h3 h4 hS
      refine rX1_search_31 hk ⟨fun h => by omega, fun _ => ?_⟩
      have inner : ∀ (e s : Nat) (st2 : Int × Option (List Nat)) (σ3 : Mem), s + e = dn D → CD D σ3 → hld σ3 43 p → σ3 41 1 = p.length → clH (dm D) st2 σ3 → Same [40, 41, 43, 44, 46] σ σ3 → GO none mX1_search 45 [some (.inr 40), some (.inl (y : Int)), some (.inr k), some (.inl (a : Int)), some (.inl (s : Int))] [] σ3 (fun v σ1 => v = (if (chB (cost D y) p (dn D) (a + 1) d (chA (cost D y) p a s e st2)).2 = none then 0 else 1) ∧ clH (dm D) (chB (cost D y) p (dn D) (a + 1) d (chA (cost D y) p a s e st2)) σ1 ∧ Same [40, 41, 43, 44, 46] σ σ1) := by
        intro e
        induction e with
        | zero =>
          intro s st2 σ3 hd2 g1 g2 g3 g4 gS
          exact rX1_search_45 hk ⟨fun _ => ⟨by omega, ih (a + 1) st2 σ3 (by omega) g1 g2 g3 g4 gS⟩, fun h => by rw [g1.1] at h; omega⟩
        | succ e ih2 =>
          intro s st2 σ3 hd2 g1 g2 g3 g4 gS
          refine rX1_search_45 hk ⟨fun h => by rw [g1.1] at h; omega, fun _ => ?_⟩
          refine CM.mono (fun v σ7 h => ?_) (c_X1_tryChange (a := a) (s := s) hw g1 g2 g3 hl hok (by omega) (by omega) g4 hy rfl rfl rfl)
          obtain ⟨r1, r2, r3⟩ := h
          exact ⟨by omega, ih2 (s + 1) _ σ7 (by omega) (g1.same r3 (by decide)) r2 (by rw [r3 41 (by decide)]; exact g3) r1 (gS.tr (r3.wk (by decide)))⟩
      exact inner (dn D) 0 st σ0 (by omega) h1 h2 h3 h4 hS
  have hS2 : Same [40, 41, 43, 44, 46] σ (mu (mu σ5 40 4 (cost D y p)) 40 5 0) := ((q3.wk (by decide)).tr (Same.mu (by decide))).tr (Same.mu (by decide))
  have := outer (dm D) 0 (cost D y p, none) (mu (mu σ5 40 4 (cost D y p)) 40 5 0) (by omega) (hD.same hS2 (by decide)) ((q2.cong (mu_nef (by decide))).cong (mu_nef (by decide))) (by rw [mu_nef (by decide), mu_nef (by decide)]; exact q1) ⟨by rw [mu_atn (by decide), mu_at, if_pos rfl], by rw [mu_at, if_pos rfl]; simp, fun r hr => by cases hr⟩ hS2
  unfold fcS
  rw [hl]
  exact this
end
