theorem dX0_init_0 : decode cX0_init 0 = .ok (.aload_n 0, 1) := by decide +kernel
theorem dX0_init_1 : decode cX0_init 1 = .ok (.invokespecial 3, 3) := by decide +kernel
theorem dX0_init_4 : decode cX0_init 4 = .ok (.aload_n 0, 1) := by decide +kernel
theorem dX0_init_5 : decode cX0_init 5 = .ok (.new 9, 3) := by decide +kernel
theorem dX0_init_8 : decode cX0_init 8 = .ok (.dup, 1) := by decide +kernel
theorem dX0_init_9 : decode cX0_init 9 = .ok (.invokespecial 11, 3) := by decide +kernel
theorem dX0_init_12 : decode cX0_init 12 = .ok (.putfield 12, 3) := by decide +kernel
theorem dX0_init_15 : decode cX0_init 15 = .ok (.aload_n 0, 1) := by decide +kernel
theorem dX0_init_16 : decode cX0_init 16 = .ok (.new 9, 3) := by decide +kernel
theorem dX0_init_19 : decode cX0_init 19 = .ok (.dup, 1) := by decide +kernel
theorem dX0_init_20 : decode cX0_init 20 = .ok (.invokespecial 11, 3) := by decide +kernel
theorem dX0_init_23 : decode cX0_init 23 = .ok (.putfield 18, 3) := by decide +kernel
theorem dX0_init_26 : decode cX0_init 26 = .ok (.aload_n 0, 1) := by decide +kernel
theorem dX0_init_27 : decode cX0_init 27 = .ok (.iconst (-1), 1) := by decide +kernel
theorem dX0_init_28 : decode cX0_init 28 = .ok (.putfield 21, 3) := by decide +kernel
theorem dX0_init_31 : decode cX0_init 31 = .ok (.aload_n 0, 1) := by decide +kernel
theorem dX0_init_32 : decode cX0_init 32 = .ok (.iconst 0, 1) := by decide +kernel
theorem dX0_init_33 : decode cX0_init 33 = .ok (.putfield 25, 3) := by decide +kernel
theorem dX0_init_36 : decode cX0_init 36 = .ok (.aload_n 0, 1) := by decide +kernel
theorem dX0_init_37 : decode cX0_init 37 = .ok (.aload_n 1, 1) := by decide +kernel
theorem dX0_init_38 : decode cX0_init 38 = .ok (.putfield 28, 3) := by decide +kernel
theorem dX0_init_41 : decode cX0_init 41 = .ok (.aload_n 0, 1) := by decide +kernel
theorem dX0_init_42 : decode cX0_init 42 = .ok (.aload_n 2, 1) := by decide +kernel
theorem dX0_init_43 : decode cX0_init 43 = .ok (.putfield 32, 3) := by decide +kernel
theorem dX0_init_46 : decode cX0_init 46 = .ok (.aload_n 0, 1) := by decide +kernel
theorem dX0_init_47 : decode cX0_init 47 = .ok (.aload_n 3, 1) := by decide +kernel
theorem dX0_init_48 : decode cX0_init 48 = .ok (.putfield 36, 3) := by decide +kernel
theorem dX0_init_51 : decode cX0_init 51 = .ok (.return_, 1) := by decide +kernel
theorem dX0_least_0 : decode cX0_least 0 = .ok (.aload_n 0, 1) := by decide +kernel
theorem dX0_least_1 : decode cX0_least 1 = .ok (.getfield 21, 3) := by decide +kernel
theorem dX0_least_4 : decode cX0_least 4 = .ok (.ireturn, 1) := by decide +kernel
theorem dX0_howMany_0 : decode cX0_howMany 0 = .ok (.aload_n 0, 1) := by decide +kernel
theorem dX0_howMany_1 : decode cX0_howMany 1 = .ok (.getfield 25, 3) := by decide +kernel
theorem dX0_howMany_4 : decode cX0_howMany 4 = .ok (.ireturn, 1) := by decide +kernel
theorem dX0_first_0 : decode cX0_first 0 = .ok (.aload_n 0, 1) := by decide +kernel
theorem dX0_first_1 : decode cX0_first 1 = .ok (.getfield 18, 3) := by decide +kernel
theorem dX0_first_4 : decode cX0_first 4 = .ok (.areturn, 1) := by decide +kernel
theorem dX0_search_0 : decode cX0_search 0 = .ok (.aload_n 0, 1) := by decide +kernel
theorem dX0_search_1 : decode cX0_search 1 = .ok (.iconst (-1), 1) := by decide +kernel
theorem dX0_search_2 : decode cX0_search 2 = .ok (.putfield 21, 3) := by decide +kernel
theorem dX0_search_5 : decode cX0_search 5 = .ok (.aload_n 0, 1) := by decide +kernel
theorem dX0_search_6 : decode cX0_search 6 = .ok (.iconst 0, 1) := by decide +kernel
theorem dX0_search_7 : decode cX0_search 7 = .ok (.putfield 25, 3) := by decide +kernel
theorem dX0_search_10 : decode cX0_search 10 = .ok (.aload_n 0, 1) := by decide +kernel
theorem dX0_search_11 : decode cX0_search 11 = .ok (.getfield 12, 3) := by decide +kernel
theorem dX0_search_14 : decode cX0_search 14 = .ok (.aload_n 0, 1) := by decide +kernel
theorem dX0_search_15 : decode cX0_search 15 = .ok (.getfield 32, 3) := by decide +kernel
theorem dX0_search_18 : decode cX0_search 18 = .ok (.invokevirtual 40, 3) := by decide +kernel
theorem dX0_search_21 : decode cX0_search 21 = .ok (.aload_n 0, 1) := by decide +kernel
theorem dX0_search_22 : decode cX0_search 22 = .ok (.getfield 28, 3) := by decide +kernel
theorem dX0_search_25 : decode cX0_search 25 = .ok (.invokevirtual 46, 3) := by decide +kernel
theorem dX0_search_28 : decode cX0_search 28 = .ok (.invokevirtual 51, 3) := by decide +kernel
theorem dX0_search_31 : decode cX0_search 31 = .ok (.iconst 1, 1) := by decide +kernel
theorem dX0_search_32 : decode cX0_search 32 = .ok (.istore_n 2, 1) := by decide +kernel
theorem dX0_search_33 : decode cX0_search 33 = .ok (.iconst 0, 1) := by decide +kernel
theorem dX0_search_34 : decode cX0_search 34 = .ok (.istore_n 3, 1) := by decide +kernel
theorem dX0_search_35 : decode cX0_search 35 = .ok (.iload_n 2, 1) := by decide +kernel
theorem dX0_search_36 : decode cX0_search 36 = .ok (.ifCond .eq 47, 3) := by decide +kernel
theorem dX0_search_39 : decode cX0_search 39 = .ok (.iload_n 3, 1) := by decide +kernel
theorem dX0_search_40 : decode cX0_search 40 = .ok (.sipush 720, 3) := by decide +kernel
theorem dX0_search_43 : decode cX0_search 43 = .ok (.if_icmp .ge 40, 3) := by decide +kernel
theorem dX0_search_46 : decode cX0_search 46 = .ok (.aload_n 0, 1) := by decide +kernel
theorem dX0_search_47 : decode cX0_search 47 = .ok (.aload_n 0, 1) := by decide +kernel
theorem dX0_search_48 : decode cX0_search 48 = .ok (.getfield 36, 3) := by decide +kernel
theorem dX0_search_51 : decode cX0_search 51 = .ok (.iload_n 1, 1) := by decide +kernel
theorem dX0_search_52 : decode cX0_search 52 = .ok (.aload_n 0, 1) := by decide +kernel
theorem dX0_search_53 : decode cX0_search 53 = .ok (.getfield 12, 3) := by decide +kernel
theorem dX0_search_56 : decode cX0_search 56 = .ok (.invokevirtual 55, 3) := by decide +kernel
theorem dX0_search_59 : decode cX0_search 59 = .ok (.invokevirtual 61, 3) := by decide +kernel
theorem dX0_search_62 : decode cX0_search 62 = .ok (.aload_n 0, 1) := by decide +kernel
theorem dX0_search_63 : decode cX0_search 63 = .ok (.getfield 12, 3) := by decide +kernel
theorem dX0_search_66 : decode cX0_search 66 = .ok (.aload_n 0, 1) := by decide +kernel
theorem dX0_search_67 : decode cX0_search 67 = .ok (.getfield 28, 3) := by decide +kernel
theorem dX0_search_70 : decode cX0_search 70 = .ok (.invokevirtual 46, 3) := by decide +kernel
theorem dX0_search_73 : decode cX0_search 73 = .ok (.invokevirtual 65, 3) := by decide +kernel
theorem dX0_search_76 : decode cX0_search 76 = .ok (.istore_n 2, 1) := by decide +kernel
theorem dX0_search_77 : decode cX0_search 77 = .ok (.iinc 3 1, 3) := by decide +kernel
theorem dX0_search_80 : decode cX0_search 80 = .ok (.goto (-45), 3) := by decide +kernel
theorem dX0_search_83 : decode cX0_search 83 = .ok (.return_, 1) := by decide +kernel
theorem dX0_compare_0 : decode cX0_compare 0 = .ok (.iload_n 1, 1) := by decide +kernel
theorem dX0_compare_1 : decode cX0_compare 1 = .ok (.iconst (-1), 1) := by decide +kernel
theorem dX0_compare_2 : decode cX0_compare 2 = .ok (.if_icmp .ne 4, 3) := by decide +kernel
theorem dX0_compare_5 : decode cX0_compare 5 = .ok (.return_, 1) := by decide +kernel
theorem dX0_compare_6 : decode cX0_compare 6 = .ok (.aload_n 0, 1) := by decide +kernel
theorem dX0_compare_7 : decode cX0_compare 7 = .ok (.getfield 21, 3) := by decide +kernel
theorem dX0_compare_10 : decode cX0_compare 10 = .ok (.iconst (-1), 1) := by decide +kernel
theorem dX0_compare_11 : decode cX0_compare 11 = .ok (.if_icmp .eq 11, 3) := by decide +kernel
theorem dX0_compare_14 : decode cX0_compare 14 = .ok (.iload_n 1, 1) := by decide +kernel
theorem dX0_compare_15 : decode cX0_compare 15 = .ok (.aload_n 0, 1) := by decide +kernel
theorem dX0_compare_16 : decode cX0_compare 16 = .ok (.getfield 21, 3) := by decide +kernel
theorem dX0_compare_19 : decode cX0_compare 19 = .ok (.if_icmp .ge 24, 3) := by decide +kernel
theorem dX0_compare_22 : decode cX0_compare 22 = .ok (.aload_n 0, 1) := by decide +kernel
theorem dX0_compare_23 : decode cX0_compare 23 = .ok (.iload_n 1, 1) := by decide +kernel
theorem dX0_compare_24 : decode cX0_compare 24 = .ok (.putfield 21, 3) := by decide +kernel
theorem dX0_compare_27 : decode cX0_compare 27 = .ok (.aload_n 0, 1) := by decide +kernel
theorem dX0_compare_28 : decode cX0_compare 28 = .ok (.iconst 0, 1) := by decide +kernel
theorem dX0_compare_29 : decode cX0_compare 29 = .ok (.putfield 25, 3) := by decide +kernel
theorem dX0_compare_32 : decode cX0_compare 32 = .ok (.aload_n 0, 1) := by decide +kernel
theorem dX0_compare_33 : decode cX0_compare 33 = .ok (.getfield 18, 3) := by decide +kernel
theorem dX0_compare_36 : decode cX0_compare 36 = .ok (.aload_n 0, 1) := by decide +kernel
theorem dX0_compare_37 : decode cX0_compare 37 = .ok (.getfield 12, 3) := by decide +kernel
theorem dX0_compare_40 : decode cX0_compare 40 = .ok (.invokevirtual 69, 3) := by decide +kernel
theorem dX0_compare_43 : decode cX0_compare 43 = .ok (.iload_n 1, 1) := by decide +kernel
theorem dX0_compare_44 : decode cX0_compare 44 = .ok (.aload_n 0, 1) := by decide +kernel
theorem dX0_compare_45 : decode cX0_compare 45 = .ok (.getfield 21, 3) := by decide +kernel
theorem dX0_compare_48 : decode cX0_compare 48 = .ok (.if_icmp .ne 13, 3) := by decide +kernel
theorem dX0_compare_51 : decode cX0_compare 51 = .ok (.aload_n 0, 1) := by decide +kernel
theorem dX0_compare_52 : decode cX0_compare 52 = .ok (.dup, 1) := by decide +kernel
theorem dX0_compare_53 : decode cX0_compare 53 = .ok (.getfield 25, 3) := by decide +kernel
theorem dX0_compare_56 : decode cX0_compare 56 = .ok (.iconst 1, 1) := by decide +kernel
theorem dX0_compare_57 : decode cX0_compare 57 = .ok (.iadd, 1) := by decide +kernel
theorem dX0_compare_58 : decode cX0_compare 58 = .ok (.putfield 25, 3) := by decide +kernel
theorem dX0_compare_61 : decode cX0_compare 61 = .ok (.return_, 1) := by decide +kernel
theorem dX1_init_0 : decode cX1_init 0 = .ok (.aload_n 0, 1) := by decide +kernel
theorem dX1_init_1 : decode cX1_init 1 = .ok (.invokespecial 3, 3) := by decide +kernel
theorem dX1_init_4 : decode cX1_init 4 = .ok (.aload_n 0, 1) := by decide +kernel
theorem dX1_init_5 : decode cX1_init 5 = .ok (.new 9, 3) := by decide +kernel
theorem dX1_init_8 : decode cX1_init 8 = .ok (.dup, 1) := by decide +kernel
theorem dX1_init_9 : decode cX1_init 9 = .ok (.invokespecial 11, 3) := by decide +kernel
theorem dX1_init_12 : decode cX1_init 12 = .ok (.putfield 12, 3) := by decide +kernel
theorem dX1_init_15 : decode cX1_init 15 = .ok (.aload_n 0, 1) := by decide +kernel
theorem dX1_init_16 : decode cX1_init 16 = .ok (.new 9, 3) := by decide +kernel
theorem dX1_init_19 : decode cX1_init 19 = .ok (.dup, 1) := by decide +kernel
theorem dX1_init_20 : decode cX1_init 20 = .ok (.invokespecial 11, 3) := by decide +kernel
theorem dX1_init_23 : decode cX1_init 23 = .ok (.putfield 18, 3) := by decide +kernel
theorem dX1_init_26 : decode cX1_init 26 = .ok (.aload_n 0, 1) := by decide +kernel
theorem dX1_init_27 : decode cX1_init 27 = .ok (.iconst (-1), 1) := by decide +kernel
theorem dX1_init_28 : decode cX1_init 28 = .ok (.putfield 21, 3) := by decide +kernel
theorem dX1_init_31 : decode cX1_init 31 = .ok (.aload_n 0, 1) := by decide +kernel
theorem dX1_init_32 : decode cX1_init 32 = .ok (.iconst 0, 1) := by decide +kernel
theorem dX1_init_33 : decode cX1_init 33 = .ok (.putfield 25, 3) := by decide +kernel
theorem dX1_init_36 : decode cX1_init 36 = .ok (.aload_n 0, 1) := by decide +kernel
theorem dX1_init_37 : decode cX1_init 37 = .ok (.aload_n 1, 1) := by decide +kernel
theorem dX1_init_38 : decode cX1_init 38 = .ok (.putfield 29, 3) := by decide +kernel
theorem dX1_init_41 : decode cX1_init 41 = .ok (.aload_n 0, 1) := by decide +kernel
theorem dX1_init_42 : decode cX1_init 42 = .ok (.aload_n 2, 1) := by decide +kernel
theorem dX1_init_43 : decode cX1_init 43 = .ok (.putfield 33, 3) := by decide +kernel
theorem dX1_init_46 : decode cX1_init 46 = .ok (.return_, 1) := by decide +kernel
theorem dX1_found_0 : decode cX1_found 0 = .ok (.aload_n 0, 1) := by decide +kernel
theorem dX1_found_1 : decode cX1_found 1 = .ok (.getfield 18, 3) := by decide +kernel
theorem dX1_found_4 : decode cX1_found 4 = .ok (.areturn, 1) := by decide +kernel
theorem dX1_search_0 : decode cX1_search 0 = .ok (.aload_n 0, 1) := by decide +kernel
theorem dX1_search_1 : decode cX1_search 1 = .ok (.getfield 12, 3) := by decide +kernel
theorem dX1_search_4 : decode cX1_search 4 = .ok (.aload_n 2, 1) := by decide +kernel
theorem dX1_search_5 : decode cX1_search 5 = .ok (.invokevirtual 37, 3) := by decide +kernel
theorem dX1_search_8 : decode cX1_search 8 = .ok (.aload_n 0, 1) := by decide +kernel
theorem dX1_search_9 : decode cX1_search 9 = .ok (.aload_n 0, 1) := by decide +kernel
theorem dX1_search_10 : decode cX1_search 10 = .ok (.getfield 33, 3) := by decide +kernel
theorem dX1_search_13 : decode cX1_search 13 = .ok (.iload_n 1, 1) := by decide +kernel
theorem dX1_search_14 : decode cX1_search 14 = .ok (.aload_n 0, 1) := by decide +kernel
theorem dX1_search_15 : decode cX1_search 15 = .ok (.getfield 12, 3) := by decide +kernel
theorem dX1_search_18 : decode cX1_search 18 = .ok (.invokevirtual 41, 3) := by decide +kernel
theorem dX1_search_21 : decode cX1_search 21 = .ok (.putfield 21, 3) := by decide +kernel
theorem dX1_search_24 : decode cX1_search 24 = .ok (.aload_n 0, 1) := by decide +kernel
theorem dX1_search_25 : decode cX1_search 25 = .ok (.iconst 0, 1) := by decide +kernel
theorem dX1_search_26 : decode cX1_search 26 = .ok (.putfield 25, 3) := by decide +kernel
theorem dX1_search_29 : decode cX1_search 29 = .ok (.iconst 0, 1) := by decide +kernel
theorem dX1_search_30 : decode cX1_search 30 = .ok (.istore_n 3, 1) := by decide +kernel
theorem dX1_search_31 : decode cX1_search 31 = .ok (.iload_n 3, 1) := by decide +kernel
theorem dX1_search_32 : decode cX1_search 32 = .ok (.aload_n 0, 1) := by decide +kernel
theorem dX1_search_33 : decode cX1_search 33 = .ok (.getfield 12, 3) := by decide +kernel
theorem dX1_search_36 : decode cX1_search 36 = .ok (.invokevirtual 47, 3) := by decide +kernel
theorem dX1_search_39 : decode cX1_search 39 = .ok (.if_icmp .ge 38, 3) := by decide +kernel
theorem dX1_search_42 : decode cX1_search 42 = .ok (.iconst 0, 1) := by decide +kernel
theorem dX1_search_43 : decode cX1_search 43 = .ok (.istore 4, 2) := by decide +kernel
theorem dX1_search_45 : decode cX1_search 45 = .ok (.iload 4, 2) := by decide +kernel
theorem dX1_search_47 : decode cX1_search 47 = .ok (.aload_n 0, 1) := by decide +kernel
theorem dX1_search_48 : decode cX1_search 48 = .ok (.getfield 29, 3) := by decide +kernel
theorem dX1_search_51 : decode cX1_search 51 = .ok (.invokevirtual 51, 3) := by decide +kernel
theorem dX1_search_54 : decode cX1_search 54 = .ok (.if_icmp .ge 17, 3) := by decide +kernel
theorem dX1_search_57 : decode cX1_search 57 = .ok (.aload_n 0, 1) := by decide +kernel
theorem dX1_search_58 : decode cX1_search 58 = .ok (.iload_n 1, 1) := by decide +kernel
theorem dX1_search_59 : decode cX1_search 59 = .ok (.iload_n 3, 1) := by decide +kernel
theorem dX1_search_60 : decode cX1_search 60 = .ok (.iload 4, 2) := by decide +kernel
theorem dX1_search_62 : decode cX1_search 62 = .ok (.invokevirtual 56, 3) := by decide +kernel
theorem dX1_search_65 : decode cX1_search 65 = .ok (.iinc 4 1, 3) := by decide +kernel
theorem dX1_search_68 : decode cX1_search 68 = .ok (.goto (-23), 3) := by decide +kernel
theorem dX1_search_71 : decode cX1_search 71 = .ok (.iinc 3 1, 3) := by decide +kernel
theorem dX1_search_74 : decode cX1_search 74 = .ok (.goto (-43), 3) := by decide +kernel
theorem dX1_search_77 : decode cX1_search 77 = .ok (.aload_n 0, 1) := by decide +kernel
theorem dX1_search_78 : decode cX1_search 78 = .ok (.getfield 25, 3) := by decide +kernel
theorem dX1_search_81 : decode cX1_search 81 = .ok (.ireturn, 1) := by decide +kernel
theorem dX1_tryChange_0 : decode cX1_tryChange 0 = .ok (.aload_n 0, 1) := by decide +kernel
theorem dX1_tryChange_1 : decode cX1_tryChange 1 = .ok (.getfield 12, 3) := by decide +kernel
theorem dX1_tryChange_4 : decode cX1_tryChange 4 = .ok (.iload_n 2, 1) := by decide +kernel
theorem dX1_tryChange_5 : decode cX1_tryChange 5 = .ok (.invokevirtual 60, 3) := by decide +kernel
theorem dX1_tryChange_8 : decode cX1_tryChange 8 = .ok (.istore 4, 2) := by decide +kernel
theorem dX1_tryChange_10 : decode cX1_tryChange 10 = .ok (.aload_n 0, 1) := by decide +kernel
theorem dX1_tryChange_11 : decode cX1_tryChange 11 = .ok (.getfield 12, 3) := by decide +kernel
theorem dX1_tryChange_14 : decode cX1_tryChange 14 = .ok (.iload_n 3, 1) := by decide +kernel
theorem dX1_tryChange_15 : decode cX1_tryChange 15 = .ok (.aload_n 0, 1) := by decide +kernel
theorem dX1_tryChange_16 : decode cX1_tryChange 16 = .ok (.getfield 12, 3) := by decide +kernel
theorem dX1_tryChange_19 : decode cX1_tryChange 19 = .ok (.invokevirtual 47, 3) := by decide +kernel
theorem dX1_tryChange_22 : decode cX1_tryChange 22 = .ok (.invokevirtual 64, 3) := by decide +kernel
theorem dX1_tryChange_25 : decode cX1_tryChange 25 = .ok (.istore 5, 2) := by decide +kernel
theorem dX1_tryChange_27 : decode cX1_tryChange 27 = .ok (.iload 5, 2) := by decide +kernel
theorem dX1_tryChange_29 : decode cX1_tryChange 29 = .ok (.iload_n 2, 1) := by decide +kernel
theorem dX1_tryChange_30 : decode cX1_tryChange 30 = .ok (.if_icmp .ne 4, 3) := by decide +kernel
theorem dX1_tryChange_33 : decode cX1_tryChange 33 = .ok (.return_, 1) := by decide +kernel
theorem dX1_tryChange_34 : decode cX1_tryChange 34 = .ok (.aload_n 0, 1) := by decide +kernel
theorem dX1_tryChange_35 : decode cX1_tryChange 35 = .ok (.getfield 12, 3) := by decide +kernel
theorem dX1_tryChange_38 : decode cX1_tryChange 38 = .ok (.iload_n 2, 1) := by decide +kernel
theorem dX1_tryChange_39 : decode cX1_tryChange 39 = .ok (.iload_n 3, 1) := by decide +kernel
theorem dX1_tryChange_40 : decode cX1_tryChange 40 = .ok (.invokevirtual 68, 3) := by decide +kernel
theorem dX1_tryChange_43 : decode cX1_tryChange 43 = .ok (.iload 5, 2) := by decide +kernel
theorem dX1_tryChange_45 : decode cX1_tryChange 45 = .ok (.iconst (-1), 1) := by decide +kernel
theorem dX1_tryChange_46 : decode cX1_tryChange 46 = .ok (.if_icmp .eq 14, 3) := by decide +kernel
theorem dX1_tryChange_49 : decode cX1_tryChange 49 = .ok (.aload_n 0, 1) := by decide +kernel
theorem dX1_tryChange_50 : decode cX1_tryChange 50 = .ok (.getfield 12, 3) := by decide +kernel
theorem dX1_tryChange_53 : decode cX1_tryChange 53 = .ok (.iload 5, 2) := by decide +kernel
theorem dX1_tryChange_55 : decode cX1_tryChange 55 = .ok (.iload 4, 2) := by decide +kernel
theorem dX1_tryChange_57 : decode cX1_tryChange 57 = .ok (.invokevirtual 68, 3) := by decide +kernel
theorem dX1_tryChange_60 : decode cX1_tryChange 60 = .ok (.aload_n 0, 1) := by decide +kernel
theorem dX1_tryChange_61 : decode cX1_tryChange 61 = .ok (.aload_n 0, 1) := by decide +kernel
theorem dX1_tryChange_62 : decode cX1_tryChange 62 = .ok (.getfield 33, 3) := by decide +kernel
theorem dX1_tryChange_65 : decode cX1_tryChange 65 = .ok (.iload_n 1, 1) := by decide +kernel
theorem dX1_tryChange_66 : decode cX1_tryChange 66 = .ok (.aload_n 0, 1) := by decide +kernel
theorem dX1_tryChange_67 : decode cX1_tryChange 67 = .ok (.getfield 12, 3) := by decide +kernel
theorem dX1_tryChange_70 : decode cX1_tryChange 70 = .ok (.invokevirtual 41, 3) := by decide +kernel
theorem dX1_tryChange_73 : decode cX1_tryChange 73 = .ok (.invokevirtual 72, 3) := by decide +kernel
theorem dX1_tryChange_76 : decode cX1_tryChange 76 = .ok (.aload_n 0, 1) := by decide +kernel
theorem dX1_tryChange_77 : decode cX1_tryChange 77 = .ok (.getfield 12, 3) := by decide +kernel
theorem dX1_tryChange_80 : decode cX1_tryChange 80 = .ok (.iload_n 2, 1) := by decide +kernel
theorem dX1_tryChange_81 : decode cX1_tryChange 81 = .ok (.iload 4, 2) := by decide +kernel
theorem dX1_tryChange_83 : decode cX1_tryChange 83 = .ok (.invokevirtual 68, 3) := by decide +kernel
theorem dX1_tryChange_86 : decode cX1_tryChange 86 = .ok (.iload 5, 2) := by decide +kernel
theorem dX1_tryChange_88 : decode cX1_tryChange 88 = .ok (.iconst (-1), 1) := by decide +kernel
theorem dX1_tryChange_89 : decode cX1_tryChange 89 = .ok (.if_icmp .eq 13, 3) := by decide +kernel
theorem dX1_tryChange_92 : decode cX1_tryChange 92 = .ok (.aload_n 0, 1) := by decide +kernel
theorem dX1_tryChange_93 : decode cX1_tryChange 93 = .ok (.getfield 12, 3) := by decide +kernel
theorem dX1_tryChange_96 : decode cX1_tryChange 96 = .ok (.iload 5, 2) := by decide +kernel
theorem dX1_tryChange_98 : decode cX1_tryChange 98 = .ok (.iload_n 3, 1) := by decide +kernel
theorem dX1_tryChange_99 : decode cX1_tryChange 99 = .ok (.invokevirtual 68, 3) := by decide +kernel
theorem dX1_tryChange_102 : decode cX1_tryChange 102 = .ok (.return_, 1) := by decide +kernel
theorem dX1_compare_0 : decode cX1_compare 0 = .ok (.iload_n 1, 1) := by decide +kernel
theorem dX1_compare_1 : decode cX1_compare 1 = .ok (.iconst (-1), 1) := by decide +kernel
theorem dX1_compare_2 : decode cX1_compare 2 = .ok (.if_icmp .ne 4, 3) := by decide +kernel
theorem dX1_compare_5 : decode cX1_compare 5 = .ok (.return_, 1) := by decide +kernel
theorem dX1_compare_6 : decode cX1_compare 6 = .ok (.aload_n 0, 1) := by decide +kernel
theorem dX1_compare_7 : decode cX1_compare 7 = .ok (.getfield 21, 3) := by decide +kernel
theorem dX1_compare_10 : decode cX1_compare 10 = .ok (.iconst (-1), 1) := by decide +kernel
theorem dX1_compare_11 : decode cX1_compare 11 = .ok (.if_icmp .eq 11, 3) := by decide +kernel
theorem dX1_compare_14 : decode cX1_compare 14 = .ok (.iload_n 1, 1) := by decide +kernel
theorem dX1_compare_15 : decode cX1_compare 15 = .ok (.aload_n 0, 1) := by decide +kernel
theorem dX1_compare_16 : decode cX1_compare 16 = .ok (.getfield 21, 3) := by decide +kernel
theorem dX1_compare_19 : decode cX1_compare 19 = .ok (.if_icmp .ge 7, 3) := by decide +kernel
theorem dX1_compare_22 : decode cX1_compare 22 = .ok (.iconst 1, 1) := by decide +kernel
theorem dX1_compare_23 : decode cX1_compare 23 = .ok (.goto 4, 3) := by decide +kernel
theorem dX1_compare_26 : decode cX1_compare 26 = .ok (.iconst 0, 1) := by decide +kernel
theorem dX1_compare_27 : decode cX1_compare 27 = .ok (.istore_n 2, 1) := by decide +kernel
theorem dX1_compare_28 : decode cX1_compare 28 = .ok (.iload_n 2, 1) := by decide +kernel
theorem dX1_compare_29 : decode cX1_compare 29 = .ok (.ifCond .ne 32, 3) := by decide +kernel
theorem dX1_compare_32 : decode cX1_compare 32 = .ok (.aload_n 0, 1) := by decide +kernel
theorem dX1_compare_33 : decode cX1_compare 33 = .ok (.getfield 25, 3) := by decide +kernel
theorem dX1_compare_36 : decode cX1_compare 36 = .ok (.ifCond .eq 46, 3) := by decide +kernel
theorem dX1_compare_39 : decode cX1_compare 39 = .ok (.iload_n 1, 1) := by decide +kernel
theorem dX1_compare_40 : decode cX1_compare 40 = .ok (.aload_n 0, 1) := by decide +kernel
theorem dX1_compare_41 : decode cX1_compare 41 = .ok (.getfield 21, 3) := by decide +kernel
theorem dX1_compare_44 : decode cX1_compare 44 = .ok (.if_icmp .ne 38, 3) := by decide +kernel
theorem dX1_compare_47 : decode cX1_compare 47 = .ok (.aload_n 0, 1) := by decide +kernel
theorem dX1_compare_48 : decode cX1_compare 48 = .ok (.getfield 12, 3) := by decide +kernel
theorem dX1_compare_51 : decode cX1_compare 51 = .ok (.aload_n 0, 1) := by decide +kernel
theorem dX1_compare_52 : decode cX1_compare 52 = .ok (.getfield 18, 3) := by decide +kernel
theorem dX1_compare_55 : decode cX1_compare 55 = .ok (.invokevirtual 76, 3) := by decide +kernel
theorem dX1_compare_58 : decode cX1_compare 58 = .ok (.ifCond .eq 24, 3) := by decide +kernel
theorem dX1_compare_61 : decode cX1_compare 61 = .ok (.aload_n 0, 1) := by decide +kernel
theorem dX1_compare_62 : decode cX1_compare 62 = .ok (.iload_n 1, 1) := by decide +kernel
theorem dX1_compare_63 : decode cX1_compare 63 = .ok (.putfield 21, 3) := by decide +kernel
theorem dX1_compare_66 : decode cX1_compare 66 = .ok (.aload_n 0, 1) := by decide +kernel
theorem dX1_compare_67 : decode cX1_compare 67 = .ok (.iconst 1, 1) := by decide +kernel
theorem dX1_compare_68 : decode cX1_compare 68 = .ok (.putfield 25, 3) := by decide +kernel
theorem dX1_compare_71 : decode cX1_compare 71 = .ok (.aload_n 0, 1) := by decide +kernel
theorem dX1_compare_72 : decode cX1_compare 72 = .ok (.getfield 18, 3) := by decide +kernel
theorem dX1_compare_75 : decode cX1_compare 75 = .ok (.aload_n 0, 1) := by decide +kernel
theorem dX1_compare_76 : decode cX1_compare 76 = .ok (.getfield 12, 3) := by decide +kernel
theorem dX1_compare_79 : decode cX1_compare 79 = .ok (.invokevirtual 37, 3) := by decide +kernel
theorem dX1_compare_82 : decode cX1_compare 82 = .ok (.return_, 1) := by decide +kernel
theorem dX2_init_0 : decode cX2_init 0 = .ok (.aload_n 0, 1) := by decide +kernel
theorem dX2_init_1 : decode cX2_init 1 = .ok (.invokespecial 3, 3) := by decide +kernel
theorem dX2_init_4 : decode cX2_init 4 = .ok (.aload_n 0, 1) := by decide +kernel
theorem dX2_init_5 : decode cX2_init 5 = .ok (.new 9, 3) := by decide +kernel
theorem dX2_init_8 : decode cX2_init 8 = .ok (.dup, 1) := by decide +kernel
theorem dX2_init_9 : decode cX2_init 9 = .ok (.bipush 36, 2) := by decide +kernel
theorem dX2_init_11 : decode cX2_init 11 = .ok (.invokespecial 11, 3) := by decide +kernel
theorem dX2_init_14 : decode cX2_init 14 = .ok (.putfield 14, 3) := by decide +kernel
theorem dX2_init_17 : decode cX2_init 17 = .ok (.aload_n 0, 1) := by decide +kernel
theorem dX2_init_18 : decode cX2_init 18 = .ok (.new 9, 3) := by decide +kernel
theorem dX2_init_21 : decode cX2_init 21 = .ok (.dup, 1) := by decide +kernel
theorem dX2_init_22 : decode cX2_init 22 = .ok (.bipush 6, 2) := by decide +kernel
theorem dX2_init_24 : decode cX2_init 24 = .ok (.invokespecial 11, 3) := by decide +kernel
theorem dX2_init_27 : decode cX2_init 27 = .ok (.putfield 20, 3) := by decide +kernel
theorem dX2_init_30 : decode cX2_init 30 = .ok (.aload_n 0, 1) := by decide +kernel
theorem dX2_init_31 : decode cX2_init 31 = .ok (.new 9, 3) := by decide +kernel
theorem dX2_init_34 : decode cX2_init 34 = .ok (.dup, 1) := by decide +kernel
theorem dX2_init_35 : decode cX2_init 35 = .ok (.bipush 36, 2) := by decide +kernel
theorem dX2_init_37 : decode cX2_init 37 = .ok (.invokespecial 11, 3) := by decide +kernel
theorem dX2_init_40 : decode cX2_init 40 = .ok (.putfield 23, 3) := by decide +kernel
theorem dX2_init_43 : decode cX2_init 43 = .ok (.aload_n 0, 1) := by decide +kernel
theorem dX2_init_44 : decode cX2_init 44 = .ok (.new 9, 3) := by decide +kernel
theorem dX2_init_47 : decode cX2_init 47 = .ok (.dup, 1) := by decide +kernel
theorem dX2_init_48 : decode cX2_init 48 = .ok (.bipush 6, 2) := by decide +kernel
theorem dX2_init_50 : decode cX2_init 50 = .ok (.invokespecial 11, 3) := by decide +kernel
theorem dX2_init_53 : decode cX2_init 53 = .ok (.putfield 26, 3) := by decide +kernel
theorem dX2_init_56 : decode cX2_init 56 = .ok (.aload_n 0, 1) := by decide +kernel
theorem dX2_init_57 : decode cX2_init 57 = .ok (.new 9, 3) := by decide +kernel
theorem dX2_init_60 : decode cX2_init 60 = .ok (.dup, 1) := by decide +kernel
theorem dX2_init_61 : decode cX2_init 61 = .ok (.bipush 36, 2) := by decide +kernel
theorem dX2_init_63 : decode cX2_init 63 = .ok (.invokespecial 11, 3) := by decide +kernel
theorem dX2_init_66 : decode cX2_init 66 = .ok (.putfield 29, 3) := by decide +kernel
theorem dX2_init_69 : decode cX2_init 69 = .ok (.aload_n 0, 1) := by decide +kernel
theorem dX2_init_70 : decode cX2_init 70 = .ok (.new 9, 3) := by decide +kernel
theorem dX2_init_73 : decode cX2_init 73 = .ok (.dup, 1) := by decide +kernel
theorem dX2_init_74 : decode cX2_init 74 = .ok (.bipush 36, 2) := by decide +kernel
theorem dX2_init_76 : decode cX2_init 76 = .ok (.invokespecial 11, 3) := by decide +kernel
theorem dX2_init_79 : decode cX2_init 79 = .ok (.putfield 32, 3) := by decide +kernel
theorem dX2_init_82 : decode cX2_init 82 = .ok (.aload_n 0, 1) := by decide +kernel
theorem dX2_init_83 : decode cX2_init 83 = .ok (.iconst 0, 1) := by decide +kernel
theorem dX2_init_84 : decode cX2_init 84 = .ok (.putfield 35, 3) := by decide +kernel
theorem dX2_init_87 : decode cX2_init 87 = .ok (.aload_n 0, 1) := by decide +kernel
theorem dX2_init_88 : decode cX2_init 88 = .ok (.iconst 0, 1) := by decide +kernel
theorem dX2_init_89 : decode cX2_init 89 = .ok (.putfield 39, 3) := by decide +kernel
theorem dX2_init_92 : decode cX2_init 92 = .ok (.aload_n 0, 1) := by decide +kernel
theorem dX2_init_93 : decode cX2_init 93 = .ok (.bipush 41, 2) := by decide +kernel
theorem dX2_init_95 : decode cX2_init 95 = .ok (.putfield 42, 3) := by decide +kernel
theorem dX2_init_98 : decode cX2_init 98 = .ok (.return_, 1) := by decide +kernel
theorem dX2_kindOf_0 : decode cX2_kindOf 0 = .ok (.aload_n 0, 1) := by decide +kernel
theorem dX2_kindOf_1 : decode cX2_kindOf 1 = .ok (.getfield 14, 3) := by decide +kernel
theorem dX2_kindOf_4 : decode cX2_kindOf 4 = .ok (.iload_n 1, 1) := by decide +kernel
theorem dX2_kindOf_5 : decode cX2_kindOf 5 = .ok (.invokevirtual 45, 3) := by decide +kernel
theorem dX2_kindOf_8 : decode cX2_kindOf 8 = .ok (.ireturn, 1) := by decide +kernel
theorem dX2_slots_0 : decode cX2_slots 0 = .ok (.aload_n 0, 1) := by decide +kernel
theorem dX2_slots_1 : decode cX2_slots 1 = .ok (.getfield 39, 3) := by decide +kernel
theorem dX2_slots_4 : decode cX2_slots 4 = .ok (.ireturn, 1) := by decide +kernel
theorem dX2_hasSlot_0 : decode cX2_hasSlot 0 = .ok (.iload_n 1, 1) := by decide +kernel
theorem dX2_hasSlot_1 : decode cX2_hasSlot 1 = .ok (.ifCond .lt 15, 3) := by decide +kernel
theorem dX2_hasSlot_4 : decode cX2_hasSlot 4 = .ok (.iload_n 1, 1) := by decide +kernel
theorem dX2_hasSlot_5 : decode cX2_hasSlot 5 = .ok (.aload_n 0, 1) := by decide +kernel
theorem dX2_hasSlot_6 : decode cX2_hasSlot 6 = .ok (.getfield 39, 3) := by decide +kernel
theorem dX2_hasSlot_9 : decode cX2_hasSlot 9 = .ok (.if_icmp .ge 7, 3) := by decide +kernel
theorem dX2_hasSlot_12 : decode cX2_hasSlot 12 = .ok (.iconst 1, 1) := by decide +kernel
theorem dX2_hasSlot_13 : decode cX2_hasSlot 13 = .ok (.goto 4, 3) := by decide +kernel
theorem dX2_hasSlot_16 : decode cX2_hasSlot 16 = .ok (.iconst 0, 1) := by decide +kernel
theorem dX2_hasSlot_17 : decode cX2_hasSlot 17 = .ok (.ireturn, 1) := by decide +kernel
theorem dX2_cellsOf_0 : decode cX2_cellsOf 0 = .ok (.iconst 0, 1) := by decide +kernel
theorem dX2_cellsOf_1 : decode cX2_cellsOf 1 = .ok (.istore_n 2, 1) := by decide +kernel
theorem dX2_cellsOf_2 : decode cX2_cellsOf 2 = .ok (.iconst 0, 1) := by decide +kernel
theorem dX2_cellsOf_3 : decode cX2_cellsOf 3 = .ok (.istore_n 3, 1) := by decide +kernel
theorem dX2_cellsOf_4 : decode cX2_cellsOf 4 = .ok (.iload_n 3, 1) := by decide +kernel
theorem dX2_cellsOf_5 : decode cX2_cellsOf 5 = .ok (.bipush 36, 2) := by decide +kernel
theorem dX2_cellsOf_7 : decode cX2_cellsOf 7 = .ok (.if_icmp .ge 24, 3) := by decide +kernel
theorem dX2_cellsOf_10 : decode cX2_cellsOf 10 = .ok (.aload_n 0, 1) := by decide +kernel
theorem dX2_cellsOf_11 : decode cX2_cellsOf 11 = .ok (.getfield 14, 3) := by decide +kernel
theorem dX2_cellsOf_14 : decode cX2_cellsOf 14 = .ok (.iload_n 3, 1) := by decide +kernel
theorem dX2_cellsOf_15 : decode cX2_cellsOf 15 = .ok (.invokevirtual 45, 3) := by decide +kernel
theorem dX2_cellsOf_18 : decode cX2_cellsOf 18 = .ok (.iload_n 1, 1) := by decide +kernel
theorem dX2_cellsOf_19 : decode cX2_cellsOf 19 = .ok (.if_icmp .ne 6, 3) := by decide +kernel
theorem dX2_cellsOf_22 : decode cX2_cellsOf 22 = .ok (.iinc 2 1, 3) := by decide +kernel
theorem dX2_cellsOf_25 : decode cX2_cellsOf 25 = .ok (.iinc 3 1, 3) := by decide +kernel
theorem dX2_cellsOf_28 : decode cX2_cellsOf 28 = .ok (.goto (-24), 3) := by decide +kernel
theorem dX2_cellsOf_31 : decode cX2_cellsOf 31 = .ok (.iload_n 2, 1) := by decide +kernel
theorem dX2_cellsOf_32 : decode cX2_cellsOf 32 = .ok (.ireturn, 1) := by decide +kernel
theorem dX2_wayBetween_0 : decode cX2_wayBetween 0 = .ok (.aload_n 0, 1) := by decide +kernel
theorem dX2_wayBetween_1 : decode cX2_wayBetween 1 = .ok (.getfield 23, 3) := by decide +kernel
theorem dX2_wayBetween_4 : decode cX2_wayBetween 4 = .ok (.iload_n 1, 1) := by decide +kernel
theorem dX2_wayBetween_5 : decode cX2_wayBetween 5 = .ok (.bipush 6, 2) := by decide +kernel
theorem dX2_wayBetween_7 : decode cX2_wayBetween 7 = .ok (.imul, 1) := by decide +kernel
theorem dX2_wayBetween_8 : decode cX2_wayBetween 8 = .ok (.iload_n 2, 1) := by decide +kernel
theorem dX2_wayBetween_9 : decode cX2_wayBetween 9 = .ok (.iadd, 1) := by decide +kernel
theorem dX2_wayBetween_10 : decode cX2_wayBetween 10 = .ok (.invokevirtual 45, 3) := by decide +kernel
theorem dX2_wayBetween_13 : decode cX2_wayBetween 13 = .ok (.ireturn, 1) := by decide +kernel
theorem dX2_wayOut_0 : decode cX2_wayOut 0 = .ok (.aload_n 0, 1) := by decide +kernel
theorem dX2_wayOut_1 : decode cX2_wayOut 1 = .ok (.getfield 26, 3) := by decide +kernel
theorem dX2_wayOut_4 : decode cX2_wayOut 4 = .ok (.iload_n 1, 1) := by decide +kernel
theorem dX2_wayOut_5 : decode cX2_wayOut 5 = .ok (.invokevirtual 45, 3) := by decide +kernel
theorem dX2_wayOut_8 : decode cX2_wayOut 8 = .ok (.ireturn, 1) := by decide +kernel
theorem dX2_changeBound_0 : decode cX2_changeBound 0 = .ok (.aload_n 0, 1) := by decide +kernel
theorem dX2_changeBound_1 : decode cX2_changeBound 1 = .ok (.getfield 42, 3) := by decide +kernel
theorem dX2_changeBound_4 : decode cX2_changeBound 4 = .ok (.istore_n 2, 1) := by decide +kernel
theorem dX2_changeBound_5 : decode cX2_changeBound 5 = .ok (.aload_n 0, 1) := by decide +kernel
theorem dX2_changeBound_6 : decode cX2_changeBound 6 = .ok (.iload_n 1, 1) := by decide +kernel
theorem dX2_changeBound_7 : decode cX2_changeBound 7 = .ok (.putfield 42, 3) := by decide +kernel
theorem dX2_changeBound_10 : decode cX2_changeBound 10 = .ok (.iload_n 2, 1) := by decide +kernel
theorem dX2_changeBound_11 : decode cX2_changeBound 11 = .ok (.ireturn, 1) := by decide +kernel
theorem dX2_isOutNear_0 : decode cX2_isOutNear 0 = .ok (.aload_n 0, 1) := by decide +kernel
theorem dX2_isOutNear_1 : decode cX2_isOutNear 1 = .ok (.getfield 26, 3) := by decide +kernel
theorem dX2_isOutNear_4 : decode cX2_isOutNear 4 = .ok (.iload_n 1, 1) := by decide +kernel
theorem dX2_isOutNear_5 : decode cX2_isOutNear 5 = .ok (.invokevirtual 45, 3) := by decide +kernel
theorem dX2_isOutNear_8 : decode cX2_isOutNear 8 = .ok (.istore_n 2, 1) := by decide +kernel
theorem dX2_isOutNear_9 : decode cX2_isOutNear 9 = .ok (.aload_n 0, 1) := by decide +kernel
theorem dX2_isOutNear_10 : decode cX2_isOutNear 10 = .ok (.getfield 42, 3) := by decide +kernel
theorem dX2_isOutNear_13 : decode cX2_isOutNear 13 = .ok (.bipush 41, 2) := by decide +kernel
theorem dX2_isOutNear_15 : decode cX2_isOutNear 15 = .ok (.if_icmp .eq 16, 3) := by decide +kernel
theorem dX2_isOutNear_18 : decode cX2_isOutNear 18 = .ok (.iload_n 2, 1) := by decide +kernel
theorem dX2_isOutNear_19 : decode cX2_isOutNear 19 = .ok (.iconst (-1), 1) := by decide +kernel
theorem dX2_isOutNear_20 : decode cX2_isOutNear 20 = .ok (.if_icmp .eq 15, 3) := by decide +kernel
theorem dX2_isOutNear_23 : decode cX2_isOutNear 23 = .ok (.iload_n 2, 1) := by decide +kernel
theorem dX2_isOutNear_24 : decode cX2_isOutNear 24 = .ok (.aload_n 0, 1) := by decide +kernel
theorem dX2_isOutNear_25 : decode cX2_isOutNear 25 = .ok (.getfield 42, 3) := by decide +kernel
theorem dX2_isOutNear_28 : decode cX2_isOutNear 28 = .ok (.if_icmp .gt 7, 3) := by decide +kernel
theorem dX2_isOutNear_31 : decode cX2_isOutNear 31 = .ok (.iconst 1, 1) := by decide +kernel
theorem dX2_isOutNear_32 : decode cX2_isOutNear 32 = .ok (.goto 4, 3) := by decide +kernel
theorem dX2_isOutNear_35 : decode cX2_isOutNear 35 = .ok (.iconst 0, 1) := by decide +kernel
theorem dX2_isOutNear_36 : decode cX2_isOutNear 36 = .ok (.ireturn, 1) := by decide +kernel
theorem dX2_become_0 : decode cX2_become 0 = .ok (.aload_n 0, 1) := by decide +kernel
theorem dX2_become_1 : decode cX2_become 1 = .ok (.getfield 14, 3) := by decide +kernel
theorem dX2_become_4 : decode cX2_become 4 = .ok (.iload_n 1, 1) := by decide +kernel
theorem dX2_become_5 : decode cX2_become 5 = .ok (.iload_n 2, 1) := by decide +kernel
theorem dX2_become_6 : decode cX2_become 6 = .ok (.invokevirtual 49, 3) := by decide +kernel
theorem dX2_become_9 : decode cX2_become 9 = .ok (.aload_n 0, 1) := by decide +kernel
theorem dX2_become_10 : decode cX2_become 10 = .ok (.invokevirtual 53, 3) := by decide +kernel
theorem dX2_become_13 : decode cX2_become 13 = .ok (.return_, 1) := by decide +kernel
theorem dX2_addSlot_0 : decode cX2_addSlot 0 = .ok (.aload_n 0, 1) := by decide +kernel
theorem dX2_addSlot_1 : decode cX2_addSlot 1 = .ok (.getfield 39, 3) := by decide +kernel
theorem dX2_addSlot_4 : decode cX2_addSlot 4 = .ok (.istore_n 2, 1) := by decide +kernel
theorem dX2_addSlot_5 : decode cX2_addSlot 5 = .ok (.aload_n 0, 1) := by decide +kernel
theorem dX2_addSlot_6 : decode cX2_addSlot 6 = .ok (.getfield 20, 3) := by decide +kernel
theorem dX2_addSlot_9 : decode cX2_addSlot 9 = .ok (.iload_n 2, 1) := by decide +kernel
theorem dX2_addSlot_10 : decode cX2_addSlot 10 = .ok (.iload_n 1, 1) := by decide +kernel
theorem dX2_addSlot_11 : decode cX2_addSlot 11 = .ok (.invokevirtual 49, 3) := by decide +kernel
theorem dX2_addSlot_14 : decode cX2_addSlot 14 = .ok (.aload_n 0, 1) := by decide +kernel
theorem dX2_addSlot_15 : decode cX2_addSlot 15 = .ok (.dup, 1) := by decide +kernel
theorem dX2_addSlot_16 : decode cX2_addSlot 16 = .ok (.getfield 39, 3) := by decide +kernel
theorem dX2_addSlot_19 : decode cX2_addSlot 19 = .ok (.iconst 1, 1) := by decide +kernel
theorem dX2_addSlot_20 : decode cX2_addSlot 20 = .ok (.iadd, 1) := by decide +kernel
theorem dX2_addSlot_21 : decode cX2_addSlot 21 = .ok (.putfield 39, 3) := by decide +kernel
theorem dX2_addSlot_24 : decode cX2_addSlot 24 = .ok (.aload_n 0, 1) := by decide +kernel
theorem dX2_addSlot_25 : decode cX2_addSlot 25 = .ok (.iload_n 1, 1) := by decide +kernel
theorem dX2_addSlot_26 : decode cX2_addSlot 26 = .ok (.iconst 2, 1) := by decide +kernel
theorem dX2_addSlot_27 : decode cX2_addSlot 27 = .ok (.invokevirtual 56, 3) := by decide +kernel
theorem dX2_addSlot_30 : decode cX2_addSlot 30 = .ok (.iload_n 2, 1) := by decide +kernel
theorem dX2_addSlot_31 : decode cX2_addSlot 31 = .ok (.ireturn, 1) := by decide +kernel
theorem dX2_measure_0 : decode cX2_measure 0 = .ok (.iconst 0, 1) := by decide +kernel
theorem dX2_measure_1 : decode cX2_measure 1 = .ok (.istore_n 1, 1) := by decide +kernel
theorem dX2_measure_2 : decode cX2_measure 2 = .ok (.iload_n 1, 1) := by decide +kernel
theorem dX2_measure_3 : decode cX2_measure 3 = .ok (.aload_n 0, 1) := by decide +kernel
theorem dX2_measure_4 : decode cX2_measure 4 = .ok (.getfield 39, 3) := by decide +kernel
theorem dX2_measure_7 : decode cX2_measure 7 = .ok (.if_icmp .ge 77, 3) := by decide +kernel
theorem dX2_measure_10 : decode cX2_measure 10 = .ok (.aload_n 0, 1) := by decide +kernel
theorem dX2_measure_11 : decode cX2_measure 11 = .ok (.aload_n 0, 1) := by decide +kernel
theorem dX2_measure_12 : decode cX2_measure 12 = .ok (.getfield 20, 3) := by decide +kernel
theorem dX2_measure_15 : decode cX2_measure 15 = .ok (.iload_n 1, 1) := by decide +kernel
theorem dX2_measure_16 : decode cX2_measure 16 = .ok (.invokevirtual 45, 3) := by decide +kernel
theorem dX2_measure_19 : decode cX2_measure 19 = .ok (.invokevirtual 59, 3) := by decide +kernel
theorem dX2_measure_22 : decode cX2_measure 22 = .ok (.iconst 0, 1) := by decide +kernel
theorem dX2_measure_23 : decode cX2_measure 23 = .ok (.istore_n 2, 1) := by decide +kernel
theorem dX2_measure_24 : decode cX2_measure 24 = .ok (.iload_n 2, 1) := by decide +kernel
theorem dX2_measure_25 : decode cX2_measure 25 = .ok (.aload_n 0, 1) := by decide +kernel
theorem dX2_measure_26 : decode cX2_measure 26 = .ok (.getfield 39, 3) := by decide +kernel
theorem dX2_measure_29 : decode cX2_measure 29 = .ok (.if_icmp .ge 37, 3) := by decide +kernel
theorem dX2_measure_32 : decode cX2_measure 32 = .ok (.aload_n 0, 1) := by decide +kernel
theorem dX2_measure_33 : decode cX2_measure 33 = .ok (.getfield 23, 3) := by decide +kernel
theorem dX2_measure_36 : decode cX2_measure 36 = .ok (.iload_n 1, 1) := by decide +kernel
theorem dX2_measure_37 : decode cX2_measure 37 = .ok (.bipush 6, 2) := by decide +kernel
theorem dX2_measure_39 : decode cX2_measure 39 = .ok (.imul, 1) := by decide +kernel
theorem dX2_measure_40 : decode cX2_measure 40 = .ok (.iload_n 2, 1) := by decide +kernel
theorem dX2_measure_41 : decode cX2_measure 41 = .ok (.iadd, 1) := by decide +kernel
theorem dX2_measure_42 : decode cX2_measure 42 = .ok (.aload_n 0, 1) := by decide +kernel
theorem dX2_measure_43 : decode cX2_measure 43 = .ok (.getfield 29, 3) := by decide +kernel
theorem dX2_measure_46 : decode cX2_measure 46 = .ok (.aload_n 0, 1) := by decide +kernel
theorem dX2_measure_47 : decode cX2_measure 47 = .ok (.getfield 20, 3) := by decide +kernel
theorem dX2_measure_50 : decode cX2_measure 50 = .ok (.iload_n 2, 1) := by decide +kernel
theorem dX2_measure_51 : decode cX2_measure 51 = .ok (.invokevirtual 45, 3) := by decide +kernel
theorem dX2_measure_54 : decode cX2_measure 54 = .ok (.invokevirtual 45, 3) := by decide +kernel
theorem dX2_measure_57 : decode cX2_measure 57 = .ok (.invokevirtual 49, 3) := by decide +kernel
theorem dX2_measure_60 : decode cX2_measure 60 = .ok (.iinc 2 1, 3) := by decide +kernel
theorem dX2_measure_63 : decode cX2_measure 63 = .ok (.goto (-39), 3) := by decide +kernel
theorem dX2_measure_66 : decode cX2_measure 66 = .ok (.aload_n 0, 1) := by decide +kernel
theorem dX2_measure_67 : decode cX2_measure 67 = .ok (.getfield 26, 3) := by decide +kernel
theorem dX2_measure_70 : decode cX2_measure 70 = .ok (.iload_n 1, 1) := by decide +kernel
theorem dX2_measure_71 : decode cX2_measure 71 = .ok (.aload_n 0, 1) := by decide +kernel
theorem dX2_measure_72 : decode cX2_measure 72 = .ok (.invokevirtual 62, 3) := by decide +kernel
theorem dX2_measure_75 : decode cX2_measure 75 = .ok (.invokevirtual 49, 3) := by decide +kernel
theorem dX2_measure_78 : decode cX2_measure 78 = .ok (.iinc 1 1, 3) := by decide +kernel
theorem dX2_measure_81 : decode cX2_measure 81 = .ok (.goto (-79), 3) := by decide +kernel
theorem dX2_measure_84 : decode cX2_measure 84 = .ok (.return_, 1) := by decide +kernel
theorem dX2_flood_0 : decode cX2_flood 0 = .ok (.iconst 0, 1) := by decide +kernel
theorem dX2_flood_1 : decode cX2_flood 1 = .ok (.istore_n 2, 1) := by decide +kernel
theorem dX2_flood_2 : decode cX2_flood 2 = .ok (.iload_n 2, 1) := by decide +kernel
theorem dX2_flood_3 : decode cX2_flood 3 = .ok (.bipush 36, 2) := by decide +kernel
theorem dX2_flood_5 : decode cX2_flood 5 = .ok (.if_icmp .ge 18, 3) := by decide +kernel
theorem dX2_flood_8 : decode cX2_flood 8 = .ok (.aload_n 0, 1) := by decide +kernel
theorem dX2_flood_9 : decode cX2_flood 9 = .ok (.getfield 29, 3) := by decide +kernel
theorem dX2_flood_12 : decode cX2_flood 12 = .ok (.iload_n 2, 1) := by decide +kernel
theorem dX2_flood_13 : decode cX2_flood 13 = .ok (.iconst (-1), 1) := by decide +kernel
theorem dX2_flood_14 : decode cX2_flood 14 = .ok (.invokevirtual 49, 3) := by decide +kernel
theorem dX2_flood_17 : decode cX2_flood 17 = .ok (.iinc 2 1, 3) := by decide +kernel
theorem dX2_flood_20 : decode cX2_flood 20 = .ok (.goto (-18), 3) := by decide +kernel
theorem dX2_flood_23 : decode cX2_flood 23 = .ok (.aload_n 0, 1) := by decide +kernel
theorem dX2_flood_24 : decode cX2_flood 24 = .ok (.getfield 29, 3) := by decide +kernel
theorem dX2_flood_27 : decode cX2_flood 27 = .ok (.iload_n 1, 1) := by decide +kernel
theorem dX2_flood_28 : decode cX2_flood 28 = .ok (.iconst 0, 1) := by decide +kernel
theorem dX2_flood_29 : decode cX2_flood 29 = .ok (.invokevirtual 49, 3) := by decide +kernel
theorem dX2_flood_32 : decode cX2_flood 32 = .ok (.aload_n 0, 1) := by decide +kernel
theorem dX2_flood_33 : decode cX2_flood 33 = .ok (.getfield 32, 3) := by decide +kernel
theorem dX2_flood_36 : decode cX2_flood 36 = .ok (.iconst 0, 1) := by decide +kernel
theorem dX2_flood_37 : decode cX2_flood 37 = .ok (.iload_n 1, 1) := by decide +kernel
theorem dX2_flood_38 : decode cX2_flood 38 = .ok (.invokevirtual 49, 3) := by decide +kernel
theorem dX2_flood_41 : decode cX2_flood 41 = .ok (.aload_n 0, 1) := by decide +kernel
theorem dX2_flood_42 : decode cX2_flood 42 = .ok (.iconst 1, 1) := by decide +kernel
theorem dX2_flood_43 : decode cX2_flood 43 = .ok (.putfield 35, 3) := by decide +kernel
theorem dX2_flood_46 : decode cX2_flood 46 = .ok (.iconst 0, 1) := by decide +kernel
theorem dX2_flood_47 : decode cX2_flood 47 = .ok (.istore_n 2, 1) := by decide +kernel
theorem dX2_flood_48 : decode cX2_flood 48 = .ok (.iload_n 2, 1) := by decide +kernel
theorem dX2_flood_49 : decode cX2_flood 49 = .ok (.aload_n 0, 1) := by decide +kernel
theorem dX2_flood_50 : decode cX2_flood 50 = .ok (.getfield 35, 3) := by decide +kernel
theorem dX2_flood_53 : decode cX2_flood 53 = .ok (.if_icmp .ge 108, 3) := by decide +kernel
theorem dX2_flood_56 : decode cX2_flood 56 = .ok (.iload_n 2, 1) := by decide +kernel
theorem dX2_flood_57 : decode cX2_flood 57 = .ok (.bipush 36, 2) := by decide +kernel
theorem dX2_flood_59 : decode cX2_flood 59 = .ok (.if_icmp .ge 102, 3) := by decide +kernel
theorem dX2_flood_62 : decode cX2_flood 62 = .ok (.aload_n 0, 1) := by decide +kernel
theorem dX2_flood_63 : decode cX2_flood 63 = .ok (.getfield 32, 3) := by decide +kernel
theorem dX2_flood_66 : decode cX2_flood 66 = .ok (.iload_n 2, 1) := by decide +kernel
theorem dX2_flood_67 : decode cX2_flood 67 = .ok (.invokevirtual 45, 3) := by decide +kernel
theorem dX2_flood_70 : decode cX2_flood 70 = .ok (.istore_n 3, 1) := by decide +kernel
theorem dX2_flood_71 : decode cX2_flood 71 = .ok (.aload_n 0, 1) := by decide +kernel
theorem dX2_flood_72 : decode cX2_flood 72 = .ok (.getfield 29, 3) := by decide +kernel
theorem dX2_flood_75 : decode cX2_flood 75 = .ok (.iload_n 3, 1) := by decide +kernel
theorem dX2_flood_76 : decode cX2_flood 76 = .ok (.invokevirtual 45, 3) := by decide +kernel
theorem dX2_flood_79 : decode cX2_flood 79 = .ok (.iconst 1, 1) := by decide +kernel
theorem dX2_flood_80 : decode cX2_flood 80 = .ok (.iadd, 1) := by decide +kernel
theorem dX2_flood_81 : decode cX2_flood 81 = .ok (.istore 4, 2) := by decide +kernel
theorem dX2_flood_83 : decode cX2_flood 83 = .ok (.iload_n 3, 1) := by decide +kernel
theorem dX2_flood_84 : decode cX2_flood 84 = .ok (.bipush 6, 2) := by decide +kernel
theorem dX2_flood_86 : decode cX2_flood 86 = .ok (.irem, 1) := by decide +kernel
theorem dX2_flood_87 : decode cX2_flood 87 = .ok (.istore 5, 2) := by decide +kernel
theorem dX2_flood_89 : decode cX2_flood 89 = .ok (.iload_n 3, 1) := by decide +kernel
theorem dX2_flood_90 : decode cX2_flood 90 = .ok (.bipush 6, 2) := by decide +kernel
theorem dX2_flood_92 : decode cX2_flood 92 = .ok (.idiv, 1) := by decide +kernel
theorem dX2_flood_93 : decode cX2_flood 93 = .ok (.istore 6, 2) := by decide +kernel
theorem dX2_flood_95 : decode cX2_flood 95 = .ok (.aload_n 0, 1) := by decide +kernel
theorem dX2_flood_96 : decode cX2_flood 96 = .ok (.iload 5, 2) := by decide +kernel
theorem dX2_flood_98 : decode cX2_flood 98 = .ok (.iconst 1, 1) := by decide +kernel
theorem dX2_flood_99 : decode cX2_flood 99 = .ok (.isub, 1) := by decide +kernel
theorem dX2_flood_100 : decode cX2_flood 100 = .ok (.iload 6, 2) := by decide +kernel
theorem dX2_flood_102 : decode cX2_flood 102 = .ok (.invokestatic 66, 3) := by decide +kernel
theorem dX2_flood_105 : decode cX2_flood 105 = .ok (.iload 4, 2) := by decide +kernel
theorem dX2_flood_107 : decode cX2_flood 107 = .ok (.invokevirtual 70, 3) := by decide +kernel
theorem dX2_flood_110 : decode cX2_flood 110 = .ok (.aload_n 0, 1) := by decide +kernel
theorem dX2_flood_111 : decode cX2_flood 111 = .ok (.iload 5, 2) := by decide +kernel
theorem dX2_flood_113 : decode cX2_flood 113 = .ok (.iconst 1, 1) := by decide +kernel
theorem dX2_flood_114 : decode cX2_flood 114 = .ok (.iadd, 1) := by decide +kernel
theorem dX2_flood_115 : decode cX2_flood 115 = .ok (.iload 6, 2) := by decide +kernel
theorem dX2_flood_117 : decode cX2_flood 117 = .ok (.invokestatic 66, 3) := by decide +kernel
theorem dX2_flood_120 : decode cX2_flood 120 = .ok (.iload 4, 2) := by decide +kernel
theorem dX2_flood_122 : decode cX2_flood 122 = .ok (.invokevirtual 70, 3) := by decide +kernel
theorem dX2_flood_125 : decode cX2_flood 125 = .ok (.aload_n 0, 1) := by decide +kernel
theorem dX2_flood_126 : decode cX2_flood 126 = .ok (.iload 5, 2) := by decide +kernel
theorem dX2_flood_128 : decode cX2_flood 128 = .ok (.iload 6, 2) := by decide +kernel
theorem dX2_flood_130 : decode cX2_flood 130 = .ok (.iconst 1, 1) := by decide +kernel
theorem dX2_flood_131 : decode cX2_flood 131 = .ok (.isub, 1) := by decide +kernel
theorem dX2_flood_132 : decode cX2_flood 132 = .ok (.invokestatic 66, 3) := by decide +kernel
theorem dX2_flood_135 : decode cX2_flood 135 = .ok (.iload 4, 2) := by decide +kernel
theorem dX2_flood_137 : decode cX2_flood 137 = .ok (.invokevirtual 70, 3) := by decide +kernel
theorem dX2_flood_140 : decode cX2_flood 140 = .ok (.aload_n 0, 1) := by decide +kernel
theorem dX2_flood_141 : decode cX2_flood 141 = .ok (.iload 5, 2) := by decide +kernel
theorem dX2_flood_143 : decode cX2_flood 143 = .ok (.iload 6, 2) := by decide +kernel
theorem dX2_flood_145 : decode cX2_flood 145 = .ok (.iconst 1, 1) := by decide +kernel
theorem dX2_flood_146 : decode cX2_flood 146 = .ok (.iadd, 1) := by decide +kernel
theorem dX2_flood_147 : decode cX2_flood 147 = .ok (.invokestatic 66, 3) := by decide +kernel
theorem dX2_flood_150 : decode cX2_flood 150 = .ok (.iload 4, 2) := by decide +kernel
theorem dX2_flood_152 : decode cX2_flood 152 = .ok (.invokevirtual 70, 3) := by decide +kernel
theorem dX2_flood_155 : decode cX2_flood 155 = .ok (.iinc 2 1, 3) := by decide +kernel
theorem dX2_flood_158 : decode cX2_flood 158 = .ok (.goto (-110), 3) := by decide +kernel
theorem dX2_flood_161 : decode cX2_flood 161 = .ok (.return_, 1) := by decide +kernel
theorem dX2_reach_0 : decode cX2_reach 0 = .ok (.iload_n 1, 1) := by decide +kernel
theorem dX2_reach_1 : decode cX2_reach 1 = .ok (.iconst (-1), 1) := by decide +kernel
theorem dX2_reach_2 : decode cX2_reach 2 = .ok (.if_icmp .eq 27, 3) := by decide +kernel
theorem dX2_reach_5 : decode cX2_reach 5 = .ok (.aload_n 0, 1) := by decide +kernel
theorem dX2_reach_6 : decode cX2_reach 6 = .ok (.getfield 29, 3) := by decide +kernel
theorem dX2_reach_9 : decode cX2_reach 9 = .ok (.iload_n 1, 1) := by decide +kernel
theorem dX2_reach_10 : decode cX2_reach 10 = .ok (.invokevirtual 45, 3) := by decide +kernel
theorem dX2_reach_13 : decode cX2_reach 13 = .ok (.iconst (-1), 1) := by decide +kernel
theorem dX2_reach_14 : decode cX2_reach 14 = .ok (.if_icmp .ne 15, 3) := by decide +kernel
theorem dX2_reach_17 : decode cX2_reach 17 = .ok (.aload_n 0, 1) := by decide +kernel
theorem dX2_reach_18 : decode cX2_reach 18 = .ok (.getfield 14, 3) := by decide +kernel
theorem dX2_reach_21 : decode cX2_reach 21 = .ok (.iload_n 1, 1) := by decide +kernel
theorem dX2_reach_22 : decode cX2_reach 22 = .ok (.invokevirtual 45, 3) := by decide +kernel
theorem dX2_reach_25 : decode cX2_reach 25 = .ok (.iconst 1, 1) := by decide +kernel
theorem dX2_reach_26 : decode cX2_reach 26 = .ok (.if_icmp .ne 4, 3) := by decide +kernel
theorem dX2_reach_29 : decode cX2_reach 29 = .ok (.return_, 1) := by decide +kernel
theorem dX2_reach_30 : decode cX2_reach 30 = .ok (.aload_n 0, 1) := by decide +kernel
theorem dX2_reach_31 : decode cX2_reach 31 = .ok (.getfield 29, 3) := by decide +kernel
theorem dX2_reach_34 : decode cX2_reach 34 = .ok (.iload_n 1, 1) := by decide +kernel
theorem dX2_reach_35 : decode cX2_reach 35 = .ok (.iload_n 2, 1) := by decide +kernel
theorem dX2_reach_36 : decode cX2_reach 36 = .ok (.invokevirtual 49, 3) := by decide +kernel
theorem dX2_reach_39 : decode cX2_reach 39 = .ok (.aload_n 0, 1) := by decide +kernel
theorem dX2_reach_40 : decode cX2_reach 40 = .ok (.getfield 14, 3) := by decide +kernel
theorem dX2_reach_43 : decode cX2_reach 43 = .ok (.iload_n 1, 1) := by decide +kernel
theorem dX2_reach_44 : decode cX2_reach 44 = .ok (.invokevirtual 45, 3) := by decide +kernel
theorem dX2_reach_47 : decode cX2_reach 47 = .ok (.iconst 2, 1) := by decide +kernel
theorem dX2_reach_48 : decode cX2_reach 48 = .ok (.if_icmp .eq 25, 3) := by decide +kernel
theorem dX2_reach_51 : decode cX2_reach 51 = .ok (.aload_n 0, 1) := by decide +kernel
theorem dX2_reach_52 : decode cX2_reach 52 = .ok (.getfield 32, 3) := by decide +kernel
theorem dX2_reach_55 : decode cX2_reach 55 = .ok (.aload_n 0, 1) := by decide +kernel
theorem dX2_reach_56 : decode cX2_reach 56 = .ok (.getfield 35, 3) := by decide +kernel
theorem dX2_reach_59 : decode cX2_reach 59 = .ok (.iload_n 1, 1) := by decide +kernel
theorem dX2_reach_60 : decode cX2_reach 60 = .ok (.invokevirtual 49, 3) := by decide +kernel
theorem dX2_reach_63 : decode cX2_reach 63 = .ok (.aload_n 0, 1) := by decide +kernel
theorem dX2_reach_64 : decode cX2_reach 64 = .ok (.dup, 1) := by decide +kernel
theorem dX2_reach_65 : decode cX2_reach 65 = .ok (.getfield 35, 3) := by decide +kernel
theorem dX2_reach_68 : decode cX2_reach 68 = .ok (.iconst 1, 1) := by decide +kernel
theorem dX2_reach_69 : decode cX2_reach 69 = .ok (.iadd, 1) := by decide +kernel
theorem dX2_reach_70 : decode cX2_reach 70 = .ok (.putfield 35, 3) := by decide +kernel
theorem dX2_reach_73 : decode cX2_reach 73 = .ok (.return_, 1) := by decide +kernel
theorem dX2_nearestExit_0 : decode cX2_nearestExit 0 = .ok (.iconst (-1), 1) := by decide +kernel
theorem dX2_nearestExit_1 : decode cX2_nearestExit 1 = .ok (.istore_n 1, 1) := by decide +kernel
theorem dX2_nearestExit_2 : decode cX2_nearestExit 2 = .ok (.iconst 0, 1) := by decide +kernel
theorem dX2_nearestExit_3 : decode cX2_nearestExit 3 = .ok (.istore_n 2, 1) := by decide +kernel
theorem dX2_nearestExit_4 : decode cX2_nearestExit 4 = .ok (.iload_n 2, 1) := by decide +kernel
theorem dX2_nearestExit_5 : decode cX2_nearestExit 5 = .ok (.bipush 36, 2) := by decide +kernel
theorem dX2_nearestExit_7 : decode cX2_nearestExit 7 = .ok (.if_icmp .ge 47, 3) := by decide +kernel
theorem dX2_nearestExit_10 : decode cX2_nearestExit 10 = .ok (.aload_n 0, 1) := by decide +kernel
theorem dX2_nearestExit_11 : decode cX2_nearestExit 11 = .ok (.getfield 29, 3) := by decide +kernel
theorem dX2_nearestExit_14 : decode cX2_nearestExit 14 = .ok (.iload_n 2, 1) := by decide +kernel
theorem dX2_nearestExit_15 : decode cX2_nearestExit 15 = .ok (.invokevirtual 45, 3) := by decide +kernel
theorem dX2_nearestExit_18 : decode cX2_nearestExit 18 = .ok (.istore_n 3, 1) := by decide +kernel
theorem dX2_nearestExit_19 : decode cX2_nearestExit 19 = .ok (.aload_n 0, 1) := by decide +kernel
theorem dX2_nearestExit_20 : decode cX2_nearestExit 20 = .ok (.getfield 14, 3) := by decide +kernel
theorem dX2_nearestExit_23 : decode cX2_nearestExit 23 = .ok (.iload_n 2, 1) := by decide +kernel
theorem dX2_nearestExit_24 : decode cX2_nearestExit 24 = .ok (.invokevirtual 45, 3) := by decide +kernel
theorem dX2_nearestExit_27 : decode cX2_nearestExit 27 = .ok (.iconst 3, 1) := by decide +kernel
theorem dX2_nearestExit_28 : decode cX2_nearestExit 28 = .ok (.if_icmp .ne 20, 3) := by decide +kernel
theorem dX2_nearestExit_31 : decode cX2_nearestExit 31 = .ok (.iload_n 3, 1) := by decide +kernel
theorem dX2_nearestExit_32 : decode cX2_nearestExit 32 = .ok (.iconst (-1), 1) := by decide +kernel
theorem dX2_nearestExit_33 : decode cX2_nearestExit 33 = .ok (.if_icmp .eq 15, 3) := by decide +kernel
theorem dX2_nearestExit_36 : decode cX2_nearestExit 36 = .ok (.iload_n 1, 1) := by decide +kernel
theorem dX2_nearestExit_37 : decode cX2_nearestExit 37 = .ok (.iconst (-1), 1) := by decide +kernel
theorem dX2_nearestExit_38 : decode cX2_nearestExit 38 = .ok (.if_icmp .eq 8, 3) := by decide +kernel
theorem dX2_nearestExit_41 : decode cX2_nearestExit 41 = .ok (.iload_n 3, 1) := by decide +kernel
theorem dX2_nearestExit_42 : decode cX2_nearestExit 42 = .ok (.iload_n 1, 1) := by decide +kernel
theorem dX2_nearestExit_43 : decode cX2_nearestExit 43 = .ok (.if_icmp .ge 5, 3) := by decide +kernel
theorem dX2_nearestExit_46 : decode cX2_nearestExit 46 = .ok (.iload_n 3, 1) := by decide +kernel
theorem dX2_nearestExit_47 : decode cX2_nearestExit 47 = .ok (.istore_n 1, 1) := by decide +kernel
theorem dX2_nearestExit_48 : decode cX2_nearestExit 48 = .ok (.iinc 2 1, 3) := by decide +kernel
theorem dX2_nearestExit_51 : decode cX2_nearestExit 51 = .ok (.goto (-47), 3) := by decide +kernel
theorem dX2_nearestExit_54 : decode cX2_nearestExit 54 = .ok (.iload_n 1, 1) := by decide +kernel
theorem dX2_nearestExit_55 : decode cX2_nearestExit 55 = .ok (.ireturn, 1) := by decide +kernel
theorem dX3_init_0 : decode cX3_init 0 = .ok (.aload_n 0, 1) := by decide +kernel
theorem dX3_init_1 : decode cX3_init 1 = .ok (.invokespecial 3, 3) := by decide +kernel
theorem dX3_init_4 : decode cX3_init 4 = .ok (.aload_n 0, 1) := by decide +kernel
theorem dX3_init_5 : decode cX3_init 5 = .ok (.aload_n 1, 1) := by decide +kernel
theorem dX3_init_6 : decode cX3_init 6 = .ok (.putfield 9, 3) := by decide +kernel
theorem dX3_init_9 : decode cX3_init 9 = .ok (.aload_n 0, 1) := by decide +kernel
theorem dX3_init_10 : decode cX3_init 10 = .ok (.aload_n 2, 1) := by decide +kernel
theorem dX3_init_11 : decode cX3_init 11 = .ok (.putfield 15, 3) := by decide +kernel
theorem dX3_init_14 : decode cX3_init 14 = .ok (.return_, 1) := by decide +kernel
theorem dX3_costOf_0 : decode cX3_costOf 0 = .ok (.aload_n 0, 1) := by decide +kernel
theorem dX3_costOf_1 : decode cX3_costOf 1 = .ok (.aload_n 2, 1) := by decide +kernel
theorem dX3_costOf_2 : decode cX3_costOf 2 = .ok (.invokevirtual 19, 3) := by decide +kernel
theorem dX3_costOf_5 : decode cX3_costOf 5 = .ok (.ifCond .eq 11, 3) := by decide +kernel
theorem dX3_costOf_8 : decode cX3_costOf 8 = .ok (.aload_n 0, 1) := by decide +kernel
theorem dX3_costOf_9 : decode cX3_costOf 9 = .ok (.aload_n 2, 1) := by decide +kernel
theorem dX3_costOf_10 : decode cX3_costOf 10 = .ok (.invokevirtual 23, 3) := by decide +kernel
theorem dX3_costOf_13 : decode cX3_costOf 13 = .ok (.ifCond .ne 5, 3) := by decide +kernel
theorem dX3_costOf_16 : decode cX3_costOf 16 = .ok (.iconst (-1), 1) := by decide +kernel
theorem dX3_costOf_17 : decode cX3_costOf 17 = .ok (.ireturn, 1) := by decide +kernel
theorem dX3_costOf_18 : decode cX3_costOf 18 = .ok (.iconst 0, 1) := by decide +kernel
theorem dX3_costOf_19 : decode cX3_costOf 19 = .ok (.istore_n 3, 1) := by decide +kernel
theorem dX3_costOf_20 : decode cX3_costOf 20 = .ok (.iconst 0, 1) := by decide +kernel
theorem dX3_costOf_21 : decode cX3_costOf 21 = .ok (.istore 4, 2) := by decide +kernel
theorem dX3_costOf_23 : decode cX3_costOf 23 = .ok (.iload 4, 2) := by decide +kernel
theorem dX3_costOf_25 : decode cX3_costOf 25 = .ok (.aload_n 2, 1) := by decide +kernel
theorem dX3_costOf_26 : decode cX3_costOf 26 = .ok (.invokevirtual 26, 3) := by decide +kernel
theorem dX3_costOf_29 : decode cX3_costOf 29 = .ok (.if_icmp .ge 86, 3) := by decide +kernel
theorem dX3_costOf_32 : decode cX3_costOf 32 = .ok (.iload 4, 2) := by decide +kernel
theorem dX3_costOf_34 : decode cX3_costOf 34 = .ok (.iconst 1, 1) := by decide +kernel
theorem dX3_costOf_35 : decode cX3_costOf 35 = .ok (.iadd, 1) := by decide +kernel
theorem dX3_costOf_36 : decode cX3_costOf 36 = .ok (.istore 5, 2) := by decide +kernel
theorem dX3_costOf_38 : decode cX3_costOf 38 = .ok (.iload 5, 2) := by decide +kernel
theorem dX3_costOf_40 : decode cX3_costOf 40 = .ok (.aload_n 2, 1) := by decide +kernel
theorem dX3_costOf_41 : decode cX3_costOf 41 = .ok (.invokevirtual 26, 3) := by decide +kernel
theorem dX3_costOf_44 : decode cX3_costOf 44 = .ok (.if_icmp .ge 65, 3) := by decide +kernel
theorem dX3_costOf_47 : decode cX3_costOf 47 = .ok (.aload_n 0, 1) := by decide +kernel
theorem dX3_costOf_48 : decode cX3_costOf 48 = .ok (.getfield 15, 3) := by decide +kernel
theorem dX3_costOf_51 : decode cX3_costOf 51 = .ok (.iload_n 1, 1) := by decide +kernel
theorem dX3_costOf_52 : decode cX3_costOf 52 = .ok (.iload 4, 2) := by decide +kernel
theorem dX3_costOf_54 : decode cX3_costOf 54 = .ok (.iload 5, 2) := by decide +kernel
theorem dX3_costOf_56 : decode cX3_costOf 56 = .ok (.invokevirtual 32, 3) := by decide +kernel
theorem dX3_costOf_59 : decode cX3_costOf 59 = .ok (.istore 6, 2) := by decide +kernel
theorem dX3_costOf_61 : decode cX3_costOf 61 = .ok (.aload_n 0, 1) := by decide +kernel
theorem dX3_costOf_62 : decode cX3_costOf 62 = .ok (.getfield 9, 3) := by decide +kernel
theorem dX3_costOf_65 : decode cX3_costOf 65 = .ok (.aload_n 2, 1) := by decide +kernel
theorem dX3_costOf_66 : decode cX3_costOf 66 = .ok (.iload 4, 2) := by decide +kernel
theorem dX3_costOf_68 : decode cX3_costOf 68 = .ok (.invokevirtual 38, 3) := by decide +kernel
theorem dX3_costOf_71 : decode cX3_costOf 71 = .ok (.aload_n 2, 1) := by decide +kernel
theorem dX3_costOf_72 : decode cX3_costOf 72 = .ok (.iload 5, 2) := by decide +kernel
theorem dX3_costOf_74 : decode cX3_costOf 74 = .ok (.invokevirtual 38, 3) := by decide +kernel
theorem dX3_costOf_77 : decode cX3_costOf 77 = .ok (.invokevirtual 42, 3) := by decide +kernel
theorem dX3_costOf_80 : decode cX3_costOf 80 = .ok (.istore 7, 2) := by decide +kernel
theorem dX3_costOf_82 : decode cX3_costOf 82 = .ok (.iload 6, 2) := by decide +kernel
theorem dX3_costOf_84 : decode cX3_costOf 84 = .ok (.ifCond .le 11, 3) := by decide +kernel
theorem dX3_costOf_87 : decode cX3_costOf 87 = .ok (.iload 7, 2) := by decide +kernel
theorem dX3_costOf_89 : decode cX3_costOf 89 = .ok (.iconst (-1), 1) := by decide +kernel
theorem dX3_costOf_90 : decode cX3_costOf 90 = .ok (.if_icmp .ne 5, 3) := by decide +kernel
theorem dX3_costOf_93 : decode cX3_costOf 93 = .ok (.iconst (-1), 1) := by decide +kernel
theorem dX3_costOf_94 : decode cX3_costOf 94 = .ok (.ireturn, 1) := by decide +kernel
theorem dX3_costOf_95 : decode cX3_costOf 95 = .ok (.iload_n 3, 1) := by decide +kernel
theorem dX3_costOf_96 : decode cX3_costOf 96 = .ok (.iload 6, 2) := by decide +kernel
theorem dX3_costOf_98 : decode cX3_costOf 98 = .ok (.iload 7, 2) := by decide +kernel
theorem dX3_costOf_100 : decode cX3_costOf 100 = .ok (.imul, 1) := by decide +kernel
theorem dX3_costOf_101 : decode cX3_costOf 101 = .ok (.iadd, 1) := by decide +kernel
theorem dX3_costOf_102 : decode cX3_costOf 102 = .ok (.istore_n 3, 1) := by decide +kernel
theorem dX3_costOf_103 : decode cX3_costOf 103 = .ok (.iinc 5 1, 3) := by decide +kernel
theorem dX3_costOf_106 : decode cX3_costOf 106 = .ok (.goto (-68), 3) := by decide +kernel
theorem dX3_costOf_109 : decode cX3_costOf 109 = .ok (.iinc 4 1, 3) := by decide +kernel
theorem dX3_costOf_112 : decode cX3_costOf 112 = .ok (.goto (-89), 3) := by decide +kernel
theorem dX3_costOf_115 : decode cX3_costOf 115 = .ok (.iload_n 3, 1) := by decide +kernel
theorem dX3_costOf_116 : decode cX3_costOf 116 = .ok (.ireturn, 1) := by decide +kernel
theorem dX3_areExitsNear_0 : decode cX3_areExitsNear 0 = .ok (.iconst 0, 1) := by decide +kernel
theorem dX3_areExitsNear_1 : decode cX3_areExitsNear 1 = .ok (.istore_n 2, 1) := by decide +kernel
theorem dX3_areExitsNear_2 : decode cX3_areExitsNear 2 = .ok (.iload_n 2, 1) := by decide +kernel
theorem dX3_areExitsNear_3 : decode cX3_areExitsNear 3 = .ok (.aload_n 1, 1) := by decide +kernel
theorem dX3_areExitsNear_4 : decode cX3_areExitsNear 4 = .ok (.invokevirtual 26, 3) := by decide +kernel
theorem dX3_areExitsNear_7 : decode cX3_areExitsNear 7 = .ok (.if_icmp .ge 26, 3) := by decide +kernel
theorem dX3_areExitsNear_10 : decode cX3_areExitsNear 10 = .ok (.aload_n 0, 1) := by decide +kernel
theorem dX3_areExitsNear_11 : decode cX3_areExitsNear 11 = .ok (.getfield 9, 3) := by decide +kernel
theorem dX3_areExitsNear_14 : decode cX3_areExitsNear 14 = .ok (.aload_n 1, 1) := by decide +kernel
theorem dX3_areExitsNear_15 : decode cX3_areExitsNear 15 = .ok (.iload_n 2, 1) := by decide +kernel
theorem dX3_areExitsNear_16 : decode cX3_areExitsNear 16 = .ok (.invokevirtual 38, 3) := by decide +kernel
theorem dX3_areExitsNear_19 : decode cX3_areExitsNear 19 = .ok (.invokevirtual 48, 3) := by decide +kernel
theorem dX3_areExitsNear_22 : decode cX3_areExitsNear 22 = .ok (.ifCond .ne 5, 3) := by decide +kernel
theorem dX3_areExitsNear_25 : decode cX3_areExitsNear 25 = .ok (.iconst 0, 1) := by decide +kernel
theorem dX3_areExitsNear_26 : decode cX3_areExitsNear 26 = .ok (.ireturn, 1) := by decide +kernel
theorem dX3_areExitsNear_27 : decode cX3_areExitsNear 27 = .ok (.iinc 2 1, 3) := by decide +kernel
theorem dX3_areExitsNear_30 : decode cX3_areExitsNear 30 = .ok (.goto (-28), 3) := by decide +kernel
theorem dX3_areExitsNear_33 : decode cX3_areExitsNear 33 = .ok (.iconst 1, 1) := by decide +kernel
theorem dX3_areExitsNear_34 : decode cX3_areExitsNear 34 = .ok (.ireturn, 1) := by decide +kernel
theorem dX3_areWishesMet_0 : decode cX3_areWishesMet 0 = .ok (.iconst 0, 1) := by decide +kernel
theorem dX3_areWishesMet_1 : decode cX3_areWishesMet 1 = .ok (.istore_n 2, 1) := by decide +kernel
theorem dX3_areWishesMet_2 : decode cX3_areWishesMet 2 = .ok (.iload_n 2, 1) := by decide +kernel
theorem dX3_areWishesMet_3 : decode cX3_areWishesMet 3 = .ok (.aload_n 0, 1) := by decide +kernel
theorem dX3_areWishesMet_4 : decode cX3_areWishesMet 4 = .ok (.getfield 15, 3) := by decide +kernel
theorem dX3_areWishesMet_7 : decode cX3_areWishesMet 7 = .ok (.invokevirtual 52, 3) := by decide +kernel
theorem dX3_areWishesMet_10 : decode cX3_areWishesMet 10 = .ok (.if_icmp .ge 59, 3) := by decide +kernel
theorem dX3_areWishesMet_13 : decode cX3_areWishesMet 13 = .ok (.aload_n 1, 1) := by decide +kernel
theorem dX3_areWishesMet_14 : decode cX3_areWishesMet 14 = .ok (.aload_n 0, 1) := by decide +kernel
theorem dX3_areWishesMet_15 : decode cX3_areWishesMet 15 = .ok (.getfield 15, 3) := by decide +kernel
theorem dX3_areWishesMet_18 : decode cX3_areWishesMet 18 = .ok (.iload_n 2, 1) := by decide +kernel
theorem dX3_areWishesMet_19 : decode cX3_areWishesMet 19 = .ok (.invokevirtual 55, 3) := by decide +kernel
theorem dX3_areWishesMet_22 : decode cX3_areWishesMet 22 = .ok (.invokevirtual 38, 3) := by decide +kernel
theorem dX3_areWishesMet_25 : decode cX3_areWishesMet 25 = .ok (.istore_n 3, 1) := by decide +kernel
theorem dX3_areWishesMet_26 : decode cX3_areWishesMet 26 = .ok (.aload_n 1, 1) := by decide +kernel
theorem dX3_areWishesMet_27 : decode cX3_areWishesMet 27 = .ok (.aload_n 0, 1) := by decide +kernel
theorem dX3_areWishesMet_28 : decode cX3_areWishesMet 28 = .ok (.getfield 15, 3) := by decide +kernel
theorem dX3_areWishesMet_31 : decode cX3_areWishesMet 31 = .ok (.iload_n 2, 1) := by decide +kernel
theorem dX3_areWishesMet_32 : decode cX3_areWishesMet 32 = .ok (.invokevirtual 58, 3) := by decide +kernel
theorem dX3_areWishesMet_35 : decode cX3_areWishesMet 35 = .ok (.invokevirtual 38, 3) := by decide +kernel
theorem dX3_areWishesMet_38 : decode cX3_areWishesMet 38 = .ok (.istore 4, 2) := by decide +kernel
theorem dX3_areWishesMet_40 : decode cX3_areWishesMet 40 = .ok (.aload_n 0, 1) := by decide +kernel
theorem dX3_areWishesMet_41 : decode cX3_areWishesMet 41 = .ok (.getfield 15, 3) := by decide +kernel
theorem dX3_areWishesMet_44 : decode cX3_areWishesMet 44 = .ok (.iload_n 2, 1) := by decide +kernel
theorem dX3_areWishesMet_45 : decode cX3_areWishesMet 45 = .ok (.aload_n 0, 1) := by decide +kernel
theorem dX3_areWishesMet_46 : decode cX3_areWishesMet 46 = .ok (.getfield 9, 3) := by decide +kernel
theorem dX3_areWishesMet_49 : decode cX3_areWishesMet 49 = .ok (.iload_n 3, 1) := by decide +kernel
theorem dX3_areWishesMet_50 : decode cX3_areWishesMet 50 = .ok (.iload 4, 2) := by decide +kernel
theorem dX3_areWishesMet_52 : decode cX3_areWishesMet 52 = .ok (.invokevirtual 42, 3) := by decide +kernel
theorem dX3_areWishesMet_55 : decode cX3_areWishesMet 55 = .ok (.invokevirtual 61, 3) := by decide +kernel
theorem dX3_areWishesMet_58 : decode cX3_areWishesMet 58 = .ok (.ifCond .ne 5, 3) := by decide +kernel
theorem dX3_areWishesMet_61 : decode cX3_areWishesMet 61 = .ok (.iconst 0, 1) := by decide +kernel
theorem dX3_areWishesMet_62 : decode cX3_areWishesMet 62 = .ok (.ireturn, 1) := by decide +kernel
theorem dX3_areWishesMet_63 : decode cX3_areWishesMet 63 = .ok (.iinc 2 1, 3) := by decide +kernel
theorem dX3_areWishesMet_66 : decode cX3_areWishesMet 66 = .ok (.goto (-64), 3) := by decide +kernel
theorem dX3_areWishesMet_69 : decode cX3_areWishesMet 69 = .ok (.iconst 1, 1) := by decide +kernel
theorem dX3_areWishesMet_70 : decode cX3_areWishesMet 70 = .ok (.ireturn, 1) := by decide +kernel
theorem dX4_init_0 : decode cX4_init 0 = .ok (.aload_n 0, 1) := by decide +kernel
theorem dX4_init_1 : decode cX4_init 1 = .ok (.invokespecial 3, 3) := by decide +kernel
theorem dX4_init_4 : decode cX4_init 4 = .ok (.aload_n 0, 1) := by decide +kernel
theorem dX4_init_5 : decode cX4_init 5 = .ok (.new 9, 3) := by decide +kernel
theorem dX4_init_8 : decode cX4_init 8 = .ok (.dup, 1) := by decide +kernel
theorem dX4_init_9 : decode cX4_init 9 = .ok (.bipush 25, 2) := by decide +kernel
theorem dX4_init_11 : decode cX4_init 11 = .ok (.invokespecial 11, 3) := by decide +kernel
theorem dX4_init_14 : decode cX4_init 14 = .ok (.putfield 14, 3) := by decide +kernel
theorem dX4_init_17 : decode cX4_init 17 = .ok (.aload_n 0, 1) := by decide +kernel
theorem dX4_init_18 : decode cX4_init 18 = .ok (.new 9, 3) := by decide +kernel
theorem dX4_init_21 : decode cX4_init 21 = .ok (.dup, 1) := by decide +kernel
theorem dX4_init_22 : decode cX4_init 22 = .ok (.bipush 36, 2) := by decide +kernel
theorem dX4_init_24 : decode cX4_init 24 = .ok (.invokespecial 11, 3) := by decide +kernel
theorem dX4_init_27 : decode cX4_init 27 = .ok (.putfield 20, 3) := by decide +kernel
theorem dX4_init_30 : decode cX4_init 30 = .ok (.aload_n 0, 1) := by decide +kernel
theorem dX4_init_31 : decode cX4_init 31 = .ok (.aload_n 1, 1) := by decide +kernel
theorem dX4_init_32 : decode cX4_init 32 = .ok (.putfield 23, 3) := by decide +kernel
theorem dX4_init_35 : decode cX4_init 35 = .ok (.aload_n 0, 1) := by decide +kernel
theorem dX4_init_36 : decode cX4_init 36 = .ok (.aload_n 2, 1) := by decide +kernel
theorem dX4_init_37 : decode cX4_init 37 = .ok (.putfield 27, 3) := by decide +kernel
theorem dX4_init_40 : decode cX4_init 40 = .ok (.return_, 1) := by decide +kernel
theorem dX4_of_0 : decode cX4_of 0 = .ok (.aload_n 0, 1) := by decide +kernel
theorem dX4_of_1 : decode cX4_of 1 = .ok (.iload_n 1, 1) := by decide +kernel
theorem dX4_of_2 : decode cX4_of 2 = .ok (.invokevirtual 31, 3) := by decide +kernel
theorem dX4_of_5 : decode cX4_of 5 = .ok (.istore_n 2, 1) := by decide +kernel
theorem dX4_of_6 : decode cX4_of 6 = .ok (.aload_n 0, 1) := by decide +kernel
theorem dX4_of_7 : decode cX4_of 7 = .ok (.invokevirtual 35, 3) := by decide +kernel
theorem dX4_of_10 : decode cX4_of 10 = .ok (.iload_n 2, 1) := by decide +kernel
theorem dX4_of_11 : decode cX4_of 11 = .ok (.if_icmp .ge 5, 3) := by decide +kernel
theorem dX4_of_14 : decode cX4_of 14 = .ok (.iconst (-1), 1) := by decide +kernel
theorem dX4_of_15 : decode cX4_of 15 = .ok (.ireturn, 1) := by decide +kernel
theorem dX4_of_16 : decode cX4_of 16 = .ok (.iconst 0, 1) := by decide +kernel
theorem dX4_of_17 : decode cX4_of 17 = .ok (.istore_n 3, 1) := by decide +kernel
theorem dX4_of_18 : decode cX4_of 18 = .ok (.iconst 0, 1) := by decide +kernel
theorem dX4_of_19 : decode cX4_of 19 = .ok (.istore 4, 2) := by decide +kernel
theorem dX4_of_21 : decode cX4_of 21 = .ok (.iload 4, 2) := by decide +kernel
theorem dX4_of_23 : decode cX4_of 23 = .ok (.iload_n 2, 1) := by decide +kernel
theorem dX4_of_24 : decode cX4_of 24 = .ok (.if_icmp .ge 35, 3) := by decide +kernel
theorem dX4_of_27 : decode cX4_of 27 = .ok (.iload_n 3, 1) := by decide +kernel
theorem dX4_of_28 : decode cX4_of 28 = .ok (.aload_n 0, 1) := by decide +kernel
theorem dX4_of_29 : decode cX4_of 29 = .ok (.getfield 14, 3) := by decide +kernel
theorem dX4_of_32 : decode cX4_of 32 = .ok (.iload_n 2, 1) := by decide +kernel
theorem dX4_of_33 : decode cX4_of 33 = .ok (.iconst 1, 1) := by decide +kernel
theorem dX4_of_34 : decode cX4_of 34 = .ok (.isub, 1) := by decide +kernel
theorem dX4_of_35 : decode cX4_of 35 = .ok (.iload 4, 2) := by decide +kernel
theorem dX4_of_37 : decode cX4_of 37 = .ok (.isub, 1) := by decide +kernel
theorem dX4_of_38 : decode cX4_of 38 = .ok (.invokevirtual 39, 3) := by decide +kernel
theorem dX4_of_41 : decode cX4_of 41 = .ok (.aload_n 0, 1) := by decide +kernel
theorem dX4_of_42 : decode cX4_of 42 = .ok (.getfield 20, 3) := by decide +kernel
theorem dX4_of_45 : decode cX4_of 45 = .ok (.iload 4, 2) := by decide +kernel
theorem dX4_of_47 : decode cX4_of 47 = .ok (.invokevirtual 39, 3) := by decide +kernel
theorem dX4_of_50 : decode cX4_of 50 = .ok (.imul, 1) := by decide +kernel
theorem dX4_of_51 : decode cX4_of 51 = .ok (.iadd, 1) := by decide +kernel
theorem dX4_of_52 : decode cX4_of 52 = .ok (.istore_n 3, 1) := by decide +kernel
theorem dX4_of_53 : decode cX4_of 53 = .ok (.iinc 4 1, 3) := by decide +kernel
theorem dX4_of_56 : decode cX4_of 56 = .ok (.goto (-35), 3) := by decide +kernel
theorem dX4_of_59 : decode cX4_of 59 = .ok (.iload_n 3, 1) := by decide +kernel
theorem dX4_of_60 : decode cX4_of 60 = .ok (.ireturn, 1) := by decide +kernel
theorem dX4_sortLoads_0 : decode cX4_sortLoads 0 = .ok (.iconst 0, 1) := by decide +kernel
theorem dX4_sortLoads_1 : decode cX4_sortLoads 1 = .ok (.istore_n 2, 1) := by decide +kernel
theorem dX4_sortLoads_2 : decode cX4_sortLoads 2 = .ok (.iconst 0, 1) := by decide +kernel
theorem dX4_sortLoads_3 : decode cX4_sortLoads 3 = .ok (.istore_n 3, 1) := by decide +kernel
theorem dX4_sortLoads_4 : decode cX4_sortLoads 4 = .ok (.iload_n 3, 1) := by decide +kernel
theorem dX4_sortLoads_5 : decode cX4_sortLoads 5 = .ok (.aload_n 0, 1) := by decide +kernel
theorem dX4_sortLoads_6 : decode cX4_sortLoads 6 = .ok (.getfield 27, 3) := by decide +kernel
theorem dX4_sortLoads_9 : decode cX4_sortLoads 9 = .ok (.invokevirtual 42, 3) := by decide +kernel
theorem dX4_sortLoads_12 : decode cX4_sortLoads 12 = .ok (.if_icmp .ge 63, 3) := by decide +kernel
theorem dX4_sortLoads_15 : decode cX4_sortLoads 15 = .ok (.iload_n 3, 1) := by decide +kernel
theorem dX4_sortLoads_16 : decode cX4_sortLoads 16 = .ok (.iconst 1, 1) := by decide +kernel
theorem dX4_sortLoads_17 : decode cX4_sortLoads 17 = .ok (.iadd, 1) := by decide +kernel
theorem dX4_sortLoads_18 : decode cX4_sortLoads 18 = .ok (.istore 4, 2) := by decide +kernel
theorem dX4_sortLoads_20 : decode cX4_sortLoads 20 = .ok (.iload 4, 2) := by decide +kernel
theorem dX4_sortLoads_22 : decode cX4_sortLoads 22 = .ok (.aload_n 0, 1) := by decide +kernel
theorem dX4_sortLoads_23 : decode cX4_sortLoads 23 = .ok (.getfield 27, 3) := by decide +kernel
theorem dX4_sortLoads_26 : decode cX4_sortLoads 26 = .ok (.invokevirtual 42, 3) := by decide +kernel
theorem dX4_sortLoads_29 : decode cX4_sortLoads 29 = .ok (.if_icmp .ge 40, 3) := by decide +kernel
theorem dX4_sortLoads_32 : decode cX4_sortLoads 32 = .ok (.aload_n 0, 1) := by decide +kernel
theorem dX4_sortLoads_33 : decode cX4_sortLoads 33 = .ok (.getfield 27, 3) := by decide +kernel
theorem dX4_sortLoads_36 : decode cX4_sortLoads 36 = .ok (.iload_n 1, 1) := by decide +kernel
theorem dX4_sortLoads_37 : decode cX4_sortLoads 37 = .ok (.iload_n 3, 1) := by decide +kernel
theorem dX4_sortLoads_38 : decode cX4_sortLoads 38 = .ok (.iload 4, 2) := by decide +kernel
theorem dX4_sortLoads_40 : decode cX4_sortLoads 40 = .ok (.invokevirtual 47, 3) := by decide +kernel
theorem dX4_sortLoads_43 : decode cX4_sortLoads 43 = .ok (.istore 5, 2) := by decide +kernel
theorem dX4_sortLoads_45 : decode cX4_sortLoads 45 = .ok (.iload 5, 2) := by decide +kernel
theorem dX4_sortLoads_47 : decode cX4_sortLoads 47 = .ok (.ifCond .le 16, 3) := by decide +kernel
theorem dX4_sortLoads_50 : decode cX4_sortLoads 50 = .ok (.aload_n 0, 1) := by decide +kernel
theorem dX4_sortLoads_51 : decode cX4_sortLoads 51 = .ok (.getfield 14, 3) := by decide +kernel
theorem dX4_sortLoads_54 : decode cX4_sortLoads 54 = .ok (.iload_n 2, 1) := by decide +kernel
theorem dX4_sortLoads_55 : decode cX4_sortLoads 55 = .ok (.iload 5, 2) := by decide +kernel
theorem dX4_sortLoads_57 : decode cX4_sortLoads 57 = .ok (.invokestatic 51, 3) := by decide +kernel
theorem dX4_sortLoads_60 : decode cX4_sortLoads 60 = .ok (.iinc 2 1, 3) := by decide +kernel
theorem dX4_sortLoads_63 : decode cX4_sortLoads 63 = .ok (.iinc 4 1, 3) := by decide +kernel
theorem dX4_sortLoads_66 : decode cX4_sortLoads 66 = .ok (.goto (-46), 3) := by decide +kernel
theorem dX4_sortLoads_69 : decode cX4_sortLoads 69 = .ok (.iinc 3 1, 3) := by decide +kernel
theorem dX4_sortLoads_72 : decode cX4_sortLoads 72 = .ok (.goto (-68), 3) := by decide +kernel
theorem dX4_sortLoads_75 : decode cX4_sortLoads 75 = .ok (.iload_n 2, 1) := by decide +kernel
theorem dX4_sortLoads_76 : decode cX4_sortLoads 76 = .ok (.ireturn, 1) := by decide +kernel
theorem dX4_sortWays_0 : decode cX4_sortWays 0 = .ok (.iconst 0, 1) := by decide +kernel
theorem dX4_sortWays_1 : decode cX4_sortWays 1 = .ok (.istore_n 1, 1) := by decide +kernel
theorem dX4_sortWays_2 : decode cX4_sortWays 2 = .ok (.iconst 0, 1) := by decide +kernel
theorem dX4_sortWays_3 : decode cX4_sortWays 3 = .ok (.istore_n 2, 1) := by decide +kernel
theorem dX4_sortWays_4 : decode cX4_sortWays 4 = .ok (.iload_n 2, 1) := by decide +kernel
theorem dX4_sortWays_5 : decode cX4_sortWays 5 = .ok (.aload_n 0, 1) := by decide +kernel
theorem dX4_sortWays_6 : decode cX4_sortWays 6 = .ok (.getfield 23, 3) := by decide +kernel
theorem dX4_sortWays_9 : decode cX4_sortWays 9 = .ok (.invokevirtual 55, 3) := by decide +kernel
theorem dX4_sortWays_12 : decode cX4_sortWays 12 = .ok (.if_icmp .ge 60, 3) := by decide +kernel
theorem dX4_sortWays_15 : decode cX4_sortWays 15 = .ok (.iload_n 2, 1) := by decide +kernel
theorem dX4_sortWays_16 : decode cX4_sortWays 16 = .ok (.iconst 1, 1) := by decide +kernel
theorem dX4_sortWays_17 : decode cX4_sortWays 17 = .ok (.iadd, 1) := by decide +kernel
theorem dX4_sortWays_18 : decode cX4_sortWays 18 = .ok (.istore_n 3, 1) := by decide +kernel
theorem dX4_sortWays_19 : decode cX4_sortWays 19 = .ok (.iload_n 3, 1) := by decide +kernel
theorem dX4_sortWays_20 : decode cX4_sortWays 20 = .ok (.aload_n 0, 1) := by decide +kernel
theorem dX4_sortWays_21 : decode cX4_sortWays 21 = .ok (.getfield 23, 3) := by decide +kernel
theorem dX4_sortWays_24 : decode cX4_sortWays 24 = .ok (.invokevirtual 55, 3) := by decide +kernel
theorem dX4_sortWays_27 : decode cX4_sortWays 27 = .ok (.if_icmp .ge 39, 3) := by decide +kernel
theorem dX4_sortWays_30 : decode cX4_sortWays 30 = .ok (.aload_n 0, 1) := by decide +kernel
theorem dX4_sortWays_31 : decode cX4_sortWays 31 = .ok (.getfield 23, 3) := by decide +kernel
theorem dX4_sortWays_34 : decode cX4_sortWays 34 = .ok (.iload_n 2, 1) := by decide +kernel
theorem dX4_sortWays_35 : decode cX4_sortWays 35 = .ok (.iload_n 3, 1) := by decide +kernel
theorem dX4_sortWays_36 : decode cX4_sortWays 36 = .ok (.invokevirtual 60, 3) := by decide +kernel
theorem dX4_sortWays_39 : decode cX4_sortWays 39 = .ok (.istore 4, 2) := by decide +kernel
theorem dX4_sortWays_41 : decode cX4_sortWays 41 = .ok (.iload 4, 2) := by decide +kernel
theorem dX4_sortWays_43 : decode cX4_sortWays 43 = .ok (.iconst (-1), 1) := by decide +kernel
theorem dX4_sortWays_44 : decode cX4_sortWays 44 = .ok (.if_icmp .eq 16, 3) := by decide +kernel
theorem dX4_sortWays_47 : decode cX4_sortWays 47 = .ok (.aload_n 0, 1) := by decide +kernel
theorem dX4_sortWays_48 : decode cX4_sortWays 48 = .ok (.getfield 20, 3) := by decide +kernel
theorem dX4_sortWays_51 : decode cX4_sortWays 51 = .ok (.iload_n 1, 1) := by decide +kernel
theorem dX4_sortWays_52 : decode cX4_sortWays 52 = .ok (.iload 4, 2) := by decide +kernel
theorem dX4_sortWays_54 : decode cX4_sortWays 54 = .ok (.invokestatic 51, 3) := by decide +kernel
theorem dX4_sortWays_57 : decode cX4_sortWays 57 = .ok (.iinc 1 1, 3) := by decide +kernel
theorem dX4_sortWays_60 : decode cX4_sortWays 60 = .ok (.iinc 3 1, 3) := by decide +kernel
theorem dX4_sortWays_63 : decode cX4_sortWays 63 = .ok (.goto (-44), 3) := by decide +kernel
theorem dX4_sortWays_66 : decode cX4_sortWays 66 = .ok (.iinc 2 1, 3) := by decide +kernel
theorem dX4_sortWays_69 : decode cX4_sortWays 69 = .ok (.goto (-65), 3) := by decide +kernel
theorem dX4_sortWays_72 : decode cX4_sortWays 72 = .ok (.iload_n 1, 1) := by decide +kernel
theorem dX4_sortWays_73 : decode cX4_sortWays 73 = .ok (.ireturn, 1) := by decide +kernel
theorem dX4_insert_0 : decode cX4_insert 0 = .ok (.iload_n 1, 1) := by decide +kernel
theorem dX4_insert_1 : decode cX4_insert 1 = .ok (.istore_n 3, 1) := by decide +kernel
theorem dX4_insert_2 : decode cX4_insert 2 = .ok (.iload_n 3, 1) := by decide +kernel
theorem dX4_insert_3 : decode cX4_insert 3 = .ok (.ifCond .le 32, 3) := by decide +kernel
theorem dX4_insert_6 : decode cX4_insert 6 = .ok (.aload_n 0, 1) := by decide +kernel
theorem dX4_insert_7 : decode cX4_insert 7 = .ok (.iload_n 3, 1) := by decide +kernel
theorem dX4_insert_8 : decode cX4_insert 8 = .ok (.iconst 1, 1) := by decide +kernel
theorem dX4_insert_9 : decode cX4_insert 9 = .ok (.isub, 1) := by decide +kernel
theorem dX4_insert_10 : decode cX4_insert 10 = .ok (.invokevirtual 39, 3) := by decide +kernel
theorem dX4_insert_13 : decode cX4_insert 13 = .ok (.iload_n 2, 1) := by decide +kernel
theorem dX4_insert_14 : decode cX4_insert 14 = .ok (.if_icmp .le 21, 3) := by decide +kernel
theorem dX4_insert_17 : decode cX4_insert 17 = .ok (.aload_n 0, 1) := by decide +kernel
theorem dX4_insert_18 : decode cX4_insert 18 = .ok (.iload_n 3, 1) := by decide +kernel
theorem dX4_insert_19 : decode cX4_insert 19 = .ok (.aload_n 0, 1) := by decide +kernel
theorem dX4_insert_20 : decode cX4_insert 20 = .ok (.iload_n 3, 1) := by decide +kernel
theorem dX4_insert_21 : decode cX4_insert 21 = .ok (.iconst 1, 1) := by decide +kernel
theorem dX4_insert_22 : decode cX4_insert 22 = .ok (.isub, 1) := by decide +kernel
theorem dX4_insert_23 : decode cX4_insert 23 = .ok (.invokevirtual 39, 3) := by decide +kernel
theorem dX4_insert_26 : decode cX4_insert 26 = .ok (.invokevirtual 64, 3) := by decide +kernel
theorem dX4_insert_29 : decode cX4_insert 29 = .ok (.iinc 3 (-1), 3) := by decide +kernel
theorem dX4_insert_32 : decode cX4_insert 32 = .ok (.goto (-30), 3) := by decide +kernel
theorem dX4_insert_35 : decode cX4_insert 35 = .ok (.aload_n 0, 1) := by decide +kernel
theorem dX4_insert_36 : decode cX4_insert 36 = .ok (.iload_n 3, 1) := by decide +kernel
theorem dX4_insert_37 : decode cX4_insert 37 = .ok (.iload_n 2, 1) := by decide +kernel
theorem dX4_insert_38 : decode cX4_insert 38 = .ok (.invokevirtual 64, 3) := by decide +kernel
theorem dX4_insert_41 : decode cX4_insert 41 = .ok (.return_, 1) := by decide +kernel
theorem dX5_init_0 : decode cX5_init 0 = .ok (.aload_n 0, 1) := by decide +kernel
theorem dX5_init_1 : decode cX5_init 1 = .ok (.invokespecial 3, 3) := by decide +kernel
theorem dX5_init_4 : decode cX5_init 4 = .ok (.aload_n 0, 1) := by decide +kernel
theorem dX5_init_5 : decode cX5_init 5 = .ok (.new 9, 3) := by decide +kernel
theorem dX5_init_8 : decode cX5_init 8 = .ok (.dup, 1) := by decide +kernel
theorem dX5_init_9 : decode cX5_init 9 = .ok (.invokespecial 11, 3) := by decide +kernel
theorem dX5_init_12 : decode cX5_init 12 = .ok (.putfield 12, 3) := by decide +kernel
theorem dX5_init_15 : decode cX5_init 15 = .ok (.aload_n 0, 1) := by decide +kernel
theorem dX5_init_16 : decode cX5_init 16 = .ok (.aload_n 1, 1) := by decide +kernel
theorem dX5_init_17 : decode cX5_init 17 = .ok (.putfield 18, 3) := by decide +kernel
theorem dX5_init_20 : decode cX5_init 20 = .ok (.aload_n 0, 1) := by decide +kernel
theorem dX5_init_21 : decode cX5_init 21 = .ok (.aload_n 2, 1) := by decide +kernel
theorem dX5_init_22 : decode cX5_init 22 = .ok (.putfield 22, 3) := by decide +kernel
theorem dX5_init_25 : decode cX5_init 25 = .ok (.return_, 1) := by decide +kernel
theorem dX5_least_0 : decode cX5_least 0 = .ok (.aload_n 0, 1) := by decide +kernel
theorem dX5_least_1 : decode cX5_least 1 = .ok (.getfield 22, 3) := by decide +kernel
theorem dX5_least_4 : decode cX5_least 4 = .ok (.aload_n 1, 1) := by decide +kernel
theorem dX5_least_5 : decode cX5_least 5 = .ok (.aload_n 2, 1) := by decide +kernel
theorem dX5_least_6 : decode cX5_least 6 = .ok (.invokevirtual 26, 3) := by decide +kernel
theorem dX5_least_9 : decode cX5_least 9 = .ok (.istore_n 3, 1) := by decide +kernel
theorem dX5_least_10 : decode cX5_least 10 = .ok (.iload_n 3, 1) := by decide +kernel
theorem dX5_least_11 : decode cX5_least 11 = .ok (.ifCond .le 19, 3) := by decide +kernel
theorem dX5_least_14 : decode cX5_least 14 = .ok (.aload_n 0, 1) := by decide +kernel
theorem dX5_least_15 : decode cX5_least 15 = .ok (.getfield 18, 3) := by decide +kernel
theorem dX5_least_18 : decode cX5_least 18 = .ok (.invokevirtual 32, 3) := by decide +kernel
theorem dX5_least_21 : decode cX5_least 21 = .ok (.aload_n 1, 1) := by decide +kernel
theorem dX5_least_22 : decode cX5_least 22 = .ok (.invokevirtual 38, 3) := by decide +kernel
theorem dX5_least_25 : decode cX5_least 25 = .ok (.if_icmp .gt 5, 3) := by decide +kernel
theorem dX5_least_28 : decode cX5_least 28 = .ok (.iconst (-1), 1) := by decide +kernel
theorem dX5_least_29 : decode cX5_least 29 = .ok (.ireturn, 1) := by decide +kernel
theorem dX5_least_30 : decode cX5_least 30 = .ok (.iconst 0, 1) := by decide +kernel
theorem dX5_least_31 : decode cX5_least 31 = .ok (.istore 4, 2) := by decide +kernel
theorem dX5_least_33 : decode cX5_least 33 = .ok (.iload 4, 2) := by decide +kernel
theorem dX5_least_35 : decode cX5_least 35 = .ok (.aload_n 1, 1) := by decide +kernel
theorem dX5_least_36 : decode cX5_least 36 = .ok (.invokevirtual 38, 3) := by decide +kernel
theorem dX5_least_39 : decode cX5_least 39 = .ok (.if_icmp .ge 20, 3) := by decide +kernel
theorem dX5_least_42 : decode cX5_least 42 = .ok (.iload_n 3, 1) := by decide +kernel
theorem dX5_least_43 : decode cX5_least 43 = .ok (.aload_n 0, 1) := by decide +kernel
theorem dX5_least_44 : decode cX5_least 44 = .ok (.aload_n 1, 1) := by decide +kernel
theorem dX5_least_45 : decode cX5_least 45 = .ok (.aload_n 2, 1) := by decide +kernel
theorem dX5_least_46 : decode cX5_least 46 = .ok (.iload 4, 2) := by decide +kernel
theorem dX5_least_48 : decode cX5_least 48 = .ok (.invokevirtual 41, 3) := by decide +kernel
theorem dX5_least_51 : decode cX5_least 51 = .ok (.iadd, 1) := by decide +kernel
theorem dX5_least_52 : decode cX5_least 52 = .ok (.istore_n 3, 1) := by decide +kernel
theorem dX5_least_53 : decode cX5_least 53 = .ok (.iinc 4 1, 3) := by decide +kernel
theorem dX5_least_56 : decode cX5_least 56 = .ok (.goto (-23), 3) := by decide +kernel
theorem dX5_least_59 : decode cX5_least 59 = .ok (.iload_n 3, 1) := by decide +kernel
theorem dX5_least_60 : decode cX5_least 60 = .ok (.ireturn, 1) := by decide +kernel
theorem dX5_asideWeight_0 : decode cX5_asideWeight 0 = .ok (.aload_n 0, 1) := by decide +kernel
theorem dX5_asideWeight_1 : decode cX5_asideWeight 1 = .ok (.getfield 22, 3) := by decide +kernel
theorem dX5_asideWeight_4 : decode cX5_asideWeight 4 = .ok (.iload_n 3, 1) := by decide +kernel
theorem dX5_asideWeight_5 : decode cX5_asideWeight 5 = .ok (.invokevirtual 45, 3) := by decide +kernel
theorem dX5_asideWeight_8 : decode cX5_asideWeight 8 = .ok (.istore 4, 2) := by decide +kernel
theorem dX5_asideWeight_10 : decode cX5_asideWeight 10 = .ok (.iload_n 3, 1) := by decide +kernel
theorem dX5_asideWeight_11 : decode cX5_asideWeight 11 = .ok (.istore 5, 2) := by decide +kernel
theorem dX5_asideWeight_13 : decode cX5_asideWeight 13 = .ok (.iconst 0, 1) := by decide +kernel
theorem dX5_asideWeight_14 : decode cX5_asideWeight 14 = .ok (.istore 6, 2) := by decide +kernel
theorem dX5_asideWeight_16 : decode cX5_asideWeight 16 = .ok (.iload 6, 2) := by decide +kernel
theorem dX5_asideWeight_18 : decode cX5_asideWeight 18 = .ok (.iconst 5, 1) := by decide +kernel
theorem dX5_asideWeight_19 : decode cX5_asideWeight 19 = .ok (.if_icmp .ge 81, 3) := by decide +kernel
theorem dX5_asideWeight_22 : decode cX5_asideWeight 22 = .ok (.aload_n 1, 1) := by decide +kernel
theorem dX5_asideWeight_23 : decode cX5_asideWeight 23 = .ok (.iload 5, 2) := by decide +kernel
theorem dX5_asideWeight_25 : decode cX5_asideWeight 25 = .ok (.invokevirtual 49, 3) := by decide +kernel
theorem dX5_asideWeight_28 : decode cX5_asideWeight 28 = .ok (.aload_n 2, 1) := by decide +kernel
theorem dX5_asideWeight_29 : decode cX5_asideWeight 29 = .ok (.iload 5, 2) := by decide +kernel
theorem dX5_asideWeight_31 : decode cX5_asideWeight 31 = .ok (.invokevirtual 49, 3) := by decide +kernel
theorem dX5_asideWeight_34 : decode cX5_asideWeight 34 = .ok (.if_icmp .ne 5, 3) := by decide +kernel
theorem dX5_asideWeight_37 : decode cX5_asideWeight 37 = .ok (.iconst 0, 1) := by decide +kernel
theorem dX5_asideWeight_38 : decode cX5_asideWeight 38 = .ok (.ireturn, 1) := by decide +kernel
theorem dX5_asideWeight_39 : decode cX5_asideWeight 39 = .ok (.aload_n 1, 1) := by decide +kernel
theorem dX5_asideWeight_40 : decode cX5_asideWeight 40 = .ok (.aload_n 2, 1) := by decide +kernel
theorem dX5_asideWeight_41 : decode cX5_asideWeight 41 = .ok (.iload 5, 2) := by decide +kernel
theorem dX5_asideWeight_43 : decode cX5_asideWeight 43 = .ok (.invokevirtual 49, 3) := by decide +kernel
theorem dX5_asideWeight_46 : decode cX5_asideWeight 46 = .ok (.aload_n 1, 1) := by decide +kernel
theorem dX5_asideWeight_47 : decode cX5_asideWeight 47 = .ok (.invokevirtual 38, 3) := by decide +kernel
theorem dX5_asideWeight_50 : decode cX5_asideWeight 50 = .ok (.invokevirtual 52, 3) := by decide +kernel
theorem dX5_asideWeight_53 : decode cX5_asideWeight 53 = .ok (.istore 5, 2) := by decide +kernel
theorem dX5_asideWeight_55 : decode cX5_asideWeight 55 = .ok (.iload 5, 2) := by decide +kernel
theorem dX5_asideWeight_57 : decode cX5_asideWeight 57 = .ok (.iload_n 3, 1) := by decide +kernel
theorem dX5_asideWeight_58 : decode cX5_asideWeight 58 = .ok (.if_icmp .ne 6, 3) := by decide +kernel
theorem dX5_asideWeight_61 : decode cX5_asideWeight 61 = .ok (.iload 4, 2) := by decide +kernel
theorem dX5_asideWeight_63 : decode cX5_asideWeight 63 = .ok (.ireturn, 1) := by decide +kernel
theorem dX5_asideWeight_64 : decode cX5_asideWeight 64 = .ok (.iload 5, 2) := by decide +kernel
theorem dX5_asideWeight_66 : decode cX5_asideWeight 66 = .ok (.iconst (-1), 1) := by decide +kernel
theorem dX5_asideWeight_67 : decode cX5_asideWeight 67 = .ok (.if_icmp .eq 9, 3) := by decide +kernel
theorem dX5_asideWeight_70 : decode cX5_asideWeight 70 = .ok (.iload 5, 2) := by decide +kernel
theorem dX5_asideWeight_72 : decode cX5_asideWeight 72 = .ok (.iload_n 3, 1) := by decide +kernel
theorem dX5_asideWeight_73 : decode cX5_asideWeight 73 = .ok (.if_icmp .ge 5, 3) := by decide +kernel
theorem dX5_asideWeight_76 : decode cX5_asideWeight 76 = .ok (.iconst 0, 1) := by decide +kernel
theorem dX5_asideWeight_77 : decode cX5_asideWeight 77 = .ok (.ireturn, 1) := by decide +kernel
theorem dX5_asideWeight_78 : decode cX5_asideWeight 78 = .ok (.iload 4, 2) := by decide +kernel
theorem dX5_asideWeight_80 : decode cX5_asideWeight 80 = .ok (.aload_n 0, 1) := by decide +kernel
theorem dX5_asideWeight_81 : decode cX5_asideWeight 81 = .ok (.getfield 22, 3) := by decide +kernel
theorem dX5_asideWeight_84 : decode cX5_asideWeight 84 = .ok (.iload 5, 2) := by decide +kernel
theorem dX5_asideWeight_86 : decode cX5_asideWeight 86 = .ok (.invokevirtual 45, 3) := by decide +kernel
theorem dX5_asideWeight_89 : decode cX5_asideWeight 89 = .ok (.invokestatic 56, 3) := by decide +kernel
theorem dX5_asideWeight_92 : decode cX5_asideWeight 92 = .ok (.istore 4, 2) := by decide +kernel
theorem dX5_asideWeight_94 : decode cX5_asideWeight 94 = .ok (.iinc 6 1, 3) := by decide +kernel
theorem dX5_asideWeight_97 : decode cX5_asideWeight 97 = .ok (.goto (-81), 3) := by decide +kernel
theorem dX5_asideWeight_100 : decode cX5_asideWeight 100 = .ok (.iconst 0, 1) := by decide +kernel
theorem dX5_asideWeight_101 : decode cX5_asideWeight 101 = .ok (.ireturn, 1) := by decide +kernel
theorem dX5_walk_0 : decode cX5_walk 0 = .ok (.iload_n 3, 1) := by decide +kernel
theorem dX5_walk_1 : decode cX5_walk 1 = .ok (.bipush 7, 2) := by decide +kernel
theorem dX5_walk_3 : decode cX5_walk 3 = .ok (.if_icmp .lt 5, 3) := by decide +kernel
theorem dX5_walk_6 : decode cX5_walk 6 = .ok (.iconst (-1), 1) := by decide +kernel
theorem dX5_walk_7 : decode cX5_walk 7 = .ok (.ireturn, 1) := by decide +kernel
theorem dX5_walk_8 : decode cX5_walk 8 = .ok (.aload_n 0, 1) := by decide +kernel
theorem dX5_walk_9 : decode cX5_walk 9 = .ok (.getfield 12, 3) := by decide +kernel
theorem dX5_walk_12 : decode cX5_walk 12 = .ok (.aload_n 1, 1) := by decide +kernel
theorem dX5_walk_13 : decode cX5_walk 13 = .ok (.invokevirtual 61, 3) := by decide +kernel
theorem dX5_walk_16 : decode cX5_walk 16 = .ok (.aload_n 0, 1) := by decide +kernel
theorem dX5_walk_17 : decode cX5_walk 17 = .ok (.aload_n 2, 1) := by decide +kernel
theorem dX5_walk_18 : decode cX5_walk 18 = .ok (.invokevirtual 65, 3) := by decide +kernel
theorem dX5_walk_21 : decode cX5_walk 21 = .ok (.istore 4, 2) := by decide +kernel
theorem dX5_walk_23 : decode cX5_walk 23 = .ok (.iconst 0, 1) := by decide +kernel
theorem dX5_walk_24 : decode cX5_walk 24 = .ok (.istore 5, 2) := by decide +kernel
theorem dX5_walk_26 : decode cX5_walk 26 = .ok (.iload 5, 2) := by decide +kernel
theorem dX5_walk_28 : decode cX5_walk 28 = .ok (.iload_n 3, 1) := by decide +kernel
theorem dX5_walk_29 : decode cX5_walk 29 = .ok (.if_icmp .ge 22, 3) := by decide +kernel
theorem dX5_walk_32 : decode cX5_walk 32 = .ok (.iload 4, 2) := by decide +kernel
theorem dX5_walk_34 : decode cX5_walk 34 = .ok (.iconst (-1), 1) := by decide +kernel
theorem dX5_walk_35 : decode cX5_walk 35 = .ok (.if_icmp .eq 16, 3) := by decide +kernel
theorem dX5_walk_38 : decode cX5_walk 38 = .ok (.aload_n 0, 1) := by decide +kernel
theorem dX5_walk_39 : decode cX5_walk 39 = .ok (.aload_n 2, 1) := by decide +kernel
theorem dX5_walk_40 : decode cX5_walk 40 = .ok (.invokevirtual 65, 3) := by decide +kernel
theorem dX5_walk_43 : decode cX5_walk 43 = .ok (.istore 4, 2) := by decide +kernel
theorem dX5_walk_45 : decode cX5_walk 45 = .ok (.iinc 5 1, 3) := by decide +kernel
theorem dX5_walk_48 : decode cX5_walk 48 = .ok (.goto (-22), 3) := by decide +kernel
theorem dX5_walk_51 : decode cX5_walk 51 = .ok (.iload 4, 2) := by decide +kernel
theorem dX5_walk_53 : decode cX5_walk 53 = .ok (.ireturn, 1) := by decide +kernel
theorem dX5_firstStep_0 : decode cX5_firstStep 0 = .ok (.aload_n 0, 1) := by decide +kernel
theorem dX5_firstStep_1 : decode cX5_firstStep 1 = .ok (.aload_n 0, 1) := by decide +kernel
theorem dX5_firstStep_2 : decode cX5_firstStep 2 = .ok (.getfield 12, 3) := by decide +kernel
theorem dX5_firstStep_5 : decode cX5_firstStep 5 = .ok (.aload_n 1, 1) := by decide +kernel
theorem dX5_firstStep_6 : decode cX5_firstStep 6 = .ok (.invokevirtual 69, 3) := by decide +kernel
theorem dX5_firstStep_9 : decode cX5_firstStep 9 = .ok (.istore_n 2, 1) := by decide +kernel
theorem dX5_firstStep_10 : decode cX5_firstStep 10 = .ok (.iload_n 2, 1) := by decide +kernel
theorem dX5_firstStep_11 : decode cX5_firstStep 11 = .ok (.ifCond .gt 5, 3) := by decide +kernel
theorem dX5_firstStep_14 : decode cX5_firstStep 14 = .ok (.iconst (-1), 1) := by decide +kernel
theorem dX5_firstStep_15 : decode cX5_firstStep 15 = .ok (.ireturn, 1) := by decide +kernel
theorem dX5_firstStep_16 : decode cX5_firstStep 16 = .ok (.iconst 0, 1) := by decide +kernel
theorem dX5_firstStep_17 : decode cX5_firstStep 17 = .ok (.istore_n 3, 1) := by decide +kernel
theorem dX5_firstStep_18 : decode cX5_firstStep 18 = .ok (.iload_n 3, 1) := by decide +kernel
theorem dX5_firstStep_19 : decode cX5_firstStep 19 = .ok (.aload_n 0, 1) := by decide +kernel
theorem dX5_firstStep_20 : decode cX5_firstStep 20 = .ok (.getfield 12, 3) := by decide +kernel
theorem dX5_firstStep_23 : decode cX5_firstStep 23 = .ok (.invokevirtual 38, 3) := by decide +kernel
theorem dX5_firstStep_26 : decode cX5_firstStep 26 = .ok (.if_icmp .ge 114, 3) := by decide +kernel
theorem dX5_firstStep_29 : decode cX5_firstStep 29 = .ok (.iload_n 2, 1) := by decide +kernel
theorem dX5_firstStep_30 : decode cX5_firstStep 30 = .ok (.aload_n 0, 1) := by decide +kernel
theorem dX5_firstStep_31 : decode cX5_firstStep 31 = .ok (.getfield 22, 3) := by decide +kernel
theorem dX5_firstStep_34 : decode cX5_firstStep 34 = .ok (.iload_n 3, 1) := by decide +kernel
theorem dX5_firstStep_35 : decode cX5_firstStep 35 = .ok (.invokevirtual 45, 3) := by decide +kernel
theorem dX5_firstStep_38 : decode cX5_firstStep 38 = .ok (.isub, 1) := by decide +kernel
theorem dX5_firstStep_39 : decode cX5_firstStep 39 = .ok (.istore 4, 2) := by decide +kernel
theorem dX5_firstStep_41 : decode cX5_firstStep 41 = .ok (.aload_n 0, 1) := by decide +kernel
theorem dX5_firstStep_42 : decode cX5_firstStep 42 = .ok (.getfield 12, 3) := by decide +kernel
theorem dX5_firstStep_45 : decode cX5_firstStep 45 = .ok (.iload_n 3, 1) := by decide +kernel
theorem dX5_firstStep_46 : decode cX5_firstStep 46 = .ok (.invokevirtual 49, 3) := by decide +kernel
theorem dX5_firstStep_49 : decode cX5_firstStep 49 = .ok (.istore 5, 2) := by decide +kernel
theorem dX5_firstStep_51 : decode cX5_firstStep 51 = .ok (.iconst 0, 1) := by decide +kernel
theorem dX5_firstStep_52 : decode cX5_firstStep 52 = .ok (.istore 6, 2) := by decide +kernel
theorem dX5_firstStep_54 : decode cX5_firstStep 54 = .ok (.iload 6, 2) := by decide +kernel
theorem dX5_firstStep_56 : decode cX5_firstStep 56 = .ok (.aload_n 0, 1) := by decide +kernel
theorem dX5_firstStep_57 : decode cX5_firstStep 57 = .ok (.getfield 18, 3) := by decide +kernel
theorem dX5_firstStep_60 : decode cX5_firstStep 60 = .ok (.invokevirtual 32, 3) := by decide +kernel
theorem dX5_firstStep_63 : decode cX5_firstStep 63 = .ok (.if_icmp .ge 71, 3) := by decide +kernel
theorem dX5_firstStep_66 : decode cX5_firstStep 66 = .ok (.aload_n 0, 1) := by decide +kernel
theorem dX5_firstStep_67 : decode cX5_firstStep 67 = .ok (.getfield 12, 3) := by decide +kernel
theorem dX5_firstStep_70 : decode cX5_firstStep 70 = .ok (.iload 6, 2) := by decide +kernel
theorem dX5_firstStep_72 : decode cX5_firstStep 72 = .ok (.aload_n 0, 1) := by decide +kernel
theorem dX5_firstStep_73 : decode cX5_firstStep 73 = .ok (.getfield 12, 3) := by decide +kernel
theorem dX5_firstStep_76 : decode cX5_firstStep 76 = .ok (.invokevirtual 38, 3) := by decide +kernel
theorem dX5_firstStep_79 : decode cX5_firstStep 79 = .ok (.invokevirtual 52, 3) := by decide +kernel
theorem dX5_firstStep_82 : decode cX5_firstStep 82 = .ok (.iconst (-1), 1) := by decide +kernel
theorem dX5_firstStep_83 : decode cX5_firstStep 83 = .ok (.if_icmp .ne 45, 3) := by decide +kernel
theorem dX5_firstStep_86 : decode cX5_firstStep 86 = .ok (.aload_n 0, 1) := by decide +kernel
theorem dX5_firstStep_87 : decode cX5_firstStep 87 = .ok (.getfield 12, 3) := by decide +kernel
theorem dX5_firstStep_90 : decode cX5_firstStep 90 = .ok (.iload_n 3, 1) := by decide +kernel
theorem dX5_firstStep_91 : decode cX5_firstStep 91 = .ok (.iload 6, 2) := by decide +kernel
theorem dX5_firstStep_93 : decode cX5_firstStep 93 = .ok (.invokevirtual 72, 3) := by decide +kernel
theorem dX5_firstStep_96 : decode cX5_firstStep 96 = .ok (.aload_n 0, 1) := by decide +kernel
theorem dX5_firstStep_97 : decode cX5_firstStep 97 = .ok (.aload_n 0, 1) := by decide +kernel
theorem dX5_firstStep_98 : decode cX5_firstStep 98 = .ok (.getfield 12, 3) := by decide +kernel
theorem dX5_firstStep_101 : decode cX5_firstStep 101 = .ok (.aload_n 1, 1) := by decide +kernel
theorem dX5_firstStep_102 : decode cX5_firstStep 102 = .ok (.invokevirtual 69, 3) := by decide +kernel
theorem dX5_firstStep_105 : decode cX5_firstStep 105 = .ok (.iload 4, 2) := by decide +kernel
theorem dX5_firstStep_107 : decode cX5_firstStep 107 = .ok (.if_icmp .ne 11, 3) := by decide +kernel
theorem dX5_firstStep_110 : decode cX5_firstStep 110 = .ok (.bipush 10, 2) := by decide +kernel
theorem dX5_firstStep_112 : decode cX5_firstStep 112 = .ok (.iload_n 3, 1) := by decide +kernel
theorem dX5_firstStep_113 : decode cX5_firstStep 113 = .ok (.imul, 1) := by decide +kernel
theorem dX5_firstStep_114 : decode cX5_firstStep 114 = .ok (.iload 6, 2) := by decide +kernel
theorem dX5_firstStep_116 : decode cX5_firstStep 116 = .ok (.iadd, 1) := by decide +kernel
theorem dX5_firstStep_117 : decode cX5_firstStep 117 = .ok (.ireturn, 1) := by decide +kernel
theorem dX5_firstStep_118 : decode cX5_firstStep 118 = .ok (.aload_n 0, 1) := by decide +kernel
theorem dX5_firstStep_119 : decode cX5_firstStep 119 = .ok (.getfield 12, 3) := by decide +kernel
theorem dX5_firstStep_122 : decode cX5_firstStep 122 = .ok (.iload_n 3, 1) := by decide +kernel
theorem dX5_firstStep_123 : decode cX5_firstStep 123 = .ok (.iload 5, 2) := by decide +kernel
theorem dX5_firstStep_125 : decode cX5_firstStep 125 = .ok (.invokevirtual 72, 3) := by decide +kernel
theorem dX5_firstStep_128 : decode cX5_firstStep 128 = .ok (.iinc 6 1, 3) := by decide +kernel
theorem dX5_firstStep_131 : decode cX5_firstStep 131 = .ok (.goto (-77), 3) := by decide +kernel
theorem dX5_firstStep_134 : decode cX5_firstStep 134 = .ok (.iinc 3 1, 3) := by decide +kernel
theorem dX5_firstStep_137 : decode cX5_firstStep 137 = .ok (.goto (-119), 3) := by decide +kernel
theorem dX5_firstStep_140 : decode cX5_firstStep 140 = .ok (.iconst (-1), 1) := by decide +kernel
theorem dX5_firstStep_141 : decode cX5_firstStep 141 = .ok (.ireturn, 1) := by decide +kernel
theorem dX6_init_0 : decode cX6_init 0 = .ok (.aload_n 0, 1) := by decide +kernel
theorem dX6_init_1 : decode cX6_init 1 = .ok (.invokespecial 3, 3) := by decide +kernel
theorem dX6_init_4 : decode cX6_init 4 = .ok (.aload_n 0, 1) := by decide +kernel
theorem dX6_init_5 : decode cX6_init 5 = .ok (.new 9, 3) := by decide +kernel
theorem dX6_init_8 : decode cX6_init 8 = .ok (.dup, 1) := by decide +kernel
theorem dX6_init_9 : decode cX6_init 9 = .ok (.invokespecial 11, 3) := by decide +kernel
theorem dX6_init_12 : decode cX6_init 12 = .ok (.putfield 12, 3) := by decide +kernel
theorem dX6_init_15 : decode cX6_init 15 = .ok (.aload_n 0, 1) := by decide +kernel
theorem dX6_init_16 : decode cX6_init 16 = .ok (.new 9, 3) := by decide +kernel
theorem dX6_init_19 : decode cX6_init 19 = .ok (.dup, 1) := by decide +kernel
theorem dX6_init_20 : decode cX6_init 20 = .ok (.invokespecial 11, 3) := by decide +kernel
theorem dX6_init_23 : decode cX6_init 23 = .ok (.putfield 18, 3) := by decide +kernel
theorem dX6_init_26 : decode cX6_init 26 = .ok (.aload_n 0, 1) := by decide +kernel
theorem dX6_init_27 : decode cX6_init 27 = .ok (.new 9, 3) := by decide +kernel
theorem dX6_init_30 : decode cX6_init 30 = .ok (.dup, 1) := by decide +kernel
theorem dX6_init_31 : decode cX6_init 31 = .ok (.invokespecial 11, 3) := by decide +kernel
theorem dX6_init_34 : decode cX6_init 34 = .ok (.putfield 21, 3) := by decide +kernel
theorem dX6_init_37 : decode cX6_init 37 = .ok (.aload_n 0, 1) := by decide +kernel
theorem dX6_init_38 : decode cX6_init 38 = .ok (.new 24, 3) := by decide +kernel
theorem dX6_init_41 : decode cX6_init 41 = .ok (.dup, 1) := by decide +kernel
theorem dX6_init_42 : decode cX6_init 42 = .ok (.sipush 2880, 3) := by decide +kernel
theorem dX6_init_45 : decode cX6_init 45 = .ok (.invokespecial 26, 3) := by decide +kernel
theorem dX6_init_48 : decode cX6_init 48 = .ok (.putfield 29, 3) := by decide +kernel
theorem dX6_init_51 : decode cX6_init 51 = .ok (.aload_n 0, 1) := by decide +kernel
theorem dX6_init_52 : decode cX6_init 52 = .ok (.new 24, 3) := by decide +kernel
theorem dX6_init_55 : decode cX6_init 55 = .ok (.dup, 1) := by decide +kernel
theorem dX6_init_56 : decode cX6_init 56 = .ok (.sipush 7776, 3) := by decide +kernel
theorem dX6_init_59 : decode cX6_init 59 = .ok (.invokespecial 26, 3) := by decide +kernel
theorem dX6_init_62 : decode cX6_init 62 = .ok (.putfield 33, 3) := by decide +kernel
theorem dX6_init_65 : decode cX6_init 65 = .ok (.aload_n 0, 1) := by decide +kernel
theorem dX6_init_66 : decode cX6_init 66 = .ok (.new 24, 3) := by decide +kernel
theorem dX6_init_69 : decode cX6_init 69 = .ok (.dup, 1) := by decide +kernel
theorem dX6_init_70 : decode cX6_init 70 = .ok (.iconst 4, 1) := by decide +kernel
theorem dX6_init_71 : decode cX6_init 71 = .ok (.invokespecial 26, 3) := by decide +kernel
theorem dX6_init_74 : decode cX6_init 74 = .ok (.putfield 36, 3) := by decide +kernel
theorem dX6_init_77 : decode cX6_init 77 = .ok (.aload_n 0, 1) := by decide +kernel
theorem dX6_init_78 : decode cX6_init 78 = .ok (.iconst (-1), 1) := by decide +kernel
theorem dX6_init_79 : decode cX6_init 79 = .ok (.putfield 39, 3) := by decide +kernel
theorem dX6_init_82 : decode cX6_init 82 = .ok (.aload_n 0, 1) := by decide +kernel
theorem dX6_init_83 : decode cX6_init 83 = .ok (.iconst 0, 1) := by decide +kernel
theorem dX6_init_84 : decode cX6_init 84 = .ok (.putfield 43, 3) := by decide +kernel
theorem dX6_init_87 : decode cX6_init 87 = .ok (.aload_n 0, 1) := by decide +kernel
theorem dX6_init_88 : decode cX6_init 88 = .ok (.aload_n 1, 1) := by decide +kernel
theorem dX6_init_89 : decode cX6_init 89 = .ok (.putfield 46, 3) := by decide +kernel
theorem dX6_init_92 : decode cX6_init 92 = .ok (.aload_n 0, 1) := by decide +kernel
theorem dX6_init_93 : decode cX6_init 93 = .ok (.aload_n 2, 1) := by decide +kernel
theorem dX6_init_94 : decode cX6_init 94 = .ok (.putfield 50, 3) := by decide +kernel
theorem dX6_init_97 : decode cX6_init 97 = .ok (.aload_n 0, 1) := by decide +kernel
theorem dX6_init_98 : decode cX6_init 98 = .ok (.aload_n 3, 1) := by decide +kernel
theorem dX6_init_99 : decode cX6_init 99 = .ok (.putfield 54, 3) := by decide +kernel
theorem dX6_init_102 : decode cX6_init 102 = .ok (.return_, 1) := by decide +kernel
theorem dX6_forget_0 : decode cX6_forget 0 = .ok (.aload_n 0, 1) := by decide +kernel
theorem dX6_forget_1 : decode cX6_forget 1 = .ok (.iconst 0, 1) := by decide +kernel
theorem dX6_forget_2 : decode cX6_forget 2 = .ok (.putfield 43, 3) := by decide +kernel
theorem dX6_forget_5 : decode cX6_forget 5 = .ok (.return_, 1) := by decide +kernel
theorem dX6_price_0 : decode cX6_price 0 = .ok (.aload_n 0, 1) := by decide +kernel
theorem dX6_price_1 : decode cX6_price 1 = .ok (.getfield 39, 3) := by decide +kernel
theorem dX6_price_4 : decode cX6_price 4 = .ok (.ireturn, 1) := by decide +kernel
theorem dX6_toldOf_0 : decode cX6_toldOf 0 = .ok (.aload_n 0, 1) := by decide +kernel
theorem dX6_toldOf_1 : decode cX6_toldOf 1 = .ok (.getfield 39, 3) := by decide +kernel
theorem dX6_toldOf_4 : decode cX6_toldOf 4 = .ok (.iconst (-1), 1) := by decide +kernel
theorem dX6_toldOf_5 : decode cX6_toldOf 5 = .ok (.if_icmp .ne 7, 3) := by decide +kernel
theorem dX6_toldOf_8 : decode cX6_toldOf 8 = .ok (.iconst (-1), 1) := by decide +kernel
theorem dX6_toldOf_9 : decode cX6_toldOf 9 = .ok (.goto 11, 3) := by decide +kernel
theorem dX6_toldOf_12 : decode cX6_toldOf 12 = .ok (.aload_n 0, 1) := by decide +kernel
theorem dX6_toldOf_13 : decode cX6_toldOf 13 = .ok (.getfield 36, 3) := by decide +kernel
theorem dX6_toldOf_16 : decode cX6_toldOf 16 = .ok (.iload_n 1, 1) := by decide +kernel
theorem dX6_toldOf_17 : decode cX6_toldOf 17 = .ok (.invokevirtual 58, 3) := by decide +kernel
theorem dX6_toldOf_20 : decode cX6_toldOf 20 = .ok (.ireturn, 1) := by decide +kernel
theorem dX6_makePlan_0 : decode cX6_makePlan 0 = .ok (.aload_n 0, 1) := by decide +kernel
theorem dX6_makePlan_1 : decode cX6_makePlan 1 = .ok (.getfield 43, 3) := by decide +kernel
theorem dX6_makePlan_4 : decode cX6_makePlan 4 = .ok (.iload_n 1, 1) := by decide +kernel
theorem dX6_makePlan_5 : decode cX6_makePlan 5 = .ok (.if_icmp .ne 4, 3) := by decide +kernel
theorem dX6_makePlan_8 : decode cX6_makePlan 8 = .ok (.return_, 1) := by decide +kernel
theorem dX6_makePlan_9 : decode cX6_makePlan 9 = .ok (.iload_n 1, 1) := by decide +kernel
theorem dX6_makePlan_10 : decode cX6_makePlan 10 = .ok (.iconst 1, 1) := by decide +kernel
theorem dX6_makePlan_11 : decode cX6_makePlan 11 = .ok (.isub, 1) := by decide +kernel
theorem dX6_makePlan_12 : decode cX6_makePlan 12 = .ok (.istore_n 2, 1) := by decide +kernel
theorem dX6_makePlan_13 : decode cX6_makePlan 13 = .ok (.iload_n 2, 1) := by decide +kernel
theorem dX6_makePlan_14 : decode cX6_makePlan 14 = .ok (.ifCond .lt 39, 3) := by decide +kernel
theorem dX6_makePlan_17 : decode cX6_makePlan 17 = .ok (.aload_n 0, 1) := by decide +kernel
theorem dX6_makePlan_18 : decode cX6_makePlan 18 = .ok (.iload_n 2, 1) := by decide +kernel
theorem dX6_makePlan_19 : decode cX6_makePlan 19 = .ok (.iload_n 2, 1) := by decide +kernel
theorem dX6_makePlan_20 : decode cX6_makePlan 20 = .ok (.iload_n 1, 1) := by decide +kernel
theorem dX6_makePlan_21 : decode cX6_makePlan 21 = .ok (.iconst 1, 1) := by decide +kernel
theorem dX6_makePlan_22 : decode cX6_makePlan 22 = .ok (.isub, 1) := by decide +kernel
theorem dX6_makePlan_23 : decode cX6_makePlan 23 = .ok (.if_icmp .ne 7, 3) := by decide +kernel
theorem dX6_makePlan_26 : decode cX6_makePlan 26 = .ok (.iconst 1, 1) := by decide +kernel
theorem dX6_makePlan_27 : decode cX6_makePlan 27 = .ok (.goto 4, 3) := by decide +kernel
theorem dX6_makePlan_30 : decode cX6_makePlan 30 = .ok (.iconst 0, 1) := by decide +kernel
theorem dX6_makePlan_31 : decode cX6_makePlan 31 = .ok (.invokevirtual 62, 3) := by decide +kernel
theorem dX6_makePlan_34 : decode cX6_makePlan 34 = .ok (.iload_n 2, 1) := by decide +kernel
theorem dX6_makePlan_35 : decode cX6_makePlan 35 = .ok (.ifCond .le 12, 3) := by decide +kernel
theorem dX6_makePlan_38 : decode cX6_makePlan 38 = .ok (.aload_n 0, 1) := by decide +kernel
theorem dX6_makePlan_39 : decode cX6_makePlan 39 = .ok (.iload_n 2, 1) := by decide +kernel
theorem dX6_makePlan_40 : decode cX6_makePlan 40 = .ok (.invokevirtual 66, 3) := by decide +kernel
theorem dX6_makePlan_43 : decode cX6_makePlan 43 = .ok (.aload_n 0, 1) := by decide +kernel
theorem dX6_makePlan_44 : decode cX6_makePlan 44 = .ok (.invokevirtual 69, 3) := by decide +kernel
theorem dX6_makePlan_47 : decode cX6_makePlan 47 = .ok (.iinc 2 (-1), 3) := by decide +kernel
theorem dX6_makePlan_50 : decode cX6_makePlan 50 = .ok (.goto (-37), 3) := by decide +kernel
theorem dX6_makePlan_53 : decode cX6_makePlan 53 = .ok (.aload_n 0, 1) := by decide +kernel
theorem dX6_makePlan_54 : decode cX6_makePlan 54 = .ok (.iconst (-1), 1) := by decide +kernel
theorem dX6_makePlan_55 : decode cX6_makePlan 55 = .ok (.putfield 39, 3) := by decide +kernel
theorem dX6_makePlan_58 : decode cX6_makePlan 58 = .ok (.iconst 0, 1) := by decide +kernel
theorem dX6_makePlan_59 : decode cX6_makePlan 59 = .ok (.istore_n 2, 1) := by decide +kernel
theorem dX6_makePlan_60 : decode cX6_makePlan 60 = .ok (.iload_n 2, 1) := by decide +kernel
theorem dX6_makePlan_61 : decode cX6_makePlan 61 = .ok (.iload_n 1, 1) := by decide +kernel
theorem dX6_makePlan_62 : decode cX6_makePlan 62 = .ok (.if_icmp .ge 14, 3) := by decide +kernel
theorem dX6_makePlan_65 : decode cX6_makePlan 65 = .ok (.aload_n 0, 1) := by decide +kernel
theorem dX6_makePlan_66 : decode cX6_makePlan 66 = .ok (.iload_n 2, 1) := by decide +kernel
theorem dX6_makePlan_67 : decode cX6_makePlan 67 = .ok (.invokevirtual 72, 3) := by decide +kernel
theorem dX6_makePlan_70 : decode cX6_makePlan 70 = .ok (.iinc 2 1, 3) := by decide +kernel
theorem dX6_makePlan_73 : decode cX6_makePlan 73 = .ok (.goto (-13), 3) := by decide +kernel
theorem dX6_makePlan_76 : decode cX6_makePlan 76 = .ok (.aload_n 0, 1) := by decide +kernel
theorem dX6_makePlan_77 : decode cX6_makePlan 77 = .ok (.iload_n 1, 1) := by decide +kernel
theorem dX6_makePlan_78 : decode cX6_makePlan 78 = .ok (.putfield 43, 3) := by decide +kernel
theorem dX6_makePlan_81 : decode cX6_makePlan 81 = .ok (.return_, 1) := by decide +kernel
theorem dX6_reckon_0 : decode cX6_reckon 0 = .ok (.aload_n 0, 1) := by decide +kernel
theorem dX6_reckon_1 : decode cX6_reckon 1 = .ok (.getfield 12, 3) := by decide +kernel
theorem dX6_reckon_4 : decode cX6_reckon 4 = .ok (.aload_n 0, 1) := by decide +kernel
theorem dX6_reckon_5 : decode cX6_reckon 5 = .ok (.getfield 50, 3) := by decide +kernel
theorem dX6_reckon_8 : decode cX6_reckon 8 = .ok (.invokevirtual 75, 3) := by decide +kernel
theorem dX6_reckon_11 : decode cX6_reckon 11 = .ok (.aload_n 0, 1) := by decide +kernel
theorem dX6_reckon_12 : decode cX6_reckon 12 = .ok (.getfield 46, 3) := by decide +kernel
theorem dX6_reckon_15 : decode cX6_reckon 15 = .ok (.invokevirtual 81, 3) := by decide +kernel
theorem dX6_reckon_18 : decode cX6_reckon 18 = .ok (.invokevirtual 86, 3) := by decide +kernel
theorem dX6_reckon_21 : decode cX6_reckon 21 = .ok (.iconst 1, 1) := by decide +kernel
theorem dX6_reckon_22 : decode cX6_reckon 22 = .ok (.istore_n 3, 1) := by decide +kernel
theorem dX6_reckon_23 : decode cX6_reckon 23 = .ok (.iconst 0, 1) := by decide +kernel
theorem dX6_reckon_24 : decode cX6_reckon 24 = .ok (.istore 4, 2) := by decide +kernel
theorem dX6_reckon_26 : decode cX6_reckon 26 = .ok (.iload_n 3, 1) := by decide +kernel
theorem dX6_reckon_27 : decode cX6_reckon 27 = .ok (.ifCond .eq 106, 3) := by decide +kernel
theorem dX6_reckon_30 : decode cX6_reckon 30 = .ok (.iload 4, 2) := by decide +kernel
theorem dX6_reckon_32 : decode cX6_reckon 32 = .ok (.sipush 720, 3) := by decide +kernel
theorem dX6_reckon_35 : decode cX6_reckon 35 = .ok (.if_icmp .ge 98, 3) := by decide +kernel
theorem dX6_reckon_38 : decode cX6_reckon 38 = .ok (.aload_n 0, 1) := by decide +kernel
theorem dX6_reckon_39 : decode cX6_reckon 39 = .ok (.getfield 54, 3) := by decide +kernel
theorem dX6_reckon_42 : decode cX6_reckon 42 = .ok (.iload_n 1, 1) := by decide +kernel
theorem dX6_reckon_43 : decode cX6_reckon 43 = .ok (.aload_n 0, 1) := by decide +kernel
theorem dX6_reckon_44 : decode cX6_reckon 44 = .ok (.getfield 12, 3) := by decide +kernel
theorem dX6_reckon_47 : decode cX6_reckon 47 = .ok (.invokevirtual 90, 3) := by decide +kernel
theorem dX6_reckon_50 : decode cX6_reckon 50 = .ok (.istore 5, 2) := by decide +kernel
theorem dX6_reckon_52 : decode cX6_reckon 52 = .ok (.iload_n 2, 1) := by decide +kernel
theorem dX6_reckon_53 : decode cX6_reckon 53 = .ok (.ifCond .eq 7, 3) := by decide +kernel
theorem dX6_reckon_56 : decode cX6_reckon 56 = .ok (.iconst 0, 1) := by decide +kernel
theorem dX6_reckon_57 : decode cX6_reckon 57 = .ok (.goto 17, 3) := by decide +kernel
theorem dX6_reckon_60 : decode cX6_reckon 60 = .ok (.aload_n 0, 1) := by decide +kernel
theorem dX6_reckon_61 : decode cX6_reckon 61 = .ok (.getfield 33, 3) := by decide +kernel
theorem dX6_reckon_64 : decode cX6_reckon 64 = .ok (.aload_n 0, 1) := by decide +kernel
theorem dX6_reckon_65 : decode cX6_reckon 65 = .ok (.getfield 12, 3) := by decide +kernel
theorem dX6_reckon_68 : decode cX6_reckon 68 = .ok (.invokevirtual 96, 3) := by decide +kernel
theorem dX6_reckon_71 : decode cX6_reckon 71 = .ok (.invokevirtual 58, 3) := by decide +kernel
theorem dX6_reckon_74 : decode cX6_reckon 74 = .ok (.istore 6, 2) := by decide +kernel
theorem dX6_reckon_76 : decode cX6_reckon 76 = .ok (.aload_n 0, 1) := by decide +kernel
theorem dX6_reckon_77 : decode cX6_reckon 77 = .ok (.getfield 29, 3) := by decide +kernel
theorem dX6_reckon_80 : decode cX6_reckon 80 = .ok (.iload_n 1, 1) := by decide +kernel
theorem dX6_reckon_81 : decode cX6_reckon 81 = .ok (.sipush 720, 3) := by decide +kernel
theorem dX6_reckon_84 : decode cX6_reckon 84 = .ok (.imul, 1) := by decide +kernel
theorem dX6_reckon_85 : decode cX6_reckon 85 = .ok (.iload 4, 2) := by decide +kernel
theorem dX6_reckon_87 : decode cX6_reckon 87 = .ok (.iadd, 1) := by decide +kernel
theorem dX6_reckon_88 : decode cX6_reckon 88 = .ok (.iload 5, 2) := by decide +kernel
theorem dX6_reckon_90 : decode cX6_reckon 90 = .ok (.iconst (-1), 1) := by decide +kernel
theorem dX6_reckon_91 : decode cX6_reckon 91 = .ok (.if_icmp .ne 8, 3) := by decide +kernel
theorem dX6_reckon_94 : decode cX6_reckon 94 = .ok (.ldc 99, 2) := by decide +kernel
theorem dX6_reckon_96 : decode cX6_reckon 96 = .ok (.goto 13, 3) := by decide +kernel
theorem dX6_reckon_99 : decode cX6_reckon 99 = .ok (.ldc 99, 2) := by decide +kernel
theorem dX6_reckon_101 : decode cX6_reckon 101 = .ok (.iload 5, 2) := by decide +kernel
theorem dX6_reckon_103 : decode cX6_reckon 103 = .ok (.iload 6, 2) := by decide +kernel
theorem dX6_reckon_105 : decode cX6_reckon 105 = .ok (.iadd, 1) := by decide +kernel
theorem dX6_reckon_106 : decode cX6_reckon 106 = .ok (.invokestatic 100, 3) := by decide +kernel
theorem dX6_reckon_109 : decode cX6_reckon 109 = .ok (.invokevirtual 106, 3) := by decide +kernel
theorem dX6_reckon_112 : decode cX6_reckon 112 = .ok (.aload_n 0, 1) := by decide +kernel
theorem dX6_reckon_113 : decode cX6_reckon 113 = .ok (.getfield 12, 3) := by decide +kernel
theorem dX6_reckon_116 : decode cX6_reckon 116 = .ok (.aload_n 0, 1) := by decide +kernel
theorem dX6_reckon_117 : decode cX6_reckon 117 = .ok (.getfield 46, 3) := by decide +kernel
theorem dX6_reckon_120 : decode cX6_reckon 120 = .ok (.invokevirtual 81, 3) := by decide +kernel
theorem dX6_reckon_123 : decode cX6_reckon 123 = .ok (.invokevirtual 109, 3) := by decide +kernel
theorem dX6_reckon_126 : decode cX6_reckon 126 = .ok (.istore_n 3, 1) := by decide +kernel
theorem dX6_reckon_127 : decode cX6_reckon 127 = .ok (.iinc 4 1, 3) := by decide +kernel
theorem dX6_reckon_130 : decode cX6_reckon 130 = .ok (.goto (-104), 3) := by decide +kernel
theorem dX6_reckon_133 : decode cX6_reckon 133 = .ok (.return_, 1) := by decide +kernel
theorem dX6_stay_0 : decode cX6_stay 0 = .ok (.aload_n 0, 1) := by decide +kernel
theorem dX6_stay_1 : decode cX6_stay 1 = .ok (.invokevirtual 113, 3) := by decide +kernel
theorem dX6_stay_4 : decode cX6_stay 4 = .ok (.istore_n 2, 1) := by decide +kernel
theorem dX6_stay_5 : decode cX6_stay 5 = .ok (.iconst 0, 1) := by decide +kernel
theorem dX6_stay_6 : decode cX6_stay 6 = .ok (.istore_n 3, 1) := by decide +kernel
theorem dX6_stay_7 : decode cX6_stay 7 = .ok (.iload_n 3, 1) := by decide +kernel
theorem dX6_stay_8 : decode cX6_stay 8 = .ok (.iload_n 2, 1) := by decide +kernel
theorem dX6_stay_9 : decode cX6_stay 9 = .ok (.if_icmp .ge 19, 3) := by decide +kernel
theorem dX6_stay_12 : decode cX6_stay 12 = .ok (.aload_n 0, 1) := by decide +kernel
theorem dX6_stay_13 : decode cX6_stay 13 = .ok (.getfield 33, 3) := by decide +kernel
theorem dX6_stay_16 : decode cX6_stay 16 = .ok (.iload_n 3, 1) := by decide +kernel
theorem dX6_stay_17 : decode cX6_stay 17 = .ok (.ldc 99, 2) := by decide +kernel
theorem dX6_stay_19 : decode cX6_stay 19 = .ok (.invokevirtual 106, 3) := by decide +kernel
theorem dX6_stay_22 : decode cX6_stay 22 = .ok (.iinc 3 1, 3) := by decide +kernel
theorem dX6_stay_25 : decode cX6_stay 25 = .ok (.goto (-18), 3) := by decide +kernel
theorem dX6_stay_28 : decode cX6_stay 28 = .ok (.aload_n 0, 1) := by decide +kernel
theorem dX6_stay_29 : decode cX6_stay 29 = .ok (.getfield 12, 3) := by decide +kernel
theorem dX6_stay_32 : decode cX6_stay 32 = .ok (.aload_n 0, 1) := by decide +kernel
theorem dX6_stay_33 : decode cX6_stay 33 = .ok (.getfield 50, 3) := by decide +kernel
theorem dX6_stay_36 : decode cX6_stay 36 = .ok (.invokevirtual 75, 3) := by decide +kernel
theorem dX6_stay_39 : decode cX6_stay 39 = .ok (.aload_n 0, 1) := by decide +kernel
theorem dX6_stay_40 : decode cX6_stay 40 = .ok (.getfield 46, 3) := by decide +kernel
theorem dX6_stay_43 : decode cX6_stay 43 = .ok (.invokevirtual 81, 3) := by decide +kernel
theorem dX6_stay_46 : decode cX6_stay 46 = .ok (.invokevirtual 86, 3) := by decide +kernel
theorem dX6_stay_49 : decode cX6_stay 49 = .ok (.iconst 1, 1) := by decide +kernel
theorem dX6_stay_50 : decode cX6_stay 50 = .ok (.istore_n 3, 1) := by decide +kernel
theorem dX6_stay_51 : decode cX6_stay 51 = .ok (.iconst 0, 1) := by decide +kernel
theorem dX6_stay_52 : decode cX6_stay 52 = .ok (.istore 4, 2) := by decide +kernel
theorem dX6_stay_54 : decode cX6_stay 54 = .ok (.iload_n 3, 1) := by decide +kernel
theorem dX6_stay_55 : decode cX6_stay 55 = .ok (.ifCond .eq 61, 3) := by decide +kernel
theorem dX6_stay_58 : decode cX6_stay 58 = .ok (.iload 4, 2) := by decide +kernel
theorem dX6_stay_60 : decode cX6_stay 60 = .ok (.sipush 720, 3) := by decide +kernel
theorem dX6_stay_63 : decode cX6_stay 63 = .ok (.if_icmp .ge 53, 3) := by decide +kernel
theorem dX6_stay_66 : decode cX6_stay 66 = .ok (.aload_n 0, 1) := by decide +kernel
theorem dX6_stay_67 : decode cX6_stay 67 = .ok (.getfield 33, 3) := by decide +kernel
theorem dX6_stay_70 : decode cX6_stay 70 = .ok (.aload_n 0, 1) := by decide +kernel
theorem dX6_stay_71 : decode cX6_stay 71 = .ok (.getfield 12, 3) := by decide +kernel
theorem dX6_stay_74 : decode cX6_stay 74 = .ok (.invokevirtual 96, 3) := by decide +kernel
theorem dX6_stay_77 : decode cX6_stay 77 = .ok (.aload_n 0, 1) := by decide +kernel
theorem dX6_stay_78 : decode cX6_stay 78 = .ok (.getfield 29, 3) := by decide +kernel
theorem dX6_stay_81 : decode cX6_stay 81 = .ok (.iload_n 1, 1) := by decide +kernel
theorem dX6_stay_82 : decode cX6_stay 82 = .ok (.sipush 720, 3) := by decide +kernel
theorem dX6_stay_85 : decode cX6_stay 85 = .ok (.imul, 1) := by decide +kernel
theorem dX6_stay_86 : decode cX6_stay 86 = .ok (.iload 4, 2) := by decide +kernel
theorem dX6_stay_88 : decode cX6_stay 88 = .ok (.iadd, 1) := by decide +kernel
theorem dX6_stay_89 : decode cX6_stay 89 = .ok (.invokevirtual 58, 3) := by decide +kernel
theorem dX6_stay_92 : decode cX6_stay 92 = .ok (.invokevirtual 106, 3) := by decide +kernel
theorem dX6_stay_95 : decode cX6_stay 95 = .ok (.aload_n 0, 1) := by decide +kernel
theorem dX6_stay_96 : decode cX6_stay 96 = .ok (.getfield 12, 3) := by decide +kernel
theorem dX6_stay_99 : decode cX6_stay 99 = .ok (.aload_n 0, 1) := by decide +kernel
theorem dX6_stay_100 : decode cX6_stay 100 = .ok (.getfield 46, 3) := by decide +kernel
theorem dX6_stay_103 : decode cX6_stay 103 = .ok (.invokevirtual 81, 3) := by decide +kernel
theorem dX6_stay_106 : decode cX6_stay 106 = .ok (.invokevirtual 109, 3) := by decide +kernel
theorem dX6_stay_109 : decode cX6_stay 109 = .ok (.istore_n 3, 1) := by decide +kernel
theorem dX6_stay_110 : decode cX6_stay 110 = .ok (.iinc 4 1, 3) := by decide +kernel
theorem dX6_stay_113 : decode cX6_stay 113 = .ok (.goto (-59), 3) := by decide +kernel
theorem dX6_stay_116 : decode cX6_stay 116 = .ok (.return_, 1) := by decide +kernel
theorem dX6_letAllMove_0 : decode cX6_letAllMove 0 = .ok (.iconst 1, 1) := by decide +kernel
theorem dX6_letAllMove_1 : decode cX6_letAllMove 1 = .ok (.istore_n 1, 1) := by decide +kernel
theorem dX6_letAllMove_2 : decode cX6_letAllMove 2 = .ok (.aload_n 0, 1) := by decide +kernel
theorem dX6_letAllMove_3 : decode cX6_letAllMove 3 = .ok (.invokevirtual 113, 3) := by decide +kernel
theorem dX6_letAllMove_6 : decode cX6_letAllMove 6 = .ok (.bipush 6, 2) := by decide +kernel
theorem dX6_letAllMove_8 : decode cX6_letAllMove 8 = .ok (.idiv, 1) := by decide +kernel
theorem dX6_letAllMove_9 : decode cX6_letAllMove 9 = .ok (.istore_n 2, 1) := by decide +kernel
theorem dX6_letAllMove_10 : decode cX6_letAllMove 10 = .ok (.iconst 0, 1) := by decide +kernel
theorem dX6_letAllMove_11 : decode cX6_letAllMove 11 = .ok (.istore_n 3, 1) := by decide +kernel
theorem dX6_letAllMove_12 : decode cX6_letAllMove 12 = .ok (.iload_n 3, 1) := by decide +kernel
theorem dX6_letAllMove_13 : decode cX6_letAllMove 13 = .ok (.aload_n 0, 1) := by decide +kernel
theorem dX6_letAllMove_14 : decode cX6_letAllMove 14 = .ok (.getfield 50, 3) := by decide +kernel
theorem dX6_letAllMove_17 : decode cX6_letAllMove 17 = .ok (.invokevirtual 75, 3) := by decide +kernel
theorem dX6_letAllMove_20 : decode cX6_letAllMove 20 = .ok (.if_icmp .ge 72, 3) := by decide +kernel
theorem dX6_letAllMove_23 : decode cX6_letAllMove 23 = .ok (.iconst 0, 1) := by decide +kernel
theorem dX6_letAllMove_24 : decode cX6_letAllMove 24 = .ok (.istore 4, 2) := by decide +kernel
theorem dX6_letAllMove_26 : decode cX6_letAllMove 26 = .ok (.iload 4, 2) := by decide +kernel
theorem dX6_letAllMove_28 : decode cX6_letAllMove 28 = .ok (.iload_n 2, 1) := by decide +kernel
theorem dX6_letAllMove_29 : decode cX6_letAllMove 29 = .ok (.if_icmp .ge 47, 3) := by decide +kernel
theorem dX6_letAllMove_32 : decode cX6_letAllMove 32 = .ok (.iconst 0, 1) := by decide +kernel
theorem dX6_letAllMove_33 : decode cX6_letAllMove 33 = .ok (.istore 5, 2) := by decide +kernel
theorem dX6_letAllMove_35 : decode cX6_letAllMove 35 = .ok (.iload 5, 2) := by decide +kernel
theorem dX6_letAllMove_37 : decode cX6_letAllMove 37 = .ok (.iload_n 1, 1) := by decide +kernel
theorem dX6_letAllMove_38 : decode cX6_letAllMove 38 = .ok (.if_icmp .ge 32, 3) := by decide +kernel
theorem dX6_letAllMove_41 : decode cX6_letAllMove 41 = .ok (.aload_n 0, 1) := by decide +kernel
theorem dX6_letAllMove_42 : decode cX6_letAllMove 42 = .ok (.iload 4, 2) := by decide +kernel
theorem dX6_letAllMove_44 : decode cX6_letAllMove 44 = .ok (.iload_n 1, 1) := by decide +kernel
theorem dX6_letAllMove_45 : decode cX6_letAllMove 45 = .ok (.imul, 1) := by decide +kernel
theorem dX6_letAllMove_46 : decode cX6_letAllMove 46 = .ok (.bipush 6, 2) := by decide +kernel
theorem dX6_letAllMove_48 : decode cX6_letAllMove 48 = .ok (.imul, 1) := by decide +kernel
theorem dX6_letAllMove_49 : decode cX6_letAllMove 49 = .ok (.iload 5, 2) := by decide +kernel
theorem dX6_letAllMove_51 : decode cX6_letAllMove 51 = .ok (.iadd, 1) := by decide +kernel
theorem dX6_letAllMove_52 : decode cX6_letAllMove 52 = .ok (.iload_n 1, 1) := by decide +kernel
theorem dX6_letAllMove_53 : decode cX6_letAllMove 53 = .ok (.aload_n 0, 1) := by decide +kernel
theorem dX6_letAllMove_54 : decode cX6_letAllMove 54 = .ok (.getfield 50, 3) := by decide +kernel
theorem dX6_letAllMove_57 : decode cX6_letAllMove 57 = .ok (.iload_n 3, 1) := by decide +kernel
theorem dX6_letAllMove_58 : decode cX6_letAllMove 58 = .ok (.invokevirtual 116, 3) := by decide +kernel
theorem dX6_letAllMove_61 : decode cX6_letAllMove 61 = .ok (.invokevirtual 119, 3) := by decide +kernel
theorem dX6_letAllMove_64 : decode cX6_letAllMove 64 = .ok (.iinc 5 1, 3) := by decide +kernel
theorem dX6_letAllMove_67 : decode cX6_letAllMove 67 = .ok (.goto (-32), 3) := by decide +kernel
theorem dX6_letAllMove_70 : decode cX6_letAllMove 70 = .ok (.iinc 4 1, 3) := by decide +kernel
theorem dX6_letAllMove_73 : decode cX6_letAllMove 73 = .ok (.goto (-47), 3) := by decide +kernel
theorem dX6_letAllMove_76 : decode cX6_letAllMove 76 = .ok (.iload_n 1, 1) := by decide +kernel
theorem dX6_letAllMove_77 : decode cX6_letAllMove 77 = .ok (.bipush 6, 2) := by decide +kernel
theorem dX6_letAllMove_79 : decode cX6_letAllMove 79 = .ok (.imul, 1) := by decide +kernel
theorem dX6_letAllMove_80 : decode cX6_letAllMove 80 = .ok (.istore_n 1, 1) := by decide +kernel
theorem dX6_letAllMove_81 : decode cX6_letAllMove 81 = .ok (.iload_n 2, 1) := by decide +kernel
theorem dX6_letAllMove_82 : decode cX6_letAllMove 82 = .ok (.bipush 6, 2) := by decide +kernel
theorem dX6_letAllMove_84 : decode cX6_letAllMove 84 = .ok (.idiv, 1) := by decide +kernel
theorem dX6_letAllMove_85 : decode cX6_letAllMove 85 = .ok (.istore_n 2, 1) := by decide +kernel
theorem dX6_letAllMove_86 : decode cX6_letAllMove 86 = .ok (.iinc 3 1, 3) := by decide +kernel
theorem dX6_letAllMove_89 : decode cX6_letAllMove 89 = .ok (.goto (-77), 3) := by decide +kernel
theorem dX6_letAllMove_92 : decode cX6_letAllMove 92 = .ok (.return_, 1) := by decide +kernel
theorem dX6_toldEnd_0 : decode cX6_toldEnd 0 = .ok (.iconst 1, 1) := by decide +kernel
theorem dX6_toldEnd_1 : decode cX6_toldEnd 1 = .ok (.istore_n 1, 1) := by decide +kernel
theorem dX6_toldEnd_2 : decode cX6_toldEnd 2 = .ok (.iconst 0, 1) := by decide +kernel
theorem dX6_toldEnd_3 : decode cX6_toldEnd 3 = .ok (.istore_n 2, 1) := by decide +kernel
theorem dX6_toldEnd_4 : decode cX6_toldEnd 4 = .ok (.iload_n 2, 1) := by decide +kernel
theorem dX6_toldEnd_5 : decode cX6_toldEnd 5 = .ok (.aload_n 0, 1) := by decide +kernel
theorem dX6_toldEnd_6 : decode cX6_toldEnd 6 = .ok (.getfield 50, 3) := by decide +kernel
theorem dX6_toldEnd_9 : decode cX6_toldEnd 9 = .ok (.invokevirtual 75, 3) := by decide +kernel
theorem dX6_toldEnd_12 : decode cX6_toldEnd 12 = .ok (.if_icmp .ge 14, 3) := by decide +kernel
theorem dX6_toldEnd_15 : decode cX6_toldEnd 15 = .ok (.iload_n 1, 1) := by decide +kernel
theorem dX6_toldEnd_16 : decode cX6_toldEnd 16 = .ok (.bipush 6, 2) := by decide +kernel
theorem dX6_toldEnd_18 : decode cX6_toldEnd 18 = .ok (.imul, 1) := by decide +kernel
theorem dX6_toldEnd_19 : decode cX6_toldEnd 19 = .ok (.istore_n 1, 1) := by decide +kernel
theorem dX6_toldEnd_20 : decode cX6_toldEnd 20 = .ok (.iinc 2 1, 3) := by decide +kernel
theorem dX6_toldEnd_23 : decode cX6_toldEnd 23 = .ok (.goto (-19), 3) := by decide +kernel
theorem dX6_toldEnd_26 : decode cX6_toldEnd 26 = .ok (.iload_n 1, 1) := by decide +kernel
theorem dX6_toldEnd_27 : decode cX6_toldEnd 27 = .ok (.ireturn, 1) := by decide +kernel
theorem dX6_letMove_0 : decode cX6_letMove 0 = .ok (.ldc 99, 2) := by decide +kernel
theorem dX6_letMove_2 : decode cX6_letMove 2 = .ok (.istore 4, 2) := by decide +kernel
theorem dX6_letMove_4 : decode cX6_letMove 4 = .ok (.iconst 0, 1) := by decide +kernel
theorem dX6_letMove_5 : decode cX6_letMove 5 = .ok (.istore 5, 2) := by decide +kernel
theorem dX6_letMove_7 : decode cX6_letMove 7 = .ok (.iload 5, 2) := by decide +kernel
theorem dX6_letMove_9 : decode cX6_letMove 9 = .ok (.bipush 6, 2) := by decide +kernel
theorem dX6_letMove_11 : decode cX6_letMove 11 = .ok (.if_icmp .ge 29, 3) := by decide +kernel
theorem dX6_letMove_14 : decode cX6_letMove 14 = .ok (.iload 4, 2) := by decide +kernel
theorem dX6_letMove_16 : decode cX6_letMove 16 = .ok (.aload_n 0, 1) := by decide +kernel
theorem dX6_letMove_17 : decode cX6_letMove 17 = .ok (.getfield 33, 3) := by decide +kernel
theorem dX6_letMove_20 : decode cX6_letMove 20 = .ok (.iload_n 1, 1) := by decide +kernel
theorem dX6_letMove_21 : decode cX6_letMove 21 = .ok (.iload 5, 2) := by decide +kernel
theorem dX6_letMove_23 : decode cX6_letMove 23 = .ok (.iload_n 2, 1) := by decide +kernel
theorem dX6_letMove_24 : decode cX6_letMove 24 = .ok (.imul, 1) := by decide +kernel
theorem dX6_letMove_25 : decode cX6_letMove 25 = .ok (.iadd, 1) := by decide +kernel
theorem dX6_letMove_26 : decode cX6_letMove 26 = .ok (.invokevirtual 58, 3) := by decide +kernel
theorem dX6_letMove_29 : decode cX6_letMove 29 = .ok (.invokestatic 100, 3) := by decide +kernel
theorem dX6_letMove_32 : decode cX6_letMove 32 = .ok (.istore 4, 2) := by decide +kernel
theorem dX6_letMove_34 : decode cX6_letMove 34 = .ok (.iinc 5 1, 3) := by decide +kernel
theorem dX6_letMove_37 : decode cX6_letMove 37 = .ok (.goto (-30), 3) := by decide +kernel
theorem dX6_letMove_40 : decode cX6_letMove 40 = .ok (.iconst 0, 1) := by decide +kernel
theorem dX6_letMove_41 : decode cX6_letMove 41 = .ok (.istore 5, 2) := by decide +kernel
theorem dX6_letMove_43 : decode cX6_letMove 43 = .ok (.iload 5, 2) := by decide +kernel
theorem dX6_letMove_45 : decode cX6_letMove 45 = .ok (.bipush 6, 2) := by decide +kernel
theorem dX6_letMove_47 : decode cX6_letMove 47 = .ok (.if_icmp .ge 42, 3) := by decide +kernel
theorem dX6_letMove_50 : decode cX6_letMove 50 = .ok (.iload_n 1, 1) := by decide +kernel
theorem dX6_letMove_51 : decode cX6_letMove 51 = .ok (.iload 5, 2) := by decide +kernel
theorem dX6_letMove_53 : decode cX6_letMove 53 = .ok (.iload_n 2, 1) := by decide +kernel
theorem dX6_letMove_54 : decode cX6_letMove 54 = .ok (.imul, 1) := by decide +kernel
theorem dX6_letMove_55 : decode cX6_letMove 55 = .ok (.iadd, 1) := by decide +kernel
theorem dX6_letMove_56 : decode cX6_letMove 56 = .ok (.istore 6, 2) := by decide +kernel
theorem dX6_letMove_58 : decode cX6_letMove 58 = .ok (.aload_n 0, 1) := by decide +kernel
theorem dX6_letMove_59 : decode cX6_letMove 59 = .ok (.getfield 33, 3) := by decide +kernel
theorem dX6_letMove_62 : decode cX6_letMove 62 = .ok (.iload 6, 2) := by decide +kernel
theorem dX6_letMove_64 : decode cX6_letMove 64 = .ok (.aload_n 0, 1) := by decide +kernel
theorem dX6_letMove_65 : decode cX6_letMove 65 = .ok (.getfield 33, 3) := by decide +kernel
theorem dX6_letMove_68 : decode cX6_letMove 68 = .ok (.iload 6, 2) := by decide +kernel
theorem dX6_letMove_70 : decode cX6_letMove 70 = .ok (.invokevirtual 58, 3) := by decide +kernel
theorem dX6_letMove_73 : decode cX6_letMove 73 = .ok (.iload 4, 2) := by decide +kernel
theorem dX6_letMove_75 : decode cX6_letMove 75 = .ok (.iload_n 3, 1) := by decide +kernel
theorem dX6_letMove_76 : decode cX6_letMove 76 = .ok (.iadd, 1) := by decide +kernel
theorem dX6_letMove_77 : decode cX6_letMove 77 = .ok (.invokestatic 100, 3) := by decide +kernel
theorem dX6_letMove_80 : decode cX6_letMove 80 = .ok (.invokevirtual 106, 3) := by decide +kernel
theorem dX6_letMove_83 : decode cX6_letMove 83 = .ok (.iinc 5 1, 3) := by decide +kernel
theorem dX6_letMove_86 : decode cX6_letMove 86 = .ok (.goto (-43), 3) := by decide +kernel
theorem dX6_letMove_89 : decode cX6_letMove 89 = .ok (.return_, 1) := by decide +kernel
theorem dX6_choose_0 : decode cX6_choose 0 = .ok (.ldc 99, 2) := by decide +kernel
theorem dX6_choose_2 : decode cX6_choose 2 = .ok (.istore_n 2, 1) := by decide +kernel
theorem dX6_choose_3 : decode cX6_choose 3 = .ok (.aload_n 0, 1) := by decide +kernel
theorem dX6_choose_4 : decode cX6_choose 4 = .ok (.getfield 12, 3) := by decide +kernel
theorem dX6_choose_7 : decode cX6_choose 7 = .ok (.aload_n 0, 1) := by decide +kernel
theorem dX6_choose_8 : decode cX6_choose 8 = .ok (.getfield 50, 3) := by decide +kernel
theorem dX6_choose_11 : decode cX6_choose 11 = .ok (.invokevirtual 75, 3) := by decide +kernel
theorem dX6_choose_14 : decode cX6_choose 14 = .ok (.aload_n 0, 1) := by decide +kernel
theorem dX6_choose_15 : decode cX6_choose 15 = .ok (.getfield 46, 3) := by decide +kernel
theorem dX6_choose_18 : decode cX6_choose 18 = .ok (.invokevirtual 81, 3) := by decide +kernel
theorem dX6_choose_21 : decode cX6_choose 21 = .ok (.invokevirtual 86, 3) := by decide +kernel
theorem dX6_choose_24 : decode cX6_choose 24 = .ok (.iconst 1, 1) := by decide +kernel
theorem dX6_choose_25 : decode cX6_choose 25 = .ok (.istore_n 3, 1) := by decide +kernel
theorem dX6_choose_26 : decode cX6_choose 26 = .ok (.iconst 0, 1) := by decide +kernel
theorem dX6_choose_27 : decode cX6_choose 27 = .ok (.istore 4, 2) := by decide +kernel
theorem dX6_choose_29 : decode cX6_choose 29 = .ok (.iload_n 3, 1) := by decide +kernel
theorem dX6_choose_30 : decode cX6_choose 30 = .ok (.ifCond .eq 97, 3) := by decide +kernel
theorem dX6_choose_33 : decode cX6_choose 33 = .ok (.iload 4, 2) := by decide +kernel
theorem dX6_choose_35 : decode cX6_choose 35 = .ok (.sipush 720, 3) := by decide +kernel
theorem dX6_choose_38 : decode cX6_choose 38 = .ok (.if_icmp .ge 89, 3) := by decide +kernel
theorem dX6_choose_41 : decode cX6_choose 41 = .ok (.iload_n 1, 1) := by decide +kernel
theorem dX6_choose_42 : decode cX6_choose 42 = .ok (.ifCond .ne 7, 3) := by decide +kernel
theorem dX6_choose_45 : decode cX6_choose 45 = .ok (.iconst 0, 1) := by decide +kernel
theorem dX6_choose_46 : decode cX6_choose 46 = .ok (.goto 18, 3) := by decide +kernel
theorem dX6_choose_49 : decode cX6_choose 49 = .ok (.aload_n 0, 1) := by decide +kernel
theorem dX6_choose_50 : decode cX6_choose 50 = .ok (.getfield 50, 3) := by decide +kernel
theorem dX6_choose_53 : decode cX6_choose 53 = .ok (.aload_n 0, 1) := by decide +kernel
theorem dX6_choose_54 : decode cX6_choose 54 = .ok (.getfield 18, 3) := by decide +kernel
theorem dX6_choose_57 : decode cX6_choose 57 = .ok (.aload_n 0, 1) := by decide +kernel
theorem dX6_choose_58 : decode cX6_choose 58 = .ok (.getfield 12, 3) := by decide +kernel
theorem dX6_choose_61 : decode cX6_choose 61 = .ok (.invokevirtual 123, 3) := by decide +kernel
theorem dX6_choose_64 : decode cX6_choose 64 = .ok (.istore 5, 2) := by decide +kernel
theorem dX6_choose_66 : decode cX6_choose 66 = .ok (.aload_n 0, 1) := by decide +kernel
theorem dX6_choose_67 : decode cX6_choose 67 = .ok (.getfield 29, 3) := by decide +kernel
theorem dX6_choose_70 : decode cX6_choose 70 = .ok (.iload_n 1, 1) := by decide +kernel
theorem dX6_choose_71 : decode cX6_choose 71 = .ok (.sipush 720, 3) := by decide +kernel
theorem dX6_choose_74 : decode cX6_choose 74 = .ok (.imul, 1) := by decide +kernel
theorem dX6_choose_75 : decode cX6_choose 75 = .ok (.iload 4, 2) := by decide +kernel
theorem dX6_choose_77 : decode cX6_choose 77 = .ok (.iadd, 1) := by decide +kernel
theorem dX6_choose_78 : decode cX6_choose 78 = .ok (.invokevirtual 58, 3) := by decide +kernel
theorem dX6_choose_81 : decode cX6_choose 81 = .ok (.iload 5, 2) := by decide +kernel
theorem dX6_choose_83 : decode cX6_choose 83 = .ok (.iadd, 1) := by decide +kernel
theorem dX6_choose_84 : decode cX6_choose 84 = .ok (.istore 6, 2) := by decide +kernel
theorem dX6_choose_86 : decode cX6_choose 86 = .ok (.iload 6, 2) := by decide +kernel
theorem dX6_choose_88 : decode cX6_choose 88 = .ok (.iload_n 2, 1) := by decide +kernel
theorem dX6_choose_89 : decode cX6_choose 89 = .ok (.if_icmp .ge 17, 3) := by decide +kernel
theorem dX6_choose_92 : decode cX6_choose 92 = .ok (.iload 6, 2) := by decide +kernel
theorem dX6_choose_94 : decode cX6_choose 94 = .ok (.istore_n 2, 1) := by decide +kernel
theorem dX6_choose_95 : decode cX6_choose 95 = .ok (.aload_n 0, 1) := by decide +kernel
theorem dX6_choose_96 : decode cX6_choose 96 = .ok (.getfield 21, 3) := by decide +kernel
theorem dX6_choose_99 : decode cX6_choose 99 = .ok (.aload_n 0, 1) := by decide +kernel
theorem dX6_choose_100 : decode cX6_choose 100 = .ok (.getfield 12, 3) := by decide +kernel
theorem dX6_choose_103 : decode cX6_choose 103 = .ok (.invokevirtual 127, 3) := by decide +kernel
theorem dX6_choose_106 : decode cX6_choose 106 = .ok (.aload_n 0, 1) := by decide +kernel
theorem dX6_choose_107 : decode cX6_choose 107 = .ok (.getfield 12, 3) := by decide +kernel
theorem dX6_choose_110 : decode cX6_choose 110 = .ok (.aload_n 0, 1) := by decide +kernel
theorem dX6_choose_111 : decode cX6_choose 111 = .ok (.getfield 46, 3) := by decide +kernel
theorem dX6_choose_114 : decode cX6_choose 114 = .ok (.invokevirtual 81, 3) := by decide +kernel
theorem dX6_choose_117 : decode cX6_choose 117 = .ok (.invokevirtual 109, 3) := by decide +kernel
theorem dX6_choose_120 : decode cX6_choose 120 = .ok (.istore_n 3, 1) := by decide +kernel
theorem dX6_choose_121 : decode cX6_choose 121 = .ok (.iinc 4 1, 3) := by decide +kernel
theorem dX6_choose_124 : decode cX6_choose 124 = .ok (.goto (-95), 3) := by decide +kernel
theorem dX6_choose_127 : decode cX6_choose 127 = .ok (.iload_n 1, 1) := by decide +kernel
theorem dX6_choose_128 : decode cX6_choose 128 = .ok (.ifCond .ne 14, 3) := by decide +kernel
theorem dX6_choose_131 : decode cX6_choose 131 = .ok (.iload_n 2, 1) := by decide +kernel
theorem dX6_choose_132 : decode cX6_choose 132 = .ok (.ldc 99, 2) := by decide +kernel
theorem dX6_choose_134 : decode cX6_choose 134 = .ok (.if_icmp .ge 8, 3) := by decide +kernel
theorem dX6_choose_137 : decode cX6_choose 137 = .ok (.aload_n 0, 1) := by decide +kernel
theorem dX6_choose_138 : decode cX6_choose 138 = .ok (.iload_n 2, 1) := by decide +kernel
theorem dX6_choose_139 : decode cX6_choose 139 = .ok (.putfield 39, 3) := by decide +kernel
theorem dX6_choose_142 : decode cX6_choose 142 = .ok (.aload_n 0, 1) := by decide +kernel
theorem dX6_choose_143 : decode cX6_choose 143 = .ok (.getfield 36, 3) := by decide +kernel
theorem dX6_choose_146 : decode cX6_choose 146 = .ok (.iload_n 1, 1) := by decide +kernel
theorem dX6_choose_147 : decode cX6_choose 147 = .ok (.aload_n 0, 1) := by decide +kernel
theorem dX6_choose_148 : decode cX6_choose 148 = .ok (.getfield 21, 3) := by decide +kernel
theorem dX6_choose_151 : decode cX6_choose 151 = .ok (.invokevirtual 96, 3) := by decide +kernel
theorem dX6_choose_154 : decode cX6_choose 154 = .ok (.invokevirtual 106, 3) := by decide +kernel
theorem dX6_choose_157 : decode cX6_choose 157 = .ok (.aload_n 0, 1) := by decide +kernel
theorem dX6_choose_158 : decode cX6_choose 158 = .ok (.getfield 18, 3) := by decide +kernel
theorem dX6_choose_161 : decode cX6_choose 161 = .ok (.aload_n 0, 1) := by decide +kernel
theorem dX6_choose_162 : decode cX6_choose 162 = .ok (.getfield 21, 3) := by decide +kernel
theorem dX6_choose_165 : decode cX6_choose 165 = .ok (.invokevirtual 127, 3) := by decide +kernel
theorem dX6_choose_168 : decode cX6_choose 168 = .ok (.return_, 1) := by decide +kernel
theorem dX7_init_0 : decode cX7_init 0 = .ok (.aload_n 0, 1) := by decide +kernel
theorem dX7_init_1 : decode cX7_init 1 = .ok (.invokespecial 1, 3) := by decide +kernel
theorem dX7_init_4 : decode cX7_init 4 = .ok (.aload_n 0, 1) := by decide +kernel
theorem dX7_init_5 : decode cX7_init 5 = .ok (.iload_n 1, 1) := by decide +kernel
theorem dX7_init_6 : decode cX7_init 6 = .ok (.ifCond .ge 7, 3) := by decide +kernel
theorem dX7_init_9 : decode cX7_init 9 = .ok (.iconst 0, 1) := by decide +kernel
theorem dX7_init_10 : decode cX7_init 10 = .ok (.goto 4, 3) := by decide +kernel
theorem dX7_init_13 : decode cX7_init 13 = .ok (.iload_n 1, 1) := by decide +kernel
theorem dX7_init_14 : decode cX7_init 14 = .ok (.newarray .int, 2) := by decide +kernel
theorem dX7_init_16 : decode cX7_init 16 = .ok (.putfield 7, 3) := by decide +kernel
theorem dX7_init_19 : decode cX7_init 19 = .ok (.return_, 1) := by decide +kernel
theorem dX7_get_0 : decode cX7_get 0 = .ok (.iload_n 1, 1) := by decide +kernel
theorem dX7_get_1 : decode cX7_get 1 = .ok (.ifCond .lt 12, 3) := by decide +kernel
theorem dX7_get_4 : decode cX7_get 4 = .ok (.iload_n 1, 1) := by decide +kernel
theorem dX7_get_5 : decode cX7_get 5 = .ok (.aload_n 0, 1) := by decide +kernel
theorem dX7_get_6 : decode cX7_get 6 = .ok (.getfield 7, 3) := by decide +kernel
theorem dX7_get_9 : decode cX7_get 9 = .ok (.arraylength, 1) := by decide +kernel
theorem dX7_get_10 : decode cX7_get 10 = .ok (.if_icmp .lt 7, 3) := by decide +kernel
theorem dX7_get_13 : decode cX7_get 13 = .ok (.iconst 0, 1) := by decide +kernel
theorem dX7_get_14 : decode cX7_get 14 = .ok (.goto 9, 3) := by decide +kernel
theorem dX7_get_17 : decode cX7_get 17 = .ok (.aload_n 0, 1) := by decide +kernel
theorem dX7_get_18 : decode cX7_get 18 = .ok (.getfield 7, 3) := by decide +kernel
theorem dX7_get_21 : decode cX7_get 21 = .ok (.iload_n 1, 1) := by decide +kernel
theorem dX7_get_22 : decode cX7_get 22 = .ok (.iaload, 1) := by decide +kernel
theorem dX7_get_23 : decode cX7_get 23 = .ok (.ireturn, 1) := by decide +kernel
theorem dX7_set_0 : decode cX7_set 0 = .ok (.iload_n 1, 1) := by decide +kernel
theorem dX7_set_1 : decode cX7_set 1 = .ok (.ifCond .lt 19, 3) := by decide +kernel
theorem dX7_set_4 : decode cX7_set 4 = .ok (.iload_n 1, 1) := by decide +kernel
theorem dX7_set_5 : decode cX7_set 5 = .ok (.aload_n 0, 1) := by decide +kernel
theorem dX7_set_6 : decode cX7_set 6 = .ok (.getfield 7, 3) := by decide +kernel
theorem dX7_set_9 : decode cX7_set 9 = .ok (.arraylength, 1) := by decide +kernel
theorem dX7_set_10 : decode cX7_set 10 = .ok (.if_icmp .ge 10, 3) := by decide +kernel
theorem dX7_set_13 : decode cX7_set 13 = .ok (.aload_n 0, 1) := by decide +kernel
theorem dX7_set_14 : decode cX7_set 14 = .ok (.getfield 7, 3) := by decide +kernel
theorem dX7_set_17 : decode cX7_set 17 = .ok (.iload_n 1, 1) := by decide +kernel
theorem dX7_set_18 : decode cX7_set 18 = .ok (.iload_n 2, 1) := by decide +kernel
theorem dX7_set_19 : decode cX7_set 19 = .ok (.iastore, 1) := by decide +kernel
theorem dX7_set_20 : decode cX7_set 20 = .ok (.return_, 1) := by decide +kernel
theorem dX8_init_0 : decode cX8_init 0 = .ok (.aload_n 0, 1) := by decide +kernel
theorem dX8_init_1 : decode cX8_init 1 = .ok (.invokespecial 3, 3) := by decide +kernel
theorem dX8_init_4 : decode cX8_init 4 = .ok (.aload_n 0, 1) := by decide +kernel
theorem dX8_init_5 : decode cX8_init 5 = .ok (.new 9, 3) := by decide +kernel
theorem dX8_init_8 : decode cX8_init 8 = .ok (.dup, 1) := by decide +kernel
theorem dX8_init_9 : decode cX8_init 9 = .ok (.iconst 5, 1) := by decide +kernel
theorem dX8_init_10 : decode cX8_init 10 = .ok (.invokespecial 11, 3) := by decide +kernel
theorem dX8_init_13 : decode cX8_init 13 = .ok (.putfield 14, 3) := by decide +kernel
theorem dX8_init_16 : decode cX8_init 16 = .ok (.aload_n 0, 1) := by decide +kernel
theorem dX8_init_17 : decode cX8_init 17 = .ok (.iconst 0, 1) := by decide +kernel
theorem dX8_init_18 : decode cX8_init 18 = .ok (.putfield 20, 3) := by decide +kernel
theorem dX8_init_21 : decode cX8_init 21 = .ok (.return_, 1) := by decide +kernel
theorem dX8_shops_0 : decode cX8_shops 0 = .ok (.aload_n 0, 1) := by decide +kernel
theorem dX8_shops_1 : decode cX8_shops 1 = .ok (.getfield 20, 3) := by decide +kernel
theorem dX8_shops_4 : decode cX8_shops 4 = .ok (.ireturn, 1) := by decide +kernel
theorem dX8_at_0 : decode cX8_at 0 = .ok (.aload_n 0, 1) := by decide +kernel
theorem dX8_at_1 : decode cX8_at 1 = .ok (.getfield 14, 3) := by decide +kernel
theorem dX8_at_4 : decode cX8_at 4 = .ok (.iload_n 1, 1) := by decide +kernel
theorem dX8_at_5 : decode cX8_at 5 = .ok (.invokevirtual 24, 3) := by decide +kernel
theorem dX8_at_8 : decode cX8_at 8 = .ok (.ireturn, 1) := by decide +kernel
theorem dX8_seat_0 : decode cX8_seat 0 = .ok (.aload_n 0, 1) := by decide +kernel
theorem dX8_seat_1 : decode cX8_seat 1 = .ok (.getfield 14, 3) := by decide +kernel
theorem dX8_seat_4 : decode cX8_seat 4 = .ok (.iload_n 1, 1) := by decide +kernel
theorem dX8_seat_5 : decode cX8_seat 5 = .ok (.iload_n 2, 1) := by decide +kernel
theorem dX8_seat_6 : decode cX8_seat 6 = .ok (.invokevirtual 28, 3) := by decide +kernel
theorem dX8_seat_9 : decode cX8_seat 9 = .ok (.return_, 1) := by decide +kernel
theorem dX8_copy_0 : decode cX8_copy 0 = .ok (.aload_n 0, 1) := by decide +kernel
theorem dX8_copy_1 : decode cX8_copy 1 = .ok (.aload_n 1, 1) := by decide +kernel
theorem dX8_copy_2 : decode cX8_copy 2 = .ok (.getfield 20, 3) := by decide +kernel
theorem dX8_copy_5 : decode cX8_copy 5 = .ok (.putfield 20, 3) := by decide +kernel
theorem dX8_copy_8 : decode cX8_copy 8 = .ok (.iconst 0, 1) := by decide +kernel
theorem dX8_copy_9 : decode cX8_copy 9 = .ok (.istore_n 2, 1) := by decide +kernel
theorem dX8_copy_10 : decode cX8_copy 10 = .ok (.iload_n 2, 1) := by decide +kernel
theorem dX8_copy_11 : decode cX8_copy 11 = .ok (.aload_n 0, 1) := by decide +kernel
theorem dX8_copy_12 : decode cX8_copy 12 = .ok (.getfield 20, 3) := by decide +kernel
theorem dX8_copy_15 : decode cX8_copy 15 = .ok (.if_icmp .ge 25, 3) := by decide +kernel
theorem dX8_copy_18 : decode cX8_copy 18 = .ok (.aload_n 0, 1) := by decide +kernel
theorem dX8_copy_19 : decode cX8_copy 19 = .ok (.getfield 14, 3) := by decide +kernel
theorem dX8_copy_22 : decode cX8_copy 22 = .ok (.iload_n 2, 1) := by decide +kernel
theorem dX8_copy_23 : decode cX8_copy 23 = .ok (.aload_n 1, 1) := by decide +kernel
theorem dX8_copy_24 : decode cX8_copy 24 = .ok (.getfield 14, 3) := by decide +kernel
theorem dX8_copy_27 : decode cX8_copy 27 = .ok (.iload_n 2, 1) := by decide +kernel
theorem dX8_copy_28 : decode cX8_copy 28 = .ok (.invokevirtual 24, 3) := by decide +kernel
theorem dX8_copy_31 : decode cX8_copy 31 = .ok (.invokevirtual 28, 3) := by decide +kernel
theorem dX8_copy_34 : decode cX8_copy 34 = .ok (.iinc 2 1, 3) := by decide +kernel
theorem dX8_copy_37 : decode cX8_copy 37 = .ok (.goto (-27), 3) := by decide +kernel
theorem dX8_copy_40 : decode cX8_copy 40 = .ok (.return_, 1) := by decide +kernel
theorem dX8_whoIsAt_0 : decode cX8_whoIsAt 0 = .ok (.iconst 0, 1) := by decide +kernel
theorem dX8_whoIsAt_1 : decode cX8_whoIsAt 1 = .ok (.istore_n 3, 1) := by decide +kernel
theorem dX8_whoIsAt_2 : decode cX8_whoIsAt 2 = .ok (.iload_n 3, 1) := by decide +kernel
theorem dX8_whoIsAt_3 : decode cX8_whoIsAt 3 = .ok (.iload_n 2, 1) := by decide +kernel
theorem dX8_whoIsAt_4 : decode cX8_whoIsAt 4 = .ok (.if_icmp .ge 23, 3) := by decide +kernel
theorem dX8_whoIsAt_7 : decode cX8_whoIsAt 7 = .ok (.aload_n 0, 1) := by decide +kernel
theorem dX8_whoIsAt_8 : decode cX8_whoIsAt 8 = .ok (.getfield 14, 3) := by decide +kernel
theorem dX8_whoIsAt_11 : decode cX8_whoIsAt 11 = .ok (.iload_n 3, 1) := by decide +kernel
theorem dX8_whoIsAt_12 : decode cX8_whoIsAt 12 = .ok (.invokevirtual 24, 3) := by decide +kernel
theorem dX8_whoIsAt_15 : decode cX8_whoIsAt 15 = .ok (.iload_n 1, 1) := by decide +kernel
theorem dX8_whoIsAt_16 : decode cX8_whoIsAt 16 = .ok (.if_icmp .ne 5, 3) := by decide +kernel
theorem dX8_whoIsAt_19 : decode cX8_whoIsAt 19 = .ok (.iload_n 3, 1) := by decide +kernel
theorem dX8_whoIsAt_20 : decode cX8_whoIsAt 20 = .ok (.ireturn, 1) := by decide +kernel
theorem dX8_whoIsAt_21 : decode cX8_whoIsAt 21 = .ok (.iinc 3 1, 3) := by decide +kernel
theorem dX8_whoIsAt_24 : decode cX8_whoIsAt 24 = .ok (.goto (-22), 3) := by decide +kernel
theorem dX8_whoIsAt_27 : decode cX8_whoIsAt 27 = .ok (.iconst (-1), 1) := by decide +kernel
theorem dX8_whoIsAt_28 : decode cX8_whoIsAt 28 = .ok (.ireturn, 1) := by decide +kernel
theorem dX8_addShop_0 : decode cX8_addShop 0 = .ok (.aload_n 0, 1) := by decide +kernel
theorem dX8_addShop_1 : decode cX8_addShop 1 = .ok (.dup, 1) := by decide +kernel
theorem dX8_addShop_2 : decode cX8_addShop 2 = .ok (.getfield 20, 3) := by decide +kernel
theorem dX8_addShop_5 : decode cX8_addShop 5 = .ok (.iconst 1, 1) := by decide +kernel
theorem dX8_addShop_6 : decode cX8_addShop 6 = .ok (.iadd, 1) := by decide +kernel
theorem dX8_addShop_7 : decode cX8_addShop 7 = .ok (.putfield 20, 3) := by decide +kernel
theorem dX8_addShop_10 : decode cX8_addShop 10 = .ok (.aload_n 0, 1) := by decide +kernel
theorem dX8_addShop_11 : decode cX8_addShop 11 = .ok (.aload_n 0, 1) := by decide +kernel
theorem dX8_addShop_12 : decode cX8_addShop 12 = .ok (.getfield 20, 3) := by decide +kernel
theorem dX8_addShop_15 : decode cX8_addShop 15 = .ok (.iconst 1, 1) := by decide +kernel
theorem dX8_addShop_16 : decode cX8_addShop 16 = .ok (.isub, 1) := by decide +kernel
theorem dX8_addShop_17 : decode cX8_addShop 17 = .ok (.iconst (-1), 1) := by decide +kernel
theorem dX8_addShop_18 : decode cX8_addShop 18 = .ok (.iload_n 1, 1) := by decide +kernel
theorem dX8_addShop_19 : decode cX8_addShop 19 = .ok (.invokevirtual 32, 3) := by decide +kernel
theorem dX8_addShop_22 : decode cX8_addShop 22 = .ok (.pop, 1) := by decide +kernel
theorem dX8_addShop_23 : decode cX8_addShop 23 = .ok (.return_, 1) := by decide +kernel
theorem dX8_seatBehind_0 : decode cX8_seatBehind 0 = .ok (.iload_n 2, 1) := by decide +kernel
theorem dX8_seatBehind_1 : decode cX8_seatBehind 1 = .ok (.iconst 1, 1) := by decide +kernel
theorem dX8_seatBehind_2 : decode cX8_seatBehind 2 = .ok (.iadd, 1) := by decide +kernel
theorem dX8_seatBehind_3 : decode cX8_seatBehind 3 = .ok (.istore 4, 2) := by decide +kernel
theorem dX8_seatBehind_5 : decode cX8_seatBehind 5 = .ok (.iload 4, 2) := by decide +kernel
theorem dX8_seatBehind_7 : decode cX8_seatBehind 7 = .ok (.iload_n 3, 1) := by decide +kernel
theorem dX8_seatBehind_8 : decode cX8_seatBehind 8 = .ok (.if_icmp .ge 32, 3) := by decide +kernel
theorem dX8_seatBehind_11 : decode cX8_seatBehind 11 = .ok (.aload_n 0, 1) := by decide +kernel
theorem dX8_seatBehind_12 : decode cX8_seatBehind 12 = .ok (.iload 4, 2) := by decide +kernel
theorem dX8_seatBehind_14 : decode cX8_seatBehind 14 = .ok (.iload_n 1, 1) := by decide +kernel
theorem dX8_seatBehind_15 : decode cX8_seatBehind 15 = .ok (.invokevirtual 36, 3) := by decide +kernel
theorem dX8_seatBehind_18 : decode cX8_seatBehind 18 = .ok (.iconst (-1), 1) := by decide +kernel
theorem dX8_seatBehind_19 : decode cX8_seatBehind 19 = .ok (.if_icmp .ne 15, 3) := by decide +kernel
theorem dX8_seatBehind_22 : decode cX8_seatBehind 22 = .ok (.aload_n 0, 1) := by decide +kernel
theorem dX8_seatBehind_23 : decode cX8_seatBehind 23 = .ok (.getfield 14, 3) := by decide +kernel
theorem dX8_seatBehind_26 : decode cX8_seatBehind 26 = .ok (.iload_n 1, 1) := by decide +kernel
theorem dX8_seatBehind_27 : decode cX8_seatBehind 27 = .ok (.iload 4, 2) := by decide +kernel
theorem dX8_seatBehind_29 : decode cX8_seatBehind 29 = .ok (.invokevirtual 28, 3) := by decide +kernel
theorem dX8_seatBehind_32 : decode cX8_seatBehind 32 = .ok (.iconst 1, 1) := by decide +kernel
theorem dX8_seatBehind_33 : decode cX8_seatBehind 33 = .ok (.ireturn, 1) := by decide +kernel
theorem dX8_seatBehind_34 : decode cX8_seatBehind 34 = .ok (.iinc 4 1, 3) := by decide +kernel
theorem dX8_seatBehind_37 : decode cX8_seatBehind 37 = .ok (.goto (-32), 3) := by decide +kernel
theorem dX8_seatBehind_40 : decode cX8_seatBehind 40 = .ok (.iconst 0, 1) := by decide +kernel
theorem dX8_seatBehind_41 : decode cX8_seatBehind 41 = .ok (.ireturn, 1) := by decide +kernel
theorem dX8_told_0 : decode cX8_told 0 = .ok (.iconst 0, 1) := by decide +kernel
theorem dX8_told_1 : decode cX8_told 1 = .ok (.istore_n 1, 1) := by decide +kernel
theorem dX8_told_2 : decode cX8_told 2 = .ok (.aload_n 0, 1) := by decide +kernel
theorem dX8_told_3 : decode cX8_told 3 = .ok (.getfield 20, 3) := by decide +kernel
theorem dX8_told_6 : decode cX8_told 6 = .ok (.iconst 1, 1) := by decide +kernel
theorem dX8_told_7 : decode cX8_told 7 = .ok (.isub, 1) := by decide +kernel
theorem dX8_told_8 : decode cX8_told 8 = .ok (.istore_n 2, 1) := by decide +kernel
theorem dX8_told_9 : decode cX8_told 9 = .ok (.iload_n 2, 1) := by decide +kernel
theorem dX8_told_10 : decode cX8_told 10 = .ok (.ifCond .lt 23, 3) := by decide +kernel
theorem dX8_told_13 : decode cX8_told 13 = .ok (.iload_n 1, 1) := by decide +kernel
theorem dX8_told_14 : decode cX8_told 14 = .ok (.bipush 6, 2) := by decide +kernel
theorem dX8_told_16 : decode cX8_told 16 = .ok (.imul, 1) := by decide +kernel
theorem dX8_told_17 : decode cX8_told 17 = .ok (.aload_n 0, 1) := by decide +kernel
theorem dX8_told_18 : decode cX8_told 18 = .ok (.getfield 14, 3) := by decide +kernel
theorem dX8_told_21 : decode cX8_told 21 = .ok (.iload_n 2, 1) := by decide +kernel
theorem dX8_told_22 : decode cX8_told 22 = .ok (.invokevirtual 24, 3) := by decide +kernel
theorem dX8_told_25 : decode cX8_told 25 = .ok (.iadd, 1) := by decide +kernel
theorem dX8_told_26 : decode cX8_told 26 = .ok (.istore_n 1, 1) := by decide +kernel
theorem dX8_told_27 : decode cX8_told 27 = .ok (.iinc 2 (-1), 3) := by decide +kernel
theorem dX8_told_30 : decode cX8_told 30 = .ok (.goto (-21), 3) := by decide +kernel
theorem dX8_told_33 : decode cX8_told 33 = .ok (.iload_n 1, 1) := by decide +kernel
theorem dX8_told_34 : decode cX8_told 34 = .ok (.ireturn, 1) := by decide +kernel
theorem dX8_read_0 : decode cX8_read 0 = .ok (.iload_n 1, 1) := by decide +kernel
theorem dX8_read_1 : decode cX8_read 1 = .ok (.istore 4, 2) := by decide +kernel
theorem dX8_read_3 : decode cX8_read 3 = .ok (.aload_n 0, 1) := by decide +kernel
theorem dX8_read_4 : decode cX8_read 4 = .ok (.iload_n 2, 1) := by decide +kernel
theorem dX8_read_5 : decode cX8_read 5 = .ok (.putfield 20, 3) := by decide +kernel
theorem dX8_read_8 : decode cX8_read 8 = .ok (.iconst 0, 1) := by decide +kernel
theorem dX8_read_9 : decode cX8_read 9 = .ok (.istore 5, 2) := by decide +kernel
theorem dX8_read_11 : decode cX8_read 11 = .ok (.iload 5, 2) := by decide +kernel
theorem dX8_read_13 : decode cX8_read 13 = .ok (.iload_n 2, 1) := by decide +kernel
theorem dX8_read_14 : decode cX8_read 14 = .ok (.if_icmp .ge 59, 3) := by decide +kernel
theorem dX8_read_17 : decode cX8_read 17 = .ok (.iload 4, 2) := by decide +kernel
theorem dX8_read_19 : decode cX8_read 19 = .ok (.bipush 6, 2) := by decide +kernel
theorem dX8_read_21 : decode cX8_read 21 = .ok (.irem, 1) := by decide +kernel
theorem dX8_read_22 : decode cX8_read 22 = .ok (.istore 6, 2) := by decide +kernel
theorem dX8_read_24 : decode cX8_read 24 = .ok (.iload 6, 2) := by decide +kernel
theorem dX8_read_26 : decode cX8_read 26 = .ok (.ifCond .lt 21, 3) := by decide +kernel
theorem dX8_read_29 : decode cX8_read 29 = .ok (.iload 6, 2) := by decide +kernel
theorem dX8_read_31 : decode cX8_read 31 = .ok (.iload_n 3, 1) := by decide +kernel
theorem dX8_read_32 : decode cX8_read 32 = .ok (.if_icmp .ge 15, 3) := by decide +kernel
theorem dX8_read_35 : decode cX8_read 35 = .ok (.aload_n 0, 1) := by decide +kernel
theorem dX8_read_36 : decode cX8_read 36 = .ok (.iload 6, 2) := by decide +kernel
theorem dX8_read_38 : decode cX8_read 38 = .ok (.iload 5, 2) := by decide +kernel
theorem dX8_read_40 : decode cX8_read 40 = .ok (.invokevirtual 36, 3) := by decide +kernel
theorem dX8_read_43 : decode cX8_read 43 = .ok (.iconst (-1), 1) := by decide +kernel
theorem dX8_read_44 : decode cX8_read 44 = .ok (.if_icmp .eq 5, 3) := by decide +kernel
theorem dX8_read_47 : decode cX8_read 47 = .ok (.iconst 0, 1) := by decide +kernel
theorem dX8_read_48 : decode cX8_read 48 = .ok (.ireturn, 1) := by decide +kernel
theorem dX8_read_49 : decode cX8_read 49 = .ok (.aload_n 0, 1) := by decide +kernel
theorem dX8_read_50 : decode cX8_read 50 = .ok (.getfield 14, 3) := by decide +kernel
theorem dX8_read_53 : decode cX8_read 53 = .ok (.iload 5, 2) := by decide +kernel
theorem dX8_read_55 : decode cX8_read 55 = .ok (.iload 6, 2) := by decide +kernel
theorem dX8_read_57 : decode cX8_read 57 = .ok (.invokevirtual 28, 3) := by decide +kernel
theorem dX8_read_60 : decode cX8_read 60 = .ok (.iload 4, 2) := by decide +kernel
theorem dX8_read_62 : decode cX8_read 62 = .ok (.bipush 6, 2) := by decide +kernel
theorem dX8_read_64 : decode cX8_read 64 = .ok (.idiv, 1) := by decide +kernel
theorem dX8_read_65 : decode cX8_read 65 = .ok (.istore 4, 2) := by decide +kernel
theorem dX8_read_67 : decode cX8_read 67 = .ok (.iinc 5 1, 3) := by decide +kernel
theorem dX8_read_70 : decode cX8_read 70 = .ok (.goto (-59), 3) := by decide +kernel
theorem dX8_read_73 : decode cX8_read 73 = .ok (.iload 4, 2) := by decide +kernel
theorem dX8_read_75 : decode cX8_read 75 = .ok (.ifCond .ne 7, 3) := by decide +kernel
theorem dX8_read_78 : decode cX8_read 78 = .ok (.iconst 1, 1) := by decide +kernel
theorem dX8_read_79 : decode cX8_read 79 = .ok (.goto 4, 3) := by decide +kernel
theorem dX8_read_82 : decode cX8_read 82 = .ok (.iconst 0, 1) := by decide +kernel
theorem dX8_read_83 : decode cX8_read 83 = .ok (.ireturn, 1) := by decide +kernel
theorem dX8_begin_0 : decode cX8_begin 0 = .ok (.aload_n 0, 1) := by decide +kernel
theorem dX8_begin_1 : decode cX8_begin 1 = .ok (.iload_n 1, 1) := by decide +kernel
theorem dX8_begin_2 : decode cX8_begin 2 = .ok (.putfield 20, 3) := by decide +kernel
theorem dX8_begin_5 : decode cX8_begin 5 = .ok (.iconst 0, 1) := by decide +kernel
theorem dX8_begin_6 : decode cX8_begin 6 = .ok (.istore_n 3, 1) := by decide +kernel
theorem dX8_begin_7 : decode cX8_begin 7 = .ok (.iload_n 3, 1) := by decide +kernel
theorem dX8_begin_8 : decode cX8_begin 8 = .ok (.iload_n 1, 1) := by decide +kernel
theorem dX8_begin_9 : decode cX8_begin 9 = .ok (.if_icmp .ge 17, 3) := by decide +kernel
theorem dX8_begin_12 : decode cX8_begin 12 = .ok (.aload_n 0, 1) := by decide +kernel
theorem dX8_begin_13 : decode cX8_begin 13 = .ok (.iload_n 3, 1) := by decide +kernel
theorem dX8_begin_14 : decode cX8_begin 14 = .ok (.iconst (-1), 1) := by decide +kernel
theorem dX8_begin_15 : decode cX8_begin 15 = .ok (.iload_n 2, 1) := by decide +kernel
theorem dX8_begin_16 : decode cX8_begin 16 = .ok (.invokevirtual 32, 3) := by decide +kernel
theorem dX8_begin_19 : decode cX8_begin 19 = .ok (.pop, 1) := by decide +kernel
theorem dX8_begin_20 : decode cX8_begin 20 = .ok (.iinc 3 1, 3) := by decide +kernel
theorem dX8_begin_23 : decode cX8_begin 23 = .ok (.goto (-16), 3) := by decide +kernel
theorem dX8_begin_26 : decode cX8_begin 26 = .ok (.return_, 1) := by decide +kernel
theorem dX8_goOn_0 : decode cX8_goOn 0 = .ok (.aload_n 0, 1) := by decide +kernel
theorem dX8_goOn_1 : decode cX8_goOn 1 = .ok (.getfield 20, 3) := by decide +kernel
theorem dX8_goOn_4 : decode cX8_goOn 4 = .ok (.iconst 1, 1) := by decide +kernel
theorem dX8_goOn_5 : decode cX8_goOn 5 = .ok (.isub, 1) := by decide +kernel
theorem dX8_goOn_6 : decode cX8_goOn 6 = .ok (.istore_n 2, 1) := by decide +kernel
theorem dX8_goOn_7 : decode cX8_goOn 7 = .ok (.iload_n 2, 1) := by decide +kernel
theorem dX8_goOn_8 : decode cX8_goOn 8 = .ok (.ifCond .lt 26, 3) := by decide +kernel
theorem dX8_goOn_11 : decode cX8_goOn 11 = .ok (.aload_n 0, 1) := by decide +kernel
theorem dX8_goOn_12 : decode cX8_goOn 12 = .ok (.iload_n 2, 1) := by decide +kernel
theorem dX8_goOn_13 : decode cX8_goOn 13 = .ok (.aload_n 0, 1) := by decide +kernel
theorem dX8_goOn_14 : decode cX8_goOn 14 = .ok (.getfield 14, 3) := by decide +kernel
theorem dX8_goOn_17 : decode cX8_goOn 17 = .ok (.iload_n 2, 1) := by decide +kernel
theorem dX8_goOn_18 : decode cX8_goOn 18 = .ok (.invokevirtual 24, 3) := by decide +kernel
theorem dX8_goOn_21 : decode cX8_goOn 21 = .ok (.iload_n 1, 1) := by decide +kernel
theorem dX8_goOn_22 : decode cX8_goOn 22 = .ok (.invokevirtual 32, 3) := by decide +kernel
theorem dX8_goOn_25 : decode cX8_goOn 25 = .ok (.ifCond .ne 9, 3) := by decide +kernel
theorem dX8_goOn_28 : decode cX8_goOn 28 = .ok (.iinc 2 (-1), 3) := by decide +kernel
theorem dX8_goOn_31 : decode cX8_goOn 31 = .ok (.goto (-24), 3) := by decide +kernel
theorem dX8_goOn_34 : decode cX8_goOn 34 = .ok (.iload_n 2, 1) := by decide +kernel
theorem dX8_goOn_35 : decode cX8_goOn 35 = .ok (.iconst 1, 1) := by decide +kernel
theorem dX8_goOn_36 : decode cX8_goOn 36 = .ok (.iadd, 1) := by decide +kernel
theorem dX8_goOn_37 : decode cX8_goOn 37 = .ok (.istore_n 3, 1) := by decide +kernel
theorem dX8_goOn_38 : decode cX8_goOn 38 = .ok (.iload_n 2, 1) := by decide +kernel
theorem dX8_goOn_39 : decode cX8_goOn 39 = .ok (.ifCond .lt 25, 3) := by decide +kernel
theorem dX8_goOn_42 : decode cX8_goOn 42 = .ok (.iload_n 3, 1) := by decide +kernel
theorem dX8_goOn_43 : decode cX8_goOn 43 = .ok (.aload_n 0, 1) := by decide +kernel
theorem dX8_goOn_44 : decode cX8_goOn 44 = .ok (.getfield 20, 3) := by decide +kernel
theorem dX8_goOn_47 : decode cX8_goOn 47 = .ok (.if_icmp .ge 17, 3) := by decide +kernel
theorem dX8_goOn_50 : decode cX8_goOn 50 = .ok (.aload_n 0, 1) := by decide +kernel
theorem dX8_goOn_51 : decode cX8_goOn 51 = .ok (.iload_n 3, 1) := by decide +kernel
theorem dX8_goOn_52 : decode cX8_goOn 52 = .ok (.iconst (-1), 1) := by decide +kernel
theorem dX8_goOn_53 : decode cX8_goOn 53 = .ok (.iload_n 1, 1) := by decide +kernel
theorem dX8_goOn_54 : decode cX8_goOn 54 = .ok (.invokevirtual 32, 3) := by decide +kernel
theorem dX8_goOn_57 : decode cX8_goOn 57 = .ok (.pop, 1) := by decide +kernel
theorem dX8_goOn_58 : decode cX8_goOn 58 = .ok (.iinc 3 1, 3) := by decide +kernel
theorem dX8_goOn_61 : decode cX8_goOn 61 = .ok (.goto (-23), 3) := by decide +kernel
theorem dX8_goOn_64 : decode cX8_goOn 64 = .ok (.iload_n 2, 1) := by decide +kernel
theorem dX8_goOn_65 : decode cX8_goOn 65 = .ok (.ifCond .lt 7, 3) := by decide +kernel
theorem dX8_goOn_68 : decode cX8_goOn 68 = .ok (.iconst 1, 1) := by decide +kernel
theorem dX8_goOn_69 : decode cX8_goOn 69 = .ok (.goto 4, 3) := by decide +kernel
theorem dX8_goOn_72 : decode cX8_goOn 72 = .ok (.iconst 0, 1) := by decide +kernel
theorem dX8_goOn_73 : decode cX8_goOn 73 = .ok (.ireturn, 1) := by decide +kernel
theorem dX8_comesBefore_0 : decode cX8_comesBefore 0 = .ok (.iconst 0, 1) := by decide +kernel
theorem dX8_comesBefore_1 : decode cX8_comesBefore 1 = .ok (.istore_n 2, 1) := by decide +kernel
theorem dX8_comesBefore_2 : decode cX8_comesBefore 2 = .ok (.iload_n 2, 1) := by decide +kernel
theorem dX8_comesBefore_3 : decode cX8_comesBefore 3 = .ok (.aload_n 0, 1) := by decide +kernel
theorem dX8_comesBefore_4 : decode cX8_comesBefore 4 = .ok (.getfield 20, 3) := by decide +kernel
theorem dX8_comesBefore_7 : decode cX8_comesBefore 7 = .ok (.if_icmp .ge 46, 3) := by decide +kernel
theorem dX8_comesBefore_10 : decode cX8_comesBefore 10 = .ok (.aload_n 0, 1) := by decide +kernel
theorem dX8_comesBefore_11 : decode cX8_comesBefore 11 = .ok (.getfield 14, 3) := by decide +kernel
theorem dX8_comesBefore_14 : decode cX8_comesBefore 14 = .ok (.iload_n 2, 1) := by decide +kernel
theorem dX8_comesBefore_15 : decode cX8_comesBefore 15 = .ok (.invokevirtual 24, 3) := by decide +kernel
theorem dX8_comesBefore_18 : decode cX8_comesBefore 18 = .ok (.istore_n 3, 1) := by decide +kernel
theorem dX8_comesBefore_19 : decode cX8_comesBefore 19 = .ok (.aload_n 1, 1) := by decide +kernel
theorem dX8_comesBefore_20 : decode cX8_comesBefore 20 = .ok (.getfield 14, 3) := by decide +kernel
theorem dX8_comesBefore_23 : decode cX8_comesBefore 23 = .ok (.iload_n 2, 1) := by decide +kernel
theorem dX8_comesBefore_24 : decode cX8_comesBefore 24 = .ok (.invokevirtual 24, 3) := by decide +kernel
theorem dX8_comesBefore_27 : decode cX8_comesBefore 27 = .ok (.istore 4, 2) := by decide +kernel
theorem dX8_comesBefore_29 : decode cX8_comesBefore 29 = .ok (.iload_n 3, 1) := by decide +kernel
theorem dX8_comesBefore_30 : decode cX8_comesBefore 30 = .ok (.iload 4, 2) := by decide +kernel
theorem dX8_comesBefore_32 : decode cX8_comesBefore 32 = .ok (.if_icmp .eq 15, 3) := by decide +kernel
theorem dX8_comesBefore_35 : decode cX8_comesBefore 35 = .ok (.iload_n 3, 1) := by decide +kernel
theorem dX8_comesBefore_36 : decode cX8_comesBefore 36 = .ok (.iload 4, 2) := by decide +kernel
theorem dX8_comesBefore_38 : decode cX8_comesBefore 38 = .ok (.if_icmp .ge 7, 3) := by decide +kernel
theorem dX8_comesBefore_41 : decode cX8_comesBefore 41 = .ok (.iconst 1, 1) := by decide +kernel
theorem dX8_comesBefore_42 : decode cX8_comesBefore 42 = .ok (.goto 4, 3) := by decide +kernel
theorem dX8_comesBefore_45 : decode cX8_comesBefore 45 = .ok (.iconst 0, 1) := by decide +kernel
theorem dX8_comesBefore_46 : decode cX8_comesBefore 46 = .ok (.ireturn, 1) := by decide +kernel
theorem dX8_comesBefore_47 : decode cX8_comesBefore 47 = .ok (.iinc 2 1, 3) := by decide +kernel
theorem dX8_comesBefore_50 : decode cX8_comesBefore 50 = .ok (.goto (-48), 3) := by decide +kernel
theorem dX8_comesBefore_53 : decode cX8_comesBefore 53 = .ok (.iconst 0, 1) := by decide +kernel
theorem dX8_comesBefore_54 : decode cX8_comesBefore 54 = .ok (.ireturn, 1) := by decide +kernel
theorem dX9_init_0 : decode cX9_init 0 = .ok (.aload_n 0, 1) := by decide +kernel
theorem dX9_init_1 : decode cX9_init 1 = .ok (.invokespecial 3, 3) := by decide +kernel
theorem dX9_init_4 : decode cX9_init 4 = .ok (.aload_n 0, 1) := by decide +kernel
theorem dX9_init_5 : decode cX9_init 5 = .ok (.new 9, 3) := by decide +kernel
theorem dX9_init_8 : decode cX9_init 8 = .ok (.dup, 1) := by decide +kernel
theorem dX9_init_9 : decode cX9_init 9 = .ok (.bipush 100, 2) := by decide +kernel
theorem dX9_init_11 : decode cX9_init 11 = .ok (.invokespecial 11, 3) := by decide +kernel
theorem dX9_init_14 : decode cX9_init 14 = .ok (.putfield 14, 3) := by decide +kernel
theorem dX9_init_17 : decode cX9_init 17 = .ok (.aload_n 0, 1) := by decide +kernel
theorem dX9_init_18 : decode cX9_init 18 = .ok (.new 9, 3) := by decide +kernel
theorem dX9_init_21 : decode cX9_init 21 = .ok (.dup, 1) := by decide +kernel
theorem dX9_init_22 : decode cX9_init 22 = .ok (.iconst 5, 1) := by decide +kernel
theorem dX9_init_23 : decode cX9_init 23 = .ok (.invokespecial 11, 3) := by decide +kernel
theorem dX9_init_26 : decode cX9_init 26 = .ok (.putfield 20, 3) := by decide +kernel
theorem dX9_init_29 : decode cX9_init 29 = .ok (.aload_n 0, 1) := by decide +kernel
theorem dX9_init_30 : decode cX9_init 30 = .ok (.new 9, 3) := by decide +kernel
theorem dX9_init_33 : decode cX9_init 33 = .ok (.dup, 1) := by decide +kernel
theorem dX9_init_34 : decode cX9_init 34 = .ok (.bipush 6, 2) := by decide +kernel
theorem dX9_init_36 : decode cX9_init 36 = .ok (.invokespecial 11, 3) := by decide +kernel
theorem dX9_init_39 : decode cX9_init 39 = .ok (.putfield 23, 3) := by decide +kernel
theorem dX9_init_42 : decode cX9_init 42 = .ok (.aload_n 0, 1) := by decide +kernel
theorem dX9_init_43 : decode cX9_init 43 = .ok (.new 9, 3) := by decide +kernel
theorem dX9_init_46 : decode cX9_init 46 = .ok (.dup, 1) := by decide +kernel
theorem dX9_init_47 : decode cX9_init 47 = .ok (.bipush 6, 2) := by decide +kernel
theorem dX9_init_49 : decode cX9_init 49 = .ok (.invokespecial 11, 3) := by decide +kernel
theorem dX9_init_52 : decode cX9_init 52 = .ok (.putfield 26, 3) := by decide +kernel
theorem dX9_init_55 : decode cX9_init 55 = .ok (.aload_n 0, 1) := by decide +kernel
theorem dX9_init_56 : decode cX9_init 56 = .ok (.new 9, 3) := by decide +kernel
theorem dX9_init_59 : decode cX9_init 59 = .ok (.dup, 1) := by decide +kernel
theorem dX9_init_60 : decode cX9_init 60 = .ok (.bipush 6, 2) := by decide +kernel
theorem dX9_init_62 : decode cX9_init 62 = .ok (.invokespecial 11, 3) := by decide +kernel
theorem dX9_init_65 : decode cX9_init 65 = .ok (.putfield 29, 3) := by decide +kernel
theorem dX9_init_68 : decode cX9_init 68 = .ok (.aload_n 0, 1) := by decide +kernel
theorem dX9_init_69 : decode cX9_init 69 = .ok (.new 9, 3) := by decide +kernel
theorem dX9_init_72 : decode cX9_init 72 = .ok (.dup, 1) := by decide +kernel
theorem dX9_init_73 : decode cX9_init 73 = .ok (.bipush 6, 2) := by decide +kernel
theorem dX9_init_75 : decode cX9_init 75 = .ok (.invokespecial 11, 3) := by decide +kernel
theorem dX9_init_78 : decode cX9_init 78 = .ok (.putfield 32, 3) := by decide +kernel
theorem dX9_init_81 : decode cX9_init 81 = .ok (.aload_n 0, 1) := by decide +kernel
theorem dX9_init_82 : decode cX9_init 82 = .ok (.iconst 0, 1) := by decide +kernel
theorem dX9_init_83 : decode cX9_init 83 = .ok (.putfield 35, 3) := by decide +kernel
theorem dX9_init_86 : decode cX9_init 86 = .ok (.aload_n 0, 1) := by decide +kernel
theorem dX9_init_87 : decode cX9_init 87 = .ok (.iconst 0, 1) := by decide +kernel
theorem dX9_init_88 : decode cX9_init 88 = .ok (.putfield 39, 3) := by decide +kernel
theorem dX9_init_91 : decode cX9_init 91 = .ok (.return_, 1) := by decide +kernel
theorem dX9_shops_0 : decode cX9_shops 0 = .ok (.aload_n 0, 1) := by decide +kernel
theorem dX9_shops_1 : decode cX9_shops 1 = .ok (.getfield 35, 3) := by decide +kernel
theorem dX9_shops_4 : decode cX9_shops 4 = .ok (.ireturn, 1) := by decide +kernel
theorem dX9_wishes_0 : decode cX9_wishes 0 = .ok (.aload_n 0, 1) := by decide +kernel
theorem dX9_wishes_1 : decode cX9_wishes 1 = .ok (.getfield 39, 3) := by decide +kernel
theorem dX9_wishes_4 : decode cX9_wishes 4 = .ok (.ireturn, 1) := by decide +kernel
theorem dX9_hasShop_0 : decode cX9_hasShop 0 = .ok (.iload_n 1, 1) := by decide +kernel
theorem dX9_hasShop_1 : decode cX9_hasShop 1 = .ok (.ifCond .lt 15, 3) := by decide +kernel
theorem dX9_hasShop_4 : decode cX9_hasShop 4 = .ok (.iload_n 1, 1) := by decide +kernel
theorem dX9_hasShop_5 : decode cX9_hasShop 5 = .ok (.aload_n 0, 1) := by decide +kernel
theorem dX9_hasShop_6 : decode cX9_hasShop 6 = .ok (.getfield 35, 3) := by decide +kernel
theorem dX9_hasShop_9 : decode cX9_hasShop 9 = .ok (.if_icmp .ge 7, 3) := by decide +kernel
theorem dX9_hasShop_12 : decode cX9_hasShop 12 = .ok (.iconst 1, 1) := by decide +kernel
theorem dX9_hasShop_13 : decode cX9_hasShop 13 = .ok (.goto 4, 3) := by decide +kernel
theorem dX9_hasShop_16 : decode cX9_hasShop 16 = .ok (.iconst 0, 1) := by decide +kernel
theorem dX9_hasShop_17 : decode cX9_hasShop 17 = .ok (.ireturn, 1) := by decide +kernel
theorem dX9_areTwo_0 : decode cX9_areTwo 0 = .ok (.aload_n 0, 1) := by decide +kernel
theorem dX9_areTwo_1 : decode cX9_areTwo 1 = .ok (.iload_n 1, 1) := by decide +kernel
theorem dX9_areTwo_2 : decode cX9_areTwo 2 = .ok (.invokevirtual 42, 3) := by decide +kernel
theorem dX9_areTwo_5 : decode cX9_areTwo 5 = .ok (.ifCond .eq 20, 3) := by decide +kernel
theorem dX9_areTwo_8 : decode cX9_areTwo 8 = .ok (.aload_n 0, 1) := by decide +kernel
theorem dX9_areTwo_9 : decode cX9_areTwo 9 = .ok (.iload_n 2, 1) := by decide +kernel
theorem dX9_areTwo_10 : decode cX9_areTwo 10 = .ok (.invokevirtual 42, 3) := by decide +kernel
theorem dX9_areTwo_13 : decode cX9_areTwo 13 = .ok (.ifCond .eq 12, 3) := by decide +kernel
theorem dX9_areTwo_16 : decode cX9_areTwo 16 = .ok (.iload_n 1, 1) := by decide +kernel
theorem dX9_areTwo_17 : decode cX9_areTwo 17 = .ok (.iload_n 2, 1) := by decide +kernel
theorem dX9_areTwo_18 : decode cX9_areTwo 18 = .ok (.if_icmp .eq 7, 3) := by decide +kernel
theorem dX9_areTwo_21 : decode cX9_areTwo 21 = .ok (.iconst 1, 1) := by decide +kernel
theorem dX9_areTwo_22 : decode cX9_areTwo 22 = .ok (.goto 4, 3) := by decide +kernel
theorem dX9_areTwo_25 : decode cX9_areTwo 25 = .ok (.iconst 0, 1) := by decide +kernel
theorem dX9_areTwo_26 : decode cX9_areTwo 26 = .ok (.ireturn, 1) := by decide +kernel
theorem dX9_addShop_0 : decode cX9_addShop 0 = .ok (.aload_n 0, 1) := by decide +kernel
theorem dX9_addShop_1 : decode cX9_addShop 1 = .ok (.getfield 35, 3) := by decide +kernel
theorem dX9_addShop_4 : decode cX9_addShop 4 = .ok (.istore_n 1, 1) := by decide +kernel
theorem dX9_addShop_5 : decode cX9_addShop 5 = .ok (.aload_n 0, 1) := by decide +kernel
theorem dX9_addShop_6 : decode cX9_addShop 6 = .ok (.getfield 20, 3) := by decide +kernel
theorem dX9_addShop_9 : decode cX9_addShop 9 = .ok (.iload_n 1, 1) := by decide +kernel
theorem dX9_addShop_10 : decode cX9_addShop 10 = .ok (.iconst 1, 1) := by decide +kernel
theorem dX9_addShop_11 : decode cX9_addShop 11 = .ok (.invokevirtual 46, 3) := by decide +kernel
theorem dX9_addShop_14 : decode cX9_addShop 14 = .ok (.aload_n 0, 1) := by decide +kernel
theorem dX9_addShop_15 : decode cX9_addShop 15 = .ok (.dup, 1) := by decide +kernel
theorem dX9_addShop_16 : decode cX9_addShop 16 = .ok (.getfield 35, 3) := by decide +kernel
theorem dX9_addShop_19 : decode cX9_addShop 19 = .ok (.iconst 1, 1) := by decide +kernel
theorem dX9_addShop_20 : decode cX9_addShop 20 = .ok (.iadd, 1) := by decide +kernel
theorem dX9_addShop_21 : decode cX9_addShop 21 = .ok (.putfield 35, 3) := by decide +kernel
theorem dX9_addShop_24 : decode cX9_addShop 24 = .ok (.iload_n 1, 1) := by decide +kernel
theorem dX9_addShop_25 : decode cX9_addShop 25 = .ok (.ireturn, 1) := by decide +kernel
theorem dX9_changeLoad_0 : decode cX9_changeLoad 0 = .ok (.iload_n 1, 1) := by decide +kernel
theorem dX9_changeLoad_1 : decode cX9_changeLoad 1 = .ok (.iload_n 2, 1) := by decide +kernel
theorem dX9_changeLoad_2 : decode cX9_changeLoad 2 = .ok (.iload_n 3, 1) := by decide +kernel
theorem dX9_changeLoad_3 : decode cX9_changeLoad 3 = .ok (.invokestatic 50, 3) := by decide +kernel
theorem dX9_changeLoad_6 : decode cX9_changeLoad 6 = .ok (.istore 5, 2) := by decide +kernel
theorem dX9_changeLoad_8 : decode cX9_changeLoad 8 = .ok (.aload_n 0, 1) := by decide +kernel
theorem dX9_changeLoad_9 : decode cX9_changeLoad 9 = .ok (.getfield 14, 3) := by decide +kernel
theorem dX9_changeLoad_12 : decode cX9_changeLoad 12 = .ok (.iload 5, 2) := by decide +kernel
theorem dX9_changeLoad_14 : decode cX9_changeLoad 14 = .ok (.invokevirtual 54, 3) := by decide +kernel
theorem dX9_changeLoad_17 : decode cX9_changeLoad 17 = .ok (.istore 6, 2) := by decide +kernel
theorem dX9_changeLoad_19 : decode cX9_changeLoad 19 = .ok (.aload_n 0, 1) := by decide +kernel
theorem dX9_changeLoad_20 : decode cX9_changeLoad 20 = .ok (.getfield 14, 3) := by decide +kernel
theorem dX9_changeLoad_23 : decode cX9_changeLoad 23 = .ok (.iload 5, 2) := by decide +kernel
theorem dX9_changeLoad_25 : decode cX9_changeLoad 25 = .ok (.iload 4, 2) := by decide +kernel
theorem dX9_changeLoad_27 : decode cX9_changeLoad 27 = .ok (.invokevirtual 46, 3) := by decide +kernel
theorem dX9_changeLoad_30 : decode cX9_changeLoad 30 = .ok (.iload 6, 2) := by decide +kernel
theorem dX9_changeLoad_32 : decode cX9_changeLoad 32 = .ok (.ireturn, 1) := by decide +kernel
theorem dX9_bothWays_0 : decode cX9_bothWays 0 = .ok (.aload_n 0, 1) := by decide +kernel
theorem dX9_bothWays_1 : decode cX9_bothWays 1 = .ok (.getfield 14, 3) := by decide +kernel
theorem dX9_bothWays_4 : decode cX9_bothWays 4 = .ok (.iload_n 1, 1) := by decide +kernel
theorem dX9_bothWays_5 : decode cX9_bothWays 5 = .ok (.iload_n 2, 1) := by decide +kernel
theorem dX9_bothWays_6 : decode cX9_bothWays 6 = .ok (.iload_n 3, 1) := by decide +kernel
theorem dX9_bothWays_7 : decode cX9_bothWays 7 = .ok (.invokestatic 50, 3) := by decide +kernel
theorem dX9_bothWays_10 : decode cX9_bothWays 10 = .ok (.invokevirtual 54, 3) := by decide +kernel
theorem dX9_bothWays_13 : decode cX9_bothWays 13 = .ok (.aload_n 0, 1) := by decide +kernel
theorem dX9_bothWays_14 : decode cX9_bothWays 14 = .ok (.getfield 14, 3) := by decide +kernel
theorem dX9_bothWays_17 : decode cX9_bothWays 17 = .ok (.iload_n 1, 1) := by decide +kernel
theorem dX9_bothWays_18 : decode cX9_bothWays 18 = .ok (.iload_n 3, 1) := by decide +kernel
theorem dX9_bothWays_19 : decode cX9_bothWays 19 = .ok (.iload_n 2, 1) := by decide +kernel
theorem dX9_bothWays_20 : decode cX9_bothWays 20 = .ok (.invokestatic 50, 3) := by decide +kernel
theorem dX9_bothWays_23 : decode cX9_bothWays 23 = .ok (.invokevirtual 54, 3) := by decide +kernel
theorem dX9_bothWays_26 : decode cX9_bothWays 26 = .ok (.iadd, 1) := by decide +kernel
theorem dX9_bothWays_27 : decode cX9_bothWays 27 = .ok (.ireturn, 1) := by decide +kernel
theorem dX9_loadAt_0 : decode cX9_loadAt 0 = .ok (.iload_n 0, 1) := by decide +kernel
theorem dX9_loadAt_1 : decode cX9_loadAt 1 = .ok (.iconst 5, 1) := by decide +kernel
theorem dX9_loadAt_2 : decode cX9_loadAt 2 = .ok (.imul, 1) := by decide +kernel
theorem dX9_loadAt_3 : decode cX9_loadAt 3 = .ok (.iload_n 1, 1) := by decide +kernel
theorem dX9_loadAt_4 : decode cX9_loadAt 4 = .ok (.iadd, 1) := by decide +kernel
theorem dX9_loadAt_5 : decode cX9_loadAt 5 = .ok (.iconst 5, 1) := by decide +kernel
theorem dX9_loadAt_6 : decode cX9_loadAt 6 = .ok (.imul, 1) := by decide +kernel
theorem dX9_loadAt_7 : decode cX9_loadAt 7 = .ok (.iload_n 2, 1) := by decide +kernel
theorem dX9_loadAt_8 : decode cX9_loadAt 8 = .ok (.iadd, 1) := by decide +kernel
theorem dX9_loadAt_9 : decode cX9_loadAt 9 = .ok (.ireturn, 1) := by decide +kernel
theorem dX9_weightOf_0 : decode cX9_weightOf 0 = .ok (.aload_n 0, 1) := by decide +kernel
theorem dX9_weightOf_1 : decode cX9_weightOf 1 = .ok (.getfield 20, 3) := by decide +kernel
theorem dX9_weightOf_4 : decode cX9_weightOf 4 = .ok (.iload_n 1, 1) := by decide +kernel
theorem dX9_weightOf_5 : decode cX9_weightOf 5 = .ok (.invokevirtual 54, 3) := by decide +kernel
theorem dX9_weightOf_8 : decode cX9_weightOf 8 = .ok (.ireturn, 1) := by decide +kernel
theorem dX9_changeWeight_0 : decode cX9_changeWeight 0 = .ok (.aload_n 0, 1) := by decide +kernel
theorem dX9_changeWeight_1 : decode cX9_changeWeight 1 = .ok (.getfield 20, 3) := by decide +kernel
theorem dX9_changeWeight_4 : decode cX9_changeWeight 4 = .ok (.iload_n 1, 1) := by decide +kernel
theorem dX9_changeWeight_5 : decode cX9_changeWeight 5 = .ok (.invokevirtual 54, 3) := by decide +kernel
theorem dX9_changeWeight_8 : decode cX9_changeWeight 8 = .ok (.istore_n 3, 1) := by decide +kernel
theorem dX9_changeWeight_9 : decode cX9_changeWeight 9 = .ok (.aload_n 0, 1) := by decide +kernel
theorem dX9_changeWeight_10 : decode cX9_changeWeight 10 = .ok (.getfield 20, 3) := by decide +kernel
theorem dX9_changeWeight_13 : decode cX9_changeWeight 13 = .ok (.iload_n 1, 1) := by decide +kernel
theorem dX9_changeWeight_14 : decode cX9_changeWeight 14 = .ok (.iload_n 2, 1) := by decide +kernel
theorem dX9_changeWeight_15 : decode cX9_changeWeight 15 = .ok (.invokevirtual 46, 3) := by decide +kernel
theorem dX9_changeWeight_18 : decode cX9_changeWeight 18 = .ok (.iload_n 3, 1) := by decide +kernel
theorem dX9_changeWeight_19 : decode cX9_changeWeight 19 = .ok (.ireturn, 1) := by decide +kernel
theorem dX9_movedWeight_0 : decode cX9_movedWeight 0 = .ok (.iconst 0, 1) := by decide +kernel
theorem dX9_movedWeight_1 : decode cX9_movedWeight 1 = .ok (.istore_n 3, 1) := by decide +kernel
theorem dX9_movedWeight_2 : decode cX9_movedWeight 2 = .ok (.iconst 0, 1) := by decide +kernel
theorem dX9_movedWeight_3 : decode cX9_movedWeight 3 = .ok (.istore 4, 2) := by decide +kernel
theorem dX9_movedWeight_5 : decode cX9_movedWeight 5 = .ok (.iload 4, 2) := by decide +kernel
theorem dX9_movedWeight_7 : decode cX9_movedWeight 7 = .ok (.aload_n 0, 1) := by decide +kernel
theorem dX9_movedWeight_8 : decode cX9_movedWeight 8 = .ok (.getfield 35, 3) := by decide +kernel
theorem dX9_movedWeight_11 : decode cX9_movedWeight 11 = .ok (.if_icmp .ge 36, 3) := by decide +kernel
theorem dX9_movedWeight_14 : decode cX9_movedWeight 14 = .ok (.aload_n 1, 1) := by decide +kernel
theorem dX9_movedWeight_15 : decode cX9_movedWeight 15 = .ok (.iload 4, 2) := by decide +kernel
theorem dX9_movedWeight_17 : decode cX9_movedWeight 17 = .ok (.invokevirtual 58, 3) := by decide +kernel
theorem dX9_movedWeight_20 : decode cX9_movedWeight 20 = .ok (.aload_n 2, 1) := by decide +kernel
theorem dX9_movedWeight_21 : decode cX9_movedWeight 21 = .ok (.iload 4, 2) := by decide +kernel
theorem dX9_movedWeight_23 : decode cX9_movedWeight 23 = .ok (.invokevirtual 58, 3) := by decide +kernel
theorem dX9_movedWeight_26 : decode cX9_movedWeight 26 = .ok (.if_icmp .eq 15, 3) := by decide +kernel
theorem dX9_movedWeight_29 : decode cX9_movedWeight 29 = .ok (.iload_n 3, 1) := by decide +kernel
theorem dX9_movedWeight_30 : decode cX9_movedWeight 30 = .ok (.aload_n 0, 1) := by decide +kernel
theorem dX9_movedWeight_31 : decode cX9_movedWeight 31 = .ok (.getfield 20, 3) := by decide +kernel
theorem dX9_movedWeight_34 : decode cX9_movedWeight 34 = .ok (.iload 4, 2) := by decide +kernel
theorem dX9_movedWeight_36 : decode cX9_movedWeight 36 = .ok (.invokevirtual 54, 3) := by decide +kernel
theorem dX9_movedWeight_39 : decode cX9_movedWeight 39 = .ok (.iadd, 1) := by decide +kernel
theorem dX9_movedWeight_40 : decode cX9_movedWeight 40 = .ok (.istore_n 3, 1) := by decide +kernel
theorem dX9_movedWeight_41 : decode cX9_movedWeight 41 = .ok (.iinc 4 1, 3) := by decide +kernel
theorem dX9_movedWeight_44 : decode cX9_movedWeight 44 = .ok (.goto (-39), 3) := by decide +kernel
theorem dX9_movedWeight_47 : decode cX9_movedWeight 47 = .ok (.iload_n 3, 1) := by decide +kernel
theorem dX9_movedWeight_48 : decode cX9_movedWeight 48 = .ok (.ireturn, 1) := by decide +kernel
theorem dX9_addWish_0 : decode cX9_addWish 0 = .ok (.aload_n 0, 1) := by decide +kernel
theorem dX9_addWish_1 : decode cX9_addWish 1 = .ok (.getfield 39, 3) := by decide +kernel
theorem dX9_addWish_4 : decode cX9_addWish 4 = .ok (.istore 5, 2) := by decide +kernel
theorem dX9_addWish_6 : decode cX9_addWish 6 = .ok (.aload_n 0, 1) := by decide +kernel
theorem dX9_addWish_7 : decode cX9_addWish 7 = .ok (.getfield 23, 3) := by decide +kernel
theorem dX9_addWish_10 : decode cX9_addWish 10 = .ok (.iload 5, 2) := by decide +kernel
theorem dX9_addWish_12 : decode cX9_addWish 12 = .ok (.iload_n 1, 1) := by decide +kernel
theorem dX9_addWish_13 : decode cX9_addWish 13 = .ok (.invokevirtual 46, 3) := by decide +kernel
theorem dX9_addWish_16 : decode cX9_addWish 16 = .ok (.aload_n 0, 1) := by decide +kernel
theorem dX9_addWish_17 : decode cX9_addWish 17 = .ok (.getfield 26, 3) := by decide +kernel
theorem dX9_addWish_20 : decode cX9_addWish 20 = .ok (.iload 5, 2) := by decide +kernel
theorem dX9_addWish_22 : decode cX9_addWish 22 = .ok (.iload_n 2, 1) := by decide +kernel
theorem dX9_addWish_23 : decode cX9_addWish 23 = .ok (.invokevirtual 46, 3) := by decide +kernel
theorem dX9_addWish_26 : decode cX9_addWish 26 = .ok (.aload_n 0, 1) := by decide +kernel
theorem dX9_addWish_27 : decode cX9_addWish 27 = .ok (.getfield 29, 3) := by decide +kernel
theorem dX9_addWish_30 : decode cX9_addWish 30 = .ok (.iload 5, 2) := by decide +kernel
theorem dX9_addWish_32 : decode cX9_addWish 32 = .ok (.iload_n 3, 1) := by decide +kernel
theorem dX9_addWish_33 : decode cX9_addWish 33 = .ok (.ifCond .eq 7, 3) := by decide +kernel
theorem dX9_addWish_36 : decode cX9_addWish 36 = .ok (.iconst 1, 1) := by decide +kernel
theorem dX9_addWish_37 : decode cX9_addWish 37 = .ok (.goto 4, 3) := by decide +kernel
theorem dX9_addWish_40 : decode cX9_addWish 40 = .ok (.iconst 0, 1) := by decide +kernel
theorem dX9_addWish_41 : decode cX9_addWish 41 = .ok (.invokevirtual 46, 3) := by decide +kernel
theorem dX9_addWish_44 : decode cX9_addWish 44 = .ok (.aload_n 0, 1) := by decide +kernel
theorem dX9_addWish_45 : decode cX9_addWish 45 = .ok (.getfield 32, 3) := by decide +kernel
theorem dX9_addWish_48 : decode cX9_addWish 48 = .ok (.iload 5, 2) := by decide +kernel
theorem dX9_addWish_50 : decode cX9_addWish 50 = .ok (.iload 4, 2) := by decide +kernel
theorem dX9_addWish_52 : decode cX9_addWish 52 = .ok (.invokevirtual 46, 3) := by decide +kernel
theorem dX9_addWish_55 : decode cX9_addWish 55 = .ok (.aload_n 0, 1) := by decide +kernel
theorem dX9_addWish_56 : decode cX9_addWish 56 = .ok (.dup, 1) := by decide +kernel
theorem dX9_addWish_57 : decode cX9_addWish 57 = .ok (.getfield 39, 3) := by decide +kernel
theorem dX9_addWish_60 : decode cX9_addWish 60 = .ok (.iconst 1, 1) := by decide +kernel
theorem dX9_addWish_61 : decode cX9_addWish 61 = .ok (.iadd, 1) := by decide +kernel
theorem dX9_addWish_62 : decode cX9_addWish 62 = .ok (.putfield 39, 3) := by decide +kernel
theorem dX9_addWish_65 : decode cX9_addWish 65 = .ok (.iload 5, 2) := by decide +kernel
theorem dX9_addWish_67 : decode cX9_addWish 67 = .ok (.ireturn, 1) := by decide +kernel
theorem dX9_dropWish_0 : decode cX9_dropWish 0 = .ok (.iload_n 1, 1) := by decide +kernel
theorem dX9_dropWish_1 : decode cX9_dropWish 1 = .ok (.istore_n 2, 1) := by decide +kernel
theorem dX9_dropWish_2 : decode cX9_dropWish 2 = .ok (.iload_n 2, 1) := by decide +kernel
theorem dX9_dropWish_3 : decode cX9_dropWish 3 = .ok (.aload_n 0, 1) := by decide +kernel
theorem dX9_dropWish_4 : decode cX9_dropWish 4 = .ok (.getfield 39, 3) := by decide +kernel
theorem dX9_dropWish_7 : decode cX9_dropWish 7 = .ok (.iconst 1, 1) := by decide +kernel
theorem dX9_dropWish_8 : decode cX9_dropWish 8 = .ok (.isub, 1) := by decide +kernel
theorem dX9_dropWish_9 : decode cX9_dropWish 9 = .ok (.if_icmp .ge 81, 3) := by decide +kernel
theorem dX9_dropWish_12 : decode cX9_dropWish 12 = .ok (.aload_n 0, 1) := by decide +kernel
theorem dX9_dropWish_13 : decode cX9_dropWish 13 = .ok (.getfield 23, 3) := by decide +kernel
theorem dX9_dropWish_16 : decode cX9_dropWish 16 = .ok (.iload_n 2, 1) := by decide +kernel
theorem dX9_dropWish_17 : decode cX9_dropWish 17 = .ok (.aload_n 0, 1) := by decide +kernel
theorem dX9_dropWish_18 : decode cX9_dropWish 18 = .ok (.getfield 23, 3) := by decide +kernel
theorem dX9_dropWish_21 : decode cX9_dropWish 21 = .ok (.iload_n 2, 1) := by decide +kernel
theorem dX9_dropWish_22 : decode cX9_dropWish 22 = .ok (.iconst 1, 1) := by decide +kernel
theorem dX9_dropWish_23 : decode cX9_dropWish 23 = .ok (.iadd, 1) := by decide +kernel
theorem dX9_dropWish_24 : decode cX9_dropWish 24 = .ok (.invokevirtual 54, 3) := by decide +kernel
theorem dX9_dropWish_27 : decode cX9_dropWish 27 = .ok (.invokevirtual 46, 3) := by decide +kernel
theorem dX9_dropWish_30 : decode cX9_dropWish 30 = .ok (.aload_n 0, 1) := by decide +kernel
theorem dX9_dropWish_31 : decode cX9_dropWish 31 = .ok (.getfield 26, 3) := by decide +kernel
theorem dX9_dropWish_34 : decode cX9_dropWish 34 = .ok (.iload_n 2, 1) := by decide +kernel
theorem dX9_dropWish_35 : decode cX9_dropWish 35 = .ok (.aload_n 0, 1) := by decide +kernel
theorem dX9_dropWish_36 : decode cX9_dropWish 36 = .ok (.getfield 26, 3) := by decide +kernel
theorem dX9_dropWish_39 : decode cX9_dropWish 39 = .ok (.iload_n 2, 1) := by decide +kernel
theorem dX9_dropWish_40 : decode cX9_dropWish 40 = .ok (.iconst 1, 1) := by decide +kernel
theorem dX9_dropWish_41 : decode cX9_dropWish 41 = .ok (.iadd, 1) := by decide +kernel
theorem dX9_dropWish_42 : decode cX9_dropWish 42 = .ok (.invokevirtual 54, 3) := by decide +kernel
theorem dX9_dropWish_45 : decode cX9_dropWish 45 = .ok (.invokevirtual 46, 3) := by decide +kernel
theorem dX9_dropWish_48 : decode cX9_dropWish 48 = .ok (.aload_n 0, 1) := by decide +kernel
theorem dX9_dropWish_49 : decode cX9_dropWish 49 = .ok (.getfield 29, 3) := by decide +kernel
theorem dX9_dropWish_52 : decode cX9_dropWish 52 = .ok (.iload_n 2, 1) := by decide +kernel
theorem dX9_dropWish_53 : decode cX9_dropWish 53 = .ok (.aload_n 0, 1) := by decide +kernel
theorem dX9_dropWish_54 : decode cX9_dropWish 54 = .ok (.getfield 29, 3) := by decide +kernel
theorem dX9_dropWish_57 : decode cX9_dropWish 57 = .ok (.iload_n 2, 1) := by decide +kernel
theorem dX9_dropWish_58 : decode cX9_dropWish 58 = .ok (.iconst 1, 1) := by decide +kernel
theorem dX9_dropWish_59 : decode cX9_dropWish 59 = .ok (.iadd, 1) := by decide +kernel
theorem dX9_dropWish_60 : decode cX9_dropWish 60 = .ok (.invokevirtual 54, 3) := by decide +kernel
theorem dX9_dropWish_63 : decode cX9_dropWish 63 = .ok (.invokevirtual 46, 3) := by decide +kernel
theorem dX9_dropWish_66 : decode cX9_dropWish 66 = .ok (.aload_n 0, 1) := by decide +kernel
theorem dX9_dropWish_67 : decode cX9_dropWish 67 = .ok (.getfield 32, 3) := by decide +kernel
theorem dX9_dropWish_70 : decode cX9_dropWish 70 = .ok (.iload_n 2, 1) := by decide +kernel
theorem dX9_dropWish_71 : decode cX9_dropWish 71 = .ok (.aload_n 0, 1) := by decide +kernel
theorem dX9_dropWish_72 : decode cX9_dropWish 72 = .ok (.getfield 32, 3) := by decide +kernel
theorem dX9_dropWish_75 : decode cX9_dropWish 75 = .ok (.iload_n 2, 1) := by decide +kernel
theorem dX9_dropWish_76 : decode cX9_dropWish 76 = .ok (.iconst 1, 1) := by decide +kernel
theorem dX9_dropWish_77 : decode cX9_dropWish 77 = .ok (.iadd, 1) := by decide +kernel
theorem dX9_dropWish_78 : decode cX9_dropWish 78 = .ok (.invokevirtual 54, 3) := by decide +kernel
theorem dX9_dropWish_81 : decode cX9_dropWish 81 = .ok (.invokevirtual 46, 3) := by decide +kernel
theorem dX9_dropWish_84 : decode cX9_dropWish 84 = .ok (.iinc 2 1, 3) := by decide +kernel
theorem dX9_dropWish_87 : decode cX9_dropWish 87 = .ok (.goto (-85), 3) := by decide +kernel
theorem dX9_dropWish_90 : decode cX9_dropWish 90 = .ok (.aload_n 0, 1) := by decide +kernel
theorem dX9_dropWish_91 : decode cX9_dropWish 91 = .ok (.dup, 1) := by decide +kernel
theorem dX9_dropWish_92 : decode cX9_dropWish 92 = .ok (.getfield 39, 3) := by decide +kernel
theorem dX9_dropWish_95 : decode cX9_dropWish 95 = .ok (.iconst 1, 1) := by decide +kernel
theorem dX9_dropWish_96 : decode cX9_dropWish 96 = .ok (.isub, 1) := by decide +kernel
theorem dX9_dropWish_97 : decode cX9_dropWish 97 = .ok (.putfield 39, 3) := by decide +kernel
theorem dX9_dropWish_100 : decode cX9_dropWish 100 = .ok (.return_, 1) := by decide +kernel
theorem dX9_oneOf_0 : decode cX9_oneOf 0 = .ok (.aload_n 0, 1) := by decide +kernel
theorem dX9_oneOf_1 : decode cX9_oneOf 1 = .ok (.getfield 23, 3) := by decide +kernel
theorem dX9_oneOf_4 : decode cX9_oneOf 4 = .ok (.iload_n 1, 1) := by decide +kernel
theorem dX9_oneOf_5 : decode cX9_oneOf 5 = .ok (.invokevirtual 54, 3) := by decide +kernel
theorem dX9_oneOf_8 : decode cX9_oneOf 8 = .ok (.ireturn, 1) := by decide +kernel
theorem dX9_otherOf_0 : decode cX9_otherOf 0 = .ok (.aload_n 0, 1) := by decide +kernel
theorem dX9_otherOf_1 : decode cX9_otherOf 1 = .ok (.getfield 26, 3) := by decide +kernel
theorem dX9_otherOf_4 : decode cX9_otherOf 4 = .ok (.iload_n 1, 1) := by decide +kernel
theorem dX9_otherOf_5 : decode cX9_otherOf 5 = .ok (.invokevirtual 54, 3) := by decide +kernel
theorem dX9_otherOf_8 : decode cX9_otherOf 8 = .ok (.ireturn, 1) := by decide +kernel
theorem dX9_isMet_0 : decode cX9_isMet 0 = .ok (.aload_n 0, 1) := by decide +kernel
theorem dX9_isMet_1 : decode cX9_isMet 1 = .ok (.getfield 32, 3) := by decide +kernel
theorem dX9_isMet_4 : decode cX9_isMet 4 = .ok (.iload_n 1, 1) := by decide +kernel
theorem dX9_isMet_5 : decode cX9_isMet 5 = .ok (.invokevirtual 54, 3) := by decide +kernel
theorem dX9_isMet_8 : decode cX9_isMet 8 = .ok (.istore_n 3, 1) := by decide +kernel
theorem dX9_isMet_9 : decode cX9_isMet 9 = .ok (.aload_n 0, 1) := by decide +kernel
theorem dX9_isMet_10 : decode cX9_isMet 10 = .ok (.getfield 29, 3) := by decide +kernel
theorem dX9_isMet_13 : decode cX9_isMet 13 = .ok (.iload_n 1, 1) := by decide +kernel
theorem dX9_isMet_14 : decode cX9_isMet 14 = .ok (.invokevirtual 54, 3) := by decide +kernel
theorem dX9_isMet_17 : decode cX9_isMet 17 = .ok (.iconst 1, 1) := by decide +kernel
theorem dX9_isMet_18 : decode cX9_isMet 18 = .ok (.if_icmp .ne 19, 3) := by decide +kernel
theorem dX9_isMet_21 : decode cX9_isMet 21 = .ok (.iload_n 2, 1) := by decide +kernel
theorem dX9_isMet_22 : decode cX9_isMet 22 = .ok (.iconst (-1), 1) := by decide +kernel
theorem dX9_isMet_23 : decode cX9_isMet 23 = .ok (.if_icmp .eq 12, 3) := by decide +kernel
theorem dX9_isMet_26 : decode cX9_isMet 26 = .ok (.iload_n 2, 1) := by decide +kernel
theorem dX9_isMet_27 : decode cX9_isMet 27 = .ok (.iload_n 3, 1) := by decide +kernel
theorem dX9_isMet_28 : decode cX9_isMet 28 = .ok (.if_icmp .gt 7, 3) := by decide +kernel
theorem dX9_isMet_31 : decode cX9_isMet 31 = .ok (.iconst 1, 1) := by decide +kernel
theorem dX9_isMet_32 : decode cX9_isMet 32 = .ok (.goto 4, 3) := by decide +kernel
theorem dX9_isMet_35 : decode cX9_isMet 35 = .ok (.iconst 0, 1) := by decide +kernel
theorem dX9_isMet_36 : decode cX9_isMet 36 = .ok (.ireturn, 1) := by decide +kernel
theorem dX9_isMet_37 : decode cX9_isMet 37 = .ok (.iload_n 2, 1) := by decide +kernel
theorem dX9_isMet_38 : decode cX9_isMet 38 = .ok (.iconst (-1), 1) := by decide +kernel
theorem dX9_isMet_39 : decode cX9_isMet 39 = .ok (.if_icmp .eq 8, 3) := by decide +kernel
theorem dX9_isMet_42 : decode cX9_isMet 42 = .ok (.iload_n 2, 1) := by decide +kernel
theorem dX9_isMet_43 : decode cX9_isMet 43 = .ok (.iload_n 3, 1) := by decide +kernel
theorem dX9_isMet_44 : decode cX9_isMet 44 = .ok (.if_icmp .lt 7, 3) := by decide +kernel
theorem dX9_isMet_47 : decode cX9_isMet 47 = .ok (.iconst 1, 1) := by decide +kernel
theorem dX9_isMet_48 : decode cX9_isMet 48 = .ok (.goto 4, 3) := by decide +kernel
theorem dX9_isMet_51 : decode cX9_isMet 51 = .ok (.iconst 0, 1) := by decide +kernel
theorem dX9_isMet_52 : decode cX9_isMet 52 = .ok (.ireturn, 1) := by decide +kernel
theorem dX10_init_0 : decode cX10_init 0 = .ok (.aload_n 0, 1) := by decide +kernel
theorem dX10_init_1 : decode cX10_init 1 = .ok (.invokespecial 3, 3) := by decide +kernel
theorem dX10_init_4 : decode cX10_init 4 = .ok (.aload_n 0, 1) := by decide +kernel
theorem dX10_init_5 : decode cX10_init 5 = .ok (.new 9, 3) := by decide +kernel
theorem dX10_init_8 : decode cX10_init 8 = .ok (.dup, 1) := by decide +kernel
theorem dX10_init_9 : decode cX10_init 9 = .ok (.invokespecial 11, 3) := by decide +kernel
theorem dX10_init_12 : decode cX10_init 12 = .ok (.putfield 12, 3) := by decide +kernel
theorem dX10_init_15 : decode cX10_init 15 = .ok (.aload_n 0, 1) := by decide +kernel
theorem dX10_init_16 : decode cX10_init 16 = .ok (.new 16, 3) := by decide +kernel
theorem dX10_init_19 : decode cX10_init 19 = .ok (.dup, 1) := by decide +kernel
theorem dX10_init_20 : decode cX10_init 20 = .ok (.invokespecial 18, 3) := by decide +kernel
theorem dX10_init_23 : decode cX10_init 23 = .ok (.putfield 19, 3) := by decide +kernel
theorem dX10_init_26 : decode cX10_init 26 = .ok (.aload_n 0, 1) := by decide +kernel
theorem dX10_init_27 : decode cX10_init 27 = .ok (.new 23, 3) := by decide +kernel
theorem dX10_init_30 : decode cX10_init 30 = .ok (.dup, 1) := by decide +kernel
theorem dX10_init_31 : decode cX10_init 31 = .ok (.aload_n 0, 1) := by decide +kernel
theorem dX10_init_32 : decode cX10_init 32 = .ok (.getfield 12, 3) := by decide +kernel
theorem dX10_init_35 : decode cX10_init 35 = .ok (.aload_n 0, 1) := by decide +kernel
theorem dX10_init_36 : decode cX10_init 36 = .ok (.getfield 19, 3) := by decide +kernel
theorem dX10_init_39 : decode cX10_init 39 = .ok (.invokespecial 25, 3) := by decide +kernel
theorem dX10_init_42 : decode cX10_init 42 = .ok (.putfield 28, 3) := by decide +kernel
theorem dX10_init_45 : decode cX10_init 45 = .ok (.aload_n 0, 1) := by decide +kernel
theorem dX10_init_46 : decode cX10_init 46 = .ok (.new 32, 3) := by decide +kernel
theorem dX10_init_49 : decode cX10_init 49 = .ok (.dup, 1) := by decide +kernel
theorem dX10_init_50 : decode cX10_init 50 = .ok (.aload_n 0, 1) := by decide +kernel
theorem dX10_init_51 : decode cX10_init 51 = .ok (.getfield 12, 3) := by decide +kernel
theorem dX10_init_54 : decode cX10_init 54 = .ok (.aload_n 0, 1) := by decide +kernel
theorem dX10_init_55 : decode cX10_init 55 = .ok (.getfield 19, 3) := by decide +kernel
theorem dX10_init_58 : decode cX10_init 58 = .ok (.invokespecial 34, 3) := by decide +kernel
theorem dX10_init_61 : decode cX10_init 61 = .ok (.putfield 35, 3) := by decide +kernel
theorem dX10_init_64 : decode cX10_init 64 = .ok (.aload_n 0, 1) := by decide +kernel
theorem dX10_init_65 : decode cX10_init 65 = .ok (.new 39, 3) := by decide +kernel
theorem dX10_init_68 : decode cX10_init 68 = .ok (.dup, 1) := by decide +kernel
theorem dX10_init_69 : decode cX10_init 69 = .ok (.aload_n 0, 1) := by decide +kernel
theorem dX10_init_70 : decode cX10_init 70 = .ok (.getfield 12, 3) := by decide +kernel
theorem dX10_init_73 : decode cX10_init 73 = .ok (.aload_n 0, 1) := by decide +kernel
theorem dX10_init_74 : decode cX10_init 74 = .ok (.getfield 19, 3) := by decide +kernel
theorem dX10_init_77 : decode cX10_init 77 = .ok (.aload_n 0, 1) := by decide +kernel
theorem dX10_init_78 : decode cX10_init 78 = .ok (.getfield 28, 3) := by decide +kernel
theorem dX10_init_81 : decode cX10_init 81 = .ok (.invokespecial 41, 3) := by decide +kernel
theorem dX10_init_84 : decode cX10_init 84 = .ok (.putfield 44, 3) := by decide +kernel
theorem dX10_init_87 : decode cX10_init 87 = .ok (.aload_n 0, 1) := by decide +kernel
theorem dX10_init_88 : decode cX10_init 88 = .ok (.new 48, 3) := by decide +kernel
theorem dX10_init_91 : decode cX10_init 91 = .ok (.dup, 1) := by decide +kernel
theorem dX10_init_92 : decode cX10_init 92 = .ok (.aload_n 0, 1) := by decide +kernel
theorem dX10_init_93 : decode cX10_init 93 = .ok (.getfield 12, 3) := by decide +kernel
theorem dX10_init_96 : decode cX10_init 96 = .ok (.aload_n 0, 1) := by decide +kernel
theorem dX10_init_97 : decode cX10_init 97 = .ok (.getfield 28, 3) := by decide +kernel
theorem dX10_init_100 : decode cX10_init 100 = .ok (.invokespecial 50, 3) := by decide +kernel
theorem dX10_init_103 : decode cX10_init 103 = .ok (.putfield 53, 3) := by decide +kernel
theorem dX10_init_106 : decode cX10_init 106 = .ok (.aload_n 0, 1) := by decide +kernel
theorem dX10_init_107 : decode cX10_init 107 = .ok (.new 57, 3) := by decide +kernel
theorem dX10_init_110 : decode cX10_init 110 = .ok (.dup, 1) := by decide +kernel
theorem dX10_init_111 : decode cX10_init 111 = .ok (.aload_n 0, 1) := by decide +kernel
theorem dX10_init_112 : decode cX10_init 112 = .ok (.getfield 12, 3) := by decide +kernel
theorem dX10_init_115 : decode cX10_init 115 = .ok (.aload_n 0, 1) := by decide +kernel
theorem dX10_init_116 : decode cX10_init 116 = .ok (.getfield 19, 3) := by decide +kernel
theorem dX10_init_119 : decode cX10_init 119 = .ok (.invokespecial 59, 3) := by decide +kernel
theorem dX10_init_122 : decode cX10_init 122 = .ok (.putfield 60, 3) := by decide +kernel
theorem dX10_init_125 : decode cX10_init 125 = .ok (.aload_n 0, 1) := by decide +kernel
theorem dX10_init_126 : decode cX10_init 126 = .ok (.new 64, 3) := by decide +kernel
theorem dX10_init_129 : decode cX10_init 129 = .ok (.dup, 1) := by decide +kernel
theorem dX10_init_130 : decode cX10_init 130 = .ok (.aload_n 0, 1) := by decide +kernel
theorem dX10_init_131 : decode cX10_init 131 = .ok (.getfield 12, 3) := by decide +kernel
theorem dX10_init_134 : decode cX10_init 134 = .ok (.aload_n 0, 1) := by decide +kernel
theorem dX10_init_135 : decode cX10_init 135 = .ok (.getfield 19, 3) := by decide +kernel
theorem dX10_init_138 : decode cX10_init 138 = .ok (.aload_n 0, 1) := by decide +kernel
theorem dX10_init_139 : decode cX10_init 139 = .ok (.getfield 28, 3) := by decide +kernel
theorem dX10_init_142 : decode cX10_init 142 = .ok (.invokespecial 66, 3) := by decide +kernel
theorem dX10_init_145 : decode cX10_init 145 = .ok (.putfield 67, 3) := by decide +kernel
theorem dX10_init_148 : decode cX10_init 148 = .ok (.aload_n 0, 1) := by decide +kernel
theorem dX10_init_149 : decode cX10_init 149 = .ok (.new 71, 3) := by decide +kernel
theorem dX10_init_152 : decode cX10_init 152 = .ok (.dup, 1) := by decide +kernel
theorem dX10_init_153 : decode cX10_init 153 = .ok (.invokespecial 73, 3) := by decide +kernel
theorem dX10_init_156 : decode cX10_init 156 = .ok (.putfield 74, 3) := by decide +kernel
theorem dX10_init_159 : decode cX10_init 159 = .ok (.aload_n 0, 1) := by decide +kernel
theorem dX10_init_160 : decode cX10_init 160 = .ok (.new 71, 3) := by decide +kernel
theorem dX10_init_163 : decode cX10_init 163 = .ok (.dup, 1) := by decide +kernel
theorem dX10_init_164 : decode cX10_init 164 = .ok (.invokespecial 73, 3) := by decide +kernel
theorem dX10_init_167 : decode cX10_init 167 = .ok (.putfield 78, 3) := by decide +kernel
theorem dX10_init_170 : decode cX10_init 170 = .ok (.return_, 1) := by decide +kernel
theorem dX10_column_0 : decode cX10_column 0 = .ok (.iload_n 1, 1) := by decide +kernel
theorem dX10_column_1 : decode cX10_column 1 = .ok (.iload_n 2, 1) := by decide +kernel
theorem dX10_column_2 : decode cX10_column 2 = .ok (.invokestatic 81, 3) := by decide +kernel
theorem dX10_column_5 : decode cX10_column 5 = .ok (.istore 4, 2) := by decide +kernel
theorem dX10_column_7 : decode cX10_column 7 = .ok (.iload 4, 2) := by decide +kernel
theorem dX10_column_9 : decode cX10_column 9 = .ok (.iconst (-1), 1) := by decide +kernel
theorem dX10_column_10 : decode cX10_column 10 = .ok (.if_icmp .ne 6, 3) := by decide +kernel
theorem dX10_column_13 : decode cX10_column 13 = .ok (.bipush (-2), 2) := by decide +kernel
theorem dX10_column_15 : decode cX10_column 15 = .ok (.ireturn, 1) := by decide +kernel
theorem dX10_column_16 : decode cX10_column 16 = .ok (.aload_n 0, 1) := by decide +kernel
theorem dX10_column_17 : decode cX10_column 17 = .ok (.getfield 12, 3) := by decide +kernel
theorem dX10_column_20 : decode cX10_column 20 = .ok (.iload 4, 2) := by decide +kernel
theorem dX10_column_22 : decode cX10_column 22 = .ok (.invokevirtual 85, 3) := by decide +kernel
theorem dX10_column_25 : decode cX10_column 25 = .ok (.iconst 2, 1) := by decide +kernel
theorem dX10_column_26 : decode cX10_column 26 = .ok (.if_icmp .ne 6, 3) := by decide +kernel
theorem dX10_column_29 : decode cX10_column 29 = .ok (.bipush (-3), 2) := by decide +kernel
theorem dX10_column_31 : decode cX10_column 31 = .ok (.ireturn, 1) := by decide +kernel
theorem dX10_column_32 : decode cX10_column 32 = .ok (.aload_n 0, 1) := by decide +kernel
theorem dX10_column_33 : decode cX10_column 33 = .ok (.getfield 12, 3) := by decide +kernel
theorem dX10_column_36 : decode cX10_column 36 = .ok (.iload 4, 2) := by decide +kernel
theorem dX10_column_38 : decode cX10_column 38 = .ok (.iload_n 3, 1) := by decide +kernel
theorem dX10_column_39 : decode cX10_column 39 = .ok (.ifCond .eq 7, 3) := by decide +kernel
theorem dX10_column_42 : decode cX10_column 42 = .ok (.iconst 1, 1) := by decide +kernel
theorem dX10_column_43 : decode cX10_column 43 = .ok (.goto 4, 3) := by decide +kernel
theorem dX10_column_46 : decode cX10_column 46 = .ok (.iconst 0, 1) := by decide +kernel
theorem dX10_column_47 : decode cX10_column 47 = .ok (.invokevirtual 89, 3) := by decide +kernel
theorem dX10_column_50 : decode cX10_column 50 = .ok (.aload_n 0, 1) := by decide +kernel
theorem dX10_column_51 : decode cX10_column 51 = .ok (.getfield 67, 3) := by decide +kernel
theorem dX10_column_54 : decode cX10_column 54 = .ok (.invokevirtual 93, 3) := by decide +kernel
theorem dX10_column_57 : decode cX10_column 57 = .ok (.iconst 1, 1) := by decide +kernel
theorem dX10_column_58 : decode cX10_column 58 = .ok (.ireturn, 1) := by decide +kernel
theorem dX10_slot_0 : decode cX10_slot 0 = .ok (.iload_n 1, 1) := by decide +kernel
theorem dX10_slot_1 : decode cX10_slot 1 = .ok (.iload_n 2, 1) := by decide +kernel
theorem dX10_slot_2 : decode cX10_slot 2 = .ok (.invokestatic 81, 3) := by decide +kernel
theorem dX10_slot_5 : decode cX10_slot 5 = .ok (.istore_n 3, 1) := by decide +kernel
theorem dX10_slot_6 : decode cX10_slot 6 = .ok (.iload_n 3, 1) := by decide +kernel
theorem dX10_slot_7 : decode cX10_slot 7 = .ok (.iconst (-1), 1) := by decide +kernel
theorem dX10_slot_8 : decode cX10_slot 8 = .ok (.if_icmp .ne 6, 3) := by decide +kernel
theorem dX10_slot_11 : decode cX10_slot 11 = .ok (.bipush (-2), 2) := by decide +kernel
theorem dX10_slot_13 : decode cX10_slot 13 = .ok (.ireturn, 1) := by decide +kernel
theorem dX10_slot_14 : decode cX10_slot 14 = .ok (.aload_n 0, 1) := by decide +kernel
theorem dX10_slot_15 : decode cX10_slot 15 = .ok (.getfield 12, 3) := by decide +kernel
theorem dX10_slot_18 : decode cX10_slot 18 = .ok (.iload_n 3, 1) := by decide +kernel
theorem dX10_slot_19 : decode cX10_slot 19 = .ok (.invokevirtual 85, 3) := by decide +kernel
theorem dX10_slot_22 : decode cX10_slot 22 = .ok (.ifCond .eq 6, 3) := by decide +kernel
theorem dX10_slot_25 : decode cX10_slot 25 = .ok (.bipush (-3), 2) := by decide +kernel
theorem dX10_slot_27 : decode cX10_slot 27 = .ok (.ireturn, 1) := by decide +kernel
theorem dX10_slot_28 : decode cX10_slot 28 = .ok (.aload_n 0, 1) := by decide +kernel
theorem dX10_slot_29 : decode cX10_slot 29 = .ok (.getfield 12, 3) := by decide +kernel
theorem dX10_slot_32 : decode cX10_slot 32 = .ok (.invokevirtual 96, 3) := by decide +kernel
theorem dX10_slot_35 : decode cX10_slot 35 = .ok (.bipush 6, 2) := by decide +kernel
theorem dX10_slot_37 : decode cX10_slot 37 = .ok (.if_icmp .lt 6, 3) := by decide +kernel
theorem dX10_slot_40 : decode cX10_slot 40 = .ok (.bipush (-4), 2) := by decide +kernel
theorem dX10_slot_42 : decode cX10_slot 42 = .ok (.ireturn, 1) := by decide +kernel
theorem dX10_slot_43 : decode cX10_slot 43 = .ok (.aload_n 0, 1) := by decide +kernel
theorem dX10_slot_44 : decode cX10_slot 44 = .ok (.getfield 67, 3) := by decide +kernel
theorem dX10_slot_47 : decode cX10_slot 47 = .ok (.invokevirtual 93, 3) := by decide +kernel
theorem dX10_slot_50 : decode cX10_slot 50 = .ok (.aload_n 0, 1) := by decide +kernel
theorem dX10_slot_51 : decode cX10_slot 51 = .ok (.getfield 12, 3) := by decide +kernel
theorem dX10_slot_54 : decode cX10_slot 54 = .ok (.iload_n 3, 1) := by decide +kernel
theorem dX10_slot_55 : decode cX10_slot 55 = .ok (.invokevirtual 100, 3) := by decide +kernel
theorem dX10_slot_58 : decode cX10_slot 58 = .ok (.ireturn, 1) := by decide +kernel
theorem dX10_exit_0 : decode cX10_exit 0 = .ok (.iload_n 1, 1) := by decide +kernel
theorem dX10_exit_1 : decode cX10_exit 1 = .ok (.iload_n 2, 1) := by decide +kernel
theorem dX10_exit_2 : decode cX10_exit 2 = .ok (.invokestatic 81, 3) := by decide +kernel
theorem dX10_exit_5 : decode cX10_exit 5 = .ok (.istore 4, 2) := by decide +kernel
theorem dX10_exit_7 : decode cX10_exit 7 = .ok (.iload 4, 2) := by decide +kernel
theorem dX10_exit_9 : decode cX10_exit 9 = .ok (.iconst (-1), 1) := by decide +kernel
theorem dX10_exit_10 : decode cX10_exit 10 = .ok (.if_icmp .ne 6, 3) := by decide +kernel
theorem dX10_exit_13 : decode cX10_exit 13 = .ok (.bipush (-2), 2) := by decide +kernel
theorem dX10_exit_15 : decode cX10_exit 15 = .ok (.ireturn, 1) := by decide +kernel
theorem dX10_exit_16 : decode cX10_exit 16 = .ok (.aload_n 0, 1) := by decide +kernel
theorem dX10_exit_17 : decode cX10_exit 17 = .ok (.getfield 12, 3) := by decide +kernel
theorem dX10_exit_20 : decode cX10_exit 20 = .ok (.iload 4, 2) := by decide +kernel
theorem dX10_exit_22 : decode cX10_exit 22 = .ok (.invokevirtual 85, 3) := by decide +kernel
theorem dX10_exit_25 : decode cX10_exit 25 = .ok (.istore 5, 2) := by decide +kernel
theorem dX10_exit_27 : decode cX10_exit 27 = .ok (.iload 5, 2) := by decide +kernel
theorem dX10_exit_29 : decode cX10_exit 29 = .ok (.ifCond .eq 12, 3) := by decide +kernel
theorem dX10_exit_32 : decode cX10_exit 32 = .ok (.iload 5, 2) := by decide +kernel
theorem dX10_exit_34 : decode cX10_exit 34 = .ok (.iconst 3, 1) := by decide +kernel
theorem dX10_exit_35 : decode cX10_exit 35 = .ok (.if_icmp .eq 6, 3) := by decide +kernel
theorem dX10_exit_38 : decode cX10_exit 38 = .ok (.bipush (-3), 2) := by decide +kernel
theorem dX10_exit_40 : decode cX10_exit 40 = .ok (.ireturn, 1) := by decide +kernel
theorem dX10_exit_41 : decode cX10_exit 41 = .ok (.aload_n 0, 1) := by decide +kernel
theorem dX10_exit_42 : decode cX10_exit 42 = .ok (.getfield 12, 3) := by decide +kernel
theorem dX10_exit_45 : decode cX10_exit 45 = .ok (.iload 4, 2) := by decide +kernel
theorem dX10_exit_47 : decode cX10_exit 47 = .ok (.iload_n 3, 1) := by decide +kernel
theorem dX10_exit_48 : decode cX10_exit 48 = .ok (.ifCond .eq 7, 3) := by decide +kernel
theorem dX10_exit_51 : decode cX10_exit 51 = .ok (.iconst 3, 1) := by decide +kernel
theorem dX10_exit_52 : decode cX10_exit 52 = .ok (.goto 4, 3) := by decide +kernel
theorem dX10_exit_55 : decode cX10_exit 55 = .ok (.iconst 0, 1) := by decide +kernel
theorem dX10_exit_56 : decode cX10_exit 56 = .ok (.invokevirtual 89, 3) := by decide +kernel
theorem dX10_exit_59 : decode cX10_exit 59 = .ok (.aload_n 0, 1) := by decide +kernel
theorem dX10_exit_60 : decode cX10_exit 60 = .ok (.getfield 67, 3) := by decide +kernel
theorem dX10_exit_63 : decode cX10_exit 63 = .ok (.invokevirtual 93, 3) := by decide +kernel
theorem dX10_exit_66 : decode cX10_exit 66 = .ok (.iload 5, 2) := by decide +kernel
theorem dX10_exit_68 : decode cX10_exit 68 = .ok (.iconst 3, 1) := by decide +kernel
theorem dX10_exit_69 : decode cX10_exit 69 = .ok (.if_icmp .ne 7, 3) := by decide +kernel
theorem dX10_exit_72 : decode cX10_exit 72 = .ok (.iconst 1, 1) := by decide +kernel
theorem dX10_exit_73 : decode cX10_exit 73 = .ok (.goto 4, 3) := by decide +kernel
theorem dX10_exit_76 : decode cX10_exit 76 = .ok (.iconst 0, 1) := by decide +kernel
theorem dX10_exit_77 : decode cX10_exit 77 = .ok (.ireturn, 1) := by decide +kernel
theorem dX10_far_0 : decode cX10_far 0 = .ok (.aload_n 0, 1) := by decide +kernel
theorem dX10_far_1 : decode cX10_far 1 = .ok (.getfield 12, 3) := by decide +kernel
theorem dX10_far_4 : decode cX10_far 4 = .ok (.iload_n 1, 1) := by decide +kernel
theorem dX10_far_5 : decode cX10_far 5 = .ok (.invokevirtual 103, 3) := by decide +kernel
theorem dX10_far_8 : decode cX10_far 8 = .ok (.ifCond .eq 14, 3) := by decide +kernel
theorem dX10_far_11 : decode cX10_far 11 = .ok (.aload_n 0, 1) := by decide +kernel
theorem dX10_far_12 : decode cX10_far 12 = .ok (.getfield 12, 3) := by decide +kernel
theorem dX10_far_15 : decode cX10_far 15 = .ok (.iload_n 2, 1) := by decide +kernel
theorem dX10_far_16 : decode cX10_far 16 = .ok (.invokevirtual 103, 3) := by decide +kernel
theorem dX10_far_19 : decode cX10_far 19 = .ok (.ifCond .ne 6, 3) := by decide +kernel
theorem dX10_far_22 : decode cX10_far 22 = .ok (.bipush (-2), 2) := by decide +kernel
theorem dX10_far_24 : decode cX10_far 24 = .ok (.ireturn, 1) := by decide +kernel
theorem dX10_far_25 : decode cX10_far 25 = .ok (.aload_n 0, 1) := by decide +kernel
theorem dX10_far_26 : decode cX10_far 26 = .ok (.getfield 12, 3) := by decide +kernel
theorem dX10_far_29 : decode cX10_far 29 = .ok (.iload_n 1, 1) := by decide +kernel
theorem dX10_far_30 : decode cX10_far 30 = .ok (.iload_n 2, 1) := by decide +kernel
theorem dX10_far_31 : decode cX10_far 31 = .ok (.invokevirtual 107, 3) := by decide +kernel
theorem dX10_far_34 : decode cX10_far 34 = .ok (.ireturn, 1) := by decide +kernel
theorem dX10_out_0 : decode cX10_out 0 = .ok (.aload_n 0, 1) := by decide +kernel
theorem dX10_out_1 : decode cX10_out 1 = .ok (.getfield 12, 3) := by decide +kernel
theorem dX10_out_4 : decode cX10_out 4 = .ok (.iload_n 1, 1) := by decide +kernel
theorem dX10_out_5 : decode cX10_out 5 = .ok (.invokevirtual 103, 3) := by decide +kernel
theorem dX10_out_8 : decode cX10_out 8 = .ok (.ifCond .ne 6, 3) := by decide +kernel
theorem dX10_out_11 : decode cX10_out 11 = .ok (.bipush (-2), 2) := by decide +kernel
theorem dX10_out_13 : decode cX10_out 13 = .ok (.ireturn, 1) := by decide +kernel
theorem dX10_out_14 : decode cX10_out 14 = .ok (.aload_n 0, 1) := by decide +kernel
theorem dX10_out_15 : decode cX10_out 15 = .ok (.getfield 12, 3) := by decide +kernel
theorem dX10_out_18 : decode cX10_out 18 = .ok (.iload_n 1, 1) := by decide +kernel
theorem dX10_out_19 : decode cX10_out 19 = .ok (.invokevirtual 110, 3) := by decide +kernel
theorem dX10_out_22 : decode cX10_out 22 = .ok (.ireturn, 1) := by decide +kernel
theorem dX10_bound_0 : decode cX10_bound 0 = .ok (.iload_n 1, 1) := by decide +kernel
theorem dX10_bound_1 : decode cX10_bound 1 = .ok (.ifCond .lt 9, 3) := by decide +kernel
theorem dX10_bound_4 : decode cX10_bound 4 = .ok (.iload_n 1, 1) := by decide +kernel
theorem dX10_bound_5 : decode cX10_bound 5 = .ok (.bipush 41, 2) := by decide +kernel
theorem dX10_bound_7 : decode cX10_bound 7 = .ok (.if_icmp .le 6, 3) := by decide +kernel
theorem dX10_bound_10 : decode cX10_bound 10 = .ok (.bipush (-2), 2) := by decide +kernel
theorem dX10_bound_12 : decode cX10_bound 12 = .ok (.ireturn, 1) := by decide +kernel
theorem dX10_bound_13 : decode cX10_bound 13 = .ok (.aload_n 0, 1) := by decide +kernel
theorem dX10_bound_14 : decode cX10_bound 14 = .ok (.getfield 67, 3) := by decide +kernel
theorem dX10_bound_17 : decode cX10_bound 17 = .ok (.invokevirtual 93, 3) := by decide +kernel
theorem dX10_bound_20 : decode cX10_bound 20 = .ok (.aload_n 0, 1) := by decide +kernel
theorem dX10_bound_21 : decode cX10_bound 21 = .ok (.getfield 12, 3) := by decide +kernel
theorem dX10_bound_24 : decode cX10_bound 24 = .ok (.iload_n 1, 1) := by decide +kernel
theorem dX10_bound_25 : decode cX10_bound 25 = .ok (.invokevirtual 113, 3) := by decide +kernel
theorem dX10_bound_28 : decode cX10_bound 28 = .ok (.ireturn, 1) := by decide +kernel
theorem dX10_shop_0 : decode cX10_shop 0 = .ok (.aload_n 0, 1) := by decide +kernel
theorem dX10_shop_1 : decode cX10_shop 1 = .ok (.getfield 19, 3) := by decide +kernel
theorem dX10_shop_4 : decode cX10_shop 4 = .ok (.invokevirtual 116, 3) := by decide +kernel
theorem dX10_shop_7 : decode cX10_shop 7 = .ok (.iconst 5, 1) := by decide +kernel
theorem dX10_shop_8 : decode cX10_shop 8 = .ok (.if_icmp .lt 6, 3) := by decide +kernel
theorem dX10_shop_11 : decode cX10_shop 11 = .ok (.bipush (-4), 2) := by decide +kernel
theorem dX10_shop_13 : decode cX10_shop 13 = .ok (.ireturn, 1) := by decide +kernel
theorem dX10_shop_14 : decode cX10_shop 14 = .ok (.aload_n 0, 1) := by decide +kernel
theorem dX10_shop_15 : decode cX10_shop 15 = .ok (.getfield 12, 3) := by decide +kernel
theorem dX10_shop_18 : decode cX10_shop 18 = .ok (.invokevirtual 96, 3) := by decide +kernel
theorem dX10_shop_21 : decode cX10_shop 21 = .ok (.aload_n 0, 1) := by decide +kernel
theorem dX10_shop_22 : decode cX10_shop 22 = .ok (.getfield 19, 3) := by decide +kernel
theorem dX10_shop_25 : decode cX10_shop 25 = .ok (.invokevirtual 116, 3) := by decide +kernel
theorem dX10_shop_28 : decode cX10_shop 28 = .ok (.if_icmp .gt 6, 3) := by decide +kernel
theorem dX10_shop_31 : decode cX10_shop 31 = .ok (.bipush (-3), 2) := by decide +kernel
theorem dX10_shop_33 : decode cX10_shop 33 = .ok (.ireturn, 1) := by decide +kernel
theorem dX10_shop_34 : decode cX10_shop 34 = .ok (.aload_n 0, 1) := by decide +kernel
theorem dX10_shop_35 : decode cX10_shop 35 = .ok (.getfield 67, 3) := by decide +kernel
theorem dX10_shop_38 : decode cX10_shop 38 = .ok (.invokevirtual 93, 3) := by decide +kernel
theorem dX10_shop_41 : decode cX10_shop 41 = .ok (.aload_n 0, 1) := by decide +kernel
theorem dX10_shop_42 : decode cX10_shop 42 = .ok (.getfield 74, 3) := by decide +kernel
theorem dX10_shop_45 : decode cX10_shop 45 = .ok (.aload_n 0, 1) := by decide +kernel
theorem dX10_shop_46 : decode cX10_shop 46 = .ok (.getfield 12, 3) := by decide +kernel
theorem dX10_shop_49 : decode cX10_shop 49 = .ok (.invokevirtual 96, 3) := by decide +kernel
theorem dX10_shop_52 : decode cX10_shop 52 = .ok (.invokevirtual 119, 3) := by decide +kernel
theorem dX10_shop_55 : decode cX10_shop 55 = .ok (.aload_n 0, 1) := by decide +kernel
theorem dX10_shop_56 : decode cX10_shop 56 = .ok (.getfield 19, 3) := by decide +kernel
theorem dX10_shop_59 : decode cX10_shop 59 = .ok (.invokevirtual 123, 3) := by decide +kernel
theorem dX10_shop_62 : decode cX10_shop 62 = .ok (.ireturn, 1) := by decide +kernel
theorem dX10_load_0 : decode cX10_load 0 = .ok (.iload_n 1, 1) := by decide +kernel
theorem dX10_load_1 : decode cX10_load 1 = .ok (.invokestatic 125, 3) := by decide +kernel
theorem dX10_load_4 : decode cX10_load 4 = .ok (.ifCond .eq 27, 3) := by decide +kernel
theorem dX10_load_7 : decode cX10_load 7 = .ok (.aload_n 0, 1) := by decide +kernel
theorem dX10_load_8 : decode cX10_load 8 = .ok (.getfield 19, 3) := by decide +kernel
theorem dX10_load_11 : decode cX10_load 11 = .ok (.iload_n 2, 1) := by decide +kernel
theorem dX10_load_12 : decode cX10_load 12 = .ok (.iload_n 3, 1) := by decide +kernel
theorem dX10_load_13 : decode cX10_load 13 = .ok (.invokevirtual 128, 3) := by decide +kernel
theorem dX10_load_16 : decode cX10_load 16 = .ok (.ifCond .eq 15, 3) := by decide +kernel
theorem dX10_load_19 : decode cX10_load 19 = .ok (.iload 4, 2) := by decide +kernel
theorem dX10_load_21 : decode cX10_load 21 = .ok (.ifCond .lt 10, 3) := by decide +kernel
theorem dX10_load_24 : decode cX10_load 24 = .ok (.iload 4, 2) := by decide +kernel
theorem dX10_load_26 : decode cX10_load 26 = .ok (.bipush 99, 2) := by decide +kernel
theorem dX10_load_28 : decode cX10_load 28 = .ok (.if_icmp .le 6, 3) := by decide +kernel
theorem dX10_load_31 : decode cX10_load 31 = .ok (.bipush (-2), 2) := by decide +kernel
theorem dX10_load_33 : decode cX10_load 33 = .ok (.ireturn, 1) := by decide +kernel
theorem dX10_load_34 : decode cX10_load 34 = .ok (.aload_n 0, 1) := by decide +kernel
theorem dX10_load_35 : decode cX10_load 35 = .ok (.getfield 67, 3) := by decide +kernel
theorem dX10_load_38 : decode cX10_load 38 = .ok (.invokevirtual 93, 3) := by decide +kernel
theorem dX10_load_41 : decode cX10_load 41 = .ok (.aload_n 0, 1) := by decide +kernel
theorem dX10_load_42 : decode cX10_load 42 = .ok (.getfield 19, 3) := by decide +kernel
theorem dX10_load_45 : decode cX10_load 45 = .ok (.iload_n 1, 1) := by decide +kernel
theorem dX10_load_46 : decode cX10_load 46 = .ok (.iload_n 2, 1) := by decide +kernel
theorem dX10_load_47 : decode cX10_load 47 = .ok (.iload_n 3, 1) := by decide +kernel
theorem dX10_load_48 : decode cX10_load 48 = .ok (.iload 4, 2) := by decide +kernel
theorem dX10_load_50 : decode cX10_load 50 = .ok (.invokevirtual 132, 3) := by decide +kernel
theorem dX10_load_53 : decode cX10_load 53 = .ok (.ireturn, 1) := by decide +kernel
theorem dX10_weight_0 : decode cX10_weight 0 = .ok (.aload_n 0, 1) := by decide +kernel
theorem dX10_weight_1 : decode cX10_weight 1 = .ok (.getfield 19, 3) := by decide +kernel
theorem dX10_weight_4 : decode cX10_weight 4 = .ok (.iload_n 1, 1) := by decide +kernel
theorem dX10_weight_5 : decode cX10_weight 5 = .ok (.invokevirtual 136, 3) := by decide +kernel
theorem dX10_weight_8 : decode cX10_weight 8 = .ok (.ifCond .eq 14, 3) := by decide +kernel
theorem dX10_weight_11 : decode cX10_weight 11 = .ok (.iload_n 2, 1) := by decide +kernel
theorem dX10_weight_12 : decode cX10_weight 12 = .ok (.iconst 1, 1) := by decide +kernel
theorem dX10_weight_13 : decode cX10_weight 13 = .ok (.if_icmp .lt 9, 3) := by decide +kernel
theorem dX10_weight_16 : decode cX10_weight 16 = .ok (.iload_n 2, 1) := by decide +kernel
theorem dX10_weight_17 : decode cX10_weight 17 = .ok (.bipush 50, 2) := by decide +kernel
theorem dX10_weight_19 : decode cX10_weight 19 = .ok (.if_icmp .le 6, 3) := by decide +kernel
theorem dX10_weight_22 : decode cX10_weight 22 = .ok (.bipush (-2), 2) := by decide +kernel
theorem dX10_weight_24 : decode cX10_weight 24 = .ok (.ireturn, 1) := by decide +kernel
theorem dX10_weight_25 : decode cX10_weight 25 = .ok (.aload_n 0, 1) := by decide +kernel
theorem dX10_weight_26 : decode cX10_weight 26 = .ok (.getfield 67, 3) := by decide +kernel
theorem dX10_weight_29 : decode cX10_weight 29 = .ok (.invokevirtual 93, 3) := by decide +kernel
theorem dX10_weight_32 : decode cX10_weight 32 = .ok (.aload_n 0, 1) := by decide +kernel
theorem dX10_weight_33 : decode cX10_weight 33 = .ok (.getfield 19, 3) := by decide +kernel
theorem dX10_weight_36 : decode cX10_weight 36 = .ok (.iload_n 1, 1) := by decide +kernel
theorem dX10_weight_37 : decode cX10_weight 37 = .ok (.iload_n 2, 1) := by decide +kernel
theorem dX10_weight_38 : decode cX10_weight 38 = .ok (.invokevirtual 139, 3) := by decide +kernel
theorem dX10_weight_41 : decode cX10_weight 41 = .ok (.ireturn, 1) := by decide +kernel
theorem dX10_wish_0 : decode cX10_wish 0 = .ok (.aload_n 0, 1) := by decide +kernel
theorem dX10_wish_1 : decode cX10_wish 1 = .ok (.getfield 19, 3) := by decide +kernel
theorem dX10_wish_4 : decode cX10_wish 4 = .ok (.iload_n 1, 1) := by decide +kernel
theorem dX10_wish_5 : decode cX10_wish 5 = .ok (.iload_n 2, 1) := by decide +kernel
theorem dX10_wish_6 : decode cX10_wish 6 = .ok (.invokevirtual 128, 3) := by decide +kernel
theorem dX10_wish_9 : decode cX10_wish 9 = .ok (.ifCond .eq 15, 3) := by decide +kernel
theorem dX10_wish_12 : decode cX10_wish 12 = .ok (.iload 4, 2) := by decide +kernel
theorem dX10_wish_14 : decode cX10_wish 14 = .ok (.ifCond .lt 10, 3) := by decide +kernel
theorem dX10_wish_17 : decode cX10_wish 17 = .ok (.iload 4, 2) := by decide +kernel
theorem dX10_wish_19 : decode cX10_wish 19 = .ok (.bipush 20, 2) := by decide +kernel
theorem dX10_wish_21 : decode cX10_wish 21 = .ok (.if_icmp .le 6, 3) := by decide +kernel
theorem dX10_wish_24 : decode cX10_wish 24 = .ok (.bipush (-2), 2) := by decide +kernel
theorem dX10_wish_26 : decode cX10_wish 26 = .ok (.ireturn, 1) := by decide +kernel
theorem dX10_wish_27 : decode cX10_wish 27 = .ok (.aload_n 0, 1) := by decide +kernel
theorem dX10_wish_28 : decode cX10_wish 28 = .ok (.getfield 19, 3) := by decide +kernel
theorem dX10_wish_31 : decode cX10_wish 31 = .ok (.invokevirtual 142, 3) := by decide +kernel
theorem dX10_wish_34 : decode cX10_wish 34 = .ok (.bipush 6, 2) := by decide +kernel
theorem dX10_wish_36 : decode cX10_wish 36 = .ok (.if_icmp .lt 6, 3) := by decide +kernel
theorem dX10_wish_39 : decode cX10_wish 39 = .ok (.bipush (-4), 2) := by decide +kernel
theorem dX10_wish_41 : decode cX10_wish 41 = .ok (.ireturn, 1) := by decide +kernel
theorem dX10_wish_42 : decode cX10_wish 42 = .ok (.aload_n 0, 1) := by decide +kernel
theorem dX10_wish_43 : decode cX10_wish 43 = .ok (.getfield 67, 3) := by decide +kernel
theorem dX10_wish_46 : decode cX10_wish 46 = .ok (.invokevirtual 93, 3) := by decide +kernel
theorem dX10_wish_49 : decode cX10_wish 49 = .ok (.aload_n 0, 1) := by decide +kernel
theorem dX10_wish_50 : decode cX10_wish 50 = .ok (.getfield 19, 3) := by decide +kernel
theorem dX10_wish_53 : decode cX10_wish 53 = .ok (.iload_n 1, 1) := by decide +kernel
theorem dX10_wish_54 : decode cX10_wish 54 = .ok (.iload_n 2, 1) := by decide +kernel
theorem dX10_wish_55 : decode cX10_wish 55 = .ok (.iload_n 3, 1) := by decide +kernel
theorem dX10_wish_56 : decode cX10_wish 56 = .ok (.iload 4, 2) := by decide +kernel
theorem dX10_wish_58 : decode cX10_wish 58 = .ok (.invokevirtual 145, 3) := by decide +kernel
theorem dX10_wish_61 : decode cX10_wish 61 = .ok (.ireturn, 1) := by decide +kernel
theorem dX10_unwish_0 : decode cX10_unwish 0 = .ok (.iload_n 1, 1) := by decide +kernel
theorem dX10_unwish_1 : decode cX10_unwish 1 = .ok (.ifCond .lt 14, 3) := by decide +kernel
theorem dX10_unwish_4 : decode cX10_unwish 4 = .ok (.iload_n 1, 1) := by decide +kernel
theorem dX10_unwish_5 : decode cX10_unwish 5 = .ok (.aload_n 0, 1) := by decide +kernel
theorem dX10_unwish_6 : decode cX10_unwish 6 = .ok (.getfield 19, 3) := by decide +kernel
theorem dX10_unwish_9 : decode cX10_unwish 9 = .ok (.invokevirtual 142, 3) := by decide +kernel
theorem dX10_unwish_12 : decode cX10_unwish 12 = .ok (.if_icmp .lt 6, 3) := by decide +kernel
theorem dX10_unwish_15 : decode cX10_unwish 15 = .ok (.bipush (-2), 2) := by decide +kernel
theorem dX10_unwish_17 : decode cX10_unwish 17 = .ok (.ireturn, 1) := by decide +kernel
theorem dX10_unwish_18 : decode cX10_unwish 18 = .ok (.aload_n 0, 1) := by decide +kernel
theorem dX10_unwish_19 : decode cX10_unwish 19 = .ok (.getfield 67, 3) := by decide +kernel
theorem dX10_unwish_22 : decode cX10_unwish 22 = .ok (.invokevirtual 93, 3) := by decide +kernel
theorem dX10_unwish_25 : decode cX10_unwish 25 = .ok (.aload_n 0, 1) := by decide +kernel
theorem dX10_unwish_26 : decode cX10_unwish 26 = .ok (.getfield 19, 3) := by decide +kernel
theorem dX10_unwish_29 : decode cX10_unwish 29 = .ok (.iload_n 1, 1) := by decide +kernel
theorem dX10_unwish_30 : decode cX10_unwish 30 = .ok (.invokevirtual 149, 3) := by decide +kernel
theorem dX10_unwish_33 : decode cX10_unwish 33 = .ok (.iconst 1, 1) := by decide +kernel
theorem dX10_unwish_34 : decode cX10_unwish 34 = .ok (.ireturn, 1) := by decide +kernel
theorem dX10_put_0 : decode cX10_put 0 = .ok (.aload_n 0, 1) := by decide +kernel
theorem dX10_put_1 : decode cX10_put 1 = .ok (.getfield 78, 3) := by decide +kernel
theorem dX10_put_4 : decode cX10_put 4 = .ok (.iload_n 1, 1) := by decide +kernel
theorem dX10_put_5 : decode cX10_put 5 = .ok (.aload_n 0, 1) := by decide +kernel
theorem dX10_put_6 : decode cX10_put 6 = .ok (.getfield 19, 3) := by decide +kernel
theorem dX10_put_9 : decode cX10_put 9 = .ok (.invokevirtual 116, 3) := by decide +kernel
theorem dX10_put_12 : decode cX10_put 12 = .ok (.aload_n 0, 1) := by decide +kernel
theorem dX10_put_13 : decode cX10_put 13 = .ok (.getfield 12, 3) := by decide +kernel
theorem dX10_put_16 : decode cX10_put 16 = .ok (.invokevirtual 96, 3) := by decide +kernel
theorem dX10_put_19 : decode cX10_put 19 = .ok (.invokevirtual 152, 3) := by decide +kernel
theorem dX10_put_22 : decode cX10_put 22 = .ok (.ifCond .ne 6, 3) := by decide +kernel
theorem dX10_put_25 : decode cX10_put 25 = .ok (.bipush (-2), 2) := by decide +kernel
theorem dX10_put_27 : decode cX10_put 27 = .ok (.ireturn, 1) := by decide +kernel
theorem dX10_put_28 : decode cX10_put 28 = .ok (.aload_n 0, 1) := by decide +kernel
theorem dX10_put_29 : decode cX10_put 29 = .ok (.getfield 74, 3) := by decide +kernel
theorem dX10_put_32 : decode cX10_put 32 = .ok (.aload_n 0, 1) := by decide +kernel
theorem dX10_put_33 : decode cX10_put 33 = .ok (.getfield 78, 3) := by decide +kernel
theorem dX10_put_36 : decode cX10_put 36 = .ok (.invokevirtual 156, 3) := by decide +kernel
theorem dX10_put_39 : decode cX10_put 39 = .ok (.iconst 1, 1) := by decide +kernel
theorem dX10_put_40 : decode cX10_put 40 = .ok (.ireturn, 1) := by decide +kernel
theorem dX10_places_0 : decode cX10_places 0 = .ok (.aload_n 0, 1) := by decide +kernel
theorem dX10_places_1 : decode cX10_places 1 = .ok (.getfield 74, 3) := by decide +kernel
theorem dX10_places_4 : decode cX10_places 4 = .ok (.invokevirtual 160, 3) := by decide +kernel
theorem dX10_places_7 : decode cX10_places 7 = .ok (.ireturn, 1) := by decide +kernel
theorem dX10_cost_0 : decode cX10_cost 0 = .ok (.iload_n 1, 1) := by decide +kernel
theorem dX10_cost_1 : decode cX10_cost 1 = .ok (.invokestatic 125, 3) := by decide +kernel
theorem dX10_cost_4 : decode cX10_cost 4 = .ok (.ifCond .ne 6, 3) := by decide +kernel
theorem dX10_cost_7 : decode cX10_cost 7 = .ok (.bipush (-2), 2) := by decide +kernel
theorem dX10_cost_9 : decode cX10_cost 9 = .ok (.ireturn, 1) := by decide +kernel
theorem dX10_cost_10 : decode cX10_cost 10 = .ok (.aload_n 0, 1) := by decide +kernel
theorem dX10_cost_11 : decode cX10_cost 11 = .ok (.getfield 28, 3) := by decide +kernel
theorem dX10_cost_14 : decode cX10_cost 14 = .ok (.iload_n 1, 1) := by decide +kernel
theorem dX10_cost_15 : decode cX10_cost 15 = .ok (.aload_n 0, 1) := by decide +kernel
theorem dX10_cost_16 : decode cX10_cost 16 = .ok (.getfield 74, 3) := by decide +kernel
theorem dX10_cost_19 : decode cX10_cost 19 = .ok (.invokevirtual 163, 3) := by decide +kernel
theorem dX10_cost_22 : decode cX10_cost 22 = .ok (.ireturn, 1) := by decide +kernel
theorem dX10_best_0 : decode cX10_best 0 = .ok (.iload_n 1, 1) := by decide +kernel
theorem dX10_best_1 : decode cX10_best 1 = .ok (.invokestatic 125, 3) := by decide +kernel
theorem dX10_best_4 : decode cX10_best 4 = .ok (.ifCond .ne 6, 3) := by decide +kernel
theorem dX10_best_7 : decode cX10_best 7 = .ok (.bipush (-2), 2) := by decide +kernel
theorem dX10_best_9 : decode cX10_best 9 = .ok (.ireturn, 1) := by decide +kernel
theorem dX10_best_10 : decode cX10_best 10 = .ok (.aload_n 0, 1) := by decide +kernel
theorem dX10_best_11 : decode cX10_best 11 = .ok (.getfield 44, 3) := by decide +kernel
theorem dX10_best_14 : decode cX10_best 14 = .ok (.iload_n 1, 1) := by decide +kernel
theorem dX10_best_15 : decode cX10_best 15 = .ok (.invokevirtual 167, 3) := by decide +kernel
theorem dX10_best_18 : decode cX10_best 18 = .ok (.aload_n 0, 1) := by decide +kernel
theorem dX10_best_19 : decode cX10_best 19 = .ok (.getfield 44, 3) := by decide +kernel
theorem dX10_best_22 : decode cX10_best 22 = .ok (.invokevirtual 170, 3) := by decide +kernel
theorem dX10_best_25 : decode cX10_best 25 = .ok (.ireturn, 1) := by decide +kernel
theorem dX10_many_0 : decode cX10_many 0 = .ok (.iload_n 1, 1) := by decide +kernel
theorem dX10_many_1 : decode cX10_many 1 = .ok (.invokestatic 125, 3) := by decide +kernel
theorem dX10_many_4 : decode cX10_many 4 = .ok (.ifCond .ne 6, 3) := by decide +kernel
theorem dX10_many_7 : decode cX10_many 7 = .ok (.bipush (-2), 2) := by decide +kernel
theorem dX10_many_9 : decode cX10_many 9 = .ok (.ireturn, 1) := by decide +kernel
theorem dX10_many_10 : decode cX10_many 10 = .ok (.aload_n 0, 1) := by decide +kernel
theorem dX10_many_11 : decode cX10_many 11 = .ok (.getfield 44, 3) := by decide +kernel
theorem dX10_many_14 : decode cX10_many 14 = .ok (.iload_n 1, 1) := by decide +kernel
theorem dX10_many_15 : decode cX10_many 15 = .ok (.invokevirtual 167, 3) := by decide +kernel
theorem dX10_many_18 : decode cX10_many 18 = .ok (.aload_n 0, 1) := by decide +kernel
theorem dX10_many_19 : decode cX10_many 19 = .ok (.getfield 44, 3) := by decide +kernel
theorem dX10_many_22 : decode cX10_many 22 = .ok (.invokevirtual 173, 3) := by decide +kernel
theorem dX10_many_25 : decode cX10_many 25 = .ok (.ireturn, 1) := by decide +kernel
theorem dX10_take_0 : decode cX10_take 0 = .ok (.iload_n 1, 1) := by decide +kernel
theorem dX10_take_1 : decode cX10_take 1 = .ok (.invokestatic 125, 3) := by decide +kernel
theorem dX10_take_4 : decode cX10_take 4 = .ok (.ifCond .ne 6, 3) := by decide +kernel
theorem dX10_take_7 : decode cX10_take 7 = .ok (.bipush (-2), 2) := by decide +kernel
theorem dX10_take_9 : decode cX10_take 9 = .ok (.ireturn, 1) := by decide +kernel
theorem dX10_take_10 : decode cX10_take 10 = .ok (.aload_n 0, 1) := by decide +kernel
theorem dX10_take_11 : decode cX10_take 11 = .ok (.getfield 44, 3) := by decide +kernel
theorem dX10_take_14 : decode cX10_take 14 = .ok (.iload_n 1, 1) := by decide +kernel
theorem dX10_take_15 : decode cX10_take 15 = .ok (.invokevirtual 167, 3) := by decide +kernel
theorem dX10_take_18 : decode cX10_take 18 = .ok (.aload_n 0, 1) := by decide +kernel
theorem dX10_take_19 : decode cX10_take 19 = .ok (.getfield 44, 3) := by decide +kernel
theorem dX10_take_22 : decode cX10_take 22 = .ok (.invokevirtual 170, 3) := by decide +kernel
theorem dX10_take_25 : decode cX10_take 25 = .ok (.iconst (-1), 1) := by decide +kernel
theorem dX10_take_26 : decode cX10_take 26 = .ok (.if_icmp .ne 6, 3) := by decide +kernel
theorem dX10_take_29 : decode cX10_take 29 = .ok (.bipush (-3), 2) := by decide +kernel
theorem dX10_take_31 : decode cX10_take 31 = .ok (.ireturn, 1) := by decide +kernel
theorem dX10_take_32 : decode cX10_take 32 = .ok (.aload_n 0, 1) := by decide +kernel
theorem dX10_take_33 : decode cX10_take 33 = .ok (.getfield 74, 3) := by decide +kernel
theorem dX10_take_36 : decode cX10_take 36 = .ok (.aload_n 0, 1) := by decide +kernel
theorem dX10_take_37 : decode cX10_take 37 = .ok (.getfield 44, 3) := by decide +kernel
theorem dX10_take_40 : decode cX10_take 40 = .ok (.invokevirtual 176, 3) := by decide +kernel
theorem dX10_take_43 : decode cX10_take 43 = .ok (.invokevirtual 156, 3) := by decide +kernel
theorem dX10_take_46 : decode cX10_take 46 = .ok (.aload_n 0, 1) := by decide +kernel
theorem dX10_take_47 : decode cX10_take 47 = .ok (.getfield 44, 3) := by decide +kernel
theorem dX10_take_50 : decode cX10_take 50 = .ok (.invokevirtual 170, 3) := by decide +kernel
theorem dX10_take_53 : decode cX10_take 53 = .ok (.ireturn, 1) := by decide +kernel
theorem dX10_floor_0 : decode cX10_floor 0 = .ok (.iload_n 1, 1) := by decide +kernel
theorem dX10_floor_1 : decode cX10_floor 1 = .ok (.invokestatic 125, 3) := by decide +kernel
theorem dX10_floor_4 : decode cX10_floor 4 = .ok (.ifCond .ne 6, 3) := by decide +kernel
theorem dX10_floor_7 : decode cX10_floor 7 = .ok (.bipush (-2), 2) := by decide +kernel
theorem dX10_floor_9 : decode cX10_floor 9 = .ok (.ireturn, 1) := by decide +kernel
theorem dX10_floor_10 : decode cX10_floor 10 = .ok (.aload_n 0, 1) := by decide +kernel
theorem dX10_floor_11 : decode cX10_floor 11 = .ok (.getfield 35, 3) := by decide +kernel
theorem dX10_floor_14 : decode cX10_floor 14 = .ok (.iload_n 1, 1) := by decide +kernel
theorem dX10_floor_15 : decode cX10_floor 15 = .ok (.invokevirtual 180, 3) := by decide +kernel
theorem dX10_floor_18 : decode cX10_floor 18 = .ok (.ireturn, 1) := by decide +kernel
theorem dX10_settled_0 : decode cX10_settled 0 = .ok (.iload_n 1, 1) := by decide +kernel
theorem dX10_settled_1 : decode cX10_settled 1 = .ok (.invokestatic 125, 3) := by decide +kernel
theorem dX10_settled_4 : decode cX10_settled 4 = .ok (.ifCond .ne 6, 3) := by decide +kernel
theorem dX10_settled_7 : decode cX10_settled 7 = .ok (.bipush (-2), 2) := by decide +kernel
theorem dX10_settled_9 : decode cX10_settled 9 = .ok (.ireturn, 1) := by decide +kernel
theorem dX10_settled_10 : decode cX10_settled 10 = .ok (.aload_n 0, 1) := by decide +kernel
theorem dX10_settled_11 : decode cX10_settled 11 = .ok (.getfield 28, 3) := by decide +kernel
theorem dX10_settled_14 : decode cX10_settled 14 = .ok (.iload_n 1, 1) := by decide +kernel
theorem dX10_settled_15 : decode cX10_settled 15 = .ok (.aload_n 0, 1) := by decide +kernel
theorem dX10_settled_16 : decode cX10_settled 16 = .ok (.getfield 74, 3) := by decide +kernel
theorem dX10_settled_19 : decode cX10_settled 19 = .ok (.invokevirtual 163, 3) := by decide +kernel
theorem dX10_settled_22 : decode cX10_settled 22 = .ok (.iconst (-1), 1) := by decide +kernel
theorem dX10_settled_23 : decode cX10_settled 23 = .ok (.if_icmp .eq 7, 3) := by decide +kernel
theorem dX10_settled_26 : decode cX10_settled 26 = .ok (.iconst 1, 1) := by decide +kernel
theorem dX10_settled_27 : decode cX10_settled 27 = .ok (.goto 4, 3) := by decide +kernel
theorem dX10_settled_30 : decode cX10_settled 30 = .ok (.iconst 0, 1) := by decide +kernel
theorem dX10_settled_31 : decode cX10_settled 31 = .ok (.istore_n 2, 1) := by decide +kernel
theorem dX10_settled_32 : decode cX10_settled 32 = .ok (.iload_n 2, 1) := by decide +kernel
theorem dX10_settled_33 : decode cX10_settled 33 = .ok (.ifCond .eq 22, 3) := by decide +kernel
theorem dX10_settled_36 : decode cX10_settled 36 = .ok (.aload_n 0, 1) := by decide +kernel
theorem dX10_settled_37 : decode cX10_settled 37 = .ok (.getfield 53, 3) := by decide +kernel
theorem dX10_settled_40 : decode cX10_settled 40 = .ok (.iload_n 1, 1) := by decide +kernel
theorem dX10_settled_41 : decode cX10_settled 41 = .ok (.aload_n 0, 1) := by decide +kernel
theorem dX10_settled_42 : decode cX10_settled 42 = .ok (.getfield 74, 3) := by decide +kernel
theorem dX10_settled_45 : decode cX10_settled 45 = .ok (.invokevirtual 183, 3) := by decide +kernel
theorem dX10_settled_48 : decode cX10_settled 48 = .ok (.ifCond .ne 7, 3) := by decide +kernel
theorem dX10_settled_51 : decode cX10_settled 51 = .ok (.iconst 1, 1) := by decide +kernel
theorem dX10_settled_52 : decode cX10_settled 52 = .ok (.goto 4, 3) := by decide +kernel
theorem dX10_settled_55 : decode cX10_settled 55 = .ok (.iconst 0, 1) := by decide +kernel
theorem dX10_settled_56 : decode cX10_settled 56 = .ok (.ireturn, 1) := by decide +kernel
theorem dX10_climb_0 : decode cX10_climb 0 = .ok (.iload_n 1, 1) := by decide +kernel
theorem dX10_climb_1 : decode cX10_climb 1 = .ok (.invokestatic 125, 3) := by decide +kernel
theorem dX10_climb_4 : decode cX10_climb 4 = .ok (.ifCond .ne 6, 3) := by decide +kernel
theorem dX10_climb_7 : decode cX10_climb 7 = .ok (.bipush (-2), 2) := by decide +kernel
theorem dX10_climb_9 : decode cX10_climb 9 = .ok (.ireturn, 1) := by decide +kernel
theorem dX10_climb_10 : decode cX10_climb 10 = .ok (.iconst 0, 1) := by decide +kernel
theorem dX10_climb_11 : decode cX10_climb 11 = .ok (.istore_n 2, 1) := by decide +kernel
theorem dX10_climb_12 : decode cX10_climb 12 = .ok (.iload_n 2, 1) := by decide +kernel
theorem dX10_climb_13 : decode cX10_climb 13 = .ok (.sipush 720, 3) := by decide +kernel
theorem dX10_climb_16 : decode cX10_climb 16 = .ok (.if_icmp .ge 38, 3) := by decide +kernel
theorem dX10_climb_19 : decode cX10_climb 19 = .ok (.aload_n 0, 1) := by decide +kernel
theorem dX10_climb_20 : decode cX10_climb 20 = .ok (.getfield 53, 3) := by decide +kernel
theorem dX10_climb_23 : decode cX10_climb 23 = .ok (.iload_n 1, 1) := by decide +kernel
theorem dX10_climb_24 : decode cX10_climb 24 = .ok (.aload_n 0, 1) := by decide +kernel
theorem dX10_climb_25 : decode cX10_climb 25 = .ok (.getfield 74, 3) := by decide +kernel
theorem dX10_climb_28 : decode cX10_climb 28 = .ok (.invokevirtual 183, 3) := by decide +kernel
theorem dX10_climb_31 : decode cX10_climb 31 = .ok (.ifCond .eq 23, 3) := by decide +kernel
theorem dX10_climb_34 : decode cX10_climb 34 = .ok (.aload_n 0, 1) := by decide +kernel
theorem dX10_climb_35 : decode cX10_climb 35 = .ok (.getfield 74, 3) := by decide +kernel
theorem dX10_climb_38 : decode cX10_climb 38 = .ok (.aload_n 0, 1) := by decide +kernel
theorem dX10_climb_39 : decode cX10_climb 39 = .ok (.getfield 53, 3) := by decide +kernel
theorem dX10_climb_42 : decode cX10_climb 42 = .ok (.invokevirtual 186, 3) := by decide +kernel
theorem dX10_climb_45 : decode cX10_climb 45 = .ok (.invokevirtual 156, 3) := by decide +kernel
theorem dX10_climb_48 : decode cX10_climb 48 = .ok (.iinc 2 1, 3) := by decide +kernel
theorem dX10_climb_51 : decode cX10_climb 51 = .ok (.goto (-39), 3) := by decide +kernel
theorem dX10_climb_54 : decode cX10_climb 54 = .ok (.iload_n 2, 1) := by decide +kernel
theorem dX10_climb_55 : decode cX10_climb 55 = .ok (.ireturn, 1) := by decide +kernel
theorem dX10_move_0 : decode cX10_move 0 = .ok (.aload_n 0, 1) := by decide +kernel
theorem dX10_move_1 : decode cX10_move 1 = .ok (.getfield 78, 3) := by decide +kernel
theorem dX10_move_4 : decode cX10_move 4 = .ok (.iload_n 1, 1) := by decide +kernel
theorem dX10_move_5 : decode cX10_move 5 = .ok (.aload_n 0, 1) := by decide +kernel
theorem dX10_move_6 : decode cX10_move 6 = .ok (.getfield 19, 3) := by decide +kernel
theorem dX10_move_9 : decode cX10_move 9 = .ok (.invokevirtual 116, 3) := by decide +kernel
theorem dX10_move_12 : decode cX10_move 12 = .ok (.aload_n 0, 1) := by decide +kernel
theorem dX10_move_13 : decode cX10_move 13 = .ok (.getfield 12, 3) := by decide +kernel
theorem dX10_move_16 : decode cX10_move 16 = .ok (.invokevirtual 96, 3) := by decide +kernel
theorem dX10_move_19 : decode cX10_move 19 = .ok (.invokevirtual 152, 3) := by decide +kernel
theorem dX10_move_22 : decode cX10_move 22 = .ok (.ifCond .ne 6, 3) := by decide +kernel
theorem dX10_move_25 : decode cX10_move 25 = .ok (.bipush (-2), 2) := by decide +kernel
theorem dX10_move_27 : decode cX10_move 27 = .ok (.ireturn, 1) := by decide +kernel
theorem dX10_move_28 : decode cX10_move 28 = .ok (.aload_n 0, 1) := by decide +kernel
theorem dX10_move_29 : decode cX10_move 29 = .ok (.getfield 60, 3) := by decide +kernel
theorem dX10_move_32 : decode cX10_move 32 = .ok (.aload_n 0, 1) := by decide +kernel
theorem dX10_move_33 : decode cX10_move 33 = .ok (.getfield 74, 3) := by decide +kernel
theorem dX10_move_36 : decode cX10_move 36 = .ok (.aload_n 0, 1) := by decide +kernel
theorem dX10_move_37 : decode cX10_move 37 = .ok (.getfield 78, 3) := by decide +kernel
theorem dX10_move_40 : decode cX10_move 40 = .ok (.invokevirtual 189, 3) := by decide +kernel
theorem dX10_move_43 : decode cX10_move 43 = .ok (.ireturn, 1) := by decide +kernel
theorem dX10_step_0 : decode cX10_step 0 = .ok (.iload_n 2, 1) := by decide +kernel
theorem dX10_step_1 : decode cX10_step 1 = .ok (.ifCond .lt 28, 3) := by decide +kernel
theorem dX10_step_4 : decode cX10_step 4 = .ok (.aload_n 0, 1) := by decide +kernel
theorem dX10_step_5 : decode cX10_step 5 = .ok (.getfield 78, 3) := by decide +kernel
theorem dX10_step_8 : decode cX10_step 8 = .ok (.iload_n 1, 1) := by decide +kernel
theorem dX10_step_9 : decode cX10_step 9 = .ok (.aload_n 0, 1) := by decide +kernel
theorem dX10_step_10 : decode cX10_step 10 = .ok (.getfield 19, 3) := by decide +kernel
theorem dX10_step_13 : decode cX10_step 13 = .ok (.invokevirtual 116, 3) := by decide +kernel
theorem dX10_step_16 : decode cX10_step 16 = .ok (.aload_n 0, 1) := by decide +kernel
theorem dX10_step_17 : decode cX10_step 17 = .ok (.getfield 12, 3) := by decide +kernel
theorem dX10_step_20 : decode cX10_step 20 = .ok (.invokevirtual 96, 3) := by decide +kernel
theorem dX10_step_23 : decode cX10_step 23 = .ok (.invokevirtual 152, 3) := by decide +kernel
theorem dX10_step_26 : decode cX10_step 26 = .ok (.ifCond .ne 6, 3) := by decide +kernel
theorem dX10_step_29 : decode cX10_step 29 = .ok (.bipush (-2), 2) := by decide +kernel
theorem dX10_step_31 : decode cX10_step 31 = .ok (.ireturn, 1) := by decide +kernel
theorem dX10_step_32 : decode cX10_step 32 = .ok (.aload_n 0, 1) := by decide +kernel
theorem dX10_step_33 : decode cX10_step 33 = .ok (.getfield 60, 3) := by decide +kernel
theorem dX10_step_36 : decode cX10_step 36 = .ok (.aload_n 0, 1) := by decide +kernel
theorem dX10_step_37 : decode cX10_step 37 = .ok (.getfield 74, 3) := by decide +kernel
theorem dX10_step_40 : decode cX10_step 40 = .ok (.aload_n 0, 1) := by decide +kernel
theorem dX10_step_41 : decode cX10_step 41 = .ok (.getfield 78, 3) := by decide +kernel
theorem dX10_step_44 : decode cX10_step 44 = .ok (.iload_n 2, 1) := by decide +kernel
theorem dX10_step_45 : decode cX10_step 45 = .ok (.invokevirtual 192, 3) := by decide +kernel
theorem dX10_step_48 : decode cX10_step 48 = .ok (.ireturn, 1) := by decide +kernel
theorem dX10_plan_0 : decode cX10_plan 0 = .ok (.iload_n 1, 1) := by decide +kernel
theorem dX10_plan_1 : decode cX10_plan 1 = .ok (.iconst 1, 1) := by decide +kernel
theorem dX10_plan_2 : decode cX10_plan 2 = .ok (.if_icmp .lt 8, 3) := by decide +kernel
theorem dX10_plan_5 : decode cX10_plan 5 = .ok (.iload_n 1, 1) := by decide +kernel
theorem dX10_plan_6 : decode cX10_plan 6 = .ok (.iconst 4, 1) := by decide +kernel
theorem dX10_plan_7 : decode cX10_plan 7 = .ok (.if_icmp .le 6, 3) := by decide +kernel
theorem dX10_plan_10 : decode cX10_plan 10 = .ok (.bipush (-2), 2) := by decide +kernel
theorem dX10_plan_12 : decode cX10_plan 12 = .ok (.ireturn, 1) := by decide +kernel
theorem dX10_plan_13 : decode cX10_plan 13 = .ok (.aload_n 0, 1) := by decide +kernel
theorem dX10_plan_14 : decode cX10_plan 14 = .ok (.getfield 67, 3) := by decide +kernel
theorem dX10_plan_17 : decode cX10_plan 17 = .ok (.iload_n 1, 1) := by decide +kernel
theorem dX10_plan_18 : decode cX10_plan 18 = .ok (.invokevirtual 196, 3) := by decide +kernel
theorem dX10_plan_21 : decode cX10_plan 21 = .ok (.aload_n 0, 1) := by decide +kernel
theorem dX10_plan_22 : decode cX10_plan 22 = .ok (.getfield 67, 3) := by decide +kernel
theorem dX10_plan_25 : decode cX10_plan 25 = .ok (.invokevirtual 199, 3) := by decide +kernel
theorem dX10_plan_28 : decode cX10_plan 28 = .ok (.ireturn, 1) := by decide +kernel
theorem dX10_planned_0 : decode cX10_planned 0 = .ok (.iload_n 1, 1) := by decide +kernel
theorem dX10_planned_1 : decode cX10_planned 1 = .ok (.iconst 1, 1) := by decide +kernel
theorem dX10_planned_2 : decode cX10_planned 2 = .ok (.if_icmp .lt 17, 3) := by decide +kernel
theorem dX10_planned_5 : decode cX10_planned 5 = .ok (.iload_n 1, 1) := by decide +kernel
theorem dX10_planned_6 : decode cX10_planned 6 = .ok (.iconst 4, 1) := by decide +kernel
theorem dX10_planned_7 : decode cX10_planned 7 = .ok (.if_icmp .gt 12, 3) := by decide +kernel
theorem dX10_planned_10 : decode cX10_planned 10 = .ok (.iload_n 2, 1) := by decide +kernel
theorem dX10_planned_11 : decode cX10_planned 11 = .ok (.ifCond .lt 8, 3) := by decide +kernel
theorem dX10_planned_14 : decode cX10_planned 14 = .ok (.iload_n 2, 1) := by decide +kernel
theorem dX10_planned_15 : decode cX10_planned 15 = .ok (.iload_n 1, 1) := by decide +kernel
theorem dX10_planned_16 : decode cX10_planned 16 = .ok (.if_icmp .lt 6, 3) := by decide +kernel
theorem dX10_planned_19 : decode cX10_planned 19 = .ok (.bipush (-2), 2) := by decide +kernel
theorem dX10_planned_21 : decode cX10_planned 21 = .ok (.ireturn, 1) := by decide +kernel
theorem dX10_planned_22 : decode cX10_planned 22 = .ok (.aload_n 0, 1) := by decide +kernel
theorem dX10_planned_23 : decode cX10_planned 23 = .ok (.getfield 67, 3) := by decide +kernel
theorem dX10_planned_26 : decode cX10_planned 26 = .ok (.iload_n 1, 1) := by decide +kernel
theorem dX10_planned_27 : decode cX10_planned 27 = .ok (.invokevirtual 196, 3) := by decide +kernel
theorem dX10_planned_30 : decode cX10_planned 30 = .ok (.aload_n 0, 1) := by decide +kernel
theorem dX10_planned_31 : decode cX10_planned 31 = .ok (.getfield 67, 3) := by decide +kernel
theorem dX10_planned_34 : decode cX10_planned 34 = .ok (.iload_n 2, 1) := by decide +kernel
theorem dX10_planned_35 : decode cX10_planned 35 = .ok (.invokevirtual 202, 3) := by decide +kernel
theorem dX10_planned_38 : decode cX10_planned 38 = .ok (.ireturn, 1) := by decide +kernel
theorem dX10_count_0 : decode cX10_count 0 = .ok (.iload_n 1, 1) := by decide +kernel
theorem dX10_count_1 : decode cX10_count 1 = .ok (.tableswitch 77 0 4 #[35, 43, 51, 59, 68], 35) := by decide +kernel
theorem dX10_count_36 : decode cX10_count 36 = .ok (.aload_n 0, 1) := by decide +kernel
theorem dX10_count_37 : decode cX10_count 37 = .ok (.getfield 12, 3) := by decide +kernel
theorem dX10_count_40 : decode cX10_count 40 = .ok (.invokevirtual 96, 3) := by decide +kernel
theorem dX10_count_43 : decode cX10_count 43 = .ok (.ireturn, 1) := by decide +kernel
theorem dX10_count_44 : decode cX10_count 44 = .ok (.aload_n 0, 1) := by decide +kernel
theorem dX10_count_45 : decode cX10_count 45 = .ok (.getfield 19, 3) := by decide +kernel
theorem dX10_count_48 : decode cX10_count 48 = .ok (.invokevirtual 116, 3) := by decide +kernel
theorem dX10_count_51 : decode cX10_count 51 = .ok (.ireturn, 1) := by decide +kernel
theorem dX10_count_52 : decode cX10_count 52 = .ok (.aload_n 0, 1) := by decide +kernel
theorem dX10_count_53 : decode cX10_count 53 = .ok (.getfield 19, 3) := by decide +kernel
theorem dX10_count_56 : decode cX10_count 56 = .ok (.invokevirtual 142, 3) := by decide +kernel
theorem dX10_count_59 : decode cX10_count 59 = .ok (.ireturn, 1) := by decide +kernel
theorem dX10_count_60 : decode cX10_count 60 = .ok (.aload_n 0, 1) := by decide +kernel
theorem dX10_count_61 : decode cX10_count 61 = .ok (.getfield 12, 3) := by decide +kernel
theorem dX10_count_64 : decode cX10_count 64 = .ok (.iconst 1, 1) := by decide +kernel
theorem dX10_count_65 : decode cX10_count 65 = .ok (.invokevirtual 205, 3) := by decide +kernel
theorem dX10_count_68 : decode cX10_count 68 = .ok (.ireturn, 1) := by decide +kernel
theorem dX10_count_69 : decode cX10_count 69 = .ok (.aload_n 0, 1) := by decide +kernel
theorem dX10_count_70 : decode cX10_count 70 = .ok (.getfield 12, 3) := by decide +kernel
theorem dX10_count_73 : decode cX10_count 73 = .ok (.iconst 3, 1) := by decide +kernel
theorem dX10_count_74 : decode cX10_count 74 = .ok (.invokevirtual 205, 3) := by decide +kernel
theorem dX10_count_77 : decode cX10_count 77 = .ok (.ireturn, 1) := by decide +kernel
theorem dX10_count_78 : decode cX10_count 78 = .ok (.bipush (-2), 2) := by decide +kernel
theorem dX10_count_80 : decode cX10_count 80 = .ok (.ireturn, 1) := by decide +kernel
theorem dX10_cellAt_0 : decode cX10_cellAt 0 = .ok (.iload_n 0, 1) := by decide +kernel
theorem dX10_cellAt_1 : decode cX10_cellAt 1 = .ok (.ifCond .lt 19, 3) := by decide +kernel
theorem dX10_cellAt_4 : decode cX10_cellAt 4 = .ok (.iload_n 0, 1) := by decide +kernel
theorem dX10_cellAt_5 : decode cX10_cellAt 5 = .ok (.bipush 6, 2) := by decide +kernel
theorem dX10_cellAt_7 : decode cX10_cellAt 7 = .ok (.if_icmp .ge 13, 3) := by decide +kernel
theorem dX10_cellAt_10 : decode cX10_cellAt 10 = .ok (.iload_n 1, 1) := by decide +kernel
theorem dX10_cellAt_11 : decode cX10_cellAt 11 = .ok (.ifCond .lt 9, 3) := by decide +kernel
theorem dX10_cellAt_14 : decode cX10_cellAt 14 = .ok (.iload_n 1, 1) := by decide +kernel
theorem dX10_cellAt_15 : decode cX10_cellAt 15 = .ok (.bipush 6, 2) := by decide +kernel
theorem dX10_cellAt_17 : decode cX10_cellAt 17 = .ok (.if_icmp .lt 7, 3) := by decide +kernel
theorem dX10_cellAt_20 : decode cX10_cellAt 20 = .ok (.iconst (-1), 1) := by decide +kernel
theorem dX10_cellAt_21 : decode cX10_cellAt 21 = .ok (.goto 9, 3) := by decide +kernel
theorem dX10_cellAt_24 : decode cX10_cellAt 24 = .ok (.iload_n 1, 1) := by decide +kernel
theorem dX10_cellAt_25 : decode cX10_cellAt 25 = .ok (.bipush 6, 2) := by decide +kernel
theorem dX10_cellAt_27 : decode cX10_cellAt 27 = .ok (.imul, 1) := by decide +kernel
theorem dX10_cellAt_28 : decode cX10_cellAt 28 = .ok (.iload_n 0, 1) := by decide +kernel
theorem dX10_cellAt_29 : decode cX10_cellAt 29 = .ok (.iadd, 1) := by decide +kernel
theorem dX10_cellAt_30 : decode cX10_cellAt 30 = .ok (.ireturn, 1) := by decide +kernel
theorem dX10_isYear_0 : decode cX10_isYear 0 = .ok (.iload_n 0, 1) := by decide +kernel
theorem dX10_isYear_1 : decode cX10_isYear 1 = .ok (.ifCond .lt 12, 3) := by decide +kernel
theorem dX10_isYear_4 : decode cX10_isYear 4 = .ok (.iload_n 0, 1) := by decide +kernel
theorem dX10_isYear_5 : decode cX10_isYear 5 = .ok (.iconst 4, 1) := by decide +kernel
theorem dX10_isYear_6 : decode cX10_isYear 6 = .ok (.if_icmp .ge 7, 3) := by decide +kernel
theorem dX10_isYear_9 : decode cX10_isYear 9 = .ok (.iconst 1, 1) := by decide +kernel
theorem dX10_isYear_10 : decode cX10_isYear 10 = .ok (.goto 4, 3) := by decide +kernel
theorem dX10_isYear_13 : decode cX10_isYear 13 = .ok (.iconst 0, 1) := by decide +kernel
theorem dX10_isYear_14 : decode cX10_isYear 14 = .ok (.ireturn, 1) := by decide +kernel
