theorem dX0_init_0 : decode cX0_init 0 = .ok (.aload_n 0, 1) := by decide +kernel
theorem dX0_init_1 : decode cX0_init 1 = .ok (.invokespecial 3, 3) := by decide +kernel
theorem dX0_init_4 : decode cX0_init 4 = .ok (.aload_n 0, 1) := by decide +kernel
theorem dX0_init_5 : decode cX0_init 5 = .ok (.iconst 3, 1) := by decide +kernel
theorem dX0_init_6 : decode cX0_init 6 = .ok (.anewarray 9, 3) := by decide +kernel
theorem dX0_init_9 : decode cX0_init 9 = .ok (.putfield 11, 3) := by decide +kernel
theorem dX0_init_12 : decode cX0_init 12 = .ok (.aload_n 0, 1) := by decide +kernel
theorem dX0_init_13 : decode cX0_init 13 = .ok (.new 17, 3) := by decide +kernel
theorem dX0_init_16 : decode cX0_init 16 = .ok (.dup, 1) := by decide +kernel
theorem dX0_init_17 : decode cX0_init 17 = .ok (.invokespecial 19, 3) := by decide +kernel
theorem dX0_init_20 : decode cX0_init 20 = .ok (.putfield 20, 3) := by decide +kernel
theorem dX0_init_23 : decode cX0_init 23 = .ok (.aload_n 0, 1) := by decide +kernel
theorem dX0_init_24 : decode cX0_init 24 = .ok (.new 17, 3) := by decide +kernel
theorem dX0_init_27 : decode cX0_init 27 = .ok (.dup, 1) := by decide +kernel
theorem dX0_init_28 : decode cX0_init 28 = .ok (.invokespecial 19, 3) := by decide +kernel
theorem dX0_init_31 : decode cX0_init 31 = .ok (.putfield 24, 3) := by decide +kernel
theorem dX0_init_34 : decode cX0_init 34 = .ok (.aload_n 0, 1) := by decide +kernel
theorem dX0_init_35 : decode cX0_init 35 = .ok (.iconst 0, 1) := by decide +kernel
theorem dX0_init_36 : decode cX0_init 36 = .ok (.putfield 27, 3) := by decide +kernel
theorem dX0_init_39 : decode cX0_init 39 = .ok (.aload_n 0, 1) := by decide +kernel
theorem dX0_init_40 : decode cX0_init 40 = .ok (.iload_n 1, 1) := by decide +kernel
theorem dX0_init_41 : decode cX0_init 41 = .ok (.putfield 31, 3) := by decide +kernel
theorem dX0_init_44 : decode cX0_init 44 = .ok (.aload_n 0, 1) := by decide +kernel
theorem dX0_init_45 : decode cX0_init 45 = .ok (.iload_n 1, 1) := by decide +kernel
theorem dX0_init_46 : decode cX0_init 46 = .ok (.invokestatic 35, 3) := by decide +kernel
theorem dX0_init_49 : decode cX0_init 49 = .ok (.putfield 41, 3) := by decide +kernel
theorem dX0_init_52 : decode cX0_init 52 = .ok (.aload_n 0, 1) := by decide +kernel
theorem dX0_init_53 : decode cX0_init 53 = .ok (.bipush 10, 2) := by decide +kernel
theorem dX0_init_55 : decode cX0_init 55 = .ok (.bipush 10, 2) := by decide +kernel
theorem dX0_init_57 : decode cX0_init 57 = .ok (.iload_n 1, 1) := by decide +kernel
theorem dX0_init_58 : decode cX0_init 58 = .ok (.imul, 1) := by decide +kernel
theorem dX0_init_59 : decode cX0_init 59 = .ok (.iadd, 1) := by decide +kernel
theorem dX0_init_60 : decode cX0_init 60 = .ok (.putfield 44, 3) := by decide +kernel
theorem dX0_init_63 : decode cX0_init 63 = .ok (.iconst 0, 1) := by decide +kernel
theorem dX0_init_64 : decode cX0_init 64 = .ok (.istore_n 2, 1) := by decide +kernel
theorem dX0_init_65 : decode cX0_init 65 = .ok (.iload_n 2, 1) := by decide +kernel
theorem dX0_init_66 : decode cX0_init 66 = .ok (.aload_n 0, 1) := by decide +kernel
theorem dX0_init_67 : decode cX0_init 67 = .ok (.getfield 11, 3) := by decide +kernel
theorem dX0_init_70 : decode cX0_init 70 = .ok (.arraylength, 1) := by decide +kernel
theorem dX0_init_71 : decode cX0_init 71 = .ok (.if_icmp .ge 27, 3) := by decide +kernel
theorem dX0_init_74 : decode cX0_init 74 = .ok (.aload_n 0, 1) := by decide +kernel
theorem dX0_init_75 : decode cX0_init 75 = .ok (.getfield 11, 3) := by decide +kernel
theorem dX0_init_78 : decode cX0_init 78 = .ok (.iload_n 2, 1) := by decide +kernel
theorem dX0_init_79 : decode cX0_init 79 = .ok (.new 9, 3) := by decide +kernel
theorem dX0_init_82 : decode cX0_init 82 = .ok (.dup, 1) := by decide +kernel
theorem dX0_init_83 : decode cX0_init 83 = .ok (.iload_n 2, 1) := by decide +kernel
theorem dX0_init_84 : decode cX0_init 84 = .ok (.aload_n 0, 1) := by decide +kernel
theorem dX0_init_85 : decode cX0_init 85 = .ok (.getfield 41, 3) := by decide +kernel
theorem dX0_init_88 : decode cX0_init 88 = .ok (.invokespecial 47, 3) := by decide +kernel
theorem dX0_init_91 : decode cX0_init 91 = .ok (.aastore, 1) := by decide +kernel
theorem dX0_init_92 : decode cX0_init 92 = .ok (.iinc 2 1, 3) := by decide +kernel
theorem dX0_init_95 : decode cX0_init 95 = .ok (.goto (-30), 3) := by decide +kernel
theorem dX0_init_98 : decode cX0_init 98 = .ok (.return_, 1) := by decide +kernel
theorem dX0_linkTo_0 : decode cX0_linkTo 0 = .ok (.iload_n 1, 1) := by decide +kernel
theorem dX0_linkTo_1 : decode cX0_linkTo 1 = .ok (.ifCond .lt 21, 3) := by decide +kernel
theorem dX0_linkTo_4 : decode cX0_linkTo 4 = .ok (.iload_n 1, 1) := by decide +kernel
theorem dX0_linkTo_5 : decode cX0_linkTo 5 = .ok (.aload_n 0, 1) := by decide +kernel
theorem dX0_linkTo_6 : decode cX0_linkTo 6 = .ok (.getfield 11, 3) := by decide +kernel
theorem dX0_linkTo_9 : decode cX0_linkTo 9 = .ok (.arraylength, 1) := by decide +kernel
theorem dX0_linkTo_10 : decode cX0_linkTo 10 = .ok (.if_icmp .ge 12, 3) := by decide +kernel
theorem dX0_linkTo_13 : decode cX0_linkTo 13 = .ok (.aload_n 0, 1) := by decide +kernel
theorem dX0_linkTo_14 : decode cX0_linkTo 14 = .ok (.getfield 11, 3) := by decide +kernel
theorem dX0_linkTo_17 : decode cX0_linkTo 17 = .ok (.iload_n 1, 1) := by decide +kernel
theorem dX0_linkTo_18 : decode cX0_linkTo 18 = .ok (.aaload, 1) := by decide +kernel
theorem dX0_linkTo_19 : decode cX0_linkTo 19 = .ok (.goto 4, 3) := by decide +kernel
theorem dX0_linkTo_22 : decode cX0_linkTo 22 = .ok (.aconst_null, 1) := by decide +kernel
theorem dX0_linkTo_23 : decode cX0_linkTo 23 = .ok (.areturn, 1) := by decide +kernel
theorem dX0_linkWithFlight_0 : decode cX0_linkWithFlight 0 = .ok (.aload_n 0, 1) := by decide +kernel
theorem dX0_linkWithFlight_1 : decode cX0_linkWithFlight 1 = .ok (.getfield 11, 3) := by decide +kernel
theorem dX0_linkWithFlight_4 : decode cX0_linkWithFlight 4 = .ok (.astore_n 2, 1) := by decide +kernel
theorem dX0_linkWithFlight_5 : decode cX0_linkWithFlight 5 = .ok (.aload_n 2, 1) := by decide +kernel
theorem dX0_linkWithFlight_6 : decode cX0_linkWithFlight 6 = .ok (.arraylength, 1) := by decide +kernel
theorem dX0_linkWithFlight_7 : decode cX0_linkWithFlight 7 = .ok (.istore_n 3, 1) := by decide +kernel
theorem dX0_linkWithFlight_8 : decode cX0_linkWithFlight 8 = .ok (.iconst 0, 1) := by decide +kernel
theorem dX0_linkWithFlight_9 : decode cX0_linkWithFlight 9 = .ok (.istore 4, 2) := by decide +kernel
theorem dX0_linkWithFlight_11 : decode cX0_linkWithFlight 11 = .ok (.iload 4, 2) := by decide +kernel
theorem dX0_linkWithFlight_13 : decode cX0_linkWithFlight 13 = .ok (.iload_n 3, 1) := by decide +kernel
theorem dX0_linkWithFlight_14 : decode cX0_linkWithFlight 14 = .ok (.if_icmp .ge 38, 3) := by decide +kernel
theorem dX0_linkWithFlight_17 : decode cX0_linkWithFlight 17 = .ok (.aload_n 2, 1) := by decide +kernel
theorem dX0_linkWithFlight_18 : decode cX0_linkWithFlight 18 = .ok (.iload 4, 2) := by decide +kernel
theorem dX0_linkWithFlight_20 : decode cX0_linkWithFlight 20 = .ok (.aaload, 1) := by decide +kernel
theorem dX0_linkWithFlight_21 : decode cX0_linkWithFlight 21 = .ok (.astore 5, 2) := by decide +kernel
theorem dX0_linkWithFlight_23 : decode cX0_linkWithFlight 23 = .ok (.aload 5, 2) := by decide +kernel
theorem dX0_linkWithFlight_25 : decode cX0_linkWithFlight 25 = .ok (.getfield 50, 3) := by decide +kernel
theorem dX0_linkWithFlight_28 : decode cX0_linkWithFlight 28 = .ok (.ifnull 18, 3) := by decide +kernel
theorem dX0_linkWithFlight_31 : decode cX0_linkWithFlight 31 = .ok (.aload 5, 2) := by decide +kernel
theorem dX0_linkWithFlight_33 : decode cX0_linkWithFlight 33 = .ok (.getfield 50, 3) := by decide +kernel
theorem dX0_linkWithFlight_36 : decode cX0_linkWithFlight 36 = .ok (.getfield 54, 3) := by decide +kernel
theorem dX0_linkWithFlight_39 : decode cX0_linkWithFlight 39 = .ok (.iload_n 1, 1) := by decide +kernel
theorem dX0_linkWithFlight_40 : decode cX0_linkWithFlight 40 = .ok (.if_icmp .ne 6, 3) := by decide +kernel
theorem dX0_linkWithFlight_43 : decode cX0_linkWithFlight 43 = .ok (.aload 5, 2) := by decide +kernel
theorem dX0_linkWithFlight_45 : decode cX0_linkWithFlight 45 = .ok (.areturn, 1) := by decide +kernel
theorem dX0_linkWithFlight_46 : decode cX0_linkWithFlight 46 = .ok (.iinc 4 1, 3) := by decide +kernel
theorem dX0_linkWithFlight_49 : decode cX0_linkWithFlight 49 = .ok (.goto (-38), 3) := by decide +kernel
theorem dX0_linkWithFlight_52 : decode cX0_linkWithFlight 52 = .ok (.aconst_null, 1) := by decide +kernel
theorem dX0_linkWithFlight_53 : decode cX0_linkWithFlight 53 = .ok (.areturn, 1) := by decide +kernel
theorem dX0_linkWithSession_0 : decode cX0_linkWithSession 0 = .ok (.aload_n 0, 1) := by decide +kernel
theorem dX0_linkWithSession_1 : decode cX0_linkWithSession 1 = .ok (.getfield 11, 3) := by decide +kernel
theorem dX0_linkWithSession_4 : decode cX0_linkWithSession 4 = .ok (.astore_n 2, 1) := by decide +kernel
theorem dX0_linkWithSession_5 : decode cX0_linkWithSession 5 = .ok (.aload_n 2, 1) := by decide +kernel
theorem dX0_linkWithSession_6 : decode cX0_linkWithSession 6 = .ok (.arraylength, 1) := by decide +kernel
theorem dX0_linkWithSession_7 : decode cX0_linkWithSession 7 = .ok (.istore_n 3, 1) := by decide +kernel
theorem dX0_linkWithSession_8 : decode cX0_linkWithSession 8 = .ok (.iconst 0, 1) := by decide +kernel
theorem dX0_linkWithSession_9 : decode cX0_linkWithSession 9 = .ok (.istore 4, 2) := by decide +kernel
theorem dX0_linkWithSession_11 : decode cX0_linkWithSession 11 = .ok (.iload 4, 2) := by decide +kernel
theorem dX0_linkWithSession_13 : decode cX0_linkWithSession 13 = .ok (.iload_n 3, 1) := by decide +kernel
theorem dX0_linkWithSession_14 : decode cX0_linkWithSession 14 = .ok (.if_icmp .ge 27, 3) := by decide +kernel
theorem dX0_linkWithSession_17 : decode cX0_linkWithSession 17 = .ok (.aload_n 2, 1) := by decide +kernel
theorem dX0_linkWithSession_18 : decode cX0_linkWithSession 18 = .ok (.iload 4, 2) := by decide +kernel
theorem dX0_linkWithSession_20 : decode cX0_linkWithSession 20 = .ok (.aaload, 1) := by decide +kernel
theorem dX0_linkWithSession_21 : decode cX0_linkWithSession 21 = .ok (.astore 5, 2) := by decide +kernel
theorem dX0_linkWithSession_23 : decode cX0_linkWithSession 23 = .ok (.aload 5, 2) := by decide +kernel
theorem dX0_linkWithSession_25 : decode cX0_linkWithSession 25 = .ok (.iload_n 1, 1) := by decide +kernel
theorem dX0_linkWithSession_26 : decode cX0_linkWithSession 26 = .ok (.invokevirtual 59, 3) := by decide +kernel
theorem dX0_linkWithSession_29 : decode cX0_linkWithSession 29 = .ok (.ifnull 6, 3) := by decide +kernel
theorem dX0_linkWithSession_32 : decode cX0_linkWithSession 32 = .ok (.aload 5, 2) := by decide +kernel
theorem dX0_linkWithSession_34 : decode cX0_linkWithSession 34 = .ok (.areturn, 1) := by decide +kernel
theorem dX0_linkWithSession_35 : decode cX0_linkWithSession 35 = .ok (.iinc 4 1, 3) := by decide +kernel
theorem dX0_linkWithSession_38 : decode cX0_linkWithSession 38 = .ok (.goto (-27), 3) := by decide +kernel
theorem dX0_linkWithSession_41 : decode cX0_linkWithSession 41 = .ok (.aconst_null, 1) := by decide +kernel
theorem dX0_linkWithSession_42 : decode cX0_linkWithSession 42 = .ok (.areturn, 1) := by decide +kernel
theorem dX0_placeOfRoute_0 : decode cX0_placeOfRoute 0 = .ok (.iconst 0, 1) := by decide +kernel
theorem dX0_placeOfRoute_1 : decode cX0_placeOfRoute 1 = .ok (.istore_n 3, 1) := by decide +kernel
theorem dX0_placeOfRoute_2 : decode cX0_placeOfRoute 2 = .ok (.iload_n 3, 1) := by decide +kernel
theorem dX0_placeOfRoute_3 : decode cX0_placeOfRoute 3 = .ok (.aload_n 0, 1) := by decide +kernel
theorem dX0_placeOfRoute_4 : decode cX0_placeOfRoute 4 = .ok (.getfield 20, 3) := by decide +kernel
theorem dX0_placeOfRoute_7 : decode cX0_placeOfRoute 7 = .ok (.invokevirtual 63, 3) := by decide +kernel
theorem dX0_placeOfRoute_10 : decode cX0_placeOfRoute 10 = .ok (.if_icmp .ge 42, 3) := by decide +kernel
theorem dX0_placeOfRoute_13 : decode cX0_placeOfRoute 13 = .ok (.aload_n 0, 1) := by decide +kernel
theorem dX0_placeOfRoute_14 : decode cX0_placeOfRoute 14 = .ok (.getfield 20, 3) := by decide +kernel
theorem dX0_placeOfRoute_17 : decode cX0_placeOfRoute 17 = .ok (.iload_n 3, 1) := by decide +kernel
theorem dX0_placeOfRoute_18 : decode cX0_placeOfRoute 18 = .ok (.invokevirtual 67, 3) := by decide +kernel
theorem dX0_placeOfRoute_21 : decode cX0_placeOfRoute 21 = .ok (.checkcast 71, 3) := by decide +kernel
theorem dX0_placeOfRoute_24 : decode cX0_placeOfRoute 24 = .ok (.astore 4, 2) := by decide +kernel
theorem dX0_placeOfRoute_26 : decode cX0_placeOfRoute 26 = .ok (.aload 4, 2) := by decide +kernel
theorem dX0_placeOfRoute_28 : decode cX0_placeOfRoute 28 = .ok (.getfield 73, 3) := by decide +kernel
theorem dX0_placeOfRoute_31 : decode cX0_placeOfRoute 31 = .ok (.iload_n 1, 1) := by decide +kernel
theorem dX0_placeOfRoute_32 : decode cX0_placeOfRoute 32 = .ok (.if_icmp .ne 14, 3) := by decide +kernel
theorem dX0_placeOfRoute_35 : decode cX0_placeOfRoute 35 = .ok (.aload 4, 2) := by decide +kernel
theorem dX0_placeOfRoute_37 : decode cX0_placeOfRoute 37 = .ok (.getfield 76, 3) := by decide +kernel
theorem dX0_placeOfRoute_40 : decode cX0_placeOfRoute 40 = .ok (.iload_n 2, 1) := by decide +kernel
theorem dX0_placeOfRoute_41 : decode cX0_placeOfRoute 41 = .ok (.if_icmp .ne 5, 3) := by decide +kernel
theorem dX0_placeOfRoute_44 : decode cX0_placeOfRoute 44 = .ok (.iload_n 3, 1) := by decide +kernel
theorem dX0_placeOfRoute_45 : decode cX0_placeOfRoute 45 = .ok (.ireturn, 1) := by decide +kernel
theorem dX0_placeOfRoute_46 : decode cX0_placeOfRoute 46 = .ok (.iinc 3 1, 3) := by decide +kernel
theorem dX0_placeOfRoute_49 : decode cX0_placeOfRoute 49 = .ok (.goto (-47), 3) := by decide +kernel
theorem dX0_placeOfRoute_52 : decode cX0_placeOfRoute 52 = .ok (.iconst (-1), 1) := by decide +kernel
theorem dX0_placeOfRoute_53 : decode cX0_placeOfRoute 53 = .ok (.ireturn, 1) := by decide +kernel
theorem dX0_peerFor_0 : decode cX0_peerFor 0 = .ok (.iconst (-1), 1) := by decide +kernel
theorem dX0_peerFor_1 : decode cX0_peerFor 1 = .ok (.istore_n 2, 1) := by decide +kernel
theorem dX0_peerFor_2 : decode cX0_peerFor 2 = .ok (.iconst (-1), 1) := by decide +kernel
theorem dX0_peerFor_3 : decode cX0_peerFor 3 = .ok (.istore_n 3, 1) := by decide +kernel
theorem dX0_peerFor_4 : decode cX0_peerFor 4 = .ok (.iconst 0, 1) := by decide +kernel
theorem dX0_peerFor_5 : decode cX0_peerFor 5 = .ok (.istore 4, 2) := by decide +kernel
theorem dX0_peerFor_7 : decode cX0_peerFor 7 = .ok (.iload 4, 2) := by decide +kernel
theorem dX0_peerFor_9 : decode cX0_peerFor 9 = .ok (.aload_n 0, 1) := by decide +kernel
theorem dX0_peerFor_10 : decode cX0_peerFor 10 = .ok (.getfield 20, 3) := by decide +kernel
theorem dX0_peerFor_13 : decode cX0_peerFor 13 = .ok (.invokevirtual 63, 3) := by decide +kernel
theorem dX0_peerFor_16 : decode cX0_peerFor 16 = .ok (.if_icmp .ge 61, 3) := by decide +kernel
theorem dX0_peerFor_19 : decode cX0_peerFor 19 = .ok (.aload_n 0, 1) := by decide +kernel
theorem dX0_peerFor_20 : decode cX0_peerFor 20 = .ok (.getfield 20, 3) := by decide +kernel
theorem dX0_peerFor_23 : decode cX0_peerFor 23 = .ok (.iload 4, 2) := by decide +kernel
theorem dX0_peerFor_25 : decode cX0_peerFor 25 = .ok (.invokevirtual 67, 3) := by decide +kernel
theorem dX0_peerFor_28 : decode cX0_peerFor 28 = .ok (.checkcast 71, 3) := by decide +kernel
theorem dX0_peerFor_31 : decode cX0_peerFor 31 = .ok (.astore 5, 2) := by decide +kernel
theorem dX0_peerFor_33 : decode cX0_peerFor 33 = .ok (.aload 5, 2) := by decide +kernel
theorem dX0_peerFor_35 : decode cX0_peerFor 35 = .ok (.getfield 76, 3) := by decide +kernel
theorem dX0_peerFor_38 : decode cX0_peerFor 38 = .ok (.iload_n 3, 1) := by decide +kernel
theorem dX0_peerFor_39 : decode cX0_peerFor 39 = .ok (.if_icmp .le 32, 3) := by decide +kernel
theorem dX0_peerFor_42 : decode cX0_peerFor 42 = .ok (.iload_n 1, 1) := by decide +kernel
theorem dX0_peerFor_43 : decode cX0_peerFor 43 = .ok (.aload 5, 2) := by decide +kernel
theorem dX0_peerFor_45 : decode cX0_peerFor 45 = .ok (.getfield 76, 3) := by decide +kernel
theorem dX0_peerFor_48 : decode cX0_peerFor 48 = .ok (.invokestatic 79, 3) := by decide +kernel
theorem dX0_peerFor_51 : decode cX0_peerFor 51 = .ok (.aload 5, 2) := by decide +kernel
theorem dX0_peerFor_53 : decode cX0_peerFor 53 = .ok (.getfield 73, 3) := by decide +kernel
theorem dX0_peerFor_56 : decode cX0_peerFor 56 = .ok (.if_icmp .ne 15, 3) := by decide +kernel
theorem dX0_peerFor_59 : decode cX0_peerFor 59 = .ok (.aload 5, 2) := by decide +kernel
theorem dX0_peerFor_61 : decode cX0_peerFor 61 = .ok (.getfield 83, 3) := by decide +kernel
theorem dX0_peerFor_64 : decode cX0_peerFor 64 = .ok (.istore_n 2, 1) := by decide +kernel
theorem dX0_peerFor_65 : decode cX0_peerFor 65 = .ok (.aload 5, 2) := by decide +kernel
theorem dX0_peerFor_67 : decode cX0_peerFor 67 = .ok (.getfield 76, 3) := by decide +kernel
theorem dX0_peerFor_70 : decode cX0_peerFor 70 = .ok (.istore_n 3, 1) := by decide +kernel
theorem dX0_peerFor_71 : decode cX0_peerFor 71 = .ok (.iinc 4 1, 3) := by decide +kernel
theorem dX0_peerFor_74 : decode cX0_peerFor 74 = .ok (.goto (-67), 3) := by decide +kernel
theorem dX0_peerFor_77 : decode cX0_peerFor 77 = .ok (.iload_n 2, 1) := by decide +kernel
theorem dX0_peerFor_78 : decode cX0_peerFor 78 = .ok (.ireturn, 1) := by decide +kernel
theorem dX1_init_0 : decode cX1_init 0 = .ok (.aload_n 0, 1) := by decide +kernel
theorem dX1_init_1 : decode cX1_init 1 = .ok (.invokespecial 1, 3) := by decide +kernel
theorem dX1_init_4 : decode cX1_init 4 = .ok (.aload_n 0, 1) := by decide +kernel
theorem dX1_init_5 : decode cX1_init 5 = .ok (.iload_n 1, 1) := by decide +kernel
theorem dX1_init_6 : decode cX1_init 6 = .ok (.putfield 7, 3) := by decide +kernel
theorem dX1_init_9 : decode cX1_init 9 = .ok (.aload_n 0, 1) := by decide +kernel
theorem dX1_init_10 : decode cX1_init 10 = .ok (.iload_n 2, 1) := by decide +kernel
theorem dX1_init_11 : decode cX1_init 11 = .ok (.putfield 13, 3) := by decide +kernel
theorem dX1_init_14 : decode cX1_init 14 = .ok (.aload_n 0, 1) := by decide +kernel
theorem dX1_init_15 : decode cX1_init 15 = .ok (.iload_n 3, 1) := by decide +kernel
theorem dX1_init_16 : decode cX1_init 16 = .ok (.putfield 16, 3) := by decide +kernel
theorem dX1_init_19 : decode cX1_init 19 = .ok (.aload_n 0, 1) := by decide +kernel
theorem dX1_init_20 : decode cX1_init 20 = .ok (.iload 4, 2) := by decide +kernel
theorem dX1_init_22 : decode cX1_init 22 = .ok (.putfield 19, 3) := by decide +kernel
theorem dX1_init_25 : decode cX1_init 25 = .ok (.return_, 1) := by decide +kernel
theorem dX2_init_0 : decode cX2_init 0 = .ok (.aload_n 0, 1) := by decide +kernel
theorem dX2_init_1 : decode cX2_init 1 = .ok (.invokespecial 3, 3) := by decide +kernel
theorem dX2_init_4 : decode cX2_init 4 = .ok (.aload_n 0, 1) := by decide +kernel
theorem dX2_init_5 : decode cX2_init 5 = .ok (.bipush 6, 2) := by decide +kernel
theorem dX2_init_7 : decode cX2_init 7 = .ok (.newarray .int, 2) := by decide +kernel
theorem dX2_init_9 : decode cX2_init 9 = .ok (.putfield 11, 3) := by decide +kernel
theorem dX2_init_12 : decode cX2_init 12 = .ok (.aload_n 0, 1) := by decide +kernel
theorem dX2_init_13 : decode cX2_init 13 = .ok (.iconst 1, 1) := by decide +kernel
theorem dX2_init_14 : decode cX2_init 14 = .ok (.putfield 15, 3) := by decide +kernel
theorem dX2_init_17 : decode cX2_init 17 = .ok (.aload_n 0, 1) := by decide +kernel
theorem dX2_init_18 : decode cX2_init 18 = .ok (.iconst (-1), 1) := by decide +kernel
theorem dX2_init_19 : decode cX2_init 19 = .ok (.putfield 19, 3) := by decide +kernel
theorem dX2_init_22 : decode cX2_init 22 = .ok (.aload_n 0, 1) := by decide +kernel
theorem dX2_init_23 : decode cX2_init 23 = .ok (.iconst 0, 1) := by decide +kernel
theorem dX2_init_24 : decode cX2_init 24 = .ok (.putfield 22, 3) := by decide +kernel
theorem dX2_init_27 : decode cX2_init 27 = .ok (.aload_n 0, 1) := by decide +kernel
theorem dX2_init_28 : decode cX2_init 28 = .ok (.iload_n 1, 1) := by decide +kernel
theorem dX2_init_29 : decode cX2_init 29 = .ok (.putfield 25, 3) := by decide +kernel
theorem dX2_init_32 : decode cX2_init 32 = .ok (.aload_n 0, 1) := by decide +kernel
theorem dX2_init_33 : decode cX2_init 33 = .ok (.iload_n 2, 1) := by decide +kernel
theorem dX2_init_34 : decode cX2_init 34 = .ok (.putfield 28, 3) := by decide +kernel
theorem dX2_init_37 : decode cX2_init 37 = .ok (.aload_n 0, 1) := by decide +kernel
theorem dX2_init_38 : decode cX2_init 38 = .ok (.iload_n 3, 1) := by decide +kernel
theorem dX2_init_39 : decode cX2_init 39 = .ok (.putfield 31, 3) := by decide +kernel
theorem dX2_init_42 : decode cX2_init 42 = .ok (.aload_n 0, 1) := by decide +kernel
theorem dX2_init_43 : decode cX2_init 43 = .ok (.iload_n 1, 1) := by decide +kernel
theorem dX2_init_44 : decode cX2_init 44 = .ok (.invokestatic 34, 3) := by decide +kernel
theorem dX2_init_47 : decode cX2_init 47 = .ok (.putfield 38, 3) := by decide +kernel
theorem dX2_init_50 : decode cX2_init 50 = .ok (.return_, 1) := by decide +kernel
theorem dX2_tagPlaceOf_0 : decode cX2_tagPlaceOf 0 = .ok (.iload_n 0, 1) := by decide +kernel
theorem dX2_tagPlaceOf_1 : decode cX2_tagPlaceOf 1 = .ok (.tableswitch 33 1 3 #[27, 29, 31], 27) := by decide +kernel
theorem dX2_tagPlaceOf_28 : decode cX2_tagPlaceOf 28 = .ok (.iconst 4, 1) := by decide +kernel
theorem dX2_tagPlaceOf_29 : decode cX2_tagPlaceOf 29 = .ok (.ireturn, 1) := by decide +kernel
theorem dX2_tagPlaceOf_30 : decode cX2_tagPlaceOf 30 = .ok (.iconst 3, 1) := by decide +kernel
theorem dX2_tagPlaceOf_31 : decode cX2_tagPlaceOf 31 = .ok (.ireturn, 1) := by decide +kernel
theorem dX2_tagPlaceOf_32 : decode cX2_tagPlaceOf 32 = .ok (.iconst 2, 1) := by decide +kernel
theorem dX2_tagPlaceOf_33 : decode cX2_tagPlaceOf 33 = .ok (.ireturn, 1) := by decide +kernel
theorem dX2_tagPlaceOf_34 : decode cX2_tagPlaceOf 34 = .ok (.iconst 5, 1) := by decide +kernel
theorem dX2_tagPlaceOf_35 : decode cX2_tagPlaceOf 35 = .ok (.ireturn, 1) := by decide +kernel
theorem dX2_twin_0 : decode cX2_twin 0 = .ok (.new 9, 3) := by decide +kernel
theorem dX2_twin_3 : decode cX2_twin 3 = .ok (.dup, 1) := by decide +kernel
theorem dX2_twin_4 : decode cX2_twin 4 = .ok (.aload_n 0, 1) := by decide +kernel
theorem dX2_twin_5 : decode cX2_twin 5 = .ok (.getfield 25, 3) := by decide +kernel
theorem dX2_twin_8 : decode cX2_twin 8 = .ok (.aload_n 0, 1) := by decide +kernel
theorem dX2_twin_9 : decode cX2_twin 9 = .ok (.getfield 28, 3) := by decide +kernel
theorem dX2_twin_12 : decode cX2_twin 12 = .ok (.aload_n 0, 1) := by decide +kernel
theorem dX2_twin_13 : decode cX2_twin 13 = .ok (.getfield 31, 3) := by decide +kernel
theorem dX2_twin_16 : decode cX2_twin 16 = .ok (.invokespecial 41, 3) := by decide +kernel
theorem dX2_twin_19 : decode cX2_twin 19 = .ok (.astore_n 1, 1) := by decide +kernel
theorem dX2_twin_20 : decode cX2_twin 20 = .ok (.iconst 0, 1) := by decide +kernel
theorem dX2_twin_21 : decode cX2_twin 21 = .ok (.istore_n 2, 1) := by decide +kernel
theorem dX2_twin_22 : decode cX2_twin 22 = .ok (.iload_n 2, 1) := by decide +kernel
theorem dX2_twin_23 : decode cX2_twin 23 = .ok (.bipush 6, 2) := by decide +kernel
theorem dX2_twin_25 : decode cX2_twin 25 = .ok (.if_icmp .ge 19, 3) := by decide +kernel
theorem dX2_twin_28 : decode cX2_twin 28 = .ok (.aload_n 1, 1) := by decide +kernel
theorem dX2_twin_29 : decode cX2_twin 29 = .ok (.iload_n 2, 1) := by decide +kernel
theorem dX2_twin_30 : decode cX2_twin 30 = .ok (.aload_n 0, 1) := by decide +kernel
theorem dX2_twin_31 : decode cX2_twin 31 = .ok (.iload_n 2, 1) := by decide +kernel
theorem dX2_twin_32 : decode cX2_twin 32 = .ok (.invokevirtual 44, 3) := by decide +kernel
theorem dX2_twin_35 : decode cX2_twin 35 = .ok (.invokevirtual 47, 3) := by decide +kernel
theorem dX2_twin_38 : decode cX2_twin 38 = .ok (.iinc 2 1, 3) := by decide +kernel
theorem dX2_twin_41 : decode cX2_twin 41 = .ok (.goto (-19), 3) := by decide +kernel
theorem dX2_twin_44 : decode cX2_twin 44 = .ok (.aload_n 1, 1) := by decide +kernel
theorem dX2_twin_45 : decode cX2_twin 45 = .ok (.aload_n 0, 1) := by decide +kernel
theorem dX2_twin_46 : decode cX2_twin 46 = .ok (.getfield 15, 3) := by decide +kernel
theorem dX2_twin_49 : decode cX2_twin 49 = .ok (.putfield 15, 3) := by decide +kernel
theorem dX2_twin_52 : decode cX2_twin 52 = .ok (.aload_n 1, 1) := by decide +kernel
theorem dX2_twin_53 : decode cX2_twin 53 = .ok (.aload_n 0, 1) := by decide +kernel
theorem dX2_twin_54 : decode cX2_twin 54 = .ok (.getfield 19, 3) := by decide +kernel
theorem dX2_twin_57 : decode cX2_twin 57 = .ok (.putfield 19, 3) := by decide +kernel
theorem dX2_twin_60 : decode cX2_twin 60 = .ok (.aload_n 1, 1) := by decide +kernel
theorem dX2_twin_61 : decode cX2_twin 61 = .ok (.aload_n 0, 1) := by decide +kernel
theorem dX2_twin_62 : decode cX2_twin 62 = .ok (.getfield 22, 3) := by decide +kernel
theorem dX2_twin_65 : decode cX2_twin 65 = .ok (.putfield 22, 3) := by decide +kernel
theorem dX2_twin_68 : decode cX2_twin 68 = .ok (.aload_n 1, 1) := by decide +kernel
theorem dX2_twin_69 : decode cX2_twin 69 = .ok (.areturn, 1) := by decide +kernel
theorem dX2_fieldAt_0 : decode cX2_fieldAt 0 = .ok (.iload_n 1, 1) := by decide +kernel
theorem dX2_fieldAt_1 : decode cX2_fieldAt 1 = .ok (.ifCond .lt 21, 3) := by decide +kernel
theorem dX2_fieldAt_4 : decode cX2_fieldAt 4 = .ok (.iload_n 1, 1) := by decide +kernel
theorem dX2_fieldAt_5 : decode cX2_fieldAt 5 = .ok (.aload_n 0, 1) := by decide +kernel
theorem dX2_fieldAt_6 : decode cX2_fieldAt 6 = .ok (.getfield 11, 3) := by decide +kernel
theorem dX2_fieldAt_9 : decode cX2_fieldAt 9 = .ok (.arraylength, 1) := by decide +kernel
theorem dX2_fieldAt_10 : decode cX2_fieldAt 10 = .ok (.if_icmp .ge 12, 3) := by decide +kernel
theorem dX2_fieldAt_13 : decode cX2_fieldAt 13 = .ok (.aload_n 0, 1) := by decide +kernel
theorem dX2_fieldAt_14 : decode cX2_fieldAt 14 = .ok (.getfield 11, 3) := by decide +kernel
theorem dX2_fieldAt_17 : decode cX2_fieldAt 17 = .ok (.iload_n 1, 1) := by decide +kernel
theorem dX2_fieldAt_18 : decode cX2_fieldAt 18 = .ok (.iaload, 1) := by decide +kernel
theorem dX2_fieldAt_19 : decode cX2_fieldAt 19 = .ok (.goto 4, 3) := by decide +kernel
theorem dX2_fieldAt_22 : decode cX2_fieldAt 22 = .ok (.iconst 0, 1) := by decide +kernel
theorem dX2_fieldAt_23 : decode cX2_fieldAt 23 = .ok (.ireturn, 1) := by decide +kernel
theorem dX2_put_0 : decode cX2_put 0 = .ok (.iload_n 1, 1) := by decide +kernel
theorem dX2_put_1 : decode cX2_put 1 = .ok (.ifCond .lt 19, 3) := by decide +kernel
theorem dX2_put_4 : decode cX2_put 4 = .ok (.iload_n 1, 1) := by decide +kernel
theorem dX2_put_5 : decode cX2_put 5 = .ok (.aload_n 0, 1) := by decide +kernel
theorem dX2_put_6 : decode cX2_put 6 = .ok (.getfield 11, 3) := by decide +kernel
theorem dX2_put_9 : decode cX2_put 9 = .ok (.arraylength, 1) := by decide +kernel
theorem dX2_put_10 : decode cX2_put 10 = .ok (.if_icmp .ge 10, 3) := by decide +kernel
theorem dX2_put_13 : decode cX2_put 13 = .ok (.aload_n 0, 1) := by decide +kernel
theorem dX2_put_14 : decode cX2_put 14 = .ok (.getfield 11, 3) := by decide +kernel
theorem dX2_put_17 : decode cX2_put 17 = .ok (.iload_n 1, 1) := by decide +kernel
theorem dX2_put_18 : decode cX2_put 18 = .ok (.iload_n 2, 1) := by decide +kernel
theorem dX2_put_19 : decode cX2_put 19 = .ok (.iastore, 1) := by decide +kernel
theorem dX2_put_20 : decode cX2_put 20 = .ok (.return_, 1) := by decide +kernel
theorem dX2_tag_0 : decode cX2_tag 0 = .ok (.aload_n 0, 1) := by decide +kernel
theorem dX2_tag_1 : decode cX2_tag 1 = .ok (.aload_n 0, 1) := by decide +kernel
theorem dX2_tag_2 : decode cX2_tag 2 = .ok (.getfield 38, 3) := by decide +kernel
theorem dX2_tag_5 : decode cX2_tag 5 = .ok (.invokevirtual 44, 3) := by decide +kernel
theorem dX2_tag_8 : decode cX2_tag 8 = .ok (.ireturn, 1) := by decide +kernel
theorem dX2_sealWith_0 : decode cX2_sealWith 0 = .ok (.aload_n 0, 1) := by decide +kernel
theorem dX2_sealWith_1 : decode cX2_sealWith 1 = .ok (.iload_n 1, 1) := by decide +kernel
theorem dX2_sealWith_2 : decode cX2_sealWith 2 = .ok (.putfield 15, 3) := by decide +kernel
theorem dX2_sealWith_5 : decode cX2_sealWith 5 = .ok (.iload_n 1, 1) := by decide +kernel
theorem dX2_sealWith_6 : decode cX2_sealWith 6 = .ok (.aload_n 0, 1) := by decide +kernel
theorem dX2_sealWith_7 : decode cX2_sealWith 7 = .ok (.getfield 25, 3) := by decide +kernel
theorem dX2_sealWith_10 : decode cX2_sealWith 10 = .ok (.aload_n 0, 1) := by decide +kernel
theorem dX2_sealWith_11 : decode cX2_sealWith 11 = .ok (.getfield 11, 3) := by decide +kernel
theorem dX2_sealWith_14 : decode cX2_sealWith 14 = .ok (.aload_n 0, 1) := by decide +kernel
theorem dX2_sealWith_15 : decode cX2_sealWith 15 = .ok (.getfield 38, 3) := by decide +kernel
theorem dX2_sealWith_18 : decode cX2_sealWith 18 = .ok (.invokestatic 51, 3) := by decide +kernel
theorem dX2_sealWith_21 : decode cX2_sealWith 21 = .ok (.istore_n 2, 1) := by decide +kernel
theorem dX2_sealWith_22 : decode cX2_sealWith 22 = .ok (.aload_n 0, 1) := by decide +kernel
theorem dX2_sealWith_23 : decode cX2_sealWith 23 = .ok (.aload_n 0, 1) := by decide +kernel
theorem dX2_sealWith_24 : decode cX2_sealWith 24 = .ok (.getfield 38, 3) := by decide +kernel
theorem dX2_sealWith_27 : decode cX2_sealWith 27 = .ok (.iload_n 2, 1) := by decide +kernel
theorem dX2_sealWith_28 : decode cX2_sealWith 28 = .ok (.invokevirtual 47, 3) := by decide +kernel
theorem dX2_sealWith_31 : decode cX2_sealWith 31 = .ok (.iload_n 2, 1) := by decide +kernel
theorem dX2_sealWith_32 : decode cX2_sealWith 32 = .ok (.ireturn, 1) := by decide +kernel
theorem dX2_isRightBy_0 : decode cX2_isRightBy 0 = .ok (.aload_n 0, 1) := by decide +kernel
theorem dX2_isRightBy_1 : decode cX2_isRightBy 1 = .ok (.invokevirtual 57, 3) := by decide +kernel
theorem dX2_isRightBy_4 : decode cX2_isRightBy 4 = .ok (.iload_n 1, 1) := by decide +kernel
theorem dX2_isRightBy_5 : decode cX2_isRightBy 5 = .ok (.aload_n 0, 1) := by decide +kernel
theorem dX2_isRightBy_6 : decode cX2_isRightBy 6 = .ok (.getfield 25, 3) := by decide +kernel
theorem dX2_isRightBy_9 : decode cX2_isRightBy 9 = .ok (.aload_n 0, 1) := by decide +kernel
theorem dX2_isRightBy_10 : decode cX2_isRightBy 10 = .ok (.getfield 11, 3) := by decide +kernel
theorem dX2_isRightBy_13 : decode cX2_isRightBy 13 = .ok (.aload_n 0, 1) := by decide +kernel
theorem dX2_isRightBy_14 : decode cX2_isRightBy 14 = .ok (.getfield 38, 3) := by decide +kernel
theorem dX2_isRightBy_17 : decode cX2_isRightBy 17 = .ok (.invokestatic 51, 3) := by decide +kernel
theorem dX2_isRightBy_20 : decode cX2_isRightBy 20 = .ok (.if_icmp .ne 7, 3) := by decide +kernel
theorem dX2_isRightBy_23 : decode cX2_isRightBy 23 = .ok (.iconst 1, 1) := by decide +kernel
theorem dX2_isRightBy_24 : decode cX2_isRightBy 24 = .ok (.goto 4, 3) := by decide +kernel
theorem dX2_isRightBy_27 : decode cX2_isRightBy 27 = .ok (.iconst 0, 1) := by decide +kernel
theorem dX2_isRightBy_28 : decode cX2_isRightBy 28 = .ok (.ireturn, 1) := by decide +kernel
theorem dX2_canTurn_0 : decode cX2_canTurn 0 = .ok (.aload_n 0, 1) := by decide +kernel
theorem dX2_canTurn_1 : decode cX2_canTurn 1 = .ok (.getfield 25, 3) := by decide +kernel
theorem dX2_canTurn_4 : decode cX2_canTurn 4 = .ok (.tableswitch 71 1 3 #[28, 44, 55], 28) := by decide +kernel
theorem dX2_canTurn_32 : decode cX2_canTurn 32 = .ok (.iload_n 1, 1) := by decide +kernel
theorem dX2_canTurn_33 : decode cX2_canTurn 33 = .ok (.iconst 3, 1) := by decide +kernel
theorem dX2_canTurn_34 : decode cX2_canTurn 34 = .ok (.if_icmp .eq 8, 3) := by decide +kernel
theorem dX2_canTurn_37 : decode cX2_canTurn 37 = .ok (.iload_n 1, 1) := by decide +kernel
theorem dX2_canTurn_38 : decode cX2_canTurn 38 = .ok (.iconst 4, 1) := by decide +kernel
theorem dX2_canTurn_39 : decode cX2_canTurn 39 = .ok (.if_icmp .ne 7, 3) := by decide +kernel
theorem dX2_canTurn_42 : decode cX2_canTurn 42 = .ok (.iconst 1, 1) := by decide +kernel
theorem dX2_canTurn_43 : decode cX2_canTurn 43 = .ok (.goto 4, 3) := by decide +kernel
theorem dX2_canTurn_46 : decode cX2_canTurn 46 = .ok (.iconst 0, 1) := by decide +kernel
theorem dX2_canTurn_47 : decode cX2_canTurn 47 = .ok (.ireturn, 1) := by decide +kernel
theorem dX2_canTurn_48 : decode cX2_canTurn 48 = .ok (.iload_n 1, 1) := by decide +kernel
theorem dX2_canTurn_49 : decode cX2_canTurn 49 = .ok (.iconst 3, 1) := by decide +kernel
theorem dX2_canTurn_50 : decode cX2_canTurn 50 = .ok (.if_icmp .ne 7, 3) := by decide +kernel
theorem dX2_canTurn_53 : decode cX2_canTurn 53 = .ok (.iconst 1, 1) := by decide +kernel
theorem dX2_canTurn_54 : decode cX2_canTurn 54 = .ok (.goto 4, 3) := by decide +kernel
theorem dX2_canTurn_57 : decode cX2_canTurn 57 = .ok (.iconst 0, 1) := by decide +kernel
theorem dX2_canTurn_58 : decode cX2_canTurn 58 = .ok (.ireturn, 1) := by decide +kernel
theorem dX2_canTurn_59 : decode cX2_canTurn 59 = .ok (.iload_n 1, 1) := by decide +kernel
theorem dX2_canTurn_60 : decode cX2_canTurn 60 = .ok (.iconst 1, 1) := by decide +kernel
theorem dX2_canTurn_61 : decode cX2_canTurn 61 = .ok (.if_icmp .eq 8, 3) := by decide +kernel
theorem dX2_canTurn_64 : decode cX2_canTurn 64 = .ok (.iload_n 1, 1) := by decide +kernel
theorem dX2_canTurn_65 : decode cX2_canTurn 65 = .ok (.iconst 2, 1) := by decide +kernel
theorem dX2_canTurn_66 : decode cX2_canTurn 66 = .ok (.if_icmp .ne 7, 3) := by decide +kernel
theorem dX2_canTurn_69 : decode cX2_canTurn 69 = .ok (.iconst 1, 1) := by decide +kernel
theorem dX2_canTurn_70 : decode cX2_canTurn 70 = .ok (.goto 4, 3) := by decide +kernel
theorem dX2_canTurn_73 : decode cX2_canTurn 73 = .ok (.iconst 0, 1) := by decide +kernel
theorem dX2_canTurn_74 : decode cX2_canTurn 74 = .ok (.ireturn, 1) := by decide +kernel
theorem dX2_canTurn_75 : decode cX2_canTurn 75 = .ok (.iload_n 1, 1) := by decide +kernel
theorem dX2_canTurn_76 : decode cX2_canTurn 76 = .ok (.iconst 1, 1) := by decide +kernel
theorem dX2_canTurn_77 : decode cX2_canTurn 77 = .ok (.if_icmp .lt 12, 3) := by decide +kernel
theorem dX2_canTurn_80 : decode cX2_canTurn 80 = .ok (.iload_n 1, 1) := by decide +kernel
theorem dX2_canTurn_81 : decode cX2_canTurn 81 = .ok (.iconst 5, 1) := by decide +kernel
theorem dX2_canTurn_82 : decode cX2_canTurn 82 = .ok (.if_icmp .gt 7, 3) := by decide +kernel
theorem dX2_canTurn_85 : decode cX2_canTurn 85 = .ok (.iconst 1, 1) := by decide +kernel
theorem dX2_canTurn_86 : decode cX2_canTurn 86 = .ok (.goto 4, 3) := by decide +kernel
theorem dX2_canTurn_89 : decode cX2_canTurn 89 = .ok (.iconst 0, 1) := by decide +kernel
theorem dX2_canTurn_90 : decode cX2_canTurn 90 = .ok (.ireturn, 1) := by decide +kernel
theorem dX2_turnBy_0 : decode cX2_turnBy 0 = .ok (.aload_n 0, 1) := by decide +kernel
theorem dX2_turnBy_1 : decode cX2_turnBy 1 = .ok (.getfield 19, 3) := by decide +kernel
theorem dX2_turnBy_4 : decode cX2_turnBy 4 = .ok (.iconst (-1), 1) := by decide +kernel
theorem dX2_turnBy_5 : decode cX2_turnBy 5 = .ok (.if_icmp .ne 17, 3) := by decide +kernel
theorem dX2_turnBy_8 : decode cX2_turnBy 8 = .ok (.aload_n 0, 1) := by decide +kernel
theorem dX2_turnBy_9 : decode cX2_turnBy 9 = .ok (.iload_n 1, 1) := by decide +kernel
theorem dX2_turnBy_10 : decode cX2_turnBy 10 = .ok (.putfield 19, 3) := by decide +kernel
theorem dX2_turnBy_13 : decode cX2_turnBy 13 = .ok (.aload_n 0, 1) := by decide +kernel
theorem dX2_turnBy_14 : decode cX2_turnBy 14 = .ok (.aload_n 0, 1) := by decide +kernel
theorem dX2_turnBy_15 : decode cX2_turnBy 15 = .ok (.iload_n 1, 1) := by decide +kernel
theorem dX2_turnBy_16 : decode cX2_turnBy 16 = .ok (.invokevirtual 44, 3) := by decide +kernel
theorem dX2_turnBy_19 : decode cX2_turnBy 19 = .ok (.putfield 22, 3) := by decide +kernel
theorem dX2_turnBy_22 : decode cX2_turnBy 22 = .ok (.aload_n 0, 1) := by decide +kernel
theorem dX2_turnBy_23 : decode cX2_turnBy 23 = .ok (.iload_n 1, 1) := by decide +kernel
theorem dX2_turnBy_24 : decode cX2_turnBy 24 = .ok (.aload_n 0, 1) := by decide +kernel
theorem dX2_turnBy_25 : decode cX2_turnBy 25 = .ok (.iload_n 1, 1) := by decide +kernel
theorem dX2_turnBy_26 : decode cX2_turnBy 26 = .ok (.invokevirtual 44, 3) := by decide +kernel
theorem dX2_turnBy_29 : decode cX2_turnBy 29 = .ok (.iload_n 2, 1) := by decide +kernel
theorem dX2_turnBy_30 : decode cX2_turnBy 30 = .ok (.iadd, 1) := by decide +kernel
theorem dX2_turnBy_31 : decode cX2_turnBy 31 = .ok (.invokevirtual 47, 3) := by decide +kernel
theorem dX2_turnBy_34 : decode cX2_turnBy 34 = .ok (.aload_n 0, 1) := by decide +kernel
theorem dX2_turnBy_35 : decode cX2_turnBy 35 = .ok (.iload_n 1, 1) := by decide +kernel
theorem dX2_turnBy_36 : decode cX2_turnBy 36 = .ok (.invokevirtual 44, 3) := by decide +kernel
theorem dX2_turnBy_39 : decode cX2_turnBy 39 = .ok (.ireturn, 1) := by decide +kernel
theorem dX2_differs_0 : decode cX2_differs 0 = .ok (.aload_n 0, 1) := by decide +kernel
theorem dX2_differs_1 : decode cX2_differs 1 = .ok (.getfield 19, 3) := by decide +kernel
theorem dX2_differs_4 : decode cX2_differs 4 = .ok (.iconst (-1), 1) := by decide +kernel
theorem dX2_differs_5 : decode cX2_differs 5 = .ok (.if_icmp .eq 22, 3) := by decide +kernel
theorem dX2_differs_8 : decode cX2_differs 8 = .ok (.aload_n 0, 1) := by decide +kernel
theorem dX2_differs_9 : decode cX2_differs 9 = .ok (.aload_n 0, 1) := by decide +kernel
theorem dX2_differs_10 : decode cX2_differs 10 = .ok (.getfield 19, 3) := by decide +kernel
theorem dX2_differs_13 : decode cX2_differs 13 = .ok (.invokevirtual 44, 3) := by decide +kernel
theorem dX2_differs_16 : decode cX2_differs 16 = .ok (.aload_n 0, 1) := by decide +kernel
theorem dX2_differs_17 : decode cX2_differs 17 = .ok (.getfield 22, 3) := by decide +kernel
theorem dX2_differs_20 : decode cX2_differs 20 = .ok (.if_icmp .eq 7, 3) := by decide +kernel
theorem dX2_differs_23 : decode cX2_differs 23 = .ok (.iconst 1, 1) := by decide +kernel
theorem dX2_differs_24 : decode cX2_differs 24 = .ok (.goto 4, 3) := by decide +kernel
theorem dX2_differs_27 : decode cX2_differs 27 = .ok (.iconst 0, 1) := by decide +kernel
theorem dX2_differs_28 : decode cX2_differs 28 = .ok (.ireturn, 1) := by decide +kernel
theorem dX3_init_0 : decode cX3_init 0 = .ok (.aload_n 0, 1) := by decide +kernel
theorem dX3_init_1 : decode cX3_init 1 = .ok (.invokespecial 3, 3) := by decide +kernel
theorem dX3_init_4 : decode cX3_init 4 = .ok (.aload_n 0, 1) := by decide +kernel
theorem dX3_init_5 : decode cX3_init 5 = .ok (.new 9, 3) := by decide +kernel
theorem dX3_init_8 : decode cX3_init 8 = .ok (.dup, 1) := by decide +kernel
theorem dX3_init_9 : decode cX3_init 9 = .ok (.invokespecial 11, 3) := by decide +kernel
theorem dX3_init_12 : decode cX3_init 12 = .ok (.putfield 12, 3) := by decide +kernel
theorem dX3_init_15 : decode cX3_init 15 = .ok (.aload_n 0, 1) := by decide +kernel
theorem dX3_init_16 : decode cX3_init 16 = .ok (.aconst_null, 1) := by decide +kernel
theorem dX3_init_17 : decode cX3_init 17 = .ok (.putfield 18, 3) := by decide +kernel
theorem dX3_init_20 : decode cX3_init 20 = .ok (.aload_n 0, 1) := by decide +kernel
theorem dX3_init_21 : decode cX3_init 21 = .ok (.aconst_null, 1) := by decide +kernel
theorem dX3_init_22 : decode cX3_init 22 = .ok (.putfield 22, 3) := by decide +kernel
theorem dX3_init_25 : decode cX3_init 25 = .ok (.aload_n 0, 1) := by decide +kernel
theorem dX3_init_26 : decode cX3_init 26 = .ok (.aconst_null, 1) := by decide +kernel
theorem dX3_init_27 : decode cX3_init 27 = .ok (.putfield 25, 3) := by decide +kernel
theorem dX3_init_30 : decode cX3_init 30 = .ok (.aload_n 0, 1) := by decide +kernel
theorem dX3_init_31 : decode cX3_init 31 = .ok (.aconst_null, 1) := by decide +kernel
theorem dX3_init_32 : decode cX3_init 32 = .ok (.putfield 28, 3) := by decide +kernel
theorem dX3_init_35 : decode cX3_init 35 = .ok (.aload_n 0, 1) := by decide +kernel
theorem dX3_init_36 : decode cX3_init 36 = .ok (.iconst 0, 1) := by decide +kernel
theorem dX3_init_37 : decode cX3_init 37 = .ok (.putfield 32, 3) := by decide +kernel
theorem dX3_init_40 : decode cX3_init 40 = .ok (.aload_n 0, 1) := by decide +kernel
theorem dX3_init_41 : decode cX3_init 41 = .ok (.iconst 0, 1) := by decide +kernel
theorem dX3_init_42 : decode cX3_init 42 = .ok (.putfield 36, 3) := by decide +kernel
theorem dX3_init_45 : decode cX3_init 45 = .ok (.aload_n 0, 1) := by decide +kernel
theorem dX3_init_46 : decode cX3_init 46 = .ok (.iconst (-1), 1) := by decide +kernel
theorem dX3_init_47 : decode cX3_init 47 = .ok (.putfield 39, 3) := by decide +kernel
theorem dX3_init_50 : decode cX3_init 50 = .ok (.aload_n 0, 1) := by decide +kernel
theorem dX3_init_51 : decode cX3_init 51 = .ok (.iconst 0, 1) := by decide +kernel
theorem dX3_init_52 : decode cX3_init 52 = .ok (.putfield 42, 3) := by decide +kernel
theorem dX3_init_55 : decode cX3_init 55 = .ok (.aload_n 0, 1) := by decide +kernel
theorem dX3_init_56 : decode cX3_init 56 = .ok (.iload_n 1, 1) := by decide +kernel
theorem dX3_init_57 : decode cX3_init 57 = .ok (.putfield 45, 3) := by decide +kernel
theorem dX3_init_60 : decode cX3_init 60 = .ok (.aload_n 0, 1) := by decide +kernel
theorem dX3_init_61 : decode cX3_init 61 = .ok (.iload_n 1, 1) := by decide +kernel
theorem dX3_init_62 : decode cX3_init 62 = .ok (.invokestatic 48, 3) := by decide +kernel
theorem dX3_init_65 : decode cX3_init 65 = .ok (.invokestatic 54, 3) := by decide +kernel
theorem dX3_init_68 : decode cX3_init 68 = .ok (.putfield 57, 3) := by decide +kernel
theorem dX3_init_71 : decode cX3_init 71 = .ok (.aload_n 0, 1) := by decide +kernel
theorem dX3_init_72 : decode cX3_init 72 = .ok (.aload_n 0, 1) := by decide +kernel
theorem dX3_init_73 : decode cX3_init 73 = .ok (.getfield 57, 3) := by decide +kernel
theorem dX3_init_76 : decode cX3_init 76 = .ok (.iload_n 2, 1) := by decide +kernel
theorem dX3_init_77 : decode cX3_init 77 = .ok (.invokestatic 60, 3) := by decide +kernel
theorem dX3_init_80 : decode cX3_init 80 = .ok (.putfield 64, 3) := by decide +kernel
theorem dX3_init_83 : decode cX3_init 83 = .ok (.aload_n 0, 1) := by decide +kernel
theorem dX3_init_84 : decode cX3_init 84 = .ok (.bipush 10, 2) := by decide +kernel
theorem dX3_init_86 : decode cX3_init 86 = .ok (.bipush 10, 2) := by decide +kernel
theorem dX3_init_88 : decode cX3_init 88 = .ok (.iload_n 1, 1) := by decide +kernel
theorem dX3_init_89 : decode cX3_init 89 = .ok (.imul, 1) := by decide +kernel
theorem dX3_init_90 : decode cX3_init 90 = .ok (.iadd, 1) := by decide +kernel
theorem dX3_init_91 : decode cX3_init 91 = .ok (.putfield 67, 3) := by decide +kernel
theorem dX3_init_94 : decode cX3_init 94 = .ok (.return_, 1) := by decide +kernel
theorem dX3_sessionAt_0 : decode cX3_sessionAt 0 = .ok (.iload_n 1, 1) := by decide +kernel
theorem dX3_sessionAt_1 : decode cX3_sessionAt 1 = .ok (.lookupswitch 37 #[(0, 27), (1, 32)], 27) := by decide +kernel
theorem dX3_sessionAt_28 : decode cX3_sessionAt 28 = .ok (.aload_n 0, 1) := by decide +kernel
theorem dX3_sessionAt_29 : decode cX3_sessionAt 29 = .ok (.getfield 18, 3) := by decide +kernel
theorem dX3_sessionAt_32 : decode cX3_sessionAt 32 = .ok (.areturn, 1) := by decide +kernel
theorem dX3_sessionAt_33 : decode cX3_sessionAt 33 = .ok (.aload_n 0, 1) := by decide +kernel
theorem dX3_sessionAt_34 : decode cX3_sessionAt 34 = .ok (.getfield 22, 3) := by decide +kernel
theorem dX3_sessionAt_37 : decode cX3_sessionAt 37 = .ok (.areturn, 1) := by decide +kernel
theorem dX3_sessionAt_38 : decode cX3_sessionAt 38 = .ok (.aload_n 0, 1) := by decide +kernel
theorem dX3_sessionAt_39 : decode cX3_sessionAt 39 = .ok (.getfield 25, 3) := by decide +kernel
theorem dX3_sessionAt_42 : decode cX3_sessionAt 42 = .ok (.areturn, 1) := by decide +kernel
theorem dX3_sessionWith_0 : decode cX3_sessionWith 0 = .ok (.iconst 0, 1) := by decide +kernel
theorem dX3_sessionWith_1 : decode cX3_sessionWith 1 = .ok (.istore_n 2, 1) := by decide +kernel
theorem dX3_sessionWith_2 : decode cX3_sessionWith 2 = .ok (.iload_n 2, 1) := by decide +kernel
theorem dX3_sessionWith_3 : decode cX3_sessionWith 3 = .ok (.iconst 3, 1) := by decide +kernel
theorem dX3_sessionWith_4 : decode cX3_sessionWith 4 = .ok (.if_icmp .ge 29, 3) := by decide +kernel
theorem dX3_sessionWith_7 : decode cX3_sessionWith 7 = .ok (.aload_n 0, 1) := by decide +kernel
theorem dX3_sessionWith_8 : decode cX3_sessionWith 8 = .ok (.iload_n 2, 1) := by decide +kernel
theorem dX3_sessionWith_9 : decode cX3_sessionWith 9 = .ok (.invokevirtual 70, 3) := by decide +kernel
theorem dX3_sessionWith_12 : decode cX3_sessionWith 12 = .ok (.astore_n 3, 1) := by decide +kernel
theorem dX3_sessionWith_13 : decode cX3_sessionWith 13 = .ok (.aload_n 3, 1) := by decide +kernel
theorem dX3_sessionWith_14 : decode cX3_sessionWith 14 = .ok (.ifnull 13, 3) := by decide +kernel
theorem dX3_sessionWith_17 : decode cX3_sessionWith 17 = .ok (.aload_n 3, 1) := by decide +kernel
theorem dX3_sessionWith_18 : decode cX3_sessionWith 18 = .ok (.getfield 74, 3) := by decide +kernel
theorem dX3_sessionWith_21 : decode cX3_sessionWith 21 = .ok (.iload_n 1, 1) := by decide +kernel
theorem dX3_sessionWith_22 : decode cX3_sessionWith 22 = .ok (.if_icmp .ne 5, 3) := by decide +kernel
theorem dX3_sessionWith_25 : decode cX3_sessionWith 25 = .ok (.aload_n 3, 1) := by decide +kernel
theorem dX3_sessionWith_26 : decode cX3_sessionWith 26 = .ok (.areturn, 1) := by decide +kernel
theorem dX3_sessionWith_27 : decode cX3_sessionWith 27 = .ok (.iinc 2 1, 3) := by decide +kernel
theorem dX3_sessionWith_30 : decode cX3_sessionWith 30 = .ok (.goto (-28), 3) := by decide +kernel
theorem dX3_sessionWith_33 : decode cX3_sessionWith 33 = .ok (.aconst_null, 1) := by decide +kernel
theorem dX3_sessionWith_34 : decode cX3_sessionWith 34 = .ok (.areturn, 1) := by decide +kernel
theorem dX3_flightIndex_0 : decode cX3_flightIndex 0 = .ok (.aload_n 0, 1) := by decide +kernel
theorem dX3_flightIndex_1 : decode cX3_flightIndex 1 = .ok (.getfield 28, 3) := by decide +kernel
theorem dX3_flightIndex_4 : decode cX3_flightIndex 4 = .ok (.ifnonnull 7, 3) := by decide +kernel
theorem dX3_flightIndex_7 : decode cX3_flightIndex 7 = .ok (.iconst (-1), 1) := by decide +kernel
theorem dX3_flightIndex_8 : decode cX3_flightIndex 8 = .ok (.goto 10, 3) := by decide +kernel
theorem dX3_flightIndex_11 : decode cX3_flightIndex 11 = .ok (.aload_n 0, 1) := by decide +kernel
theorem dX3_flightIndex_12 : decode cX3_flightIndex 12 = .ok (.getfield 28, 3) := by decide +kernel
theorem dX3_flightIndex_15 : decode cX3_flightIndex 15 = .ok (.getfield 79, 3) := by decide +kernel
theorem dX3_flightIndex_18 : decode cX3_flightIndex 18 = .ok (.ireturn, 1) := by decide +kernel
theorem dX4_power_0 : decode cX4_power 0 = .ok (.iconst 1, 1) := by decide +kernel
theorem dX4_power_1 : decode cX4_power 1 = .ok (.istore_n 2, 1) := by decide +kernel
theorem dX4_power_2 : decode cX4_power 2 = .ok (.bipush 30, 2) := by decide +kernel
theorem dX4_power_4 : decode cX4_power 4 = .ok (.istore_n 3, 1) := by decide +kernel
theorem dX4_power_5 : decode cX4_power 5 = .ok (.iload_n 3, 1) := by decide +kernel
theorem dX4_power_6 : decode cX4_power 6 = .ok (.ifCond .lt 34, 3) := by decide +kernel
theorem dX4_power_9 : decode cX4_power 9 = .ok (.iload_n 2, 1) := by decide +kernel
theorem dX4_power_10 : decode cX4_power 10 = .ok (.iload_n 2, 1) := by decide +kernel
theorem dX4_power_11 : decode cX4_power 11 = .ok (.imul, 1) := by decide +kernel
theorem dX4_power_12 : decode cX4_power 12 = .ok (.sipush 2039, 3) := by decide +kernel
theorem dX4_power_15 : decode cX4_power 15 = .ok (.irem, 1) := by decide +kernel
theorem dX4_power_16 : decode cX4_power 16 = .ok (.istore_n 2, 1) := by decide +kernel
theorem dX4_power_17 : decode cX4_power 17 = .ok (.iload_n 1, 1) := by decide +kernel
theorem dX4_power_18 : decode cX4_power 18 = .ok (.iload_n 3, 1) := by decide +kernel
theorem dX4_power_19 : decode cX4_power 19 = .ok (.ishr, 1) := by decide +kernel
theorem dX4_power_20 : decode cX4_power 20 = .ok (.iconst 1, 1) := by decide +kernel
theorem dX4_power_21 : decode cX4_power 21 = .ok (.iand, 1) := by decide +kernel
theorem dX4_power_22 : decode cX4_power 22 = .ok (.iconst 1, 1) := by decide +kernel
theorem dX4_power_23 : decode cX4_power 23 = .ok (.if_icmp .ne 11, 3) := by decide +kernel
theorem dX4_power_26 : decode cX4_power 26 = .ok (.iload_n 2, 1) := by decide +kernel
theorem dX4_power_27 : decode cX4_power 27 = .ok (.iload_n 0, 1) := by decide +kernel
theorem dX4_power_28 : decode cX4_power 28 = .ok (.imul, 1) := by decide +kernel
theorem dX4_power_29 : decode cX4_power 29 = .ok (.sipush 2039, 3) := by decide +kernel
theorem dX4_power_32 : decode cX4_power 32 = .ok (.irem, 1) := by decide +kernel
theorem dX4_power_33 : decode cX4_power 33 = .ok (.istore_n 2, 1) := by decide +kernel
theorem dX4_power_34 : decode cX4_power 34 = .ok (.iinc 3 (-1), 3) := by decide +kernel
theorem dX4_power_37 : decode cX4_power 37 = .ok (.goto (-32), 3) := by decide +kernel
theorem dX4_power_40 : decode cX4_power 40 = .ok (.iload_n 2, 1) := by decide +kernel
theorem dX4_power_41 : decode cX4_power 41 = .ok (.ireturn, 1) := by decide +kernel
theorem dX4_publicNumber_0 : decode cX4_publicNumber 0 = .ok (.bipush 7, 2) := by decide +kernel
theorem dX4_publicNumber_2 : decode cX4_publicNumber 2 = .ok (.iload_n 0, 1) := by decide +kernel
theorem dX4_publicNumber_3 : decode cX4_publicNumber 3 = .ok (.invokestatic 9, 3) := by decide +kernel
theorem dX4_publicNumber_6 : decode cX4_publicNumber 6 = .ok (.ireturn, 1) := by decide +kernel
theorem dX4_secretOf_0 : decode cX4_secretOf 0 = .ok (.iconst 1, 1) := by decide +kernel
theorem dX4_secretOf_1 : decode cX4_secretOf 1 = .ok (.ldc2_w 13, 3) := by decide +kernel
theorem dX4_secretOf_4 : decode cX4_secretOf 4 = .ok (.iload_n 0, 1) := by decide +kernel
theorem dX4_secretOf_5 : decode cX4_secretOf 5 = .ok (.i2l, 1) := by decide +kernel
theorem dX4_secretOf_6 : decode cX4_secretOf 6 = .ok (.lmul, 1) := by decide +kernel
theorem dX4_secretOf_7 : decode cX4_secretOf 7 = .ok (.ldc2_w 15, 3) := by decide +kernel
theorem dX4_secretOf_10 : decode cX4_secretOf 10 = .ok (.invokestatic 17, 3) := by decide +kernel
theorem dX4_secretOf_13 : decode cX4_secretOf 13 = .ok (.l2i, 1) := by decide +kernel
theorem dX4_secretOf_14 : decode cX4_secretOf 14 = .ok (.iadd, 1) := by decide +kernel
theorem dX4_secretOf_15 : decode cX4_secretOf 15 = .ok (.ireturn, 1) := by decide +kernel
theorem dX4_secretOfEnd_0 : decode cX4_secretOfEnd 0 = .ok (.sipush 211, 3) := by decide +kernel
theorem dX4_secretOfEnd_3 : decode cX4_secretOfEnd 3 = .ok (.sipush 307, 3) := by decide +kernel
theorem dX4_secretOfEnd_6 : decode cX4_secretOfEnd 6 = .ok (.iload_n 0, 1) := by decide +kernel
theorem dX4_secretOfEnd_7 : decode cX4_secretOfEnd 7 = .ok (.imul, 1) := by decide +kernel
theorem dX4_secretOfEnd_8 : decode cX4_secretOfEnd 8 = .ok (.iadd, 1) := by decide +kernel
theorem dX4_secretOfEnd_9 : decode cX4_secretOfEnd 9 = .ok (.ireturn, 1) := by decide +kernel
theorem dX4_mix_0 : decode cX4_mix 0 = .ok (.bipush 17, 2) := by decide +kernel
theorem dX4_mix_2 : decode cX4_mix 2 = .ok (.iload_n 0, 1) := by decide +kernel
theorem dX4_mix_3 : decode cX4_mix 3 = .ok (.invokestatic 23, 3) := by decide +kernel
theorem dX4_mix_6 : decode cX4_mix 6 = .ok (.iload_n 1, 1) := by decide +kernel
theorem dX4_mix_7 : decode cX4_mix 7 = .ok (.invokestatic 23, 3) := by decide +kernel
theorem dX4_mix_10 : decode cX4_mix 10 = .ok (.iload_n 2, 1) := by decide +kernel
theorem dX4_mix_11 : decode cX4_mix 11 = .ok (.invokestatic 23, 3) := by decide +kernel
theorem dX4_mix_14 : decode cX4_mix 14 = .ok (.invokestatic 26, 3) := by decide +kernel
theorem dX4_mix_17 : decode cX4_mix 17 = .ok (.ireturn, 1) := by decide +kernel
theorem dX4_mixOfFour_0 : decode cX4_mixOfFour 0 = .ok (.bipush 17, 2) := by decide +kernel
theorem dX4_mixOfFour_2 : decode cX4_mixOfFour 2 = .ok (.iload_n 0, 1) := by decide +kernel
theorem dX4_mixOfFour_3 : decode cX4_mixOfFour 3 = .ok (.invokestatic 23, 3) := by decide +kernel
theorem dX4_mixOfFour_6 : decode cX4_mixOfFour 6 = .ok (.iload_n 1, 1) := by decide +kernel
theorem dX4_mixOfFour_7 : decode cX4_mixOfFour 7 = .ok (.invokestatic 23, 3) := by decide +kernel
theorem dX4_mixOfFour_10 : decode cX4_mixOfFour 10 = .ok (.iload_n 2, 1) := by decide +kernel
theorem dX4_mixOfFour_11 : decode cX4_mixOfFour 11 = .ok (.invokestatic 23, 3) := by decide +kernel
theorem dX4_mixOfFour_14 : decode cX4_mixOfFour 14 = .ok (.iload_n 3, 1) := by decide +kernel
theorem dX4_mixOfFour_15 : decode cX4_mixOfFour 15 = .ok (.invokestatic 23, 3) := by decide +kernel
theorem dX4_mixOfFour_18 : decode cX4_mixOfFour 18 = .ok (.invokestatic 26, 3) := by decide +kernel
theorem dX4_mixOfFour_21 : decode cX4_mixOfFour 21 = .ok (.ireturn, 1) := by decide +kernel
theorem dX4_mixed_0 : decode cX4_mixed 0 = .ok (.ldc2_w 30, 3) := by decide +kernel
theorem dX4_mixed_3 : decode cX4_mixed 3 = .ok (.iload_n 0, 1) := by decide +kernel
theorem dX4_mixed_4 : decode cX4_mixed 4 = .ok (.i2l, 1) := by decide +kernel
theorem dX4_mixed_5 : decode cX4_mixed 5 = .ok (.lmul, 1) := by decide +kernel
theorem dX4_mixed_6 : decode cX4_mixed 6 = .ok (.iload_n 1, 1) := by decide +kernel
theorem dX4_mixed_7 : decode cX4_mixed 7 = .ok (.i2l, 1) := by decide +kernel
theorem dX4_mixed_8 : decode cX4_mixed 8 = .ok (.ladd, 1) := by decide +kernel
theorem dX4_mixed_9 : decode cX4_mixed 9 = .ok (.ldc2_w 32, 3) := by decide +kernel
theorem dX4_mixed_12 : decode cX4_mixed 12 = .ok (.ladd, 1) := by decide +kernel
theorem dX4_mixed_13 : decode cX4_mixed 13 = .ok (.ldc2_w 34, 3) := by decide +kernel
theorem dX4_mixed_16 : decode cX4_mixed 16 = .ok (.invokestatic 17, 3) := by decide +kernel
theorem dX4_mixed_19 : decode cX4_mixed 19 = .ok (.l2i, 1) := by decide +kernel
theorem dX4_mixed_20 : decode cX4_mixed 20 = .ok (.ireturn, 1) := by decide +kernel
theorem dX4_neverZero_0 : decode cX4_neverZero 0 = .ok (.iload_n 0, 1) := by decide +kernel
theorem dX4_neverZero_1 : decode cX4_neverZero 1 = .ok (.ifCond .ne 7, 3) := by decide +kernel
theorem dX4_neverZero_4 : decode cX4_neverZero 4 = .ok (.iconst 1, 1) := by decide +kernel
theorem dX4_neverZero_5 : decode cX4_neverZero 5 = .ok (.goto 4, 3) := by decide +kernel
theorem dX4_neverZero_8 : decode cX4_neverZero 8 = .ok (.iload_n 0, 1) := by decide +kernel
theorem dX4_neverZero_9 : decode cX4_neverZero 9 = .ok (.ireturn, 1) := by decide +kernel
theorem dX4_sealOf_0 : decode cX4_sealOf 0 = .ok (.lconst 0, 1) := by decide +kernel
theorem dX4_sealOf_1 : decode cX4_sealOf 1 = .ok (.lstore 4, 2) := by decide +kernel
theorem dX4_sealOf_3 : decode cX4_sealOf 3 = .ok (.iload_n 3, 1) := by decide +kernel
theorem dX4_sealOf_4 : decode cX4_sealOf 4 = .ok (.aload_n 2, 1) := by decide +kernel
theorem dX4_sealOf_5 : decode cX4_sealOf 5 = .ok (.arraylength, 1) := by decide +kernel
theorem dX4_sealOf_6 : decode cX4_sealOf 6 = .ok (.invokestatic 36, 3) := by decide +kernel
theorem dX4_sealOf_9 : decode cX4_sealOf 9 = .ok (.iconst 1, 1) := by decide +kernel
theorem dX4_sealOf_10 : decode cX4_sealOf 10 = .ok (.isub, 1) := by decide +kernel
theorem dX4_sealOf_11 : decode cX4_sealOf 11 = .ok (.istore 6, 2) := by decide +kernel
theorem dX4_sealOf_13 : decode cX4_sealOf 13 = .ok (.iload 6, 2) := by decide +kernel
theorem dX4_sealOf_15 : decode cX4_sealOf 15 = .ok (.ifCond .lt 32, 3) := by decide +kernel
theorem dX4_sealOf_18 : decode cX4_sealOf 18 = .ok (.lload 4, 2) := by decide +kernel
theorem dX4_sealOf_20 : decode cX4_sealOf 20 = .ok (.aload_n 2, 1) := by decide +kernel
theorem dX4_sealOf_21 : decode cX4_sealOf 21 = .ok (.iload 6, 2) := by decide +kernel
theorem dX4_sealOf_23 : decode cX4_sealOf 23 = .ok (.iaload, 1) := by decide +kernel
theorem dX4_sealOf_24 : decode cX4_sealOf 24 = .ok (.i2l, 1) := by decide +kernel
theorem dX4_sealOf_25 : decode cX4_sealOf 25 = .ok (.ladd, 1) := by decide +kernel
theorem dX4_sealOf_26 : decode cX4_sealOf 26 = .ok (.ldc2_w 32, 3) := by decide +kernel
theorem dX4_sealOf_29 : decode cX4_sealOf 29 = .ok (.ladd, 1) := by decide +kernel
theorem dX4_sealOf_30 : decode cX4_sealOf 30 = .ok (.iload_n 0, 1) := by decide +kernel
theorem dX4_sealOf_31 : decode cX4_sealOf 31 = .ok (.i2l, 1) := by decide +kernel
theorem dX4_sealOf_32 : decode cX4_sealOf 32 = .ok (.lmul, 1) := by decide +kernel
theorem dX4_sealOf_33 : decode cX4_sealOf 33 = .ok (.ldc2_w 34, 3) := by decide +kernel
theorem dX4_sealOf_36 : decode cX4_sealOf 36 = .ok (.invokestatic 17, 3) := by decide +kernel
theorem dX4_sealOf_39 : decode cX4_sealOf 39 = .ok (.lstore 4, 2) := by decide +kernel
theorem dX4_sealOf_41 : decode cX4_sealOf 41 = .ok (.iinc 6 (-1), 3) := by decide +kernel
theorem dX4_sealOf_44 : decode cX4_sealOf 44 = .ok (.goto (-31), 3) := by decide +kernel
theorem dX4_sealOf_47 : decode cX4_sealOf 47 = .ok (.lload 4, 2) := by decide +kernel
theorem dX4_sealOf_49 : decode cX4_sealOf 49 = .ok (.iload_n 1, 1) := by decide +kernel
theorem dX4_sealOf_50 : decode cX4_sealOf 50 = .ok (.i2l, 1) := by decide +kernel
theorem dX4_sealOf_51 : decode cX4_sealOf 51 = .ok (.ladd, 1) := by decide +kernel
theorem dX4_sealOf_52 : decode cX4_sealOf 52 = .ok (.ldc2_w 32, 3) := by decide +kernel
theorem dX4_sealOf_55 : decode cX4_sealOf 55 = .ok (.ladd, 1) := by decide +kernel
theorem dX4_sealOf_56 : decode cX4_sealOf 56 = .ok (.iload_n 0, 1) := by decide +kernel
theorem dX4_sealOf_57 : decode cX4_sealOf 57 = .ok (.i2l, 1) := by decide +kernel
theorem dX4_sealOf_58 : decode cX4_sealOf 58 = .ok (.lmul, 1) := by decide +kernel
theorem dX4_sealOf_59 : decode cX4_sealOf 59 = .ok (.ldc2_w 34, 3) := by decide +kernel
theorem dX4_sealOf_62 : decode cX4_sealOf 62 = .ok (.invokestatic 17, 3) := by decide +kernel
theorem dX4_sealOf_65 : decode cX4_sealOf 65 = .ok (.l2i, 1) := by decide +kernel
theorem dX4_sealOf_66 : decode cX4_sealOf 66 = .ok (.ireturn, 1) := by decide +kernel
theorem dX4_added_0 : decode cX4_added 0 = .ok (.ldc2_w 30, 3) := by decide +kernel
theorem dX4_added_3 : decode cX4_added 3 = .ok (.lload_n 0, 1) := by decide +kernel
theorem dX4_added_4 : decode cX4_added 4 = .ok (.lmul, 1) := by decide +kernel
theorem dX4_added_5 : decode cX4_added 5 = .ok (.iload_n 2, 1) := by decide +kernel
theorem dX4_added_6 : decode cX4_added 6 = .ok (.i2l, 1) := by decide +kernel
theorem dX4_added_7 : decode cX4_added 7 = .ok (.ladd, 1) := by decide +kernel
theorem dX4_added_8 : decode cX4_added 8 = .ok (.lreturn, 1) := by decide +kernel
theorem dX5_init_0 : decode cX5_init 0 = .ok (.aload_n 0, 1) := by decide +kernel
theorem dX5_init_1 : decode cX5_init 1 = .ok (.invokespecial 1, 3) := by decide +kernel
theorem dX5_init_4 : decode cX5_init 4 = .ok (.aload_n 0, 1) := by decide +kernel
theorem dX5_init_5 : decode cX5_init 5 = .ok (.iload_n 1, 1) := by decide +kernel
theorem dX5_init_6 : decode cX5_init 6 = .ok (.putfield 7, 3) := by decide +kernel
theorem dX5_init_9 : decode cX5_init 9 = .ok (.aload_n 0, 1) := by decide +kernel
theorem dX5_init_10 : decode cX5_init 10 = .ok (.iload_n 2, 1) := by decide +kernel
theorem dX5_init_11 : decode cX5_init 11 = .ok (.putfield 13, 3) := by decide +kernel
theorem dX5_init_14 : decode cX5_init 14 = .ok (.aload_n 0, 1) := by decide +kernel
theorem dX5_init_15 : decode cX5_init 15 = .ok (.iload_n 3, 1) := by decide +kernel
theorem dX5_init_16 : decode cX5_init 16 = .ok (.putfield 16, 3) := by decide +kernel
theorem dX5_init_19 : decode cX5_init 19 = .ok (.aload_n 0, 1) := by decide +kernel
theorem dX5_init_20 : decode cX5_init 20 = .ok (.iload 4, 2) := by decide +kernel
theorem dX5_init_22 : decode cX5_init 22 = .ok (.putfield 19, 3) := by decide +kernel
theorem dX5_init_25 : decode cX5_init 25 = .ok (.return_, 1) := by decide +kernel
theorem dX6_init_0 : decode cX6_init 0 = .ok (.aload_n 0, 1) := by decide +kernel
theorem dX6_init_1 : decode cX6_init 1 = .ok (.invokespecial 1, 3) := by decide +kernel
theorem dX6_init_4 : decode cX6_init 4 = .ok (.aload_n 0, 1) := by decide +kernel
theorem dX6_init_5 : decode cX6_init 5 = .ok (.iload_n 1, 1) := by decide +kernel
theorem dX6_init_6 : decode cX6_init 6 = .ok (.putfield 7, 3) := by decide +kernel
theorem dX6_init_9 : decode cX6_init 9 = .ok (.aload_n 0, 1) := by decide +kernel
theorem dX6_init_10 : decode cX6_init 10 = .ok (.iload_n 2, 1) := by decide +kernel
theorem dX6_init_11 : decode cX6_init 11 = .ok (.putfield 13, 3) := by decide +kernel
theorem dX6_init_14 : decode cX6_init 14 = .ok (.aload_n 0, 1) := by decide +kernel
theorem dX6_init_15 : decode cX6_init 15 = .ok (.iload_n 3, 1) := by decide +kernel
theorem dX6_init_16 : decode cX6_init 16 = .ok (.putfield 16, 3) := by decide +kernel
theorem dX6_init_19 : decode cX6_init 19 = .ok (.return_, 1) := by decide +kernel
theorem dX7_init_0 : decode cX7_init 0 = .ok (.aload_n 0, 1) := by decide +kernel
theorem dX7_init_1 : decode cX7_init 1 = .ok (.invokespecial 3, 3) := by decide +kernel
theorem dX7_init_4 : decode cX7_init 4 = .ok (.aload_n 0, 1) := by decide +kernel
theorem dX7_init_5 : decode cX7_init 5 = .ok (.iconst 0, 1) := by decide +kernel
theorem dX7_init_6 : decode cX7_init 6 = .ok (.putfield 9, 3) := by decide +kernel
theorem dX7_init_9 : decode cX7_init 9 = .ok (.aload_n 0, 1) := by decide +kernel
theorem dX7_init_10 : decode cX7_init 10 = .ok (.iconst 0, 1) := by decide +kernel
theorem dX7_init_11 : decode cX7_init 11 = .ok (.putfield 15, 3) := by decide +kernel
theorem dX7_init_14 : decode cX7_init 14 = .ok (.aload_n 0, 1) := by decide +kernel
theorem dX7_init_15 : decode cX7_init 15 = .ok (.iconst (-1), 1) := by decide +kernel
theorem dX7_init_16 : decode cX7_init 16 = .ok (.putfield 18, 3) := by decide +kernel
theorem dX7_init_19 : decode cX7_init 19 = .ok (.aload_n 0, 1) := by decide +kernel
theorem dX7_init_20 : decode cX7_init 20 = .ok (.lconst 0, 1) := by decide +kernel
theorem dX7_init_21 : decode cX7_init 21 = .ok (.putfield 21, 3) := by decide +kernel
theorem dX7_init_24 : decode cX7_init 24 = .ok (.aload_n 0, 1) := by decide +kernel
theorem dX7_init_25 : decode cX7_init 25 = .ok (.iload_n 1, 1) := by decide +kernel
theorem dX7_init_26 : decode cX7_init 26 = .ok (.putfield 25, 3) := by decide +kernel
theorem dX7_init_29 : decode cX7_init 29 = .ok (.aload_n 0, 1) := by decide +kernel
theorem dX7_init_30 : decode cX7_init 30 = .ok (.iload_n 2, 1) := by decide +kernel
theorem dX7_init_31 : decode cX7_init 31 = .ok (.putfield 28, 3) := by decide +kernel
theorem dX7_init_34 : decode cX7_init 34 = .ok (.aload_n 0, 1) := by decide +kernel
theorem dX7_init_35 : decode cX7_init 35 = .ok (.iload_n 3, 1) := by decide +kernel
theorem dX7_init_36 : decode cX7_init 36 = .ok (.putfield 31, 3) := by decide +kernel
theorem dX7_init_39 : decode cX7_init 39 = .ok (.aload_n 0, 1) := by decide +kernel
theorem dX7_init_40 : decode cX7_init 40 = .ok (.iload 4, 2) := by decide +kernel
theorem dX7_init_42 : decode cX7_init 42 = .ok (.putfield 34, 3) := by decide +kernel
theorem dX7_init_45 : decode cX7_init 45 = .ok (.aload_n 0, 1) := by decide +kernel
theorem dX7_init_46 : decode cX7_init 46 = .ok (.iconst 5, 1) := by decide +kernel
theorem dX7_init_47 : decode cX7_init 47 = .ok (.iload 5, 2) := by decide +kernel
theorem dX7_init_49 : decode cX7_init 49 = .ok (.iload 4, 2) := by decide +kernel
theorem dX7_init_51 : decode cX7_init 51 = .ok (.ifCond .eq 7, 3) := by decide +kernel
theorem dX7_init_54 : decode cX7_init 54 = .ok (.iconst 0, 1) := by decide +kernel
theorem dX7_init_55 : decode cX7_init 55 = .ok (.goto 4, 3) := by decide +kernel
theorem dX7_init_58 : decode cX7_init 58 = .ok (.iconst 1, 1) := by decide +kernel
theorem dX7_init_59 : decode cX7_init 59 = .ok (.invokestatic 38, 3) := by decide +kernel
theorem dX7_init_62 : decode cX7_init 62 = .ok (.putfield 44, 3) := by decide +kernel
theorem dX7_init_65 : decode cX7_init 65 = .ok (.aload_n 0, 1) := by decide +kernel
theorem dX7_init_66 : decode cX7_init 66 = .ok (.iconst 5, 1) := by decide +kernel
theorem dX7_init_67 : decode cX7_init 67 = .ok (.iload 5, 2) := by decide +kernel
theorem dX7_init_69 : decode cX7_init 69 = .ok (.iload 4, 2) := by decide +kernel
theorem dX7_init_71 : decode cX7_init 71 = .ok (.ifCond .eq 7, 3) := by decide +kernel
theorem dX7_init_74 : decode cX7_init 74 = .ok (.iconst 1, 1) := by decide +kernel
theorem dX7_init_75 : decode cX7_init 75 = .ok (.goto 4, 3) := by decide +kernel
theorem dX7_init_78 : decode cX7_init 78 = .ok (.iconst 0, 1) := by decide +kernel
theorem dX7_init_79 : decode cX7_init 79 = .ok (.invokestatic 38, 3) := by decide +kernel
theorem dX7_init_82 : decode cX7_init 82 = .ok (.putfield 47, 3) := by decide +kernel
theorem dX7_init_85 : decode cX7_init 85 = .ok (.return_, 1) := by decide +kernel
theorem dX7_canTake_0 : decode cX7_canTake 0 = .ok (.iload_n 1, 1) := by decide +kernel
theorem dX7_canTake_1 : decode cX7_canTake 1 = .ok (.ifCond .lt 22, 3) := by decide +kernel
theorem dX7_canTake_4 : decode cX7_canTake 4 = .ok (.iload_n 1, 1) := by decide +kernel
theorem dX7_canTake_5 : decode cX7_canTake 5 = .ok (.bipush 40, 2) := by decide +kernel
theorem dX7_canTake_7 : decode cX7_canTake 7 = .ok (.if_icmp .ge 16, 3) := by decide +kernel
theorem dX7_canTake_10 : decode cX7_canTake 10 = .ok (.aload_n 0, 1) := by decide +kernel
theorem dX7_canTake_11 : decode cX7_canTake 11 = .ok (.getfield 21, 3) := by decide +kernel
theorem dX7_canTake_14 : decode cX7_canTake 14 = .ok (.iload_n 1, 1) := by decide +kernel
theorem dX7_canTake_15 : decode cX7_canTake 15 = .ok (.lushr, 1) := by decide +kernel
theorem dX7_canTake_16 : decode cX7_canTake 16 = .ok (.lconst 1, 1) := by decide +kernel
theorem dX7_canTake_17 : decode cX7_canTake 17 = .ok (.land, 1) := by decide +kernel
theorem dX7_canTake_18 : decode cX7_canTake 18 = .ok (.lconst 1, 1) := by decide +kernel
theorem dX7_canTake_19 : decode cX7_canTake 19 = .ok (.lcmp, 1) := by decide +kernel
theorem dX7_canTake_20 : decode cX7_canTake 20 = .ok (.ifCond .ne 5, 3) := by decide +kernel
theorem dX7_canTake_23 : decode cX7_canTake 23 = .ok (.iconst 0, 1) := by decide +kernel
theorem dX7_canTake_24 : decode cX7_canTake 24 = .ok (.ireturn, 1) := by decide +kernel
theorem dX7_canTake_25 : decode cX7_canTake 25 = .ok (.aload_n 0, 1) := by decide +kernel
theorem dX7_canTake_26 : decode cX7_canTake 26 = .ok (.getfield 18, 3) := by decide +kernel
theorem dX7_canTake_29 : decode cX7_canTake 29 = .ok (.iconst (-1), 1) := by decide +kernel
theorem dX7_canTake_30 : decode cX7_canTake 30 = .ok (.if_icmp .eq 14, 3) := by decide +kernel
theorem dX7_canTake_33 : decode cX7_canTake 33 = .ok (.iload_n 1, 1) := by decide +kernel
theorem dX7_canTake_34 : decode cX7_canTake 34 = .ok (.aload_n 0, 1) := by decide +kernel
theorem dX7_canTake_35 : decode cX7_canTake 35 = .ok (.getfield 18, 3) := by decide +kernel
theorem dX7_canTake_38 : decode cX7_canTake 38 = .ok (.bipush 16, 2) := by decide +kernel
theorem dX7_canTake_40 : decode cX7_canTake 40 = .ok (.isub, 1) := by decide +kernel
theorem dX7_canTake_41 : decode cX7_canTake 41 = .ok (.if_icmp .le 7, 3) := by decide +kernel
theorem dX7_canTake_44 : decode cX7_canTake 44 = .ok (.iconst 1, 1) := by decide +kernel
theorem dX7_canTake_45 : decode cX7_canTake 45 = .ok (.goto 4, 3) := by decide +kernel
theorem dX7_canTake_48 : decode cX7_canTake 48 = .ok (.iconst 0, 1) := by decide +kernel
theorem dX7_canTake_49 : decode cX7_canTake 49 = .ok (.ireturn, 1) := by decide +kernel
theorem dX7_take_0 : decode cX7_take 0 = .ok (.aload_n 0, 1) := by decide +kernel
theorem dX7_take_1 : decode cX7_take 1 = .ok (.dup, 1) := by decide +kernel
theorem dX7_take_2 : decode cX7_take 2 = .ok (.getfield 21, 3) := by decide +kernel
theorem dX7_take_5 : decode cX7_take 5 = .ok (.lconst 1, 1) := by decide +kernel
theorem dX7_take_6 : decode cX7_take 6 = .ok (.iload_n 1, 1) := by decide +kernel
theorem dX7_take_7 : decode cX7_take 7 = .ok (.lshl, 1) := by decide +kernel
theorem dX7_take_8 : decode cX7_take 8 = .ok (.lor, 1) := by decide +kernel
theorem dX7_take_9 : decode cX7_take 9 = .ok (.putfield 21, 3) := by decide +kernel
theorem dX7_take_12 : decode cX7_take 12 = .ok (.aload_n 0, 1) := by decide +kernel
theorem dX7_take_13 : decode cX7_take 13 = .ok (.dup, 1) := by decide +kernel
theorem dX7_take_14 : decode cX7_take 14 = .ok (.getfield 15, 3) := by decide +kernel
theorem dX7_take_17 : decode cX7_take 17 = .ok (.iconst 1, 1) := by decide +kernel
theorem dX7_take_18 : decode cX7_take 18 = .ok (.iadd, 1) := by decide +kernel
theorem dX7_take_19 : decode cX7_take 19 = .ok (.putfield 15, 3) := by decide +kernel
theorem dX7_take_22 : decode cX7_take 22 = .ok (.aload_n 0, 1) := by decide +kernel
theorem dX7_take_23 : decode cX7_take 23 = .ok (.aload_n 0, 1) := by decide +kernel
theorem dX7_take_24 : decode cX7_take 24 = .ok (.getfield 18, 3) := by decide +kernel
theorem dX7_take_27 : decode cX7_take 27 = .ok (.iload_n 1, 1) := by decide +kernel
theorem dX7_take_28 : decode cX7_take 28 = .ok (.invokestatic 50, 3) := by decide +kernel
theorem dX7_take_31 : decode cX7_take 31 = .ok (.putfield 18, 3) := by decide +kernel
theorem dX7_take_34 : decode cX7_take 34 = .ok (.return_, 1) := by decide +kernel
theorem dX8_init_0 : decode cX8_init 0 = .ok (.aload_n 0, 1) := by decide +kernel
theorem dX8_init_1 : decode cX8_init 1 = .ok (.invokespecial 1, 3) := by decide +kernel
theorem dX8_init_4 : decode cX8_init 4 = .ok (.aload_n 0, 1) := by decide +kernel
theorem dX8_init_5 : decode cX8_init 5 = .ok (.iconst 3, 1) := by decide +kernel
theorem dX8_init_6 : decode cX8_init 6 = .ok (.anewarray 9, 3) := by decide +kernel
theorem dX8_init_9 : decode cX8_init 9 = .ok (.putfield 11, 3) := by decide +kernel
theorem dX8_init_12 : decode cX8_init 12 = .ok (.aload_n 0, 1) := by decide +kernel
theorem dX8_init_13 : decode cX8_init 13 = .ok (.new 15, 3) := by decide +kernel
theorem dX8_init_16 : decode cX8_init 16 = .ok (.dup, 1) := by decide +kernel
theorem dX8_init_17 : decode cX8_init 17 = .ok (.invokespecial 17, 3) := by decide +kernel
theorem dX8_init_20 : decode cX8_init 20 = .ok (.putfield 18, 3) := by decide +kernel
theorem dX8_init_23 : decode cX8_init 23 = .ok (.aload_n 0, 1) := by decide +kernel
theorem dX8_init_24 : decode cX8_init 24 = .ok (.bipush 11, 2) := by decide +kernel
theorem dX8_init_26 : decode cX8_init 26 = .ok (.newarray .int, 2) := by decide +kernel
theorem dX8_init_28 : decode cX8_init 28 = .ok (.putfield 22, 3) := by decide +kernel
theorem dX8_init_31 : decode cX8_init 31 = .ok (.aload_n 0, 1) := by decide +kernel
theorem dX8_init_32 : decode cX8_init 32 = .ok (.iconst 0, 1) := by decide +kernel
theorem dX8_init_33 : decode cX8_init 33 = .ok (.putfield 26, 3) := by decide +kernel
theorem dX8_init_36 : decode cX8_init 36 = .ok (.aload_n 0, 1) := by decide +kernel
theorem dX8_init_37 : decode cX8_init 37 = .ok (.iconst 0, 1) := by decide +kernel
theorem dX8_init_38 : decode cX8_init 38 = .ok (.putfield 30, 3) := by decide +kernel
theorem dX8_init_41 : decode cX8_init 41 = .ok (.aload_n 0, 1) := by decide +kernel
theorem dX8_init_42 : decode cX8_init 42 = .ok (.iconst 0, 1) := by decide +kernel
theorem dX8_init_43 : decode cX8_init 43 = .ok (.putfield 33, 3) := by decide +kernel
theorem dX8_init_46 : decode cX8_init 46 = .ok (.iconst 0, 1) := by decide +kernel
theorem dX8_init_47 : decode cX8_init 47 = .ok (.istore_n 1, 1) := by decide +kernel
theorem dX8_init_48 : decode cX8_init 48 = .ok (.iload_n 1, 1) := by decide +kernel
theorem dX8_init_49 : decode cX8_init 49 = .ok (.aload_n 0, 1) := by decide +kernel
theorem dX8_init_50 : decode cX8_init 50 = .ok (.getfield 11, 3) := by decide +kernel
theorem dX8_init_53 : decode cX8_init 53 = .ok (.arraylength, 1) := by decide +kernel
theorem dX8_init_54 : decode cX8_init 54 = .ok (.if_icmp .ge 23, 3) := by decide +kernel
theorem dX8_init_57 : decode cX8_init 57 = .ok (.aload_n 0, 1) := by decide +kernel
theorem dX8_init_58 : decode cX8_init 58 = .ok (.getfield 11, 3) := by decide +kernel
theorem dX8_init_61 : decode cX8_init 61 = .ok (.iload_n 1, 1) := by decide +kernel
theorem dX8_init_62 : decode cX8_init 62 = .ok (.new 9, 3) := by decide +kernel
theorem dX8_init_65 : decode cX8_init 65 = .ok (.dup, 1) := by decide +kernel
theorem dX8_init_66 : decode cX8_init 66 = .ok (.iload_n 1, 1) := by decide +kernel
theorem dX8_init_67 : decode cX8_init 67 = .ok (.invokespecial 36, 3) := by decide +kernel
theorem dX8_init_70 : decode cX8_init 70 = .ok (.aastore, 1) := by decide +kernel
theorem dX8_init_71 : decode cX8_init 71 = .ok (.iinc 1 1, 3) := by decide +kernel
theorem dX8_init_74 : decode cX8_init 74 = .ok (.goto (-26), 3) := by decide +kernel
theorem dX8_init_77 : decode cX8_init 77 = .ok (.return_, 1) := by decide +kernel
theorem dX8_pass_0 : decode cX8_pass 0 = .ok (.iload_n 1, 1) := by decide +kernel
theorem dX8_pass_1 : decode cX8_pass 1 = .ok (.iconst 1, 1) := by decide +kernel
theorem dX8_pass_2 : decode cX8_pass 2 = .ok (.if_icmp .lt 9, 3) := by decide +kernel
theorem dX8_pass_5 : decode cX8_pass 5 = .ok (.iload_n 1, 1) := by decide +kernel
theorem dX8_pass_6 : decode cX8_pass 6 = .ok (.bipush 60, 2) := by decide +kernel
theorem dX8_pass_8 : decode cX8_pass 8 = .ok (.if_icmp .le 13, 3) := by decide +kernel
theorem dX8_pass_11 : decode cX8_pass 11 = .ok (.new 39, 3) := by decide +kernel
theorem dX8_pass_14 : decode cX8_pass 14 = .ok (.dup, 1) := by decide +kernel
theorem dX8_pass_15 : decode cX8_pass 15 = .ok (.ldc 41, 2) := by decide +kernel
theorem dX8_pass_17 : decode cX8_pass 17 = .ok (.invokespecial 43, 3) := by decide +kernel
theorem dX8_pass_20 : decode cX8_pass 20 = .ok (.athrow, 1) := by decide +kernel
theorem dX8_pass_21 : decode cX8_pass 21 = .ok (.aload_n 0, 1) := by decide +kernel
theorem dX8_pass_22 : decode cX8_pass 22 = .ok (.getfield 26, 3) := by decide +kernel
theorem dX8_pass_25 : decode cX8_pass 25 = .ok (.ldc 46, 2) := by decide +kernel
theorem dX8_pass_27 : decode cX8_pass 27 = .ok (.iload_n 1, 1) := by decide +kernel
theorem dX8_pass_28 : decode cX8_pass 28 = .ok (.isub, 1) := by decide +kernel
theorem dX8_pass_29 : decode cX8_pass 29 = .ok (.if_icmp .le 13, 3) := by decide +kernel
theorem dX8_pass_32 : decode cX8_pass 32 = .ok (.new 47, 3) := by decide +kernel
theorem dX8_pass_35 : decode cX8_pass 35 = .ok (.dup, 1) := by decide +kernel
theorem dX8_pass_36 : decode cX8_pass 36 = .ok (.ldc 49, 2) := by decide +kernel
theorem dX8_pass_38 : decode cX8_pass 38 = .ok (.invokespecial 51, 3) := by decide +kernel
theorem dX8_pass_41 : decode cX8_pass 41 = .ok (.athrow, 1) := by decide +kernel
theorem dX8_pass_42 : decode cX8_pass 42 = .ok (.aload_n 0, 1) := by decide +kernel
theorem dX8_pass_43 : decode cX8_pass 43 = .ok (.dup, 1) := by decide +kernel
theorem dX8_pass_44 : decode cX8_pass 44 = .ok (.getfield 26, 3) := by decide +kernel
theorem dX8_pass_47 : decode cX8_pass 47 = .ok (.iload_n 1, 1) := by decide +kernel
theorem dX8_pass_48 : decode cX8_pass 48 = .ok (.iadd, 1) := by decide +kernel
theorem dX8_pass_49 : decode cX8_pass 49 = .ok (.putfield 26, 3) := by decide +kernel
theorem dX8_pass_52 : decode cX8_pass 52 = .ok (.aload_n 0, 1) := by decide +kernel
theorem dX8_pass_53 : decode cX8_pass 53 = .ok (.getfield 26, 3) := by decide +kernel
theorem dX8_pass_56 : decode cX8_pass 56 = .ok (.ireturn, 1) := by decide +kernel
theorem dX8_move_0 : decode cX8_move 0 = .ok (.aload_n 0, 1) := by decide +kernel
theorem dX8_move_1 : decode cX8_move 1 = .ok (.iload_n 1, 1) := by decide +kernel
theorem dX8_move_2 : decode cX8_move 2 = .ok (.invokevirtual 52, 3) := by decide +kernel
theorem dX8_move_5 : decode cX8_move 5 = .ok (.astore_n 3, 1) := by decide +kernel
theorem dX8_move_6 : decode cX8_move 6 = .ok (.iload_n 2, 1) := by decide +kernel
theorem dX8_move_7 : decode cX8_move 7 = .ok (.iconst 1, 1) := by decide +kernel
theorem dX8_move_8 : decode cX8_move 8 = .ok (.bipush 99, 2) := by decide +kernel
theorem dX8_move_10 : decode cX8_move 10 = .ok (.invokestatic 56, 3) := by decide +kernel
theorem dX8_move_13 : decode cX8_move 13 = .ok (.aload_n 0, 1) := by decide +kernel
theorem dX8_move_14 : decode cX8_move 14 = .ok (.iload_n 2, 1) := by decide +kernel
theorem dX8_move_15 : decode cX8_move 15 = .ok (.invokevirtual 60, 3) := by decide +kernel
theorem dX8_move_18 : decode cX8_move 18 = .ok (.astore 4, 2) := by decide +kernel
theorem dX8_move_20 : decode cX8_move 20 = .ok (.aload 4, 2) := by decide +kernel
theorem dX8_move_22 : decode cX8_move 22 = .ok (.ifnull 19, 3) := by decide +kernel
theorem dX8_move_25 : decode cX8_move 25 = .ok (.aload 4, 2) := by decide +kernel
theorem dX8_move_27 : decode cX8_move 27 = .ok (.aload_n 3, 1) := by decide +kernel
theorem dX8_move_28 : decode cX8_move 28 = .ok (.if_acmp .eq 13, 3) := by decide +kernel
theorem dX8_move_31 : decode cX8_move 31 = .ok (.new 39, 3) := by decide +kernel
theorem dX8_move_34 : decode cX8_move 34 = .ok (.dup, 1) := by decide +kernel
theorem dX8_move_35 : decode cX8_move 35 = .ok (.ldc 63, 2) := by decide +kernel
theorem dX8_move_37 : decode cX8_move 37 = .ok (.invokespecial 43, 3) := by decide +kernel
theorem dX8_move_40 : decode cX8_move 40 = .ok (.athrow, 1) := by decide +kernel
theorem dX8_move_41 : decode cX8_move 41 = .ok (.aload_n 3, 1) := by decide +kernel
theorem dX8_move_42 : decode cX8_move 42 = .ok (.getfield 65, 3) := by decide +kernel
theorem dX8_move_45 : decode cX8_move 45 = .ok (.istore 5, 2) := by decide +kernel
theorem dX8_move_47 : decode cX8_move 47 = .ok (.aload_n 3, 1) := by decide +kernel
theorem dX8_move_48 : decode cX8_move 48 = .ok (.iload_n 2, 1) := by decide +kernel
theorem dX8_move_49 : decode cX8_move 49 = .ok (.putfield 65, 3) := by decide +kernel
theorem dX8_move_52 : decode cX8_move 52 = .ok (.iload 5, 2) := by decide +kernel
theorem dX8_move_54 : decode cX8_move 54 = .ok (.ireturn, 1) := by decide +kernel
theorem dX8_load_0 : decode cX8_load 0 = .ok (.aload_n 0, 1) := by decide +kernel
theorem dX8_load_1 : decode cX8_load 1 = .ok (.iload_n 1, 1) := by decide +kernel
theorem dX8_load_2 : decode cX8_load 2 = .ok (.invokevirtual 52, 3) := by decide +kernel
theorem dX8_load_5 : decode cX8_load 5 = .ok (.astore_n 3, 1) := by decide +kernel
theorem dX8_load_6 : decode cX8_load 6 = .ok (.aload_n 3, 1) := by decide +kernel
theorem dX8_load_7 : decode cX8_load 7 = .ok (.getfield 68, 3) := by decide +kernel
theorem dX8_load_10 : decode cX8_load 10 = .ok (.istore 4, 2) := by decide +kernel
theorem dX8_load_12 : decode cX8_load 12 = .ok (.aload_n 3, 1) := by decide +kernel
theorem dX8_load_13 : decode cX8_load 13 = .ok (.iload_n 2, 1) := by decide +kernel
theorem dX8_load_14 : decode cX8_load 14 = .ok (.putfield 68, 3) := by decide +kernel
theorem dX8_load_17 : decode cX8_load 17 = .ok (.iload 4, 2) := by decide +kernel
theorem dX8_load_19 : decode cX8_load 19 = .ok (.ireturn, 1) := by decide +kernel
theorem dX8_allow_0 : decode cX8_allow 0 = .ok (.aload_n 0, 1) := by decide +kernel
theorem dX8_allow_1 : decode cX8_allow 1 = .ok (.iload_n 1, 1) := by decide +kernel
theorem dX8_allow_2 : decode cX8_allow 2 = .ok (.invokevirtual 52, 3) := by decide +kernel
theorem dX8_allow_5 : decode cX8_allow 5 = .ok (.astore 5, 2) := by decide +kernel
theorem dX8_allow_7 : decode cX8_allow 7 = .ok (.aload_n 0, 1) := by decide +kernel
theorem dX8_allow_8 : decode cX8_allow 8 = .ok (.iload_n 1, 1) := by decide +kernel
theorem dX8_allow_9 : decode cX8_allow 9 = .ok (.iload_n 2, 1) := by decide +kernel
theorem dX8_allow_10 : decode cX8_allow 10 = .ok (.invokevirtual 72, 3) := by decide +kernel
theorem dX8_allow_13 : decode cX8_allow 13 = .ok (.pop, 1) := by decide +kernel
theorem dX8_allow_14 : decode cX8_allow 14 = .ok (.iload_n 3, 1) := by decide +kernel
theorem dX8_allow_15 : decode cX8_allow 15 = .ok (.iconst 0, 1) := by decide +kernel
theorem dX8_allow_16 : decode cX8_allow 16 = .ok (.sipush 255, 3) := by decide +kernel
theorem dX8_allow_19 : decode cX8_allow 19 = .ok (.invokestatic 56, 3) := by decide +kernel
theorem dX8_allow_22 : decode cX8_allow 22 = .ok (.iload 4, 2) := by decide +kernel
theorem dX8_allow_24 : decode cX8_allow 24 = .ok (.iconst 0, 1) := by decide +kernel
theorem dX8_allow_25 : decode cX8_allow 25 = .ok (.bipush 8, 2) := by decide +kernel
theorem dX8_allow_27 : decode cX8_allow 27 = .ok (.invokestatic 56, 3) := by decide +kernel
theorem dX8_allow_30 : decode cX8_allow 30 = .ok (.iload_n 3, 1) := by decide +kernel
theorem dX8_allow_31 : decode cX8_allow 31 = .ok (.iload 4, 2) := by decide +kernel
theorem dX8_allow_33 : decode cX8_allow 33 = .ok (.invokestatic 76, 3) := by decide +kernel
theorem dX8_allow_36 : decode cX8_allow 36 = .ok (.istore 6, 2) := by decide +kernel
theorem dX8_allow_38 : decode cX8_allow 38 = .ok (.aload 5, 2) := by decide +kernel
theorem dX8_allow_40 : decode cX8_allow 40 = .ok (.iload 6, 2) := by decide +kernel
theorem dX8_allow_42 : decode cX8_allow 42 = .ok (.iload 4, 2) := by decide +kernel
theorem dX8_allow_44 : decode cX8_allow 44 = .ok (.invokevirtual 80, 3) := by decide +kernel
theorem dX8_allow_47 : decode cX8_allow 47 = .ok (.istore 7, 2) := by decide +kernel
theorem dX8_allow_49 : decode cX8_allow 49 = .ok (.iload 7, 2) := by decide +kernel
theorem dX8_allow_51 : decode cX8_allow 51 = .ok (.iconst (-1), 1) := by decide +kernel
theorem dX8_allow_52 : decode cX8_allow 52 = .ok (.if_icmp .ne 26, 3) := by decide +kernel
theorem dX8_allow_55 : decode cX8_allow 55 = .ok (.aload 5, 2) := by decide +kernel
theorem dX8_allow_57 : decode cX8_allow 57 = .ok (.getfield 83, 3) := by decide +kernel
theorem dX8_allow_60 : decode cX8_allow 60 = .ok (.invokevirtual 86, 3) := by decide +kernel
theorem dX8_allow_63 : decode cX8_allow 63 = .ok (.bipush 8, 2) := by decide +kernel
theorem dX8_allow_65 : decode cX8_allow 65 = .ok (.if_icmp .lt 13, 3) := by decide +kernel
theorem dX8_allow_68 : decode cX8_allow 68 = .ok (.new 47, 3) := by decide +kernel
theorem dX8_allow_71 : decode cX8_allow 71 = .ok (.dup, 1) := by decide +kernel
theorem dX8_allow_72 : decode cX8_allow 72 = .ok (.ldc 90, 2) := by decide +kernel
theorem dX8_allow_74 : decode cX8_allow 74 = .ok (.invokespecial 51, 3) := by decide +kernel
theorem dX8_allow_77 : decode cX8_allow 77 = .ok (.athrow, 1) := by decide +kernel
theorem dX8_allow_78 : decode cX8_allow 78 = .ok (.iload 7, 2) := by decide +kernel
theorem dX8_allow_80 : decode cX8_allow 80 = .ok (.ifCond .lt 36, 3) := by decide +kernel
theorem dX8_allow_83 : decode cX8_allow 83 = .ok (.iload 7, 2) := by decide +kernel
theorem dX8_allow_85 : decode cX8_allow 85 = .ok (.aload 5, 2) := by decide +kernel
theorem dX8_allow_87 : decode cX8_allow 87 = .ok (.getfield 83, 3) := by decide +kernel
theorem dX8_allow_90 : decode cX8_allow 90 = .ok (.invokevirtual 86, 3) := by decide +kernel
theorem dX8_allow_93 : decode cX8_allow 93 = .ok (.if_icmp .ge 23, 3) := by decide +kernel
theorem dX8_allow_96 : decode cX8_allow 96 = .ok (.aload 5, 2) := by decide +kernel
theorem dX8_allow_98 : decode cX8_allow 98 = .ok (.getfield 83, 3) := by decide +kernel
theorem dX8_allow_101 : decode cX8_allow 101 = .ok (.iload 7, 2) := by decide +kernel
theorem dX8_allow_103 : decode cX8_allow 103 = .ok (.invokevirtual 92, 3) := by decide +kernel
theorem dX8_allow_106 : decode cX8_allow 106 = .ok (.checkcast 96, 3) := by decide +kernel
theorem dX8_allow_109 : decode cX8_allow 109 = .ok (.iload_n 2, 1) := by decide +kernel
theorem dX8_allow_110 : decode cX8_allow 110 = .ok (.putfield 98, 3) := by decide +kernel
theorem dX8_allow_113 : decode cX8_allow 113 = .ok (.goto 24, 3) := by decide +kernel
theorem dX8_allow_116 : decode cX8_allow 116 = .ok (.aload 5, 2) := by decide +kernel
theorem dX8_allow_118 : decode cX8_allow 118 = .ok (.getfield 83, 3) := by decide +kernel
theorem dX8_allow_121 : decode cX8_allow 121 = .ok (.new 96, 3) := by decide +kernel
theorem dX8_allow_124 : decode cX8_allow 124 = .ok (.dup, 1) := by decide +kernel
theorem dX8_allow_125 : decode cX8_allow 125 = .ok (.iload 6, 2) := by decide +kernel
theorem dX8_allow_127 : decode cX8_allow 127 = .ok (.iload 4, 2) := by decide +kernel
theorem dX8_allow_129 : decode cX8_allow 129 = .ok (.iload_n 2, 1) := by decide +kernel
theorem dX8_allow_130 : decode cX8_allow 130 = .ok (.invokespecial 101, 3) := by decide +kernel
theorem dX8_allow_133 : decode cX8_allow 133 = .ok (.invokevirtual 103, 3) := by decide +kernel
theorem dX8_allow_136 : decode cX8_allow 136 = .ok (.pop, 1) := by decide +kernel
theorem dX8_allow_137 : decode cX8_allow 137 = .ok (.aload 5, 2) := by decide +kernel
theorem dX8_allow_139 : decode cX8_allow 139 = .ok (.getfield 83, 3) := by decide +kernel
theorem dX8_allow_142 : decode cX8_allow 142 = .ok (.invokevirtual 86, 3) := by decide +kernel
theorem dX8_allow_145 : decode cX8_allow 145 = .ok (.ireturn, 1) := by decide +kernel
theorem dX8_forbid_0 : decode cX8_forbid 0 = .ok (.aload_n 0, 1) := by decide +kernel
theorem dX8_forbid_1 : decode cX8_forbid 1 = .ok (.iload_n 1, 1) := by decide +kernel
theorem dX8_forbid_2 : decode cX8_forbid 2 = .ok (.invokevirtual 52, 3) := by decide +kernel
theorem dX8_forbid_5 : decode cX8_forbid 5 = .ok (.astore 4, 2) := by decide +kernel
theorem dX8_forbid_7 : decode cX8_forbid 7 = .ok (.iload_n 2, 1) := by decide +kernel
theorem dX8_forbid_8 : decode cX8_forbid 8 = .ok (.iconst 0, 1) := by decide +kernel
theorem dX8_forbid_9 : decode cX8_forbid 9 = .ok (.sipush 255, 3) := by decide +kernel
theorem dX8_forbid_12 : decode cX8_forbid 12 = .ok (.invokestatic 56, 3) := by decide +kernel
theorem dX8_forbid_15 : decode cX8_forbid 15 = .ok (.iload_n 3, 1) := by decide +kernel
theorem dX8_forbid_16 : decode cX8_forbid 16 = .ok (.iconst 0, 1) := by decide +kernel
theorem dX8_forbid_17 : decode cX8_forbid 17 = .ok (.bipush 8, 2) := by decide +kernel
theorem dX8_forbid_19 : decode cX8_forbid 19 = .ok (.invokestatic 56, 3) := by decide +kernel
theorem dX8_forbid_22 : decode cX8_forbid 22 = .ok (.aload 4, 2) := by decide +kernel
theorem dX8_forbid_24 : decode cX8_forbid 24 = .ok (.iload_n 2, 1) := by decide +kernel
theorem dX8_forbid_25 : decode cX8_forbid 25 = .ok (.iload_n 3, 1) := by decide +kernel
theorem dX8_forbid_26 : decode cX8_forbid 26 = .ok (.invokestatic 76, 3) := by decide +kernel
theorem dX8_forbid_29 : decode cX8_forbid 29 = .ok (.iload_n 3, 1) := by decide +kernel
theorem dX8_forbid_30 : decode cX8_forbid 30 = .ok (.invokevirtual 80, 3) := by decide +kernel
theorem dX8_forbid_33 : decode cX8_forbid 33 = .ok (.istore 5, 2) := by decide +kernel
theorem dX8_forbid_35 : decode cX8_forbid 35 = .ok (.iload 5, 2) := by decide +kernel
theorem dX8_forbid_37 : decode cX8_forbid 37 = .ok (.ifCond .lt 16, 3) := by decide +kernel
theorem dX8_forbid_40 : decode cX8_forbid 40 = .ok (.iload 5, 2) := by decide +kernel
theorem dX8_forbid_42 : decode cX8_forbid 42 = .ok (.aload 4, 2) := by decide +kernel
theorem dX8_forbid_44 : decode cX8_forbid 44 = .ok (.getfield 83, 3) := by decide +kernel
theorem dX8_forbid_47 : decode cX8_forbid 47 = .ok (.invokevirtual 86, 3) := by decide +kernel
theorem dX8_forbid_50 : decode cX8_forbid 50 = .ok (.if_icmp .lt 13, 3) := by decide +kernel
theorem dX8_forbid_53 : decode cX8_forbid 53 = .ok (.new 107, 3) := by decide +kernel
theorem dX8_forbid_56 : decode cX8_forbid 56 = .ok (.dup, 1) := by decide +kernel
theorem dX8_forbid_57 : decode cX8_forbid 57 = .ok (.ldc 109, 2) := by decide +kernel
theorem dX8_forbid_59 : decode cX8_forbid 59 = .ok (.invokespecial 111, 3) := by decide +kernel
theorem dX8_forbid_62 : decode cX8_forbid 62 = .ok (.athrow, 1) := by decide +kernel
theorem dX8_forbid_63 : decode cX8_forbid 63 = .ok (.aload 4, 2) := by decide +kernel
theorem dX8_forbid_65 : decode cX8_forbid 65 = .ok (.getfield 83, 3) := by decide +kernel
theorem dX8_forbid_68 : decode cX8_forbid 68 = .ok (.iload 5, 2) := by decide +kernel
theorem dX8_forbid_70 : decode cX8_forbid 70 = .ok (.invokevirtual 112, 3) := by decide +kernel
theorem dX8_forbid_73 : decode cX8_forbid 73 = .ok (.pop, 1) := by decide +kernel
theorem dX8_forbid_74 : decode cX8_forbid 74 = .ok (.aload 4, 2) := by decide +kernel
theorem dX8_forbid_76 : decode cX8_forbid 76 = .ok (.getfield 83, 3) := by decide +kernel
theorem dX8_forbid_79 : decode cX8_forbid 79 = .ok (.invokevirtual 86, 3) := by decide +kernel
theorem dX8_forbid_82 : decode cX8_forbid 82 = .ok (.ireturn, 1) := by decide +kernel
theorem dX8_send_0 : decode cX8_send 0 = .ok (.aload_n 0, 1) := by decide +kernel
theorem dX8_send_1 : decode cX8_send 1 = .ok (.iload_n 1, 1) := by decide +kernel
theorem dX8_send_2 : decode cX8_send 2 = .ok (.invokevirtual 52, 3) := by decide +kernel
theorem dX8_send_5 : decode cX8_send 5 = .ok (.astore 5, 2) := by decide +kernel
theorem dX8_send_7 : decode cX8_send 7 = .ok (.iload_n 2, 1) := by decide +kernel
theorem dX8_send_8 : decode cX8_send 8 = .ok (.iconst 0, 1) := by decide +kernel
theorem dX8_send_9 : decode cX8_send 9 = .ok (.sipush 255, 3) := by decide +kernel
theorem dX8_send_12 : decode cX8_send 12 = .ok (.invokestatic 56, 3) := by decide +kernel
theorem dX8_send_15 : decode cX8_send 15 = .ok (.iload_n 3, 1) := by decide +kernel
theorem dX8_send_16 : decode cX8_send 16 = .ok (.iconst 0, 1) := by decide +kernel
theorem dX8_send_17 : decode cX8_send 17 = .ok (.sipush 255, 3) := by decide +kernel
theorem dX8_send_20 : decode cX8_send 20 = .ok (.invokestatic 56, 3) := by decide +kernel
theorem dX8_send_23 : decode cX8_send 23 = .ok (.iload 4, 2) := by decide +kernel
theorem dX8_send_25 : decode cX8_send 25 = .ok (.iconst 0, 1) := by decide +kernel
theorem dX8_send_26 : decode cX8_send 26 = .ok (.sipush 9999, 3) := by decide +kernel
theorem dX8_send_29 : decode cX8_send 29 = .ok (.invokestatic 56, 3) := by decide +kernel
theorem dX8_send_32 : decode cX8_send 32 = .ok (.aload 5, 2) := by decide +kernel
theorem dX8_send_34 : decode cX8_send 34 = .ok (.aload 5, 2) := by decide +kernel
theorem dX8_send_36 : decode cX8_send 36 = .ok (.iload_n 3, 1) := by decide +kernel
theorem dX8_send_37 : decode cX8_send 37 = .ok (.invokevirtual 115, 3) := by decide +kernel
theorem dX8_send_40 : decode cX8_send 40 = .ok (.invokevirtual 119, 3) := by decide +kernel
theorem dX8_send_43 : decode cX8_send 43 = .ok (.astore 6, 2) := by decide +kernel
theorem dX8_send_45 : decode cX8_send 45 = .ok (.aload 6, 2) := by decide +kernel
theorem dX8_send_47 : decode cX8_send 47 = .ok (.ifnonnull 5, 3) := by decide +kernel
theorem dX8_send_50 : decode cX8_send 50 = .ok (.iconst (-1), 1) := by decide +kernel
theorem dX8_send_51 : decode cX8_send 51 = .ok (.ireturn, 1) := by decide +kernel
theorem dX8_send_52 : decode cX8_send 52 = .ok (.aload_n 0, 1) := by decide +kernel
theorem dX8_send_53 : decode cX8_send 53 = .ok (.aload 6, 2) := by decide +kernel
theorem dX8_send_55 : decode cX8_send 55 = .ok (.invokevirtual 123, 3) := by decide +kernel
theorem dX8_send_58 : decode cX8_send 58 = .ok (.astore 7, 2) := by decide +kernel
theorem dX8_send_60 : decode cX8_send 60 = .ok (.aload 7, 2) := by decide +kernel
theorem dX8_send_62 : decode cX8_send 62 = .ok (.ifnonnull 35, 3) := by decide +kernel
theorem dX8_send_65 : decode cX8_send 65 = .ok (.aload_n 0, 1) := by decide +kernel
theorem dX8_send_66 : decode cX8_send 66 = .ok (.aload 6, 2) := by decide +kernel
theorem dX8_send_68 : decode cX8_send 68 = .ok (.new 127, 3) := by decide +kernel
theorem dX8_send_71 : decode cX8_send 71 = .ok (.dup, 1) := by decide +kernel
theorem dX8_send_72 : decode cX8_send 72 = .ok (.aload 6, 2) := by decide +kernel
theorem dX8_send_74 : decode cX8_send 74 = .ok (.getfield 129, 3) := by decide +kernel
theorem dX8_send_77 : decode cX8_send 77 = .ok (.iload_n 2, 1) := by decide +kernel
theorem dX8_send_78 : decode cX8_send 78 = .ok (.iload_n 3, 1) := by decide +kernel
theorem dX8_send_79 : decode cX8_send 79 = .ok (.iload 4, 2) := by decide +kernel
theorem dX8_send_81 : decode cX8_send 81 = .ok (.invokespecial 132, 3) := by decide +kernel
theorem dX8_send_84 : decode cX8_send 84 = .ok (.invokevirtual 135, 3) := by decide +kernel
theorem dX8_send_87 : decode cX8_send 87 = .ok (.aload_n 0, 1) := by decide +kernel
theorem dX8_send_88 : decode cX8_send 88 = .ok (.aload 5, 2) := by decide +kernel
theorem dX8_send_90 : decode cX8_send 90 = .ok (.aload 6, 2) := by decide +kernel
theorem dX8_send_92 : decode cX8_send 92 = .ok (.invokevirtual 139, 3) := by decide +kernel
theorem dX8_send_95 : decode cX8_send 95 = .ok (.iconst 0, 1) := by decide +kernel
theorem dX8_send_96 : decode cX8_send 96 = .ok (.ireturn, 1) := by decide +kernel
theorem dX8_send_97 : decode cX8_send 97 = .ok (.aload_n 0, 1) := by decide +kernel
theorem dX8_send_98 : decode cX8_send 98 = .ok (.aload 5, 2) := by decide +kernel
theorem dX8_send_100 : decode cX8_send 100 = .ok (.aload 6, 2) := by decide +kernel
theorem dX8_send_102 : decode cX8_send 102 = .ok (.aload 7, 2) := by decide +kernel
theorem dX8_send_104 : decode cX8_send 104 = .ok (.iload_n 2, 1) := by decide +kernel
theorem dX8_send_105 : decode cX8_send 105 = .ok (.iload_n 3, 1) := by decide +kernel
theorem dX8_send_106 : decode cX8_send 106 = .ok (.iload 4, 2) := by decide +kernel
theorem dX8_send_108 : decode cX8_send 108 = .ok (.invokevirtual 143, 3) := by decide +kernel
theorem dX8_send_111 : decode cX8_send 111 = .ok (.aload_n 0, 1) := by decide +kernel
theorem dX8_send_112 : decode cX8_send 112 = .ok (.aload 7, 2) := by decide +kernel
theorem dX8_send_114 : decode cX8_send 114 = .ok (.invokevirtual 147, 3) := by decide +kernel
theorem dX8_send_117 : decode cX8_send 117 = .ok (.ifCond .eq 11, 3) := by decide +kernel
theorem dX8_send_120 : decode cX8_send 120 = .ok (.aload_n 0, 1) := by decide +kernel
theorem dX8_send_121 : decode cX8_send 121 = .ok (.aload 5, 2) := by decide +kernel
theorem dX8_send_123 : decode cX8_send 123 = .ok (.aload 6, 2) := by decide +kernel
theorem dX8_send_125 : decode cX8_send 125 = .ok (.invokevirtual 139, 3) := by decide +kernel
theorem dX8_send_128 : decode cX8_send 128 = .ok (.iconst 1, 1) := by decide +kernel
theorem dX8_send_129 : decode cX8_send 129 = .ok (.ireturn, 1) := by decide +kernel
theorem dX8_keep_0 : decode cX8_keep 0 = .ok (.aload_n 0, 1) := by decide +kernel
theorem dX8_keep_1 : decode cX8_keep 1 = .ok (.iload_n 1, 1) := by decide +kernel
theorem dX8_keep_2 : decode cX8_keep 2 = .ok (.iload_n 2, 1) := by decide +kernel
theorem dX8_keep_3 : decode cX8_keep 3 = .ok (.invokevirtual 72, 3) := by decide +kernel
theorem dX8_keep_6 : decode cX8_keep 6 = .ok (.astore_n 3, 1) := by decide +kernel
theorem dX8_keep_7 : decode cX8_keep 7 = .ok (.aload_n 0, 1) := by decide +kernel
theorem dX8_keep_8 : decode cX8_keep 8 = .ok (.aload_n 3, 1) := by decide +kernel
theorem dX8_keep_9 : decode cX8_keep 9 = .ok (.invokevirtual 123, 3) := by decide +kernel
theorem dX8_keep_12 : decode cX8_keep 12 = .ok (.astore 4, 2) := by decide +kernel
theorem dX8_keep_14 : decode cX8_keep 14 = .ok (.aload 4, 2) := by decide +kernel
theorem dX8_keep_16 : decode cX8_keep 16 = .ok (.ifnonnull 5, 3) := by decide +kernel
theorem dX8_keep_19 : decode cX8_keep 19 = .ok (.iconst 0, 1) := by decide +kernel
theorem dX8_keep_20 : decode cX8_keep 20 = .ok (.ireturn, 1) := by decide +kernel
theorem dX8_keep_21 : decode cX8_keep 21 = .ok (.aload_n 0, 1) := by decide +kernel
theorem dX8_keep_22 : decode cX8_keep 22 = .ok (.aload_n 0, 1) := by decide +kernel
theorem dX8_keep_23 : decode cX8_keep 23 = .ok (.iload_n 1, 1) := by decide +kernel
theorem dX8_keep_24 : decode cX8_keep 24 = .ok (.invokevirtual 52, 3) := by decide +kernel
theorem dX8_keep_27 : decode cX8_keep 27 = .ok (.aload_n 3, 1) := by decide +kernel
theorem dX8_keep_28 : decode cX8_keep 28 = .ok (.aload 4, 2) := by decide +kernel
theorem dX8_keep_30 : decode cX8_keep 30 = .ok (.iconst (-1), 1) := by decide +kernel
theorem dX8_keep_31 : decode cX8_keep 31 = .ok (.iconst (-1), 1) := by decide +kernel
theorem dX8_keep_32 : decode cX8_keep 32 = .ok (.iconst (-1), 1) := by decide +kernel
theorem dX8_keep_33 : decode cX8_keep 33 = .ok (.invokevirtual 143, 3) := by decide +kernel
theorem dX8_keep_36 : decode cX8_keep 36 = .ok (.iconst 1, 1) := by decide +kernel
theorem dX8_keep_37 : decode cX8_keep 37 = .ok (.ireturn, 1) := by decide +kernel
theorem dX8_greet_0 : decode cX8_greet 0 = .ok (.aload_n 0, 1) := by decide +kernel
theorem dX8_greet_1 : decode cX8_greet 1 = .ok (.iload_n 1, 1) := by decide +kernel
theorem dX8_greet_2 : decode cX8_greet 2 = .ok (.iload_n 2, 1) := by decide +kernel
theorem dX8_greet_3 : decode cX8_greet 3 = .ok (.invokevirtual 72, 3) := by decide +kernel
theorem dX8_greet_6 : decode cX8_greet 6 = .ok (.astore_n 3, 1) := by decide +kernel
theorem dX8_greet_7 : decode cX8_greet 7 = .ok (.aload_n 0, 1) := by decide +kernel
theorem dX8_greet_8 : decode cX8_greet 8 = .ok (.aload_n 3, 1) := by decide +kernel
theorem dX8_greet_9 : decode cX8_greet 9 = .ok (.invokevirtual 151, 3) := by decide +kernel
theorem dX8_greet_12 : decode cX8_greet 12 = .ok (.ifCond .eq 13, 3) := by decide +kernel
theorem dX8_greet_15 : decode cX8_greet 15 = .ok (.new 47, 3) := by decide +kernel
theorem dX8_greet_18 : decode cX8_greet 18 = .ok (.dup, 1) := by decide +kernel
theorem dX8_greet_19 : decode cX8_greet 19 = .ok (.ldc 155, 2) := by decide +kernel
theorem dX8_greet_21 : decode cX8_greet 21 = .ok (.invokespecial 51, 3) := by decide +kernel
theorem dX8_greet_24 : decode cX8_greet 24 = .ok (.athrow, 1) := by decide +kernel
theorem dX8_greet_25 : decode cX8_greet 25 = .ok (.aload_n 0, 1) := by decide +kernel
theorem dX8_greet_26 : decode cX8_greet 26 = .ok (.aload_n 0, 1) := by decide +kernel
theorem dX8_greet_27 : decode cX8_greet 27 = .ok (.iload_n 1, 1) := by decide +kernel
theorem dX8_greet_28 : decode cX8_greet 28 = .ok (.invokevirtual 52, 3) := by decide +kernel
theorem dX8_greet_31 : decode cX8_greet 31 = .ok (.aload_n 3, 1) := by decide +kernel
theorem dX8_greet_32 : decode cX8_greet 32 = .ok (.invokevirtual 157, 3) := by decide +kernel
theorem dX8_greet_35 : decode cX8_greet 35 = .ok (.ireturn, 1) := by decide +kernel
theorem dX8_deliver_0 : decode cX8_deliver 0 = .ok (.aload_n 0, 1) := by decide +kernel
theorem dX8_deliver_1 : decode cX8_deliver 1 = .ok (.iload_n 1, 1) := by decide +kernel
theorem dX8_deliver_2 : decode cX8_deliver 2 = .ok (.invokevirtual 161, 3) := by decide +kernel
theorem dX8_deliver_5 : decode cX8_deliver 5 = .ok (.astore_n 2, 1) := by decide +kernel
theorem dX8_deliver_6 : decode cX8_deliver 6 = .ok (.aload_n 0, 1) := by decide +kernel
theorem dX8_deliver_7 : decode cX8_deliver 7 = .ok (.getfield 18, 3) := by decide +kernel
theorem dX8_deliver_10 : decode cX8_deliver 10 = .ok (.iload_n 1, 1) := by decide +kernel
theorem dX8_deliver_11 : decode cX8_deliver 11 = .ok (.invokevirtual 112, 3) := by decide +kernel
theorem dX8_deliver_14 : decode cX8_deliver 14 = .ok (.pop, 1) := by decide +kernel
theorem dX8_deliver_15 : decode cX8_deliver 15 = .ok (.aload_n 0, 1) := by decide +kernel
theorem dX8_deliver_16 : decode cX8_deliver 16 = .ok (.aload_n 2, 1) := by decide +kernel
theorem dX8_deliver_17 : decode cX8_deliver 17 = .ok (.getfield 165, 3) := by decide +kernel
theorem dX8_deliver_20 : decode cX8_deliver 20 = .ok (.invokevirtual 60, 3) := by decide +kernel
theorem dX8_deliver_23 : decode cX8_deliver 23 = .ok (.astore_n 3, 1) := by decide +kernel
theorem dX8_deliver_24 : decode cX8_deliver 24 = .ok (.iconst 0, 1) := by decide +kernel
theorem dX8_deliver_25 : decode cX8_deliver 25 = .ok (.istore 4, 2) := by decide +kernel
theorem dX8_deliver_27 : decode cX8_deliver 27 = .ok (.aload_n 3, 1) := by decide +kernel
theorem dX8_deliver_28 : decode cX8_deliver 28 = .ok (.ifnull 73, 3) := by decide +kernel
theorem dX8_deliver_31 : decode cX8_deliver 31 = .ok (.aload_n 2, 1) := by decide +kernel
theorem dX8_deliver_32 : decode cX8_deliver 32 = .ok (.getfield 170, 3) := by decide +kernel
theorem dX8_deliver_35 : decode cX8_deliver 35 = .ok (.tableswitch 58 1 3 #[25, 36, 47], 25) := by decide +kernel
theorem dX8_deliver_60 : decode cX8_deliver 60 = .ok (.aload_n 0, 1) := by decide +kernel
theorem dX8_deliver_61 : decode cX8_deliver 61 = .ok (.aload_n 3, 1) := by decide +kernel
theorem dX8_deliver_62 : decode cX8_deliver 62 = .ok (.aload_n 2, 1) := by decide +kernel
theorem dX8_deliver_63 : decode cX8_deliver 63 = .ok (.invokevirtual 173, 3) := by decide +kernel
theorem dX8_deliver_66 : decode cX8_deliver 66 = .ok (.istore 4, 2) := by decide +kernel
theorem dX8_deliver_68 : decode cX8_deliver 68 = .ok (.goto 33, 3) := by decide +kernel
theorem dX8_deliver_71 : decode cX8_deliver 71 = .ok (.aload_n 0, 1) := by decide +kernel
theorem dX8_deliver_72 : decode cX8_deliver 72 = .ok (.aload_n 3, 1) := by decide +kernel
theorem dX8_deliver_73 : decode cX8_deliver 73 = .ok (.aload_n 2, 1) := by decide +kernel
theorem dX8_deliver_74 : decode cX8_deliver 74 = .ok (.invokevirtual 177, 3) := by decide +kernel
theorem dX8_deliver_77 : decode cX8_deliver 77 = .ok (.istore 4, 2) := by decide +kernel
theorem dX8_deliver_79 : decode cX8_deliver 79 = .ok (.goto 22, 3) := by decide +kernel
theorem dX8_deliver_82 : decode cX8_deliver 82 = .ok (.aload_n 0, 1) := by decide +kernel
theorem dX8_deliver_83 : decode cX8_deliver 83 = .ok (.aload_n 3, 1) := by decide +kernel
theorem dX8_deliver_84 : decode cX8_deliver 84 = .ok (.aload_n 2, 1) := by decide +kernel
theorem dX8_deliver_85 : decode cX8_deliver 85 = .ok (.invokevirtual 180, 3) := by decide +kernel
theorem dX8_deliver_88 : decode cX8_deliver 88 = .ok (.istore 4, 2) := by decide +kernel
theorem dX8_deliver_90 : decode cX8_deliver 90 = .ok (.goto 11, 3) := by decide +kernel
theorem dX8_deliver_93 : decode cX8_deliver 93 = .ok (.aload_n 0, 1) := by decide +kernel
theorem dX8_deliver_94 : decode cX8_deliver 94 = .ok (.aload_n 3, 1) := by decide +kernel
theorem dX8_deliver_95 : decode cX8_deliver 95 = .ok (.aload_n 2, 1) := by decide +kernel
theorem dX8_deliver_96 : decode cX8_deliver 96 = .ok (.invokevirtual 183, 3) := by decide +kernel
theorem dX8_deliver_99 : decode cX8_deliver 99 = .ok (.istore 4, 2) := by decide +kernel
theorem dX8_deliver_101 : decode cX8_deliver 101 = .ok (.aload_n 0, 1) := by decide +kernel
theorem dX8_deliver_102 : decode cX8_deliver 102 = .ok (.dup, 1) := by decide +kernel
theorem dX8_deliver_103 : decode cX8_deliver 103 = .ok (.getfield 33, 3) := by decide +kernel
theorem dX8_deliver_106 : decode cX8_deliver 106 = .ok (.iconst 1, 1) := by decide +kernel
theorem dX8_deliver_107 : decode cX8_deliver 107 = .ok (.iadd, 1) := by decide +kernel
theorem dX8_deliver_108 : decode cX8_deliver 108 = .ok (.putfield 33, 3) := by decide +kernel
theorem dX8_deliver_111 : decode cX8_deliver 111 = .ok (.iload 4, 2) := by decide +kernel
theorem dX8_deliver_113 : decode cX8_deliver 113 = .ok (.bipush (-7), 2) := by decide +kernel
theorem dX8_deliver_115 : decode cX8_deliver 115 = .ok (.isub, 1) := by decide +kernel
theorem dX8_deliver_116 : decode cX8_deliver 116 = .ok (.istore 5, 2) := by decide +kernel
theorem dX8_deliver_118 : decode cX8_deliver 118 = .ok (.iload 5, 2) := by decide +kernel
theorem dX8_deliver_120 : decode cX8_deliver 120 = .ok (.ifCond .lt 24, 3) := by decide +kernel
theorem dX8_deliver_123 : decode cX8_deliver 123 = .ok (.iload 5, 2) := by decide +kernel
theorem dX8_deliver_125 : decode cX8_deliver 125 = .ok (.aload_n 0, 1) := by decide +kernel
theorem dX8_deliver_126 : decode cX8_deliver 126 = .ok (.getfield 22, 3) := by decide +kernel
theorem dX8_deliver_129 : decode cX8_deliver 129 = .ok (.arraylength, 1) := by decide +kernel
theorem dX8_deliver_130 : decode cX8_deliver 130 = .ok (.if_icmp .ge 14, 3) := by decide +kernel
theorem dX8_deliver_133 : decode cX8_deliver 133 = .ok (.aload_n 0, 1) := by decide +kernel
theorem dX8_deliver_134 : decode cX8_deliver 134 = .ok (.getfield 22, 3) := by decide +kernel
theorem dX8_deliver_137 : decode cX8_deliver 137 = .ok (.iload 5, 2) := by decide +kernel
theorem dX8_deliver_139 : decode cX8_deliver 139 = .ok (.dup2, 1) := by decide +kernel
theorem dX8_deliver_140 : decode cX8_deliver 140 = .ok (.iaload, 1) := by decide +kernel
theorem dX8_deliver_141 : decode cX8_deliver 141 = .ok (.iconst 1, 1) := by decide +kernel
theorem dX8_deliver_142 : decode cX8_deliver 142 = .ok (.iadd, 1) := by decide +kernel
theorem dX8_deliver_143 : decode cX8_deliver 143 = .ok (.iastore, 1) := by decide +kernel
theorem dX8_deliver_144 : decode cX8_deliver 144 = .ok (.iload 4, 2) := by decide +kernel
theorem dX8_deliver_146 : decode cX8_deliver 146 = .ok (.ireturn, 1) := by decide +kernel
theorem dX8_lose_0 : decode cX8_lose 0 = .ok (.aload_n 0, 1) := by decide +kernel
theorem dX8_lose_1 : decode cX8_lose 1 = .ok (.iload_n 1, 1) := by decide +kernel
theorem dX8_lose_2 : decode cX8_lose 2 = .ok (.invokevirtual 161, 3) := by decide +kernel
theorem dX8_lose_5 : decode cX8_lose 5 = .ok (.pop, 1) := by decide +kernel
theorem dX8_lose_6 : decode cX8_lose 6 = .ok (.aload_n 0, 1) := by decide +kernel
theorem dX8_lose_7 : decode cX8_lose 7 = .ok (.getfield 18, 3) := by decide +kernel
theorem dX8_lose_10 : decode cX8_lose 10 = .ok (.iload_n 1, 1) := by decide +kernel
theorem dX8_lose_11 : decode cX8_lose 11 = .ok (.invokevirtual 112, 3) := by decide +kernel
theorem dX8_lose_14 : decode cX8_lose 14 = .ok (.pop, 1) := by decide +kernel
theorem dX8_lose_15 : decode cX8_lose 15 = .ok (.aload_n 0, 1) := by decide +kernel
theorem dX8_lose_16 : decode cX8_lose 16 = .ok (.getfield 18, 3) := by decide +kernel
theorem dX8_lose_19 : decode cX8_lose 19 = .ok (.invokevirtual 86, 3) := by decide +kernel
theorem dX8_lose_22 : decode cX8_lose 22 = .ok (.ireturn, 1) := by decide +kernel
theorem dX8_twice_0 : decode cX8_twice 0 = .ok (.aload_n 0, 1) := by decide +kernel
theorem dX8_twice_1 : decode cX8_twice 1 = .ok (.iload_n 1, 1) := by decide +kernel
theorem dX8_twice_2 : decode cX8_twice 2 = .ok (.invokevirtual 161, 3) := by decide +kernel
theorem dX8_twice_5 : decode cX8_twice 5 = .ok (.astore_n 2, 1) := by decide +kernel
theorem dX8_twice_6 : decode cX8_twice 6 = .ok (.aload_n 0, 1) := by decide +kernel
theorem dX8_twice_7 : decode cX8_twice 7 = .ok (.getfield 18, 3) := by decide +kernel
theorem dX8_twice_10 : decode cX8_twice 10 = .ok (.invokevirtual 86, 3) := by decide +kernel
theorem dX8_twice_13 : decode cX8_twice 13 = .ok (.bipush 60, 2) := by decide +kernel
theorem dX8_twice_15 : decode cX8_twice 15 = .ok (.if_icmp .lt 13, 3) := by decide +kernel
theorem dX8_twice_18 : decode cX8_twice 18 = .ok (.new 47, 3) := by decide +kernel
theorem dX8_twice_21 : decode cX8_twice 21 = .ok (.dup, 1) := by decide +kernel
theorem dX8_twice_22 : decode cX8_twice 22 = .ok (.ldc 186, 2) := by decide +kernel
theorem dX8_twice_24 : decode cX8_twice 24 = .ok (.invokespecial 51, 3) := by decide +kernel
theorem dX8_twice_27 : decode cX8_twice 27 = .ok (.athrow, 1) := by decide +kernel
theorem dX8_twice_28 : decode cX8_twice 28 = .ok (.aload_n 0, 1) := by decide +kernel
theorem dX8_twice_29 : decode cX8_twice 29 = .ok (.getfield 18, 3) := by decide +kernel
theorem dX8_twice_32 : decode cX8_twice 32 = .ok (.aload_n 2, 1) := by decide +kernel
theorem dX8_twice_33 : decode cX8_twice 33 = .ok (.invokevirtual 188, 3) := by decide +kernel
theorem dX8_twice_36 : decode cX8_twice 36 = .ok (.invokevirtual 103, 3) := by decide +kernel
theorem dX8_twice_39 : decode cX8_twice 39 = .ok (.pop, 1) := by decide +kernel
theorem dX8_twice_40 : decode cX8_twice 40 = .ok (.aload_n 0, 1) := by decide +kernel
theorem dX8_twice_41 : decode cX8_twice 41 = .ok (.getfield 18, 3) := by decide +kernel
theorem dX8_twice_44 : decode cX8_twice 44 = .ok (.invokevirtual 86, 3) := by decide +kernel
theorem dX8_twice_47 : decode cX8_twice 47 = .ok (.ireturn, 1) := by decide +kernel
theorem dX8_turn_0 : decode cX8_turn 0 = .ok (.aload_n 0, 1) := by decide +kernel
theorem dX8_turn_1 : decode cX8_turn 1 = .ok (.iload_n 1, 1) := by decide +kernel
theorem dX8_turn_2 : decode cX8_turn 2 = .ok (.invokevirtual 161, 3) := by decide +kernel
theorem dX8_turn_5 : decode cX8_turn 5 = .ok (.astore 4, 2) := by decide +kernel
theorem dX8_turn_7 : decode cX8_turn 7 = .ok (.aload 4, 2) := by decide +kernel
theorem dX8_turn_9 : decode cX8_turn 9 = .ok (.iload_n 2, 1) := by decide +kernel
theorem dX8_turn_10 : decode cX8_turn 10 = .ok (.invokevirtual 192, 3) := by decide +kernel
theorem dX8_turn_13 : decode cX8_turn 13 = .ok (.ifCond .ne 13, 3) := by decide +kernel
theorem dX8_turn_16 : decode cX8_turn 16 = .ok (.new 39, 3) := by decide +kernel
theorem dX8_turn_19 : decode cX8_turn 19 = .ok (.dup, 1) := by decide +kernel
theorem dX8_turn_20 : decode cX8_turn 20 = .ok (.ldc 196, 2) := by decide +kernel
theorem dX8_turn_22 : decode cX8_turn 22 = .ok (.invokespecial 43, 3) := by decide +kernel
theorem dX8_turn_25 : decode cX8_turn 25 = .ok (.athrow, 1) := by decide +kernel
theorem dX8_turn_26 : decode cX8_turn 26 = .ok (.iload_n 3, 1) := by decide +kernel
theorem dX8_turn_27 : decode cX8_turn 27 = .ok (.sipush (-500), 3) := by decide +kernel
theorem dX8_turn_30 : decode cX8_turn 30 = .ok (.sipush 500, 3) := by decide +kernel
theorem dX8_turn_33 : decode cX8_turn 33 = .ok (.invokestatic 56, 3) := by decide +kernel
theorem dX8_turn_36 : decode cX8_turn 36 = .ok (.iload_n 3, 1) := by decide +kernel
theorem dX8_turn_37 : decode cX8_turn 37 = .ok (.ifCond .ne 13, 3) := by decide +kernel
theorem dX8_turn_40 : decode cX8_turn 40 = .ok (.new 39, 3) := by decide +kernel
theorem dX8_turn_43 : decode cX8_turn 43 = .ok (.dup, 1) := by decide +kernel
theorem dX8_turn_44 : decode cX8_turn 44 = .ok (.ldc 198, 2) := by decide +kernel
theorem dX8_turn_46 : decode cX8_turn 46 = .ok (.invokespecial 43, 3) := by decide +kernel
theorem dX8_turn_49 : decode cX8_turn 49 = .ok (.athrow, 1) := by decide +kernel
theorem dX8_turn_50 : decode cX8_turn 50 = .ok (.aload 4, 2) := by decide +kernel
theorem dX8_turn_52 : decode cX8_turn 52 = .ok (.getfield 200, 3) := by decide +kernel
theorem dX8_turn_55 : decode cX8_turn 55 = .ok (.iload_n 2, 1) := by decide +kernel
theorem dX8_turn_56 : decode cX8_turn 56 = .ok (.if_icmp .ne 33, 3) := by decide +kernel
theorem dX8_turn_59 : decode cX8_turn 59 = .ok (.aload 4, 2) := by decide +kernel
theorem dX8_turn_61 : decode cX8_turn 61 = .ok (.iload_n 2, 1) := by decide +kernel
theorem dX8_turn_62 : decode cX8_turn 62 = .ok (.invokevirtual 203, 3) := by decide +kernel
theorem dX8_turn_65 : decode cX8_turn 65 = .ok (.iload_n 3, 1) := by decide +kernel
theorem dX8_turn_66 : decode cX8_turn 66 = .ok (.iadd, 1) := by decide +kernel
theorem dX8_turn_67 : decode cX8_turn 67 = .ok (.aload 4, 2) := by decide +kernel
theorem dX8_turn_69 : decode cX8_turn 69 = .ok (.getfield 206, 3) := by decide +kernel
theorem dX8_turn_72 : decode cX8_turn 72 = .ok (.isub, 1) := by decide +kernel
theorem dX8_turn_73 : decode cX8_turn 73 = .ok (.istore 5, 2) := by decide +kernel
theorem dX8_turn_75 : decode cX8_turn 75 = .ok (.iload 5, 2) := by decide +kernel
theorem dX8_turn_77 : decode cX8_turn 77 = .ok (.sipush (-10000), 3) := by decide +kernel
theorem dX8_turn_80 : decode cX8_turn 80 = .ok (.sipush 10000, 3) := by decide +kernel
theorem dX8_turn_83 : decode cX8_turn 83 = .ok (.invokestatic 56, 3) := by decide +kernel
theorem dX8_turn_86 : decode cX8_turn 86 = .ok (.goto 22, 3) := by decide +kernel
theorem dX8_turn_89 : decode cX8_turn 89 = .ok (.aload 4, 2) := by decide +kernel
theorem dX8_turn_91 : decode cX8_turn 91 = .ok (.getfield 200, 3) := by decide +kernel
theorem dX8_turn_94 : decode cX8_turn 94 = .ok (.iconst (-1), 1) := by decide +kernel
theorem dX8_turn_95 : decode cX8_turn 95 = .ok (.if_icmp .eq 13, 3) := by decide +kernel
theorem dX8_turn_98 : decode cX8_turn 98 = .ok (.new 47, 3) := by decide +kernel
theorem dX8_turn_101 : decode cX8_turn 101 = .ok (.dup, 1) := by decide +kernel
theorem dX8_turn_102 : decode cX8_turn 102 = .ok (.ldc 209, 2) := by decide +kernel
theorem dX8_turn_104 : decode cX8_turn 104 = .ok (.invokespecial 51, 3) := by decide +kernel
theorem dX8_turn_107 : decode cX8_turn 107 = .ok (.athrow, 1) := by decide +kernel
theorem dX8_turn_108 : decode cX8_turn 108 = .ok (.aload 4, 2) := by decide +kernel
theorem dX8_turn_110 : decode cX8_turn 110 = .ok (.iload_n 2, 1) := by decide +kernel
theorem dX8_turn_111 : decode cX8_turn 111 = .ok (.iload_n 3, 1) := by decide +kernel
theorem dX8_turn_112 : decode cX8_turn 112 = .ok (.invokevirtual 211, 3) := by decide +kernel
theorem dX8_turn_115 : decode cX8_turn 115 = .ok (.ireturn, 1) := by decide +kernel
theorem dX8_reroute_0 : decode cX8_reroute 0 = .ok (.aload_n 0, 1) := by decide +kernel
theorem dX8_reroute_1 : decode cX8_reroute 1 = .ok (.iload_n 1, 1) := by decide +kernel
theorem dX8_reroute_2 : decode cX8_reroute 2 = .ok (.invokevirtual 161, 3) := by decide +kernel
theorem dX8_reroute_5 : decode cX8_reroute 5 = .ok (.astore_n 3, 1) := by decide +kernel
theorem dX8_reroute_6 : decode cX8_reroute 6 = .ok (.iload_n 2, 1) := by decide +kernel
theorem dX8_reroute_7 : decode cX8_reroute 7 = .ok (.iconst 1, 1) := by decide +kernel
theorem dX8_reroute_8 : decode cX8_reroute 8 = .ok (.bipush 99, 2) := by decide +kernel
theorem dX8_reroute_10 : decode cX8_reroute 10 = .ok (.invokestatic 56, 3) := by decide +kernel
theorem dX8_reroute_13 : decode cX8_reroute 13 = .ok (.aload_n 3, 1) := by decide +kernel
theorem dX8_reroute_14 : decode cX8_reroute 14 = .ok (.getfield 214, 3) := by decide +kernel
theorem dX8_reroute_17 : decode cX8_reroute 17 = .ok (.istore 4, 2) := by decide +kernel
theorem dX8_reroute_19 : decode cX8_reroute 19 = .ok (.aload_n 3, 1) := by decide +kernel
theorem dX8_reroute_20 : decode cX8_reroute 20 = .ok (.iload_n 2, 1) := by decide +kernel
theorem dX8_reroute_21 : decode cX8_reroute 21 = .ok (.putfield 214, 3) := by decide +kernel
theorem dX8_reroute_24 : decode cX8_reroute 24 = .ok (.iload 4, 2) := by decide +kernel
theorem dX8_reroute_26 : decode cX8_reroute 26 = .ok (.ireturn, 1) := by decide +kernel
theorem dX8_later_0 : decode cX8_later 0 = .ok (.aload_n 0, 1) := by decide +kernel
theorem dX8_later_1 : decode cX8_later 1 = .ok (.iload_n 1, 1) := by decide +kernel
theorem dX8_later_2 : decode cX8_later 2 = .ok (.invokevirtual 161, 3) := by decide +kernel
theorem dX8_later_5 : decode cX8_later 5 = .ok (.astore_n 2, 1) := by decide +kernel
theorem dX8_later_6 : decode cX8_later 6 = .ok (.aload_n 0, 1) := by decide +kernel
theorem dX8_later_7 : decode cX8_later 7 = .ok (.getfield 18, 3) := by decide +kernel
theorem dX8_later_10 : decode cX8_later 10 = .ok (.iload_n 1, 1) := by decide +kernel
theorem dX8_later_11 : decode cX8_later 11 = .ok (.invokevirtual 112, 3) := by decide +kernel
theorem dX8_later_14 : decode cX8_later 14 = .ok (.pop, 1) := by decide +kernel
theorem dX8_later_15 : decode cX8_later 15 = .ok (.aload_n 0, 1) := by decide +kernel
theorem dX8_later_16 : decode cX8_later 16 = .ok (.getfield 18, 3) := by decide +kernel
theorem dX8_later_19 : decode cX8_later 19 = .ok (.aload_n 2, 1) := by decide +kernel
theorem dX8_later_20 : decode cX8_later 20 = .ok (.invokevirtual 103, 3) := by decide +kernel
theorem dX8_later_23 : decode cX8_later 23 = .ok (.pop, 1) := by decide +kernel
theorem dX8_later_24 : decode cX8_later 24 = .ok (.aload_n 0, 1) := by decide +kernel
theorem dX8_later_25 : decode cX8_later 25 = .ok (.getfield 18, 3) := by decide +kernel
theorem dX8_later_28 : decode cX8_later 28 = .ok (.invokevirtual 86, 3) := by decide +kernel
theorem dX8_later_31 : decode cX8_later 31 = .ok (.iconst 1, 1) := by decide +kernel
theorem dX8_later_32 : decode cX8_later 32 = .ok (.isub, 1) := by decide +kernel
theorem dX8_later_33 : decode cX8_later 33 = .ok (.ireturn, 1) := by decide +kernel
theorem dX8_now_0 : decode cX8_now 0 = .ok (.aload_n 0, 1) := by decide +kernel
theorem dX8_now_1 : decode cX8_now 1 = .ok (.getfield 26, 3) := by decide +kernel
theorem dX8_now_4 : decode cX8_now 4 = .ok (.ireturn, 1) := by decide +kernel
theorem dX8_letters_0 : decode cX8_letters 0 = .ok (.aload_n 0, 1) := by decide +kernel
theorem dX8_letters_1 : decode cX8_letters 1 = .ok (.getfield 18, 3) := by decide +kernel
theorem dX8_letters_4 : decode cX8_letters 4 = .ok (.invokevirtual 86, 3) := by decide +kernel
theorem dX8_letters_7 : decode cX8_letters 7 = .ok (.ireturn, 1) := by decide +kernel
theorem dX8_letter_0 : decode cX8_letter 0 = .ok (.aload_n 0, 1) := by decide +kernel
theorem dX8_letter_1 : decode cX8_letter 1 = .ok (.iload_n 1, 1) := by decide +kernel
theorem dX8_letter_2 : decode cX8_letter 2 = .ok (.invokevirtual 161, 3) := by decide +kernel
theorem dX8_letter_5 : decode cX8_letter 5 = .ok (.astore_n 3, 1) := by decide +kernel
theorem dX8_letter_6 : decode cX8_letter 6 = .ok (.iload_n 2, 1) := by decide +kernel
theorem dX8_letter_7 : decode cX8_letter 7 = .ok (.iconst 0, 1) := by decide +kernel
theorem dX8_letter_8 : decode cX8_letter 8 = .ok (.bipush 8, 2) := by decide +kernel
theorem dX8_letter_10 : decode cX8_letter 10 = .ok (.invokestatic 56, 3) := by decide +kernel
theorem dX8_letter_13 : decode cX8_letter 13 = .ok (.iload_n 2, 1) := by decide +kernel
theorem dX8_letter_14 : decode cX8_letter 14 = .ok (.tableswitch 41 0 2 #[26, 31, 36], 26) := by decide +kernel
theorem dX8_letter_40 : decode cX8_letter 40 = .ok (.aload_n 3, 1) := by decide +kernel
theorem dX8_letter_41 : decode cX8_letter 41 = .ok (.getfield 214, 3) := by decide +kernel
theorem dX8_letter_44 : decode cX8_letter 44 = .ok (.ireturn, 1) := by decide +kernel
theorem dX8_letter_45 : decode cX8_letter 45 = .ok (.aload_n 3, 1) := by decide +kernel
theorem dX8_letter_46 : decode cX8_letter 46 = .ok (.getfield 165, 3) := by decide +kernel
theorem dX8_letter_49 : decode cX8_letter 49 = .ok (.ireturn, 1) := by decide +kernel
theorem dX8_letter_50 : decode cX8_letter 50 = .ok (.aload_n 3, 1) := by decide +kernel
theorem dX8_letter_51 : decode cX8_letter 51 = .ok (.getfield 170, 3) := by decide +kernel
theorem dX8_letter_54 : decode cX8_letter 54 = .ok (.ireturn, 1) := by decide +kernel
theorem dX8_letter_55 : decode cX8_letter 55 = .ok (.aload_n 3, 1) := by decide +kernel
theorem dX8_letter_56 : decode cX8_letter 56 = .ok (.iload_n 2, 1) := by decide +kernel
theorem dX8_letter_57 : decode cX8_letter 57 = .ok (.iconst 3, 1) := by decide +kernel
theorem dX8_letter_58 : decode cX8_letter 58 = .ok (.isub, 1) := by decide +kernel
theorem dX8_letter_59 : decode cX8_letter 59 = .ok (.invokevirtual 203, 3) := by decide +kernel
theorem dX8_letter_62 : decode cX8_letter 62 = .ok (.ireturn, 1) := by decide +kernel
theorem dX8_isTurned_0 : decode cX8_isTurned 0 = .ok (.aload_n 0, 1) := by decide +kernel
theorem dX8_isTurned_1 : decode cX8_isTurned 1 = .ok (.iload_n 1, 1) := by decide +kernel
theorem dX8_isTurned_2 : decode cX8_isTurned 2 = .ok (.invokevirtual 161, 3) := by decide +kernel
theorem dX8_isTurned_5 : decode cX8_isTurned 5 = .ok (.invokevirtual 217, 3) := by decide +kernel
theorem dX8_isTurned_8 : decode cX8_isTurned 8 = .ok (.ireturn, 1) := by decide +kernel
theorem dX8_address_0 : decode cX8_address 0 = .ok (.aload_n 0, 1) := by decide +kernel
theorem dX8_address_1 : decode cX8_address 1 = .ok (.iload_n 1, 1) := by decide +kernel
theorem dX8_address_2 : decode cX8_address 2 = .ok (.invokevirtual 52, 3) := by decide +kernel
theorem dX8_address_5 : decode cX8_address 5 = .ok (.getfield 65, 3) := by decide +kernel
theorem dX8_address_8 : decode cX8_address 8 = .ok (.ireturn, 1) := by decide +kernel
theorem dX8_known_0 : decode cX8_known 0 = .ok (.aload_n 0, 1) := by decide +kernel
theorem dX8_known_1 : decode cX8_known 1 = .ok (.iload_n 1, 1) := by decide +kernel
theorem dX8_known_2 : decode cX8_known 2 = .ok (.iload_n 2, 1) := by decide +kernel
theorem dX8_known_3 : decode cX8_known 3 = .ok (.invokevirtual 72, 3) := by decide +kernel
theorem dX8_known_6 : decode cX8_known 6 = .ok (.getfield 221, 3) := by decide +kernel
theorem dX8_known_9 : decode cX8_known 9 = .ok (.ireturn, 1) := by decide +kernel
theorem dX8_route_0 : decode cX8_route 0 = .ok (.aload_n 0, 1) := by decide +kernel
theorem dX8_route_1 : decode cX8_route 1 = .ok (.iload_n 1, 1) := by decide +kernel
theorem dX8_route_2 : decode cX8_route 2 = .ok (.invokevirtual 52, 3) := by decide +kernel
theorem dX8_route_5 : decode cX8_route 5 = .ok (.astore_n 3, 1) := by decide +kernel
theorem dX8_route_6 : decode cX8_route 6 = .ok (.iload_n 2, 1) := by decide +kernel
theorem dX8_route_7 : decode cX8_route 7 = .ok (.iconst 0, 1) := by decide +kernel
theorem dX8_route_8 : decode cX8_route 8 = .ok (.sipush 255, 3) := by decide +kernel
theorem dX8_route_11 : decode cX8_route 11 = .ok (.invokestatic 56, 3) := by decide +kernel
theorem dX8_route_14 : decode cX8_route 14 = .ok (.aload_n 3, 1) := by decide +kernel
theorem dX8_route_15 : decode cX8_route 15 = .ok (.iload_n 2, 1) := by decide +kernel
theorem dX8_route_16 : decode cX8_route 16 = .ok (.invokevirtual 115, 3) := by decide +kernel
theorem dX8_route_19 : decode cX8_route 19 = .ok (.ireturn, 1) := by decide +kernel
theorem dX8_session_0 : decode cX8_session 0 = .ok (.aload_n 0, 1) := by decide +kernel
theorem dX8_session_1 : decode cX8_session 1 = .ok (.iload_n 1, 1) := by decide +kernel
theorem dX8_session_2 : decode cX8_session 2 = .ok (.iload_n 2, 1) := by decide +kernel
theorem dX8_session_3 : decode cX8_session 3 = .ok (.invokevirtual 72, 3) := by decide +kernel
theorem dX8_session_6 : decode cX8_session 6 = .ok (.astore 5, 2) := by decide +kernel
theorem dX8_session_8 : decode cX8_session 8 = .ok (.iload_n 3, 1) := by decide +kernel
theorem dX8_session_9 : decode cX8_session 9 = .ok (.iconst 0, 1) := by decide +kernel
theorem dX8_session_10 : decode cX8_session 10 = .ok (.iconst 2, 1) := by decide +kernel
theorem dX8_session_11 : decode cX8_session 11 = .ok (.invokestatic 56, 3) := by decide +kernel
theorem dX8_session_14 : decode cX8_session 14 = .ok (.iload 4, 2) := by decide +kernel
theorem dX8_session_16 : decode cX8_session 16 = .ok (.iconst 0, 1) := by decide +kernel
theorem dX8_session_17 : decode cX8_session 17 = .ok (.bipush 8, 2) := by decide +kernel
theorem dX8_session_19 : decode cX8_session 19 = .ok (.invokestatic 56, 3) := by decide +kernel
theorem dX8_session_22 : decode cX8_session 22 = .ok (.aload 5, 2) := by decide +kernel
theorem dX8_session_24 : decode cX8_session 24 = .ok (.iload_n 3, 1) := by decide +kernel
theorem dX8_session_25 : decode cX8_session 25 = .ok (.invokevirtual 224, 3) := by decide +kernel
theorem dX8_session_28 : decode cX8_session 28 = .ok (.astore 6, 2) := by decide +kernel
theorem dX8_session_30 : decode cX8_session 30 = .ok (.aload 6, 2) := by decide +kernel
theorem dX8_session_32 : decode cX8_session 32 = .ok (.ifnonnull 13, 3) := by decide +kernel
theorem dX8_session_35 : decode cX8_session 35 = .ok (.new 107, 3) := by decide +kernel
theorem dX8_session_38 : decode cX8_session 38 = .ok (.dup, 1) := by decide +kernel
theorem dX8_session_39 : decode cX8_session 39 = .ok (.ldc 228, 2) := by decide +kernel
theorem dX8_session_41 : decode cX8_session 41 = .ok (.invokespecial 111, 3) := by decide +kernel
theorem dX8_session_44 : decode cX8_session 44 = .ok (.athrow, 1) := by decide +kernel
theorem dX8_session_45 : decode cX8_session 45 = .ok (.aload_n 0, 1) := by decide +kernel
theorem dX8_session_46 : decode cX8_session 46 = .ok (.aload 6, 2) := by decide +kernel
theorem dX8_session_48 : decode cX8_session 48 = .ok (.iload 4, 2) := by decide +kernel
theorem dX8_session_50 : decode cX8_session 50 = .ok (.invokevirtual 230, 3) := by decide +kernel
theorem dX8_session_53 : decode cX8_session 53 = .ok (.ireturn, 1) := by decide +kernel
theorem dX8_isUsable_0 : decode cX8_isUsable 0 = .ok (.aload_n 0, 1) := by decide +kernel
theorem dX8_isUsable_1 : decode cX8_isUsable 1 = .ok (.aload_n 0, 1) := by decide +kernel
theorem dX8_isUsable_2 : decode cX8_isUsable 2 = .ok (.iload_n 1, 1) := by decide +kernel
theorem dX8_isUsable_3 : decode cX8_isUsable 3 = .ok (.iload_n 2, 1) := by decide +kernel
theorem dX8_isUsable_4 : decode cX8_isUsable 4 = .ok (.invokevirtual 72, 3) := by decide +kernel
theorem dX8_isUsable_7 : decode cX8_isUsable 7 = .ok (.invokevirtual 123, 3) := by decide +kernel
theorem dX8_isUsable_10 : decode cX8_isUsable 10 = .ok (.ifnull 7, 3) := by decide +kernel
theorem dX8_isUsable_13 : decode cX8_isUsable 13 = .ok (.iconst 1, 1) := by decide +kernel
theorem dX8_isUsable_14 : decode cX8_isUsable 14 = .ok (.goto 4, 3) := by decide +kernel
theorem dX8_isUsable_17 : decode cX8_isUsable 17 = .ok (.iconst 0, 1) := by decide +kernel
theorem dX8_isUsable_18 : decode cX8_isUsable 18 = .ok (.ireturn, 1) := by decide +kernel
theorem dX8_flight_0 : decode cX8_flight 0 = .ok (.aload_n 0, 1) := by decide +kernel
theorem dX8_flight_1 : decode cX8_flight 1 = .ok (.iload_n 1, 1) := by decide +kernel
theorem dX8_flight_2 : decode cX8_flight 2 = .ok (.iload_n 2, 1) := by decide +kernel
theorem dX8_flight_3 : decode cX8_flight 3 = .ok (.invokevirtual 72, 3) := by decide +kernel
theorem dX8_flight_6 : decode cX8_flight 6 = .ok (.invokevirtual 234, 3) := by decide +kernel
theorem dX8_flight_9 : decode cX8_flight 9 = .ok (.ireturn, 1) := by decide +kernel
theorem dX8_waiting_0 : decode cX8_waiting 0 = .ok (.aload_n 0, 1) := by decide +kernel
theorem dX8_waiting_1 : decode cX8_waiting 1 = .ok (.iload_n 1, 1) := by decide +kernel
theorem dX8_waiting_2 : decode cX8_waiting 2 = .ok (.iload_n 2, 1) := by decide +kernel
theorem dX8_waiting_3 : decode cX8_waiting 3 = .ok (.invokevirtual 72, 3) := by decide +kernel
theorem dX8_waiting_6 : decode cX8_waiting 6 = .ok (.getfield 237, 3) := by decide +kernel
theorem dX8_waiting_9 : decode cX8_waiting 9 = .ok (.invokevirtual 86, 3) := by decide +kernel
theorem dX8_waiting_12 : decode cX8_waiting 12 = .ok (.ireturn, 1) := by decide +kernel
theorem dX8_cookie_0 : decode cX8_cookie 0 = .ok (.aload_n 0, 1) := by decide +kernel
theorem dX8_cookie_1 : decode cX8_cookie 1 = .ok (.aload_n 0, 1) := by decide +kernel
theorem dX8_cookie_2 : decode cX8_cookie 2 = .ok (.iload_n 1, 1) := by decide +kernel
theorem dX8_cookie_3 : decode cX8_cookie 3 = .ok (.iload_n 2, 1) := by decide +kernel
theorem dX8_cookie_4 : decode cX8_cookie 4 = .ok (.invokevirtual 72, 3) := by decide +kernel
theorem dX8_cookie_7 : decode cX8_cookie 7 = .ok (.invokevirtual 240, 3) := by decide +kernel
theorem dX8_cookie_10 : decode cX8_cookie 10 = .ok (.ireturn, 1) := by decide +kernel
theorem dX8_stamp_0 : decode cX8_stamp 0 = .ok (.aload_n 0, 1) := by decide +kernel
theorem dX8_stamp_1 : decode cX8_stamp 1 = .ok (.iload_n 1, 1) := by decide +kernel
theorem dX8_stamp_2 : decode cX8_stamp 2 = .ok (.iload_n 2, 1) := by decide +kernel
theorem dX8_stamp_3 : decode cX8_stamp 3 = .ok (.invokevirtual 72, 3) := by decide +kernel
theorem dX8_stamp_6 : decode cX8_stamp 6 = .ok (.astore 4, 2) := by decide +kernel
theorem dX8_stamp_8 : decode cX8_stamp 8 = .ok (.iload_n 3, 1) := by decide +kernel
theorem dX8_stamp_9 : decode cX8_stamp 9 = .ok (.ifCond .eq 11, 3) := by decide +kernel
theorem dX8_stamp_12 : decode cX8_stamp 12 = .ok (.aload 4, 2) := by decide +kernel
theorem dX8_stamp_14 : decode cX8_stamp 14 = .ok (.getfield 244, 3) := by decide +kernel
theorem dX8_stamp_17 : decode cX8_stamp 17 = .ok (.goto 8, 3) := by decide +kernel
theorem dX8_stamp_20 : decode cX8_stamp 20 = .ok (.aload 4, 2) := by decide +kernel
theorem dX8_stamp_22 : decode cX8_stamp 22 = .ok (.getfield 247, 3) := by decide +kernel
theorem dX8_stamp_25 : decode cX8_stamp 25 = .ok (.ireturn, 1) := by decide +kernel
theorem dX8_outs_0 : decode cX8_outs 0 = .ok (.aload_n 0, 1) := by decide +kernel
theorem dX8_outs_1 : decode cX8_outs 1 = .ok (.iload_n 1, 1) := by decide +kernel
theorem dX8_outs_2 : decode cX8_outs 2 = .ok (.invokevirtual 52, 3) := by decide +kernel
theorem dX8_outs_5 : decode cX8_outs 5 = .ok (.getfield 250, 3) := by decide +kernel
theorem dX8_outs_8 : decode cX8_outs 8 = .ok (.invokevirtual 86, 3) := by decide +kernel
theorem dX8_outs_11 : decode cX8_outs 11 = .ok (.ireturn, 1) := by decide +kernel
theorem dX8_out_0 : decode cX8_out 0 = .ok (.aload_n 0, 1) := by decide +kernel
theorem dX8_out_1 : decode cX8_out 1 = .ok (.iload_n 1, 1) := by decide +kernel
theorem dX8_out_2 : decode cX8_out 2 = .ok (.invokevirtual 52, 3) := by decide +kernel
theorem dX8_out_5 : decode cX8_out 5 = .ok (.astore 4, 2) := by decide +kernel
theorem dX8_out_7 : decode cX8_out 7 = .ok (.iload_n 2, 1) := by decide +kernel
theorem dX8_out_8 : decode cX8_out 8 = .ok (.ifCond .lt 15, 3) := by decide +kernel
theorem dX8_out_11 : decode cX8_out 11 = .ok (.iload_n 2, 1) := by decide +kernel
theorem dX8_out_12 : decode cX8_out 12 = .ok (.aload 4, 2) := by decide +kernel
theorem dX8_out_14 : decode cX8_out 14 = .ok (.getfield 250, 3) := by decide +kernel
theorem dX8_out_17 : decode cX8_out 17 = .ok (.invokevirtual 86, 3) := by decide +kernel
theorem dX8_out_20 : decode cX8_out 20 = .ok (.if_icmp .lt 13, 3) := by decide +kernel
theorem dX8_out_23 : decode cX8_out 23 = .ok (.new 253, 3) := by decide +kernel
theorem dX8_out_26 : decode cX8_out 26 = .ok (.dup, 1) := by decide +kernel
theorem dX8_out_27 : decode cX8_out 27 = .ok (.ldc 255, 2) := by decide +kernel
theorem dX8_out_29 : decode cX8_out 29 = .ok (.invokespecial 257, 3) := by decide +kernel
theorem dX8_out_32 : decode cX8_out 32 = .ok (.athrow, 1) := by decide +kernel
theorem dX8_out_33 : decode cX8_out 33 = .ok (.iload_n 3, 1) := by decide +kernel
theorem dX8_out_34 : decode cX8_out 34 = .ok (.iconst 0, 1) := by decide +kernel
theorem dX8_out_35 : decode cX8_out 35 = .ok (.iconst 3, 1) := by decide +kernel
theorem dX8_out_36 : decode cX8_out 36 = .ok (.invokestatic 56, 3) := by decide +kernel
theorem dX8_out_39 : decode cX8_out 39 = .ok (.aload 4, 2) := by decide +kernel
theorem dX8_out_41 : decode cX8_out 41 = .ok (.getfield 250, 3) := by decide +kernel
theorem dX8_out_44 : decode cX8_out 44 = .ok (.iload_n 2, 1) := by decide +kernel
theorem dX8_out_45 : decode cX8_out 45 = .ok (.invokevirtual 92, 3) := by decide +kernel
theorem dX8_out_48 : decode cX8_out 48 = .ok (.checkcast 127, 3) := by decide +kernel
theorem dX8_out_51 : decode cX8_out 51 = .ok (.astore 5, 2) := by decide +kernel
theorem dX8_out_53 : decode cX8_out 53 = .ok (.iload_n 3, 1) := by decide +kernel
theorem dX8_out_54 : decode cX8_out 54 = .ok (.tableswitch 44 0 2 #[26, 32, 38], 26) := by decide +kernel
theorem dX8_out_80 : decode cX8_out 80 = .ok (.aload 5, 2) := by decide +kernel
theorem dX8_out_82 : decode cX8_out 82 = .ok (.getfield 258, 3) := by decide +kernel
theorem dX8_out_85 : decode cX8_out 85 = .ok (.ireturn, 1) := by decide +kernel
theorem dX8_out_86 : decode cX8_out 86 = .ok (.aload 5, 2) := by decide +kernel
theorem dX8_out_88 : decode cX8_out 88 = .ok (.getfield 259, 3) := by decide +kernel
theorem dX8_out_91 : decode cX8_out 91 = .ok (.ireturn, 1) := by decide +kernel
theorem dX8_out_92 : decode cX8_out 92 = .ok (.aload 5, 2) := by decide +kernel
theorem dX8_out_94 : decode cX8_out 94 = .ok (.getfield 262, 3) := by decide +kernel
theorem dX8_out_97 : decode cX8_out 97 = .ok (.ireturn, 1) := by decide +kernel
theorem dX8_out_98 : decode cX8_out 98 = .ok (.aload 5, 2) := by decide +kernel
theorem dX8_out_100 : decode cX8_out 100 = .ok (.getfield 265, 3) := by decide +kernel
theorem dX8_out_103 : decode cX8_out 103 = .ok (.ireturn, 1) := by decide +kernel
theorem dX8_drops_0 : decode cX8_drops 0 = .ok (.iload_n 1, 1) := by decide +kernel
theorem dX8_drops_1 : decode cX8_drops 1 = .ok (.bipush (-7), 2) := by decide +kernel
theorem dX8_drops_3 : decode cX8_drops 3 = .ok (.iconst 3, 1) := by decide +kernel
theorem dX8_drops_4 : decode cX8_drops 4 = .ok (.invokestatic 56, 3) := by decide +kernel
theorem dX8_drops_7 : decode cX8_drops 7 = .ok (.aload_n 0, 1) := by decide +kernel
theorem dX8_drops_8 : decode cX8_drops 8 = .ok (.getfield 22, 3) := by decide +kernel
theorem dX8_drops_11 : decode cX8_drops 11 = .ok (.iload_n 1, 1) := by decide +kernel
theorem dX8_drops_12 : decode cX8_drops 12 = .ok (.bipush (-7), 2) := by decide +kernel
theorem dX8_drops_14 : decode cX8_drops 14 = .ok (.isub, 1) := by decide +kernel
theorem dX8_drops_15 : decode cX8_drops 15 = .ok (.iaload, 1) := by decide +kernel
theorem dX8_drops_16 : decode cX8_drops 16 = .ok (.ireturn, 1) := by decide +kernel
theorem dX8_publicOf_0 : decode cX8_publicOf 0 = .ok (.iload_n 1, 1) := by decide +kernel
theorem dX8_publicOf_1 : decode cX8_publicOf 1 = .ok (.iconst 0, 1) := by decide +kernel
theorem dX8_publicOf_2 : decode cX8_publicOf 2 = .ok (.ldc_w 268, 3) := by decide +kernel
theorem dX8_publicOf_5 : decode cX8_publicOf 5 = .ok (.invokestatic 56, 3) := by decide +kernel
theorem dX8_publicOf_8 : decode cX8_publicOf 8 = .ok (.iload_n 1, 1) := by decide +kernel
theorem dX8_publicOf_9 : decode cX8_publicOf 9 = .ok (.invokestatic 269, 3) := by decide +kernel
theorem dX8_publicOf_12 : decode cX8_publicOf 12 = .ok (.ireturn, 1) := by decide +kernel
theorem dX8_shared_0 : decode cX8_shared 0 = .ok (.iload_n 1, 1) := by decide +kernel
theorem dX8_shared_1 : decode cX8_shared 1 = .ok (.iconst 0, 1) := by decide +kernel
theorem dX8_shared_2 : decode cX8_shared 2 = .ok (.ldc_w 268, 3) := by decide +kernel
theorem dX8_shared_5 : decode cX8_shared 5 = .ok (.invokestatic 56, 3) := by decide +kernel
theorem dX8_shared_8 : decode cX8_shared 8 = .ok (.iload_n 2, 1) := by decide +kernel
theorem dX8_shared_9 : decode cX8_shared 9 = .ok (.iconst 1, 1) := by decide +kernel
theorem dX8_shared_10 : decode cX8_shared 10 = .ok (.sipush 2038, 3) := by decide +kernel
theorem dX8_shared_13 : decode cX8_shared 13 = .ok (.invokestatic 56, 3) := by decide +kernel
theorem dX8_shared_16 : decode cX8_shared 16 = .ok (.iload_n 2, 1) := by decide +kernel
theorem dX8_shared_17 : decode cX8_shared 17 = .ok (.iload_n 1, 1) := by decide +kernel
theorem dX8_shared_18 : decode cX8_shared 18 = .ok (.invokestatic 274, 3) := by decide +kernel
theorem dX8_shared_21 : decode cX8_shared 21 = .ok (.ireturn, 1) := by decide +kernel
theorem dX8_seal_0 : decode cX8_seal 0 = .ok (.iload_n 1, 1) := by decide +kernel
theorem dX8_seal_1 : decode cX8_seal 1 = .ok (.iconst 1, 1) := by decide +kernel
theorem dX8_seal_2 : decode cX8_seal 2 = .ok (.ldc_w 277, 3) := by decide +kernel
theorem dX8_seal_5 : decode cX8_seal 5 = .ok (.invokestatic 56, 3) := by decide +kernel
theorem dX8_seal_8 : decode cX8_seal 8 = .ok (.iload_n 2, 1) := by decide +kernel
theorem dX8_seal_9 : decode cX8_seal 9 = .ok (.iconst (-1), 1) := by decide +kernel
theorem dX8_seal_10 : decode cX8_seal 10 = .ok (.sipush 9999, 3) := by decide +kernel
theorem dX8_seal_13 : decode cX8_seal 13 = .ok (.invokestatic 56, 3) := by decide +kernel
theorem dX8_seal_16 : decode cX8_seal 16 = .ok (.iload_n 3, 1) := by decide +kernel
theorem dX8_seal_17 : decode cX8_seal 17 = .ok (.iconst (-1), 1) := by decide +kernel
theorem dX8_seal_18 : decode cX8_seal 18 = .ok (.sipush 9999, 3) := by decide +kernel
theorem dX8_seal_21 : decode cX8_seal 21 = .ok (.invokestatic 56, 3) := by decide +kernel
theorem dX8_seal_24 : decode cX8_seal 24 = .ok (.iload 4, 2) := by decide +kernel
theorem dX8_seal_26 : decode cX8_seal 26 = .ok (.iconst (-1), 1) := by decide +kernel
theorem dX8_seal_27 : decode cX8_seal 27 = .ok (.sipush 9999, 3) := by decide +kernel
theorem dX8_seal_30 : decode cX8_seal 30 = .ok (.invokestatic 56, 3) := by decide +kernel
theorem dX8_seal_33 : decode cX8_seal 33 = .ok (.iconst 2, 1) := by decide +kernel
theorem dX8_seal_34 : decode cX8_seal 34 = .ok (.newarray .int, 2) := by decide +kernel
theorem dX8_seal_36 : decode cX8_seal 36 = .ok (.dup, 1) := by decide +kernel
theorem dX8_seal_37 : decode cX8_seal 37 = .ok (.iconst 0, 1) := by decide +kernel
theorem dX8_seal_38 : decode cX8_seal 38 = .ok (.iload_n 3, 1) := by decide +kernel
theorem dX8_seal_39 : decode cX8_seal 39 = .ok (.iastore, 1) := by decide +kernel
theorem dX8_seal_40 : decode cX8_seal 40 = .ok (.dup, 1) := by decide +kernel
theorem dX8_seal_41 : decode cX8_seal 41 = .ok (.iconst 1, 1) := by decide +kernel
theorem dX8_seal_42 : decode cX8_seal 42 = .ok (.iload 4, 2) := by decide +kernel
theorem dX8_seal_44 : decode cX8_seal 44 = .ok (.iastore, 1) := by decide +kernel
theorem dX8_seal_45 : decode cX8_seal 45 = .ok (.astore 5, 2) := by decide +kernel
theorem dX8_seal_47 : decode cX8_seal 47 = .ok (.iload_n 1, 1) := by decide +kernel
theorem dX8_seal_48 : decode cX8_seal 48 = .ok (.iload_n 2, 1) := by decide +kernel
theorem dX8_seal_49 : decode cX8_seal 49 = .ok (.aload 5, 2) := by decide +kernel
theorem dX8_seal_51 : decode cX8_seal 51 = .ok (.aload 5, 2) := by decide +kernel
theorem dX8_seal_53 : decode cX8_seal 53 = .ok (.arraylength, 1) := by decide +kernel
theorem dX8_seal_54 : decode cX8_seal 54 = .ok (.invokestatic 278, 3) := by decide +kernel
theorem dX8_seal_57 : decode cX8_seal 57 = .ok (.ireturn, 1) := by decide +kernel
theorem dX8_share_0 : decode cX8_share 0 = .ok (.aload_n 0, 1) := by decide +kernel
theorem dX8_share_1 : decode cX8_share 1 = .ok (.getfield 33, 3) := by decide +kernel
theorem dX8_share_4 : decode cX8_share 4 = .ok (.ifCond .ne 5, 3) := by decide +kernel
theorem dX8_share_7 : decode cX8_share 7 = .ok (.fconst 0, 1) := by decide +kernel
theorem dX8_share_8 : decode cX8_share 8 = .ok (.freturn, 1) := by decide +kernel
theorem dX8_share_9 : decode cX8_share 9 = .ok (.aload_n 0, 1) := by decide +kernel
theorem dX8_share_10 : decode cX8_share 10 = .ok (.iconst 1, 1) := by decide +kernel
theorem dX8_share_11 : decode cX8_share 11 = .ok (.invokevirtual 282, 3) := by decide +kernel
theorem dX8_share_14 : decode cX8_share 14 = .ok (.i2f, 1) := by decide +kernel
theorem dX8_share_15 : decode cX8_share 15 = .ok (.aload_n 0, 1) := by decide +kernel
theorem dX8_share_16 : decode cX8_share 16 = .ok (.getfield 33, 3) := by decide +kernel
theorem dX8_share_19 : decode cX8_share 19 = .ok (.i2f, 1) := by decide +kernel
theorem dX8_share_20 : decode cX8_share 20 = .ok (.fdiv, 1) := by decide +kernel
theorem dX8_share_21 : decode cX8_share 21 = .ok (.freturn, 1) := by decide +kernel
theorem dX8_meanAge_0 : decode cX8_meanAge 0 = .ok (.lconst 0, 1) := by decide +kernel
theorem dX8_meanAge_1 : decode cX8_meanAge 1 = .ok (.lstore_n 1, 1) := by decide +kernel
theorem dX8_meanAge_2 : decode cX8_meanAge 2 = .ok (.iconst 0, 1) := by decide +kernel
theorem dX8_meanAge_3 : decode cX8_meanAge 3 = .ok (.istore_n 3, 1) := by decide +kernel
theorem dX8_meanAge_4 : decode cX8_meanAge 4 = .ok (.aload_n 0, 1) := by decide +kernel
theorem dX8_meanAge_5 : decode cX8_meanAge 5 = .ok (.getfield 11, 3) := by decide +kernel
theorem dX8_meanAge_8 : decode cX8_meanAge 8 = .ok (.astore 4, 2) := by decide +kernel
theorem dX8_meanAge_10 : decode cX8_meanAge 10 = .ok (.aload 4, 2) := by decide +kernel
theorem dX8_meanAge_12 : decode cX8_meanAge 12 = .ok (.arraylength, 1) := by decide +kernel
theorem dX8_meanAge_13 : decode cX8_meanAge 13 = .ok (.istore 5, 2) := by decide +kernel
theorem dX8_meanAge_15 : decode cX8_meanAge 15 = .ok (.iconst 0, 1) := by decide +kernel
theorem dX8_meanAge_16 : decode cX8_meanAge 16 = .ok (.istore 6, 2) := by decide +kernel
theorem dX8_meanAge_18 : decode cX8_meanAge 18 = .ok (.iload 6, 2) := by decide +kernel
theorem dX8_meanAge_20 : decode cX8_meanAge 20 = .ok (.iload 5, 2) := by decide +kernel
theorem dX8_meanAge_22 : decode cX8_meanAge 22 = .ok (.if_icmp .ge 75, 3) := by decide +kernel
theorem dX8_meanAge_25 : decode cX8_meanAge 25 = .ok (.aload 4, 2) := by decide +kernel
theorem dX8_meanAge_27 : decode cX8_meanAge 27 = .ok (.iload 6, 2) := by decide +kernel
theorem dX8_meanAge_29 : decode cX8_meanAge 29 = .ok (.aaload, 1) := by decide +kernel
theorem dX8_meanAge_30 : decode cX8_meanAge 30 = .ok (.astore 7, 2) := by decide +kernel
theorem dX8_meanAge_32 : decode cX8_meanAge 32 = .ok (.aload 7, 2) := by decide +kernel
theorem dX8_meanAge_34 : decode cX8_meanAge 34 = .ok (.getfield 285, 3) := by decide +kernel
theorem dX8_meanAge_37 : decode cX8_meanAge 37 = .ok (.astore 8, 2) := by decide +kernel
theorem dX8_meanAge_39 : decode cX8_meanAge 39 = .ok (.aload 8, 2) := by decide +kernel
theorem dX8_meanAge_41 : decode cX8_meanAge 41 = .ok (.arraylength, 1) := by decide +kernel
theorem dX8_meanAge_42 : decode cX8_meanAge 42 = .ok (.istore 9, 2) := by decide +kernel
theorem dX8_meanAge_44 : decode cX8_meanAge 44 = .ok (.iconst 0, 1) := by decide +kernel
theorem dX8_meanAge_45 : decode cX8_meanAge 45 = .ok (.istore 10, 2) := by decide +kernel
theorem dX8_meanAge_47 : decode cX8_meanAge 47 = .ok (.iload 10, 2) := by decide +kernel
theorem dX8_meanAge_49 : decode cX8_meanAge 49 = .ok (.iload 9, 2) := by decide +kernel
theorem dX8_meanAge_51 : decode cX8_meanAge 51 = .ok (.if_icmp .ge 40, 3) := by decide +kernel
theorem dX8_meanAge_54 : decode cX8_meanAge 54 = .ok (.aload 8, 2) := by decide +kernel
theorem dX8_meanAge_56 : decode cX8_meanAge 56 = .ok (.iload 10, 2) := by decide +kernel
theorem dX8_meanAge_58 : decode cX8_meanAge 58 = .ok (.aaload, 1) := by decide +kernel
theorem dX8_meanAge_59 : decode cX8_meanAge 59 = .ok (.astore 11, 2) := by decide +kernel
theorem dX8_meanAge_61 : decode cX8_meanAge 61 = .ok (.aload 11, 2) := by decide +kernel
theorem dX8_meanAge_63 : decode cX8_meanAge 63 = .ok (.getfield 289, 3) := by decide +kernel
theorem dX8_meanAge_66 : decode cX8_meanAge 66 = .ok (.ifnull 19, 3) := by decide +kernel
theorem dX8_meanAge_69 : decode cX8_meanAge 69 = .ok (.lload_n 1, 1) := by decide +kernel
theorem dX8_meanAge_70 : decode cX8_meanAge 70 = .ok (.aload_n 0, 1) := by decide +kernel
theorem dX8_meanAge_71 : decode cX8_meanAge 71 = .ok (.aload 11, 2) := by decide +kernel
theorem dX8_meanAge_73 : decode cX8_meanAge 73 = .ok (.getfield 289, 3) := by decide +kernel
theorem dX8_meanAge_76 : decode cX8_meanAge 76 = .ok (.invokevirtual 293, 3) := by decide +kernel
theorem dX8_meanAge_79 : decode cX8_meanAge 79 = .ok (.i2l, 1) := by decide +kernel
theorem dX8_meanAge_80 : decode cX8_meanAge 80 = .ok (.ladd, 1) := by decide +kernel
theorem dX8_meanAge_81 : decode cX8_meanAge 81 = .ok (.lstore_n 1, 1) := by decide +kernel
theorem dX8_meanAge_82 : decode cX8_meanAge 82 = .ok (.iinc 3 1, 3) := by decide +kernel
theorem dX8_meanAge_85 : decode cX8_meanAge 85 = .ok (.iinc 10 1, 3) := by decide +kernel
theorem dX8_meanAge_88 : decode cX8_meanAge 88 = .ok (.goto (-41), 3) := by decide +kernel
theorem dX8_meanAge_91 : decode cX8_meanAge 91 = .ok (.iinc 6 1, 3) := by decide +kernel
theorem dX8_meanAge_94 : decode cX8_meanAge 94 = .ok (.goto (-76), 3) := by decide +kernel
theorem dX8_meanAge_97 : decode cX8_meanAge 97 = .ok (.iload_n 3, 1) := by decide +kernel
theorem dX8_meanAge_98 : decode cX8_meanAge 98 = .ok (.ifCond .ne 5, 3) := by decide +kernel
theorem dX8_meanAge_101 : decode cX8_meanAge 101 = .ok (.dconst 0, 1) := by decide +kernel
theorem dX8_meanAge_102 : decode cX8_meanAge 102 = .ok (.dreturn, 1) := by decide +kernel
theorem dX8_meanAge_103 : decode cX8_meanAge 103 = .ok (.lload_n 1, 1) := by decide +kernel
theorem dX8_meanAge_104 : decode cX8_meanAge 104 = .ok (.l2d, 1) := by decide +kernel
theorem dX8_meanAge_105 : decode cX8_meanAge 105 = .ok (.iload_n 3, 1) := by decide +kernel
theorem dX8_meanAge_106 : decode cX8_meanAge 106 = .ok (.i2d, 1) := by decide +kernel
theorem dX8_meanAge_107 : decode cX8_meanAge 107 = .ok (.ddiv, 1) := by decide +kernel
theorem dX8_meanAge_108 : decode cX8_meanAge 108 = .ok (.dreturn, 1) := by decide +kernel
theorem dX8_isSound_0 : decode cX8_isSound 0 = .ok (.iconst 0, 1) := by decide +kernel
theorem dX8_isSound_1 : decode cX8_isSound 1 = .ok (.istore_n 1, 1) := by decide +kernel
theorem dX8_isSound_2 : decode cX8_isSound 2 = .ok (.iload_n 1, 1) := by decide +kernel
theorem dX8_isSound_3 : decode cX8_isSound 3 = .ok (.aload_n 0, 1) := by decide +kernel
theorem dX8_isSound_4 : decode cX8_isSound 4 = .ok (.getfield 18, 3) := by decide +kernel
theorem dX8_isSound_7 : decode cX8_isSound 7 = .ok (.invokevirtual 86, 3) := by decide +kernel
theorem dX8_isSound_10 : decode cX8_isSound 10 = .ok (.if_icmp .ge 41, 3) := by decide +kernel
theorem dX8_isSound_13 : decode cX8_isSound 13 = .ok (.aload_n 0, 1) := by decide +kernel
theorem dX8_isSound_14 : decode cX8_isSound 14 = .ok (.getfield 18, 3) := by decide +kernel
theorem dX8_isSound_17 : decode cX8_isSound 17 = .ok (.iload_n 1, 1) := by decide +kernel
theorem dX8_isSound_18 : decode cX8_isSound 18 = .ok (.invokevirtual 92, 3) := by decide +kernel
theorem dX8_isSound_21 : decode cX8_isSound 21 = .ok (.checkcast 166, 3) := by decide +kernel
theorem dX8_isSound_24 : decode cX8_isSound 24 = .ok (.astore_n 2, 1) := by decide +kernel
theorem dX8_isSound_25 : decode cX8_isSound 25 = .ok (.aload_n 2, 1) := by decide +kernel
theorem dX8_isSound_26 : decode cX8_isSound 26 = .ok (.invokevirtual 217, 3) := by decide +kernel
theorem dX8_isSound_29 : decode cX8_isSound 29 = .ok (.ifCond .eq 16, 3) := by decide +kernel
theorem dX8_isSound_32 : decode cX8_isSound 32 = .ok (.aload_n 2, 1) := by decide +kernel
theorem dX8_isSound_33 : decode cX8_isSound 33 = .ok (.aload_n 2, 1) := by decide +kernel
theorem dX8_isSound_34 : decode cX8_isSound 34 = .ok (.getfield 297, 3) := by decide +kernel
theorem dX8_isSound_37 : decode cX8_isSound 37 = .ok (.invokevirtual 300, 3) := by decide +kernel
theorem dX8_isSound_40 : decode cX8_isSound 40 = .ok (.ifCond .eq 5, 3) := by decide +kernel
theorem dX8_isSound_43 : decode cX8_isSound 43 = .ok (.iconst 0, 1) := by decide +kernel
theorem dX8_isSound_44 : decode cX8_isSound 44 = .ok (.ireturn, 1) := by decide +kernel
theorem dX8_isSound_45 : decode cX8_isSound 45 = .ok (.iinc 1 1, 3) := by decide +kernel
theorem dX8_isSound_48 : decode cX8_isSound 48 = .ok (.goto (-46), 3) := by decide +kernel
theorem dX8_isSound_51 : decode cX8_isSound 51 = .ok (.bipush 27, 2) := by decide +kernel
theorem dX8_isSound_53 : decode cX8_isSound 53 = .ok (.istore_n 1, 1) := by decide +kernel
theorem dX8_isSound_54 : decode cX8_isSound 54 = .ok (.iconst 0, 1) := by decide +kernel
theorem dX8_isSound_55 : decode cX8_isSound 55 = .ok (.istore_n 2, 1) := by decide +kernel
theorem dX8_isSound_56 : decode cX8_isSound 56 = .ok (.iload_n 2, 1) := by decide +kernel
theorem dX8_isSound_57 : decode cX8_isSound 57 = .ok (.iload_n 1, 1) := by decide +kernel
theorem dX8_isSound_58 : decode cX8_isSound 58 = .ok (.if_icmp .ge 37, 3) := by decide +kernel
theorem dX8_isSound_61 : decode cX8_isSound 61 = .ok (.aload_n 0, 1) := by decide +kernel
theorem dX8_isSound_62 : decode cX8_isSound 62 = .ok (.iload_n 2, 1) := by decide +kernel
theorem dX8_isSound_63 : decode cX8_isSound 63 = .ok (.invokevirtual 303, 3) := by decide +kernel
theorem dX8_isSound_66 : decode cX8_isSound 66 = .ok (.astore_n 3, 1) := by decide +kernel
theorem dX8_isSound_67 : decode cX8_isSound 67 = .ok (.aload_n 3, 1) := by decide +kernel
theorem dX8_isSound_68 : decode cX8_isSound 68 = .ok (.ifnull 21, 3) := by decide +kernel
theorem dX8_isSound_71 : decode cX8_isSound 71 = .ok (.aload_n 3, 1) := by decide +kernel
theorem dX8_isSound_72 : decode cX8_isSound 72 = .ok (.invokestatic 306, 3) := by decide +kernel
theorem dX8_isSound_75 : decode cX8_isSound 75 = .ok (.ifCond .eq 12, 3) := by decide +kernel
theorem dX8_isSound_78 : decode cX8_isSound 78 = .ok (.aload_n 0, 1) := by decide +kernel
theorem dX8_isSound_79 : decode cX8_isSound 79 = .ok (.aload_n 3, 1) := by decide +kernel
theorem dX8_isSound_80 : decode cX8_isSound 80 = .ok (.iload_n 2, 1) := by decide +kernel
theorem dX8_isSound_81 : decode cX8_isSound 81 = .ok (.invokevirtual 309, 3) := by decide +kernel
theorem dX8_isSound_84 : decode cX8_isSound 84 = .ok (.ifCond .ne 5, 3) := by decide +kernel
theorem dX8_isSound_87 : decode cX8_isSound 87 = .ok (.iconst 0, 1) := by decide +kernel
theorem dX8_isSound_88 : decode cX8_isSound 88 = .ok (.ireturn, 1) := by decide +kernel
theorem dX8_isSound_89 : decode cX8_isSound 89 = .ok (.iinc 2 1, 3) := by decide +kernel
theorem dX8_isSound_92 : decode cX8_isSound 92 = .ok (.goto (-36), 3) := by decide +kernel
theorem dX8_isSound_95 : decode cX8_isSound 95 = .ok (.iconst 1, 1) := by decide +kernel
theorem dX8_isSound_96 : decode cX8_isSound 96 = .ok (.ireturn, 1) := by decide +kernel
theorem dX8_checksum_0 : decode cX8_checksum 0 = .ok (.ldc2_w 313, 3) := by decide +kernel
theorem dX8_checksum_3 : decode cX8_checksum 3 = .ok (.aload_n 0, 1) := by decide +kernel
theorem dX8_checksum_4 : decode cX8_checksum 4 = .ok (.getfield 26, 3) := by decide +kernel
theorem dX8_checksum_7 : decode cX8_checksum 7 = .ok (.invokestatic 315, 3) := by decide +kernel
theorem dX8_checksum_10 : decode cX8_checksum 10 = .ok (.lstore_n 1, 1) := by decide +kernel
theorem dX8_checksum_11 : decode cX8_checksum 11 = .ok (.aload_n 0, 1) := by decide +kernel
theorem dX8_checksum_12 : decode cX8_checksum 12 = .ok (.getfield 11, 3) := by decide +kernel
theorem dX8_checksum_15 : decode cX8_checksum 15 = .ok (.astore_n 3, 1) := by decide +kernel
theorem dX8_checksum_16 : decode cX8_checksum 16 = .ok (.aload_n 3, 1) := by decide +kernel
theorem dX8_checksum_17 : decode cX8_checksum 17 = .ok (.arraylength, 1) := by decide +kernel
theorem dX8_checksum_18 : decode cX8_checksum 18 = .ok (.istore 4, 2) := by decide +kernel
theorem dX8_checksum_20 : decode cX8_checksum 20 = .ok (.iconst 0, 1) := by decide +kernel
theorem dX8_checksum_21 : decode cX8_checksum 21 = .ok (.istore 5, 2) := by decide +kernel
theorem dX8_checksum_23 : decode cX8_checksum 23 = .ok (.iload 5, 2) := by decide +kernel
theorem dX8_checksum_25 : decode cX8_checksum 25 = .ok (.iload 4, 2) := by decide +kernel
theorem dX8_checksum_27 : decode cX8_checksum 27 = .ok (.if_icmp .ge 56, 3) := by decide +kernel
theorem dX8_checksum_30 : decode cX8_checksum 30 = .ok (.aload_n 3, 1) := by decide +kernel
theorem dX8_checksum_31 : decode cX8_checksum 31 = .ok (.iload 5, 2) := by decide +kernel
theorem dX8_checksum_33 : decode cX8_checksum 33 = .ok (.aaload, 1) := by decide +kernel
theorem dX8_checksum_34 : decode cX8_checksum 34 = .ok (.astore 6, 2) := by decide +kernel
theorem dX8_checksum_36 : decode cX8_checksum 36 = .ok (.lload_n 1, 1) := by decide +kernel
theorem dX8_checksum_37 : decode cX8_checksum 37 = .ok (.aload 6, 2) := by decide +kernel
theorem dX8_checksum_39 : decode cX8_checksum 39 = .ok (.getfield 65, 3) := by decide +kernel
theorem dX8_checksum_42 : decode cX8_checksum 42 = .ok (.invokestatic 315, 3) := by decide +kernel
theorem dX8_checksum_45 : decode cX8_checksum 45 = .ok (.lstore_n 1, 1) := by decide +kernel
theorem dX8_checksum_46 : decode cX8_checksum 46 = .ok (.lload_n 1, 1) := by decide +kernel
theorem dX8_checksum_47 : decode cX8_checksum 47 = .ok (.aload 6, 2) := by decide +kernel
theorem dX8_checksum_49 : decode cX8_checksum 49 = .ok (.getfield 68, 3) := by decide +kernel
theorem dX8_checksum_52 : decode cX8_checksum 52 = .ok (.ifCond .eq 7, 3) := by decide +kernel
theorem dX8_checksum_55 : decode cX8_checksum 55 = .ok (.iconst 1, 1) := by decide +kernel
theorem dX8_checksum_56 : decode cX8_checksum 56 = .ok (.goto 4, 3) := by decide +kernel
theorem dX8_checksum_59 : decode cX8_checksum 59 = .ok (.iconst 0, 1) := by decide +kernel
theorem dX8_checksum_60 : decode cX8_checksum 60 = .ok (.invokestatic 315, 3) := by decide +kernel
theorem dX8_checksum_63 : decode cX8_checksum 63 = .ok (.lstore_n 1, 1) := by decide +kernel
theorem dX8_checksum_64 : decode cX8_checksum 64 = .ok (.lload_n 1, 1) := by decide +kernel
theorem dX8_checksum_65 : decode cX8_checksum 65 = .ok (.aload 6, 2) := by decide +kernel
theorem dX8_checksum_67 : decode cX8_checksum 67 = .ok (.getfield 83, 3) := by decide +kernel
theorem dX8_checksum_70 : decode cX8_checksum 70 = .ok (.invokevirtual 86, 3) := by decide +kernel
theorem dX8_checksum_73 : decode cX8_checksum 73 = .ok (.invokestatic 315, 3) := by decide +kernel
theorem dX8_checksum_76 : decode cX8_checksum 76 = .ok (.lstore_n 1, 1) := by decide +kernel
theorem dX8_checksum_77 : decode cX8_checksum 77 = .ok (.iinc 5 1, 3) := by decide +kernel
theorem dX8_checksum_80 : decode cX8_checksum 80 = .ok (.goto (-57), 3) := by decide +kernel
theorem dX8_checksum_83 : decode cX8_checksum 83 = .ok (.aload_n 0, 1) := by decide +kernel
theorem dX8_checksum_84 : decode cX8_checksum 84 = .ok (.getfield 11, 3) := by decide +kernel
theorem dX8_checksum_87 : decode cX8_checksum 87 = .ok (.astore_n 3, 1) := by decide +kernel
theorem dX8_checksum_88 : decode cX8_checksum 88 = .ok (.aload_n 3, 1) := by decide +kernel
theorem dX8_checksum_89 : decode cX8_checksum 89 = .ok (.arraylength, 1) := by decide +kernel
theorem dX8_checksum_90 : decode cX8_checksum 90 = .ok (.istore 4, 2) := by decide +kernel
theorem dX8_checksum_92 : decode cX8_checksum 92 = .ok (.iconst 0, 1) := by decide +kernel
theorem dX8_checksum_93 : decode cX8_checksum 93 = .ok (.istore 5, 2) := by decide +kernel
theorem dX8_checksum_95 : decode cX8_checksum 95 = .ok (.iload 5, 2) := by decide +kernel
theorem dX8_checksum_97 : decode cX8_checksum 97 = .ok (.iload 4, 2) := by decide +kernel
theorem dX8_checksum_99 : decode cX8_checksum 99 = .ok (.if_icmp .ge 71, 3) := by decide +kernel
theorem dX8_checksum_102 : decode cX8_checksum 102 = .ok (.aload_n 3, 1) := by decide +kernel
theorem dX8_checksum_103 : decode cX8_checksum 103 = .ok (.iload 5, 2) := by decide +kernel
theorem dX8_checksum_105 : decode cX8_checksum 105 = .ok (.aaload, 1) := by decide +kernel
theorem dX8_checksum_106 : decode cX8_checksum 106 = .ok (.astore 6, 2) := by decide +kernel
theorem dX8_checksum_108 : decode cX8_checksum 108 = .ok (.aload 6, 2) := by decide +kernel
theorem dX8_checksum_110 : decode cX8_checksum 110 = .ok (.getfield 285, 3) := by decide +kernel
theorem dX8_checksum_113 : decode cX8_checksum 113 = .ok (.astore 7, 2) := by decide +kernel
theorem dX8_checksum_115 : decode cX8_checksum 115 = .ok (.aload 7, 2) := by decide +kernel
theorem dX8_checksum_117 : decode cX8_checksum 117 = .ok (.arraylength, 1) := by decide +kernel
theorem dX8_checksum_118 : decode cX8_checksum 118 = .ok (.istore 8, 2) := by decide +kernel
theorem dX8_checksum_120 : decode cX8_checksum 120 = .ok (.iconst 0, 1) := by decide +kernel
theorem dX8_checksum_121 : decode cX8_checksum 121 = .ok (.istore 9, 2) := by decide +kernel
theorem dX8_checksum_123 : decode cX8_checksum 123 = .ok (.iload 9, 2) := by decide +kernel
theorem dX8_checksum_125 : decode cX8_checksum 125 = .ok (.iload 8, 2) := by decide +kernel
theorem dX8_checksum_127 : decode cX8_checksum 127 = .ok (.if_icmp .ge 37, 3) := by decide +kernel
theorem dX8_checksum_130 : decode cX8_checksum 130 = .ok (.aload 7, 2) := by decide +kernel
theorem dX8_checksum_132 : decode cX8_checksum 132 = .ok (.iload 9, 2) := by decide +kernel
theorem dX8_checksum_134 : decode cX8_checksum 134 = .ok (.aaload, 1) := by decide +kernel
theorem dX8_checksum_135 : decode cX8_checksum 135 = .ok (.astore 10, 2) := by decide +kernel
theorem dX8_checksum_137 : decode cX8_checksum 137 = .ok (.aload 10, 2) := by decide +kernel
theorem dX8_checksum_139 : decode cX8_checksum 139 = .ok (.getfield 129, 3) := by decide +kernel
theorem dX8_checksum_142 : decode cX8_checksum 142 = .ok (.aload 6, 2) := by decide +kernel
theorem dX8_checksum_144 : decode cX8_checksum 144 = .ok (.getfield 319, 3) := by decide +kernel
theorem dX8_checksum_147 : decode cX8_checksum 147 = .ok (.if_icmp .eq 11, 3) := by decide +kernel
theorem dX8_checksum_150 : decode cX8_checksum 150 = .ok (.aload_n 0, 1) := by decide +kernel
theorem dX8_checksum_151 : decode cX8_checksum 151 = .ok (.lload_n 1, 1) := by decide +kernel
theorem dX8_checksum_152 : decode cX8_checksum 152 = .ok (.aload 10, 2) := by decide +kernel
theorem dX8_checksum_154 : decode cX8_checksum 154 = .ok (.invokevirtual 322, 3) := by decide +kernel
theorem dX8_checksum_157 : decode cX8_checksum 157 = .ok (.lstore_n 1, 1) := by decide +kernel
theorem dX8_checksum_158 : decode cX8_checksum 158 = .ok (.iinc 9 1, 3) := by decide +kernel
theorem dX8_checksum_161 : decode cX8_checksum 161 = .ok (.goto (-38), 3) := by decide +kernel
theorem dX8_checksum_164 : decode cX8_checksum 164 = .ok (.iinc 5 1, 3) := by decide +kernel
theorem dX8_checksum_167 : decode cX8_checksum 167 = .ok (.goto (-72), 3) := by decide +kernel
theorem dX8_checksum_170 : decode cX8_checksum 170 = .ok (.aload_n 0, 1) := by decide +kernel
theorem dX8_checksum_171 : decode cX8_checksum 171 = .ok (.getfield 11, 3) := by decide +kernel
theorem dX8_checksum_174 : decode cX8_checksum 174 = .ok (.astore_n 3, 1) := by decide +kernel
theorem dX8_checksum_175 : decode cX8_checksum 175 = .ok (.aload_n 3, 1) := by decide +kernel
theorem dX8_checksum_176 : decode cX8_checksum 176 = .ok (.arraylength, 1) := by decide +kernel
theorem dX8_checksum_177 : decode cX8_checksum 177 = .ok (.istore 4, 2) := by decide +kernel
theorem dX8_checksum_179 : decode cX8_checksum 179 = .ok (.iconst 0, 1) := by decide +kernel
theorem dX8_checksum_180 : decode cX8_checksum 180 = .ok (.istore 5, 2) := by decide +kernel
theorem dX8_checksum_182 : decode cX8_checksum 182 = .ok (.iload 5, 2) := by decide +kernel
theorem dX8_checksum_184 : decode cX8_checksum 184 = .ok (.iload 4, 2) := by decide +kernel
theorem dX8_checksum_186 : decode cX8_checksum 186 = .ok (.if_icmp .ge 22, 3) := by decide +kernel
theorem dX8_checksum_189 : decode cX8_checksum 189 = .ok (.aload_n 3, 1) := by decide +kernel
theorem dX8_checksum_190 : decode cX8_checksum 190 = .ok (.iload 5, 2) := by decide +kernel
theorem dX8_checksum_192 : decode cX8_checksum 192 = .ok (.aaload, 1) := by decide +kernel
theorem dX8_checksum_193 : decode cX8_checksum 193 = .ok (.astore 6, 2) := by decide +kernel
theorem dX8_checksum_195 : decode cX8_checksum 195 = .ok (.lload_n 1, 1) := by decide +kernel
theorem dX8_checksum_196 : decode cX8_checksum 196 = .ok (.aload 6, 2) := by decide +kernel
theorem dX8_checksum_198 : decode cX8_checksum 198 = .ok (.invokestatic 326, 3) := by decide +kernel
theorem dX8_checksum_201 : decode cX8_checksum 201 = .ok (.lstore_n 1, 1) := by decide +kernel
theorem dX8_checksum_202 : decode cX8_checksum 202 = .ok (.iinc 5 1, 3) := by decide +kernel
theorem dX8_checksum_205 : decode cX8_checksum 205 = .ok (.goto (-23), 3) := by decide +kernel
theorem dX8_checksum_208 : decode cX8_checksum 208 = .ok (.iconst 0, 1) := by decide +kernel
theorem dX8_checksum_209 : decode cX8_checksum 209 = .ok (.istore_n 3, 1) := by decide +kernel
theorem dX8_checksum_210 : decode cX8_checksum 210 = .ok (.iload_n 3, 1) := by decide +kernel
theorem dX8_checksum_211 : decode cX8_checksum 211 = .ok (.aload_n 0, 1) := by decide +kernel
theorem dX8_checksum_212 : decode cX8_checksum 212 = .ok (.getfield 18, 3) := by decide +kernel
theorem dX8_checksum_215 : decode cX8_checksum 215 = .ok (.invokevirtual 86, 3) := by decide +kernel
theorem dX8_checksum_218 : decode cX8_checksum 218 = .ok (.if_icmp .ge 25, 3) := by decide +kernel
theorem dX8_checksum_221 : decode cX8_checksum 221 = .ok (.lload_n 1, 1) := by decide +kernel
theorem dX8_checksum_222 : decode cX8_checksum 222 = .ok (.aload_n 0, 1) := by decide +kernel
theorem dX8_checksum_223 : decode cX8_checksum 223 = .ok (.getfield 18, 3) := by decide +kernel
theorem dX8_checksum_226 : decode cX8_checksum 226 = .ok (.iload_n 3, 1) := by decide +kernel
theorem dX8_checksum_227 : decode cX8_checksum 227 = .ok (.invokevirtual 92, 3) := by decide +kernel
theorem dX8_checksum_230 : decode cX8_checksum 230 = .ok (.checkcast 166, 3) := by decide +kernel
theorem dX8_checksum_233 : decode cX8_checksum 233 = .ok (.invokestatic 330, 3) := by decide +kernel
theorem dX8_checksum_236 : decode cX8_checksum 236 = .ok (.lstore_n 1, 1) := by decide +kernel
theorem dX8_checksum_237 : decode cX8_checksum 237 = .ok (.iinc 3 1, 3) := by decide +kernel
theorem dX8_checksum_240 : decode cX8_checksum 240 = .ok (.goto (-30), 3) := by decide +kernel
theorem dX8_checksum_243 : decode cX8_checksum 243 = .ok (.aload_n 0, 1) := by decide +kernel
theorem dX8_checksum_244 : decode cX8_checksum 244 = .ok (.getfield 22, 3) := by decide +kernel
theorem dX8_checksum_247 : decode cX8_checksum 247 = .ok (.astore_n 3, 1) := by decide +kernel
theorem dX8_checksum_248 : decode cX8_checksum 248 = .ok (.aload_n 3, 1) := by decide +kernel
theorem dX8_checksum_249 : decode cX8_checksum 249 = .ok (.arraylength, 1) := by decide +kernel
theorem dX8_checksum_250 : decode cX8_checksum 250 = .ok (.istore 4, 2) := by decide +kernel
theorem dX8_checksum_252 : decode cX8_checksum 252 = .ok (.iconst 0, 1) := by decide +kernel
theorem dX8_checksum_253 : decode cX8_checksum 253 = .ok (.istore 5, 2) := by decide +kernel
theorem dX8_checksum_255 : decode cX8_checksum 255 = .ok (.iload 5, 2) := by decide +kernel
theorem dX8_checksum_257 : decode cX8_checksum 257 = .ok (.iload 4, 2) := by decide +kernel
theorem dX8_checksum_259 : decode cX8_checksum 259 = .ok (.if_icmp .ge 22, 3) := by decide +kernel
theorem dX8_checksum_262 : decode cX8_checksum 262 = .ok (.aload_n 3, 1) := by decide +kernel
theorem dX8_checksum_263 : decode cX8_checksum 263 = .ok (.iload 5, 2) := by decide +kernel
theorem dX8_checksum_265 : decode cX8_checksum 265 = .ok (.iaload, 1) := by decide +kernel
theorem dX8_checksum_266 : decode cX8_checksum 266 = .ok (.istore 6, 2) := by decide +kernel
theorem dX8_checksum_268 : decode cX8_checksum 268 = .ok (.lload_n 1, 1) := by decide +kernel
theorem dX8_checksum_269 : decode cX8_checksum 269 = .ok (.iload 6, 2) := by decide +kernel
theorem dX8_checksum_271 : decode cX8_checksum 271 = .ok (.invokestatic 315, 3) := by decide +kernel
theorem dX8_checksum_274 : decode cX8_checksum 274 = .ok (.lstore_n 1, 1) := by decide +kernel
theorem dX8_checksum_275 : decode cX8_checksum 275 = .ok (.iinc 5 1, 3) := by decide +kernel
theorem dX8_checksum_278 : decode cX8_checksum 278 = .ok (.goto (-23), 3) := by decide +kernel
theorem dX8_checksum_281 : decode cX8_checksum 281 = .ok (.lload_n 1, 1) := by decide +kernel
theorem dX8_checksum_282 : decode cX8_checksum 282 = .ok (.lreturn, 1) := by decide +kernel
theorem dX8_endAt_0 : decode cX8_endAt 0 = .ok (.iload_n 1, 1) := by decide +kernel
theorem dX8_endAt_1 : decode cX8_endAt 1 = .ok (.ifCond .lt 12, 3) := by decide +kernel
theorem dX8_endAt_4 : decode cX8_endAt 4 = .ok (.iload_n 1, 1) := by decide +kernel
theorem dX8_endAt_5 : decode cX8_endAt 5 = .ok (.aload_n 0, 1) := by decide +kernel
theorem dX8_endAt_6 : decode cX8_endAt 6 = .ok (.getfield 11, 3) := by decide +kernel
theorem dX8_endAt_9 : decode cX8_endAt 9 = .ok (.arraylength, 1) := by decide +kernel
theorem dX8_endAt_10 : decode cX8_endAt 10 = .ok (.if_icmp .lt 14, 3) := by decide +kernel
theorem dX8_endAt_13 : decode cX8_endAt 13 = .ok (.new 253, 3) := by decide +kernel
theorem dX8_endAt_16 : decode cX8_endAt 16 = .ok (.dup, 1) := by decide +kernel
theorem dX8_endAt_17 : decode cX8_endAt 17 = .ok (.ldc_w 334, 3) := by decide +kernel
theorem dX8_endAt_20 : decode cX8_endAt 20 = .ok (.invokespecial 257, 3) := by decide +kernel
theorem dX8_endAt_23 : decode cX8_endAt 23 = .ok (.athrow, 1) := by decide +kernel
theorem dX8_endAt_24 : decode cX8_endAt 24 = .ok (.aload_n 0, 1) := by decide +kernel
theorem dX8_endAt_25 : decode cX8_endAt 25 = .ok (.getfield 11, 3) := by decide +kernel
theorem dX8_endAt_28 : decode cX8_endAt 28 = .ok (.iload_n 1, 1) := by decide +kernel
theorem dX8_endAt_29 : decode cX8_endAt 29 = .ok (.aaload, 1) := by decide +kernel
theorem dX8_endAt_30 : decode cX8_endAt 30 = .ok (.areturn, 1) := by decide +kernel
theorem dX8_linkAt_0 : decode cX8_linkAt 0 = .ok (.aload_n 0, 1) := by decide +kernel
theorem dX8_linkAt_1 : decode cX8_linkAt 1 = .ok (.iload_n 1, 1) := by decide +kernel
theorem dX8_linkAt_2 : decode cX8_linkAt 2 = .ok (.invokevirtual 52, 3) := by decide +kernel
theorem dX8_linkAt_5 : decode cX8_linkAt 5 = .ok (.iload_n 2, 1) := by decide +kernel
theorem dX8_linkAt_6 : decode cX8_linkAt 6 = .ok (.invokevirtual 119, 3) := by decide +kernel
theorem dX8_linkAt_9 : decode cX8_linkAt 9 = .ok (.astore_n 3, 1) := by decide +kernel
theorem dX8_linkAt_10 : decode cX8_linkAt 10 = .ok (.aload_n 3, 1) := by decide +kernel
theorem dX8_linkAt_11 : decode cX8_linkAt 11 = .ok (.ifnonnull 14, 3) := by decide +kernel
theorem dX8_linkAt_14 : decode cX8_linkAt 14 = .ok (.new 253, 3) := by decide +kernel
theorem dX8_linkAt_17 : decode cX8_linkAt 17 = .ok (.dup, 1) := by decide +kernel
theorem dX8_linkAt_18 : decode cX8_linkAt 18 = .ok (.ldc_w 336, 3) := by decide +kernel
theorem dX8_linkAt_21 : decode cX8_linkAt 21 = .ok (.invokespecial 257, 3) := by decide +kernel
theorem dX8_linkAt_24 : decode cX8_linkAt 24 = .ok (.athrow, 1) := by decide +kernel
theorem dX8_linkAt_25 : decode cX8_linkAt 25 = .ok (.iload_n 2, 1) := by decide +kernel
theorem dX8_linkAt_26 : decode cX8_linkAt 26 = .ok (.iload_n 1, 1) := by decide +kernel
theorem dX8_linkAt_27 : decode cX8_linkAt 27 = .ok (.if_icmp .ne 14, 3) := by decide +kernel
theorem dX8_linkAt_30 : decode cX8_linkAt 30 = .ok (.new 39, 3) := by decide +kernel
theorem dX8_linkAt_33 : decode cX8_linkAt 33 = .ok (.dup, 1) := by decide +kernel
theorem dX8_linkAt_34 : decode cX8_linkAt 34 = .ok (.ldc_w 338, 3) := by decide +kernel
theorem dX8_linkAt_37 : decode cX8_linkAt 37 = .ok (.invokespecial 43, 3) := by decide +kernel
theorem dX8_linkAt_40 : decode cX8_linkAt 40 = .ok (.athrow, 1) := by decide +kernel
theorem dX8_linkAt_41 : decode cX8_linkAt 41 = .ok (.aload_n 3, 1) := by decide +kernel
theorem dX8_linkAt_42 : decode cX8_linkAt 42 = .ok (.areturn, 1) := by decide +kernel
theorem dX8_letterAt_0 : decode cX8_letterAt 0 = .ok (.iload_n 1, 1) := by decide +kernel
theorem dX8_letterAt_1 : decode cX8_letterAt 1 = .ok (.ifCond .lt 14, 3) := by decide +kernel
theorem dX8_letterAt_4 : decode cX8_letterAt 4 = .ok (.iload_n 1, 1) := by decide +kernel
theorem dX8_letterAt_5 : decode cX8_letterAt 5 = .ok (.aload_n 0, 1) := by decide +kernel
theorem dX8_letterAt_6 : decode cX8_letterAt 6 = .ok (.getfield 18, 3) := by decide +kernel
theorem dX8_letterAt_9 : decode cX8_letterAt 9 = .ok (.invokevirtual 86, 3) := by decide +kernel
theorem dX8_letterAt_12 : decode cX8_letterAt 12 = .ok (.if_icmp .lt 14, 3) := by decide +kernel
theorem dX8_letterAt_15 : decode cX8_letterAt 15 = .ok (.new 253, 3) := by decide +kernel
theorem dX8_letterAt_18 : decode cX8_letterAt 18 = .ok (.dup, 1) := by decide +kernel
theorem dX8_letterAt_19 : decode cX8_letterAt 19 = .ok (.ldc_w 340, 3) := by decide +kernel
theorem dX8_letterAt_22 : decode cX8_letterAt 22 = .ok (.invokespecial 257, 3) := by decide +kernel
theorem dX8_letterAt_25 : decode cX8_letterAt 25 = .ok (.athrow, 1) := by decide +kernel
theorem dX8_letterAt_26 : decode cX8_letterAt 26 = .ok (.aload_n 0, 1) := by decide +kernel
theorem dX8_letterAt_27 : decode cX8_letterAt 27 = .ok (.getfield 18, 3) := by decide +kernel
theorem dX8_letterAt_30 : decode cX8_letterAt 30 = .ok (.iload_n 1, 1) := by decide +kernel
theorem dX8_letterAt_31 : decode cX8_letterAt 31 = .ok (.invokevirtual 92, 3) := by decide +kernel
theorem dX8_letterAt_34 : decode cX8_letterAt 34 = .ok (.checkcast 166, 3) := by decide +kernel
theorem dX8_letterAt_37 : decode cX8_letterAt 37 = .ok (.areturn, 1) := by decide +kernel
theorem dX8_checkRange_0 : decode cX8_checkRange 0 = .ok (.iload_n 0, 1) := by decide +kernel
theorem dX8_checkRange_1 : decode cX8_checkRange 1 = .ok (.iload_n 1, 1) := by decide +kernel
theorem dX8_checkRange_2 : decode cX8_checkRange 2 = .ok (.if_icmp .lt 8, 3) := by decide +kernel
theorem dX8_checkRange_5 : decode cX8_checkRange 5 = .ok (.iload_n 0, 1) := by decide +kernel
theorem dX8_checkRange_6 : decode cX8_checkRange 6 = .ok (.iload_n 2, 1) := by decide +kernel
theorem dX8_checkRange_7 : decode cX8_checkRange 7 = .ok (.if_icmp .le 14, 3) := by decide +kernel
theorem dX8_checkRange_10 : decode cX8_checkRange 10 = .ok (.new 39, 3) := by decide +kernel
theorem dX8_checkRange_13 : decode cX8_checkRange 13 = .ok (.dup, 1) := by decide +kernel
theorem dX8_checkRange_14 : decode cX8_checkRange 14 = .ok (.ldc_w 342, 3) := by decide +kernel
theorem dX8_checkRange_17 : decode cX8_checkRange 17 = .ok (.invokespecial 43, 3) := by decide +kernel
theorem dX8_checkRange_20 : decode cX8_checkRange 20 = .ok (.athrow, 1) := by decide +kernel
theorem dX8_checkRange_21 : decode cX8_checkRange 21 = .ok (.return_, 1) := by decide +kernel
theorem dX8_topBits_0 : decode cX8_topBits 0 = .ok (.iload_n 0, 1) := by decide +kernel
theorem dX8_topBits_1 : decode cX8_topBits 1 = .ok (.ldc_w 344, 3) := by decide +kernel
theorem dX8_topBits_4 : decode cX8_topBits 4 = .ok (.iload_n 1, 1) := by decide +kernel
theorem dX8_topBits_5 : decode cX8_topBits 5 = .ok (.ishr, 1) := by decide +kernel
theorem dX8_topBits_6 : decode cX8_topBits 6 = .ok (.iand, 1) := by decide +kernel
theorem dX8_topBits_7 : decode cX8_topBits 7 = .ok (.sipush 255, 3) := by decide +kernel
theorem dX8_topBits_10 : decode cX8_topBits 10 = .ok (.iand, 1) := by decide +kernel
theorem dX8_topBits_11 : decode cX8_topBits 11 = .ok (.ireturn, 1) := by decide +kernel
theorem dX8_endWithAddress_0 : decode cX8_endWithAddress 0 = .ok (.aload_n 0, 1) := by decide +kernel
theorem dX8_endWithAddress_1 : decode cX8_endWithAddress 1 = .ok (.getfield 11, 3) := by decide +kernel
theorem dX8_endWithAddress_4 : decode cX8_endWithAddress 4 = .ok (.astore_n 2, 1) := by decide +kernel
theorem dX8_endWithAddress_5 : decode cX8_endWithAddress 5 = .ok (.aload_n 2, 1) := by decide +kernel
theorem dX8_endWithAddress_6 : decode cX8_endWithAddress 6 = .ok (.arraylength, 1) := by decide +kernel
theorem dX8_endWithAddress_7 : decode cX8_endWithAddress 7 = .ok (.istore_n 3, 1) := by decide +kernel
theorem dX8_endWithAddress_8 : decode cX8_endWithAddress 8 = .ok (.iconst 0, 1) := by decide +kernel
theorem dX8_endWithAddress_9 : decode cX8_endWithAddress 9 = .ok (.istore 4, 2) := by decide +kernel
theorem dX8_endWithAddress_11 : decode cX8_endWithAddress 11 = .ok (.iload 4, 2) := by decide +kernel
theorem dX8_endWithAddress_13 : decode cX8_endWithAddress 13 = .ok (.iload_n 3, 1) := by decide +kernel
theorem dX8_endWithAddress_14 : decode cX8_endWithAddress 14 = .ok (.if_icmp .ge 27, 3) := by decide +kernel
theorem dX8_endWithAddress_17 : decode cX8_endWithAddress 17 = .ok (.aload_n 2, 1) := by decide +kernel
theorem dX8_endWithAddress_18 : decode cX8_endWithAddress 18 = .ok (.iload 4, 2) := by decide +kernel
theorem dX8_endWithAddress_20 : decode cX8_endWithAddress 20 = .ok (.aaload, 1) := by decide +kernel
theorem dX8_endWithAddress_21 : decode cX8_endWithAddress 21 = .ok (.astore 5, 2) := by decide +kernel
theorem dX8_endWithAddress_23 : decode cX8_endWithAddress 23 = .ok (.aload 5, 2) := by decide +kernel
theorem dX8_endWithAddress_25 : decode cX8_endWithAddress 25 = .ok (.getfield 65, 3) := by decide +kernel
theorem dX8_endWithAddress_28 : decode cX8_endWithAddress 28 = .ok (.iload_n 1, 1) := by decide +kernel
theorem dX8_endWithAddress_29 : decode cX8_endWithAddress 29 = .ok (.if_icmp .ne 6, 3) := by decide +kernel
theorem dX8_endWithAddress_32 : decode cX8_endWithAddress 32 = .ok (.aload 5, 2) := by decide +kernel
theorem dX8_endWithAddress_34 : decode cX8_endWithAddress 34 = .ok (.areturn, 1) := by decide +kernel
theorem dX8_endWithAddress_35 : decode cX8_endWithAddress 35 = .ok (.iinc 4 1, 3) := by decide +kernel
theorem dX8_endWithAddress_38 : decode cX8_endWithAddress 38 = .ok (.goto (-27), 3) := by decide +kernel
theorem dX8_endWithAddress_41 : decode cX8_endWithAddress 41 = .ok (.aconst_null, 1) := by decide +kernel
theorem dX8_endWithAddress_42 : decode cX8_endWithAddress 42 = .ok (.areturn, 1) := by decide +kernel
theorem dX8_ageOf_0 : decode cX8_ageOf 0 = .ok (.aload_n 0, 1) := by decide +kernel
theorem dX8_ageOf_1 : decode cX8_ageOf 1 = .ok (.getfield 26, 3) := by decide +kernel
theorem dX8_ageOf_4 : decode cX8_ageOf 4 = .ok (.aload_n 1, 1) := by decide +kernel
theorem dX8_ageOf_5 : decode cX8_ageOf 5 = .ok (.getfield 345, 3) := by decide +kernel
theorem dX8_ageOf_8 : decode cX8_ageOf 8 = .ok (.isub, 1) := by decide +kernel
theorem dX8_ageOf_9 : decode cX8_ageOf 9 = .ok (.ireturn, 1) := by decide +kernel
theorem dX8_usableOf_0 : decode cX8_usableOf 0 = .ok (.aload_n 1, 1) := by decide +kernel
theorem dX8_usableOf_1 : decode cX8_usableOf 1 = .ok (.getfield 289, 3) := by decide +kernel
theorem dX8_usableOf_4 : decode cX8_usableOf 4 = .ok (.astore_n 2, 1) := by decide +kernel
theorem dX8_usableOf_5 : decode cX8_usableOf 5 = .ok (.aload_n 2, 1) := by decide +kernel
theorem dX8_usableOf_6 : decode cX8_usableOf 6 = .ok (.ifnull 22, 3) := by decide +kernel
theorem dX8_usableOf_9 : decode cX8_usableOf 9 = .ok (.aload_n 0, 1) := by decide +kernel
theorem dX8_usableOf_10 : decode cX8_usableOf 10 = .ok (.aload_n 2, 1) := by decide +kernel
theorem dX8_usableOf_11 : decode cX8_usableOf 11 = .ok (.invokevirtual 293, 3) := by decide +kernel
theorem dX8_usableOf_14 : decode cX8_usableOf 14 = .ok (.bipush 30, 2) := by decide +kernel
theorem dX8_usableOf_16 : decode cX8_usableOf 16 = .ok (.if_icmp .ge 12, 3) := by decide +kernel
theorem dX8_usableOf_19 : decode cX8_usableOf 19 = .ok (.aload_n 2, 1) := by decide +kernel
theorem dX8_usableOf_20 : decode cX8_usableOf 20 = .ok (.getfield 350, 3) := by decide +kernel
theorem dX8_usableOf_23 : decode cX8_usableOf 23 = .ok (.bipush 40, 2) := by decide +kernel
theorem dX8_usableOf_25 : decode cX8_usableOf 25 = .ok (.if_icmp .lt 5, 3) := by decide +kernel
theorem dX8_usableOf_28 : decode cX8_usableOf 28 = .ok (.aconst_null, 1) := by decide +kernel
theorem dX8_usableOf_29 : decode cX8_usableOf 29 = .ok (.areturn, 1) := by decide +kernel
theorem dX8_usableOf_30 : decode cX8_usableOf 30 = .ok (.aload_n 2, 1) := by decide +kernel
theorem dX8_usableOf_31 : decode cX8_usableOf 31 = .ok (.areturn, 1) := by decide +kernel
theorem dX8_wantsRenewal_0 : decode cX8_wantsRenewal 0 = .ok (.aload_n 1, 1) := by decide +kernel
theorem dX8_wantsRenewal_1 : decode cX8_wantsRenewal 1 = .ok (.getfield 353, 3) := by decide +kernel
theorem dX8_wantsRenewal_4 : decode cX8_wantsRenewal 4 = .ok (.ifCond .eq 26, 3) := by decide +kernel
theorem dX8_wantsRenewal_7 : decode cX8_wantsRenewal 7 = .ok (.aload_n 0, 1) := by decide +kernel
theorem dX8_wantsRenewal_8 : decode cX8_wantsRenewal 8 = .ok (.aload_n 1, 1) := by decide +kernel
theorem dX8_wantsRenewal_9 : decode cX8_wantsRenewal 9 = .ok (.invokevirtual 293, 3) := by decide +kernel
theorem dX8_wantsRenewal_12 : decode cX8_wantsRenewal 12 = .ok (.bipush 20, 2) := by decide +kernel
theorem dX8_wantsRenewal_14 : decode cX8_wantsRenewal 14 = .ok (.if_icmp .ge 12, 3) := by decide +kernel
theorem dX8_wantsRenewal_17 : decode cX8_wantsRenewal 17 = .ok (.aload_n 1, 1) := by decide +kernel
theorem dX8_wantsRenewal_18 : decode cX8_wantsRenewal 18 = .ok (.getfield 350, 3) := by decide +kernel
theorem dX8_wantsRenewal_21 : decode cX8_wantsRenewal 21 = .ok (.bipush 30, 2) := by decide +kernel
theorem dX8_wantsRenewal_23 : decode cX8_wantsRenewal 23 = .ok (.if_icmp .lt 7, 3) := by decide +kernel
theorem dX8_wantsRenewal_26 : decode cX8_wantsRenewal 26 = .ok (.iconst 1, 1) := by decide +kernel
theorem dX8_wantsRenewal_27 : decode cX8_wantsRenewal 27 = .ok (.goto 4, 3) := by decide +kernel
theorem dX8_wantsRenewal_30 : decode cX8_wantsRenewal 30 = .ok (.iconst 0, 1) := by decide +kernel
theorem dX8_wantsRenewal_31 : decode cX8_wantsRenewal 31 = .ok (.ireturn, 1) := by decide +kernel
theorem dX8_hasFreshHello_0 : decode cX8_hasFreshHello 0 = .ok (.aload_n 1, 1) := by decide +kernel
theorem dX8_hasFreshHello_1 : decode cX8_hasFreshHello 1 = .ok (.getfield 356, 3) := by decide +kernel
theorem dX8_hasFreshHello_4 : decode cX8_hasFreshHello 4 = .ok (.ifnull 23, 3) := by decide +kernel
theorem dX8_hasFreshHello_7 : decode cX8_hasFreshHello 7 = .ok (.aload_n 0, 1) := by decide +kernel
theorem dX8_hasFreshHello_8 : decode cX8_hasFreshHello 8 = .ok (.getfield 26, 3) := by decide +kernel
theorem dX8_hasFreshHello_11 : decode cX8_hasFreshHello 11 = .ok (.aload_n 1, 1) := by decide +kernel
theorem dX8_hasFreshHello_12 : decode cX8_hasFreshHello 12 = .ok (.getfield 356, 3) := by decide +kernel
theorem dX8_hasFreshHello_15 : decode cX8_hasFreshHello 15 = .ok (.getfield 360, 3) := by decide +kernel
theorem dX8_hasFreshHello_18 : decode cX8_hasFreshHello 18 = .ok (.isub, 1) := by decide +kernel
theorem dX8_hasFreshHello_19 : decode cX8_hasFreshHello 19 = .ok (.iconst 5, 1) := by decide +kernel
theorem dX8_hasFreshHello_20 : decode cX8_hasFreshHello 20 = .ok (.if_icmp .ge 7, 3) := by decide +kernel
theorem dX8_hasFreshHello_23 : decode cX8_hasFreshHello 23 = .ok (.iconst 1, 1) := by decide +kernel
theorem dX8_hasFreshHello_24 : decode cX8_hasFreshHello 24 = .ok (.goto 4, 3) := by decide +kernel
theorem dX8_hasFreshHello_27 : decode cX8_hasFreshHello 27 = .ok (.iconst 0, 1) := by decide +kernel
theorem dX8_hasFreshHello_28 : decode cX8_hasFreshHello 28 = .ok (.ireturn, 1) := by decide +kernel
theorem dX8_youngCookie_0 : decode cX8_youngCookie 0 = .ok (.aload_n 0, 1) := by decide +kernel
theorem dX8_youngCookie_1 : decode cX8_youngCookie 1 = .ok (.getfield 26, 3) := by decide +kernel
theorem dX8_youngCookie_4 : decode cX8_youngCookie 4 = .ok (.aload_n 1, 1) := by decide +kernel
theorem dX8_youngCookie_5 : decode cX8_youngCookie 5 = .ok (.getfield 365, 3) := by decide +kernel
theorem dX8_youngCookie_8 : decode cX8_youngCookie 8 = .ok (.isub, 1) := by decide +kernel
theorem dX8_youngCookie_9 : decode cX8_youngCookie 9 = .ok (.bipush 60, 2) := by decide +kernel
theorem dX8_youngCookie_11 : decode cX8_youngCookie 11 = .ok (.if_icmp .ge 10, 3) := by decide +kernel
theorem dX8_youngCookie_14 : decode cX8_youngCookie 14 = .ok (.aload_n 1, 1) := by decide +kernel
theorem dX8_youngCookie_15 : decode cX8_youngCookie 15 = .ok (.getfield 368, 3) := by decide +kernel
theorem dX8_youngCookie_18 : decode cX8_youngCookie 18 = .ok (.goto 4, 3) := by decide +kernel
theorem dX8_youngCookie_21 : decode cX8_youngCookie 21 = .ok (.iconst (-1), 1) := by decide +kernel
theorem dX8_youngCookie_22 : decode cX8_youngCookie 22 = .ok (.ireturn, 1) := by decide +kernel
theorem dX8_post_0 : decode cX8_post 0 = .ok (.aload_n 0, 1) := by decide +kernel
theorem dX8_post_1 : decode cX8_post 1 = .ok (.getfield 18, 3) := by decide +kernel
theorem dX8_post_4 : decode cX8_post 4 = .ok (.invokevirtual 86, 3) := by decide +kernel
theorem dX8_post_7 : decode cX8_post 7 = .ok (.bipush 60, 2) := by decide +kernel
theorem dX8_post_9 : decode cX8_post 9 = .ok (.if_icmp .ge 12, 3) := by decide +kernel
theorem dX8_post_12 : decode cX8_post 12 = .ok (.aload_n 0, 1) := by decide +kernel
theorem dX8_post_13 : decode cX8_post 13 = .ok (.getfield 18, 3) := by decide +kernel
theorem dX8_post_16 : decode cX8_post 16 = .ok (.aload_n 1, 1) := by decide +kernel
theorem dX8_post_17 : decode cX8_post 17 = .ok (.invokevirtual 103, 3) := by decide +kernel
theorem dX8_post_20 : decode cX8_post 20 = .ok (.pop, 1) := by decide +kernel
theorem dX8_post_21 : decode cX8_post 21 = .ok (.return_, 1) := by decide +kernel
theorem dX8_putToWait_0 : decode cX8_putToWait 0 = .ok (.aload_n 1, 1) := by decide +kernel
theorem dX8_putToWait_1 : decode cX8_putToWait 1 = .ok (.getfield 237, 3) := by decide +kernel
theorem dX8_putToWait_4 : decode cX8_putToWait 4 = .ok (.invokevirtual 86, 3) := by decide +kernel
theorem dX8_putToWait_7 : decode cX8_putToWait 7 = .ok (.iconst 4, 1) := by decide +kernel
theorem dX8_putToWait_8 : decode cX8_putToWait 8 = .ok (.if_icmp .lt 12, 3) := by decide +kernel
theorem dX8_putToWait_11 : decode cX8_putToWait 11 = .ok (.aload_n 1, 1) := by decide +kernel
theorem dX8_putToWait_12 : decode cX8_putToWait 12 = .ok (.getfield 237, 3) := by decide +kernel
theorem dX8_putToWait_15 : decode cX8_putToWait 15 = .ok (.iconst 0, 1) := by decide +kernel
theorem dX8_putToWait_16 : decode cX8_putToWait 16 = .ok (.invokevirtual 112, 3) := by decide +kernel
theorem dX8_putToWait_19 : decode cX8_putToWait 19 = .ok (.pop, 1) := by decide +kernel
theorem dX8_putToWait_20 : decode cX8_putToWait 20 = .ok (.aload_n 1, 1) := by decide +kernel
theorem dX8_putToWait_21 : decode cX8_putToWait 21 = .ok (.getfield 237, 3) := by decide +kernel
theorem dX8_putToWait_24 : decode cX8_putToWait 24 = .ok (.aload_n 2, 1) := by decide +kernel
theorem dX8_putToWait_25 : decode cX8_putToWait 25 = .ok (.invokevirtual 103, 3) := by decide +kernel
theorem dX8_putToWait_28 : decode cX8_putToWait 28 = .ok (.pop, 1) := by decide +kernel
theorem dX8_putToWait_29 : decode cX8_putToWait 29 = .ok (.return_, 1) := by decide +kernel
theorem dX8_greetUnlessFresh_0 : decode cX8_greetUnlessFresh 0 = .ok (.aload_n 0, 1) := by decide +kernel
theorem dX8_greetUnlessFresh_1 : decode cX8_greetUnlessFresh 1 = .ok (.aload_n 2, 1) := by decide +kernel
theorem dX8_greetUnlessFresh_2 : decode cX8_greetUnlessFresh 2 = .ok (.invokevirtual 151, 3) := by decide +kernel
theorem dX8_greetUnlessFresh_5 : decode cX8_greetUnlessFresh 5 = .ok (.ifCond .ne 10, 3) := by decide +kernel
theorem dX8_greetUnlessFresh_8 : decode cX8_greetUnlessFresh 8 = .ok (.aload_n 0, 1) := by decide +kernel
theorem dX8_greetUnlessFresh_9 : decode cX8_greetUnlessFresh 9 = .ok (.aload_n 1, 1) := by decide +kernel
theorem dX8_greetUnlessFresh_10 : decode cX8_greetUnlessFresh 10 = .ok (.aload_n 2, 1) := by decide +kernel
theorem dX8_greetUnlessFresh_11 : decode cX8_greetUnlessFresh 11 = .ok (.invokevirtual 157, 3) := by decide +kernel
theorem dX8_greetUnlessFresh_14 : decode cX8_greetUnlessFresh 14 = .ok (.pop, 1) := by decide +kernel
theorem dX8_greetUnlessFresh_15 : decode cX8_greetUnlessFresh 15 = .ok (.return_, 1) := by decide +kernel
theorem dX8_sendHello_0 : decode cX8_sendHello 0 = .ok (.aload_n 0, 1) := by decide +kernel
theorem dX8_sendHello_1 : decode cX8_sendHello 1 = .ok (.dup, 1) := by decide +kernel
theorem dX8_sendHello_2 : decode cX8_sendHello 2 = .ok (.getfield 30, 3) := by decide +kernel
theorem dX8_sendHello_5 : decode cX8_sendHello 5 = .ok (.iconst 1, 1) := by decide +kernel
theorem dX8_sendHello_6 : decode cX8_sendHello 6 = .ok (.iadd, 1) := by decide +kernel
theorem dX8_sendHello_7 : decode cX8_sendHello 7 = .ok (.putfield 30, 3) := by decide +kernel
theorem dX8_sendHello_10 : decode cX8_sendHello 10 = .ok (.aload_n 0, 1) := by decide +kernel
theorem dX8_sendHello_11 : decode cX8_sendHello 11 = .ok (.getfield 30, 3) := by decide +kernel
theorem dX8_sendHello_14 : decode cX8_sendHello 14 = .ok (.invokestatic 371, 3) := by decide +kernel
theorem dX8_sendHello_17 : decode cX8_sendHello 17 = .ok (.istore_n 3, 1) := by decide +kernel
theorem dX8_sendHello_18 : decode cX8_sendHello 18 = .ok (.aload_n 2, 1) := by decide +kernel
theorem dX8_sendHello_19 : decode cX8_sendHello 19 = .ok (.iconst 4, 1) := by decide +kernel
theorem dX8_sendHello_20 : decode cX8_sendHello 20 = .ok (.aload_n 0, 1) := by decide +kernel
theorem dX8_sendHello_21 : decode cX8_sendHello 21 = .ok (.getfield 26, 3) := by decide +kernel
theorem dX8_sendHello_24 : decode cX8_sendHello 24 = .ok (.imul, 1) := by decide +kernel
theorem dX8_sendHello_25 : decode cX8_sendHello 25 = .ok (.aload_n 2, 1) := by decide +kernel
theorem dX8_sendHello_26 : decode cX8_sendHello 26 = .ok (.getfield 244, 3) := by decide +kernel
theorem dX8_sendHello_29 : decode cX8_sendHello 29 = .ok (.iconst 1, 1) := by decide +kernel
theorem dX8_sendHello_30 : decode cX8_sendHello 30 = .ok (.iadd, 1) := by decide +kernel
theorem dX8_sendHello_31 : decode cX8_sendHello 31 = .ok (.invokestatic 374, 3) := by decide +kernel
theorem dX8_sendHello_34 : decode cX8_sendHello 34 = .ok (.putfield 244, 3) := by decide +kernel
theorem dX8_sendHello_37 : decode cX8_sendHello 37 = .ok (.new 166, 3) := by decide +kernel
theorem dX8_sendHello_40 : decode cX8_sendHello 40 = .ok (.dup, 1) := by decide +kernel
theorem dX8_sendHello_41 : decode cX8_sendHello 41 = .ok (.iconst 1, 1) := by decide +kernel
theorem dX8_sendHello_42 : decode cX8_sendHello 42 = .ok (.aload_n 1, 1) := by decide +kernel
theorem dX8_sendHello_43 : decode cX8_sendHello 43 = .ok (.getfield 65, 3) := by decide +kernel
theorem dX8_sendHello_46 : decode cX8_sendHello 46 = .ok (.aload_n 2, 1) := by decide +kernel
theorem dX8_sendHello_47 : decode cX8_sendHello 47 = .ok (.getfield 221, 3) := by decide +kernel
theorem dX8_sendHello_50 : decode cX8_sendHello 50 = .ok (.invokespecial 379, 3) := by decide +kernel
theorem dX8_sendHello_53 : decode cX8_sendHello 53 = .ok (.astore 4, 2) := by decide +kernel
theorem dX8_sendHello_55 : decode cX8_sendHello 55 = .ok (.aload 4, 2) := by decide +kernel
theorem dX8_sendHello_57 : decode cX8_sendHello 57 = .ok (.iconst 0, 1) := by decide +kernel
theorem dX8_sendHello_58 : decode cX8_sendHello 58 = .ok (.aload_n 0, 1) := by decide +kernel
theorem dX8_sendHello_59 : decode cX8_sendHello 59 = .ok (.getfield 30, 3) := by decide +kernel
theorem dX8_sendHello_62 : decode cX8_sendHello 62 = .ok (.invokevirtual 380, 3) := by decide +kernel
theorem dX8_sendHello_65 : decode cX8_sendHello 65 = .ok (.aload 4, 2) := by decide +kernel
theorem dX8_sendHello_67 : decode cX8_sendHello 67 = .ok (.iconst 1, 1) := by decide +kernel
theorem dX8_sendHello_68 : decode cX8_sendHello 68 = .ok (.iload_n 3, 1) := by decide +kernel
theorem dX8_sendHello_69 : decode cX8_sendHello 69 = .ok (.invokestatic 269, 3) := by decide +kernel
theorem dX8_sendHello_72 : decode cX8_sendHello 72 = .ok (.invokevirtual 380, 3) := by decide +kernel
theorem dX8_sendHello_75 : decode cX8_sendHello 75 = .ok (.aload 4, 2) := by decide +kernel
theorem dX8_sendHello_77 : decode cX8_sendHello 77 = .ok (.iconst 2, 1) := by decide +kernel
theorem dX8_sendHello_78 : decode cX8_sendHello 78 = .ok (.bipush 10, 2) := by decide +kernel
theorem dX8_sendHello_80 : decode cX8_sendHello 80 = .ok (.aload_n 1, 1) := by decide +kernel
theorem dX8_sendHello_81 : decode cX8_sendHello 81 = .ok (.getfield 319, 3) := by decide +kernel
theorem dX8_sendHello_84 : decode cX8_sendHello 84 = .ok (.imul, 1) := by decide +kernel
theorem dX8_sendHello_85 : decode cX8_sendHello 85 = .ok (.aload_n 2, 1) := by decide +kernel
theorem dX8_sendHello_86 : decode cX8_sendHello 86 = .ok (.getfield 129, 3) := by decide +kernel
theorem dX8_sendHello_89 : decode cX8_sendHello 89 = .ok (.iadd, 1) := by decide +kernel
theorem dX8_sendHello_90 : decode cX8_sendHello 90 = .ok (.invokevirtual 380, 3) := by decide +kernel
theorem dX8_sendHello_93 : decode cX8_sendHello 93 = .ok (.aload 4, 2) := by decide +kernel
theorem dX8_sendHello_95 : decode cX8_sendHello 95 = .ok (.iconst 3, 1) := by decide +kernel
theorem dX8_sendHello_96 : decode cX8_sendHello 96 = .ok (.aload_n 2, 1) := by decide +kernel
theorem dX8_sendHello_97 : decode cX8_sendHello 97 = .ok (.getfield 244, 3) := by decide +kernel
theorem dX8_sendHello_100 : decode cX8_sendHello 100 = .ok (.invokevirtual 380, 3) := by decide +kernel
theorem dX8_sendHello_103 : decode cX8_sendHello 103 = .ok (.aload 4, 2) := by decide +kernel
theorem dX8_sendHello_105 : decode cX8_sendHello 105 = .ok (.aload_n 2, 1) := by decide +kernel
theorem dX8_sendHello_106 : decode cX8_sendHello 106 = .ok (.aload_n 2, 1) := by decide +kernel
theorem dX8_sendHello_107 : decode cX8_sendHello 107 = .ok (.getfield 384, 3) := by decide +kernel
theorem dX8_sendHello_110 : decode cX8_sendHello 110 = .ok (.iload_n 3, 1) := by decide +kernel
theorem dX8_sendHello_111 : decode cX8_sendHello 111 = .ok (.invokestatic 274, 3) := by decide +kernel
theorem dX8_sendHello_114 : decode cX8_sendHello 114 = .ok (.invokestatic 387, 3) := by decide +kernel
theorem dX8_sendHello_117 : decode cX8_sendHello 117 = .ok (.invokevirtual 391, 3) := by decide +kernel
theorem dX8_sendHello_120 : decode cX8_sendHello 120 = .ok (.istore 5, 2) := by decide +kernel
theorem dX8_sendHello_122 : decode cX8_sendHello 122 = .ok (.aload_n 0, 1) := by decide +kernel
theorem dX8_sendHello_123 : decode cX8_sendHello 123 = .ok (.aload_n 2, 1) := by decide +kernel
theorem dX8_sendHello_124 : decode cX8_sendHello 124 = .ok (.invokevirtual 240, 3) := by decide +kernel
theorem dX8_sendHello_127 : decode cX8_sendHello 127 = .ok (.istore 6, 2) := by decide +kernel
theorem dX8_sendHello_129 : decode cX8_sendHello 129 = .ok (.aload 4, 2) := by decide +kernel
theorem dX8_sendHello_131 : decode cX8_sendHello 131 = .ok (.iconst 5, 1) := by decide +kernel
theorem dX8_sendHello_132 : decode cX8_sendHello 132 = .ok (.iload 6, 2) := by decide +kernel
theorem dX8_sendHello_134 : decode cX8_sendHello 134 = .ok (.iconst (-1), 1) := by decide +kernel
theorem dX8_sendHello_135 : decode cX8_sendHello 135 = .ok (.if_icmp .ne 7, 3) := by decide +kernel
theorem dX8_sendHello_138 : decode cX8_sendHello 138 = .ok (.iconst 0, 1) := by decide +kernel
theorem dX8_sendHello_139 : decode cX8_sendHello 139 = .ok (.goto 11, 3) := by decide +kernel
theorem dX8_sendHello_142 : decode cX8_sendHello 142 = .ok (.iconst 2, 1) := by decide +kernel
theorem dX8_sendHello_143 : decode cX8_sendHello 143 = .ok (.iload 6, 2) := by decide +kernel
theorem dX8_sendHello_145 : decode cX8_sendHello 145 = .ok (.iload 5, 2) := by decide +kernel
theorem dX8_sendHello_147 : decode cX8_sendHello 147 = .ok (.invokestatic 394, 3) := by decide +kernel
theorem dX8_sendHello_150 : decode cX8_sendHello 150 = .ok (.invokevirtual 380, 3) := by decide +kernel
theorem dX8_sendHello_153 : decode cX8_sendHello 153 = .ok (.aload_n 2, 1) := by decide +kernel
theorem dX8_sendHello_154 : decode cX8_sendHello 154 = .ok (.new 361, 3) := by decide +kernel
theorem dX8_sendHello_157 : decode cX8_sendHello 157 = .ok (.dup, 1) := by decide +kernel
theorem dX8_sendHello_158 : decode cX8_sendHello 158 = .ok (.aload_n 0, 1) := by decide +kernel
theorem dX8_sendHello_159 : decode cX8_sendHello 159 = .ok (.getfield 30, 3) := by decide +kernel
theorem dX8_sendHello_162 : decode cX8_sendHello 162 = .ok (.iload_n 3, 1) := by decide +kernel
theorem dX8_sendHello_163 : decode cX8_sendHello 163 = .ok (.iload 5, 2) := by decide +kernel
theorem dX8_sendHello_165 : decode cX8_sendHello 165 = .ok (.aload_n 0, 1) := by decide +kernel
theorem dX8_sendHello_166 : decode cX8_sendHello 166 = .ok (.getfield 26, 3) := by decide +kernel
theorem dX8_sendHello_169 : decode cX8_sendHello 169 = .ok (.invokespecial 398, 3) := by decide +kernel
theorem dX8_sendHello_172 : decode cX8_sendHello 172 = .ok (.putfield 356, 3) := by decide +kernel
theorem dX8_sendHello_175 : decode cX8_sendHello 175 = .ok (.aload_n 0, 1) := by decide +kernel
theorem dX8_sendHello_176 : decode cX8_sendHello 176 = .ok (.aload 4, 2) := by decide +kernel
theorem dX8_sendHello_178 : decode cX8_sendHello 178 = .ok (.invokevirtual 399, 3) := by decide +kernel
theorem dX8_sendHello_181 : decode cX8_sendHello 181 = .ok (.aload_n 0, 1) := by decide +kernel
theorem dX8_sendHello_182 : decode cX8_sendHello 182 = .ok (.getfield 30, 3) := by decide +kernel
theorem dX8_sendHello_185 : decode cX8_sendHello 185 = .ok (.ireturn, 1) := by decide +kernel
theorem dX8_sendReply_0 : decode cX8_sendReply 0 = .ok (.aload_n 0, 1) := by decide +kernel
theorem dX8_sendReply_1 : decode cX8_sendReply 1 = .ok (.dup, 1) := by decide +kernel
theorem dX8_sendReply_2 : decode cX8_sendReply 2 = .ok (.getfield 30, 3) := by decide +kernel
theorem dX8_sendReply_5 : decode cX8_sendReply 5 = .ok (.iconst 1, 1) := by decide +kernel
theorem dX8_sendReply_6 : decode cX8_sendReply 6 = .ok (.iadd, 1) := by decide +kernel
theorem dX8_sendReply_7 : decode cX8_sendReply 7 = .ok (.putfield 30, 3) := by decide +kernel
theorem dX8_sendReply_10 : decode cX8_sendReply 10 = .ok (.aload_n 0, 1) := by decide +kernel
theorem dX8_sendReply_11 : decode cX8_sendReply 11 = .ok (.getfield 30, 3) := by decide +kernel
theorem dX8_sendReply_14 : decode cX8_sendReply 14 = .ok (.invokestatic 371, 3) := by decide +kernel
theorem dX8_sendReply_17 : decode cX8_sendReply 17 = .ok (.istore 5, 2) := by decide +kernel
theorem dX8_sendReply_19 : decode cX8_sendReply 19 = .ok (.new 166, 3) := by decide +kernel
theorem dX8_sendReply_22 : decode cX8_sendReply 22 = .ok (.dup, 1) := by decide +kernel
theorem dX8_sendReply_23 : decode cX8_sendReply 23 = .ok (.iconst 2, 1) := by decide +kernel
theorem dX8_sendReply_24 : decode cX8_sendReply 24 = .ok (.aload_n 1, 1) := by decide +kernel
theorem dX8_sendReply_25 : decode cX8_sendReply 25 = .ok (.getfield 65, 3) := by decide +kernel
theorem dX8_sendReply_28 : decode cX8_sendReply 28 = .ok (.aload_n 2, 1) := by decide +kernel
theorem dX8_sendReply_29 : decode cX8_sendReply 29 = .ok (.getfield 221, 3) := by decide +kernel
theorem dX8_sendReply_32 : decode cX8_sendReply 32 = .ok (.invokespecial 379, 3) := by decide +kernel
theorem dX8_sendReply_35 : decode cX8_sendReply 35 = .ok (.astore 6, 2) := by decide +kernel
theorem dX8_sendReply_37 : decode cX8_sendReply 37 = .ok (.aload 6, 2) := by decide +kernel
theorem dX8_sendReply_39 : decode cX8_sendReply 39 = .ok (.iconst 0, 1) := by decide +kernel
theorem dX8_sendReply_40 : decode cX8_sendReply 40 = .ok (.aload_n 0, 1) := by decide +kernel
theorem dX8_sendReply_41 : decode cX8_sendReply 41 = .ok (.getfield 30, 3) := by decide +kernel
theorem dX8_sendReply_44 : decode cX8_sendReply 44 = .ok (.invokevirtual 380, 3) := by decide +kernel
theorem dX8_sendReply_47 : decode cX8_sendReply 47 = .ok (.aload 6, 2) := by decide +kernel
theorem dX8_sendReply_49 : decode cX8_sendReply 49 = .ok (.iconst 1, 1) := by decide +kernel
theorem dX8_sendReply_50 : decode cX8_sendReply 50 = .ok (.aload_n 3, 1) := by decide +kernel
theorem dX8_sendReply_51 : decode cX8_sendReply 51 = .ok (.iconst 0, 1) := by decide +kernel
theorem dX8_sendReply_52 : decode cX8_sendReply 52 = .ok (.invokevirtual 203, 3) := by decide +kernel
theorem dX8_sendReply_55 : decode cX8_sendReply 55 = .ok (.invokevirtual 380, 3) := by decide +kernel
theorem dX8_sendReply_58 : decode cX8_sendReply 58 = .ok (.aload 6, 2) := by decide +kernel
theorem dX8_sendReply_60 : decode cX8_sendReply 60 = .ok (.iconst 2, 1) := by decide +kernel
theorem dX8_sendReply_61 : decode cX8_sendReply 61 = .ok (.iload 5, 2) := by decide +kernel
theorem dX8_sendReply_63 : decode cX8_sendReply 63 = .ok (.invokestatic 269, 3) := by decide +kernel
theorem dX8_sendReply_66 : decode cX8_sendReply 66 = .ok (.invokevirtual 380, 3) := by decide +kernel
theorem dX8_sendReply_69 : decode cX8_sendReply 69 = .ok (.aload_n 3, 1) := by decide +kernel
theorem dX8_sendReply_70 : decode cX8_sendReply 70 = .ok (.iconst 1, 1) := by decide +kernel
theorem dX8_sendReply_71 : decode cX8_sendReply 71 = .ok (.invokevirtual 203, 3) := by decide +kernel
theorem dX8_sendReply_74 : decode cX8_sendReply 74 = .ok (.iload 5, 2) := by decide +kernel
theorem dX8_sendReply_76 : decode cX8_sendReply 76 = .ok (.invokestatic 274, 3) := by decide +kernel
theorem dX8_sendReply_79 : decode cX8_sendReply 79 = .ok (.istore 7, 2) := by decide +kernel
theorem dX8_sendReply_81 : decode cX8_sendReply 81 = .ok (.aload_n 2, 1) := by decide +kernel
theorem dX8_sendReply_82 : decode cX8_sendReply 82 = .ok (.getfield 384, 3) := by decide +kernel
theorem dX8_sendReply_85 : decode cX8_sendReply 85 = .ok (.iload 5, 2) := by decide +kernel
theorem dX8_sendReply_87 : decode cX8_sendReply 87 = .ok (.invokestatic 274, 3) := by decide +kernel
theorem dX8_sendReply_90 : decode cX8_sendReply 90 = .ok (.istore 8, 2) := by decide +kernel
theorem dX8_sendReply_92 : decode cX8_sendReply 92 = .ok (.iconst 4, 1) := by decide +kernel
theorem dX8_sendReply_93 : decode cX8_sendReply 93 = .ok (.iload 4, 2) := by decide +kernel
theorem dX8_sendReply_95 : decode cX8_sendReply 95 = .ok (.iload 7, 2) := by decide +kernel
theorem dX8_sendReply_97 : decode cX8_sendReply 97 = .ok (.iload 8, 2) := by decide +kernel
theorem dX8_sendReply_99 : decode cX8_sendReply 99 = .ok (.invokestatic 403, 3) := by decide +kernel
theorem dX8_sendReply_102 : decode cX8_sendReply 102 = .ok (.istore 9, 2) := by decide +kernel
theorem dX8_sendReply_104 : decode cX8_sendReply 104 = .ok (.aload 6, 2) := by decide +kernel
theorem dX8_sendReply_106 : decode cX8_sendReply 106 = .ok (.iload 9, 2) := by decide +kernel
theorem dX8_sendReply_108 : decode cX8_sendReply 108 = .ok (.invokevirtual 391, 3) := by decide +kernel
theorem dX8_sendReply_111 : decode cX8_sendReply 111 = .ok (.pop, 1) := by decide +kernel
theorem dX8_sendReply_112 : decode cX8_sendReply 112 = .ok (.aload_n 0, 1) := by decide +kernel
theorem dX8_sendReply_113 : decode cX8_sendReply 113 = .ok (.aload 6, 2) := by decide +kernel
theorem dX8_sendReply_115 : decode cX8_sendReply 115 = .ok (.invokevirtual 399, 3) := by decide +kernel
theorem dX8_sendReply_118 : decode cX8_sendReply 118 = .ok (.aload_n 2, 1) := by decide +kernel
theorem dX8_sendReply_119 : decode cX8_sendReply 119 = .ok (.new 346, 3) := by decide +kernel
theorem dX8_sendReply_122 : decode cX8_sendReply 122 = .ok (.dup, 1) := by decide +kernel
theorem dX8_sendReply_123 : decode cX8_sendReply 123 = .ok (.aload_n 0, 1) := by decide +kernel
theorem dX8_sendReply_124 : decode cX8_sendReply 124 = .ok (.getfield 30, 3) := by decide +kernel
theorem dX8_sendReply_127 : decode cX8_sendReply 127 = .ok (.aload_n 3, 1) := by decide +kernel
theorem dX8_sendReply_128 : decode cX8_sendReply 128 = .ok (.iconst 0, 1) := by decide +kernel
theorem dX8_sendReply_129 : decode cX8_sendReply 129 = .ok (.invokevirtual 203, 3) := by decide +kernel
theorem dX8_sendReply_132 : decode cX8_sendReply 132 = .ok (.aload_n 0, 1) := by decide +kernel
theorem dX8_sendReply_133 : decode cX8_sendReply 133 = .ok (.getfield 26, 3) := by decide +kernel
theorem dX8_sendReply_136 : decode cX8_sendReply 136 = .ok (.iconst 0, 1) := by decide +kernel
theorem dX8_sendReply_137 : decode cX8_sendReply 137 = .ok (.iload 9, 2) := by decide +kernel
theorem dX8_sendReply_139 : decode cX8_sendReply 139 = .ok (.invokespecial 407, 3) := by decide +kernel
theorem dX8_sendReply_142 : decode cX8_sendReply 142 = .ok (.putfield 410, 3) := by decide +kernel
theorem dX8_sendReply_145 : decode cX8_sendReply 145 = .ok (.return_, 1) := by decide +kernel
theorem dX8_sendCookie_0 : decode cX8_sendCookie 0 = .ok (.new 166, 3) := by decide +kernel
theorem dX8_sendCookie_3 : decode cX8_sendCookie 3 = .ok (.dup, 1) := by decide +kernel
theorem dX8_sendCookie_4 : decode cX8_sendCookie 4 = .ok (.iconst 3, 1) := by decide +kernel
theorem dX8_sendCookie_5 : decode cX8_sendCookie 5 = .ok (.aload_n 1, 1) := by decide +kernel
theorem dX8_sendCookie_6 : decode cX8_sendCookie 6 = .ok (.getfield 65, 3) := by decide +kernel
theorem dX8_sendCookie_9 : decode cX8_sendCookie 9 = .ok (.aload_n 2, 1) := by decide +kernel
theorem dX8_sendCookie_10 : decode cX8_sendCookie 10 = .ok (.getfield 214, 3) := by decide +kernel
theorem dX8_sendCookie_13 : decode cX8_sendCookie 13 = .ok (.invokespecial 379, 3) := by decide +kernel
theorem dX8_sendCookie_16 : decode cX8_sendCookie 16 = .ok (.astore 4, 2) := by decide +kernel
theorem dX8_sendCookie_18 : decode cX8_sendCookie 18 = .ok (.aload 4, 2) := by decide +kernel
theorem dX8_sendCookie_20 : decode cX8_sendCookie 20 = .ok (.iconst 0, 1) := by decide +kernel
theorem dX8_sendCookie_21 : decode cX8_sendCookie 21 = .ok (.aload_n 2, 1) := by decide +kernel
theorem dX8_sendCookie_22 : decode cX8_sendCookie 22 = .ok (.iconst 0, 1) := by decide +kernel
theorem dX8_sendCookie_23 : decode cX8_sendCookie 23 = .ok (.invokevirtual 203, 3) := by decide +kernel
theorem dX8_sendCookie_26 : decode cX8_sendCookie 26 = .ok (.invokevirtual 380, 3) := by decide +kernel
theorem dX8_sendCookie_29 : decode cX8_sendCookie 29 = .ok (.aload 4, 2) := by decide +kernel
theorem dX8_sendCookie_31 : decode cX8_sendCookie 31 = .ok (.iconst 1, 1) := by decide +kernel
theorem dX8_sendCookie_32 : decode cX8_sendCookie 32 = .ok (.iload_n 3, 1) := by decide +kernel
theorem dX8_sendCookie_33 : decode cX8_sendCookie 33 = .ok (.invokevirtual 380, 3) := by decide +kernel
theorem dX8_sendCookie_36 : decode cX8_sendCookie 36 = .ok (.aload 4, 2) := by decide +kernel
theorem dX8_sendCookie_38 : decode cX8_sendCookie 38 = .ok (.iconst 3, 1) := by decide +kernel
theorem dX8_sendCookie_39 : decode cX8_sendCookie 39 = .ok (.aload_n 1, 1) := by decide +kernel
theorem dX8_sendCookie_40 : decode cX8_sendCookie 40 = .ok (.getfield 413, 3) := by decide +kernel
theorem dX8_sendCookie_43 : decode cX8_sendCookie 43 = .ok (.invokestatic 269, 3) := by decide +kernel
theorem dX8_sendCookie_46 : decode cX8_sendCookie 46 = .ok (.aload_n 2, 1) := by decide +kernel
theorem dX8_sendCookie_47 : decode cX8_sendCookie 47 = .ok (.invokevirtual 416, 3) := by decide +kernel
theorem dX8_sendCookie_50 : decode cX8_sendCookie 50 = .ok (.invokestatic 394, 3) := by decide +kernel
theorem dX8_sendCookie_53 : decode cX8_sendCookie 53 = .ok (.invokevirtual 391, 3) := by decide +kernel
theorem dX8_sendCookie_56 : decode cX8_sendCookie 56 = .ok (.pop, 1) := by decide +kernel
theorem dX8_sendCookie_57 : decode cX8_sendCookie 57 = .ok (.aload_n 0, 1) := by decide +kernel
theorem dX8_sendCookie_58 : decode cX8_sendCookie 58 = .ok (.aload 4, 2) := by decide +kernel
theorem dX8_sendCookie_60 : decode cX8_sendCookie 60 = .ok (.invokevirtual 399, 3) := by decide +kernel
theorem dX8_sendCookie_63 : decode cX8_sendCookie 63 = .ok (.return_, 1) := by decide +kernel
theorem dX8_sendData_0 : decode cX8_sendData 0 = .ok (.new 166, 3) := by decide +kernel
theorem dX8_sendData_3 : decode cX8_sendData 3 = .ok (.dup, 1) := by decide +kernel
theorem dX8_sendData_4 : decode cX8_sendData 4 = .ok (.iconst 4, 1) := by decide +kernel
theorem dX8_sendData_5 : decode cX8_sendData 5 = .ok (.aload_n 1, 1) := by decide +kernel
theorem dX8_sendData_6 : decode cX8_sendData 6 = .ok (.getfield 65, 3) := by decide +kernel
theorem dX8_sendData_9 : decode cX8_sendData 9 = .ok (.aload_n 2, 1) := by decide +kernel
theorem dX8_sendData_10 : decode cX8_sendData 10 = .ok (.getfield 221, 3) := by decide +kernel
theorem dX8_sendData_13 : decode cX8_sendData 13 = .ok (.invokespecial 379, 3) := by decide +kernel
theorem dX8_sendData_16 : decode cX8_sendData 16 = .ok (.astore 7, 2) := by decide +kernel
theorem dX8_sendData_18 : decode cX8_sendData 18 = .ok (.aload 7, 2) := by decide +kernel
theorem dX8_sendData_20 : decode cX8_sendData 20 = .ok (.iconst 0, 1) := by decide +kernel
theorem dX8_sendData_21 : decode cX8_sendData 21 = .ok (.aload_n 3, 1) := by decide +kernel
theorem dX8_sendData_22 : decode cX8_sendData 22 = .ok (.getfield 419, 3) := by decide +kernel
theorem dX8_sendData_25 : decode cX8_sendData 25 = .ok (.invokevirtual 380, 3) := by decide +kernel
theorem dX8_sendData_28 : decode cX8_sendData 28 = .ok (.aload 7, 2) := by decide +kernel
theorem dX8_sendData_30 : decode cX8_sendData 30 = .ok (.iconst 1, 1) := by decide +kernel
theorem dX8_sendData_31 : decode cX8_sendData 31 = .ok (.aload_n 3, 1) := by decide +kernel
theorem dX8_sendData_32 : decode cX8_sendData 32 = .ok (.getfield 350, 3) := by decide +kernel
theorem dX8_sendData_35 : decode cX8_sendData 35 = .ok (.invokevirtual 380, 3) := by decide +kernel
theorem dX8_sendData_38 : decode cX8_sendData 38 = .ok (.aload 7, 2) := by decide +kernel
theorem dX8_sendData_40 : decode cX8_sendData 40 = .ok (.iconst 2, 1) := by decide +kernel
theorem dX8_sendData_41 : decode cX8_sendData 41 = .ok (.iload 4, 2) := by decide +kernel
theorem dX8_sendData_43 : decode cX8_sendData 43 = .ok (.invokevirtual 380, 3) := by decide +kernel
theorem dX8_sendData_46 : decode cX8_sendData 46 = .ok (.aload 7, 2) := by decide +kernel
theorem dX8_sendData_48 : decode cX8_sendData 48 = .ok (.iconst 3, 1) := by decide +kernel
theorem dX8_sendData_49 : decode cX8_sendData 49 = .ok (.iload 5, 2) := by decide +kernel
theorem dX8_sendData_51 : decode cX8_sendData 51 = .ok (.invokevirtual 380, 3) := by decide +kernel
theorem dX8_sendData_54 : decode cX8_sendData 54 = .ok (.aload 7, 2) := by decide +kernel
theorem dX8_sendData_56 : decode cX8_sendData 56 = .ok (.iconst 4, 1) := by decide +kernel
theorem dX8_sendData_57 : decode cX8_sendData 57 = .ok (.iload 6, 2) := by decide +kernel
theorem dX8_sendData_59 : decode cX8_sendData 59 = .ok (.invokevirtual 380, 3) := by decide +kernel
theorem dX8_sendData_62 : decode cX8_sendData 62 = .ok (.aload 7, 2) := by decide +kernel
theorem dX8_sendData_64 : decode cX8_sendData 64 = .ok (.aload_n 3, 1) := by decide +kernel
theorem dX8_sendData_65 : decode cX8_sendData 65 = .ok (.getfield 422, 3) := by decide +kernel
theorem dX8_sendData_68 : decode cX8_sendData 68 = .ok (.invokevirtual 391, 3) := by decide +kernel
theorem dX8_sendData_71 : decode cX8_sendData 71 = .ok (.pop, 1) := by decide +kernel
theorem dX8_sendData_72 : decode cX8_sendData 72 = .ok (.aload_n 3, 1) := by decide +kernel
theorem dX8_sendData_73 : decode cX8_sendData 73 = .ok (.dup, 1) := by decide +kernel
theorem dX8_sendData_74 : decode cX8_sendData 74 = .ok (.getfield 350, 3) := by decide +kernel
theorem dX8_sendData_77 : decode cX8_sendData 77 = .ok (.iconst 1, 1) := by decide +kernel
theorem dX8_sendData_78 : decode cX8_sendData 78 = .ok (.iadd, 1) := by decide +kernel
theorem dX8_sendData_79 : decode cX8_sendData 79 = .ok (.putfield 350, 3) := by decide +kernel
theorem dX8_sendData_82 : decode cX8_sendData 82 = .ok (.aload_n 0, 1) := by decide +kernel
theorem dX8_sendData_83 : decode cX8_sendData 83 = .ok (.aload 7, 2) := by decide +kernel
theorem dX8_sendData_85 : decode cX8_sendData 85 = .ok (.invokevirtual 399, 3) := by decide +kernel
theorem dX8_sendData_88 : decode cX8_sendData 88 = .ok (.return_, 1) := by decide +kernel
theorem dX8_sendWaiting_0 : decode cX8_sendWaiting 0 = .ok (.aload_n 2, 1) := by decide +kernel
theorem dX8_sendWaiting_1 : decode cX8_sendWaiting 1 = .ok (.getfield 237, 3) := by decide +kernel
theorem dX8_sendWaiting_4 : decode cX8_sendWaiting 4 = .ok (.invokevirtual 86, 3) := by decide +kernel
theorem dX8_sendWaiting_7 : decode cX8_sendWaiting 7 = .ok (.istore_n 3, 1) := by decide +kernel
theorem dX8_sendWaiting_8 : decode cX8_sendWaiting 8 = .ok (.iload_n 3, 1) := by decide +kernel
theorem dX8_sendWaiting_9 : decode cX8_sendWaiting 9 = .ok (.ifCond .le 68, 3) := by decide +kernel
theorem dX8_sendWaiting_12 : decode cX8_sendWaiting 12 = .ok (.aload_n 0, 1) := by decide +kernel
theorem dX8_sendWaiting_13 : decode cX8_sendWaiting 13 = .ok (.aload_n 2, 1) := by decide +kernel
theorem dX8_sendWaiting_14 : decode cX8_sendWaiting 14 = .ok (.invokevirtual 123, 3) := by decide +kernel
theorem dX8_sendWaiting_17 : decode cX8_sendWaiting 17 = .ok (.astore 4, 2) := by decide +kernel
theorem dX8_sendWaiting_19 : decode cX8_sendWaiting 19 = .ok (.aload 4, 2) := by decide +kernel
theorem dX8_sendWaiting_21 : decode cX8_sendWaiting 21 = .ok (.ifnull 13, 3) := by decide +kernel
theorem dX8_sendWaiting_24 : decode cX8_sendWaiting 24 = .ok (.aload_n 2, 1) := by decide +kernel
theorem dX8_sendWaiting_25 : decode cX8_sendWaiting 25 = .ok (.getfield 237, 3) := by decide +kernel
theorem dX8_sendWaiting_28 : decode cX8_sendWaiting 28 = .ok (.invokevirtual 425, 3) := by decide +kernel
theorem dX8_sendWaiting_31 : decode cX8_sendWaiting 31 = .ok (.ifCond .eq 4, 3) := by decide +kernel
theorem dX8_sendWaiting_34 : decode cX8_sendWaiting 34 = .ok (.return_, 1) := by decide +kernel
theorem dX8_sendWaiting_35 : decode cX8_sendWaiting 35 = .ok (.aload_n 2, 1) := by decide +kernel
theorem dX8_sendWaiting_36 : decode cX8_sendWaiting 36 = .ok (.getfield 237, 3) := by decide +kernel
theorem dX8_sendWaiting_39 : decode cX8_sendWaiting 39 = .ok (.iconst 0, 1) := by decide +kernel
theorem dX8_sendWaiting_40 : decode cX8_sendWaiting 40 = .ok (.invokevirtual 112, 3) := by decide +kernel
theorem dX8_sendWaiting_43 : decode cX8_sendWaiting 43 = .ok (.checkcast 127, 3) := by decide +kernel
theorem dX8_sendWaiting_46 : decode cX8_sendWaiting 46 = .ok (.astore 5, 2) := by decide +kernel
theorem dX8_sendWaiting_48 : decode cX8_sendWaiting 48 = .ok (.aload_n 0, 1) := by decide +kernel
theorem dX8_sendWaiting_49 : decode cX8_sendWaiting 49 = .ok (.aload_n 1, 1) := by decide +kernel
theorem dX8_sendWaiting_50 : decode cX8_sendWaiting 50 = .ok (.aload_n 2, 1) := by decide +kernel
theorem dX8_sendWaiting_51 : decode cX8_sendWaiting 51 = .ok (.aload 4, 2) := by decide +kernel
theorem dX8_sendWaiting_53 : decode cX8_sendWaiting 53 = .ok (.aload 5, 2) := by decide +kernel
theorem dX8_sendWaiting_55 : decode cX8_sendWaiting 55 = .ok (.getfield 259, 3) := by decide +kernel
theorem dX8_sendWaiting_58 : decode cX8_sendWaiting 58 = .ok (.aload 5, 2) := by decide +kernel
theorem dX8_sendWaiting_60 : decode cX8_sendWaiting 60 = .ok (.getfield 262, 3) := by decide +kernel
theorem dX8_sendWaiting_63 : decode cX8_sendWaiting 63 = .ok (.aload 5, 2) := by decide +kernel
theorem dX8_sendWaiting_65 : decode cX8_sendWaiting 65 = .ok (.getfield 265, 3) := by decide +kernel
theorem dX8_sendWaiting_68 : decode cX8_sendWaiting 68 = .ok (.invokevirtual 143, 3) := by decide +kernel
theorem dX8_sendWaiting_71 : decode cX8_sendWaiting 71 = .ok (.iinc 3 (-1), 3) := by decide +kernel
theorem dX8_sendWaiting_74 : decode cX8_sendWaiting 74 = .ok (.goto (-66), 3) := by decide +kernel
theorem dX8_sendWaiting_77 : decode cX8_sendWaiting 77 = .ok (.return_, 1) := by decide +kernel
theorem dX8_helloKey_0 : decode cX8_helloKey 0 = .ok (.iconst 1, 1) := by decide +kernel
theorem dX8_helloKey_1 : decode cX8_helloKey 1 = .ok (.iload_n 1, 1) := by decide +kernel
theorem dX8_helloKey_2 : decode cX8_helloKey 2 = .ok (.aload_n 0, 1) := by decide +kernel
theorem dX8_helloKey_3 : decode cX8_helloKey 3 = .ok (.getfield 428, 3) := by decide +kernel
theorem dX8_helloKey_6 : decode cX8_helloKey 6 = .ok (.invokestatic 394, 3) := by decide +kernel
theorem dX8_helloKey_9 : decode cX8_helloKey 9 = .ok (.ireturn, 1) := by decide +kernel
theorem dX8_takeHello_0 : decode cX8_takeHello 0 = .ok (.aload_n 2, 1) := by decide +kernel
theorem dX8_takeHello_1 : decode cX8_takeHello 1 = .ok (.iconst 2, 1) := by decide +kernel
theorem dX8_takeHello_2 : decode cX8_takeHello 2 = .ok (.invokevirtual 203, 3) := by decide +kernel
theorem dX8_takeHello_5 : decode cX8_takeHello 5 = .ok (.istore_n 3, 1) := by decide +kernel
theorem dX8_takeHello_6 : decode cX8_takeHello 6 = .ok (.aload_n 1, 1) := by decide +kernel
theorem dX8_takeHello_7 : decode cX8_takeHello 7 = .ok (.iload_n 3, 1) := by decide +kernel
theorem dX8_takeHello_8 : decode cX8_takeHello 8 = .ok (.bipush 10, 2) := by decide +kernel
theorem dX8_takeHello_10 : decode cX8_takeHello 10 = .ok (.idiv, 1) := by decide +kernel
theorem dX8_takeHello_11 : decode cX8_takeHello 11 = .ok (.invokevirtual 119, 3) := by decide +kernel
theorem dX8_takeHello_14 : decode cX8_takeHello 14 = .ok (.astore 4, 2) := by decide +kernel
theorem dX8_takeHello_16 : decode cX8_takeHello 16 = .ok (.aload 4, 2) := by decide +kernel
theorem dX8_takeHello_18 : decode cX8_takeHello 18 = .ok (.ifnull 14, 3) := by decide +kernel
theorem dX8_takeHello_21 : decode cX8_takeHello 21 = .ok (.iload_n 3, 1) := by decide +kernel
theorem dX8_takeHello_22 : decode cX8_takeHello 22 = .ok (.bipush 10, 2) := by decide +kernel
theorem dX8_takeHello_24 : decode cX8_takeHello 24 = .ok (.irem, 1) := by decide +kernel
theorem dX8_takeHello_25 : decode cX8_takeHello 25 = .ok (.aload_n 1, 1) := by decide +kernel
theorem dX8_takeHello_26 : decode cX8_takeHello 26 = .ok (.getfield 319, 3) := by decide +kernel
theorem dX8_takeHello_29 : decode cX8_takeHello 29 = .ok (.if_icmp .eq 5, 3) := by decide +kernel
theorem dX8_takeHello_32 : decode cX8_takeHello 32 = .ok (.iconst (-1), 1) := by decide +kernel
theorem dX8_takeHello_33 : decode cX8_takeHello 33 = .ok (.ireturn, 1) := by decide +kernel
theorem dX8_takeHello_34 : decode cX8_takeHello 34 = .ok (.bipush 6, 2) := by decide +kernel
theorem dX8_takeHello_36 : decode cX8_takeHello 36 = .ok (.aload_n 1, 1) := by decide +kernel
theorem dX8_takeHello_37 : decode cX8_takeHello 37 = .ok (.getfield 413, 3) := by decide +kernel
theorem dX8_takeHello_40 : decode cX8_takeHello 40 = .ok (.aload_n 0, 1) := by decide +kernel
theorem dX8_takeHello_41 : decode cX8_takeHello 41 = .ok (.getfield 26, 3) := by decide +kernel
theorem dX8_takeHello_44 : decode cX8_takeHello 44 = .ok (.bipush 60, 2) := by decide +kernel
theorem dX8_takeHello_46 : decode cX8_takeHello 46 = .ok (.idiv, 1) := by decide +kernel
theorem dX8_takeHello_47 : decode cX8_takeHello 47 = .ok (.aload_n 2, 1) := by decide +kernel
theorem dX8_takeHello_48 : decode cX8_takeHello 48 = .ok (.getfield 214, 3) := by decide +kernel
theorem dX8_takeHello_51 : decode cX8_takeHello 51 = .ok (.invokestatic 403, 3) := by decide +kernel
theorem dX8_takeHello_54 : decode cX8_takeHello 54 = .ok (.istore 5, 2) := by decide +kernel
theorem dX8_takeHello_56 : decode cX8_takeHello 56 = .ok (.aload_n 1, 1) := by decide +kernel
theorem dX8_takeHello_57 : decode cX8_takeHello 57 = .ok (.getfield 68, 3) := by decide +kernel
theorem dX8_takeHello_60 : decode cX8_takeHello 60 = .ok (.ifCond .eq 32, 3) := by decide +kernel
theorem dX8_takeHello_63 : decode cX8_takeHello 63 = .ok (.aload_n 2, 1) := by decide +kernel
theorem dX8_takeHello_64 : decode cX8_takeHello 64 = .ok (.iconst 5, 1) := by decide +kernel
theorem dX8_takeHello_65 : decode cX8_takeHello 65 = .ok (.invokevirtual 203, 3) := by decide +kernel
theorem dX8_takeHello_68 : decode cX8_takeHello 68 = .ok (.iconst 2, 1) := by decide +kernel
theorem dX8_takeHello_69 : decode cX8_takeHello 69 = .ok (.iload 5, 2) := by decide +kernel
theorem dX8_takeHello_71 : decode cX8_takeHello 71 = .ok (.aload_n 2, 1) := by decide +kernel
theorem dX8_takeHello_72 : decode cX8_takeHello 72 = .ok (.invokevirtual 416, 3) := by decide +kernel
theorem dX8_takeHello_75 : decode cX8_takeHello 75 = .ok (.invokestatic 394, 3) := by decide +kernel
theorem dX8_takeHello_78 : decode cX8_takeHello 78 = .ok (.if_icmp .eq 14, 3) := by decide +kernel
theorem dX8_takeHello_81 : decode cX8_takeHello 81 = .ok (.aload_n 0, 1) := by decide +kernel
theorem dX8_takeHello_82 : decode cX8_takeHello 82 = .ok (.aload_n 1, 1) := by decide +kernel
theorem dX8_takeHello_83 : decode cX8_takeHello 83 = .ok (.aload_n 2, 1) := by decide +kernel
theorem dX8_takeHello_84 : decode cX8_takeHello 84 = .ok (.iload 5, 2) := by decide +kernel
theorem dX8_takeHello_86 : decode cX8_takeHello 86 = .ok (.invokevirtual 431, 3) := by decide +kernel
theorem dX8_takeHello_89 : decode cX8_takeHello 89 = .ok (.bipush (-7), 2) := by decide +kernel
theorem dX8_takeHello_91 : decode cX8_takeHello 91 = .ok (.ireturn, 1) := by decide +kernel
theorem dX8_takeHello_92 : decode cX8_takeHello 92 = .ok (.aload 4, 2) := by decide +kernel
theorem dX8_takeHello_94 : decode cX8_takeHello 94 = .ok (.aload_n 2, 1) := by decide +kernel
theorem dX8_takeHello_95 : decode cX8_takeHello 95 = .ok (.iconst 1, 1) := by decide +kernel
theorem dX8_takeHello_96 : decode cX8_takeHello 96 = .ok (.invokevirtual 203, 3) := by decide +kernel
theorem dX8_takeHello_99 : decode cX8_takeHello 99 = .ok (.aload_n 1, 1) := by decide +kernel
theorem dX8_takeHello_100 : decode cX8_takeHello 100 = .ok (.getfield 413, 3) := by decide +kernel
theorem dX8_takeHello_103 : decode cX8_takeHello 103 = .ok (.invokestatic 274, 3) := by decide +kernel
theorem dX8_takeHello_106 : decode cX8_takeHello 106 = .ok (.invokestatic 387, 3) := by decide +kernel
theorem dX8_takeHello_109 : decode cX8_takeHello 109 = .ok (.istore 6, 2) := by decide +kernel
theorem dX8_takeHello_111 : decode cX8_takeHello 111 = .ok (.aload_n 2, 1) := by decide +kernel
theorem dX8_takeHello_112 : decode cX8_takeHello 112 = .ok (.iload 6, 2) := by decide +kernel
theorem dX8_takeHello_114 : decode cX8_takeHello 114 = .ok (.invokevirtual 300, 3) := by decide +kernel
theorem dX8_takeHello_117 : decode cX8_takeHello 117 = .ok (.ifCond .ne 6, 3) := by decide +kernel
theorem dX8_takeHello_120 : decode cX8_takeHello 120 = .ok (.bipush (-2), 2) := by decide +kernel
theorem dX8_takeHello_122 : decode cX8_takeHello 122 = .ok (.ireturn, 1) := by decide +kernel
theorem dX8_takeHello_123 : decode cX8_takeHello 123 = .ok (.aload_n 2, 1) := by decide +kernel
theorem dX8_takeHello_124 : decode cX8_takeHello 124 = .ok (.iconst 3, 1) := by decide +kernel
theorem dX8_takeHello_125 : decode cX8_takeHello 125 = .ok (.invokevirtual 203, 3) := by decide +kernel
theorem dX8_takeHello_128 : decode cX8_takeHello 128 = .ok (.aload 4, 2) := by decide +kernel
theorem dX8_takeHello_130 : decode cX8_takeHello 130 = .ok (.getfield 247, 3) := by decide +kernel
theorem dX8_takeHello_133 : decode cX8_takeHello 133 = .ok (.if_icmp .gt 6, 3) := by decide +kernel
theorem dX8_takeHello_136 : decode cX8_takeHello 136 = .ok (.bipush (-6), 2) := by decide +kernel
theorem dX8_takeHello_138 : decode cX8_takeHello 138 = .ok (.ireturn, 1) := by decide +kernel
theorem dX8_takeHello_139 : decode cX8_takeHello 139 = .ok (.aload 4, 2) := by decide +kernel
theorem dX8_takeHello_141 : decode cX8_takeHello 141 = .ok (.aload_n 2, 1) := by decide +kernel
theorem dX8_takeHello_142 : decode cX8_takeHello 142 = .ok (.iconst 3, 1) := by decide +kernel
theorem dX8_takeHello_143 : decode cX8_takeHello 143 = .ok (.invokevirtual 203, 3) := by decide +kernel
theorem dX8_takeHello_146 : decode cX8_takeHello 146 = .ok (.putfield 247, 3) := by decide +kernel
theorem dX8_takeHello_149 : decode cX8_takeHello 149 = .ok (.aload 4, 2) := by decide +kernel
theorem dX8_takeHello_151 : decode cX8_takeHello 151 = .ok (.aload_n 2, 1) := by decide +kernel
theorem dX8_takeHello_152 : decode cX8_takeHello 152 = .ok (.getfield 214, 3) := by decide +kernel
theorem dX8_takeHello_155 : decode cX8_takeHello 155 = .ok (.putfield 221, 3) := by decide +kernel
theorem dX8_takeHello_158 : decode cX8_takeHello 158 = .ok (.aload_n 0, 1) := by decide +kernel
theorem dX8_takeHello_159 : decode cX8_takeHello 159 = .ok (.aload_n 1, 1) := by decide +kernel
theorem dX8_takeHello_160 : decode cX8_takeHello 160 = .ok (.aload 4, 2) := by decide +kernel
theorem dX8_takeHello_162 : decode cX8_takeHello 162 = .ok (.aload_n 2, 1) := by decide +kernel
theorem dX8_takeHello_163 : decode cX8_takeHello 163 = .ok (.iload 6, 2) := by decide +kernel
theorem dX8_takeHello_165 : decode cX8_takeHello 165 = .ok (.invokevirtual 435, 3) := by decide +kernel
theorem dX8_takeHello_168 : decode cX8_takeHello 168 = .ok (.iconst 3, 1) := by decide +kernel
theorem dX8_takeHello_169 : decode cX8_takeHello 169 = .ok (.ireturn, 1) := by decide +kernel
theorem dX8_takeReply_0 : decode cX8_takeReply 0 = .ok (.aload_n 1, 1) := by decide +kernel
theorem dX8_takeReply_1 : decode cX8_takeReply 1 = .ok (.aload_n 2, 1) := by decide +kernel
theorem dX8_takeReply_2 : decode cX8_takeReply 2 = .ok (.iconst 1, 1) := by decide +kernel
theorem dX8_takeReply_3 : decode cX8_takeReply 3 = .ok (.invokevirtual 203, 3) := by decide +kernel
theorem dX8_takeReply_6 : decode cX8_takeReply 6 = .ok (.invokevirtual 439, 3) := by decide +kernel
theorem dX8_takeReply_9 : decode cX8_takeReply 9 = .ok (.astore_n 3, 1) := by decide +kernel
theorem dX8_takeReply_10 : decode cX8_takeReply 10 = .ok (.aload_n 3, 1) := by decide +kernel
theorem dX8_takeReply_11 : decode cX8_takeReply 11 = .ok (.ifnull 10, 3) := by decide +kernel
theorem dX8_takeReply_14 : decode cX8_takeReply 14 = .ok (.aload_n 3, 1) := by decide +kernel
theorem dX8_takeReply_15 : decode cX8_takeReply 15 = .ok (.getfield 356, 3) := by decide +kernel
theorem dX8_takeReply_18 : decode cX8_takeReply 18 = .ok (.ifnonnull 5, 3) := by decide +kernel
theorem dX8_takeReply_21 : decode cX8_takeReply 21 = .ok (.iconst (-1), 1) := by decide +kernel
theorem dX8_takeReply_22 : decode cX8_takeReply 22 = .ok (.ireturn, 1) := by decide +kernel
theorem dX8_takeReply_23 : decode cX8_takeReply 23 = .ok (.aload_n 3, 1) := by decide +kernel
theorem dX8_takeReply_24 : decode cX8_takeReply 24 = .ok (.getfield 356, 3) := by decide +kernel
theorem dX8_takeReply_27 : decode cX8_takeReply 27 = .ok (.astore 4, 2) := by decide +kernel
theorem dX8_takeReply_29 : decode cX8_takeReply 29 = .ok (.aload_n 3, 1) := by decide +kernel
theorem dX8_takeReply_30 : decode cX8_takeReply 30 = .ok (.aload_n 3, 1) := by decide +kernel
theorem dX8_takeReply_31 : decode cX8_takeReply 31 = .ok (.getfield 384, 3) := by decide +kernel
theorem dX8_takeReply_34 : decode cX8_takeReply 34 = .ok (.aload 4, 2) := by decide +kernel
theorem dX8_takeReply_36 : decode cX8_takeReply 36 = .ok (.getfield 442, 3) := by decide +kernel
theorem dX8_takeReply_39 : decode cX8_takeReply 39 = .ok (.invokestatic 274, 3) := by decide +kernel
theorem dX8_takeReply_42 : decode cX8_takeReply 42 = .ok (.invokestatic 387, 3) := by decide +kernel
theorem dX8_takeReply_45 : decode cX8_takeReply 45 = .ok (.istore 5, 2) := by decide +kernel
theorem dX8_takeReply_47 : decode cX8_takeReply 47 = .ok (.aload_n 2, 1) := by decide +kernel
theorem dX8_takeReply_48 : decode cX8_takeReply 48 = .ok (.iconst 2, 1) := by decide +kernel
theorem dX8_takeReply_49 : decode cX8_takeReply 49 = .ok (.invokevirtual 203, 3) := by decide +kernel
theorem dX8_takeReply_52 : decode cX8_takeReply 52 = .ok (.aload 4, 2) := by decide +kernel
theorem dX8_takeReply_54 : decode cX8_takeReply 54 = .ok (.getfield 442, 3) := by decide +kernel
theorem dX8_takeReply_57 : decode cX8_takeReply 57 = .ok (.invokestatic 274, 3) := by decide +kernel
theorem dX8_takeReply_60 : decode cX8_takeReply 60 = .ok (.istore 6, 2) := by decide +kernel
theorem dX8_takeReply_62 : decode cX8_takeReply 62 = .ok (.aload_n 2, 1) := by decide +kernel
theorem dX8_takeReply_63 : decode cX8_takeReply 63 = .ok (.iconst 2, 1) := by decide +kernel
theorem dX8_takeReply_64 : decode cX8_takeReply 64 = .ok (.invokevirtual 203, 3) := by decide +kernel
theorem dX8_takeReply_67 : decode cX8_takeReply 67 = .ok (.aload_n 1, 1) := by decide +kernel
theorem dX8_takeReply_68 : decode cX8_takeReply 68 = .ok (.getfield 413, 3) := by decide +kernel
theorem dX8_takeReply_71 : decode cX8_takeReply 71 = .ok (.invokestatic 274, 3) := by decide +kernel
theorem dX8_takeReply_74 : decode cX8_takeReply 74 = .ok (.istore 7, 2) := by decide +kernel
theorem dX8_takeReply_76 : decode cX8_takeReply 76 = .ok (.iconst 4, 1) := by decide +kernel
theorem dX8_takeReply_77 : decode cX8_takeReply 77 = .ok (.iload 5, 2) := by decide +kernel
theorem dX8_takeReply_79 : decode cX8_takeReply 79 = .ok (.iload 6, 2) := by decide +kernel
theorem dX8_takeReply_81 : decode cX8_takeReply 81 = .ok (.iload 7, 2) := by decide +kernel
theorem dX8_takeReply_83 : decode cX8_takeReply 83 = .ok (.invokestatic 403, 3) := by decide +kernel
theorem dX8_takeReply_86 : decode cX8_takeReply 86 = .ok (.istore 8, 2) := by decide +kernel
theorem dX8_takeReply_88 : decode cX8_takeReply 88 = .ok (.aload_n 2, 1) := by decide +kernel
theorem dX8_takeReply_89 : decode cX8_takeReply 89 = .ok (.iload 8, 2) := by decide +kernel
theorem dX8_takeReply_91 : decode cX8_takeReply 91 = .ok (.invokevirtual 300, 3) := by decide +kernel
theorem dX8_takeReply_94 : decode cX8_takeReply 94 = .ok (.ifCond .ne 6, 3) := by decide +kernel
theorem dX8_takeReply_97 : decode cX8_takeReply 97 = .ok (.bipush (-2), 2) := by decide +kernel
theorem dX8_takeReply_99 : decode cX8_takeReply 99 = .ok (.ireturn, 1) := by decide +kernel
theorem dX8_takeReply_100 : decode cX8_takeReply 100 = .ok (.new 346, 3) := by decide +kernel
theorem dX8_takeReply_103 : decode cX8_takeReply 103 = .ok (.dup, 1) := by decide +kernel
theorem dX8_takeReply_104 : decode cX8_takeReply 104 = .ok (.aload 4, 2) := by decide +kernel
theorem dX8_takeReply_106 : decode cX8_takeReply 106 = .ok (.getfield 443, 3) := by decide +kernel
theorem dX8_takeReply_109 : decode cX8_takeReply 109 = .ok (.aload_n 2, 1) := by decide +kernel
theorem dX8_takeReply_110 : decode cX8_takeReply 110 = .ok (.iconst 0, 1) := by decide +kernel
theorem dX8_takeReply_111 : decode cX8_takeReply 111 = .ok (.invokevirtual 203, 3) := by decide +kernel
theorem dX8_takeReply_114 : decode cX8_takeReply 114 = .ok (.aload_n 0, 1) := by decide +kernel
theorem dX8_takeReply_115 : decode cX8_takeReply 115 = .ok (.getfield 26, 3) := by decide +kernel
theorem dX8_takeReply_118 : decode cX8_takeReply 118 = .ok (.iconst 1, 1) := by decide +kernel
theorem dX8_takeReply_119 : decode cX8_takeReply 119 = .ok (.iload 8, 2) := by decide +kernel
theorem dX8_takeReply_121 : decode cX8_takeReply 121 = .ok (.invokespecial 407, 3) := by decide +kernel
theorem dX8_takeReply_124 : decode cX8_takeReply 124 = .ok (.astore 9, 2) := by decide +kernel
theorem dX8_takeReply_126 : decode cX8_takeReply 126 = .ok (.aload_n 3, 1) := by decide +kernel
theorem dX8_takeReply_127 : decode cX8_takeReply 127 = .ok (.aconst_null, 1) := by decide +kernel
theorem dX8_takeReply_128 : decode cX8_takeReply 128 = .ok (.putfield 356, 3) := by decide +kernel
theorem dX8_takeReply_131 : decode cX8_takeReply 131 = .ok (.aload_n 3, 1) := by decide +kernel
theorem dX8_takeReply_132 : decode cX8_takeReply 132 = .ok (.aload_n 2, 1) := by decide +kernel
theorem dX8_takeReply_133 : decode cX8_takeReply 133 = .ok (.getfield 214, 3) := by decide +kernel
theorem dX8_takeReply_136 : decode cX8_takeReply 136 = .ok (.putfield 221, 3) := by decide +kernel
theorem dX8_takeReply_139 : decode cX8_takeReply 139 = .ok (.aload_n 3, 1) := by decide +kernel
theorem dX8_takeReply_140 : decode cX8_takeReply 140 = .ok (.aload_n 3, 1) := by decide +kernel
theorem dX8_takeReply_141 : decode cX8_takeReply 141 = .ok (.getfield 289, 3) := by decide +kernel
theorem dX8_takeReply_144 : decode cX8_takeReply 144 = .ok (.putfield 446, 3) := by decide +kernel
theorem dX8_takeReply_147 : decode cX8_takeReply 147 = .ok (.aload_n 3, 1) := by decide +kernel
theorem dX8_takeReply_148 : decode cX8_takeReply 148 = .ok (.aload 9, 2) := by decide +kernel
theorem dX8_takeReply_150 : decode cX8_takeReply 150 = .ok (.putfield 289, 3) := by decide +kernel
theorem dX8_takeReply_153 : decode cX8_takeReply 153 = .ok (.aload_n 3, 1) := by decide +kernel
theorem dX8_takeReply_154 : decode cX8_takeReply 154 = .ok (.getfield 237, 3) := by decide +kernel
theorem dX8_takeReply_157 : decode cX8_takeReply 157 = .ok (.invokevirtual 425, 3) := by decide +kernel
theorem dX8_takeReply_160 : decode cX8_takeReply 160 = .ok (.ifCond .eq 17, 3) := by decide +kernel
theorem dX8_takeReply_163 : decode cX8_takeReply 163 = .ok (.aload_n 0, 1) := by decide +kernel
theorem dX8_takeReply_164 : decode cX8_takeReply 164 = .ok (.aload_n 1, 1) := by decide +kernel
theorem dX8_takeReply_165 : decode cX8_takeReply 165 = .ok (.aload_n 3, 1) := by decide +kernel
theorem dX8_takeReply_166 : decode cX8_takeReply 166 = .ok (.aload 9, 2) := by decide +kernel
theorem dX8_takeReply_168 : decode cX8_takeReply 168 = .ok (.iconst (-1), 1) := by decide +kernel
theorem dX8_takeReply_169 : decode cX8_takeReply 169 = .ok (.iconst (-1), 1) := by decide +kernel
theorem dX8_takeReply_170 : decode cX8_takeReply 170 = .ok (.iconst (-1), 1) := by decide +kernel
theorem dX8_takeReply_171 : decode cX8_takeReply 171 = .ok (.invokevirtual 143, 3) := by decide +kernel
theorem dX8_takeReply_174 : decode cX8_takeReply 174 = .ok (.goto 9, 3) := by decide +kernel
theorem dX8_takeReply_177 : decode cX8_takeReply 177 = .ok (.aload_n 0, 1) := by decide +kernel
theorem dX8_takeReply_178 : decode cX8_takeReply 178 = .ok (.aload_n 1, 1) := by decide +kernel
theorem dX8_takeReply_179 : decode cX8_takeReply 179 = .ok (.aload_n 3, 1) := by decide +kernel
theorem dX8_takeReply_180 : decode cX8_takeReply 180 = .ok (.invokevirtual 449, 3) := by decide +kernel
theorem dX8_takeReply_183 : decode cX8_takeReply 183 = .ok (.iconst 3, 1) := by decide +kernel
theorem dX8_takeReply_184 : decode cX8_takeReply 184 = .ok (.ireturn, 1) := by decide +kernel
theorem dX8_takeCookie_0 : decode cX8_takeCookie 0 = .ok (.aload_n 1, 1) := by decide +kernel
theorem dX8_takeCookie_1 : decode cX8_takeCookie 1 = .ok (.aload_n 2, 1) := by decide +kernel
theorem dX8_takeCookie_2 : decode cX8_takeCookie 2 = .ok (.iconst 0, 1) := by decide +kernel
theorem dX8_takeCookie_3 : decode cX8_takeCookie 3 = .ok (.invokevirtual 203, 3) := by decide +kernel
theorem dX8_takeCookie_6 : decode cX8_takeCookie 6 = .ok (.invokevirtual 439, 3) := by decide +kernel
theorem dX8_takeCookie_9 : decode cX8_takeCookie 9 = .ok (.astore_n 3, 1) := by decide +kernel
theorem dX8_takeCookie_10 : decode cX8_takeCookie 10 = .ok (.aload_n 3, 1) := by decide +kernel
theorem dX8_takeCookie_11 : decode cX8_takeCookie 11 = .ok (.ifnull 10, 3) := by decide +kernel
theorem dX8_takeCookie_14 : decode cX8_takeCookie 14 = .ok (.aload_n 3, 1) := by decide +kernel
theorem dX8_takeCookie_15 : decode cX8_takeCookie 15 = .ok (.getfield 356, 3) := by decide +kernel
theorem dX8_takeCookie_18 : decode cX8_takeCookie 18 = .ok (.ifnonnull 5, 3) := by decide +kernel
theorem dX8_takeCookie_21 : decode cX8_takeCookie 21 = .ok (.iconst (-1), 1) := by decide +kernel
theorem dX8_takeCookie_22 : decode cX8_takeCookie 22 = .ok (.ireturn, 1) := by decide +kernel
theorem dX8_takeCookie_23 : decode cX8_takeCookie 23 = .ok (.aload_n 2, 1) := by decide +kernel
theorem dX8_takeCookie_24 : decode cX8_takeCookie 24 = .ok (.iconst 3, 1) := by decide +kernel
theorem dX8_takeCookie_25 : decode cX8_takeCookie 25 = .ok (.aload_n 3, 1) := by decide +kernel
theorem dX8_takeCookie_26 : decode cX8_takeCookie 26 = .ok (.getfield 384, 3) := by decide +kernel
theorem dX8_takeCookie_29 : decode cX8_takeCookie 29 = .ok (.aload_n 3, 1) := by decide +kernel
theorem dX8_takeCookie_30 : decode cX8_takeCookie 30 = .ok (.getfield 356, 3) := by decide +kernel
theorem dX8_takeCookie_33 : decode cX8_takeCookie 33 = .ok (.getfield 452, 3) := by decide +kernel
theorem dX8_takeCookie_36 : decode cX8_takeCookie 36 = .ok (.invokestatic 394, 3) := by decide +kernel
theorem dX8_takeCookie_39 : decode cX8_takeCookie 39 = .ok (.invokevirtual 300, 3) := by decide +kernel
theorem dX8_takeCookie_42 : decode cX8_takeCookie 42 = .ok (.ifCond .ne 6, 3) := by decide +kernel
theorem dX8_takeCookie_45 : decode cX8_takeCookie 45 = .ok (.bipush (-2), 2) := by decide +kernel
theorem dX8_takeCookie_47 : decode cX8_takeCookie 47 = .ok (.ireturn, 1) := by decide +kernel
theorem dX8_takeCookie_48 : decode cX8_takeCookie 48 = .ok (.aload_n 3, 1) := by decide +kernel
theorem dX8_takeCookie_49 : decode cX8_takeCookie 49 = .ok (.aload_n 2, 1) := by decide +kernel
theorem dX8_takeCookie_50 : decode cX8_takeCookie 50 = .ok (.iconst 1, 1) := by decide +kernel
theorem dX8_takeCookie_51 : decode cX8_takeCookie 51 = .ok (.invokevirtual 203, 3) := by decide +kernel
theorem dX8_takeCookie_54 : decode cX8_takeCookie 54 = .ok (.putfield 368, 3) := by decide +kernel
theorem dX8_takeCookie_57 : decode cX8_takeCookie 57 = .ok (.aload_n 3, 1) := by decide +kernel
theorem dX8_takeCookie_58 : decode cX8_takeCookie 58 = .ok (.aload_n 0, 1) := by decide +kernel
theorem dX8_takeCookie_59 : decode cX8_takeCookie 59 = .ok (.getfield 26, 3) := by decide +kernel
theorem dX8_takeCookie_62 : decode cX8_takeCookie 62 = .ok (.putfield 365, 3) := by decide +kernel
theorem dX8_takeCookie_65 : decode cX8_takeCookie 65 = .ok (.iconst 3, 1) := by decide +kernel
theorem dX8_takeCookie_66 : decode cX8_takeCookie 66 = .ok (.ireturn, 1) := by decide +kernel
theorem dX8_takeData_0 : decode cX8_takeData 0 = .ok (.aload_n 1, 1) := by decide +kernel
theorem dX8_takeData_1 : decode cX8_takeData 1 = .ok (.aload_n 2, 1) := by decide +kernel
theorem dX8_takeData_2 : decode cX8_takeData 2 = .ok (.iconst 0, 1) := by decide +kernel
theorem dX8_takeData_3 : decode cX8_takeData 3 = .ok (.invokevirtual 203, 3) := by decide +kernel
theorem dX8_takeData_6 : decode cX8_takeData 6 = .ok (.invokevirtual 454, 3) := by decide +kernel
theorem dX8_takeData_9 : decode cX8_takeData 9 = .ok (.astore_n 3, 1) := by decide +kernel
theorem dX8_takeData_10 : decode cX8_takeData 10 = .ok (.aload_n 3, 1) := by decide +kernel
theorem dX8_takeData_11 : decode cX8_takeData 11 = .ok (.ifnonnull 7, 3) := by decide +kernel
theorem dX8_takeData_14 : decode cX8_takeData 14 = .ok (.aconst_null, 1) := by decide +kernel
theorem dX8_takeData_15 : decode cX8_takeData 15 = .ok (.goto 12, 3) := by decide +kernel
theorem dX8_takeData_18 : decode cX8_takeData 18 = .ok (.aload_n 3, 1) := by decide +kernel
theorem dX8_takeData_19 : decode cX8_takeData 19 = .ok (.aload_n 2, 1) := by decide +kernel
theorem dX8_takeData_20 : decode cX8_takeData 20 = .ok (.iconst 0, 1) := by decide +kernel
theorem dX8_takeData_21 : decode cX8_takeData 21 = .ok (.invokevirtual 203, 3) := by decide +kernel
theorem dX8_takeData_24 : decode cX8_takeData 24 = .ok (.invokevirtual 457, 3) := by decide +kernel
theorem dX8_takeData_27 : decode cX8_takeData 27 = .ok (.astore 4, 2) := by decide +kernel
theorem dX8_takeData_29 : decode cX8_takeData 29 = .ok (.aload 4, 2) := by decide +kernel
theorem dX8_takeData_31 : decode cX8_takeData 31 = .ok (.ifnonnull 5, 3) := by decide +kernel
theorem dX8_takeData_34 : decode cX8_takeData 34 = .ok (.iconst (-1), 1) := by decide +kernel
theorem dX8_takeData_35 : decode cX8_takeData 35 = .ok (.ireturn, 1) := by decide +kernel
theorem dX8_takeData_36 : decode cX8_takeData 36 = .ok (.aload_n 0, 1) := by decide +kernel
theorem dX8_takeData_37 : decode cX8_takeData 37 = .ok (.aload 4, 2) := by decide +kernel
theorem dX8_takeData_39 : decode cX8_takeData 39 = .ok (.invokevirtual 293, 3) := by decide +kernel
theorem dX8_takeData_42 : decode cX8_takeData 42 = .ok (.bipush 30, 2) := by decide +kernel
theorem dX8_takeData_44 : decode cX8_takeData 44 = .ok (.if_icmp .lt 6, 3) := by decide +kernel
theorem dX8_takeData_47 : decode cX8_takeData 47 = .ok (.bipush (-4), 2) := by decide +kernel
theorem dX8_takeData_49 : decode cX8_takeData 49 = .ok (.ireturn, 1) := by decide +kernel
theorem dX8_takeData_50 : decode cX8_takeData 50 = .ok (.aload_n 2, 1) := by decide +kernel
theorem dX8_takeData_51 : decode cX8_takeData 51 = .ok (.aload 4, 2) := by decide +kernel
theorem dX8_takeData_53 : decode cX8_takeData 53 = .ok (.getfield 460, 3) := by decide +kernel
theorem dX8_takeData_56 : decode cX8_takeData 56 = .ok (.invokevirtual 300, 3) := by decide +kernel
theorem dX8_takeData_59 : decode cX8_takeData 59 = .ok (.ifCond .ne 6, 3) := by decide +kernel
theorem dX8_takeData_62 : decode cX8_takeData 62 = .ok (.bipush (-2), 2) := by decide +kernel
theorem dX8_takeData_64 : decode cX8_takeData 64 = .ok (.ireturn, 1) := by decide +kernel
theorem dX8_takeData_65 : decode cX8_takeData 65 = .ok (.aload 4, 2) := by decide +kernel
theorem dX8_takeData_67 : decode cX8_takeData 67 = .ok (.aload_n 2, 1) := by decide +kernel
theorem dX8_takeData_68 : decode cX8_takeData 68 = .ok (.iconst 1, 1) := by decide +kernel
theorem dX8_takeData_69 : decode cX8_takeData 69 = .ok (.invokevirtual 203, 3) := by decide +kernel
theorem dX8_takeData_72 : decode cX8_takeData 72 = .ok (.invokevirtual 463, 3) := by decide +kernel
theorem dX8_takeData_75 : decode cX8_takeData 75 = .ok (.ifCond .ne 6, 3) := by decide +kernel
theorem dX8_takeData_78 : decode cX8_takeData 78 = .ok (.bipush (-3), 2) := by decide +kernel
theorem dX8_takeData_80 : decode cX8_takeData 80 = .ok (.ireturn, 1) := by decide +kernel
theorem dX8_takeData_81 : decode cX8_takeData 81 = .ok (.aload 4, 2) := by decide +kernel
theorem dX8_takeData_83 : decode cX8_takeData 83 = .ok (.aload_n 2, 1) := by decide +kernel
theorem dX8_takeData_84 : decode cX8_takeData 84 = .ok (.iconst 1, 1) := by decide +kernel
theorem dX8_takeData_85 : decode cX8_takeData 85 = .ok (.invokevirtual 203, 3) := by decide +kernel
theorem dX8_takeData_88 : decode cX8_takeData 88 = .ok (.invokevirtual 466, 3) := by decide +kernel
theorem dX8_takeData_91 : decode cX8_takeData 91 = .ok (.aload_n 3, 1) := by decide +kernel
theorem dX8_takeData_92 : decode cX8_takeData 92 = .ok (.aload_n 2, 1) := by decide +kernel
theorem dX8_takeData_93 : decode cX8_takeData 93 = .ok (.getfield 214, 3) := by decide +kernel
theorem dX8_takeData_96 : decode cX8_takeData 96 = .ok (.putfield 221, 3) := by decide +kernel
theorem dX8_takeData_99 : decode cX8_takeData 99 = .ok (.aload 4, 2) := by decide +kernel
theorem dX8_takeData_101 : decode cX8_takeData 101 = .ok (.aload_n 3, 1) := by decide +kernel
theorem dX8_takeData_102 : decode cX8_takeData 102 = .ok (.getfield 410, 3) := by decide +kernel
theorem dX8_takeData_105 : decode cX8_takeData 105 = .ok (.if_acmp .ne 28, 3) := by decide +kernel
theorem dX8_takeData_108 : decode cX8_takeData 108 = .ok (.aload_n 3, 1) := by decide +kernel
theorem dX8_takeData_109 : decode cX8_takeData 109 = .ok (.aload_n 3, 1) := by decide +kernel
theorem dX8_takeData_110 : decode cX8_takeData 110 = .ok (.getfield 289, 3) := by decide +kernel
theorem dX8_takeData_113 : decode cX8_takeData 113 = .ok (.putfield 446, 3) := by decide +kernel
theorem dX8_takeData_116 : decode cX8_takeData 116 = .ok (.aload_n 3, 1) := by decide +kernel
theorem dX8_takeData_117 : decode cX8_takeData 117 = .ok (.aload 4, 2) := by decide +kernel
theorem dX8_takeData_119 : decode cX8_takeData 119 = .ok (.putfield 289, 3) := by decide +kernel
theorem dX8_takeData_122 : decode cX8_takeData 122 = .ok (.aload_n 3, 1) := by decide +kernel
theorem dX8_takeData_123 : decode cX8_takeData 123 = .ok (.aconst_null, 1) := by decide +kernel
theorem dX8_takeData_124 : decode cX8_takeData 124 = .ok (.putfield 410, 3) := by decide +kernel
theorem dX8_takeData_127 : decode cX8_takeData 127 = .ok (.aload_n 0, 1) := by decide +kernel
theorem dX8_takeData_128 : decode cX8_takeData 128 = .ok (.aload_n 1, 1) := by decide +kernel
theorem dX8_takeData_129 : decode cX8_takeData 129 = .ok (.aload_n 3, 1) := by decide +kernel
theorem dX8_takeData_130 : decode cX8_takeData 130 = .ok (.invokevirtual 449, 3) := by decide +kernel
theorem dX8_takeData_133 : decode cX8_takeData 133 = .ok (.aload_n 0, 1) := by decide +kernel
theorem dX8_takeData_134 : decode cX8_takeData 134 = .ok (.aload_n 1, 1) := by decide +kernel
theorem dX8_takeData_135 : decode cX8_takeData 135 = .ok (.aload_n 3, 1) := by decide +kernel
theorem dX8_takeData_136 : decode cX8_takeData 136 = .ok (.aload_n 2, 1) := by decide +kernel
theorem dX8_takeData_137 : decode cX8_takeData 137 = .ok (.invokevirtual 469, 3) := by decide +kernel
theorem dX8_takeData_140 : decode cX8_takeData 140 = .ok (.ireturn, 1) := by decide +kernel
theorem dX8_bringOut_0 : decode cX8_bringOut 0 = .ok (.aload_n 3, 1) := by decide +kernel
theorem dX8_bringOut_1 : decode cX8_bringOut 1 = .ok (.iconst 2, 1) := by decide +kernel
theorem dX8_bringOut_2 : decode cX8_bringOut 2 = .ok (.invokevirtual 203, 3) := by decide +kernel
theorem dX8_bringOut_5 : decode cX8_bringOut 5 = .ok (.istore 4, 2) := by decide +kernel
theorem dX8_bringOut_7 : decode cX8_bringOut 7 = .ok (.iload 4, 2) := by decide +kernel
theorem dX8_bringOut_9 : decode cX8_bringOut 9 = .ok (.iconst (-1), 1) := by decide +kernel
theorem dX8_bringOut_10 : decode cX8_bringOut 10 = .ok (.if_icmp .ne 5, 3) := by decide +kernel
theorem dX8_bringOut_13 : decode cX8_bringOut 13 = .ok (.iconst 2, 1) := by decide +kernel
theorem dX8_bringOut_14 : decode cX8_bringOut 14 = .ok (.ireturn, 1) := by decide +kernel
theorem dX8_bringOut_15 : decode cX8_bringOut 15 = .ok (.aload_n 1, 1) := by decide +kernel
theorem dX8_bringOut_16 : decode cX8_bringOut 16 = .ok (.iload 4, 2) := by decide +kernel
theorem dX8_bringOut_18 : decode cX8_bringOut 18 = .ok (.invokevirtual 115, 3) := by decide +kernel
theorem dX8_bringOut_21 : decode cX8_bringOut 21 = .ok (.aload_n 2, 1) := by decide +kernel
theorem dX8_bringOut_22 : decode cX8_bringOut 22 = .ok (.getfield 129, 3) := by decide +kernel
theorem dX8_bringOut_25 : decode cX8_bringOut 25 = .ok (.if_icmp .eq 6, 3) := by decide +kernel
theorem dX8_bringOut_28 : decode cX8_bringOut 28 = .ok (.bipush (-5), 2) := by decide +kernel
theorem dX8_bringOut_30 : decode cX8_bringOut 30 = .ok (.ireturn, 1) := by decide +kernel
theorem dX8_bringOut_31 : decode cX8_bringOut 31 = .ok (.aload_n 1, 1) := by decide +kernel
theorem dX8_bringOut_32 : decode cX8_bringOut 32 = .ok (.getfield 250, 3) := by decide +kernel
theorem dX8_bringOut_35 : decode cX8_bringOut 35 = .ok (.invokevirtual 86, 3) := by decide +kernel
theorem dX8_bringOut_38 : decode cX8_bringOut 38 = .ok (.sipush 512, 3) := by decide +kernel
theorem dX8_bringOut_41 : decode cX8_bringOut 41 = .ok (.if_icmp .ge 34, 3) := by decide +kernel
theorem dX8_bringOut_44 : decode cX8_bringOut 44 = .ok (.aload_n 1, 1) := by decide +kernel
theorem dX8_bringOut_45 : decode cX8_bringOut 45 = .ok (.getfield 250, 3) := by decide +kernel
theorem dX8_bringOut_48 : decode cX8_bringOut 48 = .ok (.new 127, 3) := by decide +kernel
theorem dX8_bringOut_51 : decode cX8_bringOut 51 = .ok (.dup, 1) := by decide +kernel
theorem dX8_bringOut_52 : decode cX8_bringOut 52 = .ok (.aload_n 2, 1) := by decide +kernel
theorem dX8_bringOut_53 : decode cX8_bringOut 53 = .ok (.getfield 129, 3) := by decide +kernel
theorem dX8_bringOut_56 : decode cX8_bringOut 56 = .ok (.iload 4, 2) := by decide +kernel
theorem dX8_bringOut_58 : decode cX8_bringOut 58 = .ok (.aload_n 3, 1) := by decide +kernel
theorem dX8_bringOut_59 : decode cX8_bringOut 59 = .ok (.iconst 3, 1) := by decide +kernel
theorem dX8_bringOut_60 : decode cX8_bringOut 60 = .ok (.invokevirtual 203, 3) := by decide +kernel
theorem dX8_bringOut_63 : decode cX8_bringOut 63 = .ok (.aload_n 3, 1) := by decide +kernel
theorem dX8_bringOut_64 : decode cX8_bringOut 64 = .ok (.iconst 4, 1) := by decide +kernel
theorem dX8_bringOut_65 : decode cX8_bringOut 65 = .ok (.invokevirtual 203, 3) := by decide +kernel
theorem dX8_bringOut_68 : decode cX8_bringOut 68 = .ok (.invokespecial 132, 3) := by decide +kernel
theorem dX8_bringOut_71 : decode cX8_bringOut 71 = .ok (.invokevirtual 103, 3) := by decide +kernel
theorem dX8_bringOut_74 : decode cX8_bringOut 74 = .ok (.pop, 1) := by decide +kernel
theorem dX8_bringOut_75 : decode cX8_bringOut 75 = .ok (.iconst 1, 1) := by decide +kernel
theorem dX8_bringOut_76 : decode cX8_bringOut 76 = .ok (.ireturn, 1) := by decide +kernel
theorem dX8_sessionPart_0 : decode cX8_sessionPart 0 = .ok (.iload_n 2, 1) := by decide +kernel
theorem dX8_sessionPart_1 : decode cX8_sessionPart 1 = .ok (.tableswitch 88 0 7 #[47, 52, 57, 63, 68, 73, 78, 83], 47) := by decide +kernel
theorem dX8_sessionPart_48 : decode cX8_sessionPart 48 = .ok (.aload_n 1, 1) := by decide +kernel
theorem dX8_sessionPart_49 : decode cX8_sessionPart 49 = .ok (.getfield 473, 3) := by decide +kernel
theorem dX8_sessionPart_52 : decode cX8_sessionPart 52 = .ok (.ireturn, 1) := by decide +kernel
theorem dX8_sessionPart_53 : decode cX8_sessionPart 53 = .ok (.aload_n 1, 1) := by decide +kernel
theorem dX8_sessionPart_54 : decode cX8_sessionPart 54 = .ok (.getfield 419, 3) := by decide +kernel
theorem dX8_sessionPart_57 : decode cX8_sessionPart 57 = .ok (.ireturn, 1) := by decide +kernel
theorem dX8_sessionPart_58 : decode cX8_sessionPart 58 = .ok (.aload_n 0, 1) := by decide +kernel
theorem dX8_sessionPart_59 : decode cX8_sessionPart 59 = .ok (.aload_n 1, 1) := by decide +kernel
theorem dX8_sessionPart_60 : decode cX8_sessionPart 60 = .ok (.invokevirtual 293, 3) := by decide +kernel
theorem dX8_sessionPart_63 : decode cX8_sessionPart 63 = .ok (.ireturn, 1) := by decide +kernel
theorem dX8_sessionPart_64 : decode cX8_sessionPart 64 = .ok (.aload_n 1, 1) := by decide +kernel
theorem dX8_sessionPart_65 : decode cX8_sessionPart 65 = .ok (.getfield 350, 3) := by decide +kernel
theorem dX8_sessionPart_68 : decode cX8_sessionPart 68 = .ok (.ireturn, 1) := by decide +kernel
theorem dX8_sessionPart_69 : decode cX8_sessionPart 69 = .ok (.aload_n 1, 1) := by decide +kernel
theorem dX8_sessionPart_70 : decode cX8_sessionPart 70 = .ok (.getfield 474, 3) := by decide +kernel
theorem dX8_sessionPart_73 : decode cX8_sessionPart 73 = .ok (.ireturn, 1) := by decide +kernel
theorem dX8_sessionPart_74 : decode cX8_sessionPart 74 = .ok (.aload_n 1, 1) := by decide +kernel
theorem dX8_sessionPart_75 : decode cX8_sessionPart 75 = .ok (.getfield 477, 3) := by decide +kernel
theorem dX8_sessionPart_78 : decode cX8_sessionPart 78 = .ok (.ireturn, 1) := by decide +kernel
theorem dX8_sessionPart_79 : decode cX8_sessionPart 79 = .ok (.aload_n 1, 1) := by decide +kernel
theorem dX8_sessionPart_80 : decode cX8_sessionPart 80 = .ok (.getfield 422, 3) := by decide +kernel
theorem dX8_sessionPart_83 : decode cX8_sessionPart 83 = .ok (.ireturn, 1) := by decide +kernel
theorem dX8_sessionPart_84 : decode cX8_sessionPart 84 = .ok (.aload_n 1, 1) := by decide +kernel
theorem dX8_sessionPart_85 : decode cX8_sessionPart 85 = .ok (.getfield 460, 3) := by decide +kernel
theorem dX8_sessionPart_88 : decode cX8_sessionPart 88 = .ok (.ireturn, 1) := by decide +kernel
theorem dX8_sessionPart_89 : decode cX8_sessionPart 89 = .ok (.aload_n 1, 1) := by decide +kernel
theorem dX8_sessionPart_90 : decode cX8_sessionPart 90 = .ok (.getfield 353, 3) := by decide +kernel
theorem dX8_sessionPart_93 : decode cX8_sessionPart 93 = .ok (.ifCond .eq 7, 3) := by decide +kernel
theorem dX8_sessionPart_96 : decode cX8_sessionPart 96 = .ok (.iconst 1, 1) := by decide +kernel
theorem dX8_sessionPart_97 : decode cX8_sessionPart 97 = .ok (.goto 4, 3) := by decide +kernel
theorem dX8_sessionPart_100 : decode cX8_sessionPart 100 = .ok (.iconst 0, 1) := by decide +kernel
theorem dX8_sessionPart_101 : decode cX8_sessionPart 101 = .ok (.ireturn, 1) := by decide +kernel
theorem dX8_sessionInHouse_0 : decode cX8_sessionInHouse 0 = .ok (.iload_n 1, 1) := by decide +kernel
theorem dX8_sessionInHouse_1 : decode cX8_sessionInHouse 1 = .ok (.bipush 9, 2) := by decide +kernel
theorem dX8_sessionInHouse_3 : decode cX8_sessionInHouse 3 = .ok (.idiv, 1) := by decide +kernel
theorem dX8_sessionInHouse_4 : decode cX8_sessionInHouse 4 = .ok (.istore_n 2, 1) := by decide +kernel
theorem dX8_sessionInHouse_5 : decode cX8_sessionInHouse 5 = .ok (.iload_n 2, 1) := by decide +kernel
theorem dX8_sessionInHouse_6 : decode cX8_sessionInHouse 6 = .ok (.ifCond .lt 12, 3) := by decide +kernel
theorem dX8_sessionInHouse_9 : decode cX8_sessionInHouse 9 = .ok (.iload_n 2, 1) := by decide +kernel
theorem dX8_sessionInHouse_10 : decode cX8_sessionInHouse 10 = .ok (.aload_n 0, 1) := by decide +kernel
theorem dX8_sessionInHouse_11 : decode cX8_sessionInHouse 11 = .ok (.getfield 11, 3) := by decide +kernel
theorem dX8_sessionInHouse_14 : decode cX8_sessionInHouse 14 = .ok (.arraylength, 1) := by decide +kernel
theorem dX8_sessionInHouse_15 : decode cX8_sessionInHouse 15 = .ok (.if_icmp .lt 5, 3) := by decide +kernel
theorem dX8_sessionInHouse_18 : decode cX8_sessionInHouse 18 = .ok (.aconst_null, 1) := by decide +kernel
theorem dX8_sessionInHouse_19 : decode cX8_sessionInHouse 19 = .ok (.areturn, 1) := by decide +kernel
theorem dX8_sessionInHouse_20 : decode cX8_sessionInHouse 20 = .ok (.aload_n 0, 1) := by decide +kernel
theorem dX8_sessionInHouse_21 : decode cX8_sessionInHouse 21 = .ok (.getfield 11, 3) := by decide +kernel
theorem dX8_sessionInHouse_24 : decode cX8_sessionInHouse 24 = .ok (.iload_n 2, 1) := by decide +kernel
theorem dX8_sessionInHouse_25 : decode cX8_sessionInHouse 25 = .ok (.aaload, 1) := by decide +kernel
theorem dX8_sessionInHouse_26 : decode cX8_sessionInHouse 26 = .ok (.iload_n 1, 1) := by decide +kernel
theorem dX8_sessionInHouse_27 : decode cX8_sessionInHouse 27 = .ok (.iconst 3, 1) := by decide +kernel
theorem dX8_sessionInHouse_28 : decode cX8_sessionInHouse 28 = .ok (.idiv, 1) := by decide +kernel
theorem dX8_sessionInHouse_29 : decode cX8_sessionInHouse 29 = .ok (.iconst 3, 1) := by decide +kernel
theorem dX8_sessionInHouse_30 : decode cX8_sessionInHouse 30 = .ok (.irem, 1) := by decide +kernel
theorem dX8_sessionInHouse_31 : decode cX8_sessionInHouse 31 = .ok (.invokevirtual 119, 3) := by decide +kernel
theorem dX8_sessionInHouse_34 : decode cX8_sessionInHouse 34 = .ok (.astore_n 3, 1) := by decide +kernel
theorem dX8_sessionInHouse_35 : decode cX8_sessionInHouse 35 = .ok (.aload_n 3, 1) := by decide +kernel
theorem dX8_sessionInHouse_36 : decode cX8_sessionInHouse 36 = .ok (.ifnonnull 7, 3) := by decide +kernel
theorem dX8_sessionInHouse_39 : decode cX8_sessionInHouse 39 = .ok (.aconst_null, 1) := by decide +kernel
theorem dX8_sessionInHouse_40 : decode cX8_sessionInHouse 40 = .ok (.goto 10, 3) := by decide +kernel
theorem dX8_sessionInHouse_43 : decode cX8_sessionInHouse 43 = .ok (.aload_n 3, 1) := by decide +kernel
theorem dX8_sessionInHouse_44 : decode cX8_sessionInHouse 44 = .ok (.iload_n 1, 1) := by decide +kernel
theorem dX8_sessionInHouse_45 : decode cX8_sessionInHouse 45 = .ok (.iconst 3, 1) := by decide +kernel
theorem dX8_sessionInHouse_46 : decode cX8_sessionInHouse 46 = .ok (.irem, 1) := by decide +kernel
theorem dX8_sessionInHouse_47 : decode cX8_sessionInHouse 47 = .ok (.invokevirtual 224, 3) := by decide +kernel
theorem dX8_sessionInHouse_50 : decode cX8_sessionInHouse 50 = .ok (.areturn, 1) := by decide +kernel
theorem dX8_isSoundAlone_0 : decode cX8_isSoundAlone 0 = .ok (.aload_n 0, 1) := by decide +kernel
theorem dX8_isSoundAlone_1 : decode cX8_isSoundAlone 1 = .ok (.getfield 480, 3) := by decide +kernel
theorem dX8_isSoundAlone_4 : decode cX8_isSoundAlone 4 = .ok (.invokestatic 484, 3) := by decide +kernel
theorem dX8_isSoundAlone_7 : decode cX8_isSoundAlone 7 = .ok (.aload_n 0, 1) := by decide +kernel
theorem dX8_isSoundAlone_8 : decode cX8_isSoundAlone 8 = .ok (.getfield 477, 3) := by decide +kernel
theorem dX8_isSoundAlone_11 : decode cX8_isSoundAlone 11 = .ok (.if_icmp .ne 7, 3) := by decide +kernel
theorem dX8_isSoundAlone_14 : decode cX8_isSoundAlone 14 = .ok (.iconst 1, 1) := by decide +kernel
theorem dX8_isSoundAlone_15 : decode cX8_isSoundAlone 15 = .ok (.goto 4, 3) := by decide +kernel
theorem dX8_isSoundAlone_18 : decode cX8_isSoundAlone 18 = .ok (.iconst 0, 1) := by decide +kernel
theorem dX8_isSoundAlone_19 : decode cX8_isSoundAlone 19 = .ok (.istore_n 1, 1) := by decide +kernel
theorem dX8_isSoundAlone_20 : decode cX8_isSoundAlone 20 = .ok (.aload_n 0, 1) := by decide +kernel
theorem dX8_isSoundAlone_21 : decode cX8_isSoundAlone 21 = .ok (.getfield 480, 3) := by decide +kernel
theorem dX8_isSoundAlone_24 : decode cX8_isSoundAlone 24 = .ok (.aload_n 0, 1) := by decide +kernel
theorem dX8_isSoundAlone_25 : decode cX8_isSoundAlone 25 = .ok (.getfield 474, 3) := by decide +kernel
theorem dX8_isSoundAlone_28 : decode cX8_isSoundAlone 28 = .ok (.lushr, 1) := by decide +kernel
theorem dX8_isSoundAlone_29 : decode cX8_isSoundAlone 29 = .ok (.iconst 1, 1) := by decide +kernel
theorem dX8_isSoundAlone_30 : decode cX8_isSoundAlone 30 = .ok (.lushr, 1) := by decide +kernel
theorem dX8_isSoundAlone_31 : decode cX8_isSoundAlone 31 = .ok (.lconst 0, 1) := by decide +kernel
theorem dX8_isSoundAlone_32 : decode cX8_isSoundAlone 32 = .ok (.lcmp, 1) := by decide +kernel
theorem dX8_isSoundAlone_33 : decode cX8_isSoundAlone 33 = .ok (.ifCond .ne 7, 3) := by decide +kernel
theorem dX8_isSoundAlone_36 : decode cX8_isSoundAlone 36 = .ok (.iconst 1, 1) := by decide +kernel
theorem dX8_isSoundAlone_37 : decode cX8_isSoundAlone 37 = .ok (.goto 4, 3) := by decide +kernel
theorem dX8_isSoundAlone_40 : decode cX8_isSoundAlone 40 = .ok (.iconst 0, 1) := by decide +kernel
theorem dX8_isSoundAlone_41 : decode cX8_isSoundAlone 41 = .ok (.istore_n 2, 1) := by decide +kernel
theorem dX8_isSoundAlone_42 : decode cX8_isSoundAlone 42 = .ok (.aload_n 0, 1) := by decide +kernel
theorem dX8_isSoundAlone_43 : decode cX8_isSoundAlone 43 = .ok (.getfield 474, 3) := by decide +kernel
theorem dX8_isSoundAlone_46 : decode cX8_isSoundAlone 46 = .ok (.ifCond .ge 18, 3) := by decide +kernel
theorem dX8_isSoundAlone_49 : decode cX8_isSoundAlone 49 = .ok (.aload_n 0, 1) := by decide +kernel
theorem dX8_isSoundAlone_50 : decode cX8_isSoundAlone 50 = .ok (.getfield 480, 3) := by decide +kernel
theorem dX8_isSoundAlone_53 : decode cX8_isSoundAlone 53 = .ok (.lconst 0, 1) := by decide +kernel
theorem dX8_isSoundAlone_54 : decode cX8_isSoundAlone 54 = .ok (.lcmp, 1) := by decide +kernel
theorem dX8_isSoundAlone_55 : decode cX8_isSoundAlone 55 = .ok (.ifCond .ne 7, 3) := by decide +kernel
theorem dX8_isSoundAlone_58 : decode cX8_isSoundAlone 58 = .ok (.iconst 1, 1) := by decide +kernel
theorem dX8_isSoundAlone_59 : decode cX8_isSoundAlone 59 = .ok (.goto 4, 3) := by decide +kernel
theorem dX8_isSoundAlone_62 : decode cX8_isSoundAlone 62 = .ok (.iconst 0, 1) := by decide +kernel
theorem dX8_isSoundAlone_63 : decode cX8_isSoundAlone 63 = .ok (.istore_n 2, 1) := by decide +kernel
theorem dX8_isSoundAlone_64 : decode cX8_isSoundAlone 64 = .ok (.aload_n 0, 1) := by decide +kernel
theorem dX8_isSoundAlone_65 : decode cX8_isSoundAlone 65 = .ok (.getfield 350, 3) := by decide +kernel
theorem dX8_isSoundAlone_68 : decode cX8_isSoundAlone 68 = .ok (.bipush 40, 2) := by decide +kernel
theorem dX8_isSoundAlone_70 : decode cX8_isSoundAlone 70 = .ok (.if_icmp .gt 15, 3) := by decide +kernel
theorem dX8_isSoundAlone_73 : decode cX8_isSoundAlone 73 = .ok (.iload_n 1, 1) := by decide +kernel
theorem dX8_isSoundAlone_74 : decode cX8_isSoundAlone 74 = .ok (.ifCond .eq 11, 3) := by decide +kernel
theorem dX8_isSoundAlone_77 : decode cX8_isSoundAlone 77 = .ok (.iload_n 2, 1) := by decide +kernel
theorem dX8_isSoundAlone_78 : decode cX8_isSoundAlone 78 = .ok (.ifCond .eq 7, 3) := by decide +kernel
theorem dX8_isSoundAlone_81 : decode cX8_isSoundAlone 81 = .ok (.iconst 1, 1) := by decide +kernel
theorem dX8_isSoundAlone_82 : decode cX8_isSoundAlone 82 = .ok (.goto 4, 3) := by decide +kernel
theorem dX8_isSoundAlone_85 : decode cX8_isSoundAlone 85 = .ok (.iconst 0, 1) := by decide +kernel
theorem dX8_isSoundAlone_86 : decode cX8_isSoundAlone 86 = .ok (.ireturn, 1) := by decide +kernel
theorem dX8_isSoundBeside_0 : decode cX8_isSoundBeside 0 = .ok (.iconst 0, 1) := by decide +kernel
theorem dX8_isSoundBeside_1 : decode cX8_isSoundBeside 1 = .ok (.istore_n 3, 1) := by decide +kernel
theorem dX8_isSoundBeside_2 : decode cX8_isSoundBeside 2 = .ok (.iload_n 3, 1) := by decide +kernel
theorem dX8_isSoundBeside_3 : decode cX8_isSoundBeside 3 = .ok (.iload_n 2, 1) := by decide +kernel
theorem dX8_isSoundBeside_4 : decode cX8_isSoundBeside 4 = .ok (.if_icmp .ge 44, 3) := by decide +kernel
theorem dX8_isSoundBeside_7 : decode cX8_isSoundBeside 7 = .ok (.aload_n 0, 1) := by decide +kernel
theorem dX8_isSoundBeside_8 : decode cX8_isSoundBeside 8 = .ok (.iload_n 3, 1) := by decide +kernel
theorem dX8_isSoundBeside_9 : decode cX8_isSoundBeside 9 = .ok (.invokevirtual 303, 3) := by decide +kernel
theorem dX8_isSoundBeside_12 : decode cX8_isSoundBeside 12 = .ok (.astore 4, 2) := by decide +kernel
theorem dX8_isSoundBeside_14 : decode cX8_isSoundBeside 14 = .ok (.aload 4, 2) := by decide +kernel
theorem dX8_isSoundBeside_16 : decode cX8_isSoundBeside 16 = .ok (.ifnull 26, 3) := by decide +kernel
theorem dX8_isSoundBeside_19 : decode cX8_isSoundBeside 19 = .ok (.aload_n 1, 1) := by decide +kernel
theorem dX8_isSoundBeside_20 : decode cX8_isSoundBeside 20 = .ok (.getfield 473, 3) := by decide +kernel
theorem dX8_isSoundBeside_23 : decode cX8_isSoundBeside 23 = .ok (.aload 4, 2) := by decide +kernel
theorem dX8_isSoundBeside_25 : decode cX8_isSoundBeside 25 = .ok (.getfield 473, 3) := by decide +kernel
theorem dX8_isSoundBeside_28 : decode cX8_isSoundBeside 28 = .ok (.if_icmp .eq 12, 3) := by decide +kernel
theorem dX8_isSoundBeside_31 : decode cX8_isSoundBeside 31 = .ok (.aload_n 1, 1) := by decide +kernel
theorem dX8_isSoundBeside_32 : decode cX8_isSoundBeside 32 = .ok (.aload 4, 2) := by decide +kernel
theorem dX8_isSoundBeside_34 : decode cX8_isSoundBeside 34 = .ok (.invokestatic 490, 3) := by decide +kernel
theorem dX8_isSoundBeside_37 : decode cX8_isSoundBeside 37 = .ok (.ifCond .ne 5, 3) := by decide +kernel
theorem dX8_isSoundBeside_40 : decode cX8_isSoundBeside 40 = .ok (.iconst 0, 1) := by decide +kernel
theorem dX8_isSoundBeside_41 : decode cX8_isSoundBeside 41 = .ok (.ireturn, 1) := by decide +kernel
theorem dX8_isSoundBeside_42 : decode cX8_isSoundBeside 42 = .ok (.iinc 3 1, 3) := by decide +kernel
theorem dX8_isSoundBeside_45 : decode cX8_isSoundBeside 45 = .ok (.goto (-43), 3) := by decide +kernel
theorem dX8_isSoundBeside_48 : decode cX8_isSoundBeside 48 = .ok (.iconst 1, 1) := by decide +kernel
theorem dX8_isSoundBeside_49 : decode cX8_isSoundBeside 49 = .ok (.ireturn, 1) := by decide +kernel
theorem dX8_isSoundPair_0 : decode cX8_isSoundPair 0 = .ok (.aload_n 0, 1) := by decide +kernel
theorem dX8_isSoundPair_1 : decode cX8_isSoundPair 1 = .ok (.getfield 419, 3) := by decide +kernel
theorem dX8_isSoundPair_4 : decode cX8_isSoundPair 4 = .ok (.aload_n 1, 1) := by decide +kernel
theorem dX8_isSoundPair_5 : decode cX8_isSoundPair 5 = .ok (.getfield 473, 3) := by decide +kernel
theorem dX8_isSoundPair_8 : decode cX8_isSoundPair 8 = .ok (.if_icmp .ne 14, 3) := by decide +kernel
theorem dX8_isSoundPair_11 : decode cX8_isSoundPair 11 = .ok (.aload_n 1, 1) := by decide +kernel
theorem dX8_isSoundPair_12 : decode cX8_isSoundPair 12 = .ok (.getfield 419, 3) := by decide +kernel
theorem dX8_isSoundPair_15 : decode cX8_isSoundPair 15 = .ok (.aload_n 0, 1) := by decide +kernel
theorem dX8_isSoundPair_16 : decode cX8_isSoundPair 16 = .ok (.getfield 473, 3) := by decide +kernel
theorem dX8_isSoundPair_19 : decode cX8_isSoundPair 19 = .ok (.if_icmp .eq 5, 3) := by decide +kernel
theorem dX8_isSoundPair_22 : decode cX8_isSoundPair 22 = .ok (.iconst 1, 1) := by decide +kernel
theorem dX8_isSoundPair_23 : decode cX8_isSoundPair 23 = .ok (.ireturn, 1) := by decide +kernel
theorem dX8_isSoundPair_24 : decode cX8_isSoundPair 24 = .ok (.aload_n 0, 1) := by decide +kernel
theorem dX8_isSoundPair_25 : decode cX8_isSoundPair 25 = .ok (.getfield 422, 3) := by decide +kernel
theorem dX8_isSoundPair_28 : decode cX8_isSoundPair 28 = .ok (.aload_n 1, 1) := by decide +kernel
theorem dX8_isSoundPair_29 : decode cX8_isSoundPair 29 = .ok (.getfield 460, 3) := by decide +kernel
theorem dX8_isSoundPair_32 : decode cX8_isSoundPair 32 = .ok (.if_icmp .ne 18, 3) := by decide +kernel
theorem dX8_isSoundPair_35 : decode cX8_isSoundPair 35 = .ok (.aload_n 0, 1) := by decide +kernel
theorem dX8_isSoundPair_36 : decode cX8_isSoundPair 36 = .ok (.getfield 460, 3) := by decide +kernel
theorem dX8_isSoundPair_39 : decode cX8_isSoundPair 39 = .ok (.aload_n 1, 1) := by decide +kernel
theorem dX8_isSoundPair_40 : decode cX8_isSoundPair 40 = .ok (.getfield 422, 3) := by decide +kernel
theorem dX8_isSoundPair_43 : decode cX8_isSoundPair 43 = .ok (.if_icmp .ne 7, 3) := by decide +kernel
theorem dX8_isSoundPair_46 : decode cX8_isSoundPair 46 = .ok (.iconst 1, 1) := by decide +kernel
theorem dX8_isSoundPair_47 : decode cX8_isSoundPair 47 = .ok (.goto 4, 3) := by decide +kernel
theorem dX8_isSoundPair_50 : decode cX8_isSoundPair 50 = .ok (.iconst 0, 1) := by decide +kernel
theorem dX8_isSoundPair_51 : decode cX8_isSoundPair 51 = .ok (.istore_n 2, 1) := by decide +kernel
theorem dX8_isSoundPair_52 : decode cX8_isSoundPair 52 = .ok (.iload_n 2, 1) := by decide +kernel
theorem dX8_isSoundPair_53 : decode cX8_isSoundPair 53 = .ok (.ifCond .eq 18, 3) := by decide +kernel
theorem dX8_isSoundPair_56 : decode cX8_isSoundPair 56 = .ok (.aload_n 0, 1) := by decide +kernel
theorem dX8_isSoundPair_57 : decode cX8_isSoundPair 57 = .ok (.getfield 353, 3) := by decide +kernel
theorem dX8_isSoundPair_60 : decode cX8_isSoundPair 60 = .ok (.aload_n 1, 1) := by decide +kernel
theorem dX8_isSoundPair_61 : decode cX8_isSoundPair 61 = .ok (.getfield 353, 3) := by decide +kernel
theorem dX8_isSoundPair_64 : decode cX8_isSoundPair 64 = .ok (.if_icmp .eq 7, 3) := by decide +kernel
theorem dX8_isSoundPair_67 : decode cX8_isSoundPair 67 = .ok (.iconst 1, 1) := by decide +kernel
theorem dX8_isSoundPair_68 : decode cX8_isSoundPair 68 = .ok (.goto 4, 3) := by decide +kernel
theorem dX8_isSoundPair_71 : decode cX8_isSoundPair 71 = .ok (.iconst 0, 1) := by decide +kernel
theorem dX8_isSoundPair_72 : decode cX8_isSoundPair 72 = .ok (.ireturn, 1) := by decide +kernel
theorem dX8_sumWithLink_0 : decode cX8_sumWithLink 0 = .ok (.lload_n 1, 1) := by decide +kernel
theorem dX8_sumWithLink_1 : decode cX8_sumWithLink 1 = .ok (.aload_n 3, 1) := by decide +kernel
theorem dX8_sumWithLink_2 : decode cX8_sumWithLink 2 = .ok (.getfield 221, 3) := by decide +kernel
theorem dX8_sumWithLink_5 : decode cX8_sumWithLink 5 = .ok (.invokestatic 315, 3) := by decide +kernel
theorem dX8_sumWithLink_8 : decode cX8_sumWithLink 8 = .ok (.lstore 4, 2) := by decide +kernel
theorem dX8_sumWithLink_10 : decode cX8_sumWithLink 10 = .ok (.lload 4, 2) := by decide +kernel
theorem dX8_sumWithLink_12 : decode cX8_sumWithLink 12 = .ok (.aload_n 3, 1) := by decide +kernel
theorem dX8_sumWithLink_13 : decode cX8_sumWithLink 13 = .ok (.invokevirtual 234, 3) := by decide +kernel
theorem dX8_sumWithLink_16 : decode cX8_sumWithLink 16 = .ok (.invokestatic 315, 3) := by decide +kernel
theorem dX8_sumWithLink_19 : decode cX8_sumWithLink 19 = .ok (.lstore 4, 2) := by decide +kernel
theorem dX8_sumWithLink_21 : decode cX8_sumWithLink 21 = .ok (.lload 4, 2) := by decide +kernel
theorem dX8_sumWithLink_23 : decode cX8_sumWithLink 23 = .ok (.aload_n 3, 1) := by decide +kernel
theorem dX8_sumWithLink_24 : decode cX8_sumWithLink 24 = .ok (.getfield 247, 3) := by decide +kernel
theorem dX8_sumWithLink_27 : decode cX8_sumWithLink 27 = .ok (.invokestatic 315, 3) := by decide +kernel
theorem dX8_sumWithLink_30 : decode cX8_sumWithLink 30 = .ok (.lstore 4, 2) := by decide +kernel
theorem dX8_sumWithLink_32 : decode cX8_sumWithLink 32 = .ok (.lload 4, 2) := by decide +kernel
theorem dX8_sumWithLink_34 : decode cX8_sumWithLink 34 = .ok (.aload_n 3, 1) := by decide +kernel
theorem dX8_sumWithLink_35 : decode cX8_sumWithLink 35 = .ok (.getfield 237, 3) := by decide +kernel
theorem dX8_sumWithLink_38 : decode cX8_sumWithLink 38 = .ok (.invokevirtual 86, 3) := by decide +kernel
theorem dX8_sumWithLink_41 : decode cX8_sumWithLink 41 = .ok (.invokestatic 315, 3) := by decide +kernel
theorem dX8_sumWithLink_44 : decode cX8_sumWithLink 44 = .ok (.lstore 4, 2) := by decide +kernel
theorem dX8_sumWithLink_46 : decode cX8_sumWithLink 46 = .ok (.iconst 0, 1) := by decide +kernel
theorem dX8_sumWithLink_47 : decode cX8_sumWithLink 47 = .ok (.istore 6, 2) := by decide +kernel
theorem dX8_sumWithLink_49 : decode cX8_sumWithLink 49 = .ok (.iload 6, 2) := by decide +kernel
theorem dX8_sumWithLink_51 : decode cX8_sumWithLink 51 = .ok (.iconst 3, 1) := by decide +kernel
theorem dX8_sumWithLink_52 : decode cX8_sumWithLink 52 = .ok (.if_icmp .ge 81, 3) := by decide +kernel
theorem dX8_sumWithLink_55 : decode cX8_sumWithLink 55 = .ok (.aload_n 3, 1) := by decide +kernel
theorem dX8_sumWithLink_56 : decode cX8_sumWithLink 56 = .ok (.iload 6, 2) := by decide +kernel
theorem dX8_sumWithLink_58 : decode cX8_sumWithLink 58 = .ok (.invokevirtual 224, 3) := by decide +kernel
theorem dX8_sumWithLink_61 : decode cX8_sumWithLink 61 = .ok (.astore 7, 2) := by decide +kernel
theorem dX8_sumWithLink_63 : decode cX8_sumWithLink 63 = .ok (.aload 7, 2) := by decide +kernel
theorem dX8_sumWithLink_65 : decode cX8_sumWithLink 65 = .ok (.ifnonnull 14, 3) := by decide +kernel
theorem dX8_sumWithLink_68 : decode cX8_sumWithLink 68 = .ok (.lload 4, 2) := by decide +kernel
theorem dX8_sumWithLink_70 : decode cX8_sumWithLink 70 = .ok (.iconst (-1), 1) := by decide +kernel
theorem dX8_sumWithLink_71 : decode cX8_sumWithLink 71 = .ok (.invokestatic 315, 3) := by decide +kernel
theorem dX8_sumWithLink_74 : decode cX8_sumWithLink 74 = .ok (.lstore 4, 2) := by decide +kernel
theorem dX8_sumWithLink_76 : decode cX8_sumWithLink 76 = .ok (.goto 51, 3) := by decide +kernel
theorem dX8_sumWithLink_79 : decode cX8_sumWithLink 79 = .ok (.lload 4, 2) := by decide +kernel
theorem dX8_sumWithLink_81 : decode cX8_sumWithLink 81 = .ok (.aload 7, 2) := by decide +kernel
theorem dX8_sumWithLink_83 : decode cX8_sumWithLink 83 = .ok (.getfield 473, 3) := by decide +kernel
theorem dX8_sumWithLink_86 : decode cX8_sumWithLink 86 = .ok (.invokestatic 315, 3) := by decide +kernel
theorem dX8_sumWithLink_89 : decode cX8_sumWithLink 89 = .ok (.lstore 4, 2) := by decide +kernel
theorem dX8_sumWithLink_91 : decode cX8_sumWithLink 91 = .ok (.lload 4, 2) := by decide +kernel
theorem dX8_sumWithLink_93 : decode cX8_sumWithLink 93 = .ok (.aload 7, 2) := by decide +kernel
theorem dX8_sumWithLink_95 : decode cX8_sumWithLink 95 = .ok (.getfield 422, 3) := by decide +kernel
theorem dX8_sumWithLink_98 : decode cX8_sumWithLink 98 = .ok (.invokestatic 315, 3) := by decide +kernel
theorem dX8_sumWithLink_101 : decode cX8_sumWithLink 101 = .ok (.lstore 4, 2) := by decide +kernel
theorem dX8_sumWithLink_103 : decode cX8_sumWithLink 103 = .ok (.lload 4, 2) := by decide +kernel
theorem dX8_sumWithLink_105 : decode cX8_sumWithLink 105 = .ok (.aload 7, 2) := by decide +kernel
theorem dX8_sumWithLink_107 : decode cX8_sumWithLink 107 = .ok (.getfield 350, 3) := by decide +kernel
theorem dX8_sumWithLink_110 : decode cX8_sumWithLink 110 = .ok (.invokestatic 315, 3) := by decide +kernel
theorem dX8_sumWithLink_113 : decode cX8_sumWithLink 113 = .ok (.lstore 4, 2) := by decide +kernel
theorem dX8_sumWithLink_115 : decode cX8_sumWithLink 115 = .ok (.lload 4, 2) := by decide +kernel
theorem dX8_sumWithLink_117 : decode cX8_sumWithLink 117 = .ok (.aload 7, 2) := by decide +kernel
theorem dX8_sumWithLink_119 : decode cX8_sumWithLink 119 = .ok (.getfield 477, 3) := by decide +kernel
theorem dX8_sumWithLink_122 : decode cX8_sumWithLink 122 = .ok (.invokestatic 315, 3) := by decide +kernel
theorem dX8_sumWithLink_125 : decode cX8_sumWithLink 125 = .ok (.lstore 4, 2) := by decide +kernel
theorem dX8_sumWithLink_127 : decode cX8_sumWithLink 127 = .ok (.iinc 6 1, 3) := by decide +kernel
theorem dX8_sumWithLink_130 : decode cX8_sumWithLink 130 = .ok (.goto (-81), 3) := by decide +kernel
theorem dX8_sumWithLink_133 : decode cX8_sumWithLink 133 = .ok (.lload 4, 2) := by decide +kernel
theorem dX8_sumWithLink_135 : decode cX8_sumWithLink 135 = .ok (.lreturn, 1) := by decide +kernel
theorem dX8_sumWithOuts_0 : decode cX8_sumWithOuts 0 = .ok (.lload_n 0, 1) := by decide +kernel
theorem dX8_sumWithOuts_1 : decode cX8_sumWithOuts 1 = .ok (.aload_n 2, 1) := by decide +kernel
theorem dX8_sumWithOuts_2 : decode cX8_sumWithOuts 2 = .ok (.getfield 250, 3) := by decide +kernel
theorem dX8_sumWithOuts_5 : decode cX8_sumWithOuts 5 = .ok (.invokevirtual 86, 3) := by decide +kernel
theorem dX8_sumWithOuts_8 : decode cX8_sumWithOuts 8 = .ok (.invokestatic 315, 3) := by decide +kernel
theorem dX8_sumWithOuts_11 : decode cX8_sumWithOuts 11 = .ok (.lstore_n 3, 1) := by decide +kernel
theorem dX8_sumWithOuts_12 : decode cX8_sumWithOuts 12 = .ok (.iconst 0, 1) := by decide +kernel
theorem dX8_sumWithOuts_13 : decode cX8_sumWithOuts 13 = .ok (.istore 5, 2) := by decide +kernel
theorem dX8_sumWithOuts_15 : decode cX8_sumWithOuts 15 = .ok (.iload 5, 2) := by decide +kernel
theorem dX8_sumWithOuts_17 : decode cX8_sumWithOuts 17 = .ok (.aload_n 2, 1) := by decide +kernel
theorem dX8_sumWithOuts_18 : decode cX8_sumWithOuts 18 = .ok (.getfield 250, 3) := by decide +kernel
theorem dX8_sumWithOuts_21 : decode cX8_sumWithOuts 21 = .ok (.invokevirtual 86, 3) := by decide +kernel
theorem dX8_sumWithOuts_24 : decode cX8_sumWithOuts 24 = .ok (.if_icmp .ge 29, 3) := by decide +kernel
theorem dX8_sumWithOuts_27 : decode cX8_sumWithOuts 27 = .ok (.lload_n 3, 1) := by decide +kernel
theorem dX8_sumWithOuts_28 : decode cX8_sumWithOuts 28 = .ok (.aload_n 2, 1) := by decide +kernel
theorem dX8_sumWithOuts_29 : decode cX8_sumWithOuts 29 = .ok (.getfield 250, 3) := by decide +kernel
theorem dX8_sumWithOuts_32 : decode cX8_sumWithOuts 32 = .ok (.iload 5, 2) := by decide +kernel
theorem dX8_sumWithOuts_34 : decode cX8_sumWithOuts 34 = .ok (.invokevirtual 92, 3) := by decide +kernel
theorem dX8_sumWithOuts_37 : decode cX8_sumWithOuts 37 = .ok (.checkcast 127, 3) := by decide +kernel
theorem dX8_sumWithOuts_40 : decode cX8_sumWithOuts 40 = .ok (.getfield 265, 3) := by decide +kernel
theorem dX8_sumWithOuts_43 : decode cX8_sumWithOuts 43 = .ok (.invokestatic 315, 3) := by decide +kernel
theorem dX8_sumWithOuts_46 : decode cX8_sumWithOuts 46 = .ok (.lstore_n 3, 1) := by decide +kernel
theorem dX8_sumWithOuts_47 : decode cX8_sumWithOuts 47 = .ok (.iinc 5 1, 3) := by decide +kernel
theorem dX8_sumWithOuts_50 : decode cX8_sumWithOuts 50 = .ok (.goto (-35), 3) := by decide +kernel
theorem dX8_sumWithOuts_53 : decode cX8_sumWithOuts 53 = .ok (.lload_n 3, 1) := by decide +kernel
theorem dX8_sumWithOuts_54 : decode cX8_sumWithOuts 54 = .ok (.lreturn, 1) := by decide +kernel
theorem dX8_sumWithLetter_0 : decode cX8_sumWithLetter 0 = .ok (.lload_n 0, 1) := by decide +kernel
theorem dX8_sumWithLetter_1 : decode cX8_sumWithLetter 1 = .ok (.aload_n 2, 1) := by decide +kernel
theorem dX8_sumWithLetter_2 : decode cX8_sumWithLetter 2 = .ok (.getfield 214, 3) := by decide +kernel
theorem dX8_sumWithLetter_5 : decode cX8_sumWithLetter 5 = .ok (.invokestatic 315, 3) := by decide +kernel
theorem dX8_sumWithLetter_8 : decode cX8_sumWithLetter 8 = .ok (.lstore_n 3, 1) := by decide +kernel
theorem dX8_sumWithLetter_9 : decode cX8_sumWithLetter 9 = .ok (.lload_n 3, 1) := by decide +kernel
theorem dX8_sumWithLetter_10 : decode cX8_sumWithLetter 10 = .ok (.aload_n 2, 1) := by decide +kernel
theorem dX8_sumWithLetter_11 : decode cX8_sumWithLetter 11 = .ok (.getfield 165, 3) := by decide +kernel
theorem dX8_sumWithLetter_14 : decode cX8_sumWithLetter 14 = .ok (.invokestatic 315, 3) := by decide +kernel
theorem dX8_sumWithLetter_17 : decode cX8_sumWithLetter 17 = .ok (.lstore_n 3, 1) := by decide +kernel
theorem dX8_sumWithLetter_18 : decode cX8_sumWithLetter 18 = .ok (.lload_n 3, 1) := by decide +kernel
theorem dX8_sumWithLetter_19 : decode cX8_sumWithLetter 19 = .ok (.aload_n 2, 1) := by decide +kernel
theorem dX8_sumWithLetter_20 : decode cX8_sumWithLetter 20 = .ok (.getfield 170, 3) := by decide +kernel
theorem dX8_sumWithLetter_23 : decode cX8_sumWithLetter 23 = .ok (.invokestatic 315, 3) := by decide +kernel
theorem dX8_sumWithLetter_26 : decode cX8_sumWithLetter 26 = .ok (.lstore_n 3, 1) := by decide +kernel
theorem dX8_sumWithLetter_27 : decode cX8_sumWithLetter 27 = .ok (.aload_n 2, 1) := by decide +kernel
theorem dX8_sumWithLetter_28 : decode cX8_sumWithLetter 28 = .ok (.getfield 494, 3) := by decide +kernel
theorem dX8_sumWithLetter_31 : decode cX8_sumWithLetter 31 = .ok (.astore 5, 2) := by decide +kernel
theorem dX8_sumWithLetter_33 : decode cX8_sumWithLetter 33 = .ok (.aload 5, 2) := by decide +kernel
theorem dX8_sumWithLetter_35 : decode cX8_sumWithLetter 35 = .ok (.arraylength, 1) := by decide +kernel
theorem dX8_sumWithLetter_36 : decode cX8_sumWithLetter 36 = .ok (.istore 6, 2) := by decide +kernel
theorem dX8_sumWithLetter_38 : decode cX8_sumWithLetter 38 = .ok (.iconst 0, 1) := by decide +kernel
theorem dX8_sumWithLetter_39 : decode cX8_sumWithLetter 39 = .ok (.istore 7, 2) := by decide +kernel
theorem dX8_sumWithLetter_41 : decode cX8_sumWithLetter 41 = .ok (.iload 7, 2) := by decide +kernel
theorem dX8_sumWithLetter_43 : decode cX8_sumWithLetter 43 = .ok (.iload 6, 2) := by decide +kernel
theorem dX8_sumWithLetter_45 : decode cX8_sumWithLetter 45 = .ok (.if_icmp .ge 23, 3) := by decide +kernel
theorem dX8_sumWithLetter_48 : decode cX8_sumWithLetter 48 = .ok (.aload 5, 2) := by decide +kernel
theorem dX8_sumWithLetter_50 : decode cX8_sumWithLetter 50 = .ok (.iload 7, 2) := by decide +kernel
theorem dX8_sumWithLetter_52 : decode cX8_sumWithLetter 52 = .ok (.iaload, 1) := by decide +kernel
theorem dX8_sumWithLetter_53 : decode cX8_sumWithLetter 53 = .ok (.istore 8, 2) := by decide +kernel
theorem dX8_sumWithLetter_55 : decode cX8_sumWithLetter 55 = .ok (.lload_n 3, 1) := by decide +kernel
theorem dX8_sumWithLetter_56 : decode cX8_sumWithLetter 56 = .ok (.iload 8, 2) := by decide +kernel
theorem dX8_sumWithLetter_58 : decode cX8_sumWithLetter 58 = .ok (.invokestatic 315, 3) := by decide +kernel
theorem dX8_sumWithLetter_61 : decode cX8_sumWithLetter 61 = .ok (.lstore_n 3, 1) := by decide +kernel
theorem dX8_sumWithLetter_62 : decode cX8_sumWithLetter 62 = .ok (.iinc 7 1, 3) := by decide +kernel
theorem dX8_sumWithLetter_65 : decode cX8_sumWithLetter 65 = .ok (.goto (-24), 3) := by decide +kernel
theorem dX8_sumWithLetter_68 : decode cX8_sumWithLetter 68 = .ok (.lload_n 3, 1) := by decide +kernel
theorem dX8_sumWithLetter_69 : decode cX8_sumWithLetter 69 = .ok (.lreturn, 1) := by decide +kernel
theorem dX9_init_0 : decode cX9_init 0 = .ok (.aload_n 0, 1) := by decide +kernel
theorem dX9_init_1 : decode cX9_init 1 = .ok (.invokespecial 1, 3) := by decide +kernel
theorem dX9_init_4 : decode cX9_init 4 = .ok (.aload_n 0, 1) := by decide +kernel
theorem dX9_init_5 : decode cX9_init 5 = .ok (.iconst 1, 1) := by decide +kernel
theorem dX9_init_6 : decode cX9_init 6 = .ok (.putfield 7, 3) := by decide +kernel
theorem dX9_init_9 : decode cX9_init 9 = .ok (.aload_n 0, 1) := by decide +kernel
theorem dX9_init_10 : decode cX9_init 10 = .ok (.iconst 3, 1) := by decide +kernel
theorem dX9_init_11 : decode cX9_init 11 = .ok (.newarray .int, 2) := by decide +kernel
theorem dX9_init_13 : decode cX9_init 13 = .ok (.dup, 1) := by decide +kernel
theorem dX9_init_14 : decode cX9_init 14 = .ok (.iconst 0, 1) := by decide +kernel
theorem dX9_init_15 : decode cX9_init 15 = .ok (.bipush 10, 2) := by decide +kernel
theorem dX9_init_17 : decode cX9_init 17 = .ok (.iastore, 1) := by decide +kernel
theorem dX9_init_18 : decode cX9_init 18 = .ok (.dup, 1) := by decide +kernel
theorem dX9_init_19 : decode cX9_init 19 = .ok (.iconst 1, 1) := by decide +kernel
theorem dX9_init_20 : decode cX9_init 20 = .ok (.bipush 20, 2) := by decide +kernel
theorem dX9_init_22 : decode cX9_init 22 = .ok (.iastore, 1) := by decide +kernel
theorem dX9_init_23 : decode cX9_init 23 = .ok (.dup, 1) := by decide +kernel
theorem dX9_init_24 : decode cX9_init 24 = .ok (.iconst 2, 1) := by decide +kernel
theorem dX9_init_25 : decode cX9_init 25 = .ok (.bipush 30, 2) := by decide +kernel
theorem dX9_init_27 : decode cX9_init 27 = .ok (.iastore, 1) := by decide +kernel
theorem dX9_init_28 : decode cX9_init 28 = .ok (.putfield 13, 3) := by decide +kernel
theorem dX9_init_31 : decode cX9_init 31 = .ok (.aload_n 0, 1) := by decide +kernel
theorem dX9_init_32 : decode cX9_init 32 = .ok (.iconst 3, 1) := by decide +kernel
theorem dX9_init_33 : decode cX9_init 33 = .ok (.newarray .int, 2) := by decide +kernel
theorem dX9_init_35 : decode cX9_init 35 = .ok (.putfield 17, 3) := by decide +kernel
theorem dX9_init_38 : decode cX9_init 38 = .ok (.aload_n 0, 1) := by decide +kernel
theorem dX9_init_39 : decode cX9_init 39 = .ok (.iconst 3, 1) := by decide +kernel
theorem dX9_init_40 : decode cX9_init 40 = .ok (.newarray .int, 2) := by decide +kernel
theorem dX9_init_42 : decode cX9_init 42 = .ok (.putfield 20, 3) := by decide +kernel
theorem dX9_init_45 : decode cX9_init 45 = .ok (.aload_n 0, 1) := by decide +kernel
theorem dX9_init_46 : decode cX9_init 46 = .ok (.bipush 11, 2) := by decide +kernel
theorem dX9_init_48 : decode cX9_init 48 = .ok (.newarray .int, 2) := by decide +kernel
theorem dX9_init_50 : decode cX9_init 50 = .ok (.putfield 23, 3) := by decide +kernel
theorem dX9_init_53 : decode cX9_init 53 = .ok (.aload_n 0, 1) := by decide +kernel
theorem dX9_init_54 : decode cX9_init 54 = .ok (.iconst 3, 1) := by decide +kernel
theorem dX9_init_55 : decode cX9_init 55 = .ok (.newarray .boolean, 2) := by decide +kernel
theorem dX9_init_57 : decode cX9_init 57 = .ok (.putfield 26, 3) := by decide +kernel
theorem dX9_init_60 : decode cX9_init 60 = .ok (.aload_n 0, 1) := by decide +kernel
theorem dX9_init_61 : decode cX9_init 61 = .ok (.iconst 3, 1) := by decide +kernel
theorem dX9_init_62 : decode cX9_init 62 = .ok (.bipush 8, 2) := by decide +kernel
theorem dX9_init_64 : decode cX9_init 64 = .ok (.iconst 3, 1) := by decide +kernel
theorem dX9_init_65 : decode cX9_init 65 = .ok (.multianewarray 30 3, 4) := by decide +kernel
theorem dX9_init_69 : decode cX9_init 69 = .ok (.putfield 32, 3) := by decide +kernel
theorem dX9_init_72 : decode cX9_init 72 = .ok (.aload_n 0, 1) := by decide +kernel
theorem dX9_init_73 : decode cX9_init 73 = .ok (.iconst 3, 1) := by decide +kernel
theorem dX9_init_74 : decode cX9_init 74 = .ok (.iconst 3, 1) := by decide +kernel
theorem dX9_init_75 : decode cX9_init 75 = .ok (.multianewarray 35 2, 4) := by decide +kernel
theorem dX9_init_79 : decode cX9_init 79 = .ok (.putfield 37, 3) := by decide +kernel
theorem dX9_init_82 : decode cX9_init 82 = .ok (.aload_n 0, 1) := by decide +kernel
theorem dX9_init_83 : decode cX9_init 83 = .ok (.iconst 3, 1) := by decide +kernel
theorem dX9_init_84 : decode cX9_init 84 = .ok (.iconst 3, 1) := by decide +kernel
theorem dX9_init_85 : decode cX9_init 85 = .ok (.multianewarray 35 2, 4) := by decide +kernel
theorem dX9_init_89 : decode cX9_init 89 = .ok (.putfield 40, 3) := by decide +kernel
theorem dX9_init_92 : decode cX9_init 92 = .ok (.aload_n 0, 1) := by decide +kernel
theorem dX9_init_93 : decode cX9_init 93 = .ok (.iconst 3, 1) := by decide +kernel
theorem dX9_init_94 : decode cX9_init 94 = .ok (.iconst 3, 1) := by decide +kernel
theorem dX9_init_95 : decode cX9_init 95 = .ok (.multianewarray 35 2, 4) := by decide +kernel
theorem dX9_init_99 : decode cX9_init 99 = .ok (.putfield 43, 3) := by decide +kernel
theorem dX9_init_102 : decode cX9_init 102 = .ok (.aload_n 0, 1) := by decide +kernel
theorem dX9_init_103 : decode cX9_init 103 = .ok (.iconst 3, 1) := by decide +kernel
theorem dX9_init_104 : decode cX9_init 104 = .ok (.iconst 3, 1) := by decide +kernel
theorem dX9_init_105 : decode cX9_init 105 = .ok (.multianewarray 35 2, 4) := by decide +kernel
theorem dX9_init_109 : decode cX9_init 109 = .ok (.putfield 46, 3) := by decide +kernel
theorem dX9_init_112 : decode cX9_init 112 = .ok (.aload_n 0, 1) := by decide +kernel
theorem dX9_init_113 : decode cX9_init 113 = .ok (.iconst 3, 1) := by decide +kernel
theorem dX9_init_114 : decode cX9_init 114 = .ok (.iconst 3, 1) := by decide +kernel
theorem dX9_init_115 : decode cX9_init 115 = .ok (.multianewarray 35 2, 4) := by decide +kernel
theorem dX9_init_119 : decode cX9_init 119 = .ok (.putfield 49, 3) := by decide +kernel
theorem dX9_init_122 : decode cX9_init 122 = .ok (.aload_n 0, 1) := by decide +kernel
theorem dX9_init_123 : decode cX9_init 123 = .ok (.iconst 3, 1) := by decide +kernel
theorem dX9_init_124 : decode cX9_init 124 = .ok (.iconst 3, 1) := by decide +kernel
theorem dX9_init_125 : decode cX9_init 125 = .ok (.multianewarray 35 2, 4) := by decide +kernel
theorem dX9_init_129 : decode cX9_init 129 = .ok (.putfield 52, 3) := by decide +kernel
theorem dX9_init_132 : decode cX9_init 132 = .ok (.aload_n 0, 1) := by decide +kernel
theorem dX9_init_133 : decode cX9_init 133 = .ok (.iconst 3, 1) := by decide +kernel
theorem dX9_init_134 : decode cX9_init 134 = .ok (.iconst 3, 1) := by decide +kernel
theorem dX9_init_135 : decode cX9_init 135 = .ok (.multianewarray 35 2, 4) := by decide +kernel
theorem dX9_init_139 : decode cX9_init 139 = .ok (.putfield 55, 3) := by decide +kernel
theorem dX9_init_142 : decode cX9_init 142 = .ok (.aload_n 0, 1) := by decide +kernel
theorem dX9_init_143 : decode cX9_init 143 = .ok (.iconst 3, 1) := by decide +kernel
theorem dX9_init_144 : decode cX9_init 144 = .ok (.iconst 3, 1) := by decide +kernel
theorem dX9_init_145 : decode cX9_init 145 = .ok (.multianewarray 35 2, 4) := by decide +kernel
theorem dX9_init_149 : decode cX9_init 149 = .ok (.putfield 58, 3) := by decide +kernel
theorem dX9_init_152 : decode cX9_init 152 = .ok (.aload_n 0, 1) := by decide +kernel
theorem dX9_init_153 : decode cX9_init 153 = .ok (.iconst 3, 1) := by decide +kernel
theorem dX9_init_154 : decode cX9_init 154 = .ok (.iconst 3, 1) := by decide +kernel
theorem dX9_init_155 : decode cX9_init 155 = .ok (.multianewarray 35 2, 4) := by decide +kernel
theorem dX9_init_159 : decode cX9_init 159 = .ok (.putfield 61, 3) := by decide +kernel
theorem dX9_init_162 : decode cX9_init 162 = .ok (.aload_n 0, 1) := by decide +kernel
theorem dX9_init_163 : decode cX9_init 163 = .ok (.iconst 3, 1) := by decide +kernel
theorem dX9_init_164 : decode cX9_init 164 = .ok (.iconst 3, 1) := by decide +kernel
theorem dX9_init_165 : decode cX9_init 165 = .ok (.multianewarray 35 2, 4) := by decide +kernel
theorem dX9_init_169 : decode cX9_init 169 = .ok (.putfield 64, 3) := by decide +kernel
theorem dX9_init_172 : decode cX9_init 172 = .ok (.aload_n 0, 1) := by decide +kernel
theorem dX9_init_173 : decode cX9_init 173 = .ok (.iconst 3, 1) := by decide +kernel
theorem dX9_init_174 : decode cX9_init 174 = .ok (.iconst 3, 1) := by decide +kernel
theorem dX9_init_175 : decode cX9_init 175 = .ok (.iconst 4, 1) := by decide +kernel
theorem dX9_init_176 : decode cX9_init 176 = .ok (.iconst 3, 1) := by decide +kernel
theorem dX9_init_177 : decode cX9_init 177 = .ok (.multianewarray 67 4, 4) := by decide +kernel
theorem dX9_init_181 : decode cX9_init 181 = .ok (.putfield 69, 3) := by decide +kernel
theorem dX9_init_184 : decode cX9_init 184 = .ok (.aload_n 0, 1) := by decide +kernel
theorem dX9_init_185 : decode cX9_init 185 = .ok (.iconst 3, 1) := by decide +kernel
theorem dX9_init_186 : decode cX9_init 186 = .ok (.iconst 3, 1) := by decide +kernel
theorem dX9_init_187 : decode cX9_init 187 = .ok (.iconst 3, 1) := by decide +kernel
theorem dX9_init_188 : decode cX9_init 188 = .ok (.bipush 9, 2) := by decide +kernel
theorem dX9_init_190 : decode cX9_init 190 = .ok (.multianewarray 67 4, 4) := by decide +kernel
theorem dX9_init_194 : decode cX9_init 194 = .ok (.putfield 72, 3) := by decide +kernel
theorem dX9_init_197 : decode cX9_init 197 = .ok (.aload_n 0, 1) := by decide +kernel
theorem dX9_init_198 : decode cX9_init 198 = .ok (.iconst 3, 1) := by decide +kernel
theorem dX9_init_199 : decode cX9_init 199 = .ok (.iconst 3, 1) := by decide +kernel
theorem dX9_init_200 : decode cX9_init 200 = .ok (.iconst 3, 1) := by decide +kernel
theorem dX9_init_201 : decode cX9_init 201 = .ok (.bipush 40, 2) := by decide +kernel
theorem dX9_init_203 : decode cX9_init 203 = .ok (.multianewarray 75 4, 4) := by decide +kernel
theorem dX9_init_207 : decode cX9_init 207 = .ok (.putfield 77, 3) := by decide +kernel
theorem dX9_init_210 : decode cX9_init 210 = .ok (.aload_n 0, 1) := by decide +kernel
theorem dX9_init_211 : decode cX9_init 211 = .ok (.bipush 60, 2) := by decide +kernel
theorem dX9_init_213 : decode cX9_init 213 = .ok (.bipush 16, 2) := by decide +kernel
theorem dX9_init_215 : decode cX9_init 215 = .ok (.multianewarray 35 2, 4) := by decide +kernel
theorem dX9_init_219 : decode cX9_init 219 = .ok (.putfield 80, 3) := by decide +kernel
theorem dX9_init_222 : decode cX9_init 222 = .ok (.aload_n 0, 1) := by decide +kernel
theorem dX9_init_223 : decode cX9_init 223 = .ok (.iconst 0, 1) := by decide +kernel
theorem dX9_init_224 : decode cX9_init 224 = .ok (.iconst 5, 1) := by decide +kernel
theorem dX9_init_225 : decode cX9_init 225 = .ok (.multianewarray 35 2, 4) := by decide +kernel
theorem dX9_init_229 : decode cX9_init 229 = .ok (.putfield 83, 3) := by decide +kernel
theorem dX9_init_232 : decode cX9_init 232 = .ok (.iconst 0, 1) := by decide +kernel
theorem dX9_init_233 : decode cX9_init 233 = .ok (.istore_n 1, 1) := by decide +kernel
theorem dX9_init_234 : decode cX9_init 234 = .ok (.iload_n 1, 1) := by decide +kernel
theorem dX9_init_235 : decode cX9_init 235 = .ok (.iconst 3, 1) := by decide +kernel
theorem dX9_init_236 : decode cX9_init 236 = .ok (.if_icmp .ge 55, 3) := by decide +kernel
theorem dX9_init_239 : decode cX9_init 239 = .ok (.iconst 0, 1) := by decide +kernel
theorem dX9_init_240 : decode cX9_init 240 = .ok (.istore_n 2, 1) := by decide +kernel
theorem dX9_init_241 : decode cX9_init 241 = .ok (.iload_n 2, 1) := by decide +kernel
theorem dX9_init_242 : decode cX9_init 242 = .ok (.iconst 3, 1) := by decide +kernel
theorem dX9_init_243 : decode cX9_init 243 = .ok (.if_icmp .ge 42, 3) := by decide +kernel
theorem dX9_init_246 : decode cX9_init 246 = .ok (.aload_n 0, 1) := by decide +kernel
theorem dX9_init_247 : decode cX9_init 247 = .ok (.getfield 37, 3) := by decide +kernel
theorem dX9_init_250 : decode cX9_init 250 = .ok (.iload_n 1, 1) := by decide +kernel
theorem dX9_init_251 : decode cX9_init 251 = .ok (.aaload, 1) := by decide +kernel
theorem dX9_init_252 : decode cX9_init 252 = .ok (.iload_n 2, 1) := by decide +kernel
theorem dX9_init_253 : decode cX9_init 253 = .ok (.bipush 10, 2) := by decide +kernel
theorem dX9_init_255 : decode cX9_init 255 = .ok (.bipush 10, 2) := by decide +kernel
theorem dX9_init_257 : decode cX9_init 257 = .ok (.iload_n 2, 1) := by decide +kernel
theorem dX9_init_258 : decode cX9_init 258 = .ok (.imul, 1) := by decide +kernel
theorem dX9_init_259 : decode cX9_init 259 = .ok (.iadd, 1) := by decide +kernel
theorem dX9_init_260 : decode cX9_init 260 = .ok (.iastore, 1) := by decide +kernel
theorem dX9_init_261 : decode cX9_init 261 = .ok (.aload_n 0, 1) := by decide +kernel
theorem dX9_init_262 : decode cX9_init 262 = .ok (.getfield 58, 3) := by decide +kernel
theorem dX9_init_265 : decode cX9_init 265 = .ok (.iload_n 1, 1) := by decide +kernel
theorem dX9_init_266 : decode cX9_init 266 = .ok (.aaload, 1) := by decide +kernel
theorem dX9_init_267 : decode cX9_init 267 = .ok (.iload_n 2, 1) := by decide +kernel
theorem dX9_init_268 : decode cX9_init 268 = .ok (.iconst (-1), 1) := by decide +kernel
theorem dX9_init_269 : decode cX9_init 269 = .ok (.iastore, 1) := by decide +kernel
theorem dX9_init_270 : decode cX9_init 270 = .ok (.aload_n 0, 1) := by decide +kernel
theorem dX9_init_271 : decode cX9_init 271 = .ok (.getfield 46, 3) := by decide +kernel
theorem dX9_init_274 : decode cX9_init 274 = .ok (.iload_n 1, 1) := by decide +kernel
theorem dX9_init_275 : decode cX9_init 275 = .ok (.aaload, 1) := by decide +kernel
theorem dX9_init_276 : decode cX9_init 276 = .ok (.iload_n 2, 1) := by decide +kernel
theorem dX9_init_277 : decode cX9_init 277 = .ok (.iconst (-1), 1) := by decide +kernel
theorem dX9_init_278 : decode cX9_init 278 = .ok (.iastore, 1) := by decide +kernel
theorem dX9_init_279 : decode cX9_init 279 = .ok (.iinc 2 1, 3) := by decide +kernel
theorem dX9_init_282 : decode cX9_init 282 = .ok (.goto (-41), 3) := by decide +kernel
theorem dX9_init_285 : decode cX9_init 285 = .ok (.iinc 1 1, 3) := by decide +kernel
theorem dX9_init_288 : decode cX9_init 288 = .ok (.goto (-54), 3) := by decide +kernel
theorem dX9_init_291 : decode cX9_init 291 = .ok (.return_, 1) := by decide +kernel
theorem dX9_thrown_0 : decode cX9_thrown 0 = .ok (.aload_n 0, 1) := by decide +kernel
theorem dX9_thrown_1 : decode cX9_thrown 1 = .ok (.getfield 86, 3) := by decide +kernel
theorem dX9_thrown_4 : decode cX9_thrown 4 = .ok (.ireturn, 1) := by decide +kernel
theorem dX9_isWrong_0 : decode cX9_isWrong 0 = .ok (.aload_n 0, 1) := by decide +kernel
theorem dX9_isWrong_1 : decode cX9_isWrong 1 = .ok (.iload_n 1, 1) := by decide +kernel
theorem dX9_isWrong_2 : decode cX9_isWrong 2 = .ok (.putfield 86, 3) := by decide +kernel
theorem dX9_isWrong_5 : decode cX9_isWrong 5 = .ok (.iload_n 1, 1) := by decide +kernel
theorem dX9_isWrong_6 : decode cX9_isWrong 6 = .ok (.ifCond .eq 7, 3) := by decide +kernel
theorem dX9_isWrong_9 : decode cX9_isWrong 9 = .ok (.iconst 1, 1) := by decide +kernel
theorem dX9_isWrong_10 : decode cX9_isWrong 10 = .ok (.goto 4, 3) := by decide +kernel
theorem dX9_isWrong_13 : decode cX9_isWrong 13 = .ok (.iconst 0, 1) := by decide +kernel
theorem dX9_isWrong_14 : decode cX9_isWrong 14 = .ok (.ireturn, 1) := by decide +kernel
theorem dX9_isBetween_0 : decode cX9_isBetween 0 = .ok (.lload_n 0, 1) := by decide +kernel
theorem dX9_isBetween_1 : decode cX9_isBetween 1 = .ok (.lload_n 2, 1) := by decide +kernel
theorem dX9_isBetween_2 : decode cX9_isBetween 2 = .ok (.lcmp, 1) := by decide +kernel
theorem dX9_isBetween_3 : decode cX9_isBetween 3 = .ok (.ifCond .lt 14, 3) := by decide +kernel
theorem dX9_isBetween_6 : decode cX9_isBetween 6 = .ok (.lload_n 0, 1) := by decide +kernel
theorem dX9_isBetween_7 : decode cX9_isBetween 7 = .ok (.lload 4, 2) := by decide +kernel
theorem dX9_isBetween_9 : decode cX9_isBetween 9 = .ok (.lcmp, 1) := by decide +kernel
theorem dX9_isBetween_10 : decode cX9_isBetween 10 = .ok (.ifCond .gt 7, 3) := by decide +kernel
theorem dX9_isBetween_13 : decode cX9_isBetween 13 = .ok (.iconst 1, 1) := by decide +kernel
theorem dX9_isBetween_14 : decode cX9_isBetween 14 = .ok (.goto 4, 3) := by decide +kernel
theorem dX9_isBetween_17 : decode cX9_isBetween 17 = .ok (.iconst 0, 1) := by decide +kernel
theorem dX9_isBetween_18 : decode cX9_isBetween 18 = .ok (.ireturn, 1) := by decide +kernel
theorem dX9_isEnd_0 : decode cX9_isEnd 0 = .ok (.iload_n 0, 1) := by decide +kernel
theorem dX9_isEnd_1 : decode cX9_isEnd 1 = .ok (.i2l, 1) := by decide +kernel
theorem dX9_isEnd_2 : decode cX9_isEnd 2 = .ok (.lconst 0, 1) := by decide +kernel
theorem dX9_isEnd_3 : decode cX9_isEnd 3 = .ok (.ldc2_w 89, 3) := by decide +kernel
theorem dX9_isEnd_6 : decode cX9_isEnd 6 = .ok (.invokestatic 91, 3) := by decide +kernel
theorem dX9_isEnd_9 : decode cX9_isEnd 9 = .ok (.ireturn, 1) := by decide +kernel
theorem dX9_isLetter_0 : decode cX9_isLetter 0 = .ok (.iload_n 1, 1) := by decide +kernel
theorem dX9_isLetter_1 : decode cX9_isLetter 1 = .ok (.i2l, 1) := by decide +kernel
theorem dX9_isLetter_2 : decode cX9_isLetter 2 = .ok (.lconst 0, 1) := by decide +kernel
theorem dX9_isLetter_3 : decode cX9_isLetter 3 = .ok (.aload_n 0, 1) := by decide +kernel
theorem dX9_isLetter_4 : decode cX9_isLetter 4 = .ok (.getfield 95, 3) := by decide +kernel
theorem dX9_isLetter_7 : decode cX9_isLetter 7 = .ok (.iconst 1, 1) := by decide +kernel
theorem dX9_isLetter_8 : decode cX9_isLetter 8 = .ok (.isub, 1) := by decide +kernel
theorem dX9_isLetter_9 : decode cX9_isLetter 9 = .ok (.i2l, 1) := by decide +kernel
theorem dX9_isLetter_10 : decode cX9_isLetter 10 = .ok (.invokestatic 91, 3) := by decide +kernel
theorem dX9_isLetter_13 : decode cX9_isLetter 13 = .ok (.ireturn, 1) := by decide +kernel
theorem dX9_pair_0 : decode cX9_pair 0 = .ok (.iload_n 0, 1) := by decide +kernel
theorem dX9_pair_1 : decode cX9_pair 1 = .ok (.invokestatic 98, 3) := by decide +kernel
theorem dX9_pair_4 : decode cX9_pair 4 = .ok (.ifCond .eq 10, 3) := by decide +kernel
theorem dX9_pair_7 : decode cX9_pair 7 = .ok (.iload_n 1, 1) := by decide +kernel
theorem dX9_pair_8 : decode cX9_pair 8 = .ok (.invokestatic 98, 3) := by decide +kernel
theorem dX9_pair_11 : decode cX9_pair 11 = .ok (.ifCond .ne 7, 3) := by decide +kernel
theorem dX9_pair_14 : decode cX9_pair 14 = .ok (.iconst 1, 1) := by decide +kernel
theorem dX9_pair_15 : decode cX9_pair 15 = .ok (.goto 13, 3) := by decide +kernel
theorem dX9_pair_18 : decode cX9_pair 18 = .ok (.iload_n 0, 1) := by decide +kernel
theorem dX9_pair_19 : decode cX9_pair 19 = .ok (.iload_n 1, 1) := by decide +kernel
theorem dX9_pair_20 : decode cX9_pair 20 = .ok (.if_icmp .ne 7, 3) := by decide +kernel
theorem dX9_pair_23 : decode cX9_pair 23 = .ok (.iconst 2, 1) := by decide +kernel
theorem dX9_pair_24 : decode cX9_pair 24 = .ok (.goto 4, 3) := by decide +kernel
theorem dX9_pair_27 : decode cX9_pair 27 = .ok (.iconst 0, 1) := by decide +kernel
theorem dX9_pair_28 : decode cX9_pair 28 = .ok (.ireturn, 1) := by decide +kernel
theorem dX9_power_0 : decode cX9_power 0 = .ok (.lconst 1, 1) := by decide +kernel
theorem dX9_power_1 : decode cX9_power 1 = .ok (.lstore_n 2, 1) := by decide +kernel
theorem dX9_power_2 : decode cX9_power 2 = .ok (.iload_n 0, 1) := by decide +kernel
theorem dX9_power_3 : decode cX9_power 3 = .ok (.sipush 2039, 3) := by decide +kernel
theorem dX9_power_6 : decode cX9_power 6 = .ok (.irem, 1) := by decide +kernel
theorem dX9_power_7 : decode cX9_power 7 = .ok (.i2l, 1) := by decide +kernel
theorem dX9_power_8 : decode cX9_power 8 = .ok (.lstore 4, 2) := by decide +kernel
theorem dX9_power_10 : decode cX9_power 10 = .ok (.iload_n 1, 1) := by decide +kernel
theorem dX9_power_11 : decode cX9_power 11 = .ok (.istore 6, 2) := by decide +kernel
theorem dX9_power_13 : decode cX9_power 13 = .ok (.iload 6, 2) := by decide +kernel
theorem dX9_power_15 : decode cX9_power 15 = .ok (.ifCond .le 40, 3) := by decide +kernel
theorem dX9_power_18 : decode cX9_power 18 = .ok (.iload 6, 2) := by decide +kernel
theorem dX9_power_20 : decode cX9_power 20 = .ok (.iconst 1, 1) := by decide +kernel
theorem dX9_power_21 : decode cX9_power 21 = .ok (.iand, 1) := by decide +kernel
theorem dX9_power_22 : decode cX9_power 22 = .ok (.iconst 1, 1) := by decide +kernel
theorem dX9_power_23 : decode cX9_power 23 = .ok (.if_icmp .ne 12, 3) := by decide +kernel
theorem dX9_power_26 : decode cX9_power 26 = .ok (.lload_n 2, 1) := by decide +kernel
theorem dX9_power_27 : decode cX9_power 27 = .ok (.lload 4, 2) := by decide +kernel
theorem dX9_power_29 : decode cX9_power 29 = .ok (.lmul, 1) := by decide +kernel
theorem dX9_power_30 : decode cX9_power 30 = .ok (.ldc2_w 102, 3) := by decide +kernel
theorem dX9_power_33 : decode cX9_power 33 = .ok (.lrem, 1) := by decide +kernel
theorem dX9_power_34 : decode cX9_power 34 = .ok (.lstore_n 2, 1) := by decide +kernel
theorem dX9_power_35 : decode cX9_power 35 = .ok (.lload 4, 2) := by decide +kernel
theorem dX9_power_37 : decode cX9_power 37 = .ok (.lload 4, 2) := by decide +kernel
theorem dX9_power_39 : decode cX9_power 39 = .ok (.lmul, 1) := by decide +kernel
theorem dX9_power_40 : decode cX9_power 40 = .ok (.ldc2_w 102, 3) := by decide +kernel
theorem dX9_power_43 : decode cX9_power 43 = .ok (.lrem, 1) := by decide +kernel
theorem dX9_power_44 : decode cX9_power 44 = .ok (.lstore 4, 2) := by decide +kernel
theorem dX9_power_46 : decode cX9_power 46 = .ok (.iload 6, 2) := by decide +kernel
theorem dX9_power_48 : decode cX9_power 48 = .ok (.iconst 1, 1) := by decide +kernel
theorem dX9_power_49 : decode cX9_power 49 = .ok (.ishr, 1) := by decide +kernel
theorem dX9_power_50 : decode cX9_power 50 = .ok (.istore 6, 2) := by decide +kernel
theorem dX9_power_52 : decode cX9_power 52 = .ok (.goto (-39), 3) := by decide +kernel
theorem dX9_power_55 : decode cX9_power 55 = .ok (.lload_n 2, 1) := by decide +kernel
theorem dX9_power_56 : decode cX9_power 56 = .ok (.l2i, 1) := by decide +kernel
theorem dX9_power_57 : decode cX9_power 57 = .ok (.ireturn, 1) := by decide +kernel
theorem dX9_open_0 : decode cX9_open 0 = .ok (.bipush 7, 2) := by decide +kernel
theorem dX9_open_2 : decode cX9_open 2 = .ok (.iload_n 0, 1) := by decide +kernel
theorem dX9_open_3 : decode cX9_open 3 = .ok (.invokestatic 104, 3) := by decide +kernel
theorem dX9_open_6 : decode cX9_open 6 = .ok (.ireturn, 1) := by decide +kernel
theorem dX9_both_0 : decode cX9_both 0 = .ok (.iload_n 1, 1) := by decide +kernel
theorem dX9_both_1 : decode cX9_both 1 = .ok (.iload_n 0, 1) := by decide +kernel
theorem dX9_both_2 : decode cX9_both 2 = .ok (.invokestatic 104, 3) := by decide +kernel
theorem dX9_both_5 : decode cX9_both 5 = .ok (.ireturn, 1) := by decide +kernel
theorem dX9_mix_0 : decode cX9_mix 0 = .ok (.ldc2_w 108, 3) := by decide +kernel
theorem dX9_mix_3 : decode cX9_mix 3 = .ok (.lstore_n 1, 1) := by decide +kernel
theorem dX9_mix_4 : decode cX9_mix 4 = .ok (.aload_n 0, 1) := by decide +kernel
theorem dX9_mix_5 : decode cX9_mix 5 = .ok (.astore_n 3, 1) := by decide +kernel
theorem dX9_mix_6 : decode cX9_mix 6 = .ok (.aload_n 3, 1) := by decide +kernel
theorem dX9_mix_7 : decode cX9_mix 7 = .ok (.arraylength, 1) := by decide +kernel
theorem dX9_mix_8 : decode cX9_mix 8 = .ok (.istore 4, 2) := by decide +kernel
theorem dX9_mix_10 : decode cX9_mix 10 = .ok (.iconst 0, 1) := by decide +kernel
theorem dX9_mix_11 : decode cX9_mix 11 = .ok (.istore 5, 2) := by decide +kernel
theorem dX9_mix_13 : decode cX9_mix 13 = .ok (.iload 5, 2) := by decide +kernel
theorem dX9_mix_15 : decode cX9_mix 15 = .ok (.iload 4, 2) := by decide +kernel
theorem dX9_mix_17 : decode cX9_mix 17 = .ok (.if_icmp .ge 32, 3) := by decide +kernel
theorem dX9_mix_20 : decode cX9_mix 20 = .ok (.aload_n 3, 1) := by decide +kernel
theorem dX9_mix_21 : decode cX9_mix 21 = .ok (.iload 5, 2) := by decide +kernel
theorem dX9_mix_23 : decode cX9_mix 23 = .ok (.iaload, 1) := by decide +kernel
theorem dX9_mix_24 : decode cX9_mix 24 = .ok (.istore 6, 2) := by decide +kernel
theorem dX9_mix_26 : decode cX9_mix 26 = .ok (.ldc2_w 110, 3) := by decide +kernel
theorem dX9_mix_29 : decode cX9_mix 29 = .ok (.lload_n 1, 1) := by decide +kernel
theorem dX9_mix_30 : decode cX9_mix 30 = .ok (.lmul, 1) := by decide +kernel
theorem dX9_mix_31 : decode cX9_mix 31 = .ok (.iload 6, 2) := by decide +kernel
theorem dX9_mix_33 : decode cX9_mix 33 = .ok (.i2l, 1) := by decide +kernel
theorem dX9_mix_34 : decode cX9_mix 34 = .ok (.ladd, 1) := by decide +kernel
theorem dX9_mix_35 : decode cX9_mix 35 = .ok (.ldc2_w 89, 3) := by decide +kernel
theorem dX9_mix_38 : decode cX9_mix 38 = .ok (.ladd, 1) := by decide +kernel
theorem dX9_mix_39 : decode cX9_mix 39 = .ok (.invokestatic 112, 3) := by decide +kernel
theorem dX9_mix_42 : decode cX9_mix 42 = .ok (.lstore_n 1, 1) := by decide +kernel
theorem dX9_mix_43 : decode cX9_mix 43 = .ok (.iinc 5 1, 3) := by decide +kernel
theorem dX9_mix_46 : decode cX9_mix 46 = .ok (.goto (-33), 3) := by decide +kernel
theorem dX9_mix_49 : decode cX9_mix 49 = .ok (.lload_n 1, 1) := by decide +kernel
theorem dX9_mix_50 : decode cX9_mix 50 = .ok (.lconst 0, 1) := by decide +kernel
theorem dX9_mix_51 : decode cX9_mix 51 = .ok (.lcmp, 1) := by decide +kernel
theorem dX9_mix_52 : decode cX9_mix 52 = .ok (.ifCond .ne 7, 3) := by decide +kernel
theorem dX9_mix_55 : decode cX9_mix 55 = .ok (.iconst 1, 1) := by decide +kernel
theorem dX9_mix_56 : decode cX9_mix 56 = .ok (.goto 5, 3) := by decide +kernel
theorem dX9_mix_59 : decode cX9_mix 59 = .ok (.lload_n 1, 1) := by decide +kernel
theorem dX9_mix_60 : decode cX9_mix 60 = .ok (.l2i, 1) := by decide +kernel
theorem dX9_mix_61 : decode cX9_mix 61 = .ok (.ireturn, 1) := by decide +kernel
theorem dX9_rest_0 : decode cX9_rest 0 = .ok (.lload_n 0, 1) := by decide +kernel
theorem dX9_rest_1 : decode cX9_rest 1 = .ok (.ldc2_w 116, 3) := by decide +kernel
theorem dX9_rest_4 : decode cX9_rest 4 = .ok (.lrem, 1) := by decide +kernel
theorem dX9_rest_5 : decode cX9_rest 5 = .ok (.ldc2_w 116, 3) := by decide +kernel
theorem dX9_rest_8 : decode cX9_rest 8 = .ok (.ladd, 1) := by decide +kernel
theorem dX9_rest_9 : decode cX9_rest 9 = .ok (.ldc2_w 116, 3) := by decide +kernel
theorem dX9_rest_12 : decode cX9_rest 12 = .ok (.lrem, 1) := by decide +kernel
theorem dX9_rest_13 : decode cX9_rest 13 = .ok (.lreturn, 1) := by decide +kernel
theorem dX9_sealOf_0 : decode cX9_sealOf 0 = .ok (.lconst 0, 1) := by decide +kernel
theorem dX9_sealOf_1 : decode cX9_sealOf 1 = .ok (.lstore_n 2, 1) := by decide +kernel
theorem dX9_sealOf_2 : decode cX9_sealOf 2 = .ok (.lconst 1, 1) := by decide +kernel
theorem dX9_sealOf_3 : decode cX9_sealOf 3 = .ok (.lstore 4, 2) := by decide +kernel
theorem dX9_sealOf_5 : decode cX9_sealOf 5 = .ok (.aload_n 1, 1) := by decide +kernel
theorem dX9_sealOf_6 : decode cX9_sealOf 6 = .ok (.astore 6, 2) := by decide +kernel
theorem dX9_sealOf_8 : decode cX9_sealOf 8 = .ok (.aload 6, 2) := by decide +kernel
theorem dX9_sealOf_10 : decode cX9_sealOf 10 = .ok (.arraylength, 1) := by decide +kernel
theorem dX9_sealOf_11 : decode cX9_sealOf 11 = .ok (.istore 7, 2) := by decide +kernel
theorem dX9_sealOf_13 : decode cX9_sealOf 13 = .ok (.iconst 0, 1) := by decide +kernel
theorem dX9_sealOf_14 : decode cX9_sealOf 14 = .ok (.istore 8, 2) := by decide +kernel
theorem dX9_sealOf_16 : decode cX9_sealOf 16 = .ok (.iload 8, 2) := by decide +kernel
theorem dX9_sealOf_18 : decode cX9_sealOf 18 = .ok (.iload 7, 2) := by decide +kernel
theorem dX9_sealOf_20 : decode cX9_sealOf 20 = .ok (.if_icmp .ge 45, 3) := by decide +kernel
theorem dX9_sealOf_23 : decode cX9_sealOf 23 = .ok (.aload 6, 2) := by decide +kernel
theorem dX9_sealOf_25 : decode cX9_sealOf 25 = .ok (.iload 8, 2) := by decide +kernel
theorem dX9_sealOf_27 : decode cX9_sealOf 27 = .ok (.iaload, 1) := by decide +kernel
theorem dX9_sealOf_28 : decode cX9_sealOf 28 = .ok (.istore 9, 2) := by decide +kernel
theorem dX9_sealOf_30 : decode cX9_sealOf 30 = .ok (.lload 4, 2) := by decide +kernel
theorem dX9_sealOf_32 : decode cX9_sealOf 32 = .ok (.iload_n 0, 1) := by decide +kernel
theorem dX9_sealOf_33 : decode cX9_sealOf 33 = .ok (.i2l, 1) := by decide +kernel
theorem dX9_sealOf_34 : decode cX9_sealOf 34 = .ok (.lmul, 1) := by decide +kernel
theorem dX9_sealOf_35 : decode cX9_sealOf 35 = .ok (.invokestatic 112, 3) := by decide +kernel
theorem dX9_sealOf_38 : decode cX9_sealOf 38 = .ok (.lstore 4, 2) := by decide +kernel
theorem dX9_sealOf_40 : decode cX9_sealOf 40 = .ok (.lload_n 2, 1) := by decide +kernel
theorem dX9_sealOf_41 : decode cX9_sealOf 41 = .ok (.lload 4, 2) := by decide +kernel
theorem dX9_sealOf_43 : decode cX9_sealOf 43 = .ok (.iload 9, 2) := by decide +kernel
theorem dX9_sealOf_45 : decode cX9_sealOf 45 = .ok (.i2l, 1) := by decide +kernel
theorem dX9_sealOf_46 : decode cX9_sealOf 46 = .ok (.ldc2_w 89, 3) := by decide +kernel
theorem dX9_sealOf_49 : decode cX9_sealOf 49 = .ok (.ladd, 1) := by decide +kernel
theorem dX9_sealOf_50 : decode cX9_sealOf 50 = .ok (.invokestatic 112, 3) := by decide +kernel
theorem dX9_sealOf_53 : decode cX9_sealOf 53 = .ok (.lmul, 1) := by decide +kernel
theorem dX9_sealOf_54 : decode cX9_sealOf 54 = .ok (.ladd, 1) := by decide +kernel
theorem dX9_sealOf_55 : decode cX9_sealOf 55 = .ok (.invokestatic 112, 3) := by decide +kernel
theorem dX9_sealOf_58 : decode cX9_sealOf 58 = .ok (.lstore_n 2, 1) := by decide +kernel
theorem dX9_sealOf_59 : decode cX9_sealOf 59 = .ok (.iinc 8 1, 3) := by decide +kernel
theorem dX9_sealOf_62 : decode cX9_sealOf 62 = .ok (.goto (-46), 3) := by decide +kernel
theorem dX9_sealOf_65 : decode cX9_sealOf 65 = .ok (.lload_n 2, 1) := by decide +kernel
theorem dX9_sealOf_66 : decode cX9_sealOf 66 = .ok (.l2i, 1) := by decide +kernel
theorem dX9_sealOf_67 : decode cX9_sealOf 67 = .ok (.ireturn, 1) := by decide +kernel
theorem dX9_secretOf_0 : decode cX9_secretOf 0 = .ok (.sipush 211, 3) := by decide +kernel
theorem dX9_secretOf_3 : decode cX9_secretOf 3 = .ok (.sipush 307, 3) := by decide +kernel
theorem dX9_secretOf_6 : decode cX9_secretOf 6 = .ok (.iload_n 0, 1) := by decide +kernel
theorem dX9_secretOf_7 : decode cX9_secretOf 7 = .ok (.imul, 1) := by decide +kernel
theorem dX9_secretOf_8 : decode cX9_secretOf 8 = .ok (.iadd, 1) := by decide +kernel
theorem dX9_secretOf_9 : decode cX9_secretOf 9 = .ok (.ireturn, 1) := by decide +kernel
theorem dX9_nameOf_0 : decode cX9_nameOf 0 = .ok (.iload_n 0, 1) := by decide +kernel
theorem dX9_nameOf_1 : decode cX9_nameOf 1 = .ok (.invokestatic 118, 3) := by decide +kernel
theorem dX9_nameOf_4 : decode cX9_nameOf 4 = .ok (.invokestatic 122, 3) := by decide +kernel
theorem dX9_nameOf_7 : decode cX9_nameOf 7 = .ok (.ireturn, 1) := by decide +kernel
theorem dX9_fresh_0 : decode cX9_fresh 0 = .ok (.iconst 1, 1) := by decide +kernel
theorem dX9_fresh_1 : decode cX9_fresh 1 = .ok (.ldc2_w 125, 3) := by decide +kernel
theorem dX9_fresh_4 : decode cX9_fresh 4 = .ok (.iload_n 0, 1) := by decide +kernel
theorem dX9_fresh_5 : decode cX9_fresh 5 = .ok (.i2l, 1) := by decide +kernel
theorem dX9_fresh_6 : decode cX9_fresh 6 = .ok (.lmul, 1) := by decide +kernel
theorem dX9_fresh_7 : decode cX9_fresh 7 = .ok (.ldc2_w 127, 3) := by decide +kernel
theorem dX9_fresh_10 : decode cX9_fresh 10 = .ok (.lrem, 1) := by decide +kernel
theorem dX9_fresh_11 : decode cX9_fresh 11 = .ok (.l2i, 1) := by decide +kernel
theorem dX9_fresh_12 : decode cX9_fresh 12 = .ok (.iadd, 1) := by decide +kernel
theorem dX9_fresh_13 : decode cX9_fresh 13 = .ok (.ireturn, 1) := by decide +kernel
theorem dX9_put_0 : decode cX9_put 0 = .ok (.aload_n 0, 1) := by decide +kernel
theorem dX9_put_1 : decode cX9_put 1 = .ok (.getfield 95, 3) := by decide +kernel
theorem dX9_put_4 : decode cX9_put 4 = .ok (.bipush 60, 2) := by decide +kernel
theorem dX9_put_6 : decode cX9_put 6 = .ok (.if_icmp .ne 4, 3) := by decide +kernel
theorem dX9_put_9 : decode cX9_put 9 = .ok (.return_, 1) := by decide +kernel
theorem dX9_put_10 : decode cX9_put 10 = .ok (.bipush 16, 2) := by decide +kernel
theorem dX9_put_12 : decode cX9_put 12 = .ok (.newarray .int, 2) := by decide +kernel
theorem dX9_put_14 : decode cX9_put 14 = .ok (.astore 5, 2) := by decide +kernel
theorem dX9_put_16 : decode cX9_put 16 = .ok (.aload 5, 2) := by decide +kernel
theorem dX9_put_18 : decode cX9_put 18 = .ok (.iconst 0, 1) := by decide +kernel
theorem dX9_put_19 : decode cX9_put 19 = .ok (.iload_n 1, 1) := by decide +kernel
theorem dX9_put_20 : decode cX9_put 20 = .ok (.iastore, 1) := by decide +kernel
theorem dX9_put_21 : decode cX9_put 21 = .ok (.aload 5, 2) := by decide +kernel
theorem dX9_put_23 : decode cX9_put 23 = .ok (.iconst 1, 1) := by decide +kernel
theorem dX9_put_24 : decode cX9_put 24 = .ok (.iload_n 2, 1) := by decide +kernel
theorem dX9_put_25 : decode cX9_put 25 = .ok (.iastore, 1) := by decide +kernel
theorem dX9_put_26 : decode cX9_put 26 = .ok (.aload 5, 2) := by decide +kernel
theorem dX9_put_28 : decode cX9_put 28 = .ok (.iconst 2, 1) := by decide +kernel
theorem dX9_put_29 : decode cX9_put 29 = .ok (.iload_n 3, 1) := by decide +kernel
theorem dX9_put_30 : decode cX9_put 30 = .ok (.iastore, 1) := by decide +kernel
theorem dX9_put_31 : decode cX9_put 31 = .ok (.iconst 0, 1) := by decide +kernel
theorem dX9_put_32 : decode cX9_put 32 = .ok (.istore 6, 2) := by decide +kernel
theorem dX9_put_34 : decode cX9_put 34 = .ok (.iload 6, 2) := by decide +kernel
theorem dX9_put_36 : decode cX9_put 36 = .ok (.aload 4, 2) := by decide +kernel
theorem dX9_put_38 : decode cX9_put 38 = .ok (.arraylength, 1) := by decide +kernel
theorem dX9_put_39 : decode cX9_put 39 = .ok (.if_icmp .ge 34, 3) := by decide +kernel
theorem dX9_put_42 : decode cX9_put 42 = .ok (.aload 5, 2) := by decide +kernel
theorem dX9_put_44 : decode cX9_put 44 = .ok (.iconst 3, 1) := by decide +kernel
theorem dX9_put_45 : decode cX9_put 45 = .ok (.iload 6, 2) := by decide +kernel
theorem dX9_put_47 : decode cX9_put 47 = .ok (.iadd, 1) := by decide +kernel
theorem dX9_put_48 : decode cX9_put 48 = .ok (.aload 4, 2) := by decide +kernel
theorem dX9_put_50 : decode cX9_put 50 = .ok (.iload 6, 2) := by decide +kernel
theorem dX9_put_52 : decode cX9_put 52 = .ok (.iaload, 1) := by decide +kernel
theorem dX9_put_53 : decode cX9_put 53 = .ok (.iastore, 1) := by decide +kernel
theorem dX9_put_54 : decode cX9_put 54 = .ok (.aload 5, 2) := by decide +kernel
theorem dX9_put_56 : decode cX9_put 56 = .ok (.bipush 9, 2) := by decide +kernel
theorem dX9_put_58 : decode cX9_put 58 = .ok (.iload 6, 2) := by decide +kernel
theorem dX9_put_60 : decode cX9_put 60 = .ok (.iadd, 1) := by decide +kernel
theorem dX9_put_61 : decode cX9_put 61 = .ok (.aload 4, 2) := by decide +kernel
theorem dX9_put_63 : decode cX9_put 63 = .ok (.iload 6, 2) := by decide +kernel
theorem dX9_put_65 : decode cX9_put 65 = .ok (.iaload, 1) := by decide +kernel
theorem dX9_put_66 : decode cX9_put 66 = .ok (.iastore, 1) := by decide +kernel
theorem dX9_put_67 : decode cX9_put 67 = .ok (.iinc 6 1, 3) := by decide +kernel
theorem dX9_put_70 : decode cX9_put 70 = .ok (.goto (-36), 3) := by decide +kernel
theorem dX9_put_73 : decode cX9_put 73 = .ok (.aload 5, 2) := by decide +kernel
theorem dX9_put_75 : decode cX9_put 75 = .ok (.bipush 15, 2) := by decide +kernel
theorem dX9_put_77 : decode cX9_put 77 = .ok (.iconst (-1), 1) := by decide +kernel
theorem dX9_put_78 : decode cX9_put 78 = .ok (.iastore, 1) := by decide +kernel
theorem dX9_put_79 : decode cX9_put 79 = .ok (.aload_n 0, 1) := by decide +kernel
theorem dX9_put_80 : decode cX9_put 80 = .ok (.getfield 80, 3) := by decide +kernel
theorem dX9_put_83 : decode cX9_put 83 = .ok (.aload_n 0, 1) := by decide +kernel
theorem dX9_put_84 : decode cX9_put 84 = .ok (.getfield 95, 3) := by decide +kernel
theorem dX9_put_87 : decode cX9_put 87 = .ok (.aload 5, 2) := by decide +kernel
theorem dX9_put_89 : decode cX9_put 89 = .ok (.aastore, 1) := by decide +kernel
theorem dX9_put_90 : decode cX9_put 90 = .ok (.aload_n 0, 1) := by decide +kernel
theorem dX9_put_91 : decode cX9_put 91 = .ok (.dup, 1) := by decide +kernel
theorem dX9_put_92 : decode cX9_put 92 = .ok (.getfield 95, 3) := by decide +kernel
theorem dX9_put_95 : decode cX9_put 95 = .ok (.iconst 1, 1) := by decide +kernel
theorem dX9_put_96 : decode cX9_put 96 = .ok (.iadd, 1) := by decide +kernel
theorem dX9_put_97 : decode cX9_put 97 = .ok (.putfield 95, 3) := by decide +kernel
theorem dX9_put_100 : decode cX9_put 100 = .ok (.return_, 1) := by decide +kernel
theorem dX9_take_0 : decode cX9_take 0 = .ok (.iload_n 1, 1) := by decide +kernel
theorem dX9_take_1 : decode cX9_take 1 = .ok (.istore_n 2, 1) := by decide +kernel
theorem dX9_take_2 : decode cX9_take 2 = .ok (.iload_n 2, 1) := by decide +kernel
theorem dX9_take_3 : decode cX9_take 3 = .ok (.aload_n 0, 1) := by decide +kernel
theorem dX9_take_4 : decode cX9_take 4 = .ok (.getfield 95, 3) := by decide +kernel
theorem dX9_take_7 : decode cX9_take 7 = .ok (.iconst 1, 1) := by decide +kernel
theorem dX9_take_8 : decode cX9_take 8 = .ok (.isub, 1) := by decide +kernel
theorem dX9_take_9 : decode cX9_take 9 = .ok (.if_icmp .ge 23, 3) := by decide +kernel
theorem dX9_take_12 : decode cX9_take 12 = .ok (.aload_n 0, 1) := by decide +kernel
theorem dX9_take_13 : decode cX9_take 13 = .ok (.getfield 80, 3) := by decide +kernel
theorem dX9_take_16 : decode cX9_take 16 = .ok (.iload_n 2, 1) := by decide +kernel
theorem dX9_take_17 : decode cX9_take 17 = .ok (.aload_n 0, 1) := by decide +kernel
theorem dX9_take_18 : decode cX9_take 18 = .ok (.getfield 80, 3) := by decide +kernel
theorem dX9_take_21 : decode cX9_take 21 = .ok (.iload_n 2, 1) := by decide +kernel
theorem dX9_take_22 : decode cX9_take 22 = .ok (.iconst 1, 1) := by decide +kernel
theorem dX9_take_23 : decode cX9_take 23 = .ok (.iadd, 1) := by decide +kernel
theorem dX9_take_24 : decode cX9_take 24 = .ok (.aaload, 1) := by decide +kernel
theorem dX9_take_25 : decode cX9_take 25 = .ok (.aastore, 1) := by decide +kernel
theorem dX9_take_26 : decode cX9_take 26 = .ok (.iinc 2 1, 3) := by decide +kernel
theorem dX9_take_29 : decode cX9_take 29 = .ok (.goto (-27), 3) := by decide +kernel
theorem dX9_take_32 : decode cX9_take 32 = .ok (.aload_n 0, 1) := by decide +kernel
theorem dX9_take_33 : decode cX9_take 33 = .ok (.dup, 1) := by decide +kernel
theorem dX9_take_34 : decode cX9_take 34 = .ok (.getfield 95, 3) := by decide +kernel
theorem dX9_take_37 : decode cX9_take 37 = .ok (.iconst 1, 1) := by decide +kernel
theorem dX9_take_38 : decode cX9_take 38 = .ok (.isub, 1) := by decide +kernel
theorem dX9_take_39 : decode cX9_take 39 = .ok (.putfield 95, 3) := by decide +kernel
theorem dX9_take_42 : decode cX9_take 42 = .ok (.return_, 1) := by decide +kernel
theorem dX9_wasTurned_0 : decode cX9_wasTurned 0 = .ok (.aload_n 1, 1) := by decide +kernel
theorem dX9_wasTurned_1 : decode cX9_wasTurned 1 = .ok (.bipush 15, 2) := by decide +kernel
theorem dX9_wasTurned_3 : decode cX9_wasTurned 3 = .ok (.iaload, 1) := by decide +kernel
theorem dX9_wasTurned_4 : decode cX9_wasTurned 4 = .ok (.iconst (-1), 1) := by decide +kernel
theorem dX9_wasTurned_5 : decode cX9_wasTurned 5 = .ok (.if_icmp .eq 27, 3) := by decide +kernel
theorem dX9_wasTurned_8 : decode cX9_wasTurned 8 = .ok (.aload_n 1, 1) := by decide +kernel
theorem dX9_wasTurned_9 : decode cX9_wasTurned 9 = .ok (.iconst 3, 1) := by decide +kernel
theorem dX9_wasTurned_10 : decode cX9_wasTurned 10 = .ok (.aload_n 1, 1) := by decide +kernel
theorem dX9_wasTurned_11 : decode cX9_wasTurned 11 = .ok (.bipush 15, 2) := by decide +kernel
theorem dX9_wasTurned_13 : decode cX9_wasTurned 13 = .ok (.iaload, 1) := by decide +kernel
theorem dX9_wasTurned_14 : decode cX9_wasTurned 14 = .ok (.iadd, 1) := by decide +kernel
theorem dX9_wasTurned_15 : decode cX9_wasTurned 15 = .ok (.iaload, 1) := by decide +kernel
theorem dX9_wasTurned_16 : decode cX9_wasTurned 16 = .ok (.aload_n 1, 1) := by decide +kernel
theorem dX9_wasTurned_17 : decode cX9_wasTurned 17 = .ok (.bipush 9, 2) := by decide +kernel
theorem dX9_wasTurned_19 : decode cX9_wasTurned 19 = .ok (.aload_n 1, 1) := by decide +kernel
theorem dX9_wasTurned_20 : decode cX9_wasTurned 20 = .ok (.bipush 15, 2) := by decide +kernel
theorem dX9_wasTurned_22 : decode cX9_wasTurned 22 = .ok (.iaload, 1) := by decide +kernel
theorem dX9_wasTurned_23 : decode cX9_wasTurned 23 = .ok (.iadd, 1) := by decide +kernel
theorem dX9_wasTurned_24 : decode cX9_wasTurned 24 = .ok (.iaload, 1) := by decide +kernel
theorem dX9_wasTurned_25 : decode cX9_wasTurned 25 = .ok (.if_icmp .eq 7, 3) := by decide +kernel
theorem dX9_wasTurned_28 : decode cX9_wasTurned 28 = .ok (.iconst 1, 1) := by decide +kernel
theorem dX9_wasTurned_29 : decode cX9_wasTurned 29 = .ok (.goto 4, 3) := by decide +kernel
theorem dX9_wasTurned_32 : decode cX9_wasTurned 32 = .ok (.iconst 0, 1) := by decide +kernel
theorem dX9_wasTurned_33 : decode cX9_wasTurned 33 = .ok (.ireturn, 1) := by decide +kernel
theorem dX9_isFresh_0 : decode cX9_isFresh 0 = .ok (.aload_n 0, 1) := by decide +kernel
theorem dX9_isFresh_1 : decode cX9_isFresh 1 = .ok (.getfield 46, 3) := by decide +kernel
theorem dX9_isFresh_4 : decode cX9_isFresh 4 = .ok (.iload_n 1, 1) := by decide +kernel
theorem dX9_isFresh_5 : decode cX9_isFresh 5 = .ok (.aaload, 1) := by decide +kernel
theorem dX9_isFresh_6 : decode cX9_isFresh 6 = .ok (.iload_n 2, 1) := by decide +kernel
theorem dX9_isFresh_7 : decode cX9_isFresh 7 = .ok (.iaload, 1) := by decide +kernel
theorem dX9_isFresh_8 : decode cX9_isFresh 8 = .ok (.iconst (-1), 1) := by decide +kernel
theorem dX9_isFresh_9 : decode cX9_isFresh 9 = .ok (.if_icmp .eq 24, 3) := by decide +kernel
theorem dX9_isFresh_12 : decode cX9_isFresh 12 = .ok (.aload_n 0, 1) := by decide +kernel
theorem dX9_isFresh_13 : decode cX9_isFresh 13 = .ok (.getfield 129, 3) := by decide +kernel
theorem dX9_isFresh_16 : decode cX9_isFresh 16 = .ok (.aload_n 0, 1) := by decide +kernel
theorem dX9_isFresh_17 : decode cX9_isFresh 17 = .ok (.getfield 55, 3) := by decide +kernel
theorem dX9_isFresh_20 : decode cX9_isFresh 20 = .ok (.iload_n 1, 1) := by decide +kernel
theorem dX9_isFresh_21 : decode cX9_isFresh 21 = .ok (.aaload, 1) := by decide +kernel
theorem dX9_isFresh_22 : decode cX9_isFresh 22 = .ok (.iload_n 2, 1) := by decide +kernel
theorem dX9_isFresh_23 : decode cX9_isFresh 23 = .ok (.iaload, 1) := by decide +kernel
theorem dX9_isFresh_24 : decode cX9_isFresh 24 = .ok (.isub, 1) := by decide +kernel
theorem dX9_isFresh_25 : decode cX9_isFresh 25 = .ok (.iconst 5, 1) := by decide +kernel
theorem dX9_isFresh_26 : decode cX9_isFresh 26 = .ok (.if_icmp .ge 7, 3) := by decide +kernel
theorem dX9_isFresh_29 : decode cX9_isFresh 29 = .ok (.iconst 1, 1) := by decide +kernel
theorem dX9_isFresh_30 : decode cX9_isFresh 30 = .ok (.goto 4, 3) := by decide +kernel
theorem dX9_isFresh_33 : decode cX9_isFresh 33 = .ok (.iconst 0, 1) := by decide +kernel
theorem dX9_isFresh_34 : decode cX9_isFresh 34 = .ok (.ireturn, 1) := by decide +kernel
theorem dX9_keyOf_0 : decode cX9_keyOf 0 = .ok (.iconst 3, 1) := by decide +kernel
theorem dX9_keyOf_1 : decode cX9_keyOf 1 = .ok (.newarray .int, 2) := by decide +kernel
theorem dX9_keyOf_3 : decode cX9_keyOf 3 = .ok (.dup, 1) := by decide +kernel
theorem dX9_keyOf_4 : decode cX9_keyOf 4 = .ok (.iconst 0, 1) := by decide +kernel
theorem dX9_keyOf_5 : decode cX9_keyOf 5 = .ok (.iconst 1, 1) := by decide +kernel
theorem dX9_keyOf_6 : decode cX9_keyOf 6 = .ok (.iastore, 1) := by decide +kernel
theorem dX9_keyOf_7 : decode cX9_keyOf 7 = .ok (.dup, 1) := by decide +kernel
theorem dX9_keyOf_8 : decode cX9_keyOf 8 = .ok (.iconst 1, 1) := by decide +kernel
theorem dX9_keyOf_9 : decode cX9_keyOf 9 = .ok (.iload_n 3, 1) := by decide +kernel
theorem dX9_keyOf_10 : decode cX9_keyOf 10 = .ok (.iload_n 2, 1) := by decide +kernel
theorem dX9_keyOf_11 : decode cX9_keyOf 11 = .ok (.invokestatic 132, 3) := by decide +kernel
theorem dX9_keyOf_14 : decode cX9_keyOf 14 = .ok (.invokestatic 135, 3) := by decide +kernel
theorem dX9_keyOf_17 : decode cX9_keyOf 17 = .ok (.iastore, 1) := by decide +kernel
theorem dX9_keyOf_18 : decode cX9_keyOf 18 = .ok (.dup, 1) := by decide +kernel
theorem dX9_keyOf_19 : decode cX9_keyOf 19 = .ok (.iconst 2, 1) := by decide +kernel
theorem dX9_keyOf_20 : decode cX9_keyOf 20 = .ok (.iload_n 1, 1) := by decide +kernel
theorem dX9_keyOf_21 : decode cX9_keyOf 21 = .ok (.invokestatic 118, 3) := by decide +kernel
theorem dX9_keyOf_24 : decode cX9_keyOf 24 = .ok (.iload_n 2, 1) := by decide +kernel
theorem dX9_keyOf_25 : decode cX9_keyOf 25 = .ok (.invokestatic 132, 3) := by decide +kernel
theorem dX9_keyOf_28 : decode cX9_keyOf 28 = .ok (.invokestatic 135, 3) := by decide +kernel
theorem dX9_keyOf_31 : decode cX9_keyOf 31 = .ok (.iastore, 1) := by decide +kernel
theorem dX9_keyOf_32 : decode cX9_keyOf 32 = .ok (.invokestatic 138, 3) := by decide +kernel
theorem dX9_keyOf_35 : decode cX9_keyOf 35 = .ok (.ireturn, 1) := by decide +kernel
theorem dX9_hasCookie_0 : decode cX9_hasCookie 0 = .ok (.aload_n 0, 1) := by decide +kernel
theorem dX9_hasCookie_1 : decode cX9_hasCookie 1 = .ok (.getfield 58, 3) := by decide +kernel
theorem dX9_hasCookie_4 : decode cX9_hasCookie 4 = .ok (.iload_n 1, 1) := by decide +kernel
theorem dX9_hasCookie_5 : decode cX9_hasCookie 5 = .ok (.aaload, 1) := by decide +kernel
theorem dX9_hasCookie_6 : decode cX9_hasCookie 6 = .ok (.iload_n 2, 1) := by decide +kernel
theorem dX9_hasCookie_7 : decode cX9_hasCookie 7 = .ok (.iaload, 1) := by decide +kernel
theorem dX9_hasCookie_8 : decode cX9_hasCookie 8 = .ok (.iconst (-1), 1) := by decide +kernel
theorem dX9_hasCookie_9 : decode cX9_hasCookie 9 = .ok (.if_icmp .eq 25, 3) := by decide +kernel
theorem dX9_hasCookie_12 : decode cX9_hasCookie 12 = .ok (.aload_n 0, 1) := by decide +kernel
theorem dX9_hasCookie_13 : decode cX9_hasCookie 13 = .ok (.getfield 129, 3) := by decide +kernel
theorem dX9_hasCookie_16 : decode cX9_hasCookie 16 = .ok (.aload_n 0, 1) := by decide +kernel
theorem dX9_hasCookie_17 : decode cX9_hasCookie 17 = .ok (.getfield 61, 3) := by decide +kernel
theorem dX9_hasCookie_20 : decode cX9_hasCookie 20 = .ok (.iload_n 1, 1) := by decide +kernel
theorem dX9_hasCookie_21 : decode cX9_hasCookie 21 = .ok (.aaload, 1) := by decide +kernel
theorem dX9_hasCookie_22 : decode cX9_hasCookie 22 = .ok (.iload_n 2, 1) := by decide +kernel
theorem dX9_hasCookie_23 : decode cX9_hasCookie 23 = .ok (.iaload, 1) := by decide +kernel
theorem dX9_hasCookie_24 : decode cX9_hasCookie 24 = .ok (.isub, 1) := by decide +kernel
theorem dX9_hasCookie_25 : decode cX9_hasCookie 25 = .ok (.bipush 60, 2) := by decide +kernel
theorem dX9_hasCookie_27 : decode cX9_hasCookie 27 = .ok (.if_icmp .ge 7, 3) := by decide +kernel
theorem dX9_hasCookie_30 : decode cX9_hasCookie 30 = .ok (.iconst 1, 1) := by decide +kernel
theorem dX9_hasCookie_31 : decode cX9_hasCookie 31 = .ok (.goto 4, 3) := by decide +kernel
theorem dX9_hasCookie_34 : decode cX9_hasCookie 34 = .ok (.iconst 0, 1) := by decide +kernel
theorem dX9_hasCookie_35 : decode cX9_hasCookie 35 = .ok (.ireturn, 1) := by decide +kernel
theorem dX9_hello_0 : decode cX9_hello 0 = .ok (.aload_n 0, 1) := by decide +kernel
theorem dX9_hello_1 : decode cX9_hello 1 = .ok (.dup, 1) := by decide +kernel
theorem dX9_hello_2 : decode cX9_hello 2 = .ok (.getfield 7, 3) := by decide +kernel
theorem dX9_hello_5 : decode cX9_hello 5 = .ok (.dup_x1, 1) := by decide +kernel
theorem dX9_hello_6 : decode cX9_hello 6 = .ok (.iconst 1, 1) := by decide +kernel
theorem dX9_hello_7 : decode cX9_hello 7 = .ok (.iadd, 1) := by decide +kernel
theorem dX9_hello_8 : decode cX9_hello 8 = .ok (.putfield 7, 3) := by decide +kernel
theorem dX9_hello_11 : decode cX9_hello 11 = .ok (.istore_n 3, 1) := by decide +kernel
theorem dX9_hello_12 : decode cX9_hello 12 = .ok (.iload_n 3, 1) := by decide +kernel
theorem dX9_hello_13 : decode cX9_hello 13 = .ok (.invokestatic 142, 3) := by decide +kernel
theorem dX9_hello_16 : decode cX9_hello 16 = .ok (.istore 4, 2) := by decide +kernel
theorem dX9_hello_18 : decode cX9_hello 18 = .ok (.bipush 10, 2) := by decide +kernel
theorem dX9_hello_20 : decode cX9_hello 20 = .ok (.iload_n 1, 1) := by decide +kernel
theorem dX9_hello_21 : decode cX9_hello 21 = .ok (.imul, 1) := by decide +kernel
theorem dX9_hello_22 : decode cX9_hello 22 = .ok (.iload_n 2, 1) := by decide +kernel
theorem dX9_hello_23 : decode cX9_hello 23 = .ok (.iadd, 1) := by decide +kernel
theorem dX9_hello_24 : decode cX9_hello 24 = .ok (.istore 5, 2) := by decide +kernel
theorem dX9_hello_26 : decode cX9_hello 26 = .ok (.iconst 4, 1) := by decide +kernel
theorem dX9_hello_27 : decode cX9_hello 27 = .ok (.aload_n 0, 1) := by decide +kernel
theorem dX9_hello_28 : decode cX9_hello 28 = .ok (.getfield 129, 3) := by decide +kernel
theorem dX9_hello_31 : decode cX9_hello 31 = .ok (.imul, 1) := by decide +kernel
theorem dX9_hello_32 : decode cX9_hello 32 = .ok (.aload_n 0, 1) := by decide +kernel
theorem dX9_hello_33 : decode cX9_hello 33 = .ok (.getfield 43, 3) := by decide +kernel
theorem dX9_hello_36 : decode cX9_hello 36 = .ok (.iload_n 1, 1) := by decide +kernel
theorem dX9_hello_37 : decode cX9_hello 37 = .ok (.aaload, 1) := by decide +kernel
theorem dX9_hello_38 : decode cX9_hello 38 = .ok (.iload_n 2, 1) := by decide +kernel
theorem dX9_hello_39 : decode cX9_hello 39 = .ok (.iaload, 1) := by decide +kernel
theorem dX9_hello_40 : decode cX9_hello 40 = .ok (.iconst 1, 1) := by decide +kernel
theorem dX9_hello_41 : decode cX9_hello 41 = .ok (.iadd, 1) := by decide +kernel
theorem dX9_hello_42 : decode cX9_hello 42 = .ok (.invokestatic 145, 3) := by decide +kernel
theorem dX9_hello_45 : decode cX9_hello 45 = .ok (.istore 6, 2) := by decide +kernel
theorem dX9_hello_47 : decode cX9_hello 47 = .ok (.aload_n 0, 1) := by decide +kernel
theorem dX9_hello_48 : decode cX9_hello 48 = .ok (.iload_n 1, 1) := by decide +kernel
theorem dX9_hello_49 : decode cX9_hello 49 = .ok (.iload_n 2, 1) := by decide +kernel
theorem dX9_hello_50 : decode cX9_hello 50 = .ok (.iload 4, 2) := by decide +kernel
theorem dX9_hello_52 : decode cX9_hello 52 = .ok (.invokevirtual 150, 3) := by decide +kernel
theorem dX9_hello_55 : decode cX9_hello 55 = .ok (.iconst 5, 1) := by decide +kernel
theorem dX9_hello_56 : decode cX9_hello 56 = .ok (.newarray .int, 2) := by decide +kernel
theorem dX9_hello_58 : decode cX9_hello 58 = .ok (.dup, 1) := by decide +kernel
theorem dX9_hello_59 : decode cX9_hello 59 = .ok (.iconst 0, 1) := by decide +kernel
theorem dX9_hello_60 : decode cX9_hello 60 = .ok (.iconst 1, 1) := by decide +kernel
theorem dX9_hello_61 : decode cX9_hello 61 = .ok (.iastore, 1) := by decide +kernel
theorem dX9_hello_62 : decode cX9_hello 62 = .ok (.dup, 1) := by decide +kernel
theorem dX9_hello_63 : decode cX9_hello 63 = .ok (.iconst 1, 1) := by decide +kernel
theorem dX9_hello_64 : decode cX9_hello 64 = .ok (.iload_n 3, 1) := by decide +kernel
theorem dX9_hello_65 : decode cX9_hello 65 = .ok (.iastore, 1) := by decide +kernel
theorem dX9_hello_66 : decode cX9_hello 66 = .ok (.dup, 1) := by decide +kernel
theorem dX9_hello_67 : decode cX9_hello 67 = .ok (.iconst 2, 1) := by decide +kernel
theorem dX9_hello_68 : decode cX9_hello 68 = .ok (.iload 4, 2) := by decide +kernel
theorem dX9_hello_70 : decode cX9_hello 70 = .ok (.invokestatic 122, 3) := by decide +kernel
theorem dX9_hello_73 : decode cX9_hello 73 = .ok (.iastore, 1) := by decide +kernel
theorem dX9_hello_74 : decode cX9_hello 74 = .ok (.dup, 1) := by decide +kernel
theorem dX9_hello_75 : decode cX9_hello 75 = .ok (.iconst 3, 1) := by decide +kernel
theorem dX9_hello_76 : decode cX9_hello 76 = .ok (.iload 5, 2) := by decide +kernel
theorem dX9_hello_78 : decode cX9_hello 78 = .ok (.iastore, 1) := by decide +kernel
theorem dX9_hello_79 : decode cX9_hello 79 = .ok (.dup, 1) := by decide +kernel
theorem dX9_hello_80 : decode cX9_hello 80 = .ok (.iconst 4, 1) := by decide +kernel
theorem dX9_hello_81 : decode cX9_hello 81 = .ok (.iload 6, 2) := by decide +kernel
theorem dX9_hello_83 : decode cX9_hello 83 = .ok (.iastore, 1) := by decide +kernel
theorem dX9_hello_84 : decode cX9_hello 84 = .ok (.invokestatic 154, 3) := by decide +kernel
theorem dX9_hello_87 : decode cX9_hello 87 = .ok (.istore 7, 2) := by decide +kernel
theorem dX9_hello_89 : decode cX9_hello 89 = .ok (.aload_n 0, 1) := by decide +kernel
theorem dX9_hello_90 : decode cX9_hello 90 = .ok (.getfield 43, 3) := by decide +kernel
theorem dX9_hello_93 : decode cX9_hello 93 = .ok (.iload_n 1, 1) := by decide +kernel
theorem dX9_hello_94 : decode cX9_hello 94 = .ok (.aaload, 1) := by decide +kernel
theorem dX9_hello_95 : decode cX9_hello 95 = .ok (.iload_n 2, 1) := by decide +kernel
theorem dX9_hello_96 : decode cX9_hello 96 = .ok (.iload 6, 2) := by decide +kernel
theorem dX9_hello_98 : decode cX9_hello 98 = .ok (.iastore, 1) := by decide +kernel
theorem dX9_hello_99 : decode cX9_hello 99 = .ok (.aload_n 0, 1) := by decide +kernel
theorem dX9_hello_100 : decode cX9_hello 100 = .ok (.getfield 46, 3) := by decide +kernel
theorem dX9_hello_103 : decode cX9_hello 103 = .ok (.iload_n 1, 1) := by decide +kernel
theorem dX9_hello_104 : decode cX9_hello 104 = .ok (.aaload, 1) := by decide +kernel
theorem dX9_hello_105 : decode cX9_hello 105 = .ok (.iload_n 2, 1) := by decide +kernel
theorem dX9_hello_106 : decode cX9_hello 106 = .ok (.iload_n 3, 1) := by decide +kernel
theorem dX9_hello_107 : decode cX9_hello 107 = .ok (.iastore, 1) := by decide +kernel
theorem dX9_hello_108 : decode cX9_hello 108 = .ok (.aload_n 0, 1) := by decide +kernel
theorem dX9_hello_109 : decode cX9_hello 109 = .ok (.getfield 49, 3) := by decide +kernel
theorem dX9_hello_112 : decode cX9_hello 112 = .ok (.iload_n 1, 1) := by decide +kernel
theorem dX9_hello_113 : decode cX9_hello 113 = .ok (.aaload, 1) := by decide +kernel
theorem dX9_hello_114 : decode cX9_hello 114 = .ok (.iload_n 2, 1) := by decide +kernel
theorem dX9_hello_115 : decode cX9_hello 115 = .ok (.iload 4, 2) := by decide +kernel
theorem dX9_hello_117 : decode cX9_hello 117 = .ok (.iastore, 1) := by decide +kernel
theorem dX9_hello_118 : decode cX9_hello 118 = .ok (.aload_n 0, 1) := by decide +kernel
theorem dX9_hello_119 : decode cX9_hello 119 = .ok (.getfield 52, 3) := by decide +kernel
theorem dX9_hello_122 : decode cX9_hello 122 = .ok (.iload_n 1, 1) := by decide +kernel
theorem dX9_hello_123 : decode cX9_hello 123 = .ok (.aaload, 1) := by decide +kernel
theorem dX9_hello_124 : decode cX9_hello 124 = .ok (.iload_n 2, 1) := by decide +kernel
theorem dX9_hello_125 : decode cX9_hello 125 = .ok (.iload 7, 2) := by decide +kernel
theorem dX9_hello_127 : decode cX9_hello 127 = .ok (.iastore, 1) := by decide +kernel
theorem dX9_hello_128 : decode cX9_hello 128 = .ok (.aload_n 0, 1) := by decide +kernel
theorem dX9_hello_129 : decode cX9_hello 129 = .ok (.getfield 55, 3) := by decide +kernel
theorem dX9_hello_132 : decode cX9_hello 132 = .ok (.iload_n 1, 1) := by decide +kernel
theorem dX9_hello_133 : decode cX9_hello 133 = .ok (.aaload, 1) := by decide +kernel
theorem dX9_hello_134 : decode cX9_hello 134 = .ok (.iload_n 2, 1) := by decide +kernel
theorem dX9_hello_135 : decode cX9_hello 135 = .ok (.aload_n 0, 1) := by decide +kernel
theorem dX9_hello_136 : decode cX9_hello 136 = .ok (.getfield 129, 3) := by decide +kernel
theorem dX9_hello_139 : decode cX9_hello 139 = .ok (.iastore, 1) := by decide +kernel
theorem dX9_hello_140 : decode cX9_hello 140 = .ok (.aload_n 0, 1) := by decide +kernel
theorem dX9_hello_141 : decode cX9_hello 141 = .ok (.aload_n 0, 1) := by decide +kernel
theorem dX9_hello_142 : decode cX9_hello 142 = .ok (.getfield 13, 3) := by decide +kernel
theorem dX9_hello_145 : decode cX9_hello 145 = .ok (.iload_n 1, 1) := by decide +kernel
theorem dX9_hello_146 : decode cX9_hello 146 = .ok (.iaload, 1) := by decide +kernel
theorem dX9_hello_147 : decode cX9_hello 147 = .ok (.aload_n 0, 1) := by decide +kernel
theorem dX9_hello_148 : decode cX9_hello 148 = .ok (.getfield 37, 3) := by decide +kernel
theorem dX9_hello_151 : decode cX9_hello 151 = .ok (.iload_n 1, 1) := by decide +kernel
theorem dX9_hello_152 : decode cX9_hello 152 = .ok (.aaload, 1) := by decide +kernel
theorem dX9_hello_153 : decode cX9_hello 153 = .ok (.iload_n 2, 1) := by decide +kernel
theorem dX9_hello_154 : decode cX9_hello 154 = .ok (.iaload, 1) := by decide +kernel
theorem dX9_hello_155 : decode cX9_hello 155 = .ok (.iconst 1, 1) := by decide +kernel
theorem dX9_hello_156 : decode cX9_hello 156 = .ok (.bipush 6, 2) := by decide +kernel
theorem dX9_hello_158 : decode cX9_hello 158 = .ok (.newarray .int, 2) := by decide +kernel
theorem dX9_hello_160 : decode cX9_hello 160 = .ok (.dup, 1) := by decide +kernel
theorem dX9_hello_161 : decode cX9_hello 161 = .ok (.iconst 0, 1) := by decide +kernel
theorem dX9_hello_162 : decode cX9_hello 162 = .ok (.iload_n 3, 1) := by decide +kernel
theorem dX9_hello_163 : decode cX9_hello 163 = .ok (.iastore, 1) := by decide +kernel
theorem dX9_hello_164 : decode cX9_hello 164 = .ok (.dup, 1) := by decide +kernel
theorem dX9_hello_165 : decode cX9_hello 165 = .ok (.iconst 1, 1) := by decide +kernel
theorem dX9_hello_166 : decode cX9_hello 166 = .ok (.iload 4, 2) := by decide +kernel
theorem dX9_hello_168 : decode cX9_hello 168 = .ok (.invokestatic 122, 3) := by decide +kernel
theorem dX9_hello_171 : decode cX9_hello 171 = .ok (.iastore, 1) := by decide +kernel
theorem dX9_hello_172 : decode cX9_hello 172 = .ok (.dup, 1) := by decide +kernel
theorem dX9_hello_173 : decode cX9_hello 173 = .ok (.iconst 2, 1) := by decide +kernel
theorem dX9_hello_174 : decode cX9_hello 174 = .ok (.iload 5, 2) := by decide +kernel
theorem dX9_hello_176 : decode cX9_hello 176 = .ok (.iastore, 1) := by decide +kernel
theorem dX9_hello_177 : decode cX9_hello 177 = .ok (.dup, 1) := by decide +kernel
theorem dX9_hello_178 : decode cX9_hello 178 = .ok (.iconst 3, 1) := by decide +kernel
theorem dX9_hello_179 : decode cX9_hello 179 = .ok (.iload 6, 2) := by decide +kernel
theorem dX9_hello_181 : decode cX9_hello 181 = .ok (.iastore, 1) := by decide +kernel
theorem dX9_hello_182 : decode cX9_hello 182 = .ok (.dup, 1) := by decide +kernel
theorem dX9_hello_183 : decode cX9_hello 183 = .ok (.iconst 4, 1) := by decide +kernel
theorem dX9_hello_184 : decode cX9_hello 184 = .ok (.iload 7, 2) := by decide +kernel
theorem dX9_hello_186 : decode cX9_hello 186 = .ok (.iastore, 1) := by decide +kernel
theorem dX9_hello_187 : decode cX9_hello 187 = .ok (.dup, 1) := by decide +kernel
theorem dX9_hello_188 : decode cX9_hello 188 = .ok (.iconst 5, 1) := by decide +kernel
theorem dX9_hello_189 : decode cX9_hello 189 = .ok (.aload_n 0, 1) := by decide +kernel
theorem dX9_hello_190 : decode cX9_hello 190 = .ok (.iload_n 1, 1) := by decide +kernel
theorem dX9_hello_191 : decode cX9_hello 191 = .ok (.iload_n 2, 1) := by decide +kernel
theorem dX9_hello_192 : decode cX9_hello 192 = .ok (.invokevirtual 158, 3) := by decide +kernel
theorem dX9_hello_195 : decode cX9_hello 195 = .ok (.ifCond .eq 32, 3) := by decide +kernel
theorem dX9_hello_198 : decode cX9_hello 198 = .ok (.iconst 3, 1) := by decide +kernel
theorem dX9_hello_199 : decode cX9_hello 199 = .ok (.newarray .int, 2) := by decide +kernel
theorem dX9_hello_201 : decode cX9_hello 201 = .ok (.dup, 1) := by decide +kernel
theorem dX9_hello_202 : decode cX9_hello 202 = .ok (.iconst 0, 1) := by decide +kernel
theorem dX9_hello_203 : decode cX9_hello 203 = .ok (.iconst 2, 1) := by decide +kernel
theorem dX9_hello_204 : decode cX9_hello 204 = .ok (.iastore, 1) := by decide +kernel
theorem dX9_hello_205 : decode cX9_hello 205 = .ok (.dup, 1) := by decide +kernel
theorem dX9_hello_206 : decode cX9_hello 206 = .ok (.iconst 1, 1) := by decide +kernel
theorem dX9_hello_207 : decode cX9_hello 207 = .ok (.aload_n 0, 1) := by decide +kernel
theorem dX9_hello_208 : decode cX9_hello 208 = .ok (.getfield 58, 3) := by decide +kernel
theorem dX9_hello_211 : decode cX9_hello 211 = .ok (.iload_n 1, 1) := by decide +kernel
theorem dX9_hello_212 : decode cX9_hello 212 = .ok (.aaload, 1) := by decide +kernel
theorem dX9_hello_213 : decode cX9_hello 213 = .ok (.iload_n 2, 1) := by decide +kernel
theorem dX9_hello_214 : decode cX9_hello 214 = .ok (.iaload, 1) := by decide +kernel
theorem dX9_hello_215 : decode cX9_hello 215 = .ok (.iastore, 1) := by decide +kernel
theorem dX9_hello_216 : decode cX9_hello 216 = .ok (.dup, 1) := by decide +kernel
theorem dX9_hello_217 : decode cX9_hello 217 = .ok (.iconst 2, 1) := by decide +kernel
theorem dX9_hello_218 : decode cX9_hello 218 = .ok (.iload 7, 2) := by decide +kernel
theorem dX9_hello_220 : decode cX9_hello 220 = .ok (.iastore, 1) := by decide +kernel
theorem dX9_hello_221 : decode cX9_hello 221 = .ok (.invokestatic 138, 3) := by decide +kernel
theorem dX9_hello_224 : decode cX9_hello 224 = .ok (.goto 4, 3) := by decide +kernel
theorem dX9_hello_227 : decode cX9_hello 227 = .ok (.iconst 0, 1) := by decide +kernel
theorem dX9_hello_228 : decode cX9_hello 228 = .ok (.iastore, 1) := by decide +kernel
theorem dX9_hello_229 : decode cX9_hello 229 = .ok (.invokevirtual 162, 3) := by decide +kernel
theorem dX9_hello_232 : decode cX9_hello 232 = .ok (.iload_n 3, 1) := by decide +kernel
theorem dX9_hello_233 : decode cX9_hello 233 = .ok (.ireturn, 1) := by decide +kernel
theorem dX9_isThere_0 : decode cX9_isThere 0 = .ok (.aload_n 0, 1) := by decide +kernel
theorem dX9_isThere_1 : decode cX9_isThere 1 = .ok (.getfield 72, 3) := by decide +kernel
theorem dX9_isThere_4 : decode cX9_isThere 4 = .ok (.iload_n 1, 1) := by decide +kernel
theorem dX9_isThere_5 : decode cX9_isThere 5 = .ok (.aaload, 1) := by decide +kernel
theorem dX9_isThere_6 : decode cX9_isThere 6 = .ok (.iload_n 2, 1) := by decide +kernel
theorem dX9_isThere_7 : decode cX9_isThere 7 = .ok (.aaload, 1) := by decide +kernel
theorem dX9_isThere_8 : decode cX9_isThere 8 = .ok (.iload_n 3, 1) := by decide +kernel
theorem dX9_isThere_9 : decode cX9_isThere 9 = .ok (.aaload, 1) := by decide +kernel
theorem dX9_isThere_10 : decode cX9_isThere 10 = .ok (.iconst 0, 1) := by decide +kernel
theorem dX9_isThere_11 : decode cX9_isThere 11 = .ok (.iaload, 1) := by decide +kernel
theorem dX9_isThere_12 : decode cX9_isThere 12 = .ok (.ifCond .le 7, 3) := by decide +kernel
theorem dX9_isThere_15 : decode cX9_isThere 15 = .ok (.iconst 1, 1) := by decide +kernel
theorem dX9_isThere_16 : decode cX9_isThere 16 = .ok (.goto 4, 3) := by decide +kernel
theorem dX9_isThere_19 : decode cX9_isThere 19 = .ok (.iconst 0, 1) := by decide +kernel
theorem dX9_isThere_20 : decode cX9_isThere 20 = .ok (.ireturn, 1) := by decide +kernel
theorem dX9_age_0 : decode cX9_age 0 = .ok (.aload_n 0, 1) := by decide +kernel
theorem dX9_age_1 : decode cX9_age 1 = .ok (.getfield 129, 3) := by decide +kernel
theorem dX9_age_4 : decode cX9_age 4 = .ok (.aload_n 0, 1) := by decide +kernel
theorem dX9_age_5 : decode cX9_age 5 = .ok (.getfield 72, 3) := by decide +kernel
theorem dX9_age_8 : decode cX9_age 8 = .ok (.iload_n 1, 1) := by decide +kernel
theorem dX9_age_9 : decode cX9_age 9 = .ok (.aaload, 1) := by decide +kernel
theorem dX9_age_10 : decode cX9_age 10 = .ok (.iload_n 2, 1) := by decide +kernel
theorem dX9_age_11 : decode cX9_age 11 = .ok (.aaload, 1) := by decide +kernel
theorem dX9_age_12 : decode cX9_age 12 = .ok (.iload_n 3, 1) := by decide +kernel
theorem dX9_age_13 : decode cX9_age 13 = .ok (.aaload, 1) := by decide +kernel
theorem dX9_age_14 : decode cX9_age 14 = .ok (.iconst 2, 1) := by decide +kernel
theorem dX9_age_15 : decode cX9_age 15 = .ok (.iaload, 1) := by decide +kernel
theorem dX9_age_16 : decode cX9_age 16 = .ok (.isub, 1) := by decide +kernel
theorem dX9_age_17 : decode cX9_age 17 = .ok (.ireturn, 1) := by decide +kernel
theorem dX9_usable_0 : decode cX9_usable 0 = .ok (.aload_n 0, 1) := by decide +kernel
theorem dX9_usable_1 : decode cX9_usable 1 = .ok (.iload_n 1, 1) := by decide +kernel
theorem dX9_usable_2 : decode cX9_usable 2 = .ok (.iload_n 2, 1) := by decide +kernel
theorem dX9_usable_3 : decode cX9_usable 3 = .ok (.iconst 1, 1) := by decide +kernel
theorem dX9_usable_4 : decode cX9_usable 4 = .ok (.invokevirtual 166, 3) := by decide +kernel
theorem dX9_usable_7 : decode cX9_usable 7 = .ok (.ifCond .eq 36, 3) := by decide +kernel
theorem dX9_usable_10 : decode cX9_usable 10 = .ok (.aload_n 0, 1) := by decide +kernel
theorem dX9_usable_11 : decode cX9_usable 11 = .ok (.iload_n 1, 1) := by decide +kernel
theorem dX9_usable_12 : decode cX9_usable 12 = .ok (.iload_n 2, 1) := by decide +kernel
theorem dX9_usable_13 : decode cX9_usable 13 = .ok (.iconst 1, 1) := by decide +kernel
theorem dX9_usable_14 : decode cX9_usable 14 = .ok (.invokevirtual 170, 3) := by decide +kernel
theorem dX9_usable_17 : decode cX9_usable 17 = .ok (.bipush 30, 2) := by decide +kernel
theorem dX9_usable_19 : decode cX9_usable 19 = .ok (.if_icmp .ge 24, 3) := by decide +kernel
theorem dX9_usable_22 : decode cX9_usable 22 = .ok (.aload_n 0, 1) := by decide +kernel
theorem dX9_usable_23 : decode cX9_usable 23 = .ok (.getfield 72, 3) := by decide +kernel
theorem dX9_usable_26 : decode cX9_usable 26 = .ok (.iload_n 1, 1) := by decide +kernel
theorem dX9_usable_27 : decode cX9_usable 27 = .ok (.aaload, 1) := by decide +kernel
theorem dX9_usable_28 : decode cX9_usable 28 = .ok (.iload_n 2, 1) := by decide +kernel
theorem dX9_usable_29 : decode cX9_usable 29 = .ok (.aaload, 1) := by decide +kernel
theorem dX9_usable_30 : decode cX9_usable 30 = .ok (.iconst 1, 1) := by decide +kernel
theorem dX9_usable_31 : decode cX9_usable 31 = .ok (.aaload, 1) := by decide +kernel
theorem dX9_usable_32 : decode cX9_usable 32 = .ok (.iconst 5, 1) := by decide +kernel
theorem dX9_usable_33 : decode cX9_usable 33 = .ok (.iaload, 1) := by decide +kernel
theorem dX9_usable_34 : decode cX9_usable 34 = .ok (.bipush 40, 2) := by decide +kernel
theorem dX9_usable_36 : decode cX9_usable 36 = .ok (.if_icmp .ge 7, 3) := by decide +kernel
theorem dX9_usable_39 : decode cX9_usable 39 = .ok (.iconst 1, 1) := by decide +kernel
theorem dX9_usable_40 : decode cX9_usable 40 = .ok (.goto 4, 3) := by decide +kernel
theorem dX9_usable_43 : decode cX9_usable 43 = .ok (.iconst 0, 1) := by decide +kernel
theorem dX9_usable_44 : decode cX9_usable 44 = .ok (.ireturn, 1) := by decide +kernel
theorem dX9_make_0 : decode cX9_make 0 = .ok (.aload_n 0, 1) := by decide +kernel
theorem dX9_make_1 : decode cX9_make 1 = .ok (.getfield 72, 3) := by decide +kernel
theorem dX9_make_4 : decode cX9_make 4 = .ok (.iload_n 1, 1) := by decide +kernel
theorem dX9_make_5 : decode cX9_make 5 = .ok (.aaload, 1) := by decide +kernel
theorem dX9_make_6 : decode cX9_make 6 = .ok (.iload_n 2, 1) := by decide +kernel
theorem dX9_make_7 : decode cX9_make 7 = .ok (.aaload, 1) := by decide +kernel
theorem dX9_make_8 : decode cX9_make 8 = .ok (.iload_n 3, 1) := by decide +kernel
theorem dX9_make_9 : decode cX9_make 9 = .ok (.bipush 9, 2) := by decide +kernel
theorem dX9_make_11 : decode cX9_make 11 = .ok (.newarray .int, 2) := by decide +kernel
theorem dX9_make_13 : decode cX9_make 13 = .ok (.dup, 1) := by decide +kernel
theorem dX9_make_14 : decode cX9_make 14 = .ok (.iconst 0, 1) := by decide +kernel
theorem dX9_make_15 : decode cX9_make 15 = .ok (.iload 4, 2) := by decide +kernel
theorem dX9_make_17 : decode cX9_make 17 = .ok (.iastore, 1) := by decide +kernel
theorem dX9_make_18 : decode cX9_make 18 = .ok (.dup, 1) := by decide +kernel
theorem dX9_make_19 : decode cX9_make 19 = .ok (.iconst 1, 1) := by decide +kernel
theorem dX9_make_20 : decode cX9_make 20 = .ok (.iload 5, 2) := by decide +kernel
theorem dX9_make_22 : decode cX9_make 22 = .ok (.iastore, 1) := by decide +kernel
theorem dX9_make_23 : decode cX9_make 23 = .ok (.dup, 1) := by decide +kernel
theorem dX9_make_24 : decode cX9_make 24 = .ok (.iconst 2, 1) := by decide +kernel
theorem dX9_make_25 : decode cX9_make 25 = .ok (.aload_n 0, 1) := by decide +kernel
theorem dX9_make_26 : decode cX9_make 26 = .ok (.getfield 129, 3) := by decide +kernel
theorem dX9_make_29 : decode cX9_make 29 = .ok (.iastore, 1) := by decide +kernel
theorem dX9_make_30 : decode cX9_make 30 = .ok (.dup, 1) := by decide +kernel
theorem dX9_make_31 : decode cX9_make 31 = .ok (.iconst 3, 1) := by decide +kernel
theorem dX9_make_32 : decode cX9_make 32 = .ok (.iload 6, 2) := by decide +kernel
theorem dX9_make_34 : decode cX9_make 34 = .ok (.iastore, 1) := by decide +kernel
theorem dX9_make_35 : decode cX9_make 35 = .ok (.dup, 1) := by decide +kernel
theorem dX9_make_36 : decode cX9_make 36 = .ok (.iconst 4, 1) := by decide +kernel
theorem dX9_make_37 : decode cX9_make 37 = .ok (.iload 7, 2) := by decide +kernel
theorem dX9_make_39 : decode cX9_make 39 = .ok (.iastore, 1) := by decide +kernel
theorem dX9_make_40 : decode cX9_make 40 = .ok (.dup, 1) := by decide +kernel
theorem dX9_make_41 : decode cX9_make 41 = .ok (.iconst 5, 1) := by decide +kernel
theorem dX9_make_42 : decode cX9_make 42 = .ok (.iconst 0, 1) := by decide +kernel
theorem dX9_make_43 : decode cX9_make 43 = .ok (.iastore, 1) := by decide +kernel
theorem dX9_make_44 : decode cX9_make 44 = .ok (.dup, 1) := by decide +kernel
theorem dX9_make_45 : decode cX9_make 45 = .ok (.bipush 6, 2) := by decide +kernel
theorem dX9_make_47 : decode cX9_make 47 = .ok (.iload 8, 2) := by decide +kernel
theorem dX9_make_49 : decode cX9_make 49 = .ok (.iastore, 1) := by decide +kernel
theorem dX9_make_50 : decode cX9_make 50 = .ok (.dup, 1) := by decide +kernel
theorem dX9_make_51 : decode cX9_make 51 = .ok (.bipush 7, 2) := by decide +kernel
theorem dX9_make_53 : decode cX9_make 53 = .ok (.iconst (-1), 1) := by decide +kernel
theorem dX9_make_54 : decode cX9_make 54 = .ok (.iastore, 1) := by decide +kernel
theorem dX9_make_55 : decode cX9_make 55 = .ok (.dup, 1) := by decide +kernel
theorem dX9_make_56 : decode cX9_make 56 = .ok (.bipush 8, 2) := by decide +kernel
theorem dX9_make_58 : decode cX9_make 58 = .ok (.iconst 0, 1) := by decide +kernel
theorem dX9_make_59 : decode cX9_make 59 = .ok (.iastore, 1) := by decide +kernel
theorem dX9_make_60 : decode cX9_make 60 = .ok (.aastore, 1) := by decide +kernel
theorem dX9_make_61 : decode cX9_make 61 = .ok (.aload_n 0, 1) := by decide +kernel
theorem dX9_make_62 : decode cX9_make 62 = .ok (.getfield 77, 3) := by decide +kernel
theorem dX9_make_65 : decode cX9_make 65 = .ok (.iload_n 1, 1) := by decide +kernel
theorem dX9_make_66 : decode cX9_make 66 = .ok (.aaload, 1) := by decide +kernel
theorem dX9_make_67 : decode cX9_make 67 = .ok (.iload_n 2, 1) := by decide +kernel
theorem dX9_make_68 : decode cX9_make 68 = .ok (.aaload, 1) := by decide +kernel
theorem dX9_make_69 : decode cX9_make 69 = .ok (.iload_n 3, 1) := by decide +kernel
theorem dX9_make_70 : decode cX9_make 70 = .ok (.bipush 40, 2) := by decide +kernel
theorem dX9_make_72 : decode cX9_make 72 = .ok (.newarray .boolean, 2) := by decide +kernel
theorem dX9_make_74 : decode cX9_make 74 = .ok (.aastore, 1) := by decide +kernel
theorem dX9_make_75 : decode cX9_make 75 = .ok (.return_, 1) := by decide +kernel
theorem dX9_turnOver_0 : decode cX9_turnOver 0 = .ok (.aload_n 0, 1) := by decide +kernel
theorem dX9_turnOver_1 : decode cX9_turnOver 1 = .ok (.getfield 72, 3) := by decide +kernel
theorem dX9_turnOver_4 : decode cX9_turnOver 4 = .ok (.iload_n 1, 1) := by decide +kernel
theorem dX9_turnOver_5 : decode cX9_turnOver 5 = .ok (.aaload, 1) := by decide +kernel
theorem dX9_turnOver_6 : decode cX9_turnOver 6 = .ok (.iload_n 2, 1) := by decide +kernel
theorem dX9_turnOver_7 : decode cX9_turnOver 7 = .ok (.aaload, 1) := by decide +kernel
theorem dX9_turnOver_8 : decode cX9_turnOver 8 = .ok (.iconst 0, 1) := by decide +kernel
theorem dX9_turnOver_9 : decode cX9_turnOver 9 = .ok (.aload_n 0, 1) := by decide +kernel
theorem dX9_turnOver_10 : decode cX9_turnOver 10 = .ok (.getfield 72, 3) := by decide +kernel
theorem dX9_turnOver_13 : decode cX9_turnOver 13 = .ok (.iload_n 1, 1) := by decide +kernel
theorem dX9_turnOver_14 : decode cX9_turnOver 14 = .ok (.aaload, 1) := by decide +kernel
theorem dX9_turnOver_15 : decode cX9_turnOver 15 = .ok (.iload_n 2, 1) := by decide +kernel
theorem dX9_turnOver_16 : decode cX9_turnOver 16 = .ok (.aaload, 1) := by decide +kernel
theorem dX9_turnOver_17 : decode cX9_turnOver 17 = .ok (.iconst 1, 1) := by decide +kernel
theorem dX9_turnOver_18 : decode cX9_turnOver 18 = .ok (.aaload, 1) := by decide +kernel
theorem dX9_turnOver_19 : decode cX9_turnOver 19 = .ok (.aastore, 1) := by decide +kernel
theorem dX9_turnOver_20 : decode cX9_turnOver 20 = .ok (.aload_n 0, 1) := by decide +kernel
theorem dX9_turnOver_21 : decode cX9_turnOver 21 = .ok (.getfield 77, 3) := by decide +kernel
theorem dX9_turnOver_24 : decode cX9_turnOver 24 = .ok (.iload_n 1, 1) := by decide +kernel
theorem dX9_turnOver_25 : decode cX9_turnOver 25 = .ok (.aaload, 1) := by decide +kernel
theorem dX9_turnOver_26 : decode cX9_turnOver 26 = .ok (.iload_n 2, 1) := by decide +kernel
theorem dX9_turnOver_27 : decode cX9_turnOver 27 = .ok (.aaload, 1) := by decide +kernel
theorem dX9_turnOver_28 : decode cX9_turnOver 28 = .ok (.iconst 0, 1) := by decide +kernel
theorem dX9_turnOver_29 : decode cX9_turnOver 29 = .ok (.aload_n 0, 1) := by decide +kernel
theorem dX9_turnOver_30 : decode cX9_turnOver 30 = .ok (.getfield 77, 3) := by decide +kernel
theorem dX9_turnOver_33 : decode cX9_turnOver 33 = .ok (.iload_n 1, 1) := by decide +kernel
theorem dX9_turnOver_34 : decode cX9_turnOver 34 = .ok (.aaload, 1) := by decide +kernel
theorem dX9_turnOver_35 : decode cX9_turnOver 35 = .ok (.iload_n 2, 1) := by decide +kernel
theorem dX9_turnOver_36 : decode cX9_turnOver 36 = .ok (.aaload, 1) := by decide +kernel
theorem dX9_turnOver_37 : decode cX9_turnOver 37 = .ok (.iconst 1, 1) := by decide +kernel
theorem dX9_turnOver_38 : decode cX9_turnOver 38 = .ok (.aaload, 1) := by decide +kernel
theorem dX9_turnOver_39 : decode cX9_turnOver 39 = .ok (.aastore, 1) := by decide +kernel
theorem dX9_turnOver_40 : decode cX9_turnOver 40 = .ok (.return_, 1) := by decide +kernel
theorem dX9_data_0 : decode cX9_data 0 = .ok (.aload_n 0, 1) := by decide +kernel
theorem dX9_data_1 : decode cX9_data 1 = .ok (.getfield 72, 3) := by decide +kernel
theorem dX9_data_4 : decode cX9_data 4 = .ok (.iload_n 1, 1) := by decide +kernel
theorem dX9_data_5 : decode cX9_data 5 = .ok (.aaload, 1) := by decide +kernel
theorem dX9_data_6 : decode cX9_data 6 = .ok (.iload_n 2, 1) := by decide +kernel
theorem dX9_data_7 : decode cX9_data 7 = .ok (.aaload, 1) := by decide +kernel
theorem dX9_data_8 : decode cX9_data 8 = .ok (.iconst 1, 1) := by decide +kernel
theorem dX9_data_9 : decode cX9_data 9 = .ok (.aaload, 1) := by decide +kernel
theorem dX9_data_10 : decode cX9_data 10 = .ok (.astore 6, 2) := by decide +kernel
theorem dX9_data_12 : decode cX9_data 12 = .ok (.aload 6, 2) := by decide +kernel
theorem dX9_data_14 : decode cX9_data 14 = .ok (.iconst 5, 1) := by decide +kernel
theorem dX9_data_15 : decode cX9_data 15 = .ok (.iaload, 1) := by decide +kernel
theorem dX9_data_16 : decode cX9_data 16 = .ok (.istore 7, 2) := by decide +kernel
theorem dX9_data_18 : decode cX9_data 18 = .ok (.aload_n 0, 1) := by decide +kernel
theorem dX9_data_19 : decode cX9_data 19 = .ok (.aload_n 0, 1) := by decide +kernel
theorem dX9_data_20 : decode cX9_data 20 = .ok (.getfield 13, 3) := by decide +kernel
theorem dX9_data_23 : decode cX9_data 23 = .ok (.iload_n 1, 1) := by decide +kernel
theorem dX9_data_24 : decode cX9_data 24 = .ok (.iaload, 1) := by decide +kernel
theorem dX9_data_25 : decode cX9_data 25 = .ok (.aload_n 0, 1) := by decide +kernel
theorem dX9_data_26 : decode cX9_data 26 = .ok (.getfield 37, 3) := by decide +kernel
theorem dX9_data_29 : decode cX9_data 29 = .ok (.iload_n 1, 1) := by decide +kernel
theorem dX9_data_30 : decode cX9_data 30 = .ok (.aaload, 1) := by decide +kernel
theorem dX9_data_31 : decode cX9_data 31 = .ok (.iload_n 2, 1) := by decide +kernel
theorem dX9_data_32 : decode cX9_data 32 = .ok (.iaload, 1) := by decide +kernel
theorem dX9_data_33 : decode cX9_data 33 = .ok (.iconst 4, 1) := by decide +kernel
theorem dX9_data_34 : decode cX9_data 34 = .ok (.bipush 6, 2) := by decide +kernel
theorem dX9_data_36 : decode cX9_data 36 = .ok (.newarray .int, 2) := by decide +kernel
theorem dX9_data_38 : decode cX9_data 38 = .ok (.dup, 1) := by decide +kernel
theorem dX9_data_39 : decode cX9_data 39 = .ok (.iconst 0, 1) := by decide +kernel
theorem dX9_data_40 : decode cX9_data 40 = .ok (.aload 6, 2) := by decide +kernel
theorem dX9_data_42 : decode cX9_data 42 = .ok (.iconst 1, 1) := by decide +kernel
theorem dX9_data_43 : decode cX9_data 43 = .ok (.iaload, 1) := by decide +kernel
theorem dX9_data_44 : decode cX9_data 44 = .ok (.iastore, 1) := by decide +kernel
theorem dX9_data_45 : decode cX9_data 45 = .ok (.dup, 1) := by decide +kernel
theorem dX9_data_46 : decode cX9_data 46 = .ok (.iconst 1, 1) := by decide +kernel
theorem dX9_data_47 : decode cX9_data 47 = .ok (.iload 7, 2) := by decide +kernel
theorem dX9_data_49 : decode cX9_data 49 = .ok (.iastore, 1) := by decide +kernel
theorem dX9_data_50 : decode cX9_data 50 = .ok (.dup, 1) := by decide +kernel
theorem dX9_data_51 : decode cX9_data 51 = .ok (.iconst 2, 1) := by decide +kernel
theorem dX9_data_52 : decode cX9_data 52 = .ok (.iload_n 3, 1) := by decide +kernel
theorem dX9_data_53 : decode cX9_data 53 = .ok (.iastore, 1) := by decide +kernel
theorem dX9_data_54 : decode cX9_data 54 = .ok (.dup, 1) := by decide +kernel
theorem dX9_data_55 : decode cX9_data 55 = .ok (.iconst 3, 1) := by decide +kernel
theorem dX9_data_56 : decode cX9_data 56 = .ok (.iload 4, 2) := by decide +kernel
theorem dX9_data_58 : decode cX9_data 58 = .ok (.iastore, 1) := by decide +kernel
theorem dX9_data_59 : decode cX9_data 59 = .ok (.dup, 1) := by decide +kernel
theorem dX9_data_60 : decode cX9_data 60 = .ok (.iconst 4, 1) := by decide +kernel
theorem dX9_data_61 : decode cX9_data 61 = .ok (.iload 5, 2) := by decide +kernel
theorem dX9_data_63 : decode cX9_data 63 = .ok (.iastore, 1) := by decide +kernel
theorem dX9_data_64 : decode cX9_data 64 = .ok (.dup, 1) := by decide +kernel
theorem dX9_data_65 : decode cX9_data 65 = .ok (.iconst 5, 1) := by decide +kernel
theorem dX9_data_66 : decode cX9_data 66 = .ok (.aload 6, 2) := by decide +kernel
theorem dX9_data_68 : decode cX9_data 68 = .ok (.iconst 3, 1) := by decide +kernel
theorem dX9_data_69 : decode cX9_data 69 = .ok (.iaload, 1) := by decide +kernel
theorem dX9_data_70 : decode cX9_data 70 = .ok (.bipush 6, 2) := by decide +kernel
theorem dX9_data_72 : decode cX9_data 72 = .ok (.newarray .int, 2) := by decide +kernel
theorem dX9_data_74 : decode cX9_data 74 = .ok (.dup, 1) := by decide +kernel
theorem dX9_data_75 : decode cX9_data 75 = .ok (.iconst 0, 1) := by decide +kernel
theorem dX9_data_76 : decode cX9_data 76 = .ok (.iconst 4, 1) := by decide +kernel
theorem dX9_data_77 : decode cX9_data 77 = .ok (.iastore, 1) := by decide +kernel
theorem dX9_data_78 : decode cX9_data 78 = .ok (.dup, 1) := by decide +kernel
theorem dX9_data_79 : decode cX9_data 79 = .ok (.iconst 1, 1) := by decide +kernel
theorem dX9_data_80 : decode cX9_data 80 = .ok (.aload 6, 2) := by decide +kernel
theorem dX9_data_82 : decode cX9_data 82 = .ok (.iconst 1, 1) := by decide +kernel
theorem dX9_data_83 : decode cX9_data 83 = .ok (.iaload, 1) := by decide +kernel
theorem dX9_data_84 : decode cX9_data 84 = .ok (.iastore, 1) := by decide +kernel
theorem dX9_data_85 : decode cX9_data 85 = .ok (.dup, 1) := by decide +kernel
theorem dX9_data_86 : decode cX9_data 86 = .ok (.iconst 2, 1) := by decide +kernel
theorem dX9_data_87 : decode cX9_data 87 = .ok (.iload 7, 2) := by decide +kernel
theorem dX9_data_89 : decode cX9_data 89 = .ok (.iastore, 1) := by decide +kernel
theorem dX9_data_90 : decode cX9_data 90 = .ok (.dup, 1) := by decide +kernel
theorem dX9_data_91 : decode cX9_data 91 = .ok (.iconst 3, 1) := by decide +kernel
theorem dX9_data_92 : decode cX9_data 92 = .ok (.iload_n 3, 1) := by decide +kernel
theorem dX9_data_93 : decode cX9_data 93 = .ok (.iastore, 1) := by decide +kernel
theorem dX9_data_94 : decode cX9_data 94 = .ok (.dup, 1) := by decide +kernel
theorem dX9_data_95 : decode cX9_data 95 = .ok (.iconst 4, 1) := by decide +kernel
theorem dX9_data_96 : decode cX9_data 96 = .ok (.iload 4, 2) := by decide +kernel
theorem dX9_data_98 : decode cX9_data 98 = .ok (.iastore, 1) := by decide +kernel
theorem dX9_data_99 : decode cX9_data 99 = .ok (.dup, 1) := by decide +kernel
theorem dX9_data_100 : decode cX9_data 100 = .ok (.iconst 5, 1) := by decide +kernel
theorem dX9_data_101 : decode cX9_data 101 = .ok (.iload 5, 2) := by decide +kernel
theorem dX9_data_103 : decode cX9_data 103 = .ok (.iastore, 1) := by decide +kernel
theorem dX9_data_104 : decode cX9_data 104 = .ok (.invokestatic 154, 3) := by decide +kernel
theorem dX9_data_107 : decode cX9_data 107 = .ok (.iastore, 1) := by decide +kernel
theorem dX9_data_108 : decode cX9_data 108 = .ok (.invokevirtual 162, 3) := by decide +kernel
theorem dX9_data_111 : decode cX9_data 111 = .ok (.aload 6, 2) := by decide +kernel
theorem dX9_data_113 : decode cX9_data 113 = .ok (.iconst 5, 1) := by decide +kernel
theorem dX9_data_114 : decode cX9_data 114 = .ok (.iload 7, 2) := by decide +kernel
theorem dX9_data_116 : decode cX9_data 116 = .ok (.iconst 1, 1) := by decide +kernel
theorem dX9_data_117 : decode cX9_data 117 = .ok (.iadd, 1) := by decide +kernel
theorem dX9_data_118 : decode cX9_data 118 = .ok (.iastore, 1) := by decide +kernel
theorem dX9_data_119 : decode cX9_data 119 = .ok (.return_, 1) := by decide +kernel
theorem dX9_sendWaiting_0 : decode cX9_sendWaiting 0 = .ok (.aload_n 0, 1) := by decide +kernel
theorem dX9_sendWaiting_1 : decode cX9_sendWaiting 1 = .ok (.getfield 64, 3) := by decide +kernel
theorem dX9_sendWaiting_4 : decode cX9_sendWaiting 4 = .ok (.iload_n 1, 1) := by decide +kernel
theorem dX9_sendWaiting_5 : decode cX9_sendWaiting 5 = .ok (.aaload, 1) := by decide +kernel
theorem dX9_sendWaiting_6 : decode cX9_sendWaiting 6 = .ok (.iload_n 2, 1) := by decide +kernel
theorem dX9_sendWaiting_7 : decode cX9_sendWaiting 7 = .ok (.iaload, 1) := by decide +kernel
theorem dX9_sendWaiting_8 : decode cX9_sendWaiting 8 = .ok (.ifCond .le 101, 3) := by decide +kernel
theorem dX9_sendWaiting_11 : decode cX9_sendWaiting 11 = .ok (.aload_n 0, 1) := by decide +kernel
theorem dX9_sendWaiting_12 : decode cX9_sendWaiting 12 = .ok (.iload_n 1, 1) := by decide +kernel
theorem dX9_sendWaiting_13 : decode cX9_sendWaiting 13 = .ok (.iload_n 2, 1) := by decide +kernel
theorem dX9_sendWaiting_14 : decode cX9_sendWaiting 14 = .ok (.invokevirtual 173, 3) := by decide +kernel
theorem dX9_sendWaiting_17 : decode cX9_sendWaiting 17 = .ok (.ifCond .eq 92, 3) := by decide +kernel
theorem dX9_sendWaiting_20 : decode cX9_sendWaiting 20 = .ok (.aload_n 0, 1) := by decide +kernel
theorem dX9_sendWaiting_21 : decode cX9_sendWaiting 21 = .ok (.getfield 69, 3) := by decide +kernel
theorem dX9_sendWaiting_24 : decode cX9_sendWaiting 24 = .ok (.iload_n 1, 1) := by decide +kernel
theorem dX9_sendWaiting_25 : decode cX9_sendWaiting 25 = .ok (.aaload, 1) := by decide +kernel
theorem dX9_sendWaiting_26 : decode cX9_sendWaiting 26 = .ok (.iload_n 2, 1) := by decide +kernel
theorem dX9_sendWaiting_27 : decode cX9_sendWaiting 27 = .ok (.aaload, 1) := by decide +kernel
theorem dX9_sendWaiting_28 : decode cX9_sendWaiting 28 = .ok (.iconst 0, 1) := by decide +kernel
theorem dX9_sendWaiting_29 : decode cX9_sendWaiting 29 = .ok (.aaload, 1) := by decide +kernel
theorem dX9_sendWaiting_30 : decode cX9_sendWaiting 30 = .ok (.astore_n 3, 1) := by decide +kernel
theorem dX9_sendWaiting_31 : decode cX9_sendWaiting 31 = .ok (.aload_n 0, 1) := by decide +kernel
theorem dX9_sendWaiting_32 : decode cX9_sendWaiting 32 = .ok (.iload_n 1, 1) := by decide +kernel
theorem dX9_sendWaiting_33 : decode cX9_sendWaiting 33 = .ok (.iload_n 2, 1) := by decide +kernel
theorem dX9_sendWaiting_34 : decode cX9_sendWaiting 34 = .ok (.aload_n 3, 1) := by decide +kernel
theorem dX9_sendWaiting_35 : decode cX9_sendWaiting 35 = .ok (.iconst 0, 1) := by decide +kernel
theorem dX9_sendWaiting_36 : decode cX9_sendWaiting 36 = .ok (.iaload, 1) := by decide +kernel
theorem dX9_sendWaiting_37 : decode cX9_sendWaiting 37 = .ok (.aload_n 3, 1) := by decide +kernel
theorem dX9_sendWaiting_38 : decode cX9_sendWaiting 38 = .ok (.iconst 1, 1) := by decide +kernel
theorem dX9_sendWaiting_39 : decode cX9_sendWaiting 39 = .ok (.iaload, 1) := by decide +kernel
theorem dX9_sendWaiting_40 : decode cX9_sendWaiting 40 = .ok (.aload_n 3, 1) := by decide +kernel
theorem dX9_sendWaiting_41 : decode cX9_sendWaiting 41 = .ok (.iconst 2, 1) := by decide +kernel
theorem dX9_sendWaiting_42 : decode cX9_sendWaiting 42 = .ok (.iaload, 1) := by decide +kernel
theorem dX9_sendWaiting_43 : decode cX9_sendWaiting 43 = .ok (.invokevirtual 176, 3) := by decide +kernel
theorem dX9_sendWaiting_46 : decode cX9_sendWaiting 46 = .ok (.iconst 0, 1) := by decide +kernel
theorem dX9_sendWaiting_47 : decode cX9_sendWaiting 47 = .ok (.istore 4, 2) := by decide +kernel
theorem dX9_sendWaiting_49 : decode cX9_sendWaiting 49 = .ok (.iload 4, 2) := by decide +kernel
theorem dX9_sendWaiting_51 : decode cX9_sendWaiting 51 = .ok (.aload_n 0, 1) := by decide +kernel
theorem dX9_sendWaiting_52 : decode cX9_sendWaiting 52 = .ok (.getfield 64, 3) := by decide +kernel
theorem dX9_sendWaiting_55 : decode cX9_sendWaiting 55 = .ok (.iload_n 1, 1) := by decide +kernel
theorem dX9_sendWaiting_56 : decode cX9_sendWaiting 56 = .ok (.aaload, 1) := by decide +kernel
theorem dX9_sendWaiting_57 : decode cX9_sendWaiting 57 = .ok (.iload_n 2, 1) := by decide +kernel
theorem dX9_sendWaiting_58 : decode cX9_sendWaiting 58 = .ok (.iaload, 1) := by decide +kernel
theorem dX9_sendWaiting_59 : decode cX9_sendWaiting 59 = .ok (.iconst 1, 1) := by decide +kernel
theorem dX9_sendWaiting_60 : decode cX9_sendWaiting 60 = .ok (.isub, 1) := by decide +kernel
theorem dX9_sendWaiting_61 : decode cX9_sendWaiting 61 = .ok (.if_icmp .ge 33, 3) := by decide +kernel
theorem dX9_sendWaiting_64 : decode cX9_sendWaiting 64 = .ok (.aload_n 0, 1) := by decide +kernel
theorem dX9_sendWaiting_65 : decode cX9_sendWaiting 65 = .ok (.getfield 69, 3) := by decide +kernel
theorem dX9_sendWaiting_68 : decode cX9_sendWaiting 68 = .ok (.iload_n 1, 1) := by decide +kernel
theorem dX9_sendWaiting_69 : decode cX9_sendWaiting 69 = .ok (.aaload, 1) := by decide +kernel
theorem dX9_sendWaiting_70 : decode cX9_sendWaiting 70 = .ok (.iload_n 2, 1) := by decide +kernel
theorem dX9_sendWaiting_71 : decode cX9_sendWaiting 71 = .ok (.aaload, 1) := by decide +kernel
theorem dX9_sendWaiting_72 : decode cX9_sendWaiting 72 = .ok (.iload 4, 2) := by decide +kernel
theorem dX9_sendWaiting_74 : decode cX9_sendWaiting 74 = .ok (.aload_n 0, 1) := by decide +kernel
theorem dX9_sendWaiting_75 : decode cX9_sendWaiting 75 = .ok (.getfield 69, 3) := by decide +kernel
theorem dX9_sendWaiting_78 : decode cX9_sendWaiting 78 = .ok (.iload_n 1, 1) := by decide +kernel
theorem dX9_sendWaiting_79 : decode cX9_sendWaiting 79 = .ok (.aaload, 1) := by decide +kernel
theorem dX9_sendWaiting_80 : decode cX9_sendWaiting 80 = .ok (.iload_n 2, 1) := by decide +kernel
theorem dX9_sendWaiting_81 : decode cX9_sendWaiting 81 = .ok (.aaload, 1) := by decide +kernel
theorem dX9_sendWaiting_82 : decode cX9_sendWaiting 82 = .ok (.iload 4, 2) := by decide +kernel
theorem dX9_sendWaiting_84 : decode cX9_sendWaiting 84 = .ok (.iconst 1, 1) := by decide +kernel
theorem dX9_sendWaiting_85 : decode cX9_sendWaiting 85 = .ok (.iadd, 1) := by decide +kernel
theorem dX9_sendWaiting_86 : decode cX9_sendWaiting 86 = .ok (.aaload, 1) := by decide +kernel
theorem dX9_sendWaiting_87 : decode cX9_sendWaiting 87 = .ok (.aastore, 1) := by decide +kernel
theorem dX9_sendWaiting_88 : decode cX9_sendWaiting 88 = .ok (.iinc 4 1, 3) := by decide +kernel
theorem dX9_sendWaiting_91 : decode cX9_sendWaiting 91 = .ok (.goto (-42), 3) := by decide +kernel
theorem dX9_sendWaiting_94 : decode cX9_sendWaiting 94 = .ok (.aload_n 0, 1) := by decide +kernel
theorem dX9_sendWaiting_95 : decode cX9_sendWaiting 95 = .ok (.getfield 64, 3) := by decide +kernel
theorem dX9_sendWaiting_98 : decode cX9_sendWaiting 98 = .ok (.iload_n 1, 1) := by decide +kernel
theorem dX9_sendWaiting_99 : decode cX9_sendWaiting 99 = .ok (.aaload, 1) := by decide +kernel
theorem dX9_sendWaiting_100 : decode cX9_sendWaiting 100 = .ok (.iload_n 2, 1) := by decide +kernel
theorem dX9_sendWaiting_101 : decode cX9_sendWaiting 101 = .ok (.dup2, 1) := by decide +kernel
theorem dX9_sendWaiting_102 : decode cX9_sendWaiting 102 = .ok (.iaload, 1) := by decide +kernel
theorem dX9_sendWaiting_103 : decode cX9_sendWaiting 103 = .ok (.iconst 1, 1) := by decide +kernel
theorem dX9_sendWaiting_104 : decode cX9_sendWaiting 104 = .ok (.isub, 1) := by decide +kernel
theorem dX9_sendWaiting_105 : decode cX9_sendWaiting 105 = .ok (.iastore, 1) := by decide +kernel
theorem dX9_sendWaiting_106 : decode cX9_sendWaiting 106 = .ok (.goto (-106), 3) := by decide +kernel
theorem dX9_sendWaiting_109 : decode cX9_sendWaiting 109 = .ok (.return_, 1) := by decide +kernel
theorem dX9_given_0 : decode cX9_given 0 = .ok (.iconst (-1), 1) := by decide +kernel
theorem dX9_given_1 : decode cX9_given 1 = .ok (.istore_n 3, 1) := by decide +kernel
theorem dX9_given_2 : decode cX9_given 2 = .ok (.iconst (-1), 1) := by decide +kernel
theorem dX9_given_3 : decode cX9_given 3 = .ok (.istore 4, 2) := by decide +kernel
theorem dX9_given_5 : decode cX9_given 5 = .ok (.iconst 0, 1) := by decide +kernel
theorem dX9_given_6 : decode cX9_given 6 = .ok (.istore 5, 2) := by decide +kernel
theorem dX9_given_8 : decode cX9_given 8 = .ok (.iload 5, 2) := by decide +kernel
theorem dX9_given_10 : decode cX9_given 10 = .ok (.aload_n 0, 1) := by decide +kernel
theorem dX9_given_11 : decode cX9_given 11 = .ok (.getfield 17, 3) := by decide +kernel
theorem dX9_given_14 : decode cX9_given 14 = .ok (.iload_n 1, 1) := by decide +kernel
theorem dX9_given_15 : decode cX9_given 15 = .ok (.iaload, 1) := by decide +kernel
theorem dX9_given_16 : decode cX9_given 16 = .ok (.if_icmp .ge 56, 3) := by decide +kernel
theorem dX9_given_19 : decode cX9_given 19 = .ok (.aload_n 0, 1) := by decide +kernel
theorem dX9_given_20 : decode cX9_given 20 = .ok (.getfield 32, 3) := by decide +kernel
theorem dX9_given_23 : decode cX9_given 23 = .ok (.iload_n 1, 1) := by decide +kernel
theorem dX9_given_24 : decode cX9_given 24 = .ok (.aaload, 1) := by decide +kernel
theorem dX9_given_25 : decode cX9_given 25 = .ok (.iload 5, 2) := by decide +kernel
theorem dX9_given_27 : decode cX9_given 27 = .ok (.aaload, 1) := by decide +kernel
theorem dX9_given_28 : decode cX9_given 28 = .ok (.astore 6, 2) := by decide +kernel
theorem dX9_given_30 : decode cX9_given 30 = .ok (.aload 6, 2) := by decide +kernel
theorem dX9_given_32 : decode cX9_given 32 = .ok (.iconst 1, 1) := by decide +kernel
theorem dX9_given_33 : decode cX9_given 33 = .ok (.iaload, 1) := by decide +kernel
theorem dX9_given_34 : decode cX9_given 34 = .ok (.iload_n 3, 1) := by decide +kernel
theorem dX9_given_35 : decode cX9_given 35 = .ok (.if_icmp .le 31, 3) := by decide +kernel
theorem dX9_given_38 : decode cX9_given 38 = .ok (.iload_n 2, 1) := by decide +kernel
theorem dX9_given_39 : decode cX9_given 39 = .ok (.aload 6, 2) := by decide +kernel
theorem dX9_given_41 : decode cX9_given 41 = .ok (.iconst 0, 1) := by decide +kernel
theorem dX9_given_42 : decode cX9_given 42 = .ok (.iaload, 1) := by decide +kernel
theorem dX9_given_43 : decode cX9_given 43 = .ok (.ixor, 1) := by decide +kernel
theorem dX9_given_44 : decode cX9_given 44 = .ok (.bipush 8, 2) := by decide +kernel
theorem dX9_given_46 : decode cX9_given 46 = .ok (.aload 6, 2) := by decide +kernel
theorem dX9_given_48 : decode cX9_given 48 = .ok (.iconst 1, 1) := by decide +kernel
theorem dX9_given_49 : decode cX9_given 49 = .ok (.iaload, 1) := by decide +kernel
theorem dX9_given_50 : decode cX9_given 50 = .ok (.isub, 1) := by decide +kernel
theorem dX9_given_51 : decode cX9_given 51 = .ok (.ishr, 1) := by decide +kernel
theorem dX9_given_52 : decode cX9_given 52 = .ok (.ifCond .ne 14, 3) := by decide +kernel
theorem dX9_given_55 : decode cX9_given 55 = .ok (.aload 6, 2) := by decide +kernel
theorem dX9_given_57 : decode cX9_given 57 = .ok (.iconst 1, 1) := by decide +kernel
theorem dX9_given_58 : decode cX9_given 58 = .ok (.iaload, 1) := by decide +kernel
theorem dX9_given_59 : decode cX9_given 59 = .ok (.istore_n 3, 1) := by decide +kernel
theorem dX9_given_60 : decode cX9_given 60 = .ok (.aload 6, 2) := by decide +kernel
theorem dX9_given_62 : decode cX9_given 62 = .ok (.iconst 2, 1) := by decide +kernel
theorem dX9_given_63 : decode cX9_given 63 = .ok (.iaload, 1) := by decide +kernel
theorem dX9_given_64 : decode cX9_given 64 = .ok (.istore 4, 2) := by decide +kernel
theorem dX9_given_66 : decode cX9_given 66 = .ok (.iinc 5 1, 3) := by decide +kernel
theorem dX9_given_69 : decode cX9_given 69 = .ok (.goto (-61), 3) := by decide +kernel
theorem dX9_given_72 : decode cX9_given 72 = .ok (.iload 4, 2) := by decide +kernel
theorem dX9_given_74 : decode cX9_given 74 = .ok (.ireturn, 1) := by decide +kernel
theorem dX9_gotHello_0 : decode cX9_gotHello 0 = .ok (.aload_n 2, 1) := by decide +kernel
theorem dX9_gotHello_1 : decode cX9_gotHello 1 = .ok (.iconst 3, 1) := by decide +kernel
theorem dX9_gotHello_2 : decode cX9_gotHello 2 = .ok (.iaload, 1) := by decide +kernel
theorem dX9_gotHello_3 : decode cX9_gotHello 3 = .ok (.istore_n 3, 1) := by decide +kernel
theorem dX9_gotHello_4 : decode cX9_gotHello 4 = .ok (.aload_n 2, 1) := by decide +kernel
theorem dX9_gotHello_5 : decode cX9_gotHello 5 = .ok (.iconst 4, 1) := by decide +kernel
theorem dX9_gotHello_6 : decode cX9_gotHello 6 = .ok (.iaload, 1) := by decide +kernel
theorem dX9_gotHello_7 : decode cX9_gotHello 7 = .ok (.istore 4, 2) := by decide +kernel
theorem dX9_gotHello_9 : decode cX9_gotHello 9 = .ok (.aload_n 2, 1) := by decide +kernel
theorem dX9_gotHello_10 : decode cX9_gotHello 10 = .ok (.iconst 5, 1) := by decide +kernel
theorem dX9_gotHello_11 : decode cX9_gotHello 11 = .ok (.iaload, 1) := by decide +kernel
theorem dX9_gotHello_12 : decode cX9_gotHello 12 = .ok (.istore 5, 2) := by decide +kernel
theorem dX9_gotHello_14 : decode cX9_gotHello 14 = .ok (.aload_n 2, 1) := by decide +kernel
theorem dX9_gotHello_15 : decode cX9_gotHello 15 = .ok (.bipush 6, 2) := by decide +kernel
theorem dX9_gotHello_17 : decode cX9_gotHello 17 = .ok (.iaload, 1) := by decide +kernel
theorem dX9_gotHello_18 : decode cX9_gotHello 18 = .ok (.istore 6, 2) := by decide +kernel
theorem dX9_gotHello_20 : decode cX9_gotHello 20 = .ok (.aload_n 2, 1) := by decide +kernel
theorem dX9_gotHello_21 : decode cX9_gotHello 21 = .ok (.bipush 7, 2) := by decide +kernel
theorem dX9_gotHello_23 : decode cX9_gotHello 23 = .ok (.iaload, 1) := by decide +kernel
theorem dX9_gotHello_24 : decode cX9_gotHello 24 = .ok (.istore 7, 2) := by decide +kernel
theorem dX9_gotHello_26 : decode cX9_gotHello 26 = .ok (.iload 5, 2) := by decide +kernel
theorem dX9_gotHello_28 : decode cX9_gotHello 28 = .ok (.bipush 10, 2) := by decide +kernel
theorem dX9_gotHello_30 : decode cX9_gotHello 30 = .ok (.idiv, 1) := by decide +kernel
theorem dX9_gotHello_31 : decode cX9_gotHello 31 = .ok (.istore 8, 2) := by decide +kernel
theorem dX9_gotHello_33 : decode cX9_gotHello 33 = .ok (.iload 5, 2) := by decide +kernel
theorem dX9_gotHello_35 : decode cX9_gotHello 35 = .ok (.bipush 10, 2) := by decide +kernel
theorem dX9_gotHello_37 : decode cX9_gotHello 37 = .ok (.irem, 1) := by decide +kernel
theorem dX9_gotHello_38 : decode cX9_gotHello 38 = .ok (.iload_n 1, 1) := by decide +kernel
theorem dX9_gotHello_39 : decode cX9_gotHello 39 = .ok (.if_icmp .eq 5, 3) := by decide +kernel
theorem dX9_gotHello_42 : decode cX9_gotHello 42 = .ok (.iconst (-1), 1) := by decide +kernel
theorem dX9_gotHello_43 : decode cX9_gotHello 43 = .ok (.ireturn, 1) := by decide +kernel
theorem dX9_gotHello_44 : decode cX9_gotHello 44 = .ok (.iconst 4, 1) := by decide +kernel
theorem dX9_gotHello_45 : decode cX9_gotHello 45 = .ok (.newarray .int, 2) := by decide +kernel
theorem dX9_gotHello_47 : decode cX9_gotHello 47 = .ok (.dup, 1) := by decide +kernel
theorem dX9_gotHello_48 : decode cX9_gotHello 48 = .ok (.iconst 0, 1) := by decide +kernel
theorem dX9_gotHello_49 : decode cX9_gotHello 49 = .ok (.bipush 6, 2) := by decide +kernel
theorem dX9_gotHello_51 : decode cX9_gotHello 51 = .ok (.iastore, 1) := by decide +kernel
theorem dX9_gotHello_52 : decode cX9_gotHello 52 = .ok (.dup, 1) := by decide +kernel
theorem dX9_gotHello_53 : decode cX9_gotHello 53 = .ok (.iconst 1, 1) := by decide +kernel
theorem dX9_gotHello_54 : decode cX9_gotHello 54 = .ok (.iload_n 1, 1) := by decide +kernel
theorem dX9_gotHello_55 : decode cX9_gotHello 55 = .ok (.invokestatic 118, 3) := by decide +kernel
theorem dX9_gotHello_58 : decode cX9_gotHello 58 = .ok (.iastore, 1) := by decide +kernel
theorem dX9_gotHello_59 : decode cX9_gotHello 59 = .ok (.dup, 1) := by decide +kernel
theorem dX9_gotHello_60 : decode cX9_gotHello 60 = .ok (.iconst 2, 1) := by decide +kernel
theorem dX9_gotHello_61 : decode cX9_gotHello 61 = .ok (.aload_n 0, 1) := by decide +kernel
theorem dX9_gotHello_62 : decode cX9_gotHello 62 = .ok (.getfield 129, 3) := by decide +kernel
theorem dX9_gotHello_65 : decode cX9_gotHello 65 = .ok (.bipush 60, 2) := by decide +kernel
theorem dX9_gotHello_67 : decode cX9_gotHello 67 = .ok (.idiv, 1) := by decide +kernel
theorem dX9_gotHello_68 : decode cX9_gotHello 68 = .ok (.iastore, 1) := by decide +kernel
theorem dX9_gotHello_69 : decode cX9_gotHello 69 = .ok (.dup, 1) := by decide +kernel
theorem dX9_gotHello_70 : decode cX9_gotHello 70 = .ok (.iconst 3, 1) := by decide +kernel
theorem dX9_gotHello_71 : decode cX9_gotHello 71 = .ok (.aload_n 2, 1) := by decide +kernel
theorem dX9_gotHello_72 : decode cX9_gotHello 72 = .ok (.iconst 0, 1) := by decide +kernel
theorem dX9_gotHello_73 : decode cX9_gotHello 73 = .ok (.iaload, 1) := by decide +kernel
theorem dX9_gotHello_74 : decode cX9_gotHello 74 = .ok (.iastore, 1) := by decide +kernel
theorem dX9_gotHello_75 : decode cX9_gotHello 75 = .ok (.invokestatic 138, 3) := by decide +kernel
theorem dX9_gotHello_78 : decode cX9_gotHello 78 = .ok (.istore 9, 2) := by decide +kernel
theorem dX9_gotHello_80 : decode cX9_gotHello 80 = .ok (.aload_n 0, 1) := by decide +kernel
theorem dX9_gotHello_81 : decode cX9_gotHello 81 = .ok (.getfield 26, 3) := by decide +kernel
theorem dX9_gotHello_84 : decode cX9_gotHello 84 = .ok (.iload_n 1, 1) := by decide +kernel
theorem dX9_gotHello_85 : decode cX9_gotHello 85 = .ok (.baload, 1) := by decide +kernel
theorem dX9_gotHello_86 : decode cX9_gotHello 86 = .ok (.ifCond .eq 103, 3) := by decide +kernel
theorem dX9_gotHello_89 : decode cX9_gotHello 89 = .ok (.aload_n 2, 1) := by decide +kernel
theorem dX9_gotHello_90 : decode cX9_gotHello 90 = .ok (.bipush 8, 2) := by decide +kernel
theorem dX9_gotHello_92 : decode cX9_gotHello 92 = .ok (.iaload, 1) := by decide +kernel
theorem dX9_gotHello_93 : decode cX9_gotHello 93 = .ok (.iconst 3, 1) := by decide +kernel
theorem dX9_gotHello_94 : decode cX9_gotHello 94 = .ok (.newarray .int, 2) := by decide +kernel
theorem dX9_gotHello_96 : decode cX9_gotHello 96 = .ok (.dup, 1) := by decide +kernel
theorem dX9_gotHello_97 : decode cX9_gotHello 97 = .ok (.iconst 0, 1) := by decide +kernel
theorem dX9_gotHello_98 : decode cX9_gotHello 98 = .ok (.iconst 2, 1) := by decide +kernel
theorem dX9_gotHello_99 : decode cX9_gotHello 99 = .ok (.iastore, 1) := by decide +kernel
theorem dX9_gotHello_100 : decode cX9_gotHello 100 = .ok (.dup, 1) := by decide +kernel
theorem dX9_gotHello_101 : decode cX9_gotHello 101 = .ok (.iconst 1, 1) := by decide +kernel
theorem dX9_gotHello_102 : decode cX9_gotHello 102 = .ok (.iload 9, 2) := by decide +kernel
theorem dX9_gotHello_104 : decode cX9_gotHello 104 = .ok (.iastore, 1) := by decide +kernel
theorem dX9_gotHello_105 : decode cX9_gotHello 105 = .ok (.dup, 1) := by decide +kernel
theorem dX9_gotHello_106 : decode cX9_gotHello 106 = .ok (.iconst 2, 1) := by decide +kernel
theorem dX9_gotHello_107 : decode cX9_gotHello 107 = .ok (.iload 7, 2) := by decide +kernel
theorem dX9_gotHello_109 : decode cX9_gotHello 109 = .ok (.iastore, 1) := by decide +kernel
theorem dX9_gotHello_110 : decode cX9_gotHello 110 = .ok (.invokestatic 138, 3) := by decide +kernel
theorem dX9_gotHello_113 : decode cX9_gotHello 113 = .ok (.if_icmp .eq 76, 3) := by decide +kernel
theorem dX9_gotHello_116 : decode cX9_gotHello 116 = .ok (.aload_n 0, 1) := by decide +kernel
theorem dX9_gotHello_117 : decode cX9_gotHello 117 = .ok (.aload_n 0, 1) := by decide +kernel
theorem dX9_gotHello_118 : decode cX9_gotHello 118 = .ok (.getfield 13, 3) := by decide +kernel
theorem dX9_gotHello_121 : decode cX9_gotHello 121 = .ok (.iload_n 1, 1) := by decide +kernel
theorem dX9_gotHello_122 : decode cX9_gotHello 122 = .ok (.iaload, 1) := by decide +kernel
theorem dX9_gotHello_123 : decode cX9_gotHello 123 = .ok (.aload_n 2, 1) := by decide +kernel
theorem dX9_gotHello_124 : decode cX9_gotHello 124 = .ok (.iconst 0, 1) := by decide +kernel
theorem dX9_gotHello_125 : decode cX9_gotHello 125 = .ok (.iaload, 1) := by decide +kernel
theorem dX9_gotHello_126 : decode cX9_gotHello 126 = .ok (.iconst 3, 1) := by decide +kernel
theorem dX9_gotHello_127 : decode cX9_gotHello 127 = .ok (.iconst 3, 1) := by decide +kernel
theorem dX9_gotHello_128 : decode cX9_gotHello 128 = .ok (.newarray .int, 2) := by decide +kernel
theorem dX9_gotHello_130 : decode cX9_gotHello 130 = .ok (.dup, 1) := by decide +kernel
theorem dX9_gotHello_131 : decode cX9_gotHello 131 = .ok (.iconst 0, 1) := by decide +kernel
theorem dX9_gotHello_132 : decode cX9_gotHello 132 = .ok (.iload_n 3, 1) := by decide +kernel
theorem dX9_gotHello_133 : decode cX9_gotHello 133 = .ok (.iastore, 1) := by decide +kernel
theorem dX9_gotHello_134 : decode cX9_gotHello 134 = .ok (.dup, 1) := by decide +kernel
theorem dX9_gotHello_135 : decode cX9_gotHello 135 = .ok (.iconst 1, 1) := by decide +kernel
theorem dX9_gotHello_136 : decode cX9_gotHello 136 = .ok (.iload 9, 2) := by decide +kernel
theorem dX9_gotHello_138 : decode cX9_gotHello 138 = .ok (.iastore, 1) := by decide +kernel
theorem dX9_gotHello_139 : decode cX9_gotHello 139 = .ok (.dup, 1) := by decide +kernel
theorem dX9_gotHello_140 : decode cX9_gotHello 140 = .ok (.iconst 2, 1) := by decide +kernel
theorem dX9_gotHello_141 : decode cX9_gotHello 141 = .ok (.iconst 3, 1) := by decide +kernel
theorem dX9_gotHello_142 : decode cX9_gotHello 142 = .ok (.newarray .int, 2) := by decide +kernel
theorem dX9_gotHello_144 : decode cX9_gotHello 144 = .ok (.dup, 1) := by decide +kernel
theorem dX9_gotHello_145 : decode cX9_gotHello 145 = .ok (.iconst 0, 1) := by decide +kernel
theorem dX9_gotHello_146 : decode cX9_gotHello 146 = .ok (.iconst 3, 1) := by decide +kernel
theorem dX9_gotHello_147 : decode cX9_gotHello 147 = .ok (.iastore, 1) := by decide +kernel
theorem dX9_gotHello_148 : decode cX9_gotHello 148 = .ok (.dup, 1) := by decide +kernel
theorem dX9_gotHello_149 : decode cX9_gotHello 149 = .ok (.iconst 1, 1) := by decide +kernel
theorem dX9_gotHello_150 : decode cX9_gotHello 150 = .ok (.iload_n 1, 1) := by decide +kernel
theorem dX9_gotHello_151 : decode cX9_gotHello 151 = .ok (.invokestatic 132, 3) := by decide +kernel
theorem dX9_gotHello_154 : decode cX9_gotHello 154 = .ok (.iastore, 1) := by decide +kernel
theorem dX9_gotHello_155 : decode cX9_gotHello 155 = .ok (.dup, 1) := by decide +kernel
theorem dX9_gotHello_156 : decode cX9_gotHello 156 = .ok (.iconst 2, 1) := by decide +kernel
theorem dX9_gotHello_157 : decode cX9_gotHello 157 = .ok (.iload 7, 2) := by decide +kernel
theorem dX9_gotHello_159 : decode cX9_gotHello 159 = .ok (.iastore, 1) := by decide +kernel
theorem dX9_gotHello_160 : decode cX9_gotHello 160 = .ok (.invokestatic 138, 3) := by decide +kernel
theorem dX9_gotHello_163 : decode cX9_gotHello 163 = .ok (.iconst 3, 1) := by decide +kernel
theorem dX9_gotHello_164 : decode cX9_gotHello 164 = .ok (.newarray .int, 2) := by decide +kernel
theorem dX9_gotHello_166 : decode cX9_gotHello 166 = .ok (.dup, 1) := by decide +kernel
theorem dX9_gotHello_167 : decode cX9_gotHello 167 = .ok (.iconst 0, 1) := by decide +kernel
theorem dX9_gotHello_168 : decode cX9_gotHello 168 = .ok (.iconst 3, 1) := by decide +kernel
theorem dX9_gotHello_169 : decode cX9_gotHello 169 = .ok (.iastore, 1) := by decide +kernel
theorem dX9_gotHello_170 : decode cX9_gotHello 170 = .ok (.dup, 1) := by decide +kernel
theorem dX9_gotHello_171 : decode cX9_gotHello 171 = .ok (.iconst 1, 1) := by decide +kernel
theorem dX9_gotHello_172 : decode cX9_gotHello 172 = .ok (.iload_n 3, 1) := by decide +kernel
theorem dX9_gotHello_173 : decode cX9_gotHello 173 = .ok (.iastore, 1) := by decide +kernel
theorem dX9_gotHello_174 : decode cX9_gotHello 174 = .ok (.dup, 1) := by decide +kernel
theorem dX9_gotHello_175 : decode cX9_gotHello 175 = .ok (.iconst 2, 1) := by decide +kernel
theorem dX9_gotHello_176 : decode cX9_gotHello 176 = .ok (.iload 9, 2) := by decide +kernel
theorem dX9_gotHello_178 : decode cX9_gotHello 178 = .ok (.iastore, 1) := by decide +kernel
theorem dX9_gotHello_179 : decode cX9_gotHello 179 = .ok (.invokestatic 154, 3) := by decide +kernel
theorem dX9_gotHello_182 : decode cX9_gotHello 182 = .ok (.iastore, 1) := by decide +kernel
theorem dX9_gotHello_183 : decode cX9_gotHello 183 = .ok (.invokevirtual 162, 3) := by decide +kernel
theorem dX9_gotHello_186 : decode cX9_gotHello 186 = .ok (.bipush (-7), 2) := by decide +kernel
theorem dX9_gotHello_188 : decode cX9_gotHello 188 = .ok (.ireturn, 1) := by decide +kernel
theorem dX9_gotHello_189 : decode cX9_gotHello 189 = .ok (.iconst 3, 1) := by decide +kernel
theorem dX9_gotHello_190 : decode cX9_gotHello 190 = .ok (.newarray .int, 2) := by decide +kernel
theorem dX9_gotHello_192 : decode cX9_gotHello 192 = .ok (.dup, 1) := by decide +kernel
theorem dX9_gotHello_193 : decode cX9_gotHello 193 = .ok (.iconst 0, 1) := by decide +kernel
theorem dX9_gotHello_194 : decode cX9_gotHello 194 = .ok (.iconst 1, 1) := by decide +kernel
theorem dX9_gotHello_195 : decode cX9_gotHello 195 = .ok (.iastore, 1) := by decide +kernel
theorem dX9_gotHello_196 : decode cX9_gotHello 196 = .ok (.dup, 1) := by decide +kernel
theorem dX9_gotHello_197 : decode cX9_gotHello 197 = .ok (.iconst 1, 1) := by decide +kernel
theorem dX9_gotHello_198 : decode cX9_gotHello 198 = .ok (.iload_n 1, 1) := by decide +kernel
theorem dX9_gotHello_199 : decode cX9_gotHello 199 = .ok (.invokestatic 118, 3) := by decide +kernel
theorem dX9_gotHello_202 : decode cX9_gotHello 202 = .ok (.iload 4, 2) := by decide +kernel
theorem dX9_gotHello_204 : decode cX9_gotHello 204 = .ok (.invokestatic 135, 3) := by decide +kernel
theorem dX9_gotHello_207 : decode cX9_gotHello 207 = .ok (.iastore, 1) := by decide +kernel
theorem dX9_gotHello_208 : decode cX9_gotHello 208 = .ok (.dup, 1) := by decide +kernel
theorem dX9_gotHello_209 : decode cX9_gotHello 209 = .ok (.iconst 2, 1) := by decide +kernel
theorem dX9_gotHello_210 : decode cX9_gotHello 210 = .ok (.iload_n 1, 1) := by decide +kernel
theorem dX9_gotHello_211 : decode cX9_gotHello 211 = .ok (.invokestatic 118, 3) := by decide +kernel
theorem dX9_gotHello_214 : decode cX9_gotHello 214 = .ok (.iload 8, 2) := by decide +kernel
theorem dX9_gotHello_216 : decode cX9_gotHello 216 = .ok (.invokestatic 132, 3) := by decide +kernel
theorem dX9_gotHello_219 : decode cX9_gotHello 219 = .ok (.invokestatic 135, 3) := by decide +kernel
theorem dX9_gotHello_222 : decode cX9_gotHello 222 = .ok (.iastore, 1) := by decide +kernel
theorem dX9_gotHello_223 : decode cX9_gotHello 223 = .ok (.invokestatic 138, 3) := by decide +kernel
theorem dX9_gotHello_226 : decode cX9_gotHello 226 = .ok (.istore 10, 2) := by decide +kernel
theorem dX9_gotHello_228 : decode cX9_gotHello 228 = .ok (.iload 7, 2) := by decide +kernel
theorem dX9_gotHello_230 : decode cX9_gotHello 230 = .ok (.iload 10, 2) := by decide +kernel
theorem dX9_gotHello_232 : decode cX9_gotHello 232 = .ok (.iconst 5, 1) := by decide +kernel
theorem dX9_gotHello_233 : decode cX9_gotHello 233 = .ok (.newarray .int, 2) := by decide +kernel
theorem dX9_gotHello_235 : decode cX9_gotHello 235 = .ok (.dup, 1) := by decide +kernel
theorem dX9_gotHello_236 : decode cX9_gotHello 236 = .ok (.iconst 0, 1) := by decide +kernel
theorem dX9_gotHello_237 : decode cX9_gotHello 237 = .ok (.iconst 1, 1) := by decide +kernel
theorem dX9_gotHello_238 : decode cX9_gotHello 238 = .ok (.iastore, 1) := by decide +kernel
theorem dX9_gotHello_239 : decode cX9_gotHello 239 = .ok (.dup, 1) := by decide +kernel
theorem dX9_gotHello_240 : decode cX9_gotHello 240 = .ok (.iconst 1, 1) := by decide +kernel
theorem dX9_gotHello_241 : decode cX9_gotHello 241 = .ok (.iload_n 3, 1) := by decide +kernel
theorem dX9_gotHello_242 : decode cX9_gotHello 242 = .ok (.iastore, 1) := by decide +kernel
theorem dX9_gotHello_243 : decode cX9_gotHello 243 = .ok (.dup, 1) := by decide +kernel
theorem dX9_gotHello_244 : decode cX9_gotHello 244 = .ok (.iconst 2, 1) := by decide +kernel
theorem dX9_gotHello_245 : decode cX9_gotHello 245 = .ok (.iload 4, 2) := by decide +kernel
theorem dX9_gotHello_247 : decode cX9_gotHello 247 = .ok (.iastore, 1) := by decide +kernel
theorem dX9_gotHello_248 : decode cX9_gotHello 248 = .ok (.dup, 1) := by decide +kernel
theorem dX9_gotHello_249 : decode cX9_gotHello 249 = .ok (.iconst 3, 1) := by decide +kernel
theorem dX9_gotHello_250 : decode cX9_gotHello 250 = .ok (.iload 5, 2) := by decide +kernel
theorem dX9_gotHello_252 : decode cX9_gotHello 252 = .ok (.iastore, 1) := by decide +kernel
theorem dX9_gotHello_253 : decode cX9_gotHello 253 = .ok (.dup, 1) := by decide +kernel
theorem dX9_gotHello_254 : decode cX9_gotHello 254 = .ok (.iconst 4, 1) := by decide +kernel
theorem dX9_gotHello_255 : decode cX9_gotHello 255 = .ok (.iload 6, 2) := by decide +kernel
theorem dX9_gotHello_257 : decode cX9_gotHello 257 = .ok (.iastore, 1) := by decide +kernel
theorem dX9_gotHello_258 : decode cX9_gotHello 258 = .ok (.invokestatic 154, 3) := by decide +kernel
theorem dX9_gotHello_261 : decode cX9_gotHello 261 = .ok (.if_icmp .eq 6, 3) := by decide +kernel
theorem dX9_gotHello_264 : decode cX9_gotHello 264 = .ok (.bipush (-2), 2) := by decide +kernel
theorem dX9_gotHello_266 : decode cX9_gotHello 266 = .ok (.ireturn, 1) := by decide +kernel
theorem dX9_gotHello_267 : decode cX9_gotHello 267 = .ok (.iload 6, 2) := by decide +kernel
theorem dX9_gotHello_269 : decode cX9_gotHello 269 = .ok (.aload_n 0, 1) := by decide +kernel
theorem dX9_gotHello_270 : decode cX9_gotHello 270 = .ok (.getfield 40, 3) := by decide +kernel
theorem dX9_gotHello_273 : decode cX9_gotHello 273 = .ok (.iload_n 1, 1) := by decide +kernel
theorem dX9_gotHello_274 : decode cX9_gotHello 274 = .ok (.aaload, 1) := by decide +kernel
theorem dX9_gotHello_275 : decode cX9_gotHello 275 = .ok (.iload 8, 2) := by decide +kernel
theorem dX9_gotHello_277 : decode cX9_gotHello 277 = .ok (.iaload, 1) := by decide +kernel
theorem dX9_gotHello_278 : decode cX9_gotHello 278 = .ok (.if_icmp .gt 6, 3) := by decide +kernel
theorem dX9_gotHello_281 : decode cX9_gotHello 281 = .ok (.bipush (-6), 2) := by decide +kernel
theorem dX9_gotHello_283 : decode cX9_gotHello 283 = .ok (.ireturn, 1) := by decide +kernel
theorem dX9_gotHello_284 : decode cX9_gotHello 284 = .ok (.aload_n 0, 1) := by decide +kernel
theorem dX9_gotHello_285 : decode cX9_gotHello 285 = .ok (.getfield 40, 3) := by decide +kernel
theorem dX9_gotHello_288 : decode cX9_gotHello 288 = .ok (.iload_n 1, 1) := by decide +kernel
theorem dX9_gotHello_289 : decode cX9_gotHello 289 = .ok (.aaload, 1) := by decide +kernel
theorem dX9_gotHello_290 : decode cX9_gotHello 290 = .ok (.iload 8, 2) := by decide +kernel
theorem dX9_gotHello_292 : decode cX9_gotHello 292 = .ok (.iload 6, 2) := by decide +kernel
theorem dX9_gotHello_294 : decode cX9_gotHello 294 = .ok (.iastore, 1) := by decide +kernel
theorem dX9_gotHello_295 : decode cX9_gotHello 295 = .ok (.aload_n 0, 1) := by decide +kernel
theorem dX9_gotHello_296 : decode cX9_gotHello 296 = .ok (.getfield 37, 3) := by decide +kernel
theorem dX9_gotHello_299 : decode cX9_gotHello 299 = .ok (.iload_n 1, 1) := by decide +kernel
theorem dX9_gotHello_300 : decode cX9_gotHello 300 = .ok (.aaload, 1) := by decide +kernel
theorem dX9_gotHello_301 : decode cX9_gotHello 301 = .ok (.iload 8, 2) := by decide +kernel
theorem dX9_gotHello_303 : decode cX9_gotHello 303 = .ok (.aload_n 2, 1) := by decide +kernel
theorem dX9_gotHello_304 : decode cX9_gotHello 304 = .ok (.iconst 0, 1) := by decide +kernel
theorem dX9_gotHello_305 : decode cX9_gotHello 305 = .ok (.iaload, 1) := by decide +kernel
theorem dX9_gotHello_306 : decode cX9_gotHello 306 = .ok (.iastore, 1) := by decide +kernel
theorem dX9_gotHello_307 : decode cX9_gotHello 307 = .ok (.aload_n 0, 1) := by decide +kernel
theorem dX9_gotHello_308 : decode cX9_gotHello 308 = .ok (.dup, 1) := by decide +kernel
theorem dX9_gotHello_309 : decode cX9_gotHello 309 = .ok (.getfield 7, 3) := by decide +kernel
theorem dX9_gotHello_312 : decode cX9_gotHello 312 = .ok (.dup_x1, 1) := by decide +kernel
theorem dX9_gotHello_313 : decode cX9_gotHello 313 = .ok (.iconst 1, 1) := by decide +kernel
theorem dX9_gotHello_314 : decode cX9_gotHello 314 = .ok (.iadd, 1) := by decide +kernel
theorem dX9_gotHello_315 : decode cX9_gotHello 315 = .ok (.putfield 7, 3) := by decide +kernel
theorem dX9_gotHello_318 : decode cX9_gotHello 318 = .ok (.istore 11, 2) := by decide +kernel
theorem dX9_gotHello_320 : decode cX9_gotHello 320 = .ok (.iload 11, 2) := by decide +kernel
theorem dX9_gotHello_322 : decode cX9_gotHello 322 = .ok (.invokestatic 142, 3) := by decide +kernel
theorem dX9_gotHello_325 : decode cX9_gotHello 325 = .ok (.istore 12, 2) := by decide +kernel
theorem dX9_gotHello_327 : decode cX9_gotHello 327 = .ok (.iconst 4, 1) := by decide +kernel
theorem dX9_gotHello_328 : decode cX9_gotHello 328 = .ok (.newarray .int, 2) := by decide +kernel
theorem dX9_gotHello_330 : decode cX9_gotHello 330 = .ok (.dup, 1) := by decide +kernel
theorem dX9_gotHello_331 : decode cX9_gotHello 331 = .ok (.iconst 0, 1) := by decide +kernel
theorem dX9_gotHello_332 : decode cX9_gotHello 332 = .ok (.iconst 4, 1) := by decide +kernel
theorem dX9_gotHello_333 : decode cX9_gotHello 333 = .ok (.iastore, 1) := by decide +kernel
theorem dX9_gotHello_334 : decode cX9_gotHello 334 = .ok (.dup, 1) := by decide +kernel
theorem dX9_gotHello_335 : decode cX9_gotHello 335 = .ok (.iconst 1, 1) := by decide +kernel
theorem dX9_gotHello_336 : decode cX9_gotHello 336 = .ok (.iload 10, 2) := by decide +kernel
theorem dX9_gotHello_338 : decode cX9_gotHello 338 = .ok (.iastore, 1) := by decide +kernel
theorem dX9_gotHello_339 : decode cX9_gotHello 339 = .ok (.dup, 1) := by decide +kernel
theorem dX9_gotHello_340 : decode cX9_gotHello 340 = .ok (.iconst 2, 1) := by decide +kernel
theorem dX9_gotHello_341 : decode cX9_gotHello 341 = .ok (.iload 12, 2) := by decide +kernel
theorem dX9_gotHello_343 : decode cX9_gotHello 343 = .ok (.iload 4, 2) := by decide +kernel
theorem dX9_gotHello_345 : decode cX9_gotHello 345 = .ok (.invokestatic 135, 3) := by decide +kernel
theorem dX9_gotHello_348 : decode cX9_gotHello 348 = .ok (.iastore, 1) := by decide +kernel
theorem dX9_gotHello_349 : decode cX9_gotHello 349 = .ok (.dup, 1) := by decide +kernel
theorem dX9_gotHello_350 : decode cX9_gotHello 350 = .ok (.iconst 3, 1) := by decide +kernel
theorem dX9_gotHello_351 : decode cX9_gotHello 351 = .ok (.iload 12, 2) := by decide +kernel
theorem dX9_gotHello_353 : decode cX9_gotHello 353 = .ok (.iload 8, 2) := by decide +kernel
theorem dX9_gotHello_355 : decode cX9_gotHello 355 = .ok (.invokestatic 132, 3) := by decide +kernel
theorem dX9_gotHello_358 : decode cX9_gotHello 358 = .ok (.invokestatic 135, 3) := by decide +kernel
theorem dX9_gotHello_361 : decode cX9_gotHello 361 = .ok (.iastore, 1) := by decide +kernel
theorem dX9_gotHello_362 : decode cX9_gotHello 362 = .ok (.invokestatic 138, 3) := by decide +kernel
theorem dX9_gotHello_365 : decode cX9_gotHello 365 = .ok (.istore 13, 2) := by decide +kernel
theorem dX9_gotHello_367 : decode cX9_gotHello 367 = .ok (.aload_n 0, 1) := by decide +kernel
theorem dX9_gotHello_368 : decode cX9_gotHello 368 = .ok (.aload_n 0, 1) := by decide +kernel
theorem dX9_gotHello_369 : decode cX9_gotHello 369 = .ok (.getfield 13, 3) := by decide +kernel
theorem dX9_gotHello_372 : decode cX9_gotHello 372 = .ok (.iload_n 1, 1) := by decide +kernel
theorem dX9_gotHello_373 : decode cX9_gotHello 373 = .ok (.iaload, 1) := by decide +kernel
theorem dX9_gotHello_374 : decode cX9_gotHello 374 = .ok (.aload_n 2, 1) := by decide +kernel
theorem dX9_gotHello_375 : decode cX9_gotHello 375 = .ok (.iconst 0, 1) := by decide +kernel
theorem dX9_gotHello_376 : decode cX9_gotHello 376 = .ok (.iaload, 1) := by decide +kernel
theorem dX9_gotHello_377 : decode cX9_gotHello 377 = .ok (.iconst 2, 1) := by decide +kernel
theorem dX9_gotHello_378 : decode cX9_gotHello 378 = .ok (.iconst 4, 1) := by decide +kernel
theorem dX9_gotHello_379 : decode cX9_gotHello 379 = .ok (.newarray .int, 2) := by decide +kernel
theorem dX9_gotHello_381 : decode cX9_gotHello 381 = .ok (.dup, 1) := by decide +kernel
theorem dX9_gotHello_382 : decode cX9_gotHello 382 = .ok (.iconst 0, 1) := by decide +kernel
theorem dX9_gotHello_383 : decode cX9_gotHello 383 = .ok (.iload 11, 2) := by decide +kernel
theorem dX9_gotHello_385 : decode cX9_gotHello 385 = .ok (.iastore, 1) := by decide +kernel
theorem dX9_gotHello_386 : decode cX9_gotHello 386 = .ok (.dup, 1) := by decide +kernel
theorem dX9_gotHello_387 : decode cX9_gotHello 387 = .ok (.iconst 1, 1) := by decide +kernel
theorem dX9_gotHello_388 : decode cX9_gotHello 388 = .ok (.iload_n 3, 1) := by decide +kernel
theorem dX9_gotHello_389 : decode cX9_gotHello 389 = .ok (.iastore, 1) := by decide +kernel
theorem dX9_gotHello_390 : decode cX9_gotHello 390 = .ok (.dup, 1) := by decide +kernel
theorem dX9_gotHello_391 : decode cX9_gotHello 391 = .ok (.iconst 2, 1) := by decide +kernel
theorem dX9_gotHello_392 : decode cX9_gotHello 392 = .ok (.iload 12, 2) := by decide +kernel
theorem dX9_gotHello_394 : decode cX9_gotHello 394 = .ok (.invokestatic 122, 3) := by decide +kernel
theorem dX9_gotHello_397 : decode cX9_gotHello 397 = .ok (.iastore, 1) := by decide +kernel
theorem dX9_gotHello_398 : decode cX9_gotHello 398 = .ok (.dup, 1) := by decide +kernel
theorem dX9_gotHello_399 : decode cX9_gotHello 399 = .ok (.iconst 3, 1) := by decide +kernel
theorem dX9_gotHello_400 : decode cX9_gotHello 400 = .ok (.iload 13, 2) := by decide +kernel
theorem dX9_gotHello_402 : decode cX9_gotHello 402 = .ok (.iconst 4, 1) := by decide +kernel
theorem dX9_gotHello_403 : decode cX9_gotHello 403 = .ok (.newarray .int, 2) := by decide +kernel
theorem dX9_gotHello_405 : decode cX9_gotHello 405 = .ok (.dup, 1) := by decide +kernel
theorem dX9_gotHello_406 : decode cX9_gotHello 406 = .ok (.iconst 0, 1) := by decide +kernel
theorem dX9_gotHello_407 : decode cX9_gotHello 407 = .ok (.iconst 2, 1) := by decide +kernel
theorem dX9_gotHello_408 : decode cX9_gotHello 408 = .ok (.iastore, 1) := by decide +kernel
theorem dX9_gotHello_409 : decode cX9_gotHello 409 = .ok (.dup, 1) := by decide +kernel
theorem dX9_gotHello_410 : decode cX9_gotHello 410 = .ok (.iconst 1, 1) := by decide +kernel
theorem dX9_gotHello_411 : decode cX9_gotHello 411 = .ok (.iload 11, 2) := by decide +kernel
theorem dX9_gotHello_413 : decode cX9_gotHello 413 = .ok (.iastore, 1) := by decide +kernel
theorem dX9_gotHello_414 : decode cX9_gotHello 414 = .ok (.dup, 1) := by decide +kernel
theorem dX9_gotHello_415 : decode cX9_gotHello 415 = .ok (.iconst 2, 1) := by decide +kernel
theorem dX9_gotHello_416 : decode cX9_gotHello 416 = .ok (.iload_n 3, 1) := by decide +kernel
theorem dX9_gotHello_417 : decode cX9_gotHello 417 = .ok (.iastore, 1) := by decide +kernel
theorem dX9_gotHello_418 : decode cX9_gotHello 418 = .ok (.dup, 1) := by decide +kernel
theorem dX9_gotHello_419 : decode cX9_gotHello 419 = .ok (.iconst 3, 1) := by decide +kernel
theorem dX9_gotHello_420 : decode cX9_gotHello 420 = .ok (.iload 12, 2) := by decide +kernel
theorem dX9_gotHello_422 : decode cX9_gotHello 422 = .ok (.invokestatic 122, 3) := by decide +kernel
theorem dX9_gotHello_425 : decode cX9_gotHello 425 = .ok (.iastore, 1) := by decide +kernel
theorem dX9_gotHello_426 : decode cX9_gotHello 426 = .ok (.invokestatic 154, 3) := by decide +kernel
theorem dX9_gotHello_429 : decode cX9_gotHello 429 = .ok (.iastore, 1) := by decide +kernel
theorem dX9_gotHello_430 : decode cX9_gotHello 430 = .ok (.invokevirtual 162, 3) := by decide +kernel
theorem dX9_gotHello_433 : decode cX9_gotHello 433 = .ok (.aload_n 0, 1) := by decide +kernel
theorem dX9_gotHello_434 : decode cX9_gotHello 434 = .ok (.iload_n 1, 1) := by decide +kernel
theorem dX9_gotHello_435 : decode cX9_gotHello 435 = .ok (.iload 8, 2) := by decide +kernel
theorem dX9_gotHello_437 : decode cX9_gotHello 437 = .ok (.iconst 2, 1) := by decide +kernel
theorem dX9_gotHello_438 : decode cX9_gotHello 438 = .ok (.iload 11, 2) := by decide +kernel
theorem dX9_gotHello_440 : decode cX9_gotHello 440 = .ok (.iload_n 3, 1) := by decide +kernel
theorem dX9_gotHello_441 : decode cX9_gotHello 441 = .ok (.iconst 3, 1) := by decide +kernel
theorem dX9_gotHello_442 : decode cX9_gotHello 442 = .ok (.newarray .int, 2) := by decide +kernel
theorem dX9_gotHello_444 : decode cX9_gotHello 444 = .ok (.dup, 1) := by decide +kernel
theorem dX9_gotHello_445 : decode cX9_gotHello 445 = .ok (.iconst 0, 1) := by decide +kernel
theorem dX9_gotHello_446 : decode cX9_gotHello 446 = .ok (.iconst 5, 1) := by decide +kernel
theorem dX9_gotHello_447 : decode cX9_gotHello 447 = .ok (.iastore, 1) := by decide +kernel
theorem dX9_gotHello_448 : decode cX9_gotHello 448 = .ok (.dup, 1) := by decide +kernel
theorem dX9_gotHello_449 : decode cX9_gotHello 449 = .ok (.iconst 1, 1) := by decide +kernel
theorem dX9_gotHello_450 : decode cX9_gotHello 450 = .ok (.iload 13, 2) := by decide +kernel
theorem dX9_gotHello_452 : decode cX9_gotHello 452 = .ok (.iastore, 1) := by decide +kernel
theorem dX9_gotHello_453 : decode cX9_gotHello 453 = .ok (.dup, 1) := by decide +kernel
theorem dX9_gotHello_454 : decode cX9_gotHello 454 = .ok (.iconst 2, 1) := by decide +kernel
theorem dX9_gotHello_455 : decode cX9_gotHello 455 = .ok (.iconst 1, 1) := by decide +kernel
theorem dX9_gotHello_456 : decode cX9_gotHello 456 = .ok (.iastore, 1) := by decide +kernel
theorem dX9_gotHello_457 : decode cX9_gotHello 457 = .ok (.invokestatic 138, 3) := by decide +kernel
theorem dX9_gotHello_460 : decode cX9_gotHello 460 = .ok (.iconst 3, 1) := by decide +kernel
theorem dX9_gotHello_461 : decode cX9_gotHello 461 = .ok (.newarray .int, 2) := by decide +kernel
theorem dX9_gotHello_463 : decode cX9_gotHello 463 = .ok (.dup, 1) := by decide +kernel
theorem dX9_gotHello_464 : decode cX9_gotHello 464 = .ok (.iconst 0, 1) := by decide +kernel
theorem dX9_gotHello_465 : decode cX9_gotHello 465 = .ok (.iconst 5, 1) := by decide +kernel
theorem dX9_gotHello_466 : decode cX9_gotHello 466 = .ok (.iastore, 1) := by decide +kernel
theorem dX9_gotHello_467 : decode cX9_gotHello 467 = .ok (.dup, 1) := by decide +kernel
theorem dX9_gotHello_468 : decode cX9_gotHello 468 = .ok (.iconst 1, 1) := by decide +kernel
theorem dX9_gotHello_469 : decode cX9_gotHello 469 = .ok (.iload 13, 2) := by decide +kernel
theorem dX9_gotHello_471 : decode cX9_gotHello 471 = .ok (.iastore, 1) := by decide +kernel
theorem dX9_gotHello_472 : decode cX9_gotHello 472 = .ok (.dup, 1) := by decide +kernel
theorem dX9_gotHello_473 : decode cX9_gotHello 473 = .ok (.iconst 2, 1) := by decide +kernel
theorem dX9_gotHello_474 : decode cX9_gotHello 474 = .ok (.iconst 0, 1) := by decide +kernel
theorem dX9_gotHello_475 : decode cX9_gotHello 475 = .ok (.iastore, 1) := by decide +kernel
theorem dX9_gotHello_476 : decode cX9_gotHello 476 = .ok (.invokestatic 138, 3) := by decide +kernel
theorem dX9_gotHello_479 : decode cX9_gotHello 479 = .ok (.iconst 0, 1) := by decide +kernel
theorem dX9_gotHello_480 : decode cX9_gotHello 480 = .ok (.invokevirtual 180, 3) := by decide +kernel
theorem dX9_gotHello_483 : decode cX9_gotHello 483 = .ok (.iconst 3, 1) := by decide +kernel
theorem dX9_gotHello_484 : decode cX9_gotHello 484 = .ok (.ireturn, 1) := by decide +kernel
theorem dX9_inFlight_0 : decode cX9_inFlight 0 = .ok (.iconst 0, 1) := by decide +kernel
theorem dX9_inFlight_1 : decode cX9_inFlight 1 = .ok (.istore_n 3, 1) := by decide +kernel
theorem dX9_inFlight_2 : decode cX9_inFlight 2 = .ok (.iload_n 3, 1) := by decide +kernel
theorem dX9_inFlight_3 : decode cX9_inFlight 3 = .ok (.iconst 3, 1) := by decide +kernel
theorem dX9_inFlight_4 : decode cX9_inFlight 4 = .ok (.if_icmp .ge 28, 3) := by decide +kernel
theorem dX9_inFlight_7 : decode cX9_inFlight 7 = .ok (.iload_n 3, 1) := by decide +kernel
theorem dX9_inFlight_8 : decode cX9_inFlight 8 = .ok (.iload_n 1, 1) := by decide +kernel
theorem dX9_inFlight_9 : decode cX9_inFlight 9 = .ok (.if_icmp .eq 17, 3) := by decide +kernel
theorem dX9_inFlight_12 : decode cX9_inFlight 12 = .ok (.aload_n 0, 1) := by decide +kernel
theorem dX9_inFlight_13 : decode cX9_inFlight 13 = .ok (.getfield 46, 3) := by decide +kernel
theorem dX9_inFlight_16 : decode cX9_inFlight 16 = .ok (.iload_n 1, 1) := by decide +kernel
theorem dX9_inFlight_17 : decode cX9_inFlight 17 = .ok (.aaload, 1) := by decide +kernel
theorem dX9_inFlight_18 : decode cX9_inFlight 18 = .ok (.iload_n 3, 1) := by decide +kernel
theorem dX9_inFlight_19 : decode cX9_inFlight 19 = .ok (.iaload, 1) := by decide +kernel
theorem dX9_inFlight_20 : decode cX9_inFlight 20 = .ok (.iload_n 2, 1) := by decide +kernel
theorem dX9_inFlight_21 : decode cX9_inFlight 21 = .ok (.if_icmp .ne 5, 3) := by decide +kernel
theorem dX9_inFlight_24 : decode cX9_inFlight 24 = .ok (.iload_n 3, 1) := by decide +kernel
theorem dX9_inFlight_25 : decode cX9_inFlight 25 = .ok (.ireturn, 1) := by decide +kernel
theorem dX9_inFlight_26 : decode cX9_inFlight 26 = .ok (.iinc 3 1, 3) := by decide +kernel
theorem dX9_inFlight_29 : decode cX9_inFlight 29 = .ok (.goto (-27), 3) := by decide +kernel
theorem dX9_inFlight_32 : decode cX9_inFlight 32 = .ok (.iconst (-1), 1) := by decide +kernel
theorem dX9_inFlight_33 : decode cX9_inFlight 33 = .ok (.ireturn, 1) := by decide +kernel
theorem dX9_gotReply_0 : decode cX9_gotReply 0 = .ok (.aload_n 2, 1) := by decide +kernel
theorem dX9_gotReply_1 : decode cX9_gotReply 1 = .ok (.iconst 3, 1) := by decide +kernel
theorem dX9_gotReply_2 : decode cX9_gotReply 2 = .ok (.iaload, 1) := by decide +kernel
theorem dX9_gotReply_3 : decode cX9_gotReply 3 = .ok (.istore_n 3, 1) := by decide +kernel
theorem dX9_gotReply_4 : decode cX9_gotReply 4 = .ok (.aload_n 2, 1) := by decide +kernel
theorem dX9_gotReply_5 : decode cX9_gotReply 5 = .ok (.iconst 4, 1) := by decide +kernel
theorem dX9_gotReply_6 : decode cX9_gotReply 6 = .ok (.iaload, 1) := by decide +kernel
theorem dX9_gotReply_7 : decode cX9_gotReply 7 = .ok (.istore 4, 2) := by decide +kernel
theorem dX9_gotReply_9 : decode cX9_gotReply 9 = .ok (.aload_n 2, 1) := by decide +kernel
theorem dX9_gotReply_10 : decode cX9_gotReply 10 = .ok (.iconst 5, 1) := by decide +kernel
theorem dX9_gotReply_11 : decode cX9_gotReply 11 = .ok (.iaload, 1) := by decide +kernel
theorem dX9_gotReply_12 : decode cX9_gotReply 12 = .ok (.istore 5, 2) := by decide +kernel
theorem dX9_gotReply_14 : decode cX9_gotReply 14 = .ok (.aload_n 0, 1) := by decide +kernel
theorem dX9_gotReply_15 : decode cX9_gotReply 15 = .ok (.iload_n 1, 1) := by decide +kernel
theorem dX9_gotReply_16 : decode cX9_gotReply 16 = .ok (.iload 4, 2) := by decide +kernel
theorem dX9_gotReply_18 : decode cX9_gotReply 18 = .ok (.invokevirtual 184, 3) := by decide +kernel
theorem dX9_gotReply_21 : decode cX9_gotReply 21 = .ok (.istore 6, 2) := by decide +kernel
theorem dX9_gotReply_23 : decode cX9_gotReply 23 = .ok (.iload 6, 2) := by decide +kernel
theorem dX9_gotReply_25 : decode cX9_gotReply 25 = .ok (.iconst (-1), 1) := by decide +kernel
theorem dX9_gotReply_26 : decode cX9_gotReply 26 = .ok (.if_icmp .ne 5, 3) := by decide +kernel
theorem dX9_gotReply_29 : decode cX9_gotReply 29 = .ok (.iconst (-1), 1) := by decide +kernel
theorem dX9_gotReply_30 : decode cX9_gotReply 30 = .ok (.ireturn, 1) := by decide +kernel
theorem dX9_gotReply_31 : decode cX9_gotReply 31 = .ok (.aload_n 0, 1) := by decide +kernel
theorem dX9_gotReply_32 : decode cX9_gotReply 32 = .ok (.getfield 49, 3) := by decide +kernel
theorem dX9_gotReply_35 : decode cX9_gotReply 35 = .ok (.iload_n 1, 1) := by decide +kernel
theorem dX9_gotReply_36 : decode cX9_gotReply 36 = .ok (.aaload, 1) := by decide +kernel
theorem dX9_gotReply_37 : decode cX9_gotReply 37 = .ok (.iload 6, 2) := by decide +kernel
theorem dX9_gotReply_39 : decode cX9_gotReply 39 = .ok (.iaload, 1) := by decide +kernel
theorem dX9_gotReply_40 : decode cX9_gotReply 40 = .ok (.istore 7, 2) := by decide +kernel
theorem dX9_gotReply_42 : decode cX9_gotReply 42 = .ok (.iconst 4, 1) := by decide +kernel
theorem dX9_gotReply_43 : decode cX9_gotReply 43 = .ok (.newarray .int, 2) := by decide +kernel
theorem dX9_gotReply_45 : decode cX9_gotReply 45 = .ok (.dup, 1) := by decide +kernel
theorem dX9_gotReply_46 : decode cX9_gotReply 46 = .ok (.iconst 0, 1) := by decide +kernel
theorem dX9_gotReply_47 : decode cX9_gotReply 47 = .ok (.iconst 4, 1) := by decide +kernel
theorem dX9_gotReply_48 : decode cX9_gotReply 48 = .ok (.iastore, 1) := by decide +kernel
theorem dX9_gotReply_49 : decode cX9_gotReply 49 = .ok (.dup, 1) := by decide +kernel
theorem dX9_gotReply_50 : decode cX9_gotReply 50 = .ok (.iconst 1, 1) := by decide +kernel
theorem dX9_gotReply_51 : decode cX9_gotReply 51 = .ok (.aload_n 0, 1) := by decide +kernel
theorem dX9_gotReply_52 : decode cX9_gotReply 52 = .ok (.iload_n 1, 1) := by decide +kernel
theorem dX9_gotReply_53 : decode cX9_gotReply 53 = .ok (.iload 6, 2) := by decide +kernel
theorem dX9_gotReply_55 : decode cX9_gotReply 55 = .ok (.iload 7, 2) := by decide +kernel
theorem dX9_gotReply_57 : decode cX9_gotReply 57 = .ok (.invokevirtual 150, 3) := by decide +kernel
theorem dX9_gotReply_60 : decode cX9_gotReply 60 = .ok (.iastore, 1) := by decide +kernel
theorem dX9_gotReply_61 : decode cX9_gotReply 61 = .ok (.dup, 1) := by decide +kernel
theorem dX9_gotReply_62 : decode cX9_gotReply 62 = .ok (.iconst 2, 1) := by decide +kernel
theorem dX9_gotReply_63 : decode cX9_gotReply 63 = .ok (.iload 7, 2) := by decide +kernel
theorem dX9_gotReply_65 : decode cX9_gotReply 65 = .ok (.iload 5, 2) := by decide +kernel
theorem dX9_gotReply_67 : decode cX9_gotReply 67 = .ok (.invokestatic 135, 3) := by decide +kernel
theorem dX9_gotReply_70 : decode cX9_gotReply 70 = .ok (.iastore, 1) := by decide +kernel
theorem dX9_gotReply_71 : decode cX9_gotReply 71 = .ok (.dup, 1) := by decide +kernel
theorem dX9_gotReply_72 : decode cX9_gotReply 72 = .ok (.iconst 3, 1) := by decide +kernel
theorem dX9_gotReply_73 : decode cX9_gotReply 73 = .ok (.iload_n 1, 1) := by decide +kernel
theorem dX9_gotReply_74 : decode cX9_gotReply 74 = .ok (.invokestatic 118, 3) := by decide +kernel
theorem dX9_gotReply_77 : decode cX9_gotReply 77 = .ok (.iload 5, 2) := by decide +kernel
theorem dX9_gotReply_79 : decode cX9_gotReply 79 = .ok (.invokestatic 135, 3) := by decide +kernel
theorem dX9_gotReply_82 : decode cX9_gotReply 82 = .ok (.iastore, 1) := by decide +kernel
theorem dX9_gotReply_83 : decode cX9_gotReply 83 = .ok (.invokestatic 138, 3) := by decide +kernel
theorem dX9_gotReply_86 : decode cX9_gotReply 86 = .ok (.istore 8, 2) := by decide +kernel
theorem dX9_gotReply_88 : decode cX9_gotReply 88 = .ok (.aload_n 2, 1) := by decide +kernel
theorem dX9_gotReply_89 : decode cX9_gotReply 89 = .ok (.bipush 6, 2) := by decide +kernel
theorem dX9_gotReply_91 : decode cX9_gotReply 91 = .ok (.iaload, 1) := by decide +kernel
theorem dX9_gotReply_92 : decode cX9_gotReply 92 = .ok (.iload 8, 2) := by decide +kernel
theorem dX9_gotReply_94 : decode cX9_gotReply 94 = .ok (.iconst 4, 1) := by decide +kernel
theorem dX9_gotReply_95 : decode cX9_gotReply 95 = .ok (.newarray .int, 2) := by decide +kernel
theorem dX9_gotReply_97 : decode cX9_gotReply 97 = .ok (.dup, 1) := by decide +kernel
theorem dX9_gotReply_98 : decode cX9_gotReply 98 = .ok (.iconst 0, 1) := by decide +kernel
theorem dX9_gotReply_99 : decode cX9_gotReply 99 = .ok (.iconst 2, 1) := by decide +kernel
theorem dX9_gotReply_100 : decode cX9_gotReply 100 = .ok (.iastore, 1) := by decide +kernel
theorem dX9_gotReply_101 : decode cX9_gotReply 101 = .ok (.dup, 1) := by decide +kernel
theorem dX9_gotReply_102 : decode cX9_gotReply 102 = .ok (.iconst 1, 1) := by decide +kernel
theorem dX9_gotReply_103 : decode cX9_gotReply 103 = .ok (.iload_n 3, 1) := by decide +kernel
theorem dX9_gotReply_104 : decode cX9_gotReply 104 = .ok (.iastore, 1) := by decide +kernel
theorem dX9_gotReply_105 : decode cX9_gotReply 105 = .ok (.dup, 1) := by decide +kernel
theorem dX9_gotReply_106 : decode cX9_gotReply 106 = .ok (.iconst 2, 1) := by decide +kernel
theorem dX9_gotReply_107 : decode cX9_gotReply 107 = .ok (.iload 4, 2) := by decide +kernel
theorem dX9_gotReply_109 : decode cX9_gotReply 109 = .ok (.iastore, 1) := by decide +kernel
theorem dX9_gotReply_110 : decode cX9_gotReply 110 = .ok (.dup, 1) := by decide +kernel
theorem dX9_gotReply_111 : decode cX9_gotReply 111 = .ok (.iconst 3, 1) := by decide +kernel
theorem dX9_gotReply_112 : decode cX9_gotReply 112 = .ok (.iload 5, 2) := by decide +kernel
theorem dX9_gotReply_114 : decode cX9_gotReply 114 = .ok (.iastore, 1) := by decide +kernel
theorem dX9_gotReply_115 : decode cX9_gotReply 115 = .ok (.invokestatic 154, 3) := by decide +kernel
theorem dX9_gotReply_118 : decode cX9_gotReply 118 = .ok (.if_icmp .eq 6, 3) := by decide +kernel
theorem dX9_gotReply_121 : decode cX9_gotReply 121 = .ok (.bipush (-2), 2) := by decide +kernel
theorem dX9_gotReply_123 : decode cX9_gotReply 123 = .ok (.ireturn, 1) := by decide +kernel
theorem dX9_gotReply_124 : decode cX9_gotReply 124 = .ok (.aload_n 0, 1) := by decide +kernel
theorem dX9_gotReply_125 : decode cX9_gotReply 125 = .ok (.getfield 46, 3) := by decide +kernel
theorem dX9_gotReply_128 : decode cX9_gotReply 128 = .ok (.iload_n 1, 1) := by decide +kernel
theorem dX9_gotReply_129 : decode cX9_gotReply 129 = .ok (.aaload, 1) := by decide +kernel
theorem dX9_gotReply_130 : decode cX9_gotReply 130 = .ok (.iload 6, 2) := by decide +kernel
theorem dX9_gotReply_132 : decode cX9_gotReply 132 = .ok (.iconst (-1), 1) := by decide +kernel
theorem dX9_gotReply_133 : decode cX9_gotReply 133 = .ok (.iastore, 1) := by decide +kernel
theorem dX9_gotReply_134 : decode cX9_gotReply 134 = .ok (.aload_n 0, 1) := by decide +kernel
theorem dX9_gotReply_135 : decode cX9_gotReply 135 = .ok (.getfield 37, 3) := by decide +kernel
theorem dX9_gotReply_138 : decode cX9_gotReply 138 = .ok (.iload_n 1, 1) := by decide +kernel
theorem dX9_gotReply_139 : decode cX9_gotReply 139 = .ok (.aaload, 1) := by decide +kernel
theorem dX9_gotReply_140 : decode cX9_gotReply 140 = .ok (.iload 6, 2) := by decide +kernel
theorem dX9_gotReply_142 : decode cX9_gotReply 142 = .ok (.aload_n 2, 1) := by decide +kernel
theorem dX9_gotReply_143 : decode cX9_gotReply 143 = .ok (.iconst 0, 1) := by decide +kernel
theorem dX9_gotReply_144 : decode cX9_gotReply 144 = .ok (.iaload, 1) := by decide +kernel
theorem dX9_gotReply_145 : decode cX9_gotReply 145 = .ok (.iastore, 1) := by decide +kernel
theorem dX9_gotReply_146 : decode cX9_gotReply 146 = .ok (.aload_n 0, 1) := by decide +kernel
theorem dX9_gotReply_147 : decode cX9_gotReply 147 = .ok (.iload_n 1, 1) := by decide +kernel
theorem dX9_gotReply_148 : decode cX9_gotReply 148 = .ok (.iload 6, 2) := by decide +kernel
theorem dX9_gotReply_150 : decode cX9_gotReply 150 = .ok (.invokevirtual 187, 3) := by decide +kernel
theorem dX9_gotReply_153 : decode cX9_gotReply 153 = .ok (.aload_n 0, 1) := by decide +kernel
theorem dX9_gotReply_154 : decode cX9_gotReply 154 = .ok (.iload_n 1, 1) := by decide +kernel
theorem dX9_gotReply_155 : decode cX9_gotReply 155 = .ok (.iload 6, 2) := by decide +kernel
theorem dX9_gotReply_157 : decode cX9_gotReply 157 = .ok (.iconst 1, 1) := by decide +kernel
theorem dX9_gotReply_158 : decode cX9_gotReply 158 = .ok (.iload 4, 2) := by decide +kernel
theorem dX9_gotReply_160 : decode cX9_gotReply 160 = .ok (.iload_n 3, 1) := by decide +kernel
theorem dX9_gotReply_161 : decode cX9_gotReply 161 = .ok (.iconst 3, 1) := by decide +kernel
theorem dX9_gotReply_162 : decode cX9_gotReply 162 = .ok (.newarray .int, 2) := by decide +kernel
theorem dX9_gotReply_164 : decode cX9_gotReply 164 = .ok (.dup, 1) := by decide +kernel
theorem dX9_gotReply_165 : decode cX9_gotReply 165 = .ok (.iconst 0, 1) := by decide +kernel
theorem dX9_gotReply_166 : decode cX9_gotReply 166 = .ok (.iconst 5, 1) := by decide +kernel
theorem dX9_gotReply_167 : decode cX9_gotReply 167 = .ok (.iastore, 1) := by decide +kernel
theorem dX9_gotReply_168 : decode cX9_gotReply 168 = .ok (.dup, 1) := by decide +kernel
theorem dX9_gotReply_169 : decode cX9_gotReply 169 = .ok (.iconst 1, 1) := by decide +kernel
theorem dX9_gotReply_170 : decode cX9_gotReply 170 = .ok (.iload 8, 2) := by decide +kernel
theorem dX9_gotReply_172 : decode cX9_gotReply 172 = .ok (.iastore, 1) := by decide +kernel
theorem dX9_gotReply_173 : decode cX9_gotReply 173 = .ok (.dup, 1) := by decide +kernel
theorem dX9_gotReply_174 : decode cX9_gotReply 174 = .ok (.iconst 2, 1) := by decide +kernel
theorem dX9_gotReply_175 : decode cX9_gotReply 175 = .ok (.iconst 0, 1) := by decide +kernel
theorem dX9_gotReply_176 : decode cX9_gotReply 176 = .ok (.iastore, 1) := by decide +kernel
theorem dX9_gotReply_177 : decode cX9_gotReply 177 = .ok (.invokestatic 138, 3) := by decide +kernel
theorem dX9_gotReply_180 : decode cX9_gotReply 180 = .ok (.iconst 3, 1) := by decide +kernel
theorem dX9_gotReply_181 : decode cX9_gotReply 181 = .ok (.newarray .int, 2) := by decide +kernel
theorem dX9_gotReply_183 : decode cX9_gotReply 183 = .ok (.dup, 1) := by decide +kernel
theorem dX9_gotReply_184 : decode cX9_gotReply 184 = .ok (.iconst 0, 1) := by decide +kernel
theorem dX9_gotReply_185 : decode cX9_gotReply 185 = .ok (.iconst 5, 1) := by decide +kernel
theorem dX9_gotReply_186 : decode cX9_gotReply 186 = .ok (.iastore, 1) := by decide +kernel
theorem dX9_gotReply_187 : decode cX9_gotReply 187 = .ok (.dup, 1) := by decide +kernel
theorem dX9_gotReply_188 : decode cX9_gotReply 188 = .ok (.iconst 1, 1) := by decide +kernel
theorem dX9_gotReply_189 : decode cX9_gotReply 189 = .ok (.iload 8, 2) := by decide +kernel
theorem dX9_gotReply_191 : decode cX9_gotReply 191 = .ok (.iastore, 1) := by decide +kernel
theorem dX9_gotReply_192 : decode cX9_gotReply 192 = .ok (.dup, 1) := by decide +kernel
theorem dX9_gotReply_193 : decode cX9_gotReply 193 = .ok (.iconst 2, 1) := by decide +kernel
theorem dX9_gotReply_194 : decode cX9_gotReply 194 = .ok (.iconst 1, 1) := by decide +kernel
theorem dX9_gotReply_195 : decode cX9_gotReply 195 = .ok (.iastore, 1) := by decide +kernel
theorem dX9_gotReply_196 : decode cX9_gotReply 196 = .ok (.invokestatic 138, 3) := by decide +kernel
theorem dX9_gotReply_199 : decode cX9_gotReply 199 = .ok (.iconst 1, 1) := by decide +kernel
theorem dX9_gotReply_200 : decode cX9_gotReply 200 = .ok (.invokevirtual 180, 3) := by decide +kernel
theorem dX9_gotReply_203 : decode cX9_gotReply 203 = .ok (.aload_n 0, 1) := by decide +kernel
theorem dX9_gotReply_204 : decode cX9_gotReply 204 = .ok (.getfield 64, 3) := by decide +kernel
theorem dX9_gotReply_207 : decode cX9_gotReply 207 = .ok (.iload_n 1, 1) := by decide +kernel
theorem dX9_gotReply_208 : decode cX9_gotReply 208 = .ok (.aaload, 1) := by decide +kernel
theorem dX9_gotReply_209 : decode cX9_gotReply 209 = .ok (.iload 6, 2) := by decide +kernel
theorem dX9_gotReply_211 : decode cX9_gotReply 211 = .ok (.iaload, 1) := by decide +kernel
theorem dX9_gotReply_212 : decode cX9_gotReply 212 = .ok (.ifCond .ne 16, 3) := by decide +kernel
theorem dX9_gotReply_215 : decode cX9_gotReply 215 = .ok (.aload_n 0, 1) := by decide +kernel
theorem dX9_gotReply_216 : decode cX9_gotReply 216 = .ok (.iload_n 1, 1) := by decide +kernel
theorem dX9_gotReply_217 : decode cX9_gotReply 217 = .ok (.iload 6, 2) := by decide +kernel
theorem dX9_gotReply_219 : decode cX9_gotReply 219 = .ok (.iconst (-1), 1) := by decide +kernel
theorem dX9_gotReply_220 : decode cX9_gotReply 220 = .ok (.iconst (-1), 1) := by decide +kernel
theorem dX9_gotReply_221 : decode cX9_gotReply 221 = .ok (.iconst (-1), 1) := by decide +kernel
theorem dX9_gotReply_222 : decode cX9_gotReply 222 = .ok (.invokevirtual 176, 3) := by decide +kernel
theorem dX9_gotReply_225 : decode cX9_gotReply 225 = .ok (.goto 10, 3) := by decide +kernel
theorem dX9_gotReply_228 : decode cX9_gotReply 228 = .ok (.aload_n 0, 1) := by decide +kernel
theorem dX9_gotReply_229 : decode cX9_gotReply 229 = .ok (.iload_n 1, 1) := by decide +kernel
theorem dX9_gotReply_230 : decode cX9_gotReply 230 = .ok (.iload 6, 2) := by decide +kernel
theorem dX9_gotReply_232 : decode cX9_gotReply 232 = .ok (.invokevirtual 191, 3) := by decide +kernel
theorem dX9_gotReply_235 : decode cX9_gotReply 235 = .ok (.iconst 3, 1) := by decide +kernel
theorem dX9_gotReply_236 : decode cX9_gotReply 236 = .ok (.ireturn, 1) := by decide +kernel
theorem dX9_gotCookie_0 : decode cX9_gotCookie 0 = .ok (.aload_n 2, 1) := by decide +kernel
theorem dX9_gotCookie_1 : decode cX9_gotCookie 1 = .ok (.iconst 3, 1) := by decide +kernel
theorem dX9_gotCookie_2 : decode cX9_gotCookie 2 = .ok (.iaload, 1) := by decide +kernel
theorem dX9_gotCookie_3 : decode cX9_gotCookie 3 = .ok (.istore_n 3, 1) := by decide +kernel
theorem dX9_gotCookie_4 : decode cX9_gotCookie 4 = .ok (.aload_n 2, 1) := by decide +kernel
theorem dX9_gotCookie_5 : decode cX9_gotCookie 5 = .ok (.iconst 4, 1) := by decide +kernel
theorem dX9_gotCookie_6 : decode cX9_gotCookie 6 = .ok (.iaload, 1) := by decide +kernel
theorem dX9_gotCookie_7 : decode cX9_gotCookie 7 = .ok (.istore 4, 2) := by decide +kernel
theorem dX9_gotCookie_9 : decode cX9_gotCookie 9 = .ok (.aload_n 0, 1) := by decide +kernel
theorem dX9_gotCookie_10 : decode cX9_gotCookie 10 = .ok (.iload_n 1, 1) := by decide +kernel
theorem dX9_gotCookie_11 : decode cX9_gotCookie 11 = .ok (.iload_n 3, 1) := by decide +kernel
theorem dX9_gotCookie_12 : decode cX9_gotCookie 12 = .ok (.invokevirtual 184, 3) := by decide +kernel
theorem dX9_gotCookie_15 : decode cX9_gotCookie 15 = .ok (.istore 5, 2) := by decide +kernel
theorem dX9_gotCookie_17 : decode cX9_gotCookie 17 = .ok (.iload 5, 2) := by decide +kernel
theorem dX9_gotCookie_19 : decode cX9_gotCookie 19 = .ok (.iconst (-1), 1) := by decide +kernel
theorem dX9_gotCookie_20 : decode cX9_gotCookie 20 = .ok (.if_icmp .ne 5, 3) := by decide +kernel
theorem dX9_gotCookie_23 : decode cX9_gotCookie 23 = .ok (.iconst (-1), 1) := by decide +kernel
theorem dX9_gotCookie_24 : decode cX9_gotCookie 24 = .ok (.ireturn, 1) := by decide +kernel
theorem dX9_gotCookie_25 : decode cX9_gotCookie 25 = .ok (.aload_n 2, 1) := by decide +kernel
theorem dX9_gotCookie_26 : decode cX9_gotCookie 26 = .ok (.iconst 5, 1) := by decide +kernel
theorem dX9_gotCookie_27 : decode cX9_gotCookie 27 = .ok (.iaload, 1) := by decide +kernel
theorem dX9_gotCookie_28 : decode cX9_gotCookie 28 = .ok (.iconst 3, 1) := by decide +kernel
theorem dX9_gotCookie_29 : decode cX9_gotCookie 29 = .ok (.newarray .int, 2) := by decide +kernel
theorem dX9_gotCookie_31 : decode cX9_gotCookie 31 = .ok (.dup, 1) := by decide +kernel
theorem dX9_gotCookie_32 : decode cX9_gotCookie 32 = .ok (.iconst 0, 1) := by decide +kernel
theorem dX9_gotCookie_33 : decode cX9_gotCookie 33 = .ok (.iconst 3, 1) := by decide +kernel
theorem dX9_gotCookie_34 : decode cX9_gotCookie 34 = .ok (.iastore, 1) := by decide +kernel
theorem dX9_gotCookie_35 : decode cX9_gotCookie 35 = .ok (.dup, 1) := by decide +kernel
theorem dX9_gotCookie_36 : decode cX9_gotCookie 36 = .ok (.iconst 1, 1) := by decide +kernel
theorem dX9_gotCookie_37 : decode cX9_gotCookie 37 = .ok (.iload 5, 2) := by decide +kernel
theorem dX9_gotCookie_39 : decode cX9_gotCookie 39 = .ok (.invokestatic 132, 3) := by decide +kernel
theorem dX9_gotCookie_42 : decode cX9_gotCookie 42 = .ok (.iastore, 1) := by decide +kernel
theorem dX9_gotCookie_43 : decode cX9_gotCookie 43 = .ok (.dup, 1) := by decide +kernel
theorem dX9_gotCookie_44 : decode cX9_gotCookie 44 = .ok (.iconst 2, 1) := by decide +kernel
theorem dX9_gotCookie_45 : decode cX9_gotCookie 45 = .ok (.aload_n 0, 1) := by decide +kernel
theorem dX9_gotCookie_46 : decode cX9_gotCookie 46 = .ok (.getfield 52, 3) := by decide +kernel
theorem dX9_gotCookie_49 : decode cX9_gotCookie 49 = .ok (.iload_n 1, 1) := by decide +kernel
theorem dX9_gotCookie_50 : decode cX9_gotCookie 50 = .ok (.aaload, 1) := by decide +kernel
theorem dX9_gotCookie_51 : decode cX9_gotCookie 51 = .ok (.iload 5, 2) := by decide +kernel
theorem dX9_gotCookie_53 : decode cX9_gotCookie 53 = .ok (.iaload, 1) := by decide +kernel
theorem dX9_gotCookie_54 : decode cX9_gotCookie 54 = .ok (.iastore, 1) := by decide +kernel
theorem dX9_gotCookie_55 : decode cX9_gotCookie 55 = .ok (.invokestatic 138, 3) := by decide +kernel
theorem dX9_gotCookie_58 : decode cX9_gotCookie 58 = .ok (.iconst 3, 1) := by decide +kernel
theorem dX9_gotCookie_59 : decode cX9_gotCookie 59 = .ok (.newarray .int, 2) := by decide +kernel
theorem dX9_gotCookie_61 : decode cX9_gotCookie 61 = .ok (.dup, 1) := by decide +kernel
theorem dX9_gotCookie_62 : decode cX9_gotCookie 62 = .ok (.iconst 0, 1) := by decide +kernel
theorem dX9_gotCookie_63 : decode cX9_gotCookie 63 = .ok (.iconst 3, 1) := by decide +kernel
theorem dX9_gotCookie_64 : decode cX9_gotCookie 64 = .ok (.iastore, 1) := by decide +kernel
theorem dX9_gotCookie_65 : decode cX9_gotCookie 65 = .ok (.dup, 1) := by decide +kernel
theorem dX9_gotCookie_66 : decode cX9_gotCookie 66 = .ok (.iconst 1, 1) := by decide +kernel
theorem dX9_gotCookie_67 : decode cX9_gotCookie 67 = .ok (.iload_n 3, 1) := by decide +kernel
theorem dX9_gotCookie_68 : decode cX9_gotCookie 68 = .ok (.iastore, 1) := by decide +kernel
theorem dX9_gotCookie_69 : decode cX9_gotCookie 69 = .ok (.dup, 1) := by decide +kernel
theorem dX9_gotCookie_70 : decode cX9_gotCookie 70 = .ok (.iconst 2, 1) := by decide +kernel
theorem dX9_gotCookie_71 : decode cX9_gotCookie 71 = .ok (.iload 4, 2) := by decide +kernel
theorem dX9_gotCookie_73 : decode cX9_gotCookie 73 = .ok (.iastore, 1) := by decide +kernel
theorem dX9_gotCookie_74 : decode cX9_gotCookie 74 = .ok (.invokestatic 154, 3) := by decide +kernel
theorem dX9_gotCookie_77 : decode cX9_gotCookie 77 = .ok (.if_icmp .eq 6, 3) := by decide +kernel
theorem dX9_gotCookie_80 : decode cX9_gotCookie 80 = .ok (.bipush (-2), 2) := by decide +kernel
theorem dX9_gotCookie_82 : decode cX9_gotCookie 82 = .ok (.ireturn, 1) := by decide +kernel
theorem dX9_gotCookie_83 : decode cX9_gotCookie 83 = .ok (.aload_n 0, 1) := by decide +kernel
theorem dX9_gotCookie_84 : decode cX9_gotCookie 84 = .ok (.getfield 58, 3) := by decide +kernel
theorem dX9_gotCookie_87 : decode cX9_gotCookie 87 = .ok (.iload_n 1, 1) := by decide +kernel
theorem dX9_gotCookie_88 : decode cX9_gotCookie 88 = .ok (.aaload, 1) := by decide +kernel
theorem dX9_gotCookie_89 : decode cX9_gotCookie 89 = .ok (.iload 5, 2) := by decide +kernel
theorem dX9_gotCookie_91 : decode cX9_gotCookie 91 = .ok (.iload 4, 2) := by decide +kernel
theorem dX9_gotCookie_93 : decode cX9_gotCookie 93 = .ok (.iastore, 1) := by decide +kernel
theorem dX9_gotCookie_94 : decode cX9_gotCookie 94 = .ok (.aload_n 0, 1) := by decide +kernel
theorem dX9_gotCookie_95 : decode cX9_gotCookie 95 = .ok (.getfield 61, 3) := by decide +kernel
theorem dX9_gotCookie_98 : decode cX9_gotCookie 98 = .ok (.iload_n 1, 1) := by decide +kernel
theorem dX9_gotCookie_99 : decode cX9_gotCookie 99 = .ok (.aaload, 1) := by decide +kernel
theorem dX9_gotCookie_100 : decode cX9_gotCookie 100 = .ok (.iload 5, 2) := by decide +kernel
theorem dX9_gotCookie_102 : decode cX9_gotCookie 102 = .ok (.aload_n 0, 1) := by decide +kernel
theorem dX9_gotCookie_103 : decode cX9_gotCookie 103 = .ok (.getfield 129, 3) := by decide +kernel
theorem dX9_gotCookie_106 : decode cX9_gotCookie 106 = .ok (.iastore, 1) := by decide +kernel
theorem dX9_gotCookie_107 : decode cX9_gotCookie 107 = .ok (.iconst 3, 1) := by decide +kernel
theorem dX9_gotCookie_108 : decode cX9_gotCookie 108 = .ok (.ireturn, 1) := by decide +kernel
theorem dX9_gotData_0 : decode cX9_gotData 0 = .ok (.aload_n 2, 1) := by decide +kernel
theorem dX9_gotData_1 : decode cX9_gotData 1 = .ok (.iconst 3, 1) := by decide +kernel
theorem dX9_gotData_2 : decode cX9_gotData 2 = .ok (.iaload, 1) := by decide +kernel
theorem dX9_gotData_3 : decode cX9_gotData 3 = .ok (.istore_n 3, 1) := by decide +kernel
theorem dX9_gotData_4 : decode cX9_gotData 4 = .ok (.aload_n 2, 1) := by decide +kernel
theorem dX9_gotData_5 : decode cX9_gotData 5 = .ok (.iconst 4, 1) := by decide +kernel
theorem dX9_gotData_6 : decode cX9_gotData 6 = .ok (.iaload, 1) := by decide +kernel
theorem dX9_gotData_7 : decode cX9_gotData 7 = .ok (.istore 4, 2) := by decide +kernel
theorem dX9_gotData_9 : decode cX9_gotData 9 = .ok (.aload_n 2, 1) := by decide +kernel
theorem dX9_gotData_10 : decode cX9_gotData 10 = .ok (.iconst 5, 1) := by decide +kernel
theorem dX9_gotData_11 : decode cX9_gotData 11 = .ok (.iaload, 1) := by decide +kernel
theorem dX9_gotData_12 : decode cX9_gotData 12 = .ok (.istore 5, 2) := by decide +kernel
theorem dX9_gotData_14 : decode cX9_gotData 14 = .ok (.aload_n 2, 1) := by decide +kernel
theorem dX9_gotData_15 : decode cX9_gotData 15 = .ok (.bipush 6, 2) := by decide +kernel
theorem dX9_gotData_17 : decode cX9_gotData 17 = .ok (.iaload, 1) := by decide +kernel
theorem dX9_gotData_18 : decode cX9_gotData 18 = .ok (.istore 6, 2) := by decide +kernel
theorem dX9_gotData_20 : decode cX9_gotData 20 = .ok (.aload_n 2, 1) := by decide +kernel
theorem dX9_gotData_21 : decode cX9_gotData 21 = .ok (.bipush 7, 2) := by decide +kernel
theorem dX9_gotData_23 : decode cX9_gotData 23 = .ok (.iaload, 1) := by decide +kernel
theorem dX9_gotData_24 : decode cX9_gotData 24 = .ok (.istore 7, 2) := by decide +kernel
theorem dX9_gotData_26 : decode cX9_gotData 26 = .ok (.iconst (-1), 1) := by decide +kernel
theorem dX9_gotData_27 : decode cX9_gotData 27 = .ok (.istore 8, 2) := by decide +kernel
theorem dX9_gotData_29 : decode cX9_gotData 29 = .ok (.iconst (-1), 1) := by decide +kernel
theorem dX9_gotData_30 : decode cX9_gotData 30 = .ok (.istore 9, 2) := by decide +kernel
theorem dX9_gotData_32 : decode cX9_gotData 32 = .ok (.iconst 0, 1) := by decide +kernel
theorem dX9_gotData_33 : decode cX9_gotData 33 = .ok (.istore 10, 2) := by decide +kernel
theorem dX9_gotData_35 : decode cX9_gotData 35 = .ok (.iload 10, 2) := by decide +kernel
theorem dX9_gotData_37 : decode cX9_gotData 37 = .ok (.iconst 3, 1) := by decide +kernel
theorem dX9_gotData_38 : decode cX9_gotData 38 = .ok (.if_icmp .ge 68, 3) := by decide +kernel
theorem dX9_gotData_41 : decode cX9_gotData 41 = .ok (.iconst 0, 1) := by decide +kernel
theorem dX9_gotData_42 : decode cX9_gotData 42 = .ok (.istore 11, 2) := by decide +kernel
theorem dX9_gotData_44 : decode cX9_gotData 44 = .ok (.iload 11, 2) := by decide +kernel
theorem dX9_gotData_46 : decode cX9_gotData 46 = .ok (.iconst 3, 1) := by decide +kernel
theorem dX9_gotData_47 : decode cX9_gotData 47 = .ok (.if_icmp .ge 53, 3) := by decide +kernel
theorem dX9_gotData_50 : decode cX9_gotData 50 = .ok (.iload 10, 2) := by decide +kernel
theorem dX9_gotData_52 : decode cX9_gotData 52 = .ok (.iload_n 1, 1) := by decide +kernel
theorem dX9_gotData_53 : decode cX9_gotData 53 = .ok (.if_icmp .eq 41, 3) := by decide +kernel
theorem dX9_gotData_56 : decode cX9_gotData 56 = .ok (.aload_n 0, 1) := by decide +kernel
theorem dX9_gotData_57 : decode cX9_gotData 57 = .ok (.iload_n 1, 1) := by decide +kernel
theorem dX9_gotData_58 : decode cX9_gotData 58 = .ok (.iload 10, 2) := by decide +kernel
theorem dX9_gotData_60 : decode cX9_gotData 60 = .ok (.iload 11, 2) := by decide +kernel
theorem dX9_gotData_62 : decode cX9_gotData 62 = .ok (.invokevirtual 166, 3) := by decide +kernel
theorem dX9_gotData_65 : decode cX9_gotData 65 = .ok (.ifCond .eq 29, 3) := by decide +kernel
theorem dX9_gotData_68 : decode cX9_gotData 68 = .ok (.aload_n 0, 1) := by decide +kernel
theorem dX9_gotData_69 : decode cX9_gotData 69 = .ok (.getfield 72, 3) := by decide +kernel
theorem dX9_gotData_72 : decode cX9_gotData 72 = .ok (.iload_n 1, 1) := by decide +kernel
theorem dX9_gotData_73 : decode cX9_gotData 73 = .ok (.aaload, 1) := by decide +kernel
theorem dX9_gotData_74 : decode cX9_gotData 74 = .ok (.iload 10, 2) := by decide +kernel
theorem dX9_gotData_76 : decode cX9_gotData 76 = .ok (.aaload, 1) := by decide +kernel
theorem dX9_gotData_77 : decode cX9_gotData 77 = .ok (.iload 11, 2) := by decide +kernel
theorem dX9_gotData_79 : decode cX9_gotData 79 = .ok (.aaload, 1) := by decide +kernel
theorem dX9_gotData_80 : decode cX9_gotData 80 = .ok (.iconst 0, 1) := by decide +kernel
theorem dX9_gotData_81 : decode cX9_gotData 81 = .ok (.iaload, 1) := by decide +kernel
theorem dX9_gotData_82 : decode cX9_gotData 82 = .ok (.iload_n 3, 1) := by decide +kernel
theorem dX9_gotData_83 : decode cX9_gotData 83 = .ok (.if_icmp .ne 11, 3) := by decide +kernel
theorem dX9_gotData_86 : decode cX9_gotData 86 = .ok (.iload 10, 2) := by decide +kernel
theorem dX9_gotData_88 : decode cX9_gotData 88 = .ok (.istore 8, 2) := by decide +kernel
theorem dX9_gotData_90 : decode cX9_gotData 90 = .ok (.iload 11, 2) := by decide +kernel
theorem dX9_gotData_92 : decode cX9_gotData 92 = .ok (.istore 9, 2) := by decide +kernel
theorem dX9_gotData_94 : decode cX9_gotData 94 = .ok (.iinc 11 1, 3) := by decide +kernel
theorem dX9_gotData_97 : decode cX9_gotData 97 = .ok (.goto (-53), 3) := by decide +kernel
theorem dX9_gotData_100 : decode cX9_gotData 100 = .ok (.iinc 10 1, 3) := by decide +kernel
theorem dX9_gotData_103 : decode cX9_gotData 103 = .ok (.goto (-68), 3) := by decide +kernel
theorem dX9_gotData_106 : decode cX9_gotData 106 = .ok (.iload 8, 2) := by decide +kernel
theorem dX9_gotData_108 : decode cX9_gotData 108 = .ok (.iconst (-1), 1) := by decide +kernel
theorem dX9_gotData_109 : decode cX9_gotData 109 = .ok (.if_icmp .ne 5, 3) := by decide +kernel
theorem dX9_gotData_112 : decode cX9_gotData 112 = .ok (.iconst (-1), 1) := by decide +kernel
theorem dX9_gotData_113 : decode cX9_gotData 113 = .ok (.ireturn, 1) := by decide +kernel
theorem dX9_gotData_114 : decode cX9_gotData 114 = .ok (.aload_n 0, 1) := by decide +kernel
theorem dX9_gotData_115 : decode cX9_gotData 115 = .ok (.getfield 72, 3) := by decide +kernel
theorem dX9_gotData_118 : decode cX9_gotData 118 = .ok (.iload_n 1, 1) := by decide +kernel
theorem dX9_gotData_119 : decode cX9_gotData 119 = .ok (.aaload, 1) := by decide +kernel
theorem dX9_gotData_120 : decode cX9_gotData 120 = .ok (.iload 8, 2) := by decide +kernel
theorem dX9_gotData_122 : decode cX9_gotData 122 = .ok (.aaload, 1) := by decide +kernel
theorem dX9_gotData_123 : decode cX9_gotData 123 = .ok (.iload 9, 2) := by decide +kernel
theorem dX9_gotData_125 : decode cX9_gotData 125 = .ok (.aaload, 1) := by decide +kernel
theorem dX9_gotData_126 : decode cX9_gotData 126 = .ok (.astore 10, 2) := by decide +kernel
theorem dX9_gotData_128 : decode cX9_gotData 128 = .ok (.aload_n 0, 1) := by decide +kernel
theorem dX9_gotData_129 : decode cX9_gotData 129 = .ok (.iload_n 1, 1) := by decide +kernel
theorem dX9_gotData_130 : decode cX9_gotData 130 = .ok (.iload 8, 2) := by decide +kernel
theorem dX9_gotData_132 : decode cX9_gotData 132 = .ok (.iload 9, 2) := by decide +kernel
theorem dX9_gotData_134 : decode cX9_gotData 134 = .ok (.invokevirtual 170, 3) := by decide +kernel
theorem dX9_gotData_137 : decode cX9_gotData 137 = .ok (.bipush 30, 2) := by decide +kernel
theorem dX9_gotData_139 : decode cX9_gotData 139 = .ok (.if_icmp .lt 6, 3) := by decide +kernel
theorem dX9_gotData_142 : decode cX9_gotData 142 = .ok (.bipush (-4), 2) := by decide +kernel
theorem dX9_gotData_144 : decode cX9_gotData 144 = .ok (.ireturn, 1) := by decide +kernel
theorem dX9_gotData_145 : decode cX9_gotData 145 = .ok (.aload_n 2, 1) := by decide +kernel
theorem dX9_gotData_146 : decode cX9_gotData 146 = .ok (.bipush 8, 2) := by decide +kernel
theorem dX9_gotData_148 : decode cX9_gotData 148 = .ok (.iaload, 1) := by decide +kernel
theorem dX9_gotData_149 : decode cX9_gotData 149 = .ok (.aload 10, 2) := by decide +kernel
theorem dX9_gotData_151 : decode cX9_gotData 151 = .ok (.iconst 4, 1) := by decide +kernel
theorem dX9_gotData_152 : decode cX9_gotData 152 = .ok (.iaload, 1) := by decide +kernel
theorem dX9_gotData_153 : decode cX9_gotData 153 = .ok (.bipush 6, 2) := by decide +kernel
theorem dX9_gotData_155 : decode cX9_gotData 155 = .ok (.newarray .int, 2) := by decide +kernel
theorem dX9_gotData_157 : decode cX9_gotData 157 = .ok (.dup, 1) := by decide +kernel
theorem dX9_gotData_158 : decode cX9_gotData 158 = .ok (.iconst 0, 1) := by decide +kernel
theorem dX9_gotData_159 : decode cX9_gotData 159 = .ok (.iconst 4, 1) := by decide +kernel
theorem dX9_gotData_160 : decode cX9_gotData 160 = .ok (.iastore, 1) := by decide +kernel
theorem dX9_gotData_161 : decode cX9_gotData 161 = .ok (.dup, 1) := by decide +kernel
theorem dX9_gotData_162 : decode cX9_gotData 162 = .ok (.iconst 1, 1) := by decide +kernel
theorem dX9_gotData_163 : decode cX9_gotData 163 = .ok (.iload_n 3, 1) := by decide +kernel
theorem dX9_gotData_164 : decode cX9_gotData 164 = .ok (.iastore, 1) := by decide +kernel
theorem dX9_gotData_165 : decode cX9_gotData 165 = .ok (.dup, 1) := by decide +kernel
theorem dX9_gotData_166 : decode cX9_gotData 166 = .ok (.iconst 2, 1) := by decide +kernel
theorem dX9_gotData_167 : decode cX9_gotData 167 = .ok (.iload 4, 2) := by decide +kernel
theorem dX9_gotData_169 : decode cX9_gotData 169 = .ok (.iastore, 1) := by decide +kernel
theorem dX9_gotData_170 : decode cX9_gotData 170 = .ok (.dup, 1) := by decide +kernel
theorem dX9_gotData_171 : decode cX9_gotData 171 = .ok (.iconst 3, 1) := by decide +kernel
theorem dX9_gotData_172 : decode cX9_gotData 172 = .ok (.iload 5, 2) := by decide +kernel
theorem dX9_gotData_174 : decode cX9_gotData 174 = .ok (.iastore, 1) := by decide +kernel
theorem dX9_gotData_175 : decode cX9_gotData 175 = .ok (.dup, 1) := by decide +kernel
theorem dX9_gotData_176 : decode cX9_gotData 176 = .ok (.iconst 4, 1) := by decide +kernel
theorem dX9_gotData_177 : decode cX9_gotData 177 = .ok (.iload 6, 2) := by decide +kernel
theorem dX9_gotData_179 : decode cX9_gotData 179 = .ok (.iastore, 1) := by decide +kernel
theorem dX9_gotData_180 : decode cX9_gotData 180 = .ok (.dup, 1) := by decide +kernel
theorem dX9_gotData_181 : decode cX9_gotData 181 = .ok (.iconst 5, 1) := by decide +kernel
theorem dX9_gotData_182 : decode cX9_gotData 182 = .ok (.iload 7, 2) := by decide +kernel
theorem dX9_gotData_184 : decode cX9_gotData 184 = .ok (.iastore, 1) := by decide +kernel
theorem dX9_gotData_185 : decode cX9_gotData 185 = .ok (.invokestatic 154, 3) := by decide +kernel
theorem dX9_gotData_188 : decode cX9_gotData 188 = .ok (.if_icmp .eq 6, 3) := by decide +kernel
theorem dX9_gotData_191 : decode cX9_gotData 191 = .ok (.bipush (-2), 2) := by decide +kernel
theorem dX9_gotData_193 : decode cX9_gotData 193 = .ok (.ireturn, 1) := by decide +kernel
theorem dX9_gotData_194 : decode cX9_gotData 194 = .ok (.iload 4, 2) := by decide +kernel
theorem dX9_gotData_196 : decode cX9_gotData 196 = .ok (.i2l, 1) := by decide +kernel
theorem dX9_gotData_197 : decode cX9_gotData 197 = .ok (.lconst 0, 1) := by decide +kernel
theorem dX9_gotData_198 : decode cX9_gotData 198 = .ok (.ldc2_w 194, 3) := by decide +kernel
theorem dX9_gotData_201 : decode cX9_gotData 201 = .ok (.invokestatic 91, 3) := by decide +kernel
theorem dX9_gotData_204 : decode cX9_gotData 204 = .ok (.ifCond .eq 21, 3) := by decide +kernel
theorem dX9_gotData_207 : decode cX9_gotData 207 = .ok (.aload_n 0, 1) := by decide +kernel
theorem dX9_gotData_208 : decode cX9_gotData 208 = .ok (.getfield 77, 3) := by decide +kernel
theorem dX9_gotData_211 : decode cX9_gotData 211 = .ok (.iload_n 1, 1) := by decide +kernel
theorem dX9_gotData_212 : decode cX9_gotData 212 = .ok (.aaload, 1) := by decide +kernel
theorem dX9_gotData_213 : decode cX9_gotData 213 = .ok (.iload 8, 2) := by decide +kernel
theorem dX9_gotData_215 : decode cX9_gotData 215 = .ok (.aaload, 1) := by decide +kernel
theorem dX9_gotData_216 : decode cX9_gotData 216 = .ok (.iload 9, 2) := by decide +kernel
theorem dX9_gotData_218 : decode cX9_gotData 218 = .ok (.aaload, 1) := by decide +kernel
theorem dX9_gotData_219 : decode cX9_gotData 219 = .ok (.iload 4, 2) := by decide +kernel
theorem dX9_gotData_221 : decode cX9_gotData 221 = .ok (.baload, 1) := by decide +kernel
theorem dX9_gotData_222 : decode cX9_gotData 222 = .ok (.ifCond .ne 24, 3) := by decide +kernel
theorem dX9_gotData_225 : decode cX9_gotData 225 = .ok (.aload 10, 2) := by decide +kernel
theorem dX9_gotData_227 : decode cX9_gotData 227 = .ok (.bipush 8, 2) := by decide +kernel
theorem dX9_gotData_229 : decode cX9_gotData 229 = .ok (.iaload, 1) := by decide +kernel
theorem dX9_gotData_230 : decode cX9_gotData 230 = .ok (.ifCond .le 19, 3) := by decide +kernel
theorem dX9_gotData_233 : decode cX9_gotData 233 = .ok (.iload 4, 2) := by decide +kernel
theorem dX9_gotData_235 : decode cX9_gotData 235 = .ok (.aload 10, 2) := by decide +kernel
theorem dX9_gotData_237 : decode cX9_gotData 237 = .ok (.bipush 7, 2) := by decide +kernel
theorem dX9_gotData_239 : decode cX9_gotData 239 = .ok (.iaload, 1) := by decide +kernel
theorem dX9_gotData_240 : decode cX9_gotData 240 = .ok (.bipush 16, 2) := by decide +kernel
theorem dX9_gotData_242 : decode cX9_gotData 242 = .ok (.isub, 1) := by decide +kernel
theorem dX9_gotData_243 : decode cX9_gotData 243 = .ok (.if_icmp .gt 6, 3) := by decide +kernel
theorem dX9_gotData_246 : decode cX9_gotData 246 = .ok (.bipush (-3), 2) := by decide +kernel
theorem dX9_gotData_248 : decode cX9_gotData 248 = .ok (.ireturn, 1) := by decide +kernel
theorem dX9_gotData_249 : decode cX9_gotData 249 = .ok (.iload 4, 2) := by decide +kernel
theorem dX9_gotData_251 : decode cX9_gotData 251 = .ok (.i2l, 1) := by decide +kernel
theorem dX9_gotData_252 : decode cX9_gotData 252 = .ok (.lconst 0, 1) := by decide +kernel
theorem dX9_gotData_253 : decode cX9_gotData 253 = .ok (.ldc2_w 194, 3) := by decide +kernel
theorem dX9_gotData_256 : decode cX9_gotData 256 = .ok (.invokestatic 91, 3) := by decide +kernel
theorem dX9_gotData_259 : decode cX9_gotData 259 = .ok (.ifCond .eq 19, 3) := by decide +kernel
theorem dX9_gotData_262 : decode cX9_gotData 262 = .ok (.aload_n 0, 1) := by decide +kernel
theorem dX9_gotData_263 : decode cX9_gotData 263 = .ok (.getfield 77, 3) := by decide +kernel
theorem dX9_gotData_266 : decode cX9_gotData 266 = .ok (.iload_n 1, 1) := by decide +kernel
theorem dX9_gotData_267 : decode cX9_gotData 267 = .ok (.aaload, 1) := by decide +kernel
theorem dX9_gotData_268 : decode cX9_gotData 268 = .ok (.iload 8, 2) := by decide +kernel
theorem dX9_gotData_270 : decode cX9_gotData 270 = .ok (.aaload, 1) := by decide +kernel
theorem dX9_gotData_271 : decode cX9_gotData 271 = .ok (.iload 9, 2) := by decide +kernel
theorem dX9_gotData_273 : decode cX9_gotData 273 = .ok (.aaload, 1) := by decide +kernel
theorem dX9_gotData_274 : decode cX9_gotData 274 = .ok (.iload 4, 2) := by decide +kernel
theorem dX9_gotData_276 : decode cX9_gotData 276 = .ok (.iconst 1, 1) := by decide +kernel
theorem dX9_gotData_277 : decode cX9_gotData 277 = .ok (.bastore, 1) := by decide +kernel
theorem dX9_gotData_278 : decode cX9_gotData 278 = .ok (.aload 10, 2) := by decide +kernel
theorem dX9_gotData_280 : decode cX9_gotData 280 = .ok (.bipush 7, 2) := by decide +kernel
theorem dX9_gotData_282 : decode cX9_gotData 282 = .ok (.aload 10, 2) := by decide +kernel
theorem dX9_gotData_284 : decode cX9_gotData 284 = .ok (.bipush 7, 2) := by decide +kernel
theorem dX9_gotData_286 : decode cX9_gotData 286 = .ok (.iaload, 1) := by decide +kernel
theorem dX9_gotData_287 : decode cX9_gotData 287 = .ok (.iload 4, 2) := by decide +kernel
theorem dX9_gotData_289 : decode cX9_gotData 289 = .ok (.invokestatic 145, 3) := by decide +kernel
theorem dX9_gotData_292 : decode cX9_gotData 292 = .ok (.iastore, 1) := by decide +kernel
theorem dX9_gotData_293 : decode cX9_gotData 293 = .ok (.aload 10, 2) := by decide +kernel
theorem dX9_gotData_295 : decode cX9_gotData 295 = .ok (.bipush 8, 2) := by decide +kernel
theorem dX9_gotData_297 : decode cX9_gotData 297 = .ok (.dup2, 1) := by decide +kernel
theorem dX9_gotData_298 : decode cX9_gotData 298 = .ok (.iaload, 1) := by decide +kernel
theorem dX9_gotData_299 : decode cX9_gotData 299 = .ok (.iconst 1, 1) := by decide +kernel
theorem dX9_gotData_300 : decode cX9_gotData 300 = .ok (.iadd, 1) := by decide +kernel
theorem dX9_gotData_301 : decode cX9_gotData 301 = .ok (.iastore, 1) := by decide +kernel
theorem dX9_gotData_302 : decode cX9_gotData 302 = .ok (.aload_n 0, 1) := by decide +kernel
theorem dX9_gotData_303 : decode cX9_gotData 303 = .ok (.getfield 37, 3) := by decide +kernel
theorem dX9_gotData_306 : decode cX9_gotData 306 = .ok (.iload_n 1, 1) := by decide +kernel
theorem dX9_gotData_307 : decode cX9_gotData 307 = .ok (.aaload, 1) := by decide +kernel
theorem dX9_gotData_308 : decode cX9_gotData 308 = .ok (.iload 8, 2) := by decide +kernel
theorem dX9_gotData_310 : decode cX9_gotData 310 = .ok (.aload_n 2, 1) := by decide +kernel
theorem dX9_gotData_311 : decode cX9_gotData 311 = .ok (.iconst 0, 1) := by decide +kernel
theorem dX9_gotData_312 : decode cX9_gotData 312 = .ok (.iaload, 1) := by decide +kernel
theorem dX9_gotData_313 : decode cX9_gotData 313 = .ok (.iastore, 1) := by decide +kernel
theorem dX9_gotData_314 : decode cX9_gotData 314 = .ok (.iload 9, 2) := by decide +kernel
theorem dX9_gotData_316 : decode cX9_gotData 316 = .ok (.iconst 2, 1) := by decide +kernel
theorem dX9_gotData_317 : decode cX9_gotData 317 = .ok (.if_icmp .ne 82, 3) := by decide +kernel
theorem dX9_gotData_320 : decode cX9_gotData 320 = .ok (.aload_n 0, 1) := by decide +kernel
theorem dX9_gotData_321 : decode cX9_gotData 321 = .ok (.iload_n 1, 1) := by decide +kernel
theorem dX9_gotData_322 : decode cX9_gotData 322 = .ok (.iload 8, 2) := by decide +kernel
theorem dX9_gotData_324 : decode cX9_gotData 324 = .ok (.invokevirtual 187, 3) := by decide +kernel
theorem dX9_gotData_327 : decode cX9_gotData 327 = .ok (.aload_n 0, 1) := by decide +kernel
theorem dX9_gotData_328 : decode cX9_gotData 328 = .ok (.getfield 72, 3) := by decide +kernel
theorem dX9_gotData_331 : decode cX9_gotData 331 = .ok (.iload_n 1, 1) := by decide +kernel
theorem dX9_gotData_332 : decode cX9_gotData 332 = .ok (.aaload, 1) := by decide +kernel
theorem dX9_gotData_333 : decode cX9_gotData 333 = .ok (.iload 8, 2) := by decide +kernel
theorem dX9_gotData_335 : decode cX9_gotData 335 = .ok (.aaload, 1) := by decide +kernel
theorem dX9_gotData_336 : decode cX9_gotData 336 = .ok (.iconst 1, 1) := by decide +kernel
theorem dX9_gotData_337 : decode cX9_gotData 337 = .ok (.aload 10, 2) := by decide +kernel
theorem dX9_gotData_339 : decode cX9_gotData 339 = .ok (.aastore, 1) := by decide +kernel
theorem dX9_gotData_340 : decode cX9_gotData 340 = .ok (.aload_n 0, 1) := by decide +kernel
theorem dX9_gotData_341 : decode cX9_gotData 341 = .ok (.getfield 77, 3) := by decide +kernel
theorem dX9_gotData_344 : decode cX9_gotData 344 = .ok (.iload_n 1, 1) := by decide +kernel
theorem dX9_gotData_345 : decode cX9_gotData 345 = .ok (.aaload, 1) := by decide +kernel
theorem dX9_gotData_346 : decode cX9_gotData 346 = .ok (.iload 8, 2) := by decide +kernel
theorem dX9_gotData_348 : decode cX9_gotData 348 = .ok (.aaload, 1) := by decide +kernel
theorem dX9_gotData_349 : decode cX9_gotData 349 = .ok (.iconst 1, 1) := by decide +kernel
theorem dX9_gotData_350 : decode cX9_gotData 350 = .ok (.aload_n 0, 1) := by decide +kernel
theorem dX9_gotData_351 : decode cX9_gotData 351 = .ok (.getfield 77, 3) := by decide +kernel
theorem dX9_gotData_354 : decode cX9_gotData 354 = .ok (.iload_n 1, 1) := by decide +kernel
theorem dX9_gotData_355 : decode cX9_gotData 355 = .ok (.aaload, 1) := by decide +kernel
theorem dX9_gotData_356 : decode cX9_gotData 356 = .ok (.iload 8, 2) := by decide +kernel
theorem dX9_gotData_358 : decode cX9_gotData 358 = .ok (.aaload, 1) := by decide +kernel
theorem dX9_gotData_359 : decode cX9_gotData 359 = .ok (.iconst 2, 1) := by decide +kernel
theorem dX9_gotData_360 : decode cX9_gotData 360 = .ok (.aaload, 1) := by decide +kernel
theorem dX9_gotData_361 : decode cX9_gotData 361 = .ok (.aastore, 1) := by decide +kernel
theorem dX9_gotData_362 : decode cX9_gotData 362 = .ok (.aload_n 0, 1) := by decide +kernel
theorem dX9_gotData_363 : decode cX9_gotData 363 = .ok (.getfield 72, 3) := by decide +kernel
theorem dX9_gotData_366 : decode cX9_gotData 366 = .ok (.iload_n 1, 1) := by decide +kernel
theorem dX9_gotData_367 : decode cX9_gotData 367 = .ok (.aaload, 1) := by decide +kernel
theorem dX9_gotData_368 : decode cX9_gotData 368 = .ok (.iload 8, 2) := by decide +kernel
theorem dX9_gotData_370 : decode cX9_gotData 370 = .ok (.aaload, 1) := by decide +kernel
theorem dX9_gotData_371 : decode cX9_gotData 371 = .ok (.iconst 2, 1) := by decide +kernel
theorem dX9_gotData_372 : decode cX9_gotData 372 = .ok (.bipush 9, 2) := by decide +kernel
theorem dX9_gotData_374 : decode cX9_gotData 374 = .ok (.newarray .int, 2) := by decide +kernel
theorem dX9_gotData_376 : decode cX9_gotData 376 = .ok (.aastore, 1) := by decide +kernel
theorem dX9_gotData_377 : decode cX9_gotData 377 = .ok (.aload_n 0, 1) := by decide +kernel
theorem dX9_gotData_378 : decode cX9_gotData 378 = .ok (.getfield 77, 3) := by decide +kernel
theorem dX9_gotData_381 : decode cX9_gotData 381 = .ok (.iload_n 1, 1) := by decide +kernel
theorem dX9_gotData_382 : decode cX9_gotData 382 = .ok (.aaload, 1) := by decide +kernel
theorem dX9_gotData_383 : decode cX9_gotData 383 = .ok (.iload 8, 2) := by decide +kernel
theorem dX9_gotData_385 : decode cX9_gotData 385 = .ok (.aaload, 1) := by decide +kernel
theorem dX9_gotData_386 : decode cX9_gotData 386 = .ok (.iconst 2, 1) := by decide +kernel
theorem dX9_gotData_387 : decode cX9_gotData 387 = .ok (.bipush 40, 2) := by decide +kernel
theorem dX9_gotData_389 : decode cX9_gotData 389 = .ok (.newarray .boolean, 2) := by decide +kernel
theorem dX9_gotData_391 : decode cX9_gotData 391 = .ok (.aastore, 1) := by decide +kernel
theorem dX9_gotData_392 : decode cX9_gotData 392 = .ok (.aload_n 0, 1) := by decide +kernel
theorem dX9_gotData_393 : decode cX9_gotData 393 = .ok (.iload_n 1, 1) := by decide +kernel
theorem dX9_gotData_394 : decode cX9_gotData 394 = .ok (.iload 8, 2) := by decide +kernel
theorem dX9_gotData_396 : decode cX9_gotData 396 = .ok (.invokevirtual 191, 3) := by decide +kernel
theorem dX9_gotData_399 : decode cX9_gotData 399 = .ok (.iload 5, 2) := by decide +kernel
theorem dX9_gotData_401 : decode cX9_gotData 401 = .ok (.iconst (-1), 1) := by decide +kernel
theorem dX9_gotData_402 : decode cX9_gotData 402 = .ok (.if_icmp .ne 17, 3) := by decide +kernel
theorem dX9_gotData_405 : decode cX9_gotData 405 = .ok (.iload 6, 2) := by decide +kernel
theorem dX9_gotData_407 : decode cX9_gotData 407 = .ok (.iconst (-1), 1) := by decide +kernel
theorem dX9_gotData_408 : decode cX9_gotData 408 = .ok (.if_icmp .ne 11, 3) := by decide +kernel
theorem dX9_gotData_411 : decode cX9_gotData 411 = .ok (.iload 7, 2) := by decide +kernel
theorem dX9_gotData_413 : decode cX9_gotData 413 = .ok (.iconst (-1), 1) := by decide +kernel
theorem dX9_gotData_414 : decode cX9_gotData 414 = .ok (.if_icmp .ne 5, 3) := by decide +kernel
theorem dX9_gotData_417 : decode cX9_gotData 417 = .ok (.iconst 2, 1) := by decide +kernel
theorem dX9_gotData_418 : decode cX9_gotData 418 = .ok (.ireturn, 1) := by decide +kernel
theorem dX9_gotData_419 : decode cX9_gotData 419 = .ok (.aload_n 0, 1) := by decide +kernel
theorem dX9_gotData_420 : decode cX9_gotData 420 = .ok (.iload_n 1, 1) := by decide +kernel
theorem dX9_gotData_421 : decode cX9_gotData 421 = .ok (.iload 5, 2) := by decide +kernel
theorem dX9_gotData_423 : decode cX9_gotData 423 = .ok (.invokevirtual 196, 3) := by decide +kernel
theorem dX9_gotData_426 : decode cX9_gotData 426 = .ok (.iload 8, 2) := by decide +kernel
theorem dX9_gotData_428 : decode cX9_gotData 428 = .ok (.if_icmp .eq 6, 3) := by decide +kernel
theorem dX9_gotData_431 : decode cX9_gotData 431 = .ok (.bipush (-5), 2) := by decide +kernel
theorem dX9_gotData_433 : decode cX9_gotData 433 = .ok (.ireturn, 1) := by decide +kernel
theorem dX9_gotData_434 : decode cX9_gotData 434 = .ok (.aload_n 0, 1) := by decide +kernel
theorem dX9_gotData_435 : decode cX9_gotData 435 = .ok (.getfield 83, 3) := by decide +kernel
theorem dX9_gotData_438 : decode cX9_gotData 438 = .ok (.arraylength, 1) := by decide +kernel
theorem dX9_gotData_439 : decode cX9_gotData 439 = .ok (.iconst 1, 1) := by decide +kernel
theorem dX9_gotData_440 : decode cX9_gotData 440 = .ok (.iadd, 1) := by decide +kernel
theorem dX9_gotData_441 : decode cX9_gotData 441 = .ok (.anewarray 199, 3) := by decide +kernel
theorem dX9_gotData_444 : decode cX9_gotData 444 = .ok (.astore 11, 2) := by decide +kernel
theorem dX9_gotData_446 : decode cX9_gotData 446 = .ok (.iconst 0, 1) := by decide +kernel
theorem dX9_gotData_447 : decode cX9_gotData 447 = .ok (.istore 12, 2) := by decide +kernel
theorem dX9_gotData_449 : decode cX9_gotData 449 = .ok (.iload 12, 2) := by decide +kernel
theorem dX9_gotData_451 : decode cX9_gotData 451 = .ok (.aload_n 0, 1) := by decide +kernel
theorem dX9_gotData_452 : decode cX9_gotData 452 = .ok (.getfield 83, 3) := by decide +kernel
theorem dX9_gotData_455 : decode cX9_gotData 455 = .ok (.arraylength, 1) := by decide +kernel
theorem dX9_gotData_456 : decode cX9_gotData 456 = .ok (.if_icmp .ge 21, 3) := by decide +kernel
theorem dX9_gotData_459 : decode cX9_gotData 459 = .ok (.aload 11, 2) := by decide +kernel
theorem dX9_gotData_461 : decode cX9_gotData 461 = .ok (.iload 12, 2) := by decide +kernel
theorem dX9_gotData_463 : decode cX9_gotData 463 = .ok (.aload_n 0, 1) := by decide +kernel
theorem dX9_gotData_464 : decode cX9_gotData 464 = .ok (.getfield 83, 3) := by decide +kernel
theorem dX9_gotData_467 : decode cX9_gotData 467 = .ok (.iload 12, 2) := by decide +kernel
theorem dX9_gotData_469 : decode cX9_gotData 469 = .ok (.aaload, 1) := by decide +kernel
theorem dX9_gotData_470 : decode cX9_gotData 470 = .ok (.aastore, 1) := by decide +kernel
theorem dX9_gotData_471 : decode cX9_gotData 471 = .ok (.iinc 12 1, 3) := by decide +kernel
theorem dX9_gotData_474 : decode cX9_gotData 474 = .ok (.goto (-25), 3) := by decide +kernel
theorem dX9_gotData_477 : decode cX9_gotData 477 = .ok (.aload 11, 2) := by decide +kernel
theorem dX9_gotData_479 : decode cX9_gotData 479 = .ok (.aload_n 0, 1) := by decide +kernel
theorem dX9_gotData_480 : decode cX9_gotData 480 = .ok (.getfield 83, 3) := by decide +kernel
theorem dX9_gotData_483 : decode cX9_gotData 483 = .ok (.arraylength, 1) := by decide +kernel
theorem dX9_gotData_484 : decode cX9_gotData 484 = .ok (.iconst 5, 1) := by decide +kernel
theorem dX9_gotData_485 : decode cX9_gotData 485 = .ok (.newarray .int, 2) := by decide +kernel
theorem dX9_gotData_487 : decode cX9_gotData 487 = .ok (.dup, 1) := by decide +kernel
theorem dX9_gotData_488 : decode cX9_gotData 488 = .ok (.iconst 0, 1) := by decide +kernel
theorem dX9_gotData_489 : decode cX9_gotData 489 = .ok (.iload_n 1, 1) := by decide +kernel
theorem dX9_gotData_490 : decode cX9_gotData 490 = .ok (.iastore, 1) := by decide +kernel
theorem dX9_gotData_491 : decode cX9_gotData 491 = .ok (.dup, 1) := by decide +kernel
theorem dX9_gotData_492 : decode cX9_gotData 492 = .ok (.iconst 1, 1) := by decide +kernel
theorem dX9_gotData_493 : decode cX9_gotData 493 = .ok (.iload 8, 2) := by decide +kernel
theorem dX9_gotData_495 : decode cX9_gotData 495 = .ok (.iastore, 1) := by decide +kernel
theorem dX9_gotData_496 : decode cX9_gotData 496 = .ok (.dup, 1) := by decide +kernel
theorem dX9_gotData_497 : decode cX9_gotData 497 = .ok (.iconst 2, 1) := by decide +kernel
theorem dX9_gotData_498 : decode cX9_gotData 498 = .ok (.iload 5, 2) := by decide +kernel
theorem dX9_gotData_500 : decode cX9_gotData 500 = .ok (.iastore, 1) := by decide +kernel
theorem dX9_gotData_501 : decode cX9_gotData 501 = .ok (.dup, 1) := by decide +kernel
theorem dX9_gotData_502 : decode cX9_gotData 502 = .ok (.iconst 3, 1) := by decide +kernel
theorem dX9_gotData_503 : decode cX9_gotData 503 = .ok (.iload 6, 2) := by decide +kernel
theorem dX9_gotData_505 : decode cX9_gotData 505 = .ok (.iastore, 1) := by decide +kernel
theorem dX9_gotData_506 : decode cX9_gotData 506 = .ok (.dup, 1) := by decide +kernel
theorem dX9_gotData_507 : decode cX9_gotData 507 = .ok (.iconst 4, 1) := by decide +kernel
theorem dX9_gotData_508 : decode cX9_gotData 508 = .ok (.iload 7, 2) := by decide +kernel
theorem dX9_gotData_510 : decode cX9_gotData 510 = .ok (.iastore, 1) := by decide +kernel
theorem dX9_gotData_511 : decode cX9_gotData 511 = .ok (.aastore, 1) := by decide +kernel
theorem dX9_gotData_512 : decode cX9_gotData 512 = .ok (.aload_n 0, 1) := by decide +kernel
theorem dX9_gotData_513 : decode cX9_gotData 513 = .ok (.aload 11, 2) := by decide +kernel
theorem dX9_gotData_515 : decode cX9_gotData 515 = .ok (.putfield 83, 3) := by decide +kernel
theorem dX9_gotData_518 : decode cX9_gotData 518 = .ok (.aload_n 0, 1) := by decide +kernel
theorem dX9_gotData_519 : decode cX9_gotData 519 = .ok (.getfield 20, 3) := by decide +kernel
theorem dX9_gotData_522 : decode cX9_gotData 522 = .ok (.iload_n 1, 1) := by decide +kernel
theorem dX9_gotData_523 : decode cX9_gotData 523 = .ok (.dup2, 1) := by decide +kernel
theorem dX9_gotData_524 : decode cX9_gotData 524 = .ok (.iaload, 1) := by decide +kernel
theorem dX9_gotData_525 : decode cX9_gotData 525 = .ok (.iconst 1, 1) := by decide +kernel
theorem dX9_gotData_526 : decode cX9_gotData 526 = .ok (.iadd, 1) := by decide +kernel
theorem dX9_gotData_527 : decode cX9_gotData 527 = .ok (.iastore, 1) := by decide +kernel
theorem dX9_gotData_528 : decode cX9_gotData 528 = .ok (.iconst 1, 1) := by decide +kernel
theorem dX9_gotData_529 : decode cX9_gotData 529 = .ok (.ireturn, 1) := by decide +kernel
theorem dX9_got_0 : decode cX9_got 0 = .ok (.iconst (-1), 1) := by decide +kernel
theorem dX9_got_1 : decode cX9_got 1 = .ok (.istore_n 2, 1) := by decide +kernel
theorem dX9_got_2 : decode cX9_got 2 = .ok (.iconst 0, 1) := by decide +kernel
theorem dX9_got_3 : decode cX9_got 3 = .ok (.istore_n 3, 1) := by decide +kernel
theorem dX9_got_4 : decode cX9_got 4 = .ok (.iload_n 3, 1) := by decide +kernel
theorem dX9_got_5 : decode cX9_got 5 = .ok (.iconst 3, 1) := by decide +kernel
theorem dX9_got_6 : decode cX9_got 6 = .ok (.if_icmp .ge 23, 3) := by decide +kernel
theorem dX9_got_9 : decode cX9_got 9 = .ok (.aload_n 0, 1) := by decide +kernel
theorem dX9_got_10 : decode cX9_got 10 = .ok (.getfield 13, 3) := by decide +kernel
theorem dX9_got_13 : decode cX9_got 13 = .ok (.iload_n 3, 1) := by decide +kernel
theorem dX9_got_14 : decode cX9_got 14 = .ok (.iaload, 1) := by decide +kernel
theorem dX9_got_15 : decode cX9_got 15 = .ok (.aload_n 1, 1) := by decide +kernel
theorem dX9_got_16 : decode cX9_got 16 = .ok (.iconst 1, 1) := by decide +kernel
theorem dX9_got_17 : decode cX9_got 17 = .ok (.iaload, 1) := by decide +kernel
theorem dX9_got_18 : decode cX9_got 18 = .ok (.if_icmp .ne 5, 3) := by decide +kernel
theorem dX9_got_21 : decode cX9_got 21 = .ok (.iload_n 3, 1) := by decide +kernel
theorem dX9_got_22 : decode cX9_got 22 = .ok (.istore_n 2, 1) := by decide +kernel
theorem dX9_got_23 : decode cX9_got 23 = .ok (.iinc 3 1, 3) := by decide +kernel
theorem dX9_got_26 : decode cX9_got 26 = .ok (.goto (-22), 3) := by decide +kernel
theorem dX9_got_29 : decode cX9_got 29 = .ok (.iload_n 2, 1) := by decide +kernel
theorem dX9_got_30 : decode cX9_got 30 = .ok (.iconst (-1), 1) := by decide +kernel
theorem dX9_got_31 : decode cX9_got 31 = .ok (.if_icmp .ne 5, 3) := by decide +kernel
theorem dX9_got_34 : decode cX9_got 34 = .ok (.iconst 0, 1) := by decide +kernel
theorem dX9_got_35 : decode cX9_got 35 = .ok (.ireturn, 1) := by decide +kernel
theorem dX9_got_36 : decode cX9_got 36 = .ok (.aload_n 1, 1) := by decide +kernel
theorem dX9_got_37 : decode cX9_got 37 = .ok (.iconst 2, 1) := by decide +kernel
theorem dX9_got_38 : decode cX9_got 38 = .ok (.iaload, 1) := by decide +kernel
theorem dX9_got_39 : decode cX9_got 39 = .ok (.tableswitch 46 1 3 #[25, 32, 39], 25) := by decide +kernel
theorem dX9_got_64 : decode cX9_got 64 = .ok (.aload_n 0, 1) := by decide +kernel
theorem dX9_got_65 : decode cX9_got 65 = .ok (.iload_n 2, 1) := by decide +kernel
theorem dX9_got_66 : decode cX9_got 66 = .ok (.aload_n 1, 1) := by decide +kernel
theorem dX9_got_67 : decode cX9_got 67 = .ok (.invokevirtual 200, 3) := by decide +kernel
theorem dX9_got_70 : decode cX9_got 70 = .ok (.ireturn, 1) := by decide +kernel
theorem dX9_got_71 : decode cX9_got 71 = .ok (.aload_n 0, 1) := by decide +kernel
theorem dX9_got_72 : decode cX9_got 72 = .ok (.iload_n 2, 1) := by decide +kernel
theorem dX9_got_73 : decode cX9_got 73 = .ok (.aload_n 1, 1) := by decide +kernel
theorem dX9_got_74 : decode cX9_got 74 = .ok (.invokevirtual 203, 3) := by decide +kernel
theorem dX9_got_77 : decode cX9_got 77 = .ok (.ireturn, 1) := by decide +kernel
theorem dX9_got_78 : decode cX9_got 78 = .ok (.aload_n 0, 1) := by decide +kernel
theorem dX9_got_79 : decode cX9_got 79 = .ok (.iload_n 2, 1) := by decide +kernel
theorem dX9_got_80 : decode cX9_got 80 = .ok (.aload_n 1, 1) := by decide +kernel
theorem dX9_got_81 : decode cX9_got 81 = .ok (.invokevirtual 206, 3) := by decide +kernel
theorem dX9_got_84 : decode cX9_got 84 = .ok (.ireturn, 1) := by decide +kernel
theorem dX9_got_85 : decode cX9_got 85 = .ok (.aload_n 0, 1) := by decide +kernel
theorem dX9_got_86 : decode cX9_got 86 = .ok (.iload_n 2, 1) := by decide +kernel
theorem dX9_got_87 : decode cX9_got 87 = .ok (.aload_n 1, 1) := by decide +kernel
theorem dX9_got_88 : decode cX9_got 88 = .ok (.invokevirtual 209, 3) := by decide +kernel
theorem dX9_got_91 : decode cX9_got 91 = .ok (.ireturn, 1) := by decide +kernel
theorem dX9_pass_0 : decode cX9_pass 0 = .ok (.aload_n 0, 1) := by decide +kernel
theorem dX9_pass_1 : decode cX9_pass 1 = .ok (.iload_n 1, 1) := by decide +kernel
theorem dX9_pass_2 : decode cX9_pass 2 = .ok (.i2l, 1) := by decide +kernel
theorem dX9_pass_3 : decode cX9_pass 3 = .ok (.lconst 1, 1) := by decide +kernel
theorem dX9_pass_4 : decode cX9_pass 4 = .ok (.ldc2_w 212, 3) := by decide +kernel
theorem dX9_pass_7 : decode cX9_pass 7 = .ok (.invokestatic 91, 3) := by decide +kernel
theorem dX9_pass_10 : decode cX9_pass 10 = .ok (.ifCond .ne 7, 3) := by decide +kernel
theorem dX9_pass_13 : decode cX9_pass 13 = .ok (.iconst 1, 1) := by decide +kernel
theorem dX9_pass_14 : decode cX9_pass 14 = .ok (.goto 19, 3) := by decide +kernel
theorem dX9_pass_17 : decode cX9_pass 17 = .ok (.aload_n 0, 1) := by decide +kernel
theorem dX9_pass_18 : decode cX9_pass 18 = .ok (.getfield 129, 3) := by decide +kernel
theorem dX9_pass_21 : decode cX9_pass 21 = .ok (.iload_n 1, 1) := by decide +kernel
theorem dX9_pass_22 : decode cX9_pass 22 = .ok (.iadd, 1) := by decide +kernel
theorem dX9_pass_23 : decode cX9_pass 23 = .ok (.ldc 214, 2) := by decide +kernel
theorem dX9_pass_25 : decode cX9_pass 25 = .ok (.if_icmp .le 7, 3) := by decide +kernel
theorem dX9_pass_28 : decode cX9_pass 28 = .ok (.iconst 2, 1) := by decide +kernel
theorem dX9_pass_29 : decode cX9_pass 29 = .ok (.goto 4, 3) := by decide +kernel
theorem dX9_pass_32 : decode cX9_pass 32 = .ok (.iconst 0, 1) := by decide +kernel
theorem dX9_pass_33 : decode cX9_pass 33 = .ok (.invokevirtual 215, 3) := by decide +kernel
theorem dX9_pass_36 : decode cX9_pass 36 = .ok (.ifCond .eq 5, 3) := by decide +kernel
theorem dX9_pass_39 : decode cX9_pass 39 = .ok (.iconst 0, 1) := by decide +kernel
theorem dX9_pass_40 : decode cX9_pass 40 = .ok (.ireturn, 1) := by decide +kernel
theorem dX9_pass_41 : decode cX9_pass 41 = .ok (.aload_n 0, 1) := by decide +kernel
theorem dX9_pass_42 : decode cX9_pass 42 = .ok (.dup, 1) := by decide +kernel
theorem dX9_pass_43 : decode cX9_pass 43 = .ok (.getfield 129, 3) := by decide +kernel
theorem dX9_pass_46 : decode cX9_pass 46 = .ok (.iload_n 1, 1) := by decide +kernel
theorem dX9_pass_47 : decode cX9_pass 47 = .ok (.iadd, 1) := by decide +kernel
theorem dX9_pass_48 : decode cX9_pass 48 = .ok (.putfield 129, 3) := by decide +kernel
theorem dX9_pass_51 : decode cX9_pass 51 = .ok (.aload_n 0, 1) := by decide +kernel
theorem dX9_pass_52 : decode cX9_pass 52 = .ok (.getfield 129, 3) := by decide +kernel
theorem dX9_pass_55 : decode cX9_pass 55 = .ok (.ireturn, 1) := by decide +kernel
theorem dX9_move_0 : decode cX9_move 0 = .ok (.iload_n 2, 1) := by decide +kernel
theorem dX9_move_1 : decode cX9_move 1 = .ok (.i2l, 1) := by decide +kernel
theorem dX9_move_2 : decode cX9_move 2 = .ok (.lconst 1, 1) := by decide +kernel
theorem dX9_move_3 : decode cX9_move 3 = .ok (.ldc2_w 218, 3) := by decide +kernel
theorem dX9_move_6 : decode cX9_move 6 = .ok (.invokestatic 91, 3) := by decide +kernel
theorem dX9_move_9 : decode cX9_move 9 = .ok (.istore_n 3, 1) := by decide +kernel
theorem dX9_move_10 : decode cX9_move 10 = .ok (.iconst 0, 1) := by decide +kernel
theorem dX9_move_11 : decode cX9_move 11 = .ok (.istore 4, 2) := by decide +kernel
theorem dX9_move_13 : decode cX9_move 13 = .ok (.iload 4, 2) := by decide +kernel
theorem dX9_move_15 : decode cX9_move 15 = .ok (.iconst 3, 1) := by decide +kernel
theorem dX9_move_16 : decode cX9_move 16 = .ok (.if_icmp .ge 34, 3) := by decide +kernel
theorem dX9_move_19 : decode cX9_move 19 = .ok (.iload_n 3, 1) := by decide +kernel
theorem dX9_move_20 : decode cX9_move 20 = .ok (.iload 4, 2) := by decide +kernel
theorem dX9_move_22 : decode cX9_move 22 = .ok (.iload_n 1, 1) := by decide +kernel
theorem dX9_move_23 : decode cX9_move 23 = .ok (.if_icmp .eq 14, 3) := by decide +kernel
theorem dX9_move_26 : decode cX9_move 26 = .ok (.aload_n 0, 1) := by decide +kernel
theorem dX9_move_27 : decode cX9_move 27 = .ok (.getfield 13, 3) := by decide +kernel
theorem dX9_move_30 : decode cX9_move 30 = .ok (.iload 4, 2) := by decide +kernel
theorem dX9_move_32 : decode cX9_move 32 = .ok (.iaload, 1) := by decide +kernel
theorem dX9_move_33 : decode cX9_move 33 = .ok (.iload_n 2, 1) := by decide +kernel
theorem dX9_move_34 : decode cX9_move 34 = .ok (.if_icmp .eq 7, 3) := by decide +kernel
theorem dX9_move_37 : decode cX9_move 37 = .ok (.iconst 1, 1) := by decide +kernel
theorem dX9_move_38 : decode cX9_move 38 = .ok (.goto 4, 3) := by decide +kernel
theorem dX9_move_41 : decode cX9_move 41 = .ok (.iconst 0, 1) := by decide +kernel
theorem dX9_move_42 : decode cX9_move 42 = .ok (.iand, 1) := by decide +kernel
theorem dX9_move_43 : decode cX9_move 43 = .ok (.istore_n 3, 1) := by decide +kernel
theorem dX9_move_44 : decode cX9_move 44 = .ok (.iinc 4 1, 3) := by decide +kernel
theorem dX9_move_47 : decode cX9_move 47 = .ok (.goto (-34), 3) := by decide +kernel
theorem dX9_move_50 : decode cX9_move 50 = .ok (.aload_n 0, 1) := by decide +kernel
theorem dX9_move_51 : decode cX9_move 51 = .ok (.iload_n 1, 1) := by decide +kernel
theorem dX9_move_52 : decode cX9_move 52 = .ok (.invokestatic 98, 3) := by decide +kernel
theorem dX9_move_55 : decode cX9_move 55 = .ok (.ifCond .ne 7, 3) := by decide +kernel
theorem dX9_move_58 : decode cX9_move 58 = .ok (.iconst 1, 1) := by decide +kernel
theorem dX9_move_59 : decode cX9_move 59 = .ok (.goto 12, 3) := by decide +kernel
theorem dX9_move_62 : decode cX9_move 62 = .ok (.iload_n 3, 1) := by decide +kernel
theorem dX9_move_63 : decode cX9_move 63 = .ok (.ifCond .ne 7, 3) := by decide +kernel
theorem dX9_move_66 : decode cX9_move 66 = .ok (.iconst 2, 1) := by decide +kernel
theorem dX9_move_67 : decode cX9_move 67 = .ok (.goto 4, 3) := by decide +kernel
theorem dX9_move_70 : decode cX9_move 70 = .ok (.iconst 0, 1) := by decide +kernel
theorem dX9_move_71 : decode cX9_move 71 = .ok (.invokevirtual 215, 3) := by decide +kernel
theorem dX9_move_74 : decode cX9_move 74 = .ok (.ifCond .eq 5, 3) := by decide +kernel
theorem dX9_move_77 : decode cX9_move 77 = .ok (.iconst 0, 1) := by decide +kernel
theorem dX9_move_78 : decode cX9_move 78 = .ok (.ireturn, 1) := by decide +kernel
theorem dX9_move_79 : decode cX9_move 79 = .ok (.aload_n 0, 1) := by decide +kernel
theorem dX9_move_80 : decode cX9_move 80 = .ok (.getfield 13, 3) := by decide +kernel
theorem dX9_move_83 : decode cX9_move 83 = .ok (.iload_n 1, 1) := by decide +kernel
theorem dX9_move_84 : decode cX9_move 84 = .ok (.iaload, 1) := by decide +kernel
theorem dX9_move_85 : decode cX9_move 85 = .ok (.istore 4, 2) := by decide +kernel
theorem dX9_move_87 : decode cX9_move 87 = .ok (.aload_n 0, 1) := by decide +kernel
theorem dX9_move_88 : decode cX9_move 88 = .ok (.getfield 13, 3) := by decide +kernel
theorem dX9_move_91 : decode cX9_move 91 = .ok (.iload_n 1, 1) := by decide +kernel
theorem dX9_move_92 : decode cX9_move 92 = .ok (.iload_n 2, 1) := by decide +kernel
theorem dX9_move_93 : decode cX9_move 93 = .ok (.iastore, 1) := by decide +kernel
theorem dX9_move_94 : decode cX9_move 94 = .ok (.iload 4, 2) := by decide +kernel
theorem dX9_move_96 : decode cX9_move 96 = .ok (.ireturn, 1) := by decide +kernel
theorem dX9_load_0 : decode cX9_load 0 = .ok (.aload_n 0, 1) := by decide +kernel
theorem dX9_load_1 : decode cX9_load 1 = .ok (.iload_n 1, 1) := by decide +kernel
theorem dX9_load_2 : decode cX9_load 2 = .ok (.invokestatic 98, 3) := by decide +kernel
theorem dX9_load_5 : decode cX9_load 5 = .ok (.ifCond .eq 7, 3) := by decide +kernel
theorem dX9_load_8 : decode cX9_load 8 = .ok (.iconst 0, 1) := by decide +kernel
theorem dX9_load_9 : decode cX9_load 9 = .ok (.goto 4, 3) := by decide +kernel
theorem dX9_load_12 : decode cX9_load 12 = .ok (.iconst 1, 1) := by decide +kernel
theorem dX9_load_13 : decode cX9_load 13 = .ok (.invokevirtual 215, 3) := by decide +kernel
theorem dX9_load_16 : decode cX9_load 16 = .ok (.ifCond .eq 5, 3) := by decide +kernel
theorem dX9_load_19 : decode cX9_load 19 = .ok (.iconst 0, 1) := by decide +kernel
theorem dX9_load_20 : decode cX9_load 20 = .ok (.ireturn, 1) := by decide +kernel
theorem dX9_load_21 : decode cX9_load 21 = .ok (.aload_n 0, 1) := by decide +kernel
theorem dX9_load_22 : decode cX9_load 22 = .ok (.getfield 26, 3) := by decide +kernel
theorem dX9_load_25 : decode cX9_load 25 = .ok (.iload_n 1, 1) := by decide +kernel
theorem dX9_load_26 : decode cX9_load 26 = .ok (.baload, 1) := by decide +kernel
theorem dX9_load_27 : decode cX9_load 27 = .ok (.istore_n 3, 1) := by decide +kernel
theorem dX9_load_28 : decode cX9_load 28 = .ok (.aload_n 0, 1) := by decide +kernel
theorem dX9_load_29 : decode cX9_load 29 = .ok (.getfield 26, 3) := by decide +kernel
theorem dX9_load_32 : decode cX9_load 32 = .ok (.iload_n 1, 1) := by decide +kernel
theorem dX9_load_33 : decode cX9_load 33 = .ok (.iload_n 2, 1) := by decide +kernel
theorem dX9_load_34 : decode cX9_load 34 = .ok (.bastore, 1) := by decide +kernel
theorem dX9_load_35 : decode cX9_load 35 = .ok (.iload_n 3, 1) := by decide +kernel
theorem dX9_load_36 : decode cX9_load 36 = .ok (.ireturn, 1) := by decide +kernel
theorem dX9_place_0 : decode cX9_place 0 = .ok (.iconst 0, 1) := by decide +kernel
theorem dX9_place_1 : decode cX9_place 1 = .ok (.istore 4, 2) := by decide +kernel
theorem dX9_place_3 : decode cX9_place 3 = .ok (.iload 4, 2) := by decide +kernel
theorem dX9_place_5 : decode cX9_place 5 = .ok (.aload_n 0, 1) := by decide +kernel
theorem dX9_place_6 : decode cX9_place 6 = .ok (.getfield 17, 3) := by decide +kernel
theorem dX9_place_9 : decode cX9_place 9 = .ok (.iload_n 1, 1) := by decide +kernel
theorem dX9_place_10 : decode cX9_place 10 = .ok (.iaload, 1) := by decide +kernel
theorem dX9_place_11 : decode cX9_place 11 = .ok (.if_icmp .ge 42, 3) := by decide +kernel
theorem dX9_place_14 : decode cX9_place 14 = .ok (.aload_n 0, 1) := by decide +kernel
theorem dX9_place_15 : decode cX9_place 15 = .ok (.getfield 32, 3) := by decide +kernel
theorem dX9_place_18 : decode cX9_place 18 = .ok (.iload_n 1, 1) := by decide +kernel
theorem dX9_place_19 : decode cX9_place 19 = .ok (.aaload, 1) := by decide +kernel
theorem dX9_place_20 : decode cX9_place 20 = .ok (.iload 4, 2) := by decide +kernel
theorem dX9_place_22 : decode cX9_place 22 = .ok (.aaload, 1) := by decide +kernel
theorem dX9_place_23 : decode cX9_place 23 = .ok (.iconst 0, 1) := by decide +kernel
theorem dX9_place_24 : decode cX9_place 24 = .ok (.iaload, 1) := by decide +kernel
theorem dX9_place_25 : decode cX9_place 25 = .ok (.iload_n 2, 1) := by decide +kernel
theorem dX9_place_26 : decode cX9_place 26 = .ok (.if_icmp .ne 21, 3) := by decide +kernel
theorem dX9_place_29 : decode cX9_place 29 = .ok (.aload_n 0, 1) := by decide +kernel
theorem dX9_place_30 : decode cX9_place 30 = .ok (.getfield 32, 3) := by decide +kernel
theorem dX9_place_33 : decode cX9_place 33 = .ok (.iload_n 1, 1) := by decide +kernel
theorem dX9_place_34 : decode cX9_place 34 = .ok (.aaload, 1) := by decide +kernel
theorem dX9_place_35 : decode cX9_place 35 = .ok (.iload 4, 2) := by decide +kernel
theorem dX9_place_37 : decode cX9_place 37 = .ok (.aaload, 1) := by decide +kernel
theorem dX9_place_38 : decode cX9_place 38 = .ok (.iconst 1, 1) := by decide +kernel
theorem dX9_place_39 : decode cX9_place 39 = .ok (.iaload, 1) := by decide +kernel
theorem dX9_place_40 : decode cX9_place 40 = .ok (.iload_n 3, 1) := by decide +kernel
theorem dX9_place_41 : decode cX9_place 41 = .ok (.if_icmp .ne 6, 3) := by decide +kernel
theorem dX9_place_44 : decode cX9_place 44 = .ok (.iload 4, 2) := by decide +kernel
theorem dX9_place_46 : decode cX9_place 46 = .ok (.ireturn, 1) := by decide +kernel
theorem dX9_place_47 : decode cX9_place 47 = .ok (.iinc 4 1, 3) := by decide +kernel
theorem dX9_place_50 : decode cX9_place 50 = .ok (.goto (-47), 3) := by decide +kernel
theorem dX9_place_53 : decode cX9_place 53 = .ok (.iconst (-1), 1) := by decide +kernel
theorem dX9_place_54 : decode cX9_place 54 = .ok (.ireturn, 1) := by decide +kernel
theorem dX9_counting_0 : decode cX9_counting 0 = .ok (.iload_n 0, 1) := by decide +kernel
theorem dX9_counting_1 : decode cX9_counting 1 = .ok (.bipush 8, 2) := by decide +kernel
theorem dX9_counting_3 : decode cX9_counting 3 = .ok (.iload_n 1, 1) := by decide +kernel
theorem dX9_counting_4 : decode cX9_counting 4 = .ok (.isub, 1) := by decide +kernel
theorem dX9_counting_5 : decode cX9_counting 5 = .ok (.ishr, 1) := by decide +kernel
theorem dX9_counting_6 : decode cX9_counting 6 = .ok (.bipush 8, 2) := by decide +kernel
theorem dX9_counting_8 : decode cX9_counting 8 = .ok (.iload_n 1, 1) := by decide +kernel
theorem dX9_counting_9 : decode cX9_counting 9 = .ok (.isub, 1) := by decide +kernel
theorem dX9_counting_10 : decode cX9_counting 10 = .ok (.ishl, 1) := by decide +kernel
theorem dX9_counting_11 : decode cX9_counting 11 = .ok (.ireturn, 1) := by decide +kernel
theorem dX9_allow_0 : decode cX9_allow 0 = .ok (.iload_n 3, 1) := by decide +kernel
theorem dX9_allow_1 : decode cX9_allow 1 = .ok (.i2l, 1) := by decide +kernel
theorem dX9_allow_2 : decode cX9_allow 2 = .ok (.lconst 0, 1) := by decide +kernel
theorem dX9_allow_3 : decode cX9_allow 3 = .ok (.ldc2_w 220, 3) := by decide +kernel
theorem dX9_allow_6 : decode cX9_allow 6 = .ok (.invokestatic 91, 3) := by decide +kernel
theorem dX9_allow_9 : decode cX9_allow 9 = .ok (.ifCond .eq 20, 3) := by decide +kernel
theorem dX9_allow_12 : decode cX9_allow 12 = .ok (.iload 4, 2) := by decide +kernel
theorem dX9_allow_14 : decode cX9_allow 14 = .ok (.i2l, 1) := by decide +kernel
theorem dX9_allow_15 : decode cX9_allow 15 = .ok (.lconst 0, 1) := by decide +kernel
theorem dX9_allow_16 : decode cX9_allow 16 = .ok (.ldc2_w 222, 3) := by decide +kernel
theorem dX9_allow_19 : decode cX9_allow 19 = .ok (.invokestatic 91, 3) := by decide +kernel
theorem dX9_allow_22 : decode cX9_allow 22 = .ok (.ifCond .eq 7, 3) := by decide +kernel
theorem dX9_allow_25 : decode cX9_allow 25 = .ok (.iconst 1, 1) := by decide +kernel
theorem dX9_allow_26 : decode cX9_allow 26 = .ok (.goto 4, 3) := by decide +kernel
theorem dX9_allow_29 : decode cX9_allow 29 = .ok (.iconst 0, 1) := by decide +kernel
theorem dX9_allow_30 : decode cX9_allow 30 = .ok (.istore 5, 2) := by decide +kernel
theorem dX9_allow_32 : decode cX9_allow 32 = .ok (.iload_n 1, 1) := by decide +kernel
theorem dX9_allow_33 : decode cX9_allow 33 = .ok (.iload_n 2, 1) := by decide +kernel
theorem dX9_allow_34 : decode cX9_allow 34 = .ok (.invokestatic 224, 3) := by decide +kernel
theorem dX9_allow_37 : decode cX9_allow 37 = .ok (.iconst 1, 1) := by decide +kernel
theorem dX9_allow_38 : decode cX9_allow 38 = .ok (.if_icmp .ne 7, 3) := by decide +kernel
theorem dX9_allow_41 : decode cX9_allow 41 = .ok (.iconst 1, 1) := by decide +kernel
theorem dX9_allow_42 : decode cX9_allow 42 = .ok (.goto 18, 3) := by decide +kernel
theorem dX9_allow_45 : decode cX9_allow 45 = .ok (.iload_n 1, 1) := by decide +kernel
theorem dX9_allow_46 : decode cX9_allow 46 = .ok (.iload_n 2, 1) := by decide +kernel
theorem dX9_allow_47 : decode cX9_allow 47 = .ok (.if_icmp .eq 8, 3) := by decide +kernel
theorem dX9_allow_50 : decode cX9_allow 50 = .ok (.iload 5, 2) := by decide +kernel
theorem dX9_allow_52 : decode cX9_allow 52 = .ok (.ifCond .ne 7, 3) := by decide +kernel
theorem dX9_allow_55 : decode cX9_allow 55 = .ok (.iconst 2, 1) := by decide +kernel
theorem dX9_allow_56 : decode cX9_allow 56 = .ok (.goto 4, 3) := by decide +kernel
theorem dX9_allow_59 : decode cX9_allow 59 = .ok (.iconst 0, 1) := by decide +kernel
theorem dX9_allow_60 : decode cX9_allow 60 = .ok (.istore 6, 2) := by decide +kernel
theorem dX9_allow_62 : decode cX9_allow 62 = .ok (.iload 6, 2) := by decide +kernel
theorem dX9_allow_64 : decode cX9_allow 64 = .ok (.ifCond .ne 34, 3) := by decide +kernel
theorem dX9_allow_67 : decode cX9_allow 67 = .ok (.aload_n 0, 1) := by decide +kernel
theorem dX9_allow_68 : decode cX9_allow 68 = .ok (.iload_n 1, 1) := by decide +kernel
theorem dX9_allow_69 : decode cX9_allow 69 = .ok (.iload_n 3, 1) := by decide +kernel
theorem dX9_allow_70 : decode cX9_allow 70 = .ok (.iload 4, 2) := by decide +kernel
theorem dX9_allow_72 : decode cX9_allow 72 = .ok (.invokestatic 227, 3) := by decide +kernel
theorem dX9_allow_75 : decode cX9_allow 75 = .ok (.iload 4, 2) := by decide +kernel
theorem dX9_allow_77 : decode cX9_allow 77 = .ok (.invokevirtual 230, 3) := by decide +kernel
theorem dX9_allow_80 : decode cX9_allow 80 = .ok (.iconst (-1), 1) := by decide +kernel
theorem dX9_allow_81 : decode cX9_allow 81 = .ok (.if_icmp .ne 17, 3) := by decide +kernel
theorem dX9_allow_84 : decode cX9_allow 84 = .ok (.aload_n 0, 1) := by decide +kernel
theorem dX9_allow_85 : decode cX9_allow 85 = .ok (.getfield 17, 3) := by decide +kernel
theorem dX9_allow_88 : decode cX9_allow 88 = .ok (.iload_n 1, 1) := by decide +kernel
theorem dX9_allow_89 : decode cX9_allow 89 = .ok (.iaload, 1) := by decide +kernel
theorem dX9_allow_90 : decode cX9_allow 90 = .ok (.bipush 8, 2) := by decide +kernel
theorem dX9_allow_92 : decode cX9_allow 92 = .ok (.if_icmp .ne 6, 3) := by decide +kernel
theorem dX9_allow_95 : decode cX9_allow 95 = .ok (.iconst 3, 1) := by decide +kernel
theorem dX9_allow_96 : decode cX9_allow 96 = .ok (.istore 6, 2) := by decide +kernel
theorem dX9_allow_98 : decode cX9_allow 98 = .ok (.aload_n 0, 1) := by decide +kernel
theorem dX9_allow_99 : decode cX9_allow 99 = .ok (.iload 6, 2) := by decide +kernel
theorem dX9_allow_101 : decode cX9_allow 101 = .ok (.invokevirtual 215, 3) := by decide +kernel
theorem dX9_allow_104 : decode cX9_allow 104 = .ok (.ifCond .eq 5, 3) := by decide +kernel
theorem dX9_allow_107 : decode cX9_allow 107 = .ok (.iconst 0, 1) := by decide +kernel
theorem dX9_allow_108 : decode cX9_allow 108 = .ok (.ireturn, 1) := by decide +kernel
theorem dX9_allow_109 : decode cX9_allow 109 = .ok (.iload_n 3, 1) := by decide +kernel
theorem dX9_allow_110 : decode cX9_allow 110 = .ok (.iload 4, 2) := by decide +kernel
theorem dX9_allow_112 : decode cX9_allow 112 = .ok (.invokestatic 227, 3) := by decide +kernel
theorem dX9_allow_115 : decode cX9_allow 115 = .ok (.istore 7, 2) := by decide +kernel
theorem dX9_allow_117 : decode cX9_allow 117 = .ok (.aload_n 0, 1) := by decide +kernel
theorem dX9_allow_118 : decode cX9_allow 118 = .ok (.iload_n 1, 1) := by decide +kernel
theorem dX9_allow_119 : decode cX9_allow 119 = .ok (.iload 7, 2) := by decide +kernel
theorem dX9_allow_121 : decode cX9_allow 121 = .ok (.iload 4, 2) := by decide +kernel
theorem dX9_allow_123 : decode cX9_allow 123 = .ok (.invokevirtual 230, 3) := by decide +kernel
theorem dX9_allow_126 : decode cX9_allow 126 = .ok (.istore 8, 2) := by decide +kernel
theorem dX9_allow_128 : decode cX9_allow 128 = .ok (.iload 8, 2) := by decide +kernel
theorem dX9_allow_130 : decode cX9_allow 130 = .ok (.iconst (-1), 1) := by decide +kernel
theorem dX9_allow_131 : decode cX9_allow 131 = .ok (.if_icmp .ne 16, 3) := by decide +kernel
theorem dX9_allow_134 : decode cX9_allow 134 = .ok (.aload_n 0, 1) := by decide +kernel
theorem dX9_allow_135 : decode cX9_allow 135 = .ok (.getfield 17, 3) := by decide +kernel
theorem dX9_allow_138 : decode cX9_allow 138 = .ok (.iload_n 1, 1) := by decide +kernel
theorem dX9_allow_139 : decode cX9_allow 139 = .ok (.dup2, 1) := by decide +kernel
theorem dX9_allow_140 : decode cX9_allow 140 = .ok (.iaload, 1) := by decide +kernel
theorem dX9_allow_141 : decode cX9_allow 141 = .ok (.dup_x2, 1) := by decide +kernel
theorem dX9_allow_142 : decode cX9_allow 142 = .ok (.iconst 1, 1) := by decide +kernel
theorem dX9_allow_143 : decode cX9_allow 143 = .ok (.iadd, 1) := by decide +kernel
theorem dX9_allow_144 : decode cX9_allow 144 = .ok (.iastore, 1) := by decide +kernel
theorem dX9_allow_145 : decode cX9_allow 145 = .ok (.istore 8, 2) := by decide +kernel
theorem dX9_allow_147 : decode cX9_allow 147 = .ok (.aload_n 0, 1) := by decide +kernel
theorem dX9_allow_148 : decode cX9_allow 148 = .ok (.getfield 32, 3) := by decide +kernel
theorem dX9_allow_151 : decode cX9_allow 151 = .ok (.iload_n 1, 1) := by decide +kernel
theorem dX9_allow_152 : decode cX9_allow 152 = .ok (.aaload, 1) := by decide +kernel
theorem dX9_allow_153 : decode cX9_allow 153 = .ok (.iload 8, 2) := by decide +kernel
theorem dX9_allow_155 : decode cX9_allow 155 = .ok (.iconst 3, 1) := by decide +kernel
theorem dX9_allow_156 : decode cX9_allow 156 = .ok (.newarray .int, 2) := by decide +kernel
theorem dX9_allow_158 : decode cX9_allow 158 = .ok (.dup, 1) := by decide +kernel
theorem dX9_allow_159 : decode cX9_allow 159 = .ok (.iconst 0, 1) := by decide +kernel
theorem dX9_allow_160 : decode cX9_allow 160 = .ok (.iload 7, 2) := by decide +kernel
theorem dX9_allow_162 : decode cX9_allow 162 = .ok (.iastore, 1) := by decide +kernel
theorem dX9_allow_163 : decode cX9_allow 163 = .ok (.dup, 1) := by decide +kernel
theorem dX9_allow_164 : decode cX9_allow 164 = .ok (.iconst 1, 1) := by decide +kernel
theorem dX9_allow_165 : decode cX9_allow 165 = .ok (.iload 4, 2) := by decide +kernel
theorem dX9_allow_167 : decode cX9_allow 167 = .ok (.iastore, 1) := by decide +kernel
theorem dX9_allow_168 : decode cX9_allow 168 = .ok (.dup, 1) := by decide +kernel
theorem dX9_allow_169 : decode cX9_allow 169 = .ok (.iconst 2, 1) := by decide +kernel
theorem dX9_allow_170 : decode cX9_allow 170 = .ok (.iload_n 2, 1) := by decide +kernel
theorem dX9_allow_171 : decode cX9_allow 171 = .ok (.iastore, 1) := by decide +kernel
theorem dX9_allow_172 : decode cX9_allow 172 = .ok (.aastore, 1) := by decide +kernel
theorem dX9_allow_173 : decode cX9_allow 173 = .ok (.aload_n 0, 1) := by decide +kernel
theorem dX9_allow_174 : decode cX9_allow 174 = .ok (.getfield 17, 3) := by decide +kernel
theorem dX9_allow_177 : decode cX9_allow 177 = .ok (.iload_n 1, 1) := by decide +kernel
theorem dX9_allow_178 : decode cX9_allow 178 = .ok (.iaload, 1) := by decide +kernel
theorem dX9_allow_179 : decode cX9_allow 179 = .ok (.ireturn, 1) := by decide +kernel
theorem dX9_forbid_0 : decode cX9_forbid 0 = .ok (.iload_n 1, 1) := by decide +kernel
theorem dX9_forbid_1 : decode cX9_forbid 1 = .ok (.invokestatic 98, 3) := by decide +kernel
theorem dX9_forbid_4 : decode cX9_forbid 4 = .ok (.ifCond .ne 7, 3) := by decide +kernel
theorem dX9_forbid_7 : decode cX9_forbid 7 = .ok (.iconst 1, 1) := by decide +kernel
theorem dX9_forbid_8 : decode cX9_forbid 8 = .ok (.goto 32, 3) := by decide +kernel
theorem dX9_forbid_11 : decode cX9_forbid 11 = .ok (.iload_n 2, 1) := by decide +kernel
theorem dX9_forbid_12 : decode cX9_forbid 12 = .ok (.i2l, 1) := by decide +kernel
theorem dX9_forbid_13 : decode cX9_forbid 13 = .ok (.lconst 0, 1) := by decide +kernel
theorem dX9_forbid_14 : decode cX9_forbid 14 = .ok (.ldc2_w 220, 3) := by decide +kernel
theorem dX9_forbid_17 : decode cX9_forbid 17 = .ok (.invokestatic 91, 3) := by decide +kernel
theorem dX9_forbid_20 : decode cX9_forbid 20 = .ok (.ifCond .eq 15, 3) := by decide +kernel
theorem dX9_forbid_23 : decode cX9_forbid 23 = .ok (.iload_n 3, 1) := by decide +kernel
theorem dX9_forbid_24 : decode cX9_forbid 24 = .ok (.i2l, 1) := by decide +kernel
theorem dX9_forbid_25 : decode cX9_forbid 25 = .ok (.lconst 0, 1) := by decide +kernel
theorem dX9_forbid_26 : decode cX9_forbid 26 = .ok (.ldc2_w 222, 3) := by decide +kernel
theorem dX9_forbid_29 : decode cX9_forbid 29 = .ok (.invokestatic 91, 3) := by decide +kernel
theorem dX9_forbid_32 : decode cX9_forbid 32 = .ok (.ifCond .ne 7, 3) := by decide +kernel
theorem dX9_forbid_35 : decode cX9_forbid 35 = .ok (.iconst 2, 1) := by decide +kernel
theorem dX9_forbid_36 : decode cX9_forbid 36 = .ok (.goto 4, 3) := by decide +kernel
theorem dX9_forbid_39 : decode cX9_forbid 39 = .ok (.iconst 0, 1) := by decide +kernel
theorem dX9_forbid_40 : decode cX9_forbid 40 = .ok (.istore 4, 2) := by decide +kernel
theorem dX9_forbid_42 : decode cX9_forbid 42 = .ok (.iload 4, 2) := by decide +kernel
theorem dX9_forbid_44 : decode cX9_forbid 44 = .ok (.ifCond .ne 17, 3) := by decide +kernel
theorem dX9_forbid_47 : decode cX9_forbid 47 = .ok (.aload_n 0, 1) := by decide +kernel
theorem dX9_forbid_48 : decode cX9_forbid 48 = .ok (.iload_n 1, 1) := by decide +kernel
theorem dX9_forbid_49 : decode cX9_forbid 49 = .ok (.iload_n 2, 1) := by decide +kernel
theorem dX9_forbid_50 : decode cX9_forbid 50 = .ok (.iload_n 3, 1) := by decide +kernel
theorem dX9_forbid_51 : decode cX9_forbid 51 = .ok (.invokestatic 227, 3) := by decide +kernel
theorem dX9_forbid_54 : decode cX9_forbid 54 = .ok (.iload_n 3, 1) := by decide +kernel
theorem dX9_forbid_55 : decode cX9_forbid 55 = .ok (.invokevirtual 230, 3) := by decide +kernel
theorem dX9_forbid_58 : decode cX9_forbid 58 = .ok (.goto 4, 3) := by decide +kernel
theorem dX9_forbid_61 : decode cX9_forbid 61 = .ok (.iconst (-1), 1) := by decide +kernel
theorem dX9_forbid_62 : decode cX9_forbid 62 = .ok (.istore 5, 2) := by decide +kernel
theorem dX9_forbid_64 : decode cX9_forbid 64 = .ok (.aload_n 0, 1) := by decide +kernel
theorem dX9_forbid_65 : decode cX9_forbid 65 = .ok (.iload 4, 2) := by decide +kernel
theorem dX9_forbid_67 : decode cX9_forbid 67 = .ok (.ifCond .ne 13, 3) := by decide +kernel
theorem dX9_forbid_70 : decode cX9_forbid 70 = .ok (.iload 5, 2) := by decide +kernel
theorem dX9_forbid_72 : decode cX9_forbid 72 = .ok (.iconst (-1), 1) := by decide +kernel
theorem dX9_forbid_73 : decode cX9_forbid 73 = .ok (.if_icmp .ne 7, 3) := by decide +kernel
theorem dX9_forbid_76 : decode cX9_forbid 76 = .ok (.iconst 3, 1) := by decide +kernel
theorem dX9_forbid_77 : decode cX9_forbid 77 = .ok (.goto 5, 3) := by decide +kernel
theorem dX9_forbid_80 : decode cX9_forbid 80 = .ok (.iload 4, 2) := by decide +kernel
theorem dX9_forbid_82 : decode cX9_forbid 82 = .ok (.invokevirtual 215, 3) := by decide +kernel
theorem dX9_forbid_85 : decode cX9_forbid 85 = .ok (.ifCond .eq 5, 3) := by decide +kernel
theorem dX9_forbid_88 : decode cX9_forbid 88 = .ok (.iconst 0, 1) := by decide +kernel
theorem dX9_forbid_89 : decode cX9_forbid 89 = .ok (.ireturn, 1) := by decide +kernel
theorem dX9_forbid_90 : decode cX9_forbid 90 = .ok (.iload 5, 2) := by decide +kernel
theorem dX9_forbid_92 : decode cX9_forbid 92 = .ok (.istore 6, 2) := by decide +kernel
theorem dX9_forbid_94 : decode cX9_forbid 94 = .ok (.iload 6, 2) := by decide +kernel
theorem dX9_forbid_96 : decode cX9_forbid 96 = .ok (.aload_n 0, 1) := by decide +kernel
theorem dX9_forbid_97 : decode cX9_forbid 97 = .ok (.getfield 17, 3) := by decide +kernel
theorem dX9_forbid_100 : decode cX9_forbid 100 = .ok (.iload_n 1, 1) := by decide +kernel
theorem dX9_forbid_101 : decode cX9_forbid 101 = .ok (.iaload, 1) := by decide +kernel
theorem dX9_forbid_102 : decode cX9_forbid 102 = .ok (.iconst 1, 1) := by decide +kernel
theorem dX9_forbid_103 : decode cX9_forbid 103 = .ok (.isub, 1) := by decide +kernel
theorem dX9_forbid_104 : decode cX9_forbid 104 = .ok (.if_icmp .ge 29, 3) := by decide +kernel
theorem dX9_forbid_107 : decode cX9_forbid 107 = .ok (.aload_n 0, 1) := by decide +kernel
theorem dX9_forbid_108 : decode cX9_forbid 108 = .ok (.getfield 32, 3) := by decide +kernel
theorem dX9_forbid_111 : decode cX9_forbid 111 = .ok (.iload_n 1, 1) := by decide +kernel
theorem dX9_forbid_112 : decode cX9_forbid 112 = .ok (.aaload, 1) := by decide +kernel
theorem dX9_forbid_113 : decode cX9_forbid 113 = .ok (.iload 6, 2) := by decide +kernel
theorem dX9_forbid_115 : decode cX9_forbid 115 = .ok (.aload_n 0, 1) := by decide +kernel
theorem dX9_forbid_116 : decode cX9_forbid 116 = .ok (.getfield 32, 3) := by decide +kernel
theorem dX9_forbid_119 : decode cX9_forbid 119 = .ok (.iload_n 1, 1) := by decide +kernel
theorem dX9_forbid_120 : decode cX9_forbid 120 = .ok (.aaload, 1) := by decide +kernel
theorem dX9_forbid_121 : decode cX9_forbid 121 = .ok (.iload 6, 2) := by decide +kernel
theorem dX9_forbid_123 : decode cX9_forbid 123 = .ok (.iconst 1, 1) := by decide +kernel
theorem dX9_forbid_124 : decode cX9_forbid 124 = .ok (.iadd, 1) := by decide +kernel
theorem dX9_forbid_125 : decode cX9_forbid 125 = .ok (.aaload, 1) := by decide +kernel
theorem dX9_forbid_126 : decode cX9_forbid 126 = .ok (.aastore, 1) := by decide +kernel
theorem dX9_forbid_127 : decode cX9_forbid 127 = .ok (.iinc 6 1, 3) := by decide +kernel
theorem dX9_forbid_130 : decode cX9_forbid 130 = .ok (.goto (-36), 3) := by decide +kernel
theorem dX9_forbid_133 : decode cX9_forbid 133 = .ok (.aload_n 0, 1) := by decide +kernel
theorem dX9_forbid_134 : decode cX9_forbid 134 = .ok (.getfield 17, 3) := by decide +kernel
theorem dX9_forbid_137 : decode cX9_forbid 137 = .ok (.iload_n 1, 1) := by decide +kernel
theorem dX9_forbid_138 : decode cX9_forbid 138 = .ok (.dup2, 1) := by decide +kernel
theorem dX9_forbid_139 : decode cX9_forbid 139 = .ok (.iaload, 1) := by decide +kernel
theorem dX9_forbid_140 : decode cX9_forbid 140 = .ok (.iconst 1, 1) := by decide +kernel
theorem dX9_forbid_141 : decode cX9_forbid 141 = .ok (.isub, 1) := by decide +kernel
theorem dX9_forbid_142 : decode cX9_forbid 142 = .ok (.dup_x2, 1) := by decide +kernel
theorem dX9_forbid_143 : decode cX9_forbid 143 = .ok (.iastore, 1) := by decide +kernel
theorem dX9_forbid_144 : decode cX9_forbid 144 = .ok (.ireturn, 1) := by decide +kernel
theorem dX9_send_0 : decode cX9_send 0 = .ok (.iload_n 2, 1) := by decide +kernel
theorem dX9_send_1 : decode cX9_send 1 = .ok (.i2l, 1) := by decide +kernel
theorem dX9_send_2 : decode cX9_send 2 = .ok (.lconst 0, 1) := by decide +kernel
theorem dX9_send_3 : decode cX9_send 3 = .ok (.ldc2_w 220, 3) := by decide +kernel
theorem dX9_send_6 : decode cX9_send 6 = .ok (.invokestatic 91, 3) := by decide +kernel
theorem dX9_send_9 : decode cX9_send 9 = .ok (.ifCond .eq 32, 3) := by decide +kernel
theorem dX9_send_12 : decode cX9_send 12 = .ok (.iload_n 3, 1) := by decide +kernel
theorem dX9_send_13 : decode cX9_send 13 = .ok (.i2l, 1) := by decide +kernel
theorem dX9_send_14 : decode cX9_send 14 = .ok (.lconst 0, 1) := by decide +kernel
theorem dX9_send_15 : decode cX9_send 15 = .ok (.ldc2_w 220, 3) := by decide +kernel
theorem dX9_send_18 : decode cX9_send 18 = .ok (.invokestatic 91, 3) := by decide +kernel
theorem dX9_send_21 : decode cX9_send 21 = .ok (.ifCond .eq 20, 3) := by decide +kernel
theorem dX9_send_24 : decode cX9_send 24 = .ok (.iload 4, 2) := by decide +kernel
theorem dX9_send_26 : decode cX9_send 26 = .ok (.i2l, 1) := by decide +kernel
theorem dX9_send_27 : decode cX9_send 27 = .ok (.lconst 0, 1) := by decide +kernel
theorem dX9_send_28 : decode cX9_send 28 = .ok (.ldc2_w 233, 3) := by decide +kernel
theorem dX9_send_31 : decode cX9_send 31 = .ok (.invokestatic 91, 3) := by decide +kernel
theorem dX9_send_34 : decode cX9_send 34 = .ok (.ifCond .eq 7, 3) := by decide +kernel
theorem dX9_send_37 : decode cX9_send 37 = .ok (.iconst 1, 1) := by decide +kernel
theorem dX9_send_38 : decode cX9_send 38 = .ok (.goto 4, 3) := by decide +kernel
theorem dX9_send_41 : decode cX9_send 41 = .ok (.iconst 0, 1) := by decide +kernel
theorem dX9_send_42 : decode cX9_send 42 = .ok (.istore 5, 2) := by decide +kernel
theorem dX9_send_44 : decode cX9_send 44 = .ok (.aload_n 0, 1) := by decide +kernel
theorem dX9_send_45 : decode cX9_send 45 = .ok (.iload_n 1, 1) := by decide +kernel
theorem dX9_send_46 : decode cX9_send 46 = .ok (.invokestatic 98, 3) := by decide +kernel
theorem dX9_send_49 : decode cX9_send 49 = .ok (.ifCond .ne 7, 3) := by decide +kernel
theorem dX9_send_52 : decode cX9_send 52 = .ok (.iconst 1, 1) := by decide +kernel
theorem dX9_send_53 : decode cX9_send 53 = .ok (.goto 13, 3) := by decide +kernel
theorem dX9_send_56 : decode cX9_send 56 = .ok (.iload 5, 2) := by decide +kernel
theorem dX9_send_58 : decode cX9_send 58 = .ok (.ifCond .ne 7, 3) := by decide +kernel
theorem dX9_send_61 : decode cX9_send 61 = .ok (.iconst 2, 1) := by decide +kernel
theorem dX9_send_62 : decode cX9_send 62 = .ok (.goto 4, 3) := by decide +kernel
theorem dX9_send_65 : decode cX9_send 65 = .ok (.iconst 0, 1) := by decide +kernel
theorem dX9_send_66 : decode cX9_send 66 = .ok (.invokevirtual 215, 3) := by decide +kernel
theorem dX9_send_69 : decode cX9_send 69 = .ok (.ifCond .eq 5, 3) := by decide +kernel
theorem dX9_send_72 : decode cX9_send 72 = .ok (.iconst 0, 1) := by decide +kernel
theorem dX9_send_73 : decode cX9_send 73 = .ok (.ireturn, 1) := by decide +kernel
theorem dX9_send_74 : decode cX9_send 74 = .ok (.aload_n 0, 1) := by decide +kernel
theorem dX9_send_75 : decode cX9_send 75 = .ok (.iload_n 1, 1) := by decide +kernel
theorem dX9_send_76 : decode cX9_send 76 = .ok (.iload_n 3, 1) := by decide +kernel
theorem dX9_send_77 : decode cX9_send 77 = .ok (.invokevirtual 196, 3) := by decide +kernel
theorem dX9_send_80 : decode cX9_send 80 = .ok (.istore 6, 2) := by decide +kernel
theorem dX9_send_82 : decode cX9_send 82 = .ok (.iload 6, 2) := by decide +kernel
theorem dX9_send_84 : decode cX9_send 84 = .ok (.iconst (-1), 1) := by decide +kernel
theorem dX9_send_85 : decode cX9_send 85 = .ok (.if_icmp .ne 5, 3) := by decide +kernel
theorem dX9_send_88 : decode cX9_send 88 = .ok (.iconst (-1), 1) := by decide +kernel
theorem dX9_send_89 : decode cX9_send 89 = .ok (.ireturn, 1) := by decide +kernel
theorem dX9_send_90 : decode cX9_send 90 = .ok (.aload_n 0, 1) := by decide +kernel
theorem dX9_send_91 : decode cX9_send 91 = .ok (.iload_n 1, 1) := by decide +kernel
theorem dX9_send_92 : decode cX9_send 92 = .ok (.iload 6, 2) := by decide +kernel
theorem dX9_send_94 : decode cX9_send 94 = .ok (.invokevirtual 173, 3) := by decide +kernel
theorem dX9_send_97 : decode cX9_send 97 = .ok (.ifCond .eq 78, 3) := by decide +kernel
theorem dX9_send_100 : decode cX9_send 100 = .ok (.aload_n 0, 1) := by decide +kernel
theorem dX9_send_101 : decode cX9_send 101 = .ok (.iload_n 1, 1) := by decide +kernel
theorem dX9_send_102 : decode cX9_send 102 = .ok (.iload 6, 2) := by decide +kernel
theorem dX9_send_104 : decode cX9_send 104 = .ok (.iload_n 2, 1) := by decide +kernel
theorem dX9_send_105 : decode cX9_send 105 = .ok (.iload_n 3, 1) := by decide +kernel
theorem dX9_send_106 : decode cX9_send 106 = .ok (.iload 4, 2) := by decide +kernel
theorem dX9_send_108 : decode cX9_send 108 = .ok (.invokevirtual 176, 3) := by decide +kernel
theorem dX9_send_111 : decode cX9_send 111 = .ok (.aload_n 0, 1) := by decide +kernel
theorem dX9_send_112 : decode cX9_send 112 = .ok (.getfield 72, 3) := by decide +kernel
theorem dX9_send_115 : decode cX9_send 115 = .ok (.iload_n 1, 1) := by decide +kernel
theorem dX9_send_116 : decode cX9_send 116 = .ok (.aaload, 1) := by decide +kernel
theorem dX9_send_117 : decode cX9_send 117 = .ok (.iload 6, 2) := by decide +kernel
theorem dX9_send_119 : decode cX9_send 119 = .ok (.aaload, 1) := by decide +kernel
theorem dX9_send_120 : decode cX9_send 120 = .ok (.iconst 1, 1) := by decide +kernel
theorem dX9_send_121 : decode cX9_send 121 = .ok (.aaload, 1) := by decide +kernel
theorem dX9_send_122 : decode cX9_send 122 = .ok (.astore 7, 2) := by decide +kernel
theorem dX9_send_124 : decode cX9_send 124 = .ok (.aload 7, 2) := by decide +kernel
theorem dX9_send_126 : decode cX9_send 126 = .ok (.bipush 6, 2) := by decide +kernel
theorem dX9_send_128 : decode cX9_send 128 = .ok (.iaload, 1) := by decide +kernel
theorem dX9_send_129 : decode cX9_send 129 = .ok (.iconst 1, 1) := by decide +kernel
theorem dX9_send_130 : decode cX9_send 130 = .ok (.if_icmp .ne 43, 3) := by decide +kernel
theorem dX9_send_133 : decode cX9_send 133 = .ok (.aload_n 0, 1) := by decide +kernel
theorem dX9_send_134 : decode cX9_send 134 = .ok (.iload_n 1, 1) := by decide +kernel
theorem dX9_send_135 : decode cX9_send 135 = .ok (.iload 6, 2) := by decide +kernel
theorem dX9_send_137 : decode cX9_send 137 = .ok (.iconst 1, 1) := by decide +kernel
theorem dX9_send_138 : decode cX9_send 138 = .ok (.invokevirtual 170, 3) := by decide +kernel
theorem dX9_send_141 : decode cX9_send 141 = .ok (.bipush 20, 2) := by decide +kernel
theorem dX9_send_143 : decode cX9_send 143 = .ok (.if_icmp .ge 12, 3) := by decide +kernel
theorem dX9_send_146 : decode cX9_send 146 = .ok (.aload 7, 2) := by decide +kernel
theorem dX9_send_148 : decode cX9_send 148 = .ok (.iconst 5, 1) := by decide +kernel
theorem dX9_send_149 : decode cX9_send 149 = .ok (.iaload, 1) := by decide +kernel
theorem dX9_send_150 : decode cX9_send 150 = .ok (.bipush 30, 2) := by decide +kernel
theorem dX9_send_152 : decode cX9_send 152 = .ok (.if_icmp .lt 21, 3) := by decide +kernel
theorem dX9_send_155 : decode cX9_send 155 = .ok (.aload_n 0, 1) := by decide +kernel
theorem dX9_send_156 : decode cX9_send 156 = .ok (.iload_n 1, 1) := by decide +kernel
theorem dX9_send_157 : decode cX9_send 157 = .ok (.iload 6, 2) := by decide +kernel
theorem dX9_send_159 : decode cX9_send 159 = .ok (.invokevirtual 235, 3) := by decide +kernel
theorem dX9_send_162 : decode cX9_send 162 = .ok (.ifCond .ne 11, 3) := by decide +kernel
theorem dX9_send_165 : decode cX9_send 165 = .ok (.aload_n 0, 1) := by decide +kernel
theorem dX9_send_166 : decode cX9_send 166 = .ok (.iload_n 1, 1) := by decide +kernel
theorem dX9_send_167 : decode cX9_send 167 = .ok (.iload 6, 2) := by decide +kernel
theorem dX9_send_169 : decode cX9_send 169 = .ok (.invokevirtual 238, 3) := by decide +kernel
theorem dX9_send_172 : decode cX9_send 172 = .ok (.pop, 1) := by decide +kernel
theorem dX9_send_173 : decode cX9_send 173 = .ok (.iconst 1, 1) := by decide +kernel
theorem dX9_send_174 : decode cX9_send 174 = .ok (.ireturn, 1) := by decide +kernel
theorem dX9_send_175 : decode cX9_send 175 = .ok (.aload_n 0, 1) := by decide +kernel
theorem dX9_send_176 : decode cX9_send 176 = .ok (.getfield 64, 3) := by decide +kernel
theorem dX9_send_179 : decode cX9_send 179 = .ok (.iload_n 1, 1) := by decide +kernel
theorem dX9_send_180 : decode cX9_send 180 = .ok (.aaload, 1) := by decide +kernel
theorem dX9_send_181 : decode cX9_send 181 = .ok (.iload 6, 2) := by decide +kernel
theorem dX9_send_183 : decode cX9_send 183 = .ok (.iaload, 1) := by decide +kernel
theorem dX9_send_184 : decode cX9_send 184 = .ok (.iconst 4, 1) := by decide +kernel
theorem dX9_send_185 : decode cX9_send 185 = .ok (.if_icmp .ne 57, 3) := by decide +kernel
theorem dX9_send_188 : decode cX9_send 188 = .ok (.iconst 0, 1) := by decide +kernel
theorem dX9_send_189 : decode cX9_send 189 = .ok (.istore 7, 2) := by decide +kernel
theorem dX9_send_191 : decode cX9_send 191 = .ok (.iload 7, 2) := by decide +kernel
theorem dX9_send_193 : decode cX9_send 193 = .ok (.iconst 3, 1) := by decide +kernel
theorem dX9_send_194 : decode cX9_send 194 = .ok (.if_icmp .ge 35, 3) := by decide +kernel
theorem dX9_send_197 : decode cX9_send 197 = .ok (.aload_n 0, 1) := by decide +kernel
theorem dX9_send_198 : decode cX9_send 198 = .ok (.getfield 69, 3) := by decide +kernel
theorem dX9_send_201 : decode cX9_send 201 = .ok (.iload_n 1, 1) := by decide +kernel
theorem dX9_send_202 : decode cX9_send 202 = .ok (.aaload, 1) := by decide +kernel
theorem dX9_send_203 : decode cX9_send 203 = .ok (.iload 6, 2) := by decide +kernel
theorem dX9_send_205 : decode cX9_send 205 = .ok (.aaload, 1) := by decide +kernel
theorem dX9_send_206 : decode cX9_send 206 = .ok (.iload 7, 2) := by decide +kernel
theorem dX9_send_208 : decode cX9_send 208 = .ok (.aload_n 0, 1) := by decide +kernel
theorem dX9_send_209 : decode cX9_send 209 = .ok (.getfield 69, 3) := by decide +kernel
theorem dX9_send_212 : decode cX9_send 212 = .ok (.iload_n 1, 1) := by decide +kernel
theorem dX9_send_213 : decode cX9_send 213 = .ok (.aaload, 1) := by decide +kernel
theorem dX9_send_214 : decode cX9_send 214 = .ok (.iload 6, 2) := by decide +kernel
theorem dX9_send_216 : decode cX9_send 216 = .ok (.aaload, 1) := by decide +kernel
theorem dX9_send_217 : decode cX9_send 217 = .ok (.iload 7, 2) := by decide +kernel
theorem dX9_send_219 : decode cX9_send 219 = .ok (.iconst 1, 1) := by decide +kernel
theorem dX9_send_220 : decode cX9_send 220 = .ok (.iadd, 1) := by decide +kernel
theorem dX9_send_221 : decode cX9_send 221 = .ok (.aaload, 1) := by decide +kernel
theorem dX9_send_222 : decode cX9_send 222 = .ok (.aastore, 1) := by decide +kernel
theorem dX9_send_223 : decode cX9_send 223 = .ok (.iinc 7 1, 3) := by decide +kernel
theorem dX9_send_226 : decode cX9_send 226 = .ok (.goto (-35), 3) := by decide +kernel
theorem dX9_send_229 : decode cX9_send 229 = .ok (.aload_n 0, 1) := by decide +kernel
theorem dX9_send_230 : decode cX9_send 230 = .ok (.getfield 64, 3) := by decide +kernel
theorem dX9_send_233 : decode cX9_send 233 = .ok (.iload_n 1, 1) := by decide +kernel
theorem dX9_send_234 : decode cX9_send 234 = .ok (.aaload, 1) := by decide +kernel
theorem dX9_send_235 : decode cX9_send 235 = .ok (.iload 6, 2) := by decide +kernel
theorem dX9_send_237 : decode cX9_send 237 = .ok (.dup2, 1) := by decide +kernel
theorem dX9_send_238 : decode cX9_send 238 = .ok (.iaload, 1) := by decide +kernel
theorem dX9_send_239 : decode cX9_send 239 = .ok (.iconst 1, 1) := by decide +kernel
theorem dX9_send_240 : decode cX9_send 240 = .ok (.isub, 1) := by decide +kernel
theorem dX9_send_241 : decode cX9_send 241 = .ok (.iastore, 1) := by decide +kernel
theorem dX9_send_242 : decode cX9_send 242 = .ok (.aload_n 0, 1) := by decide +kernel
theorem dX9_send_243 : decode cX9_send 243 = .ok (.getfield 69, 3) := by decide +kernel
theorem dX9_send_246 : decode cX9_send 246 = .ok (.iload_n 1, 1) := by decide +kernel
theorem dX9_send_247 : decode cX9_send 247 = .ok (.aaload, 1) := by decide +kernel
theorem dX9_send_248 : decode cX9_send 248 = .ok (.iload 6, 2) := by decide +kernel
theorem dX9_send_250 : decode cX9_send 250 = .ok (.aaload, 1) := by decide +kernel
theorem dX9_send_251 : decode cX9_send 251 = .ok (.aload_n 0, 1) := by decide +kernel
theorem dX9_send_252 : decode cX9_send 252 = .ok (.getfield 64, 3) := by decide +kernel
theorem dX9_send_255 : decode cX9_send 255 = .ok (.iload_n 1, 1) := by decide +kernel
theorem dX9_send_256 : decode cX9_send 256 = .ok (.aaload, 1) := by decide +kernel
theorem dX9_send_257 : decode cX9_send 257 = .ok (.iload 6, 2) := by decide +kernel
theorem dX9_send_259 : decode cX9_send 259 = .ok (.dup2, 1) := by decide +kernel
theorem dX9_send_260 : decode cX9_send 260 = .ok (.iaload, 1) := by decide +kernel
theorem dX9_send_261 : decode cX9_send 261 = .ok (.dup_x2, 1) := by decide +kernel
theorem dX9_send_262 : decode cX9_send 262 = .ok (.iconst 1, 1) := by decide +kernel
theorem dX9_send_263 : decode cX9_send 263 = .ok (.iadd, 1) := by decide +kernel
theorem dX9_send_264 : decode cX9_send 264 = .ok (.iastore, 1) := by decide +kernel
theorem dX9_send_265 : decode cX9_send 265 = .ok (.iconst 3, 1) := by decide +kernel
theorem dX9_send_266 : decode cX9_send 266 = .ok (.newarray .int, 2) := by decide +kernel
theorem dX9_send_268 : decode cX9_send 268 = .ok (.dup, 1) := by decide +kernel
theorem dX9_send_269 : decode cX9_send 269 = .ok (.iconst 0, 1) := by decide +kernel
theorem dX9_send_270 : decode cX9_send 270 = .ok (.iload_n 2, 1) := by decide +kernel
theorem dX9_send_271 : decode cX9_send 271 = .ok (.iastore, 1) := by decide +kernel
theorem dX9_send_272 : decode cX9_send 272 = .ok (.dup, 1) := by decide +kernel
theorem dX9_send_273 : decode cX9_send 273 = .ok (.iconst 1, 1) := by decide +kernel
theorem dX9_send_274 : decode cX9_send 274 = .ok (.iload_n 3, 1) := by decide +kernel
theorem dX9_send_275 : decode cX9_send 275 = .ok (.iastore, 1) := by decide +kernel
theorem dX9_send_276 : decode cX9_send 276 = .ok (.dup, 1) := by decide +kernel
theorem dX9_send_277 : decode cX9_send 277 = .ok (.iconst 2, 1) := by decide +kernel
theorem dX9_send_278 : decode cX9_send 278 = .ok (.iload 4, 2) := by decide +kernel
theorem dX9_send_280 : decode cX9_send 280 = .ok (.iastore, 1) := by decide +kernel
theorem dX9_send_281 : decode cX9_send 281 = .ok (.aastore, 1) := by decide +kernel
theorem dX9_send_282 : decode cX9_send 282 = .ok (.aload_n 0, 1) := by decide +kernel
theorem dX9_send_283 : decode cX9_send 283 = .ok (.iload_n 1, 1) := by decide +kernel
theorem dX9_send_284 : decode cX9_send 284 = .ok (.iload 6, 2) := by decide +kernel
theorem dX9_send_286 : decode cX9_send 286 = .ok (.invokevirtual 235, 3) := by decide +kernel
theorem dX9_send_289 : decode cX9_send 289 = .ok (.ifCond .ne 11, 3) := by decide +kernel
theorem dX9_send_292 : decode cX9_send 292 = .ok (.aload_n 0, 1) := by decide +kernel
theorem dX9_send_293 : decode cX9_send 293 = .ok (.iload_n 1, 1) := by decide +kernel
theorem dX9_send_294 : decode cX9_send 294 = .ok (.iload 6, 2) := by decide +kernel
theorem dX9_send_296 : decode cX9_send 296 = .ok (.invokevirtual 238, 3) := by decide +kernel
theorem dX9_send_299 : decode cX9_send 299 = .ok (.pop, 1) := by decide +kernel
theorem dX9_send_300 : decode cX9_send 300 = .ok (.iconst 0, 1) := by decide +kernel
theorem dX9_send_301 : decode cX9_send 301 = .ok (.ireturn, 1) := by decide +kernel
theorem dX9_keep_0 : decode cX9_keep 0 = .ok (.aload_n 0, 1) := by decide +kernel
theorem dX9_keep_1 : decode cX9_keep 1 = .ok (.iload_n 1, 1) := by decide +kernel
theorem dX9_keep_2 : decode cX9_keep 2 = .ok (.iload_n 2, 1) := by decide +kernel
theorem dX9_keep_3 : decode cX9_keep 3 = .ok (.invokestatic 224, 3) := by decide +kernel
theorem dX9_keep_6 : decode cX9_keep 6 = .ok (.invokevirtual 215, 3) := by decide +kernel
theorem dX9_keep_9 : decode cX9_keep 9 = .ok (.ifCond .eq 5, 3) := by decide +kernel
theorem dX9_keep_12 : decode cX9_keep 12 = .ok (.iconst 0, 1) := by decide +kernel
theorem dX9_keep_13 : decode cX9_keep 13 = .ok (.ireturn, 1) := by decide +kernel
theorem dX9_keep_14 : decode cX9_keep 14 = .ok (.aload_n 0, 1) := by decide +kernel
theorem dX9_keep_15 : decode cX9_keep 15 = .ok (.iload_n 1, 1) := by decide +kernel
theorem dX9_keep_16 : decode cX9_keep 16 = .ok (.iload_n 2, 1) := by decide +kernel
theorem dX9_keep_17 : decode cX9_keep 17 = .ok (.invokevirtual 173, 3) := by decide +kernel
theorem dX9_keep_20 : decode cX9_keep 20 = .ok (.ifCond .ne 5, 3) := by decide +kernel
theorem dX9_keep_23 : decode cX9_keep 23 = .ok (.iconst 0, 1) := by decide +kernel
theorem dX9_keep_24 : decode cX9_keep 24 = .ok (.ireturn, 1) := by decide +kernel
theorem dX9_keep_25 : decode cX9_keep 25 = .ok (.aload_n 0, 1) := by decide +kernel
theorem dX9_keep_26 : decode cX9_keep 26 = .ok (.iload_n 1, 1) := by decide +kernel
theorem dX9_keep_27 : decode cX9_keep 27 = .ok (.iload_n 2, 1) := by decide +kernel
theorem dX9_keep_28 : decode cX9_keep 28 = .ok (.iconst (-1), 1) := by decide +kernel
theorem dX9_keep_29 : decode cX9_keep 29 = .ok (.iconst (-1), 1) := by decide +kernel
theorem dX9_keep_30 : decode cX9_keep 30 = .ok (.iconst (-1), 1) := by decide +kernel
theorem dX9_keep_31 : decode cX9_keep 31 = .ok (.invokevirtual 176, 3) := by decide +kernel
theorem dX9_keep_34 : decode cX9_keep 34 = .ok (.iconst 1, 1) := by decide +kernel
theorem dX9_keep_35 : decode cX9_keep 35 = .ok (.ireturn, 1) := by decide +kernel
theorem dX9_greet_0 : decode cX9_greet 0 = .ok (.iload_n 1, 1) := by decide +kernel
theorem dX9_greet_1 : decode cX9_greet 1 = .ok (.iload_n 2, 1) := by decide +kernel
theorem dX9_greet_2 : decode cX9_greet 2 = .ok (.invokestatic 224, 3) := by decide +kernel
theorem dX9_greet_5 : decode cX9_greet 5 = .ok (.istore_n 3, 1) := by decide +kernel
theorem dX9_greet_6 : decode cX9_greet 6 = .ok (.aload_n 0, 1) := by decide +kernel
theorem dX9_greet_7 : decode cX9_greet 7 = .ok (.iload_n 3, 1) := by decide +kernel
theorem dX9_greet_8 : decode cX9_greet 8 = .ok (.ifCond .ne 16, 3) := by decide +kernel
theorem dX9_greet_11 : decode cX9_greet 11 = .ok (.aload_n 0, 1) := by decide +kernel
theorem dX9_greet_12 : decode cX9_greet 12 = .ok (.iload_n 1, 1) := by decide +kernel
theorem dX9_greet_13 : decode cX9_greet 13 = .ok (.iload_n 2, 1) := by decide +kernel
theorem dX9_greet_14 : decode cX9_greet 14 = .ok (.invokevirtual 235, 3) := by decide +kernel
theorem dX9_greet_17 : decode cX9_greet 17 = .ok (.ifCond .eq 7, 3) := by decide +kernel
theorem dX9_greet_20 : decode cX9_greet 20 = .ok (.iconst 3, 1) := by decide +kernel
theorem dX9_greet_21 : decode cX9_greet 21 = .ok (.goto 4, 3) := by decide +kernel
theorem dX9_greet_24 : decode cX9_greet 24 = .ok (.iload_n 3, 1) := by decide +kernel
theorem dX9_greet_25 : decode cX9_greet 25 = .ok (.invokevirtual 215, 3) := by decide +kernel
theorem dX9_greet_28 : decode cX9_greet 28 = .ok (.ifCond .eq 5, 3) := by decide +kernel
theorem dX9_greet_31 : decode cX9_greet 31 = .ok (.iconst 0, 1) := by decide +kernel
theorem dX9_greet_32 : decode cX9_greet 32 = .ok (.ireturn, 1) := by decide +kernel
theorem dX9_greet_33 : decode cX9_greet 33 = .ok (.aload_n 0, 1) := by decide +kernel
theorem dX9_greet_34 : decode cX9_greet 34 = .ok (.iload_n 1, 1) := by decide +kernel
theorem dX9_greet_35 : decode cX9_greet 35 = .ok (.iload_n 2, 1) := by decide +kernel
theorem dX9_greet_36 : decode cX9_greet 36 = .ok (.invokevirtual 238, 3) := by decide +kernel
theorem dX9_greet_39 : decode cX9_greet 39 = .ok (.ireturn, 1) := by decide +kernel
theorem dX9_deliver_0 : decode cX9_deliver 0 = .ok (.aload_n 0, 1) := by decide +kernel
theorem dX9_deliver_1 : decode cX9_deliver 1 = .ok (.aload_n 0, 1) := by decide +kernel
theorem dX9_deliver_2 : decode cX9_deliver 2 = .ok (.iload_n 1, 1) := by decide +kernel
theorem dX9_deliver_3 : decode cX9_deliver 3 = .ok (.invokevirtual 241, 3) := by decide +kernel
theorem dX9_deliver_6 : decode cX9_deliver 6 = .ok (.ifCond .eq 7, 3) := by decide +kernel
theorem dX9_deliver_9 : decode cX9_deliver 9 = .ok (.iconst 0, 1) := by decide +kernel
theorem dX9_deliver_10 : decode cX9_deliver 10 = .ok (.goto 4, 3) := by decide +kernel
theorem dX9_deliver_13 : decode cX9_deliver 13 = .ok (.iconst 1, 1) := by decide +kernel
theorem dX9_deliver_14 : decode cX9_deliver 14 = .ok (.invokevirtual 215, 3) := by decide +kernel
theorem dX9_deliver_17 : decode cX9_deliver 17 = .ok (.ifCond .eq 5, 3) := by decide +kernel
theorem dX9_deliver_20 : decode cX9_deliver 20 = .ok (.iconst 0, 1) := by decide +kernel
theorem dX9_deliver_21 : decode cX9_deliver 21 = .ok (.ireturn, 1) := by decide +kernel
theorem dX9_deliver_22 : decode cX9_deliver 22 = .ok (.aload_n 0, 1) := by decide +kernel
theorem dX9_deliver_23 : decode cX9_deliver 23 = .ok (.getfield 80, 3) := by decide +kernel
theorem dX9_deliver_26 : decode cX9_deliver 26 = .ok (.iload_n 1, 1) := by decide +kernel
theorem dX9_deliver_27 : decode cX9_deliver 27 = .ok (.aaload, 1) := by decide +kernel
theorem dX9_deliver_28 : decode cX9_deliver 28 = .ok (.astore_n 2, 1) := by decide +kernel
theorem dX9_deliver_29 : decode cX9_deliver 29 = .ok (.aload_n 0, 1) := by decide +kernel
theorem dX9_deliver_30 : decode cX9_deliver 30 = .ok (.iload_n 1, 1) := by decide +kernel
theorem dX9_deliver_31 : decode cX9_deliver 31 = .ok (.invokevirtual 244, 3) := by decide +kernel
theorem dX9_deliver_34 : decode cX9_deliver 34 = .ok (.aload_n 0, 1) := by decide +kernel
theorem dX9_deliver_35 : decode cX9_deliver 35 = .ok (.aload_n 2, 1) := by decide +kernel
theorem dX9_deliver_36 : decode cX9_deliver 36 = .ok (.invokevirtual 248, 3) := by decide +kernel
theorem dX9_deliver_39 : decode cX9_deliver 39 = .ok (.istore_n 3, 1) := by decide +kernel
theorem dX9_deliver_40 : decode cX9_deliver 40 = .ok (.aload_n 0, 1) := by decide +kernel
theorem dX9_deliver_41 : decode cX9_deliver 41 = .ok (.getfield 23, 3) := by decide +kernel
theorem dX9_deliver_44 : decode cX9_deliver 44 = .ok (.iload_n 3, 1) := by decide +kernel
theorem dX9_deliver_45 : decode cX9_deliver 45 = .ok (.bipush 7, 2) := by decide +kernel
theorem dX9_deliver_47 : decode cX9_deliver 47 = .ok (.iadd, 1) := by decide +kernel
theorem dX9_deliver_48 : decode cX9_deliver 48 = .ok (.dup2, 1) := by decide +kernel
theorem dX9_deliver_49 : decode cX9_deliver 49 = .ok (.iaload, 1) := by decide +kernel
theorem dX9_deliver_50 : decode cX9_deliver 50 = .ok (.iconst 1, 1) := by decide +kernel
theorem dX9_deliver_51 : decode cX9_deliver 51 = .ok (.iadd, 1) := by decide +kernel
theorem dX9_deliver_52 : decode cX9_deliver 52 = .ok (.iastore, 1) := by decide +kernel
theorem dX9_deliver_53 : decode cX9_deliver 53 = .ok (.aload_n 0, 1) := by decide +kernel
theorem dX9_deliver_54 : decode cX9_deliver 54 = .ok (.dup, 1) := by decide +kernel
theorem dX9_deliver_55 : decode cX9_deliver 55 = .ok (.getfield 251, 3) := by decide +kernel
theorem dX9_deliver_58 : decode cX9_deliver 58 = .ok (.iconst 1, 1) := by decide +kernel
theorem dX9_deliver_59 : decode cX9_deliver 59 = .ok (.iadd, 1) := by decide +kernel
theorem dX9_deliver_60 : decode cX9_deliver 60 = .ok (.putfield 251, 3) := by decide +kernel
theorem dX9_deliver_63 : decode cX9_deliver 63 = .ok (.iload_n 3, 1) := by decide +kernel
theorem dX9_deliver_64 : decode cX9_deliver 64 = .ok (.ireturn, 1) := by decide +kernel
theorem dX9_lose_0 : decode cX9_lose 0 = .ok (.aload_n 0, 1) := by decide +kernel
theorem dX9_lose_1 : decode cX9_lose 1 = .ok (.aload_n 0, 1) := by decide +kernel
theorem dX9_lose_2 : decode cX9_lose 2 = .ok (.iload_n 1, 1) := by decide +kernel
theorem dX9_lose_3 : decode cX9_lose 3 = .ok (.invokevirtual 241, 3) := by decide +kernel
theorem dX9_lose_6 : decode cX9_lose 6 = .ok (.ifCond .eq 7, 3) := by decide +kernel
theorem dX9_lose_9 : decode cX9_lose 9 = .ok (.iconst 0, 1) := by decide +kernel
theorem dX9_lose_10 : decode cX9_lose 10 = .ok (.goto 4, 3) := by decide +kernel
theorem dX9_lose_13 : decode cX9_lose 13 = .ok (.iconst 1, 1) := by decide +kernel
theorem dX9_lose_14 : decode cX9_lose 14 = .ok (.invokevirtual 215, 3) := by decide +kernel
theorem dX9_lose_17 : decode cX9_lose 17 = .ok (.ifCond .eq 5, 3) := by decide +kernel
theorem dX9_lose_20 : decode cX9_lose 20 = .ok (.iconst 0, 1) := by decide +kernel
theorem dX9_lose_21 : decode cX9_lose 21 = .ok (.ireturn, 1) := by decide +kernel
theorem dX9_lose_22 : decode cX9_lose 22 = .ok (.aload_n 0, 1) := by decide +kernel
theorem dX9_lose_23 : decode cX9_lose 23 = .ok (.iload_n 1, 1) := by decide +kernel
theorem dX9_lose_24 : decode cX9_lose 24 = .ok (.invokevirtual 244, 3) := by decide +kernel
theorem dX9_lose_27 : decode cX9_lose 27 = .ok (.aload_n 0, 1) := by decide +kernel
theorem dX9_lose_28 : decode cX9_lose 28 = .ok (.getfield 95, 3) := by decide +kernel
theorem dX9_lose_31 : decode cX9_lose 31 = .ok (.ireturn, 1) := by decide +kernel
theorem dX9_twice_0 : decode cX9_twice 0 = .ok (.aload_n 0, 1) := by decide +kernel
theorem dX9_twice_1 : decode cX9_twice 1 = .ok (.aload_n 0, 1) := by decide +kernel
theorem dX9_twice_2 : decode cX9_twice 2 = .ok (.iload_n 1, 1) := by decide +kernel
theorem dX9_twice_3 : decode cX9_twice 3 = .ok (.invokevirtual 241, 3) := by decide +kernel
theorem dX9_twice_6 : decode cX9_twice 6 = .ok (.ifCond .ne 7, 3) := by decide +kernel
theorem dX9_twice_9 : decode cX9_twice 9 = .ok (.iconst 1, 1) := by decide +kernel
theorem dX9_twice_10 : decode cX9_twice 10 = .ok (.goto 17, 3) := by decide +kernel
theorem dX9_twice_13 : decode cX9_twice 13 = .ok (.aload_n 0, 1) := by decide +kernel
theorem dX9_twice_14 : decode cX9_twice 14 = .ok (.getfield 95, 3) := by decide +kernel
theorem dX9_twice_17 : decode cX9_twice 17 = .ok (.bipush 60, 2) := by decide +kernel
theorem dX9_twice_19 : decode cX9_twice 19 = .ok (.if_icmp .ne 7, 3) := by decide +kernel
theorem dX9_twice_22 : decode cX9_twice 22 = .ok (.iconst 2, 1) := by decide +kernel
theorem dX9_twice_23 : decode cX9_twice 23 = .ok (.goto 4, 3) := by decide +kernel
theorem dX9_twice_26 : decode cX9_twice 26 = .ok (.iconst 0, 1) := by decide +kernel
theorem dX9_twice_27 : decode cX9_twice 27 = .ok (.invokevirtual 215, 3) := by decide +kernel
theorem dX9_twice_30 : decode cX9_twice 30 = .ok (.ifCond .eq 5, 3) := by decide +kernel
theorem dX9_twice_33 : decode cX9_twice 33 = .ok (.iconst 0, 1) := by decide +kernel
theorem dX9_twice_34 : decode cX9_twice 34 = .ok (.ireturn, 1) := by decide +kernel
theorem dX9_twice_35 : decode cX9_twice 35 = .ok (.aload_n 0, 1) := by decide +kernel
theorem dX9_twice_36 : decode cX9_twice 36 = .ok (.getfield 80, 3) := by decide +kernel
theorem dX9_twice_39 : decode cX9_twice 39 = .ok (.aload_n 0, 1) := by decide +kernel
theorem dX9_twice_40 : decode cX9_twice 40 = .ok (.dup, 1) := by decide +kernel
theorem dX9_twice_41 : decode cX9_twice 41 = .ok (.getfield 95, 3) := by decide +kernel
theorem dX9_twice_44 : decode cX9_twice 44 = .ok (.dup_x1, 1) := by decide +kernel
theorem dX9_twice_45 : decode cX9_twice 45 = .ok (.iconst 1, 1) := by decide +kernel
theorem dX9_twice_46 : decode cX9_twice 46 = .ok (.iadd, 1) := by decide +kernel
theorem dX9_twice_47 : decode cX9_twice 47 = .ok (.putfield 95, 3) := by decide +kernel
theorem dX9_twice_50 : decode cX9_twice 50 = .ok (.aload_n 0, 1) := by decide +kernel
theorem dX9_twice_51 : decode cX9_twice 51 = .ok (.getfield 80, 3) := by decide +kernel
theorem dX9_twice_54 : decode cX9_twice 54 = .ok (.iload_n 1, 1) := by decide +kernel
theorem dX9_twice_55 : decode cX9_twice 55 = .ok (.aaload, 1) := by decide +kernel
theorem dX9_twice_56 : decode cX9_twice 56 = .ok (.invokevirtual 254, 3) := by decide +kernel
theorem dX9_twice_59 : decode cX9_twice 59 = .ok (.checkcast 199, 3) := by decide +kernel
theorem dX9_twice_62 : decode cX9_twice 62 = .ok (.aastore, 1) := by decide +kernel
theorem dX9_twice_63 : decode cX9_twice 63 = .ok (.aload_n 0, 1) := by decide +kernel
theorem dX9_twice_64 : decode cX9_twice 64 = .ok (.getfield 95, 3) := by decide +kernel
theorem dX9_twice_67 : decode cX9_twice 67 = .ok (.ireturn, 1) := by decide +kernel
theorem dX9_canTurn_0 : decode cX9_canTurn 0 = .ok (.iload_n 0, 1) := by decide +kernel
theorem dX9_canTurn_1 : decode cX9_canTurn 1 = .ok (.iconst 1, 1) := by decide +kernel
theorem dX9_canTurn_2 : decode cX9_canTurn 2 = .ok (.if_icmp .ne 13, 3) := by decide +kernel
theorem dX9_canTurn_5 : decode cX9_canTurn 5 = .ok (.iload_n 1, 1) := by decide +kernel
theorem dX9_canTurn_6 : decode cX9_canTurn 6 = .ok (.iconst 3, 1) := by decide +kernel
theorem dX9_canTurn_7 : decode cX9_canTurn 7 = .ok (.if_icmp .eq 50, 3) := by decide +kernel
theorem dX9_canTurn_10 : decode cX9_canTurn 10 = .ok (.iload_n 1, 1) := by decide +kernel
theorem dX9_canTurn_11 : decode cX9_canTurn 11 = .ok (.iconst 4, 1) := by decide +kernel
theorem dX9_canTurn_12 : decode cX9_canTurn 12 = .ok (.if_icmp .eq 45, 3) := by decide +kernel
theorem dX9_canTurn_15 : decode cX9_canTurn 15 = .ok (.iload_n 0, 1) := by decide +kernel
theorem dX9_canTurn_16 : decode cX9_canTurn 16 = .ok (.iconst 2, 1) := by decide +kernel
theorem dX9_canTurn_17 : decode cX9_canTurn 17 = .ok (.if_icmp .ne 8, 3) := by decide +kernel
theorem dX9_canTurn_20 : decode cX9_canTurn 20 = .ok (.iload_n 1, 1) := by decide +kernel
theorem dX9_canTurn_21 : decode cX9_canTurn 21 = .ok (.iconst 3, 1) := by decide +kernel
theorem dX9_canTurn_22 : decode cX9_canTurn 22 = .ok (.if_icmp .eq 35, 3) := by decide +kernel
theorem dX9_canTurn_25 : decode cX9_canTurn 25 = .ok (.iload_n 0, 1) := by decide +kernel
theorem dX9_canTurn_26 : decode cX9_canTurn 26 = .ok (.iconst 3, 1) := by decide +kernel
theorem dX9_canTurn_27 : decode cX9_canTurn 27 = .ok (.if_icmp .ne 13, 3) := by decide +kernel
theorem dX9_canTurn_30 : decode cX9_canTurn 30 = .ok (.iload_n 1, 1) := by decide +kernel
theorem dX9_canTurn_31 : decode cX9_canTurn 31 = .ok (.iconst 1, 1) := by decide +kernel
theorem dX9_canTurn_32 : decode cX9_canTurn 32 = .ok (.if_icmp .eq 25, 3) := by decide +kernel
theorem dX9_canTurn_35 : decode cX9_canTurn 35 = .ok (.iload_n 1, 1) := by decide +kernel
theorem dX9_canTurn_36 : decode cX9_canTurn 36 = .ok (.iconst 2, 1) := by decide +kernel
theorem dX9_canTurn_37 : decode cX9_canTurn 37 = .ok (.if_icmp .eq 20, 3) := by decide +kernel
theorem dX9_canTurn_40 : decode cX9_canTurn 40 = .ok (.iload_n 0, 1) := by decide +kernel
theorem dX9_canTurn_41 : decode cX9_canTurn 41 = .ok (.iconst 4, 1) := by decide +kernel
theorem dX9_canTurn_42 : decode cX9_canTurn 42 = .ok (.if_icmp .ne 19, 3) := by decide +kernel
theorem dX9_canTurn_45 : decode cX9_canTurn 45 = .ok (.iload_n 1, 1) := by decide +kernel
theorem dX9_canTurn_46 : decode cX9_canTurn 46 = .ok (.i2l, 1) := by decide +kernel
theorem dX9_canTurn_47 : decode cX9_canTurn 47 = .ok (.lconst 1, 1) := by decide +kernel
theorem dX9_canTurn_48 : decode cX9_canTurn 48 = .ok (.ldc2_w 258, 3) := by decide +kernel
theorem dX9_canTurn_51 : decode cX9_canTurn 51 = .ok (.invokestatic 91, 3) := by decide +kernel
theorem dX9_canTurn_54 : decode cX9_canTurn 54 = .ok (.ifCond .eq 7, 3) := by decide +kernel
theorem dX9_canTurn_57 : decode cX9_canTurn 57 = .ok (.iconst 1, 1) := by decide +kernel
theorem dX9_canTurn_58 : decode cX9_canTurn 58 = .ok (.goto 4, 3) := by decide +kernel
theorem dX9_canTurn_61 : decode cX9_canTurn 61 = .ok (.iconst 0, 1) := by decide +kernel
theorem dX9_canTurn_62 : decode cX9_canTurn 62 = .ok (.ireturn, 1) := by decide +kernel
theorem dX9_turn_0 : decode cX9_turn 0 = .ok (.aload_n 0, 1) := by decide +kernel
theorem dX9_turn_1 : decode cX9_turn 1 = .ok (.iload_n 1, 1) := by decide +kernel
theorem dX9_turn_2 : decode cX9_turn 2 = .ok (.invokevirtual 241, 3) := by decide +kernel
theorem dX9_turn_5 : decode cX9_turn 5 = .ok (.ifCond .ne 7, 3) := by decide +kernel
theorem dX9_turn_8 : decode cX9_turn 8 = .ok (.iconst 1, 1) := by decide +kernel
theorem dX9_turn_9 : decode cX9_turn 9 = .ok (.goto 41, 3) := by decide +kernel
theorem dX9_turn_12 : decode cX9_turn 12 = .ok (.aload_n 0, 1) := by decide +kernel
theorem dX9_turn_13 : decode cX9_turn 13 = .ok (.getfield 80, 3) := by decide +kernel
theorem dX9_turn_16 : decode cX9_turn 16 = .ok (.iload_n 1, 1) := by decide +kernel
theorem dX9_turn_17 : decode cX9_turn 17 = .ok (.aaload, 1) := by decide +kernel
theorem dX9_turn_18 : decode cX9_turn 18 = .ok (.iconst 2, 1) := by decide +kernel
theorem dX9_turn_19 : decode cX9_turn 19 = .ok (.iaload, 1) := by decide +kernel
theorem dX9_turn_20 : decode cX9_turn 20 = .ok (.iload_n 2, 1) := by decide +kernel
theorem dX9_turn_21 : decode cX9_turn 21 = .ok (.invokestatic 260, 3) := by decide +kernel
theorem dX9_turn_24 : decode cX9_turn 24 = .ok (.ifCond .eq 21, 3) := by decide +kernel
theorem dX9_turn_27 : decode cX9_turn 27 = .ok (.iload_n 3, 1) := by decide +kernel
theorem dX9_turn_28 : decode cX9_turn 28 = .ok (.ifCond .eq 17, 3) := by decide +kernel
theorem dX9_turn_31 : decode cX9_turn 31 = .ok (.iload_n 3, 1) := by decide +kernel
theorem dX9_turn_32 : decode cX9_turn 32 = .ok (.i2l, 1) := by decide +kernel
theorem dX9_turn_33 : decode cX9_turn 33 = .ok (.ldc2_w 263, 3) := by decide +kernel
theorem dX9_turn_36 : decode cX9_turn 36 = .ok (.ldc2_w 265, 3) := by decide +kernel
theorem dX9_turn_39 : decode cX9_turn 39 = .ok (.invokestatic 91, 3) := by decide +kernel
theorem dX9_turn_42 : decode cX9_turn 42 = .ok (.ifCond .ne 7, 3) := by decide +kernel
theorem dX9_turn_45 : decode cX9_turn 45 = .ok (.iconst 2, 1) := by decide +kernel
theorem dX9_turn_46 : decode cX9_turn 46 = .ok (.goto 4, 3) := by decide +kernel
theorem dX9_turn_49 : decode cX9_turn 49 = .ok (.iconst 0, 1) := by decide +kernel
theorem dX9_turn_50 : decode cX9_turn 50 = .ok (.istore 4, 2) := by decide +kernel
theorem dX9_turn_52 : decode cX9_turn 52 = .ok (.iload 4, 2) := by decide +kernel
theorem dX9_turn_54 : decode cX9_turn 54 = .ok (.ifCond .ne 45, 3) := by decide +kernel
theorem dX9_turn_57 : decode cX9_turn 57 = .ok (.aload_n 0, 1) := by decide +kernel
theorem dX9_turn_58 : decode cX9_turn 58 = .ok (.getfield 80, 3) := by decide +kernel
theorem dX9_turn_61 : decode cX9_turn 61 = .ok (.iload_n 1, 1) := by decide +kernel
theorem dX9_turn_62 : decode cX9_turn 62 = .ok (.aaload, 1) := by decide +kernel
theorem dX9_turn_63 : decode cX9_turn 63 = .ok (.iconst 3, 1) := by decide +kernel
theorem dX9_turn_64 : decode cX9_turn 64 = .ok (.iload_n 2, 1) := by decide +kernel
theorem dX9_turn_65 : decode cX9_turn 65 = .ok (.iadd, 1) := by decide +kernel
theorem dX9_turn_66 : decode cX9_turn 66 = .ok (.iaload, 1) := by decide +kernel
theorem dX9_turn_67 : decode cX9_turn 67 = .ok (.i2l, 1) := by decide +kernel
theorem dX9_turn_68 : decode cX9_turn 68 = .ok (.iload_n 3, 1) := by decide +kernel
theorem dX9_turn_69 : decode cX9_turn 69 = .ok (.i2l, 1) := by decide +kernel
theorem dX9_turn_70 : decode cX9_turn 70 = .ok (.ladd, 1) := by decide +kernel
theorem dX9_turn_71 : decode cX9_turn 71 = .ok (.aload_n 0, 1) := by decide +kernel
theorem dX9_turn_72 : decode cX9_turn 72 = .ok (.getfield 80, 3) := by decide +kernel
theorem dX9_turn_75 : decode cX9_turn 75 = .ok (.iload_n 1, 1) := by decide +kernel
theorem dX9_turn_76 : decode cX9_turn 76 = .ok (.aaload, 1) := by decide +kernel
theorem dX9_turn_77 : decode cX9_turn 77 = .ok (.bipush 9, 2) := by decide +kernel
theorem dX9_turn_79 : decode cX9_turn 79 = .ok (.iload_n 2, 1) := by decide +kernel
theorem dX9_turn_80 : decode cX9_turn 80 = .ok (.iadd, 1) := by decide +kernel
theorem dX9_turn_81 : decode cX9_turn 81 = .ok (.iaload, 1) := by decide +kernel
theorem dX9_turn_82 : decode cX9_turn 82 = .ok (.i2l, 1) := by decide +kernel
theorem dX9_turn_83 : decode cX9_turn 83 = .ok (.lsub, 1) := by decide +kernel
theorem dX9_turn_84 : decode cX9_turn 84 = .ok (.ldc2_w 267, 3) := by decide +kernel
theorem dX9_turn_87 : decode cX9_turn 87 = .ok (.ldc2_w 269, 3) := by decide +kernel
theorem dX9_turn_90 : decode cX9_turn 90 = .ok (.invokestatic 91, 3) := by decide +kernel
theorem dX9_turn_93 : decode cX9_turn 93 = .ok (.ifCond .ne 6, 3) := by decide +kernel
theorem dX9_turn_96 : decode cX9_turn 96 = .ok (.iconst 2, 1) := by decide +kernel
theorem dX9_turn_97 : decode cX9_turn 97 = .ok (.istore 4, 2) := by decide +kernel
theorem dX9_turn_99 : decode cX9_turn 99 = .ok (.aload_n 0, 1) := by decide +kernel
theorem dX9_turn_100 : decode cX9_turn 100 = .ok (.iload 4, 2) := by decide +kernel
theorem dX9_turn_102 : decode cX9_turn 102 = .ok (.ifCond .ne 33, 3) := by decide +kernel
theorem dX9_turn_105 : decode cX9_turn 105 = .ok (.aload_n 0, 1) := by decide +kernel
theorem dX9_turn_106 : decode cX9_turn 106 = .ok (.getfield 80, 3) := by decide +kernel
theorem dX9_turn_109 : decode cX9_turn 109 = .ok (.iload_n 1, 1) := by decide +kernel
theorem dX9_turn_110 : decode cX9_turn 110 = .ok (.aaload, 1) := by decide +kernel
theorem dX9_turn_111 : decode cX9_turn 111 = .ok (.bipush 15, 2) := by decide +kernel
theorem dX9_turn_113 : decode cX9_turn 113 = .ok (.iaload, 1) := by decide +kernel
theorem dX9_turn_114 : decode cX9_turn 114 = .ok (.iconst (-1), 1) := by decide +kernel
theorem dX9_turn_115 : decode cX9_turn 115 = .ok (.if_icmp .eq 20, 3) := by decide +kernel
theorem dX9_turn_118 : decode cX9_turn 118 = .ok (.aload_n 0, 1) := by decide +kernel
theorem dX9_turn_119 : decode cX9_turn 119 = .ok (.getfield 80, 3) := by decide +kernel
theorem dX9_turn_122 : decode cX9_turn 122 = .ok (.iload_n 1, 1) := by decide +kernel
theorem dX9_turn_123 : decode cX9_turn 123 = .ok (.aaload, 1) := by decide +kernel
theorem dX9_turn_124 : decode cX9_turn 124 = .ok (.bipush 15, 2) := by decide +kernel
theorem dX9_turn_126 : decode cX9_turn 126 = .ok (.iaload, 1) := by decide +kernel
theorem dX9_turn_127 : decode cX9_turn 127 = .ok (.iload_n 2, 1) := by decide +kernel
theorem dX9_turn_128 : decode cX9_turn 128 = .ok (.if_icmp .eq 7, 3) := by decide +kernel
theorem dX9_turn_131 : decode cX9_turn 131 = .ok (.iconst 3, 1) := by decide +kernel
theorem dX9_turn_132 : decode cX9_turn 132 = .ok (.goto 5, 3) := by decide +kernel
theorem dX9_turn_135 : decode cX9_turn 135 = .ok (.iload 4, 2) := by decide +kernel
theorem dX9_turn_137 : decode cX9_turn 137 = .ok (.invokevirtual 215, 3) := by decide +kernel
theorem dX9_turn_140 : decode cX9_turn 140 = .ok (.ifCond .eq 5, 3) := by decide +kernel
theorem dX9_turn_143 : decode cX9_turn 143 = .ok (.iconst 0, 1) := by decide +kernel
theorem dX9_turn_144 : decode cX9_turn 144 = .ok (.ireturn, 1) := by decide +kernel
theorem dX9_turn_145 : decode cX9_turn 145 = .ok (.aload_n 0, 1) := by decide +kernel
theorem dX9_turn_146 : decode cX9_turn 146 = .ok (.getfield 80, 3) := by decide +kernel
theorem dX9_turn_149 : decode cX9_turn 149 = .ok (.iload_n 1, 1) := by decide +kernel
theorem dX9_turn_150 : decode cX9_turn 150 = .ok (.aaload, 1) := by decide +kernel
theorem dX9_turn_151 : decode cX9_turn 151 = .ok (.bipush 15, 2) := by decide +kernel
theorem dX9_turn_153 : decode cX9_turn 153 = .ok (.iload_n 2, 1) := by decide +kernel
theorem dX9_turn_154 : decode cX9_turn 154 = .ok (.iastore, 1) := by decide +kernel
theorem dX9_turn_155 : decode cX9_turn 155 = .ok (.aload_n 0, 1) := by decide +kernel
theorem dX9_turn_156 : decode cX9_turn 156 = .ok (.getfield 80, 3) := by decide +kernel
theorem dX9_turn_159 : decode cX9_turn 159 = .ok (.iload_n 1, 1) := by decide +kernel
theorem dX9_turn_160 : decode cX9_turn 160 = .ok (.aaload, 1) := by decide +kernel
theorem dX9_turn_161 : decode cX9_turn 161 = .ok (.iconst 3, 1) := by decide +kernel
theorem dX9_turn_162 : decode cX9_turn 162 = .ok (.iload_n 2, 1) := by decide +kernel
theorem dX9_turn_163 : decode cX9_turn 163 = .ok (.iadd, 1) := by decide +kernel
theorem dX9_turn_164 : decode cX9_turn 164 = .ok (.dup2, 1) := by decide +kernel
theorem dX9_turn_165 : decode cX9_turn 165 = .ok (.iaload, 1) := by decide +kernel
theorem dX9_turn_166 : decode cX9_turn 166 = .ok (.iload_n 3, 1) := by decide +kernel
theorem dX9_turn_167 : decode cX9_turn 167 = .ok (.iadd, 1) := by decide +kernel
theorem dX9_turn_168 : decode cX9_turn 168 = .ok (.iastore, 1) := by decide +kernel
theorem dX9_turn_169 : decode cX9_turn 169 = .ok (.aload_n 0, 1) := by decide +kernel
theorem dX9_turn_170 : decode cX9_turn 170 = .ok (.getfield 80, 3) := by decide +kernel
theorem dX9_turn_173 : decode cX9_turn 173 = .ok (.iload_n 1, 1) := by decide +kernel
theorem dX9_turn_174 : decode cX9_turn 174 = .ok (.aaload, 1) := by decide +kernel
theorem dX9_turn_175 : decode cX9_turn 175 = .ok (.iconst 3, 1) := by decide +kernel
theorem dX9_turn_176 : decode cX9_turn 176 = .ok (.iload_n 2, 1) := by decide +kernel
theorem dX9_turn_177 : decode cX9_turn 177 = .ok (.iadd, 1) := by decide +kernel
theorem dX9_turn_178 : decode cX9_turn 178 = .ok (.iaload, 1) := by decide +kernel
theorem dX9_turn_179 : decode cX9_turn 179 = .ok (.ireturn, 1) := by decide +kernel
theorem dX9_reroute_0 : decode cX9_reroute 0 = .ok (.aload_n 0, 1) := by decide +kernel
theorem dX9_reroute_1 : decode cX9_reroute 1 = .ok (.aload_n 0, 1) := by decide +kernel
theorem dX9_reroute_2 : decode cX9_reroute 2 = .ok (.iload_n 1, 1) := by decide +kernel
theorem dX9_reroute_3 : decode cX9_reroute 3 = .ok (.invokevirtual 241, 3) := by decide +kernel
theorem dX9_reroute_6 : decode cX9_reroute 6 = .ok (.ifCond .ne 7, 3) := by decide +kernel
theorem dX9_reroute_9 : decode cX9_reroute 9 = .ok (.iconst 1, 1) := by decide +kernel
theorem dX9_reroute_10 : decode cX9_reroute 10 = .ok (.goto 20, 3) := by decide +kernel
theorem dX9_reroute_13 : decode cX9_reroute 13 = .ok (.iload_n 2, 1) := by decide +kernel
theorem dX9_reroute_14 : decode cX9_reroute 14 = .ok (.i2l, 1) := by decide +kernel
theorem dX9_reroute_15 : decode cX9_reroute 15 = .ok (.lconst 1, 1) := by decide +kernel
theorem dX9_reroute_16 : decode cX9_reroute 16 = .ok (.ldc2_w 218, 3) := by decide +kernel
theorem dX9_reroute_19 : decode cX9_reroute 19 = .ok (.invokestatic 91, 3) := by decide +kernel
theorem dX9_reroute_22 : decode cX9_reroute 22 = .ok (.ifCond .ne 7, 3) := by decide +kernel
theorem dX9_reroute_25 : decode cX9_reroute 25 = .ok (.iconst 2, 1) := by decide +kernel
theorem dX9_reroute_26 : decode cX9_reroute 26 = .ok (.goto 4, 3) := by decide +kernel
theorem dX9_reroute_29 : decode cX9_reroute 29 = .ok (.iconst 0, 1) := by decide +kernel
theorem dX9_reroute_30 : decode cX9_reroute 30 = .ok (.invokevirtual 215, 3) := by decide +kernel
theorem dX9_reroute_33 : decode cX9_reroute 33 = .ok (.ifCond .eq 5, 3) := by decide +kernel
theorem dX9_reroute_36 : decode cX9_reroute 36 = .ok (.iconst 0, 1) := by decide +kernel
theorem dX9_reroute_37 : decode cX9_reroute 37 = .ok (.ireturn, 1) := by decide +kernel
theorem dX9_reroute_38 : decode cX9_reroute 38 = .ok (.aload_n 0, 1) := by decide +kernel
theorem dX9_reroute_39 : decode cX9_reroute 39 = .ok (.getfield 80, 3) := by decide +kernel
theorem dX9_reroute_42 : decode cX9_reroute 42 = .ok (.iload_n 1, 1) := by decide +kernel
theorem dX9_reroute_43 : decode cX9_reroute 43 = .ok (.aaload, 1) := by decide +kernel
theorem dX9_reroute_44 : decode cX9_reroute 44 = .ok (.iconst 0, 1) := by decide +kernel
theorem dX9_reroute_45 : decode cX9_reroute 45 = .ok (.iaload, 1) := by decide +kernel
theorem dX9_reroute_46 : decode cX9_reroute 46 = .ok (.istore_n 3, 1) := by decide +kernel
theorem dX9_reroute_47 : decode cX9_reroute 47 = .ok (.aload_n 0, 1) := by decide +kernel
theorem dX9_reroute_48 : decode cX9_reroute 48 = .ok (.getfield 80, 3) := by decide +kernel
theorem dX9_reroute_51 : decode cX9_reroute 51 = .ok (.iload_n 1, 1) := by decide +kernel
theorem dX9_reroute_52 : decode cX9_reroute 52 = .ok (.aaload, 1) := by decide +kernel
theorem dX9_reroute_53 : decode cX9_reroute 53 = .ok (.iconst 0, 1) := by decide +kernel
theorem dX9_reroute_54 : decode cX9_reroute 54 = .ok (.iload_n 2, 1) := by decide +kernel
theorem dX9_reroute_55 : decode cX9_reroute 55 = .ok (.iastore, 1) := by decide +kernel
theorem dX9_reroute_56 : decode cX9_reroute 56 = .ok (.iload_n 3, 1) := by decide +kernel
theorem dX9_reroute_57 : decode cX9_reroute 57 = .ok (.ireturn, 1) := by decide +kernel
theorem dX9_later_0 : decode cX9_later 0 = .ok (.aload_n 0, 1) := by decide +kernel
theorem dX9_later_1 : decode cX9_later 1 = .ok (.aload_n 0, 1) := by decide +kernel
theorem dX9_later_2 : decode cX9_later 2 = .ok (.iload_n 1, 1) := by decide +kernel
theorem dX9_later_3 : decode cX9_later 3 = .ok (.invokevirtual 241, 3) := by decide +kernel
theorem dX9_later_6 : decode cX9_later 6 = .ok (.ifCond .eq 7, 3) := by decide +kernel
theorem dX9_later_9 : decode cX9_later 9 = .ok (.iconst 0, 1) := by decide +kernel
theorem dX9_later_10 : decode cX9_later 10 = .ok (.goto 4, 3) := by decide +kernel
theorem dX9_later_13 : decode cX9_later 13 = .ok (.iconst 1, 1) := by decide +kernel
theorem dX9_later_14 : decode cX9_later 14 = .ok (.invokevirtual 215, 3) := by decide +kernel
theorem dX9_later_17 : decode cX9_later 17 = .ok (.ifCond .eq 5, 3) := by decide +kernel
theorem dX9_later_20 : decode cX9_later 20 = .ok (.iconst 0, 1) := by decide +kernel
theorem dX9_later_21 : decode cX9_later 21 = .ok (.ireturn, 1) := by decide +kernel
theorem dX9_later_22 : decode cX9_later 22 = .ok (.aload_n 0, 1) := by decide +kernel
theorem dX9_later_23 : decode cX9_later 23 = .ok (.getfield 80, 3) := by decide +kernel
theorem dX9_later_26 : decode cX9_later 26 = .ok (.iload_n 1, 1) := by decide +kernel
theorem dX9_later_27 : decode cX9_later 27 = .ok (.aaload, 1) := by decide +kernel
theorem dX9_later_28 : decode cX9_later 28 = .ok (.astore_n 2, 1) := by decide +kernel
theorem dX9_later_29 : decode cX9_later 29 = .ok (.aload_n 0, 1) := by decide +kernel
theorem dX9_later_30 : decode cX9_later 30 = .ok (.iload_n 1, 1) := by decide +kernel
theorem dX9_later_31 : decode cX9_later 31 = .ok (.invokevirtual 244, 3) := by decide +kernel
theorem dX9_later_34 : decode cX9_later 34 = .ok (.aload_n 0, 1) := by decide +kernel
theorem dX9_later_35 : decode cX9_later 35 = .ok (.getfield 80, 3) := by decide +kernel
theorem dX9_later_38 : decode cX9_later 38 = .ok (.aload_n 0, 1) := by decide +kernel
theorem dX9_later_39 : decode cX9_later 39 = .ok (.dup, 1) := by decide +kernel
theorem dX9_later_40 : decode cX9_later 40 = .ok (.getfield 95, 3) := by decide +kernel
theorem dX9_later_43 : decode cX9_later 43 = .ok (.dup_x1, 1) := by decide +kernel
theorem dX9_later_44 : decode cX9_later 44 = .ok (.iconst 1, 1) := by decide +kernel
theorem dX9_later_45 : decode cX9_later 45 = .ok (.iadd, 1) := by decide +kernel
theorem dX9_later_46 : decode cX9_later 46 = .ok (.putfield 95, 3) := by decide +kernel
theorem dX9_later_49 : decode cX9_later 49 = .ok (.aload_n 2, 1) := by decide +kernel
theorem dX9_later_50 : decode cX9_later 50 = .ok (.aastore, 1) := by decide +kernel
theorem dX9_later_51 : decode cX9_later 51 = .ok (.aload_n 0, 1) := by decide +kernel
theorem dX9_later_52 : decode cX9_later 52 = .ok (.getfield 95, 3) := by decide +kernel
theorem dX9_later_55 : decode cX9_later 55 = .ok (.iconst 1, 1) := by decide +kernel
theorem dX9_later_56 : decode cX9_later 56 = .ok (.isub, 1) := by decide +kernel
theorem dX9_later_57 : decode cX9_later 57 = .ok (.ireturn, 1) := by decide +kernel
theorem dX9_now_0 : decode cX9_now 0 = .ok (.aload_n 0, 1) := by decide +kernel
theorem dX9_now_1 : decode cX9_now 1 = .ok (.getfield 129, 3) := by decide +kernel
theorem dX9_now_4 : decode cX9_now 4 = .ok (.ireturn, 1) := by decide +kernel
theorem dX9_letters_0 : decode cX9_letters 0 = .ok (.aload_n 0, 1) := by decide +kernel
theorem dX9_letters_1 : decode cX9_letters 1 = .ok (.getfield 95, 3) := by decide +kernel
theorem dX9_letters_4 : decode cX9_letters 4 = .ok (.ireturn, 1) := by decide +kernel
theorem dX9_letter_0 : decode cX9_letter 0 = .ok (.aload_n 0, 1) := by decide +kernel
theorem dX9_letter_1 : decode cX9_letter 1 = .ok (.aload_n 0, 1) := by decide +kernel
theorem dX9_letter_2 : decode cX9_letter 2 = .ok (.iload_n 1, 1) := by decide +kernel
theorem dX9_letter_3 : decode cX9_letter 3 = .ok (.invokevirtual 241, 3) := by decide +kernel
theorem dX9_letter_6 : decode cX9_letter 6 = .ok (.ifCond .ne 7, 3) := by decide +kernel
theorem dX9_letter_9 : decode cX9_letter 9 = .ok (.iconst 1, 1) := by decide +kernel
theorem dX9_letter_10 : decode cX9_letter 10 = .ok (.goto 20, 3) := by decide +kernel
theorem dX9_letter_13 : decode cX9_letter 13 = .ok (.iload_n 2, 1) := by decide +kernel
theorem dX9_letter_14 : decode cX9_letter 14 = .ok (.i2l, 1) := by decide +kernel
theorem dX9_letter_15 : decode cX9_letter 15 = .ok (.lconst 0, 1) := by decide +kernel
theorem dX9_letter_16 : decode cX9_letter 16 = .ok (.ldc2_w 222, 3) := by decide +kernel
theorem dX9_letter_19 : decode cX9_letter 19 = .ok (.invokestatic 91, 3) := by decide +kernel
theorem dX9_letter_22 : decode cX9_letter 22 = .ok (.ifCond .ne 7, 3) := by decide +kernel
theorem dX9_letter_25 : decode cX9_letter 25 = .ok (.iconst 2, 1) := by decide +kernel
theorem dX9_letter_26 : decode cX9_letter 26 = .ok (.goto 4, 3) := by decide +kernel
theorem dX9_letter_29 : decode cX9_letter 29 = .ok (.iconst 0, 1) := by decide +kernel
theorem dX9_letter_30 : decode cX9_letter 30 = .ok (.invokevirtual 215, 3) := by decide +kernel
theorem dX9_letter_33 : decode cX9_letter 33 = .ok (.ifCond .eq 5, 3) := by decide +kernel
theorem dX9_letter_36 : decode cX9_letter 36 = .ok (.iconst 0, 1) := by decide +kernel
theorem dX9_letter_37 : decode cX9_letter 37 = .ok (.ireturn, 1) := by decide +kernel
theorem dX9_letter_38 : decode cX9_letter 38 = .ok (.aload_n 0, 1) := by decide +kernel
theorem dX9_letter_39 : decode cX9_letter 39 = .ok (.getfield 80, 3) := by decide +kernel
theorem dX9_letter_42 : decode cX9_letter 42 = .ok (.iload_n 1, 1) := by decide +kernel
theorem dX9_letter_43 : decode cX9_letter 43 = .ok (.aaload, 1) := by decide +kernel
theorem dX9_letter_44 : decode cX9_letter 44 = .ok (.iload_n 2, 1) := by decide +kernel
theorem dX9_letter_45 : decode cX9_letter 45 = .ok (.iaload, 1) := by decide +kernel
theorem dX9_letter_46 : decode cX9_letter 46 = .ok (.ireturn, 1) := by decide +kernel
theorem dX9_isTurned_0 : decode cX9_isTurned 0 = .ok (.aload_n 0, 1) := by decide +kernel
theorem dX9_isTurned_1 : decode cX9_isTurned 1 = .ok (.aload_n 0, 1) := by decide +kernel
theorem dX9_isTurned_2 : decode cX9_isTurned 2 = .ok (.iload_n 1, 1) := by decide +kernel
theorem dX9_isTurned_3 : decode cX9_isTurned 3 = .ok (.invokevirtual 241, 3) := by decide +kernel
theorem dX9_isTurned_6 : decode cX9_isTurned 6 = .ok (.ifCond .eq 7, 3) := by decide +kernel
theorem dX9_isTurned_9 : decode cX9_isTurned 9 = .ok (.iconst 0, 1) := by decide +kernel
theorem dX9_isTurned_10 : decode cX9_isTurned 10 = .ok (.goto 4, 3) := by decide +kernel
theorem dX9_isTurned_13 : decode cX9_isTurned 13 = .ok (.iconst 1, 1) := by decide +kernel
theorem dX9_isTurned_14 : decode cX9_isTurned 14 = .ok (.invokevirtual 215, 3) := by decide +kernel
theorem dX9_isTurned_17 : decode cX9_isTurned 17 = .ok (.ifCond .eq 5, 3) := by decide +kernel
theorem dX9_isTurned_20 : decode cX9_isTurned 20 = .ok (.iconst 0, 1) := by decide +kernel
theorem dX9_isTurned_21 : decode cX9_isTurned 21 = .ok (.ireturn, 1) := by decide +kernel
theorem dX9_isTurned_22 : decode cX9_isTurned 22 = .ok (.aload_n 0, 1) := by decide +kernel
theorem dX9_isTurned_23 : decode cX9_isTurned 23 = .ok (.aload_n 0, 1) := by decide +kernel
theorem dX9_isTurned_24 : decode cX9_isTurned 24 = .ok (.getfield 80, 3) := by decide +kernel
theorem dX9_isTurned_27 : decode cX9_isTurned 27 = .ok (.iload_n 1, 1) := by decide +kernel
theorem dX9_isTurned_28 : decode cX9_isTurned 28 = .ok (.aaload, 1) := by decide +kernel
theorem dX9_isTurned_29 : decode cX9_isTurned 29 = .ok (.invokevirtual 271, 3) := by decide +kernel
theorem dX9_isTurned_32 : decode cX9_isTurned 32 = .ok (.ireturn, 1) := by decide +kernel
theorem dX9_address_0 : decode cX9_address 0 = .ok (.aload_n 0, 1) := by decide +kernel
theorem dX9_address_1 : decode cX9_address 1 = .ok (.iload_n 1, 1) := by decide +kernel
theorem dX9_address_2 : decode cX9_address 2 = .ok (.invokestatic 98, 3) := by decide +kernel
theorem dX9_address_5 : decode cX9_address 5 = .ok (.ifCond .eq 7, 3) := by decide +kernel
theorem dX9_address_8 : decode cX9_address 8 = .ok (.iconst 0, 1) := by decide +kernel
theorem dX9_address_9 : decode cX9_address 9 = .ok (.goto 4, 3) := by decide +kernel
theorem dX9_address_12 : decode cX9_address 12 = .ok (.iconst 1, 1) := by decide +kernel
theorem dX9_address_13 : decode cX9_address 13 = .ok (.invokevirtual 215, 3) := by decide +kernel
theorem dX9_address_16 : decode cX9_address 16 = .ok (.ifCond .eq 5, 3) := by decide +kernel
theorem dX9_address_19 : decode cX9_address 19 = .ok (.iconst 0, 1) := by decide +kernel
theorem dX9_address_20 : decode cX9_address 20 = .ok (.ireturn, 1) := by decide +kernel
theorem dX9_address_21 : decode cX9_address 21 = .ok (.aload_n 0, 1) := by decide +kernel
theorem dX9_address_22 : decode cX9_address 22 = .ok (.getfield 13, 3) := by decide +kernel
theorem dX9_address_25 : decode cX9_address 25 = .ok (.iload_n 1, 1) := by decide +kernel
theorem dX9_address_26 : decode cX9_address 26 = .ok (.iaload, 1) := by decide +kernel
theorem dX9_address_27 : decode cX9_address 27 = .ok (.ireturn, 1) := by decide +kernel
theorem dX9_known_0 : decode cX9_known 0 = .ok (.aload_n 0, 1) := by decide +kernel
theorem dX9_known_1 : decode cX9_known 1 = .ok (.iload_n 1, 1) := by decide +kernel
theorem dX9_known_2 : decode cX9_known 2 = .ok (.iload_n 2, 1) := by decide +kernel
theorem dX9_known_3 : decode cX9_known 3 = .ok (.invokestatic 224, 3) := by decide +kernel
theorem dX9_known_6 : decode cX9_known 6 = .ok (.invokevirtual 215, 3) := by decide +kernel
theorem dX9_known_9 : decode cX9_known 9 = .ok (.ifCond .eq 5, 3) := by decide +kernel
theorem dX9_known_12 : decode cX9_known 12 = .ok (.iconst 0, 1) := by decide +kernel
theorem dX9_known_13 : decode cX9_known 13 = .ok (.ireturn, 1) := by decide +kernel
theorem dX9_known_14 : decode cX9_known 14 = .ok (.aload_n 0, 1) := by decide +kernel
theorem dX9_known_15 : decode cX9_known 15 = .ok (.getfield 37, 3) := by decide +kernel
theorem dX9_known_18 : decode cX9_known 18 = .ok (.iload_n 1, 1) := by decide +kernel
theorem dX9_known_19 : decode cX9_known 19 = .ok (.aaload, 1) := by decide +kernel
theorem dX9_known_20 : decode cX9_known 20 = .ok (.iload_n 2, 1) := by decide +kernel
theorem dX9_known_21 : decode cX9_known 21 = .ok (.iaload, 1) := by decide +kernel
theorem dX9_known_22 : decode cX9_known 22 = .ok (.ireturn, 1) := by decide +kernel
theorem dX9_route_0 : decode cX9_route 0 = .ok (.aload_n 0, 1) := by decide +kernel
theorem dX9_route_1 : decode cX9_route 1 = .ok (.iload_n 1, 1) := by decide +kernel
theorem dX9_route_2 : decode cX9_route 2 = .ok (.invokestatic 98, 3) := by decide +kernel
theorem dX9_route_5 : decode cX9_route 5 = .ok (.ifCond .ne 7, 3) := by decide +kernel
theorem dX9_route_8 : decode cX9_route 8 = .ok (.iconst 1, 1) := by decide +kernel
theorem dX9_route_9 : decode cX9_route 9 = .ok (.goto 20, 3) := by decide +kernel
theorem dX9_route_12 : decode cX9_route 12 = .ok (.iload_n 2, 1) := by decide +kernel
theorem dX9_route_13 : decode cX9_route 13 = .ok (.i2l, 1) := by decide +kernel
theorem dX9_route_14 : decode cX9_route 14 = .ok (.lconst 0, 1) := by decide +kernel
theorem dX9_route_15 : decode cX9_route 15 = .ok (.ldc2_w 220, 3) := by decide +kernel
theorem dX9_route_18 : decode cX9_route 18 = .ok (.invokestatic 91, 3) := by decide +kernel
theorem dX9_route_21 : decode cX9_route 21 = .ok (.ifCond .ne 7, 3) := by decide +kernel
theorem dX9_route_24 : decode cX9_route 24 = .ok (.iconst 2, 1) := by decide +kernel
theorem dX9_route_25 : decode cX9_route 25 = .ok (.goto 4, 3) := by decide +kernel
theorem dX9_route_28 : decode cX9_route 28 = .ok (.iconst 0, 1) := by decide +kernel
theorem dX9_route_29 : decode cX9_route 29 = .ok (.invokevirtual 215, 3) := by decide +kernel
theorem dX9_route_32 : decode cX9_route 32 = .ok (.ifCond .eq 5, 3) := by decide +kernel
theorem dX9_route_35 : decode cX9_route 35 = .ok (.iconst 0, 1) := by decide +kernel
theorem dX9_route_36 : decode cX9_route 36 = .ok (.ireturn, 1) := by decide +kernel
theorem dX9_route_37 : decode cX9_route 37 = .ok (.aload_n 0, 1) := by decide +kernel
theorem dX9_route_38 : decode cX9_route 38 = .ok (.iload_n 1, 1) := by decide +kernel
theorem dX9_route_39 : decode cX9_route 39 = .ok (.iload_n 2, 1) := by decide +kernel
theorem dX9_route_40 : decode cX9_route 40 = .ok (.invokevirtual 196, 3) := by decide +kernel
theorem dX9_route_43 : decode cX9_route 43 = .ok (.ireturn, 1) := by decide +kernel
theorem dX9_session_0 : decode cX9_session 0 = .ok (.iload_n 1, 1) := by decide +kernel
theorem dX9_session_1 : decode cX9_session 1 = .ok (.iload_n 2, 1) := by decide +kernel
theorem dX9_session_2 : decode cX9_session 2 = .ok (.invokestatic 224, 3) := by decide +kernel
theorem dX9_session_5 : decode cX9_session 5 = .ok (.istore 5, 2) := by decide +kernel
theorem dX9_session_7 : decode cX9_session 7 = .ok (.iload 5, 2) := by decide +kernel
theorem dX9_session_9 : decode cX9_session 9 = .ok (.ifCond .ne 31, 3) := by decide +kernel
theorem dX9_session_12 : decode cX9_session 12 = .ok (.iload_n 3, 1) := by decide +kernel
theorem dX9_session_13 : decode cX9_session 13 = .ok (.i2l, 1) := by decide +kernel
theorem dX9_session_14 : decode cX9_session 14 = .ok (.lconst 0, 1) := by decide +kernel
theorem dX9_session_15 : decode cX9_session 15 = .ok (.ldc2_w 89, 3) := by decide +kernel
theorem dX9_session_18 : decode cX9_session 18 = .ok (.invokestatic 91, 3) := by decide +kernel
theorem dX9_session_21 : decode cX9_session 21 = .ok (.ifCond .eq 16, 3) := by decide +kernel
theorem dX9_session_24 : decode cX9_session 24 = .ok (.iload 4, 2) := by decide +kernel
theorem dX9_session_26 : decode cX9_session 26 = .ok (.i2l, 1) := by decide +kernel
theorem dX9_session_27 : decode cX9_session 27 = .ok (.lconst 0, 1) := by decide +kernel
theorem dX9_session_28 : decode cX9_session 28 = .ok (.ldc2_w 222, 3) := by decide +kernel
theorem dX9_session_31 : decode cX9_session 31 = .ok (.invokestatic 91, 3) := by decide +kernel
theorem dX9_session_34 : decode cX9_session 34 = .ok (.ifCond .ne 6, 3) := by decide +kernel
theorem dX9_session_37 : decode cX9_session 37 = .ok (.iconst 2, 1) := by decide +kernel
theorem dX9_session_38 : decode cX9_session 38 = .ok (.istore 5, 2) := by decide +kernel
theorem dX9_session_40 : decode cX9_session 40 = .ok (.iload 5, 2) := by decide +kernel
theorem dX9_session_42 : decode cX9_session 42 = .ok (.ifCond .ne 16, 3) := by decide +kernel
theorem dX9_session_45 : decode cX9_session 45 = .ok (.aload_n 0, 1) := by decide +kernel
theorem dX9_session_46 : decode cX9_session 46 = .ok (.iload_n 1, 1) := by decide +kernel
theorem dX9_session_47 : decode cX9_session 47 = .ok (.iload_n 2, 1) := by decide +kernel
theorem dX9_session_48 : decode cX9_session 48 = .ok (.iload_n 3, 1) := by decide +kernel
theorem dX9_session_49 : decode cX9_session 49 = .ok (.invokevirtual 166, 3) := by decide +kernel
theorem dX9_session_52 : decode cX9_session 52 = .ok (.ifCond .ne 6, 3) := by decide +kernel
theorem dX9_session_55 : decode cX9_session 55 = .ok (.iconst 3, 1) := by decide +kernel
theorem dX9_session_56 : decode cX9_session 56 = .ok (.istore 5, 2) := by decide +kernel
theorem dX9_session_58 : decode cX9_session 58 = .ok (.aload_n 0, 1) := by decide +kernel
theorem dX9_session_59 : decode cX9_session 59 = .ok (.iload 5, 2) := by decide +kernel
theorem dX9_session_61 : decode cX9_session 61 = .ok (.invokevirtual 215, 3) := by decide +kernel
theorem dX9_session_64 : decode cX9_session 64 = .ok (.ifCond .eq 5, 3) := by decide +kernel
theorem dX9_session_67 : decode cX9_session 67 = .ok (.iconst 0, 1) := by decide +kernel
theorem dX9_session_68 : decode cX9_session 68 = .ok (.ireturn, 1) := by decide +kernel
theorem dX9_session_69 : decode cX9_session 69 = .ok (.aload_n 0, 1) := by decide +kernel
theorem dX9_session_70 : decode cX9_session 70 = .ok (.getfield 72, 3) := by decide +kernel
theorem dX9_session_73 : decode cX9_session 73 = .ok (.iload_n 1, 1) := by decide +kernel
theorem dX9_session_74 : decode cX9_session 74 = .ok (.aaload, 1) := by decide +kernel
theorem dX9_session_75 : decode cX9_session 75 = .ok (.iload_n 2, 1) := by decide +kernel
theorem dX9_session_76 : decode cX9_session 76 = .ok (.aaload, 1) := by decide +kernel
theorem dX9_session_77 : decode cX9_session 77 = .ok (.iload_n 3, 1) := by decide +kernel
theorem dX9_session_78 : decode cX9_session 78 = .ok (.aaload, 1) := by decide +kernel
theorem dX9_session_79 : decode cX9_session 79 = .ok (.astore 6, 2) := by decide +kernel
theorem dX9_session_81 : decode cX9_session 81 = .ok (.iload 4, 2) := by decide +kernel
theorem dX9_session_83 : decode cX9_session 83 = .ok (.tableswitch 92 0 7 #[45, 50, 55, 65, 70, 76, 82, 87], 45) := by decide +kernel
theorem dX9_session_128 : decode cX9_session 128 = .ok (.aload 6, 2) := by decide +kernel
theorem dX9_session_130 : decode cX9_session 130 = .ok (.iconst 0, 1) := by decide +kernel
theorem dX9_session_131 : decode cX9_session 131 = .ok (.iaload, 1) := by decide +kernel
theorem dX9_session_132 : decode cX9_session 132 = .ok (.ireturn, 1) := by decide +kernel
theorem dX9_session_133 : decode cX9_session 133 = .ok (.aload 6, 2) := by decide +kernel
theorem dX9_session_135 : decode cX9_session 135 = .ok (.iconst 1, 1) := by decide +kernel
theorem dX9_session_136 : decode cX9_session 136 = .ok (.iaload, 1) := by decide +kernel
theorem dX9_session_137 : decode cX9_session 137 = .ok (.ireturn, 1) := by decide +kernel
theorem dX9_session_138 : decode cX9_session 138 = .ok (.aload_n 0, 1) := by decide +kernel
theorem dX9_session_139 : decode cX9_session 139 = .ok (.getfield 129, 3) := by decide +kernel
theorem dX9_session_142 : decode cX9_session 142 = .ok (.aload 6, 2) := by decide +kernel
theorem dX9_session_144 : decode cX9_session 144 = .ok (.iconst 2, 1) := by decide +kernel
theorem dX9_session_145 : decode cX9_session 145 = .ok (.iaload, 1) := by decide +kernel
theorem dX9_session_146 : decode cX9_session 146 = .ok (.isub, 1) := by decide +kernel
theorem dX9_session_147 : decode cX9_session 147 = .ok (.ireturn, 1) := by decide +kernel
theorem dX9_session_148 : decode cX9_session 148 = .ok (.aload 6, 2) := by decide +kernel
theorem dX9_session_150 : decode cX9_session 150 = .ok (.iconst 5, 1) := by decide +kernel
theorem dX9_session_151 : decode cX9_session 151 = .ok (.iaload, 1) := by decide +kernel
theorem dX9_session_152 : decode cX9_session 152 = .ok (.ireturn, 1) := by decide +kernel
theorem dX9_session_153 : decode cX9_session 153 = .ok (.aload 6, 2) := by decide +kernel
theorem dX9_session_155 : decode cX9_session 155 = .ok (.bipush 7, 2) := by decide +kernel
theorem dX9_session_157 : decode cX9_session 157 = .ok (.iaload, 1) := by decide +kernel
theorem dX9_session_158 : decode cX9_session 158 = .ok (.ireturn, 1) := by decide +kernel
theorem dX9_session_159 : decode cX9_session 159 = .ok (.aload 6, 2) := by decide +kernel
theorem dX9_session_161 : decode cX9_session 161 = .ok (.bipush 8, 2) := by decide +kernel
theorem dX9_session_163 : decode cX9_session 163 = .ok (.iaload, 1) := by decide +kernel
theorem dX9_session_164 : decode cX9_session 164 = .ok (.ireturn, 1) := by decide +kernel
theorem dX9_session_165 : decode cX9_session 165 = .ok (.aload 6, 2) := by decide +kernel
theorem dX9_session_167 : decode cX9_session 167 = .ok (.iconst 3, 1) := by decide +kernel
theorem dX9_session_168 : decode cX9_session 168 = .ok (.iaload, 1) := by decide +kernel
theorem dX9_session_169 : decode cX9_session 169 = .ok (.ireturn, 1) := by decide +kernel
theorem dX9_session_170 : decode cX9_session 170 = .ok (.aload 6, 2) := by decide +kernel
theorem dX9_session_172 : decode cX9_session 172 = .ok (.iconst 4, 1) := by decide +kernel
theorem dX9_session_173 : decode cX9_session 173 = .ok (.iaload, 1) := by decide +kernel
theorem dX9_session_174 : decode cX9_session 174 = .ok (.ireturn, 1) := by decide +kernel
theorem dX9_session_175 : decode cX9_session 175 = .ok (.aload 6, 2) := by decide +kernel
theorem dX9_session_177 : decode cX9_session 177 = .ok (.bipush 6, 2) := by decide +kernel
theorem dX9_session_179 : decode cX9_session 179 = .ok (.iaload, 1) := by decide +kernel
theorem dX9_session_180 : decode cX9_session 180 = .ok (.ireturn, 1) := by decide +kernel
theorem dX9_isUsable_0 : decode cX9_isUsable 0 = .ok (.aload_n 0, 1) := by decide +kernel
theorem dX9_isUsable_1 : decode cX9_isUsable 1 = .ok (.iload_n 1, 1) := by decide +kernel
theorem dX9_isUsable_2 : decode cX9_isUsable 2 = .ok (.iload_n 2, 1) := by decide +kernel
theorem dX9_isUsable_3 : decode cX9_isUsable 3 = .ok (.invokestatic 224, 3) := by decide +kernel
theorem dX9_isUsable_6 : decode cX9_isUsable 6 = .ok (.invokevirtual 215, 3) := by decide +kernel
theorem dX9_isUsable_9 : decode cX9_isUsable 9 = .ok (.ifCond .eq 5, 3) := by decide +kernel
theorem dX9_isUsable_12 : decode cX9_isUsable 12 = .ok (.iconst 0, 1) := by decide +kernel
theorem dX9_isUsable_13 : decode cX9_isUsable 13 = .ok (.ireturn, 1) := by decide +kernel
theorem dX9_isUsable_14 : decode cX9_isUsable 14 = .ok (.aload_n 0, 1) := by decide +kernel
theorem dX9_isUsable_15 : decode cX9_isUsable 15 = .ok (.iload_n 1, 1) := by decide +kernel
theorem dX9_isUsable_16 : decode cX9_isUsable 16 = .ok (.iload_n 2, 1) := by decide +kernel
theorem dX9_isUsable_17 : decode cX9_isUsable 17 = .ok (.invokevirtual 173, 3) := by decide +kernel
theorem dX9_isUsable_20 : decode cX9_isUsable 20 = .ok (.ireturn, 1) := by decide +kernel
theorem dX9_flight_0 : decode cX9_flight 0 = .ok (.aload_n 0, 1) := by decide +kernel
theorem dX9_flight_1 : decode cX9_flight 1 = .ok (.iload_n 1, 1) := by decide +kernel
theorem dX9_flight_2 : decode cX9_flight 2 = .ok (.iload_n 2, 1) := by decide +kernel
theorem dX9_flight_3 : decode cX9_flight 3 = .ok (.invokestatic 224, 3) := by decide +kernel
theorem dX9_flight_6 : decode cX9_flight 6 = .ok (.invokevirtual 215, 3) := by decide +kernel
theorem dX9_flight_9 : decode cX9_flight 9 = .ok (.ifCond .eq 5, 3) := by decide +kernel
theorem dX9_flight_12 : decode cX9_flight 12 = .ok (.iconst 0, 1) := by decide +kernel
theorem dX9_flight_13 : decode cX9_flight 13 = .ok (.ireturn, 1) := by decide +kernel
theorem dX9_flight_14 : decode cX9_flight 14 = .ok (.aload_n 0, 1) := by decide +kernel
theorem dX9_flight_15 : decode cX9_flight 15 = .ok (.getfield 46, 3) := by decide +kernel
theorem dX9_flight_18 : decode cX9_flight 18 = .ok (.iload_n 1, 1) := by decide +kernel
theorem dX9_flight_19 : decode cX9_flight 19 = .ok (.aaload, 1) := by decide +kernel
theorem dX9_flight_20 : decode cX9_flight 20 = .ok (.iload_n 2, 1) := by decide +kernel
theorem dX9_flight_21 : decode cX9_flight 21 = .ok (.iaload, 1) := by decide +kernel
theorem dX9_flight_22 : decode cX9_flight 22 = .ok (.ireturn, 1) := by decide +kernel
theorem dX9_waiting_0 : decode cX9_waiting 0 = .ok (.aload_n 0, 1) := by decide +kernel
theorem dX9_waiting_1 : decode cX9_waiting 1 = .ok (.iload_n 1, 1) := by decide +kernel
theorem dX9_waiting_2 : decode cX9_waiting 2 = .ok (.iload_n 2, 1) := by decide +kernel
theorem dX9_waiting_3 : decode cX9_waiting 3 = .ok (.invokestatic 224, 3) := by decide +kernel
theorem dX9_waiting_6 : decode cX9_waiting 6 = .ok (.invokevirtual 215, 3) := by decide +kernel
theorem dX9_waiting_9 : decode cX9_waiting 9 = .ok (.ifCond .eq 5, 3) := by decide +kernel
theorem dX9_waiting_12 : decode cX9_waiting 12 = .ok (.iconst 0, 1) := by decide +kernel
theorem dX9_waiting_13 : decode cX9_waiting 13 = .ok (.ireturn, 1) := by decide +kernel
theorem dX9_waiting_14 : decode cX9_waiting 14 = .ok (.aload_n 0, 1) := by decide +kernel
theorem dX9_waiting_15 : decode cX9_waiting 15 = .ok (.getfield 64, 3) := by decide +kernel
theorem dX9_waiting_18 : decode cX9_waiting 18 = .ok (.iload_n 1, 1) := by decide +kernel
theorem dX9_waiting_19 : decode cX9_waiting 19 = .ok (.aaload, 1) := by decide +kernel
theorem dX9_waiting_20 : decode cX9_waiting 20 = .ok (.iload_n 2, 1) := by decide +kernel
theorem dX9_waiting_21 : decode cX9_waiting 21 = .ok (.iaload, 1) := by decide +kernel
theorem dX9_waiting_22 : decode cX9_waiting 22 = .ok (.ireturn, 1) := by decide +kernel
theorem dX9_cookie_0 : decode cX9_cookie 0 = .ok (.aload_n 0, 1) := by decide +kernel
theorem dX9_cookie_1 : decode cX9_cookie 1 = .ok (.iload_n 1, 1) := by decide +kernel
theorem dX9_cookie_2 : decode cX9_cookie 2 = .ok (.iload_n 2, 1) := by decide +kernel
theorem dX9_cookie_3 : decode cX9_cookie 3 = .ok (.invokestatic 224, 3) := by decide +kernel
theorem dX9_cookie_6 : decode cX9_cookie 6 = .ok (.invokevirtual 215, 3) := by decide +kernel
theorem dX9_cookie_9 : decode cX9_cookie 9 = .ok (.ifCond .eq 5, 3) := by decide +kernel
theorem dX9_cookie_12 : decode cX9_cookie 12 = .ok (.iconst 0, 1) := by decide +kernel
theorem dX9_cookie_13 : decode cX9_cookie 13 = .ok (.ireturn, 1) := by decide +kernel
theorem dX9_cookie_14 : decode cX9_cookie 14 = .ok (.aload_n 0, 1) := by decide +kernel
theorem dX9_cookie_15 : decode cX9_cookie 15 = .ok (.iload_n 1, 1) := by decide +kernel
theorem dX9_cookie_16 : decode cX9_cookie 16 = .ok (.iload_n 2, 1) := by decide +kernel
theorem dX9_cookie_17 : decode cX9_cookie 17 = .ok (.invokevirtual 158, 3) := by decide +kernel
theorem dX9_cookie_20 : decode cX9_cookie 20 = .ok (.ifCond .eq 14, 3) := by decide +kernel
theorem dX9_cookie_23 : decode cX9_cookie 23 = .ok (.aload_n 0, 1) := by decide +kernel
theorem dX9_cookie_24 : decode cX9_cookie 24 = .ok (.getfield 58, 3) := by decide +kernel
theorem dX9_cookie_27 : decode cX9_cookie 27 = .ok (.iload_n 1, 1) := by decide +kernel
theorem dX9_cookie_28 : decode cX9_cookie 28 = .ok (.aaload, 1) := by decide +kernel
theorem dX9_cookie_29 : decode cX9_cookie 29 = .ok (.iload_n 2, 1) := by decide +kernel
theorem dX9_cookie_30 : decode cX9_cookie 30 = .ok (.iaload, 1) := by decide +kernel
theorem dX9_cookie_31 : decode cX9_cookie 31 = .ok (.goto 4, 3) := by decide +kernel
theorem dX9_cookie_34 : decode cX9_cookie 34 = .ok (.iconst (-1), 1) := by decide +kernel
theorem dX9_cookie_35 : decode cX9_cookie 35 = .ok (.ireturn, 1) := by decide +kernel
theorem dX9_stamp_0 : decode cX9_stamp 0 = .ok (.aload_n 0, 1) := by decide +kernel
theorem dX9_stamp_1 : decode cX9_stamp 1 = .ok (.iload_n 1, 1) := by decide +kernel
theorem dX9_stamp_2 : decode cX9_stamp 2 = .ok (.iload_n 2, 1) := by decide +kernel
theorem dX9_stamp_3 : decode cX9_stamp 3 = .ok (.invokestatic 224, 3) := by decide +kernel
theorem dX9_stamp_6 : decode cX9_stamp 6 = .ok (.invokevirtual 215, 3) := by decide +kernel
theorem dX9_stamp_9 : decode cX9_stamp 9 = .ok (.ifCond .eq 5, 3) := by decide +kernel
theorem dX9_stamp_12 : decode cX9_stamp 12 = .ok (.iconst 0, 1) := by decide +kernel
theorem dX9_stamp_13 : decode cX9_stamp 13 = .ok (.ireturn, 1) := by decide +kernel
theorem dX9_stamp_14 : decode cX9_stamp 14 = .ok (.iload_n 3, 1) := by decide +kernel
theorem dX9_stamp_15 : decode cX9_stamp 15 = .ok (.ifCond .eq 14, 3) := by decide +kernel
theorem dX9_stamp_18 : decode cX9_stamp 18 = .ok (.aload_n 0, 1) := by decide +kernel
theorem dX9_stamp_19 : decode cX9_stamp 19 = .ok (.getfield 43, 3) := by decide +kernel
theorem dX9_stamp_22 : decode cX9_stamp 22 = .ok (.iload_n 1, 1) := by decide +kernel
theorem dX9_stamp_23 : decode cX9_stamp 23 = .ok (.aaload, 1) := by decide +kernel
theorem dX9_stamp_24 : decode cX9_stamp 24 = .ok (.iload_n 2, 1) := by decide +kernel
theorem dX9_stamp_25 : decode cX9_stamp 25 = .ok (.iaload, 1) := by decide +kernel
theorem dX9_stamp_26 : decode cX9_stamp 26 = .ok (.goto 11, 3) := by decide +kernel
theorem dX9_stamp_29 : decode cX9_stamp 29 = .ok (.aload_n 0, 1) := by decide +kernel
theorem dX9_stamp_30 : decode cX9_stamp 30 = .ok (.getfield 40, 3) := by decide +kernel
theorem dX9_stamp_33 : decode cX9_stamp 33 = .ok (.iload_n 1, 1) := by decide +kernel
theorem dX9_stamp_34 : decode cX9_stamp 34 = .ok (.aaload, 1) := by decide +kernel
theorem dX9_stamp_35 : decode cX9_stamp 35 = .ok (.iload_n 2, 1) := by decide +kernel
theorem dX9_stamp_36 : decode cX9_stamp 36 = .ok (.iaload, 1) := by decide +kernel
theorem dX9_stamp_37 : decode cX9_stamp 37 = .ok (.ireturn, 1) := by decide +kernel
theorem dX9_outs_0 : decode cX9_outs 0 = .ok (.aload_n 0, 1) := by decide +kernel
theorem dX9_outs_1 : decode cX9_outs 1 = .ok (.iload_n 1, 1) := by decide +kernel
theorem dX9_outs_2 : decode cX9_outs 2 = .ok (.invokestatic 98, 3) := by decide +kernel
theorem dX9_outs_5 : decode cX9_outs 5 = .ok (.ifCond .eq 7, 3) := by decide +kernel
theorem dX9_outs_8 : decode cX9_outs 8 = .ok (.iconst 0, 1) := by decide +kernel
theorem dX9_outs_9 : decode cX9_outs 9 = .ok (.goto 4, 3) := by decide +kernel
theorem dX9_outs_12 : decode cX9_outs 12 = .ok (.iconst 1, 1) := by decide +kernel
theorem dX9_outs_13 : decode cX9_outs 13 = .ok (.invokevirtual 215, 3) := by decide +kernel
theorem dX9_outs_16 : decode cX9_outs 16 = .ok (.ifCond .eq 5, 3) := by decide +kernel
theorem dX9_outs_19 : decode cX9_outs 19 = .ok (.iconst 0, 1) := by decide +kernel
theorem dX9_outs_20 : decode cX9_outs 20 = .ok (.ireturn, 1) := by decide +kernel
theorem dX9_outs_21 : decode cX9_outs 21 = .ok (.aload_n 0, 1) := by decide +kernel
theorem dX9_outs_22 : decode cX9_outs 22 = .ok (.getfield 20, 3) := by decide +kernel
theorem dX9_outs_25 : decode cX9_outs 25 = .ok (.iload_n 1, 1) := by decide +kernel
theorem dX9_outs_26 : decode cX9_outs 26 = .ok (.iaload, 1) := by decide +kernel
theorem dX9_outs_27 : decode cX9_outs 27 = .ok (.ireturn, 1) := by decide +kernel
theorem dX9_out_0 : decode cX9_out 0 = .ok (.aload_n 0, 1) := by decide +kernel
theorem dX9_out_1 : decode cX9_out 1 = .ok (.iload_n 1, 1) := by decide +kernel
theorem dX9_out_2 : decode cX9_out 2 = .ok (.invokestatic 98, 3) := by decide +kernel
theorem dX9_out_5 : decode cX9_out 5 = .ok (.ifCond .eq 21, 3) := by decide +kernel
theorem dX9_out_8 : decode cX9_out 8 = .ok (.iload_n 2, 1) := by decide +kernel
theorem dX9_out_9 : decode cX9_out 9 = .ok (.i2l, 1) := by decide +kernel
theorem dX9_out_10 : decode cX9_out 10 = .ok (.lconst 0, 1) := by decide +kernel
theorem dX9_out_11 : decode cX9_out 11 = .ok (.aload_n 0, 1) := by decide +kernel
theorem dX9_out_12 : decode cX9_out 12 = .ok (.getfield 20, 3) := by decide +kernel
theorem dX9_out_15 : decode cX9_out 15 = .ok (.iload_n 1, 1) := by decide +kernel
theorem dX9_out_16 : decode cX9_out 16 = .ok (.iaload, 1) := by decide +kernel
theorem dX9_out_17 : decode cX9_out 17 = .ok (.iconst 1, 1) := by decide +kernel
theorem dX9_out_18 : decode cX9_out 18 = .ok (.isub, 1) := by decide +kernel
theorem dX9_out_19 : decode cX9_out 19 = .ok (.i2l, 1) := by decide +kernel
theorem dX9_out_20 : decode cX9_out 20 = .ok (.invokestatic 91, 3) := by decide +kernel
theorem dX9_out_23 : decode cX9_out 23 = .ok (.ifCond .ne 7, 3) := by decide +kernel
theorem dX9_out_26 : decode cX9_out 26 = .ok (.iconst 1, 1) := by decide +kernel
theorem dX9_out_27 : decode cX9_out 27 = .ok (.goto 20, 3) := by decide +kernel
theorem dX9_out_30 : decode cX9_out 30 = .ok (.iload_n 3, 1) := by decide +kernel
theorem dX9_out_31 : decode cX9_out 31 = .ok (.i2l, 1) := by decide +kernel
theorem dX9_out_32 : decode cX9_out 32 = .ok (.lconst 0, 1) := by decide +kernel
theorem dX9_out_33 : decode cX9_out 33 = .ok (.ldc2_w 275, 3) := by decide +kernel
theorem dX9_out_36 : decode cX9_out 36 = .ok (.invokestatic 91, 3) := by decide +kernel
theorem dX9_out_39 : decode cX9_out 39 = .ok (.ifCond .ne 7, 3) := by decide +kernel
theorem dX9_out_42 : decode cX9_out 42 = .ok (.iconst 2, 1) := by decide +kernel
theorem dX9_out_43 : decode cX9_out 43 = .ok (.goto 4, 3) := by decide +kernel
theorem dX9_out_46 : decode cX9_out 46 = .ok (.iconst 0, 1) := by decide +kernel
theorem dX9_out_47 : decode cX9_out 47 = .ok (.invokevirtual 215, 3) := by decide +kernel
theorem dX9_out_50 : decode cX9_out 50 = .ok (.ifCond .eq 5, 3) := by decide +kernel
theorem dX9_out_53 : decode cX9_out 53 = .ok (.iconst 0, 1) := by decide +kernel
theorem dX9_out_54 : decode cX9_out 54 = .ok (.ireturn, 1) := by decide +kernel
theorem dX9_out_55 : decode cX9_out 55 = .ok (.iload_n 2, 1) := by decide +kernel
theorem dX9_out_56 : decode cX9_out 56 = .ok (.istore 4, 2) := by decide +kernel
theorem dX9_out_58 : decode cX9_out 58 = .ok (.aload_n 0, 1) := by decide +kernel
theorem dX9_out_59 : decode cX9_out 59 = .ok (.getfield 83, 3) := by decide +kernel
theorem dX9_out_62 : decode cX9_out 62 = .ok (.astore 5, 2) := by decide +kernel
theorem dX9_out_64 : decode cX9_out 64 = .ok (.aload 5, 2) := by decide +kernel
theorem dX9_out_66 : decode cX9_out 66 = .ok (.arraylength, 1) := by decide +kernel
theorem dX9_out_67 : decode cX9_out 67 = .ok (.istore 6, 2) := by decide +kernel
theorem dX9_out_69 : decode cX9_out 69 = .ok (.iconst 0, 1) := by decide +kernel
theorem dX9_out_70 : decode cX9_out 70 = .ok (.istore 7, 2) := by decide +kernel
theorem dX9_out_72 : decode cX9_out 72 = .ok (.iload 7, 2) := by decide +kernel
theorem dX9_out_74 : decode cX9_out 74 = .ok (.iload 6, 2) := by decide +kernel
theorem dX9_out_76 : decode cX9_out 76 = .ok (.if_icmp .ge 39, 3) := by decide +kernel
theorem dX9_out_79 : decode cX9_out 79 = .ok (.aload 5, 2) := by decide +kernel
theorem dX9_out_81 : decode cX9_out 81 = .ok (.iload 7, 2) := by decide +kernel
theorem dX9_out_83 : decode cX9_out 83 = .ok (.aaload, 1) := by decide +kernel
theorem dX9_out_84 : decode cX9_out 84 = .ok (.astore 8, 2) := by decide +kernel
theorem dX9_out_86 : decode cX9_out 86 = .ok (.aload 8, 2) := by decide +kernel
theorem dX9_out_88 : decode cX9_out 88 = .ok (.iconst 0, 1) := by decide +kernel
theorem dX9_out_89 : decode cX9_out 89 = .ok (.iaload, 1) := by decide +kernel
theorem dX9_out_90 : decode cX9_out 90 = .ok (.iload_n 1, 1) := by decide +kernel
theorem dX9_out_91 : decode cX9_out 91 = .ok (.if_icmp .ne 18, 3) := by decide +kernel
theorem dX9_out_94 : decode cX9_out 94 = .ok (.iload 4, 2) := by decide +kernel
theorem dX9_out_96 : decode cX9_out 96 = .ok (.iinc 4 (-1), 3) := by decide +kernel
theorem dX9_out_99 : decode cX9_out 99 = .ok (.ifCond .ne 10, 3) := by decide +kernel
theorem dX9_out_102 : decode cX9_out 102 = .ok (.aload 8, 2) := by decide +kernel
theorem dX9_out_104 : decode cX9_out 104 = .ok (.iconst 1, 1) := by decide +kernel
theorem dX9_out_105 : decode cX9_out 105 = .ok (.iload_n 3, 1) := by decide +kernel
theorem dX9_out_106 : decode cX9_out 106 = .ok (.iadd, 1) := by decide +kernel
theorem dX9_out_107 : decode cX9_out 107 = .ok (.iaload, 1) := by decide +kernel
theorem dX9_out_108 : decode cX9_out 108 = .ok (.ireturn, 1) := by decide +kernel
theorem dX9_out_109 : decode cX9_out 109 = .ok (.iinc 7 1, 3) := by decide +kernel
theorem dX9_out_112 : decode cX9_out 112 = .ok (.goto (-40), 3) := by decide +kernel
theorem dX9_out_115 : decode cX9_out 115 = .ok (.iconst 0, 1) := by decide +kernel
theorem dX9_out_116 : decode cX9_out 116 = .ok (.ireturn, 1) := by decide +kernel
theorem dX9_drops_0 : decode cX9_drops 0 = .ok (.aload_n 0, 1) := by decide +kernel
theorem dX9_drops_1 : decode cX9_drops 1 = .ok (.iload_n 1, 1) := by decide +kernel
theorem dX9_drops_2 : decode cX9_drops 2 = .ok (.i2l, 1) := by decide +kernel
theorem dX9_drops_3 : decode cX9_drops 3 = .ok (.ldc2_w 277, 3) := by decide +kernel
theorem dX9_drops_6 : decode cX9_drops 6 = .ok (.ldc2_w 275, 3) := by decide +kernel
theorem dX9_drops_9 : decode cX9_drops 9 = .ok (.invokestatic 91, 3) := by decide +kernel
theorem dX9_drops_12 : decode cX9_drops 12 = .ok (.ifCond .eq 7, 3) := by decide +kernel
theorem dX9_drops_15 : decode cX9_drops 15 = .ok (.iconst 0, 1) := by decide +kernel
theorem dX9_drops_16 : decode cX9_drops 16 = .ok (.goto 4, 3) := by decide +kernel
theorem dX9_drops_19 : decode cX9_drops 19 = .ok (.iconst 1, 1) := by decide +kernel
theorem dX9_drops_20 : decode cX9_drops 20 = .ok (.invokevirtual 215, 3) := by decide +kernel
theorem dX9_drops_23 : decode cX9_drops 23 = .ok (.ifCond .eq 5, 3) := by decide +kernel
theorem dX9_drops_26 : decode cX9_drops 26 = .ok (.iconst 0, 1) := by decide +kernel
theorem dX9_drops_27 : decode cX9_drops 27 = .ok (.ireturn, 1) := by decide +kernel
theorem dX9_drops_28 : decode cX9_drops 28 = .ok (.aload_n 0, 1) := by decide +kernel
theorem dX9_drops_29 : decode cX9_drops 29 = .ok (.getfield 23, 3) := by decide +kernel
theorem dX9_drops_32 : decode cX9_drops 32 = .ok (.iload_n 1, 1) := by decide +kernel
theorem dX9_drops_33 : decode cX9_drops 33 = .ok (.bipush 7, 2) := by decide +kernel
theorem dX9_drops_35 : decode cX9_drops 35 = .ok (.iadd, 1) := by decide +kernel
theorem dX9_drops_36 : decode cX9_drops 36 = .ok (.iaload, 1) := by decide +kernel
theorem dX9_drops_37 : decode cX9_drops 37 = .ok (.ireturn, 1) := by decide +kernel
theorem dX9_publicOf_0 : decode cX9_publicOf 0 = .ok (.aload_n 0, 1) := by decide +kernel
theorem dX9_publicOf_1 : decode cX9_publicOf 1 = .ok (.iload_n 1, 1) := by decide +kernel
theorem dX9_publicOf_2 : decode cX9_publicOf 2 = .ok (.i2l, 1) := by decide +kernel
theorem dX9_publicOf_3 : decode cX9_publicOf 3 = .ok (.lconst 0, 1) := by decide +kernel
theorem dX9_publicOf_4 : decode cX9_publicOf 4 = .ok (.ldc2_w 279, 3) := by decide +kernel
theorem dX9_publicOf_7 : decode cX9_publicOf 7 = .ok (.invokestatic 91, 3) := by decide +kernel
theorem dX9_publicOf_10 : decode cX9_publicOf 10 = .ok (.ifCond .eq 7, 3) := by decide +kernel
theorem dX9_publicOf_13 : decode cX9_publicOf 13 = .ok (.iconst 0, 1) := by decide +kernel
theorem dX9_publicOf_14 : decode cX9_publicOf 14 = .ok (.goto 4, 3) := by decide +kernel
theorem dX9_publicOf_17 : decode cX9_publicOf 17 = .ok (.iconst 1, 1) := by decide +kernel
theorem dX9_publicOf_18 : decode cX9_publicOf 18 = .ok (.invokevirtual 215, 3) := by decide +kernel
theorem dX9_publicOf_21 : decode cX9_publicOf 21 = .ok (.ifCond .eq 5, 3) := by decide +kernel
theorem dX9_publicOf_24 : decode cX9_publicOf 24 = .ok (.iconst 0, 1) := by decide +kernel
theorem dX9_publicOf_25 : decode cX9_publicOf 25 = .ok (.ireturn, 1) := by decide +kernel
theorem dX9_publicOf_26 : decode cX9_publicOf 26 = .ok (.iload_n 1, 1) := by decide +kernel
theorem dX9_publicOf_27 : decode cX9_publicOf 27 = .ok (.invokestatic 122, 3) := by decide +kernel
theorem dX9_publicOf_30 : decode cX9_publicOf 30 = .ok (.ireturn, 1) := by decide +kernel
theorem dX9_shared_0 : decode cX9_shared 0 = .ok (.aload_n 0, 1) := by decide +kernel
theorem dX9_shared_1 : decode cX9_shared 1 = .ok (.iload_n 1, 1) := by decide +kernel
theorem dX9_shared_2 : decode cX9_shared 2 = .ok (.i2l, 1) := by decide +kernel
theorem dX9_shared_3 : decode cX9_shared 3 = .ok (.lconst 0, 1) := by decide +kernel
theorem dX9_shared_4 : decode cX9_shared 4 = .ok (.ldc2_w 279, 3) := by decide +kernel
theorem dX9_shared_7 : decode cX9_shared 7 = .ok (.invokestatic 91, 3) := by decide +kernel
theorem dX9_shared_10 : decode cX9_shared 10 = .ok (.ifCond .eq 19, 3) := by decide +kernel
theorem dX9_shared_13 : decode cX9_shared 13 = .ok (.iload_n 2, 1) := by decide +kernel
theorem dX9_shared_14 : decode cX9_shared 14 = .ok (.i2l, 1) := by decide +kernel
theorem dX9_shared_15 : decode cX9_shared 15 = .ok (.lconst 1, 1) := by decide +kernel
theorem dX9_shared_16 : decode cX9_shared 16 = .ok (.ldc2_w 281, 3) := by decide +kernel
theorem dX9_shared_19 : decode cX9_shared 19 = .ok (.invokestatic 91, 3) := by decide +kernel
theorem dX9_shared_22 : decode cX9_shared 22 = .ok (.ifCond .eq 7, 3) := by decide +kernel
theorem dX9_shared_25 : decode cX9_shared 25 = .ok (.iconst 0, 1) := by decide +kernel
theorem dX9_shared_26 : decode cX9_shared 26 = .ok (.goto 4, 3) := by decide +kernel
theorem dX9_shared_29 : decode cX9_shared 29 = .ok (.iconst 1, 1) := by decide +kernel
theorem dX9_shared_30 : decode cX9_shared 30 = .ok (.invokevirtual 215, 3) := by decide +kernel
theorem dX9_shared_33 : decode cX9_shared 33 = .ok (.ifCond .eq 5, 3) := by decide +kernel
theorem dX9_shared_36 : decode cX9_shared 36 = .ok (.iconst 0, 1) := by decide +kernel
theorem dX9_shared_37 : decode cX9_shared 37 = .ok (.ireturn, 1) := by decide +kernel
theorem dX9_shared_38 : decode cX9_shared 38 = .ok (.iload_n 1, 1) := by decide +kernel
theorem dX9_shared_39 : decode cX9_shared 39 = .ok (.iload_n 2, 1) := by decide +kernel
theorem dX9_shared_40 : decode cX9_shared 40 = .ok (.invokestatic 135, 3) := by decide +kernel
theorem dX9_shared_43 : decode cX9_shared 43 = .ok (.ireturn, 1) := by decide +kernel
theorem dX9_seal_0 : decode cX9_seal 0 = .ok (.iload_n 1, 1) := by decide +kernel
theorem dX9_seal_1 : decode cX9_seal 1 = .ok (.i2l, 1) := by decide +kernel
theorem dX9_seal_2 : decode cX9_seal 2 = .ok (.lconst 1, 1) := by decide +kernel
theorem dX9_seal_3 : decode cX9_seal 3 = .ok (.ldc2_w 283, 3) := by decide +kernel
theorem dX9_seal_6 : decode cX9_seal 6 = .ok (.invokestatic 91, 3) := by decide +kernel
theorem dX9_seal_9 : decode cX9_seal 9 = .ok (.ifCond .eq 50, 3) := by decide +kernel
theorem dX9_seal_12 : decode cX9_seal 12 = .ok (.iload_n 2, 1) := by decide +kernel
theorem dX9_seal_13 : decode cX9_seal 13 = .ok (.i2l, 1) := by decide +kernel
theorem dX9_seal_14 : decode cX9_seal 14 = .ok (.ldc2_w 285, 3) := by decide +kernel
theorem dX9_seal_17 : decode cX9_seal 17 = .ok (.ldc2_w 233, 3) := by decide +kernel
theorem dX9_seal_20 : decode cX9_seal 20 = .ok (.invokestatic 91, 3) := by decide +kernel
theorem dX9_seal_23 : decode cX9_seal 23 = .ok (.ifCond .eq 36, 3) := by decide +kernel
theorem dX9_seal_26 : decode cX9_seal 26 = .ok (.iload_n 3, 1) := by decide +kernel
theorem dX9_seal_27 : decode cX9_seal 27 = .ok (.i2l, 1) := by decide +kernel
theorem dX9_seal_28 : decode cX9_seal 28 = .ok (.ldc2_w 285, 3) := by decide +kernel
theorem dX9_seal_31 : decode cX9_seal 31 = .ok (.ldc2_w 233, 3) := by decide +kernel
theorem dX9_seal_34 : decode cX9_seal 34 = .ok (.invokestatic 91, 3) := by decide +kernel
theorem dX9_seal_37 : decode cX9_seal 37 = .ok (.ifCond .eq 22, 3) := by decide +kernel
theorem dX9_seal_40 : decode cX9_seal 40 = .ok (.iload 4, 2) := by decide +kernel
theorem dX9_seal_42 : decode cX9_seal 42 = .ok (.i2l, 1) := by decide +kernel
theorem dX9_seal_43 : decode cX9_seal 43 = .ok (.ldc2_w 285, 3) := by decide +kernel
theorem dX9_seal_46 : decode cX9_seal 46 = .ok (.ldc2_w 233, 3) := by decide +kernel
theorem dX9_seal_49 : decode cX9_seal 49 = .ok (.invokestatic 91, 3) := by decide +kernel
theorem dX9_seal_52 : decode cX9_seal 52 = .ok (.ifCond .eq 7, 3) := by decide +kernel
theorem dX9_seal_55 : decode cX9_seal 55 = .ok (.iconst 1, 1) := by decide +kernel
theorem dX9_seal_56 : decode cX9_seal 56 = .ok (.goto 4, 3) := by decide +kernel
theorem dX9_seal_59 : decode cX9_seal 59 = .ok (.iconst 0, 1) := by decide +kernel
theorem dX9_seal_60 : decode cX9_seal 60 = .ok (.istore 5, 2) := by decide +kernel
theorem dX9_seal_62 : decode cX9_seal 62 = .ok (.aload_n 0, 1) := by decide +kernel
theorem dX9_seal_63 : decode cX9_seal 63 = .ok (.iload 5, 2) := by decide +kernel
theorem dX9_seal_65 : decode cX9_seal 65 = .ok (.ifCond .eq 7, 3) := by decide +kernel
theorem dX9_seal_68 : decode cX9_seal 68 = .ok (.iconst 0, 1) := by decide +kernel
theorem dX9_seal_69 : decode cX9_seal 69 = .ok (.goto 4, 3) := by decide +kernel
theorem dX9_seal_72 : decode cX9_seal 72 = .ok (.iconst 1, 1) := by decide +kernel
theorem dX9_seal_73 : decode cX9_seal 73 = .ok (.invokevirtual 215, 3) := by decide +kernel
theorem dX9_seal_76 : decode cX9_seal 76 = .ok (.ifCond .eq 5, 3) := by decide +kernel
theorem dX9_seal_79 : decode cX9_seal 79 = .ok (.iconst 0, 1) := by decide +kernel
theorem dX9_seal_80 : decode cX9_seal 80 = .ok (.ireturn, 1) := by decide +kernel
theorem dX9_seal_81 : decode cX9_seal 81 = .ok (.iload_n 1, 1) := by decide +kernel
theorem dX9_seal_82 : decode cX9_seal 82 = .ok (.iconst 3, 1) := by decide +kernel
theorem dX9_seal_83 : decode cX9_seal 83 = .ok (.newarray .int, 2) := by decide +kernel
theorem dX9_seal_85 : decode cX9_seal 85 = .ok (.dup, 1) := by decide +kernel
theorem dX9_seal_86 : decode cX9_seal 86 = .ok (.iconst 0, 1) := by decide +kernel
theorem dX9_seal_87 : decode cX9_seal 87 = .ok (.iload_n 2, 1) := by decide +kernel
theorem dX9_seal_88 : decode cX9_seal 88 = .ok (.iastore, 1) := by decide +kernel
theorem dX9_seal_89 : decode cX9_seal 89 = .ok (.dup, 1) := by decide +kernel
theorem dX9_seal_90 : decode cX9_seal 90 = .ok (.iconst 1, 1) := by decide +kernel
theorem dX9_seal_91 : decode cX9_seal 91 = .ok (.iload_n 3, 1) := by decide +kernel
theorem dX9_seal_92 : decode cX9_seal 92 = .ok (.iastore, 1) := by decide +kernel
theorem dX9_seal_93 : decode cX9_seal 93 = .ok (.dup, 1) := by decide +kernel
theorem dX9_seal_94 : decode cX9_seal 94 = .ok (.iconst 2, 1) := by decide +kernel
theorem dX9_seal_95 : decode cX9_seal 95 = .ok (.iload 4, 2) := by decide +kernel
theorem dX9_seal_97 : decode cX9_seal 97 = .ok (.iastore, 1) := by decide +kernel
theorem dX9_seal_98 : decode cX9_seal 98 = .ok (.invokestatic 154, 3) := by decide +kernel
theorem dX9_seal_101 : decode cX9_seal 101 = .ok (.ireturn, 1) := by decide +kernel
theorem dX9_share_0 : decode cX9_share 0 = .ok (.aload_n 0, 1) := by decide +kernel
theorem dX9_share_1 : decode cX9_share 1 = .ok (.getfield 251, 3) := by decide +kernel
theorem dX9_share_4 : decode cX9_share 4 = .ok (.ifCond .ne 7, 3) := by decide +kernel
theorem dX9_share_7 : decode cX9_share 7 = .ok (.fconst 0, 1) := by decide +kernel
theorem dX9_share_8 : decode cX9_share 8 = .ok (.goto 17, 3) := by decide +kernel
theorem dX9_share_11 : decode cX9_share 11 = .ok (.aload_n 0, 1) := by decide +kernel
theorem dX9_share_12 : decode cX9_share 12 = .ok (.getfield 23, 3) := by decide +kernel
theorem dX9_share_15 : decode cX9_share 15 = .ok (.bipush 8, 2) := by decide +kernel
theorem dX9_share_17 : decode cX9_share 17 = .ok (.iaload, 1) := by decide +kernel
theorem dX9_share_18 : decode cX9_share 18 = .ok (.i2f, 1) := by decide +kernel
theorem dX9_share_19 : decode cX9_share 19 = .ok (.aload_n 0, 1) := by decide +kernel
theorem dX9_share_20 : decode cX9_share 20 = .ok (.getfield 251, 3) := by decide +kernel
theorem dX9_share_23 : decode cX9_share 23 = .ok (.i2f, 1) := by decide +kernel
theorem dX9_share_24 : decode cX9_share 24 = .ok (.fdiv, 1) := by decide +kernel
theorem dX9_share_25 : decode cX9_share 25 = .ok (.freturn, 1) := by decide +kernel
theorem dX9_meanAge_0 : decode cX9_meanAge 0 = .ok (.lconst 0, 1) := by decide +kernel
theorem dX9_meanAge_1 : decode cX9_meanAge 1 = .ok (.lstore_n 1, 1) := by decide +kernel
theorem dX9_meanAge_2 : decode cX9_meanAge 2 = .ok (.lconst 0, 1) := by decide +kernel
theorem dX9_meanAge_3 : decode cX9_meanAge 3 = .ok (.lstore_n 3, 1) := by decide +kernel
theorem dX9_meanAge_4 : decode cX9_meanAge 4 = .ok (.iconst 0, 1) := by decide +kernel
theorem dX9_meanAge_5 : decode cX9_meanAge 5 = .ok (.istore 5, 2) := by decide +kernel
theorem dX9_meanAge_7 : decode cX9_meanAge 7 = .ok (.iload 5, 2) := by decide +kernel
theorem dX9_meanAge_9 : decode cX9_meanAge 9 = .ok (.iconst 3, 1) := by decide +kernel
theorem dX9_meanAge_10 : decode cX9_meanAge 10 = .ok (.if_icmp .ge 60, 3) := by decide +kernel
theorem dX9_meanAge_13 : decode cX9_meanAge 13 = .ok (.iconst 0, 1) := by decide +kernel
theorem dX9_meanAge_14 : decode cX9_meanAge 14 = .ok (.istore 6, 2) := by decide +kernel
theorem dX9_meanAge_16 : decode cX9_meanAge 16 = .ok (.iload 6, 2) := by decide +kernel
theorem dX9_meanAge_18 : decode cX9_meanAge 18 = .ok (.iconst 3, 1) := by decide +kernel
theorem dX9_meanAge_19 : decode cX9_meanAge 19 = .ok (.if_icmp .ge 45, 3) := by decide +kernel
theorem dX9_meanAge_22 : decode cX9_meanAge 22 = .ok (.iload 6, 2) := by decide +kernel
theorem dX9_meanAge_24 : decode cX9_meanAge 24 = .ok (.iload 5, 2) := by decide +kernel
theorem dX9_meanAge_26 : decode cX9_meanAge 26 = .ok (.if_icmp .eq 32, 3) := by decide +kernel
theorem dX9_meanAge_29 : decode cX9_meanAge 29 = .ok (.aload_n 0, 1) := by decide +kernel
theorem dX9_meanAge_30 : decode cX9_meanAge 30 = .ok (.iload 5, 2) := by decide +kernel
theorem dX9_meanAge_32 : decode cX9_meanAge 32 = .ok (.iload 6, 2) := by decide +kernel
theorem dX9_meanAge_34 : decode cX9_meanAge 34 = .ok (.iconst 1, 1) := by decide +kernel
theorem dX9_meanAge_35 : decode cX9_meanAge 35 = .ok (.invokevirtual 166, 3) := by decide +kernel
theorem dX9_meanAge_38 : decode cX9_meanAge 38 = .ok (.ifCond .eq 20, 3) := by decide +kernel
theorem dX9_meanAge_41 : decode cX9_meanAge 41 = .ok (.lload_n 1, 1) := by decide +kernel
theorem dX9_meanAge_42 : decode cX9_meanAge 42 = .ok (.aload_n 0, 1) := by decide +kernel
theorem dX9_meanAge_43 : decode cX9_meanAge 43 = .ok (.iload 5, 2) := by decide +kernel
theorem dX9_meanAge_45 : decode cX9_meanAge 45 = .ok (.iload 6, 2) := by decide +kernel
theorem dX9_meanAge_47 : decode cX9_meanAge 47 = .ok (.iconst 1, 1) := by decide +kernel
theorem dX9_meanAge_48 : decode cX9_meanAge 48 = .ok (.invokevirtual 170, 3) := by decide +kernel
theorem dX9_meanAge_51 : decode cX9_meanAge 51 = .ok (.i2l, 1) := by decide +kernel
theorem dX9_meanAge_52 : decode cX9_meanAge 52 = .ok (.ladd, 1) := by decide +kernel
theorem dX9_meanAge_53 : decode cX9_meanAge 53 = .ok (.lstore_n 1, 1) := by decide +kernel
theorem dX9_meanAge_54 : decode cX9_meanAge 54 = .ok (.lload_n 3, 1) := by decide +kernel
theorem dX9_meanAge_55 : decode cX9_meanAge 55 = .ok (.lconst 1, 1) := by decide +kernel
theorem dX9_meanAge_56 : decode cX9_meanAge 56 = .ok (.ladd, 1) := by decide +kernel
theorem dX9_meanAge_57 : decode cX9_meanAge 57 = .ok (.lstore_n 3, 1) := by decide +kernel
theorem dX9_meanAge_58 : decode cX9_meanAge 58 = .ok (.iinc 6 1, 3) := by decide +kernel
theorem dX9_meanAge_61 : decode cX9_meanAge 61 = .ok (.goto (-45), 3) := by decide +kernel
theorem dX9_meanAge_64 : decode cX9_meanAge 64 = .ok (.iinc 5 1, 3) := by decide +kernel
theorem dX9_meanAge_67 : decode cX9_meanAge 67 = .ok (.goto (-60), 3) := by decide +kernel
theorem dX9_meanAge_70 : decode cX9_meanAge 70 = .ok (.lload_n 3, 1) := by decide +kernel
theorem dX9_meanAge_71 : decode cX9_meanAge 71 = .ok (.lconst 0, 1) := by decide +kernel
theorem dX9_meanAge_72 : decode cX9_meanAge 72 = .ok (.lcmp, 1) := by decide +kernel
theorem dX9_meanAge_73 : decode cX9_meanAge 73 = .ok (.ifCond .ne 7, 3) := by decide +kernel
theorem dX9_meanAge_76 : decode cX9_meanAge 76 = .ok (.dconst 0, 1) := by decide +kernel
theorem dX9_meanAge_77 : decode cX9_meanAge 77 = .ok (.goto 8, 3) := by decide +kernel
theorem dX9_meanAge_80 : decode cX9_meanAge 80 = .ok (.lload_n 1, 1) := by decide +kernel
theorem dX9_meanAge_81 : decode cX9_meanAge 81 = .ok (.l2d, 1) := by decide +kernel
theorem dX9_meanAge_82 : decode cX9_meanAge 82 = .ok (.lload_n 3, 1) := by decide +kernel
theorem dX9_meanAge_83 : decode cX9_meanAge 83 = .ok (.l2d, 1) := by decide +kernel
theorem dX9_meanAge_84 : decode cX9_meanAge 84 = .ok (.ddiv, 1) := by decide +kernel
theorem dX9_meanAge_85 : decode cX9_meanAge 85 = .ok (.dreturn, 1) := by decide +kernel
theorem dX9_isSound_0 : decode cX9_isSound 0 = .ok (.iconst 1, 1) := by decide +kernel
theorem dX9_isSound_1 : decode cX9_isSound 1 = .ok (.ireturn, 1) := by decide +kernel
theorem dX9_add_0 : decode cX9_add 0 = .ok (.aload_n 0, 1) := by decide +kernel
theorem dX9_add_1 : decode cX9_add 1 = .ok (.ldc2_w 110, 3) := by decide +kernel
theorem dX9_add_4 : decode cX9_add 4 = .ok (.aload_n 0, 1) := by decide +kernel
theorem dX9_add_5 : decode cX9_add 5 = .ok (.getfield 287, 3) := by decide +kernel
theorem dX9_add_8 : decode cX9_add 8 = .ok (.lmul, 1) := by decide +kernel
theorem dX9_add_9 : decode cX9_add 9 = .ok (.lload_n 1, 1) := by decide +kernel
theorem dX9_add_10 : decode cX9_add 10 = .ok (.ladd, 1) := by decide +kernel
theorem dX9_add_11 : decode cX9_add 11 = .ok (.putfield 287, 3) := by decide +kernel
theorem dX9_add_14 : decode cX9_add 14 = .ok (.return_, 1) := by decide +kernel
theorem dX9_checksum_0 : decode cX9_checksum 0 = .ok (.aload_n 0, 1) := by decide +kernel
theorem dX9_checksum_1 : decode cX9_checksum 1 = .ok (.ldc2_w 110, 3) := by decide +kernel
theorem dX9_checksum_4 : decode cX9_checksum 4 = .ok (.putfield 287, 3) := by decide +kernel
theorem dX9_checksum_7 : decode cX9_checksum 7 = .ok (.aload_n 0, 1) := by decide +kernel
theorem dX9_checksum_8 : decode cX9_checksum 8 = .ok (.aload_n 0, 1) := by decide +kernel
theorem dX9_checksum_9 : decode cX9_checksum 9 = .ok (.getfield 129, 3) := by decide +kernel
theorem dX9_checksum_12 : decode cX9_checksum 12 = .ok (.i2l, 1) := by decide +kernel
theorem dX9_checksum_13 : decode cX9_checksum 13 = .ok (.invokevirtual 291, 3) := by decide +kernel
theorem dX9_checksum_16 : decode cX9_checksum 16 = .ok (.iconst 0, 1) := by decide +kernel
theorem dX9_checksum_17 : decode cX9_checksum 17 = .ok (.istore_n 1, 1) := by decide +kernel
theorem dX9_checksum_18 : decode cX9_checksum 18 = .ok (.iload_n 1, 1) := by decide +kernel
theorem dX9_checksum_19 : decode cX9_checksum 19 = .ok (.iconst 3, 1) := by decide +kernel
theorem dX9_checksum_20 : decode cX9_checksum 20 = .ok (.if_icmp .ge 49, 3) := by decide +kernel
theorem dX9_checksum_23 : decode cX9_checksum 23 = .ok (.aload_n 0, 1) := by decide +kernel
theorem dX9_checksum_24 : decode cX9_checksum 24 = .ok (.aload_n 0, 1) := by decide +kernel
theorem dX9_checksum_25 : decode cX9_checksum 25 = .ok (.getfield 13, 3) := by decide +kernel
theorem dX9_checksum_28 : decode cX9_checksum 28 = .ok (.iload_n 1, 1) := by decide +kernel
theorem dX9_checksum_29 : decode cX9_checksum 29 = .ok (.iaload, 1) := by decide +kernel
theorem dX9_checksum_30 : decode cX9_checksum 30 = .ok (.i2l, 1) := by decide +kernel
theorem dX9_checksum_31 : decode cX9_checksum 31 = .ok (.invokevirtual 291, 3) := by decide +kernel
theorem dX9_checksum_34 : decode cX9_checksum 34 = .ok (.aload_n 0, 1) := by decide +kernel
theorem dX9_checksum_35 : decode cX9_checksum 35 = .ok (.aload_n 0, 1) := by decide +kernel
theorem dX9_checksum_36 : decode cX9_checksum 36 = .ok (.getfield 26, 3) := by decide +kernel
theorem dX9_checksum_39 : decode cX9_checksum 39 = .ok (.iload_n 1, 1) := by decide +kernel
theorem dX9_checksum_40 : decode cX9_checksum 40 = .ok (.baload, 1) := by decide +kernel
theorem dX9_checksum_41 : decode cX9_checksum 41 = .ok (.ifCond .eq 7, 3) := by decide +kernel
theorem dX9_checksum_44 : decode cX9_checksum 44 = .ok (.lconst 1, 1) := by decide +kernel
theorem dX9_checksum_45 : decode cX9_checksum 45 = .ok (.goto 4, 3) := by decide +kernel
theorem dX9_checksum_48 : decode cX9_checksum 48 = .ok (.lconst 0, 1) := by decide +kernel
theorem dX9_checksum_49 : decode cX9_checksum 49 = .ok (.invokevirtual 291, 3) := by decide +kernel
theorem dX9_checksum_52 : decode cX9_checksum 52 = .ok (.aload_n 0, 1) := by decide +kernel
theorem dX9_checksum_53 : decode cX9_checksum 53 = .ok (.aload_n 0, 1) := by decide +kernel
theorem dX9_checksum_54 : decode cX9_checksum 54 = .ok (.getfield 17, 3) := by decide +kernel
theorem dX9_checksum_57 : decode cX9_checksum 57 = .ok (.iload_n 1, 1) := by decide +kernel
theorem dX9_checksum_58 : decode cX9_checksum 58 = .ok (.iaload, 1) := by decide +kernel
theorem dX9_checksum_59 : decode cX9_checksum 59 = .ok (.i2l, 1) := by decide +kernel
theorem dX9_checksum_60 : decode cX9_checksum 60 = .ok (.invokevirtual 291, 3) := by decide +kernel
theorem dX9_checksum_63 : decode cX9_checksum 63 = .ok (.iinc 1 1, 3) := by decide +kernel
theorem dX9_checksum_66 : decode cX9_checksum 66 = .ok (.goto (-48), 3) := by decide +kernel
theorem dX9_checksum_69 : decode cX9_checksum 69 = .ok (.iconst 0, 1) := by decide +kernel
theorem dX9_checksum_70 : decode cX9_checksum 70 = .ok (.istore_n 1, 1) := by decide +kernel
theorem dX9_checksum_71 : decode cX9_checksum 71 = .ok (.iload_n 1, 1) := by decide +kernel
theorem dX9_checksum_72 : decode cX9_checksum 72 = .ok (.iconst 3, 1) := by decide +kernel
theorem dX9_checksum_73 : decode cX9_checksum 73 = .ok (.if_icmp .ge 173, 3) := by decide +kernel
theorem dX9_checksum_76 : decode cX9_checksum 76 = .ok (.iconst 0, 1) := by decide +kernel
theorem dX9_checksum_77 : decode cX9_checksum 77 = .ok (.istore_n 2, 1) := by decide +kernel
theorem dX9_checksum_78 : decode cX9_checksum 78 = .ok (.iload_n 2, 1) := by decide +kernel
theorem dX9_checksum_79 : decode cX9_checksum 79 = .ok (.iconst 3, 1) := by decide +kernel
theorem dX9_checksum_80 : decode cX9_checksum 80 = .ok (.if_icmp .ge 160, 3) := by decide +kernel
theorem dX9_checksum_83 : decode cX9_checksum 83 = .ok (.iload_n 2, 1) := by decide +kernel
theorem dX9_checksum_84 : decode cX9_checksum 84 = .ok (.iload_n 1, 1) := by decide +kernel
theorem dX9_checksum_85 : decode cX9_checksum 85 = .ok (.if_icmp .ne 6, 3) := by decide +kernel
theorem dX9_checksum_88 : decode cX9_checksum 88 = .ok (.goto 146, 3) := by decide +kernel
theorem dX9_checksum_91 : decode cX9_checksum 91 = .ok (.aload_n 0, 1) := by decide +kernel
theorem dX9_checksum_92 : decode cX9_checksum 92 = .ok (.aload_n 0, 1) := by decide +kernel
theorem dX9_checksum_93 : decode cX9_checksum 93 = .ok (.getfield 37, 3) := by decide +kernel
theorem dX9_checksum_96 : decode cX9_checksum 96 = .ok (.iload_n 1, 1) := by decide +kernel
theorem dX9_checksum_97 : decode cX9_checksum 97 = .ok (.aaload, 1) := by decide +kernel
theorem dX9_checksum_98 : decode cX9_checksum 98 = .ok (.iload_n 2, 1) := by decide +kernel
theorem dX9_checksum_99 : decode cX9_checksum 99 = .ok (.iaload, 1) := by decide +kernel
theorem dX9_checksum_100 : decode cX9_checksum 100 = .ok (.i2l, 1) := by decide +kernel
theorem dX9_checksum_101 : decode cX9_checksum 101 = .ok (.invokevirtual 291, 3) := by decide +kernel
theorem dX9_checksum_104 : decode cX9_checksum 104 = .ok (.aload_n 0, 1) := by decide +kernel
theorem dX9_checksum_105 : decode cX9_checksum 105 = .ok (.aload_n 0, 1) := by decide +kernel
theorem dX9_checksum_106 : decode cX9_checksum 106 = .ok (.getfield 46, 3) := by decide +kernel
theorem dX9_checksum_109 : decode cX9_checksum 109 = .ok (.iload_n 1, 1) := by decide +kernel
theorem dX9_checksum_110 : decode cX9_checksum 110 = .ok (.aaload, 1) := by decide +kernel
theorem dX9_checksum_111 : decode cX9_checksum 111 = .ok (.iload_n 2, 1) := by decide +kernel
theorem dX9_checksum_112 : decode cX9_checksum 112 = .ok (.iaload, 1) := by decide +kernel
theorem dX9_checksum_113 : decode cX9_checksum 113 = .ok (.i2l, 1) := by decide +kernel
theorem dX9_checksum_114 : decode cX9_checksum 114 = .ok (.invokevirtual 291, 3) := by decide +kernel
theorem dX9_checksum_117 : decode cX9_checksum 117 = .ok (.aload_n 0, 1) := by decide +kernel
theorem dX9_checksum_118 : decode cX9_checksum 118 = .ok (.aload_n 0, 1) := by decide +kernel
theorem dX9_checksum_119 : decode cX9_checksum 119 = .ok (.getfield 40, 3) := by decide +kernel
theorem dX9_checksum_122 : decode cX9_checksum 122 = .ok (.iload_n 1, 1) := by decide +kernel
theorem dX9_checksum_123 : decode cX9_checksum 123 = .ok (.aaload, 1) := by decide +kernel
theorem dX9_checksum_124 : decode cX9_checksum 124 = .ok (.iload_n 2, 1) := by decide +kernel
theorem dX9_checksum_125 : decode cX9_checksum 125 = .ok (.iaload, 1) := by decide +kernel
theorem dX9_checksum_126 : decode cX9_checksum 126 = .ok (.i2l, 1) := by decide +kernel
theorem dX9_checksum_127 : decode cX9_checksum 127 = .ok (.invokevirtual 291, 3) := by decide +kernel
theorem dX9_checksum_130 : decode cX9_checksum 130 = .ok (.aload_n 0, 1) := by decide +kernel
theorem dX9_checksum_131 : decode cX9_checksum 131 = .ok (.aload_n 0, 1) := by decide +kernel
theorem dX9_checksum_132 : decode cX9_checksum 132 = .ok (.getfield 64, 3) := by decide +kernel
theorem dX9_checksum_135 : decode cX9_checksum 135 = .ok (.iload_n 1, 1) := by decide +kernel
theorem dX9_checksum_136 : decode cX9_checksum 136 = .ok (.aaload, 1) := by decide +kernel
theorem dX9_checksum_137 : decode cX9_checksum 137 = .ok (.iload_n 2, 1) := by decide +kernel
theorem dX9_checksum_138 : decode cX9_checksum 138 = .ok (.iaload, 1) := by decide +kernel
theorem dX9_checksum_139 : decode cX9_checksum 139 = .ok (.i2l, 1) := by decide +kernel
theorem dX9_checksum_140 : decode cX9_checksum 140 = .ok (.invokevirtual 291, 3) := by decide +kernel
theorem dX9_checksum_143 : decode cX9_checksum 143 = .ok (.iconst 0, 1) := by decide +kernel
theorem dX9_checksum_144 : decode cX9_checksum 144 = .ok (.istore_n 3, 1) := by decide +kernel
theorem dX9_checksum_145 : decode cX9_checksum 145 = .ok (.iload_n 3, 1) := by decide +kernel
theorem dX9_checksum_146 : decode cX9_checksum 146 = .ok (.iconst 3, 1) := by decide +kernel
theorem dX9_checksum_147 : decode cX9_checksum 147 = .ok (.if_icmp .ge 87, 3) := by decide +kernel
theorem dX9_checksum_150 : decode cX9_checksum 150 = .ok (.aload_n 0, 1) := by decide +kernel
theorem dX9_checksum_151 : decode cX9_checksum 151 = .ok (.getfield 72, 3) := by decide +kernel
theorem dX9_checksum_154 : decode cX9_checksum 154 = .ok (.iload_n 1, 1) := by decide +kernel
theorem dX9_checksum_155 : decode cX9_checksum 155 = .ok (.aaload, 1) := by decide +kernel
theorem dX9_checksum_156 : decode cX9_checksum 156 = .ok (.iload_n 2, 1) := by decide +kernel
theorem dX9_checksum_157 : decode cX9_checksum 157 = .ok (.aaload, 1) := by decide +kernel
theorem dX9_checksum_158 : decode cX9_checksum 158 = .ok (.iload_n 3, 1) := by decide +kernel
theorem dX9_checksum_159 : decode cX9_checksum 159 = .ok (.aaload, 1) := by decide +kernel
theorem dX9_checksum_160 : decode cX9_checksum 160 = .ok (.astore 4, 2) := by decide +kernel
theorem dX9_checksum_162 : decode cX9_checksum 162 = .ok (.aload_n 0, 1) := by decide +kernel
theorem dX9_checksum_163 : decode cX9_checksum 163 = .ok (.aload_n 0, 1) := by decide +kernel
theorem dX9_checksum_164 : decode cX9_checksum 164 = .ok (.iload_n 1, 1) := by decide +kernel
theorem dX9_checksum_165 : decode cX9_checksum 165 = .ok (.iload_n 2, 1) := by decide +kernel
theorem dX9_checksum_166 : decode cX9_checksum 166 = .ok (.iload_n 3, 1) := by decide +kernel
theorem dX9_checksum_167 : decode cX9_checksum 167 = .ok (.invokevirtual 166, 3) := by decide +kernel
theorem dX9_checksum_170 : decode cX9_checksum 170 = .ok (.ifCond .eq 11, 3) := by decide +kernel
theorem dX9_checksum_173 : decode cX9_checksum 173 = .ok (.aload 4, 2) := by decide +kernel
theorem dX9_checksum_175 : decode cX9_checksum 175 = .ok (.iconst 0, 1) := by decide +kernel
theorem dX9_checksum_176 : decode cX9_checksum 176 = .ok (.iaload, 1) := by decide +kernel
theorem dX9_checksum_177 : decode cX9_checksum 177 = .ok (.i2l, 1) := by decide +kernel
theorem dX9_checksum_178 : decode cX9_checksum 178 = .ok (.goto 6, 3) := by decide +kernel
theorem dX9_checksum_181 : decode cX9_checksum 181 = .ok (.ldc2_w 285, 3) := by decide +kernel
theorem dX9_checksum_184 : decode cX9_checksum 184 = .ok (.invokevirtual 291, 3) := by decide +kernel
theorem dX9_checksum_187 : decode cX9_checksum 187 = .ok (.aload_n 0, 1) := by decide +kernel
theorem dX9_checksum_188 : decode cX9_checksum 188 = .ok (.iload_n 1, 1) := by decide +kernel
theorem dX9_checksum_189 : decode cX9_checksum 189 = .ok (.iload_n 2, 1) := by decide +kernel
theorem dX9_checksum_190 : decode cX9_checksum 190 = .ok (.iload_n 3, 1) := by decide +kernel
theorem dX9_checksum_191 : decode cX9_checksum 191 = .ok (.invokevirtual 166, 3) := by decide +kernel
theorem dX9_checksum_194 : decode cX9_checksum 194 = .ok (.ifCond .ne 6, 3) := by decide +kernel
theorem dX9_checksum_197 : decode cX9_checksum 197 = .ok (.goto 31, 3) := by decide +kernel
theorem dX9_checksum_200 : decode cX9_checksum 200 = .ok (.aload_n 0, 1) := by decide +kernel
theorem dX9_checksum_201 : decode cX9_checksum 201 = .ok (.aload 4, 2) := by decide +kernel
theorem dX9_checksum_203 : decode cX9_checksum 203 = .ok (.iconst 3, 1) := by decide +kernel
theorem dX9_checksum_204 : decode cX9_checksum 204 = .ok (.iaload, 1) := by decide +kernel
theorem dX9_checksum_205 : decode cX9_checksum 205 = .ok (.i2l, 1) := by decide +kernel
theorem dX9_checksum_206 : decode cX9_checksum 206 = .ok (.invokevirtual 291, 3) := by decide +kernel
theorem dX9_checksum_209 : decode cX9_checksum 209 = .ok (.aload_n 0, 1) := by decide +kernel
theorem dX9_checksum_210 : decode cX9_checksum 210 = .ok (.aload 4, 2) := by decide +kernel
theorem dX9_checksum_212 : decode cX9_checksum 212 = .ok (.iconst 5, 1) := by decide +kernel
theorem dX9_checksum_213 : decode cX9_checksum 213 = .ok (.iaload, 1) := by decide +kernel
theorem dX9_checksum_214 : decode cX9_checksum 214 = .ok (.i2l, 1) := by decide +kernel
theorem dX9_checksum_215 : decode cX9_checksum 215 = .ok (.invokevirtual 291, 3) := by decide +kernel
theorem dX9_checksum_218 : decode cX9_checksum 218 = .ok (.aload_n 0, 1) := by decide +kernel
theorem dX9_checksum_219 : decode cX9_checksum 219 = .ok (.aload 4, 2) := by decide +kernel
theorem dX9_checksum_221 : decode cX9_checksum 221 = .ok (.bipush 8, 2) := by decide +kernel
theorem dX9_checksum_223 : decode cX9_checksum 223 = .ok (.iaload, 1) := by decide +kernel
theorem dX9_checksum_224 : decode cX9_checksum 224 = .ok (.i2l, 1) := by decide +kernel
theorem dX9_checksum_225 : decode cX9_checksum 225 = .ok (.invokevirtual 291, 3) := by decide +kernel
theorem dX9_checksum_228 : decode cX9_checksum 228 = .ok (.iinc 3 1, 3) := by decide +kernel
theorem dX9_checksum_231 : decode cX9_checksum 231 = .ok (.goto (-86), 3) := by decide +kernel
theorem dX9_checksum_234 : decode cX9_checksum 234 = .ok (.iinc 2 1, 3) := by decide +kernel
theorem dX9_checksum_237 : decode cX9_checksum 237 = .ok (.goto (-159), 3) := by decide +kernel
theorem dX9_checksum_240 : decode cX9_checksum 240 = .ok (.iinc 1 1, 3) := by decide +kernel
theorem dX9_checksum_243 : decode cX9_checksum 243 = .ok (.goto (-172), 3) := by decide +kernel
theorem dX9_checksum_246 : decode cX9_checksum 246 = .ok (.iconst 0, 1) := by decide +kernel
theorem dX9_checksum_247 : decode cX9_checksum 247 = .ok (.istore_n 1, 1) := by decide +kernel
theorem dX9_checksum_248 : decode cX9_checksum 248 = .ok (.iload_n 1, 1) := by decide +kernel
theorem dX9_checksum_249 : decode cX9_checksum 249 = .ok (.iconst 3, 1) := by decide +kernel
theorem dX9_checksum_250 : decode cX9_checksum 250 = .ok (.if_icmp .ge 66, 3) := by decide +kernel
theorem dX9_checksum_253 : decode cX9_checksum 253 = .ok (.aload_n 0, 1) := by decide +kernel
theorem dX9_checksum_254 : decode cX9_checksum 254 = .ok (.aload_n 0, 1) := by decide +kernel
theorem dX9_checksum_255 : decode cX9_checksum 255 = .ok (.getfield 20, 3) := by decide +kernel
theorem dX9_checksum_258 : decode cX9_checksum 258 = .ok (.iload_n 1, 1) := by decide +kernel
theorem dX9_checksum_259 : decode cX9_checksum 259 = .ok (.iaload, 1) := by decide +kernel
theorem dX9_checksum_260 : decode cX9_checksum 260 = .ok (.i2l, 1) := by decide +kernel
theorem dX9_checksum_261 : decode cX9_checksum 261 = .ok (.invokevirtual 291, 3) := by decide +kernel
theorem dX9_checksum_264 : decode cX9_checksum 264 = .ok (.aload_n 0, 1) := by decide +kernel
theorem dX9_checksum_265 : decode cX9_checksum 265 = .ok (.getfield 83, 3) := by decide +kernel
theorem dX9_checksum_268 : decode cX9_checksum 268 = .ok (.astore_n 2, 1) := by decide +kernel
theorem dX9_checksum_269 : decode cX9_checksum 269 = .ok (.aload_n 2, 1) := by decide +kernel
theorem dX9_checksum_270 : decode cX9_checksum 270 = .ok (.arraylength, 1) := by decide +kernel
theorem dX9_checksum_271 : decode cX9_checksum 271 = .ok (.istore_n 3, 1) := by decide +kernel
theorem dX9_checksum_272 : decode cX9_checksum 272 = .ok (.iconst 0, 1) := by decide +kernel
theorem dX9_checksum_273 : decode cX9_checksum 273 = .ok (.istore 4, 2) := by decide +kernel
theorem dX9_checksum_275 : decode cX9_checksum 275 = .ok (.iload 4, 2) := by decide +kernel
theorem dX9_checksum_277 : decode cX9_checksum 277 = .ok (.iload_n 3, 1) := by decide +kernel
theorem dX9_checksum_278 : decode cX9_checksum 278 = .ok (.if_icmp .ge 32, 3) := by decide +kernel
theorem dX9_checksum_281 : decode cX9_checksum 281 = .ok (.aload_n 2, 1) := by decide +kernel
theorem dX9_checksum_282 : decode cX9_checksum 282 = .ok (.iload 4, 2) := by decide +kernel
theorem dX9_checksum_284 : decode cX9_checksum 284 = .ok (.aaload, 1) := by decide +kernel
theorem dX9_checksum_285 : decode cX9_checksum 285 = .ok (.astore 5, 2) := by decide +kernel
theorem dX9_checksum_287 : decode cX9_checksum 287 = .ok (.aload 5, 2) := by decide +kernel
theorem dX9_checksum_289 : decode cX9_checksum 289 = .ok (.iconst 0, 1) := by decide +kernel
theorem dX9_checksum_290 : decode cX9_checksum 290 = .ok (.iaload, 1) := by decide +kernel
theorem dX9_checksum_291 : decode cX9_checksum 291 = .ok (.iload_n 1, 1) := by decide +kernel
theorem dX9_checksum_292 : decode cX9_checksum 292 = .ok (.if_icmp .ne 12, 3) := by decide +kernel
theorem dX9_checksum_295 : decode cX9_checksum 295 = .ok (.aload_n 0, 1) := by decide +kernel
theorem dX9_checksum_296 : decode cX9_checksum 296 = .ok (.aload 5, 2) := by decide +kernel
theorem dX9_checksum_298 : decode cX9_checksum 298 = .ok (.iconst 4, 1) := by decide +kernel
theorem dX9_checksum_299 : decode cX9_checksum 299 = .ok (.iaload, 1) := by decide +kernel
theorem dX9_checksum_300 : decode cX9_checksum 300 = .ok (.i2l, 1) := by decide +kernel
theorem dX9_checksum_301 : decode cX9_checksum 301 = .ok (.invokevirtual 291, 3) := by decide +kernel
theorem dX9_checksum_304 : decode cX9_checksum 304 = .ok (.iinc 4 1, 3) := by decide +kernel
theorem dX9_checksum_307 : decode cX9_checksum 307 = .ok (.goto (-32), 3) := by decide +kernel
theorem dX9_checksum_310 : decode cX9_checksum 310 = .ok (.iinc 1 1, 3) := by decide +kernel
theorem dX9_checksum_313 : decode cX9_checksum 313 = .ok (.goto (-65), 3) := by decide +kernel
theorem dX9_checksum_316 : decode cX9_checksum 316 = .ok (.iconst 0, 1) := by decide +kernel
theorem dX9_checksum_317 : decode cX9_checksum 317 = .ok (.istore_n 1, 1) := by decide +kernel
theorem dX9_checksum_318 : decode cX9_checksum 318 = .ok (.iload_n 1, 1) := by decide +kernel
theorem dX9_checksum_319 : decode cX9_checksum 319 = .ok (.aload_n 0, 1) := by decide +kernel
theorem dX9_checksum_320 : decode cX9_checksum 320 = .ok (.getfield 95, 3) := by decide +kernel
theorem dX9_checksum_323 : decode cX9_checksum 323 = .ok (.if_icmp .ge 36, 3) := by decide +kernel
theorem dX9_checksum_326 : decode cX9_checksum 326 = .ok (.iconst 0, 1) := by decide +kernel
theorem dX9_checksum_327 : decode cX9_checksum 327 = .ok (.istore_n 2, 1) := by decide +kernel
theorem dX9_checksum_328 : decode cX9_checksum 328 = .ok (.iload_n 2, 1) := by decide +kernel
theorem dX9_checksum_329 : decode cX9_checksum 329 = .ok (.bipush 9, 2) := by decide +kernel
theorem dX9_checksum_331 : decode cX9_checksum 331 = .ok (.if_icmp .ge 22, 3) := by decide +kernel
theorem dX9_checksum_334 : decode cX9_checksum 334 = .ok (.aload_n 0, 1) := by decide +kernel
theorem dX9_checksum_335 : decode cX9_checksum 335 = .ok (.aload_n 0, 1) := by decide +kernel
theorem dX9_checksum_336 : decode cX9_checksum 336 = .ok (.getfield 80, 3) := by decide +kernel
theorem dX9_checksum_339 : decode cX9_checksum 339 = .ok (.iload_n 1, 1) := by decide +kernel
theorem dX9_checksum_340 : decode cX9_checksum 340 = .ok (.aaload, 1) := by decide +kernel
theorem dX9_checksum_341 : decode cX9_checksum 341 = .ok (.iload_n 2, 1) := by decide +kernel
theorem dX9_checksum_342 : decode cX9_checksum 342 = .ok (.iaload, 1) := by decide +kernel
theorem dX9_checksum_343 : decode cX9_checksum 343 = .ok (.i2l, 1) := by decide +kernel
theorem dX9_checksum_344 : decode cX9_checksum 344 = .ok (.invokevirtual 291, 3) := by decide +kernel
theorem dX9_checksum_347 : decode cX9_checksum 347 = .ok (.iinc 2 1, 3) := by decide +kernel
theorem dX9_checksum_350 : decode cX9_checksum 350 = .ok (.goto (-22), 3) := by decide +kernel
theorem dX9_checksum_353 : decode cX9_checksum 353 = .ok (.iinc 1 1, 3) := by decide +kernel
theorem dX9_checksum_356 : decode cX9_checksum 356 = .ok (.goto (-38), 3) := by decide +kernel
theorem dX9_checksum_359 : decode cX9_checksum 359 = .ok (.aload_n 0, 1) := by decide +kernel
theorem dX9_checksum_360 : decode cX9_checksum 360 = .ok (.getfield 23, 3) := by decide +kernel
theorem dX9_checksum_363 : decode cX9_checksum 363 = .ok (.astore_n 1, 1) := by decide +kernel
theorem dX9_checksum_364 : decode cX9_checksum 364 = .ok (.aload_n 1, 1) := by decide +kernel
theorem dX9_checksum_365 : decode cX9_checksum 365 = .ok (.arraylength, 1) := by decide +kernel
theorem dX9_checksum_366 : decode cX9_checksum 366 = .ok (.istore_n 2, 1) := by decide +kernel
theorem dX9_checksum_367 : decode cX9_checksum 367 = .ok (.iconst 0, 1) := by decide +kernel
theorem dX9_checksum_368 : decode cX9_checksum 368 = .ok (.istore_n 3, 1) := by decide +kernel
theorem dX9_checksum_369 : decode cX9_checksum 369 = .ok (.iload_n 3, 1) := by decide +kernel
theorem dX9_checksum_370 : decode cX9_checksum 370 = .ok (.iload_n 2, 1) := by decide +kernel
theorem dX9_checksum_371 : decode cX9_checksum 371 = .ok (.if_icmp .ge 21, 3) := by decide +kernel
theorem dX9_checksum_374 : decode cX9_checksum 374 = .ok (.aload_n 1, 1) := by decide +kernel
theorem dX9_checksum_375 : decode cX9_checksum 375 = .ok (.iload_n 3, 1) := by decide +kernel
theorem dX9_checksum_376 : decode cX9_checksum 376 = .ok (.iaload, 1) := by decide +kernel
theorem dX9_checksum_377 : decode cX9_checksum 377 = .ok (.istore 4, 2) := by decide +kernel
theorem dX9_checksum_379 : decode cX9_checksum 379 = .ok (.aload_n 0, 1) := by decide +kernel
theorem dX9_checksum_380 : decode cX9_checksum 380 = .ok (.iload 4, 2) := by decide +kernel
theorem dX9_checksum_382 : decode cX9_checksum 382 = .ok (.i2l, 1) := by decide +kernel
theorem dX9_checksum_383 : decode cX9_checksum 383 = .ok (.invokevirtual 291, 3) := by decide +kernel
theorem dX9_checksum_386 : decode cX9_checksum 386 = .ok (.iinc 3 1, 3) := by decide +kernel
theorem dX9_checksum_389 : decode cX9_checksum 389 = .ok (.goto (-20), 3) := by decide +kernel
theorem dX9_checksum_392 : decode cX9_checksum 392 = .ok (.aload_n 0, 1) := by decide +kernel
theorem dX9_checksum_393 : decode cX9_checksum 393 = .ok (.getfield 287, 3) := by decide +kernel
theorem dX9_checksum_396 : decode cX9_checksum 396 = .ok (.lreturn, 1) := by decide +kernel
theorem dJ13_bitCount_95d88_0 : decode cJ13_bitCount_95d88 0 = .ok (.lload_n 0, 1) := by decide +kernel
theorem dJ13_bitCount_95d88_1 : decode cJ13_bitCount_95d88 1 = .ok (.lload_n 0, 1) := by decide +kernel
theorem dJ13_bitCount_95d88_2 : decode cJ13_bitCount_95d88 2 = .ok (.iconst 1, 1) := by decide +kernel
theorem dJ13_bitCount_95d88_3 : decode cJ13_bitCount_95d88 3 = .ok (.lushr, 1) := by decide +kernel
theorem dJ13_bitCount_95d88_4 : decode cJ13_bitCount_95d88 4 = .ok (.ldc2_w 314, 3) := by decide +kernel
theorem dJ13_bitCount_95d88_7 : decode cJ13_bitCount_95d88 7 = .ok (.land, 1) := by decide +kernel
theorem dJ13_bitCount_95d88_8 : decode cJ13_bitCount_95d88 8 = .ok (.lsub, 1) := by decide +kernel
theorem dJ13_bitCount_95d88_9 : decode cJ13_bitCount_95d88 9 = .ok (.lstore_n 0, 1) := by decide +kernel
theorem dJ13_bitCount_95d88_10 : decode cJ13_bitCount_95d88 10 = .ok (.lload_n 0, 1) := by decide +kernel
theorem dJ13_bitCount_95d88_11 : decode cJ13_bitCount_95d88 11 = .ok (.ldc2_w 316, 3) := by decide +kernel
theorem dJ13_bitCount_95d88_14 : decode cJ13_bitCount_95d88 14 = .ok (.land, 1) := by decide +kernel
theorem dJ13_bitCount_95d88_15 : decode cJ13_bitCount_95d88 15 = .ok (.lload_n 0, 1) := by decide +kernel
theorem dJ13_bitCount_95d88_16 : decode cJ13_bitCount_95d88 16 = .ok (.iconst 2, 1) := by decide +kernel
theorem dJ13_bitCount_95d88_17 : decode cJ13_bitCount_95d88 17 = .ok (.lushr, 1) := by decide +kernel
theorem dJ13_bitCount_95d88_18 : decode cJ13_bitCount_95d88 18 = .ok (.ldc2_w 316, 3) := by decide +kernel
theorem dJ13_bitCount_95d88_21 : decode cJ13_bitCount_95d88 21 = .ok (.land, 1) := by decide +kernel
theorem dJ13_bitCount_95d88_22 : decode cJ13_bitCount_95d88 22 = .ok (.ladd, 1) := by decide +kernel
theorem dJ13_bitCount_95d88_23 : decode cJ13_bitCount_95d88 23 = .ok (.lstore_n 0, 1) := by decide +kernel
theorem dJ13_bitCount_95d88_24 : decode cJ13_bitCount_95d88 24 = .ok (.lload_n 0, 1) := by decide +kernel
theorem dJ13_bitCount_95d88_25 : decode cJ13_bitCount_95d88 25 = .ok (.lload_n 0, 1) := by decide +kernel
theorem dJ13_bitCount_95d88_26 : decode cJ13_bitCount_95d88 26 = .ok (.iconst 4, 1) := by decide +kernel
theorem dJ13_bitCount_95d88_27 : decode cJ13_bitCount_95d88 27 = .ok (.lushr, 1) := by decide +kernel
theorem dJ13_bitCount_95d88_28 : decode cJ13_bitCount_95d88 28 = .ok (.ladd, 1) := by decide +kernel
theorem dJ13_bitCount_95d88_29 : decode cJ13_bitCount_95d88 29 = .ok (.ldc2_w 318, 3) := by decide +kernel
theorem dJ13_bitCount_95d88_32 : decode cJ13_bitCount_95d88 32 = .ok (.land, 1) := by decide +kernel
theorem dJ13_bitCount_95d88_33 : decode cJ13_bitCount_95d88 33 = .ok (.lstore_n 0, 1) := by decide +kernel
theorem dJ13_bitCount_95d88_34 : decode cJ13_bitCount_95d88 34 = .ok (.lload_n 0, 1) := by decide +kernel
theorem dJ13_bitCount_95d88_35 : decode cJ13_bitCount_95d88 35 = .ok (.lload_n 0, 1) := by decide +kernel
theorem dJ13_bitCount_95d88_36 : decode cJ13_bitCount_95d88 36 = .ok (.bipush 8, 2) := by decide +kernel
theorem dJ13_bitCount_95d88_38 : decode cJ13_bitCount_95d88 38 = .ok (.lushr, 1) := by decide +kernel
theorem dJ13_bitCount_95d88_39 : decode cJ13_bitCount_95d88 39 = .ok (.ladd, 1) := by decide +kernel
theorem dJ13_bitCount_95d88_40 : decode cJ13_bitCount_95d88 40 = .ok (.lstore_n 0, 1) := by decide +kernel
theorem dJ13_bitCount_95d88_41 : decode cJ13_bitCount_95d88 41 = .ok (.lload_n 0, 1) := by decide +kernel
theorem dJ13_bitCount_95d88_42 : decode cJ13_bitCount_95d88 42 = .ok (.lload_n 0, 1) := by decide +kernel
theorem dJ13_bitCount_95d88_43 : decode cJ13_bitCount_95d88 43 = .ok (.bipush 16, 2) := by decide +kernel
theorem dJ13_bitCount_95d88_45 : decode cJ13_bitCount_95d88 45 = .ok (.lushr, 1) := by decide +kernel
theorem dJ13_bitCount_95d88_46 : decode cJ13_bitCount_95d88 46 = .ok (.ladd, 1) := by decide +kernel
theorem dJ13_bitCount_95d88_47 : decode cJ13_bitCount_95d88 47 = .ok (.lstore_n 0, 1) := by decide +kernel
theorem dJ13_bitCount_95d88_48 : decode cJ13_bitCount_95d88 48 = .ok (.lload_n 0, 1) := by decide +kernel
theorem dJ13_bitCount_95d88_49 : decode cJ13_bitCount_95d88 49 = .ok (.lload_n 0, 1) := by decide +kernel
theorem dJ13_bitCount_95d88_50 : decode cJ13_bitCount_95d88 50 = .ok (.bipush 32, 2) := by decide +kernel
theorem dJ13_bitCount_95d88_52 : decode cJ13_bitCount_95d88 52 = .ok (.lushr, 1) := by decide +kernel
theorem dJ13_bitCount_95d88_53 : decode cJ13_bitCount_95d88 53 = .ok (.ladd, 1) := by decide +kernel
theorem dJ13_bitCount_95d88_54 : decode cJ13_bitCount_95d88 54 = .ok (.lstore_n 0, 1) := by decide +kernel
theorem dJ13_bitCount_95d88_55 : decode cJ13_bitCount_95d88 55 = .ok (.lload_n 0, 1) := by decide +kernel
theorem dJ13_bitCount_95d88_56 : decode cJ13_bitCount_95d88 56 = .ok (.l2i, 1) := by decide +kernel
theorem dJ13_bitCount_95d88_57 : decode cJ13_bitCount_95d88 57 = .ok (.bipush 127, 2) := by decide +kernel
theorem dJ13_bitCount_95d88_59 : decode cJ13_bitCount_95d88 59 = .ok (.iand, 1) := by decide +kernel
theorem dJ13_bitCount_95d88_60 : decode cJ13_bitCount_95d88 60 = .ok (.ireturn, 1) := by decide +kernel
theorem dJ9_floorMod_f86c9_0 : decode cJ9_floorMod_f86c9 0 = .ok (.lload_n 0, 1) := by decide +kernel
theorem dJ9_floorMod_f86c9_1 : decode cJ9_floorMod_f86c9 1 = .ok (.lload_n 2, 1) := by decide +kernel
theorem dJ9_floorMod_f86c9_2 : decode cJ9_floorMod_f86c9 2 = .ok (.lrem, 1) := by decide +kernel
theorem dJ9_floorMod_f86c9_3 : decode cJ9_floorMod_f86c9 3 = .ok (.lstore 4, 2) := by decide +kernel
theorem dJ9_floorMod_f86c9_5 : decode cJ9_floorMod_f86c9 5 = .ok (.lload_n 0, 1) := by decide +kernel
theorem dJ9_floorMod_f86c9_6 : decode cJ9_floorMod_f86c9 6 = .ok (.lload_n 2, 1) := by decide +kernel
theorem dJ9_floorMod_f86c9_7 : decode cJ9_floorMod_f86c9 7 = .ok (.lxor, 1) := by decide +kernel
theorem dJ9_floorMod_f86c9_8 : decode cJ9_floorMod_f86c9 8 = .ok (.lconst 0, 1) := by decide +kernel
theorem dJ9_floorMod_f86c9_9 : decode cJ9_floorMod_f86c9 9 = .ok (.lcmp, 1) := by decide +kernel
theorem dJ9_floorMod_f86c9_10 : decode cJ9_floorMod_f86c9 10 = .ok (.ifCond .ge 15, 3) := by decide +kernel
theorem dJ9_floorMod_f86c9_13 : decode cJ9_floorMod_f86c9 13 = .ok (.lload 4, 2) := by decide +kernel
theorem dJ9_floorMod_f86c9_15 : decode cJ9_floorMod_f86c9 15 = .ok (.lconst 0, 1) := by decide +kernel
theorem dJ9_floorMod_f86c9_16 : decode cJ9_floorMod_f86c9 16 = .ok (.lcmp, 1) := by decide +kernel
theorem dJ9_floorMod_f86c9_17 : decode cJ9_floorMod_f86c9 17 = .ok (.ifCond .eq 8, 3) := by decide +kernel
theorem dJ9_floorMod_f86c9_20 : decode cJ9_floorMod_f86c9 20 = .ok (.lload 4, 2) := by decide +kernel
theorem dJ9_floorMod_f86c9_22 : decode cJ9_floorMod_f86c9 22 = .ok (.lload_n 2, 1) := by decide +kernel
theorem dJ9_floorMod_f86c9_23 : decode cJ9_floorMod_f86c9 23 = .ok (.ladd, 1) := by decide +kernel
theorem dJ9_floorMod_f86c9_24 : decode cJ9_floorMod_f86c9 24 = .ok (.lreturn, 1) := by decide +kernel
theorem dJ9_floorMod_f86c9_25 : decode cJ9_floorMod_f86c9 25 = .ok (.lload 4, 2) := by decide +kernel
theorem dJ9_floorMod_f86c9_27 : decode cJ9_floorMod_f86c9 27 = .ok (.lreturn, 1) := by decide +kernel
theorem dJ9_max_7cf53_0 : decode cJ9_max_7cf53 0 = .ok (.iload_n 0, 1) := by decide +kernel
theorem dJ9_max_7cf53_1 : decode cJ9_max_7cf53 1 = .ok (.iload_n 1, 1) := by decide +kernel
theorem dJ9_max_7cf53_2 : decode cJ9_max_7cf53 2 = .ok (.if_icmp .lt 7, 3) := by decide +kernel
theorem dJ9_max_7cf53_5 : decode cJ9_max_7cf53 5 = .ok (.iload_n 0, 1) := by decide +kernel
theorem dJ9_max_7cf53_6 : decode cJ9_max_7cf53 6 = .ok (.goto 4, 3) := by decide +kernel
theorem dJ9_max_7cf53_9 : decode cJ9_max_7cf53 9 = .ok (.iload_n 1, 1) := by decide +kernel
theorem dJ9_max_7cf53_10 : decode cJ9_max_7cf53 10 = .ok (.ireturn, 1) := by decide +kernel
theorem dJ9_min_7cf53_0 : decode cJ9_min_7cf53 0 = .ok (.iload_n 0, 1) := by decide +kernel
theorem dJ9_min_7cf53_1 : decode cJ9_min_7cf53 1 = .ok (.iload_n 1, 1) := by decide +kernel
theorem dJ9_min_7cf53_2 : decode cJ9_min_7cf53 2 = .ok (.if_icmp .gt 7, 3) := by decide +kernel
theorem dJ9_min_7cf53_5 : decode cJ9_min_7cf53 5 = .ok (.iload_n 0, 1) := by decide +kernel
theorem dJ9_min_7cf53_6 : decode cJ9_min_7cf53 6 = .ok (.goto 4, 3) := by decide +kernel
theorem dJ9_min_7cf53_9 : decode cJ9_min_7cf53 9 = .ok (.iload_n 1, 1) := by decide +kernel
theorem dJ9_min_7cf53_10 : decode cJ9_min_7cf53 10 = .ok (.ireturn, 1) := by decide +kernel
theorem dJxa1e45_init_da8c8_0 : decode cJxa1e45_init_da8c8 0 = .ok (.aload_n 0, 1) := by decide +kernel
theorem dJxa1e45_init_da8c8_1 : decode cJxa1e45_init_da8c8 1 = .ok (.invokespecial 1, 3) := by decide +kernel
theorem dJxa1e45_init_da8c8_4 : decode cJxa1e45_init_da8c8 4 = .ok (.return_, 1) := by decide +kernel
theorem dJxc12de_init_da8c8_0 : decode cJxc12de_init_da8c8 0 = .ok (.aload_n 0, 1) := by decide +kernel
theorem dJxc12de_init_da8c8_1 : decode cJxc12de_init_da8c8 1 = .ok (.invokespecial 1, 3) := by decide +kernel
theorem dJxc12de_init_da8c8_4 : decode cJxc12de_init_da8c8 4 = .ok (.aload_n 0, 1) := by decide +kernel
theorem dJxc12de_init_da8c8_5 : decode cJxc12de_init_da8c8 5 = .ok (.iconst 0, 1) := by decide +kernel
theorem dJxc12de_init_da8c8_6 : decode cJxc12de_init_da8c8 6 = .ok (.putfield 7, 3) := by decide +kernel
theorem dJxc12de_init_da8c8_9 : decode cJxc12de_init_da8c8 9 = .ok (.return_, 1) := by decide +kernel
theorem dJx4a65c_init_da8c8_0 : decode cJx4a65c_init_da8c8 0 = .ok (.aload_n 0, 1) := by decide +kernel
theorem dJx4a65c_init_da8c8_1 : decode cJx4a65c_init_da8c8 1 = .ok (.invokespecial 1, 3) := by decide +kernel
theorem dJx4a65c_init_da8c8_4 : decode cJx4a65c_init_da8c8 4 = .ok (.aload_n 0, 1) := by decide +kernel
theorem dJx4a65c_init_da8c8_5 : decode cJx4a65c_init_da8c8 5 = .ok (.getstatic 39, 3) := by decide +kernel
theorem dJx4a65c_init_da8c8_8 : decode cJx4a65c_init_da8c8 8 = .ok (.putfield 9, 3) := by decide +kernel
theorem dJx4a65c_init_da8c8_11 : decode cJx4a65c_init_da8c8 11 = .ok (.return_, 1) := by decide +kernel
theorem dJx4a65c_grow_92f84_0 : decode cJx4a65c_grow_92f84 0 = .ok (.aload_n 0, 1) := by decide +kernel
theorem dJx4a65c_grow_92f84_1 : decode cJx4a65c_grow_92f84 1 = .ok (.getfield 9, 3) := by decide +kernel
theorem dJx4a65c_grow_92f84_4 : decode cJx4a65c_grow_92f84 4 = .ok (.arraylength, 1) := by decide +kernel
theorem dJx4a65c_grow_92f84_5 : decode cJx4a65c_grow_92f84 5 = .ok (.istore_n 2, 1) := by decide +kernel
theorem dJx4a65c_grow_92f84_6 : decode cJx4a65c_grow_92f84 6 = .ok (.iload_n 2, 1) := by decide +kernel
theorem dJx4a65c_grow_92f84_7 : decode cJx4a65c_grow_92f84 7 = .ok (.ifCond .gt 13, 3) := by decide +kernel
theorem dJx4a65c_grow_92f84_10 : decode cJx4a65c_grow_92f84 10 = .ok (.aload_n 0, 1) := by decide +kernel
theorem dJx4a65c_grow_92f84_11 : decode cJx4a65c_grow_92f84 11 = .ok (.getfield 9, 3) := by decide +kernel
theorem dJx4a65c_grow_92f84_14 : decode cJx4a65c_grow_92f84 14 = .ok (.getstatic 39, 3) := by decide +kernel
theorem dJx4a65c_grow_92f84_17 : decode cJx4a65c_grow_92f84 17 = .ok (.if_acmp .eq 28, 3) := by decide +kernel
theorem dJx4a65c_grow_92f84_20 : decode cJx4a65c_grow_92f84 20 = .ok (.iload_n 2, 1) := by decide +kernel
theorem dJx4a65c_grow_92f84_21 : decode cJx4a65c_grow_92f84 21 = .ok (.iload_n 1, 1) := by decide +kernel
theorem dJx4a65c_grow_92f84_22 : decode cJx4a65c_grow_92f84 22 = .ok (.iload_n 2, 1) := by decide +kernel
theorem dJx4a65c_grow_92f84_23 : decode cJx4a65c_grow_92f84 23 = .ok (.isub, 1) := by decide +kernel
theorem dJx4a65c_grow_92f84_24 : decode cJx4a65c_grow_92f84 24 = .ok (.iload_n 2, 1) := by decide +kernel
theorem dJx4a65c_grow_92f84_25 : decode cJx4a65c_grow_92f84 25 = .ok (.iconst 1, 1) := by decide +kernel
theorem dJx4a65c_grow_92f84_26 : decode cJx4a65c_grow_92f84 26 = .ok (.ishr, 1) := by decide +kernel
theorem dJx4a65c_grow_92f84_27 : decode cJx4a65c_grow_92f84 27 = .ok (.invokestatic 73, 3) := by decide +kernel
theorem dJx4a65c_grow_92f84_30 : decode cJx4a65c_grow_92f84 30 = .ok (.istore_n 3, 1) := by decide +kernel
theorem dJx4a65c_grow_92f84_31 : decode cJx4a65c_grow_92f84 31 = .ok (.aload_n 0, 1) := by decide +kernel
theorem dJx4a65c_grow_92f84_32 : decode cJx4a65c_grow_92f84 32 = .ok (.aload_n 0, 1) := by decide +kernel
theorem dJx4a65c_grow_92f84_33 : decode cJx4a65c_grow_92f84 33 = .ok (.getfield 9, 3) := by decide +kernel
theorem dJx4a65c_grow_92f84_36 : decode cJx4a65c_grow_92f84 36 = .ok (.iload_n 3, 1) := by decide +kernel
theorem dJx4a65c_grow_92f84_37 : decode cJx4a65c_grow_92f84 37 = .ok (.invokestatic 66, 3) := by decide +kernel
theorem dJx4a65c_grow_92f84_40 : decode cJx4a65c_grow_92f84 40 = .ok (.dup_x1, 1) := by decide +kernel
theorem dJx4a65c_grow_92f84_41 : decode cJx4a65c_grow_92f84 41 = .ok (.putfield 9, 3) := by decide +kernel
theorem dJx4a65c_grow_92f84_44 : decode cJx4a65c_grow_92f84 44 = .ok (.areturn, 1) := by decide +kernel
theorem dJx4a65c_grow_92f84_45 : decode cJx4a65c_grow_92f84 45 = .ok (.aload_n 0, 1) := by decide +kernel
theorem dJx4a65c_grow_92f84_46 : decode cJx4a65c_grow_92f84 46 = .ok (.bipush 10, 2) := by decide +kernel
theorem dJx4a65c_grow_92f84_48 : decode cJx4a65c_grow_92f84 48 = .ok (.iload_n 1, 1) := by decide +kernel
theorem dJx4a65c_grow_92f84_49 : decode cJx4a65c_grow_92f84 49 = .ok (.invokestatic 79, 3) := by decide +kernel
theorem dJx4a65c_grow_92f84_52 : decode cJx4a65c_grow_92f84 52 = .ok (.anewarray 7, 3) := by decide +kernel
theorem dJx4a65c_grow_92f84_55 : decode cJx4a65c_grow_92f84 55 = .ok (.dup_x1, 1) := by decide +kernel
theorem dJx4a65c_grow_92f84_56 : decode cJx4a65c_grow_92f84 56 = .ok (.putfield 9, 3) := by decide +kernel
theorem dJx4a65c_grow_92f84_59 : decode cJx4a65c_grow_92f84 59 = .ok (.areturn, 1) := by decide +kernel
theorem dJx4a65c_grow_d5877_0 : decode cJx4a65c_grow_d5877 0 = .ok (.aload_n 0, 1) := by decide +kernel
theorem dJx4a65c_grow_d5877_1 : decode cJx4a65c_grow_d5877 1 = .ok (.aload_n 0, 1) := by decide +kernel
theorem dJx4a65c_grow_d5877_2 : decode cJx4a65c_grow_d5877 2 = .ok (.getfield 48, 3) := by decide +kernel
theorem dJx4a65c_grow_d5877_5 : decode cJx4a65c_grow_d5877 5 = .ok (.iconst 1, 1) := by decide +kernel
theorem dJx4a65c_grow_d5877_6 : decode cJx4a65c_grow_d5877 6 = .ok (.iadd, 1) := by decide +kernel
theorem dJx4a65c_grow_d5877_7 : decode cJx4a65c_grow_d5877 7 = .ok (.invokevirtual 69, 3) := by decide +kernel
theorem dJx4a65c_grow_d5877_10 : decode cJx4a65c_grow_d5877 10 = .ok (.areturn, 1) := by decide +kernel
theorem dJx4a65c_size_8abf5_0 : decode cJx4a65c_size_8abf5 0 = .ok (.aload_n 0, 1) := by decide +kernel
theorem dJx4a65c_size_8abf5_1 : decode cJx4a65c_size_8abf5 1 = .ok (.getfield 48, 3) := by decide +kernel
theorem dJx4a65c_size_8abf5_4 : decode cJx4a65c_size_8abf5 4 = .ok (.ireturn, 1) := by decide +kernel
theorem dJx4a65c_isEmpty_aae02_0 : decode cJx4a65c_isEmpty_aae02 0 = .ok (.aload_n 0, 1) := by decide +kernel
theorem dJx4a65c_isEmpty_aae02_1 : decode cJx4a65c_isEmpty_aae02 1 = .ok (.getfield 48, 3) := by decide +kernel
theorem dJx4a65c_isEmpty_aae02_4 : decode cJx4a65c_isEmpty_aae02 4 = .ok (.ifCond .ne 7, 3) := by decide +kernel
theorem dJx4a65c_isEmpty_aae02_7 : decode cJx4a65c_isEmpty_aae02 7 = .ok (.iconst 1, 1) := by decide +kernel
theorem dJx4a65c_isEmpty_aae02_8 : decode cJx4a65c_isEmpty_aae02 8 = .ok (.goto 4, 3) := by decide +kernel
theorem dJx4a65c_isEmpty_aae02_11 : decode cJx4a65c_isEmpty_aae02 11 = .ok (.iconst 0, 1) := by decide +kernel
theorem dJx4a65c_isEmpty_aae02_12 : decode cJx4a65c_isEmpty_aae02 12 = .ok (.ireturn, 1) := by decide +kernel
theorem dJx4a65c_elementData_915e3_0 : decode cJx4a65c_elementData_915e3 0 = .ok (.aload_n 0, 1) := by decide +kernel
theorem dJx4a65c_elementData_915e3_1 : decode cJx4a65c_elementData_915e3 1 = .ok (.getfield 9, 3) := by decide +kernel
theorem dJx4a65c_elementData_915e3_4 : decode cJx4a65c_elementData_915e3 4 = .ok (.iload_n 1, 1) := by decide +kernel
theorem dJx4a65c_elementData_915e3_5 : decode cJx4a65c_elementData_915e3 5 = .ok (.aaload, 1) := by decide +kernel
theorem dJx4a65c_elementData_915e3_6 : decode cJx4a65c_elementData_915e3 6 = .ok (.areturn, 1) := by decide +kernel
theorem dJx4a65c_get_915e3_0 : decode cJx4a65c_get_915e3 0 = .ok (.iload_n 1, 1) := by decide +kernel
theorem dJx4a65c_get_915e3_1 : decode cJx4a65c_get_915e3 1 = .ok (.aload_n 0, 1) := by decide +kernel
theorem dJx4a65c_get_915e3_2 : decode cJx4a65c_get_915e3 2 = .ok (.getfield 48, 3) := by decide +kernel
theorem dJx4a65c_get_915e3_5 : decode cJx4a65c_get_915e3 5 = .ok (.invokestatic 118, 3) := by decide +kernel
theorem dJx4a65c_get_915e3_8 : decode cJx4a65c_get_915e3 8 = .ok (.pop, 1) := by decide +kernel
theorem dJx4a65c_get_915e3_9 : decode cJx4a65c_get_915e3 9 = .ok (.aload_n 0, 1) := by decide +kernel
theorem dJx4a65c_get_915e3_10 : decode cJx4a65c_get_915e3 10 = .ok (.iload_n 1, 1) := by decide +kernel
theorem dJx4a65c_get_915e3_11 : decode cJx4a65c_get_915e3 11 = .ok (.invokevirtual 123, 3) := by decide +kernel
theorem dJx4a65c_get_915e3_14 : decode cJx4a65c_get_915e3 14 = .ok (.areturn, 1) := by decide +kernel
theorem dJx4a65c_add_72be8_0 : decode cJx4a65c_add_72be8 0 = .ok (.iload_n 3, 1) := by decide +kernel
theorem dJx4a65c_add_72be8_1 : decode cJx4a65c_add_72be8 1 = .ok (.aload_n 2, 1) := by decide +kernel
theorem dJx4a65c_add_72be8_2 : decode cJx4a65c_add_72be8 2 = .ok (.arraylength, 1) := by decide +kernel
theorem dJx4a65c_add_72be8_3 : decode cJx4a65c_add_72be8 3 = .ok (.if_icmp .ne 8, 3) := by decide +kernel
theorem dJx4a65c_add_72be8_6 : decode cJx4a65c_add_72be8 6 = .ok (.aload_n 0, 1) := by decide +kernel
theorem dJx4a65c_add_72be8_7 : decode cJx4a65c_add_72be8 7 = .ok (.invokevirtual 129, 3) := by decide +kernel
theorem dJx4a65c_add_72be8_10 : decode cJx4a65c_add_72be8 10 = .ok (.astore_n 2, 1) := by decide +kernel
theorem dJx4a65c_add_72be8_11 : decode cJx4a65c_add_72be8 11 = .ok (.aload_n 2, 1) := by decide +kernel
theorem dJx4a65c_add_72be8_12 : decode cJx4a65c_add_72be8 12 = .ok (.iload_n 3, 1) := by decide +kernel
theorem dJx4a65c_add_72be8_13 : decode cJx4a65c_add_72be8 13 = .ok (.aload_n 1, 1) := by decide +kernel
theorem dJx4a65c_add_72be8_14 : decode cJx4a65c_add_72be8 14 = .ok (.aastore, 1) := by decide +kernel
theorem dJx4a65c_add_72be8_15 : decode cJx4a65c_add_72be8 15 = .ok (.aload_n 0, 1) := by decide +kernel
theorem dJx4a65c_add_72be8_16 : decode cJx4a65c_add_72be8 16 = .ok (.iload_n 3, 1) := by decide +kernel
theorem dJx4a65c_add_72be8_17 : decode cJx4a65c_add_72be8 17 = .ok (.iconst 1, 1) := by decide +kernel
theorem dJx4a65c_add_72be8_18 : decode cJx4a65c_add_72be8 18 = .ok (.iadd, 1) := by decide +kernel
theorem dJx4a65c_add_72be8_19 : decode cJx4a65c_add_72be8 19 = .ok (.putfield 48, 3) := by decide +kernel
theorem dJx4a65c_add_72be8_22 : decode cJx4a65c_add_72be8 22 = .ok (.return_, 1) := by decide +kernel
theorem dJx4a65c_add_9ea2d_0 : decode cJx4a65c_add_9ea2d 0 = .ok (.aload_n 0, 1) := by decide +kernel
theorem dJx4a65c_add_9ea2d_1 : decode cJx4a65c_add_9ea2d 1 = .ok (.dup, 1) := by decide +kernel
theorem dJx4a65c_add_9ea2d_2 : decode cJx4a65c_add_9ea2d 2 = .ok (.getfield 63, 3) := by decide +kernel
theorem dJx4a65c_add_9ea2d_5 : decode cJx4a65c_add_9ea2d 5 = .ok (.iconst 1, 1) := by decide +kernel
theorem dJx4a65c_add_9ea2d_6 : decode cJx4a65c_add_9ea2d 6 = .ok (.iadd, 1) := by decide +kernel
theorem dJx4a65c_add_9ea2d_7 : decode cJx4a65c_add_9ea2d 7 = .ok (.putfield 63, 3) := by decide +kernel
theorem dJx4a65c_add_9ea2d_10 : decode cJx4a65c_add_9ea2d 10 = .ok (.aload_n 0, 1) := by decide +kernel
theorem dJx4a65c_add_9ea2d_11 : decode cJx4a65c_add_9ea2d 11 = .ok (.aload_n 1, 1) := by decide +kernel
theorem dJx4a65c_add_9ea2d_12 : decode cJx4a65c_add_9ea2d 12 = .ok (.aload_n 0, 1) := by decide +kernel
theorem dJx4a65c_add_9ea2d_13 : decode cJx4a65c_add_9ea2d 13 = .ok (.getfield 9, 3) := by decide +kernel
theorem dJx4a65c_add_9ea2d_16 : decode cJx4a65c_add_9ea2d 16 = .ok (.aload_n 0, 1) := by decide +kernel
theorem dJx4a65c_add_9ea2d_17 : decode cJx4a65c_add_9ea2d 17 = .ok (.getfield 48, 3) := by decide +kernel
theorem dJx4a65c_add_9ea2d_20 : decode cJx4a65c_add_9ea2d 20 = .ok (.invokevirtual 131, 3) := by decide +kernel
theorem dJx4a65c_add_9ea2d_23 : decode cJx4a65c_add_9ea2d 23 = .ok (.iconst 1, 1) := by decide +kernel
theorem dJx4a65c_add_9ea2d_24 : decode cJx4a65c_add_9ea2d 24 = .ok (.ireturn, 1) := by decide +kernel
theorem dJx4a65c_remove_915e3_0 : decode cJx4a65c_remove_915e3 0 = .ok (.iload_n 1, 1) := by decide +kernel
theorem dJx4a65c_remove_915e3_1 : decode cJx4a65c_remove_915e3 1 = .ok (.aload_n 0, 1) := by decide +kernel
theorem dJx4a65c_remove_915e3_2 : decode cJx4a65c_remove_915e3 2 = .ok (.getfield 48, 3) := by decide +kernel
theorem dJx4a65c_remove_915e3_5 : decode cJx4a65c_remove_915e3 5 = .ok (.invokestatic 118, 3) := by decide +kernel
theorem dJx4a65c_remove_915e3_8 : decode cJx4a65c_remove_915e3 8 = .ok (.pop, 1) := by decide +kernel
theorem dJx4a65c_remove_915e3_9 : decode cJx4a65c_remove_915e3 9 = .ok (.aload_n 0, 1) := by decide +kernel
theorem dJx4a65c_remove_915e3_10 : decode cJx4a65c_remove_915e3 10 = .ok (.getfield 9, 3) := by decide +kernel
theorem dJx4a65c_remove_915e3_13 : decode cJx4a65c_remove_915e3 13 = .ok (.astore_n 2, 1) := by decide +kernel
theorem dJx4a65c_remove_915e3_14 : decode cJx4a65c_remove_915e3 14 = .ok (.aload_n 2, 1) := by decide +kernel
theorem dJx4a65c_remove_915e3_15 : decode cJx4a65c_remove_915e3 15 = .ok (.iload_n 1, 1) := by decide +kernel
theorem dJx4a65c_remove_915e3_16 : decode cJx4a65c_remove_915e3 16 = .ok (.aaload, 1) := by decide +kernel
theorem dJx4a65c_remove_915e3_17 : decode cJx4a65c_remove_915e3 17 = .ok (.astore_n 3, 1) := by decide +kernel
theorem dJx4a65c_remove_915e3_18 : decode cJx4a65c_remove_915e3 18 = .ok (.aload_n 0, 1) := by decide +kernel
theorem dJx4a65c_remove_915e3_19 : decode cJx4a65c_remove_915e3 19 = .ok (.aload_n 2, 1) := by decide +kernel
theorem dJx4a65c_remove_915e3_20 : decode cJx4a65c_remove_915e3 20 = .ok (.iload_n 1, 1) := by decide +kernel
theorem dJx4a65c_remove_915e3_21 : decode cJx4a65c_remove_915e3 21 = .ok (.invokevirtual 144, 3) := by decide +kernel
theorem dJx4a65c_remove_915e3_24 : decode cJx4a65c_remove_915e3 24 = .ok (.aload_n 3, 1) := by decide +kernel
theorem dJx4a65c_remove_915e3_25 : decode cJx4a65c_remove_915e3 25 = .ok (.areturn, 1) := by decide +kernel
theorem dJx4a65c_fastRemove_b59b0_0 : decode cJx4a65c_fastRemove_b59b0 0 = .ok (.aload_n 0, 1) := by decide +kernel
theorem dJx4a65c_fastRemove_b59b0_1 : decode cJx4a65c_fastRemove_b59b0 1 = .ok (.dup, 1) := by decide +kernel
theorem dJx4a65c_fastRemove_b59b0_2 : decode cJx4a65c_fastRemove_b59b0 2 = .ok (.getfield 63, 3) := by decide +kernel
theorem dJx4a65c_fastRemove_b59b0_5 : decode cJx4a65c_fastRemove_b59b0 5 = .ok (.iconst 1, 1) := by decide +kernel
theorem dJx4a65c_fastRemove_b59b0_6 : decode cJx4a65c_fastRemove_b59b0 6 = .ok (.iadd, 1) := by decide +kernel
theorem dJx4a65c_fastRemove_b59b0_7 : decode cJx4a65c_fastRemove_b59b0 7 = .ok (.putfield 63, 3) := by decide +kernel
theorem dJx4a65c_fastRemove_b59b0_10 : decode cJx4a65c_fastRemove_b59b0 10 = .ok (.aload_n 0, 1) := by decide +kernel
theorem dJx4a65c_fastRemove_b59b0_11 : decode cJx4a65c_fastRemove_b59b0 11 = .ok (.getfield 48, 3) := by decide +kernel
theorem dJx4a65c_fastRemove_b59b0_14 : decode cJx4a65c_fastRemove_b59b0 14 = .ok (.iconst 1, 1) := by decide +kernel
theorem dJx4a65c_fastRemove_b59b0_15 : decode cJx4a65c_fastRemove_b59b0 15 = .ok (.isub, 1) := by decide +kernel
theorem dJx4a65c_fastRemove_b59b0_16 : decode cJx4a65c_fastRemove_b59b0 16 = .ok (.dup, 1) := by decide +kernel
theorem dJx4a65c_fastRemove_b59b0_17 : decode cJx4a65c_fastRemove_b59b0 17 = .ok (.istore_n 3, 1) := by decide +kernel
theorem dJx4a65c_fastRemove_b59b0_18 : decode cJx4a65c_fastRemove_b59b0 18 = .ok (.iload_n 2, 1) := by decide +kernel
theorem dJx4a65c_fastRemove_b59b0_19 : decode cJx4a65c_fastRemove_b59b0 19 = .ok (.if_icmp .le 15, 3) := by decide +kernel
theorem dJx4a65c_fastRemove_b59b0_22 : decode cJx4a65c_fastRemove_b59b0 22 = .ok (.aload_n 1, 1) := by decide +kernel
theorem dJx4a65c_fastRemove_b59b0_23 : decode cJx4a65c_fastRemove_b59b0 23 = .ok (.iload_n 2, 1) := by decide +kernel
theorem dJx4a65c_fastRemove_b59b0_24 : decode cJx4a65c_fastRemove_b59b0 24 = .ok (.iconst 1, 1) := by decide +kernel
theorem dJx4a65c_fastRemove_b59b0_25 : decode cJx4a65c_fastRemove_b59b0 25 = .ok (.iadd, 1) := by decide +kernel
theorem dJx4a65c_fastRemove_b59b0_26 : decode cJx4a65c_fastRemove_b59b0 26 = .ok (.aload_n 1, 1) := by decide +kernel
theorem dJx4a65c_fastRemove_b59b0_27 : decode cJx4a65c_fastRemove_b59b0 27 = .ok (.iload_n 2, 1) := by decide +kernel
theorem dJx4a65c_fastRemove_b59b0_28 : decode cJx4a65c_fastRemove_b59b0 28 = .ok (.iload_n 3, 1) := by decide +kernel
theorem dJx4a65c_fastRemove_b59b0_29 : decode cJx4a65c_fastRemove_b59b0 29 = .ok (.iload_n 2, 1) := by decide +kernel
theorem dJx4a65c_fastRemove_b59b0_30 : decode cJx4a65c_fastRemove_b59b0 30 = .ok (.isub, 1) := by decide +kernel
theorem dJx4a65c_fastRemove_b59b0_31 : decode cJx4a65c_fastRemove_b59b0 31 = .ok (.invokestatic 112, 3) := by decide +kernel
theorem dJx4a65c_fastRemove_b59b0_34 : decode cJx4a65c_fastRemove_b59b0 34 = .ok (.aload_n 1, 1) := by decide +kernel
theorem dJx4a65c_fastRemove_b59b0_35 : decode cJx4a65c_fastRemove_b59b0 35 = .ok (.aload_n 0, 1) := by decide +kernel
theorem dJx4a65c_fastRemove_b59b0_36 : decode cJx4a65c_fastRemove_b59b0 36 = .ok (.iload_n 3, 1) := by decide +kernel
theorem dJx4a65c_fastRemove_b59b0_37 : decode cJx4a65c_fastRemove_b59b0 37 = .ok (.dup_x1, 1) := by decide +kernel
theorem dJx4a65c_fastRemove_b59b0_38 : decode cJx4a65c_fastRemove_b59b0 38 = .ok (.putfield 48, 3) := by decide +kernel
theorem dJx4a65c_fastRemove_b59b0_41 : decode cJx4a65c_fastRemove_b59b0 41 = .ok (.aconst_null, 1) := by decide +kernel
theorem dJx4a65c_fastRemove_b59b0_42 : decode cJx4a65c_fastRemove_b59b0 42 = .ok (.aastore, 1) := by decide +kernel
theorem dJx4a65c_fastRemove_b59b0_43 : decode cJx4a65c_fastRemove_b59b0 43 = .ok (.return_, 1) := by decide +kernel
theorem dJ7_copyOf_1904c_0 : decode cJ7_copyOf_1904c 0 = .ok (.aload_n 0, 1) := by decide +kernel
theorem dJ7_copyOf_1904c_1 : decode cJ7_copyOf_1904c 1 = .ok (.iload_n 1, 1) := by decide +kernel
theorem dJ7_copyOf_1904c_2 : decode cJ7_copyOf_1904c 2 = .ok (.aload_n 0, 1) := by decide +kernel
theorem dJ7_copyOf_1904c_3 : decode cJ7_copyOf_1904c 3 = .ok (.invokevirtual 86, 3) := by decide +kernel
theorem dJ7_copyOf_1904c_6 : decode cJ7_copyOf_1904c 6 = .ok (.invokestatic 300, 3) := by decide +kernel
theorem dJ7_copyOf_1904c_9 : decode cJ7_copyOf_1904c 9 = .ok (.areturn, 1) := by decide +kernel
theorem dJ7_copyOf_6403c_0 : decode cJ7_copyOf_6403c 0 = .ok (.aload_n 2, 1) := by decide +kernel
theorem dJ7_copyOf_6403c_1 : decode cJ7_copyOf_6403c 1 = .ok (.ldc 110, 2) := by decide +kernel
theorem dJ7_copyOf_6403c_3 : decode cJ7_copyOf_6403c 3 = .ok (.if_acmp .ne 10, 3) := by decide +kernel
theorem dJ7_copyOf_6403c_6 : decode cJ7_copyOf_6403c 6 = .ok (.iload_n 1, 1) := by decide +kernel
theorem dJ7_copyOf_6403c_7 : decode cJ7_copyOf_6403c 7 = .ok (.anewarray 2, 3) := by decide +kernel
theorem dJ7_copyOf_6403c_10 : decode cJ7_copyOf_6403c 10 = .ok (.goto 14, 3) := by decide +kernel
theorem dJ7_copyOf_6403c_13 : decode cJ7_copyOf_6403c 13 = .ok (.aload_n 2, 1) := by decide +kernel
theorem dJ7_copyOf_6403c_14 : decode cJ7_copyOf_6403c 14 = .ok (.invokevirtual 90, 3) := by decide +kernel
theorem dJ7_copyOf_6403c_17 : decode cJ7_copyOf_6403c 17 = .ok (.iload_n 1, 1) := by decide +kernel
theorem dJ7_copyOf_6403c_18 : decode cJ7_copyOf_6403c 18 = .ok (.invokestatic 95, 3) := by decide +kernel
theorem dJ7_copyOf_6403c_21 : decode cJ7_copyOf_6403c 21 = .ok (.checkcast 110, 3) := by decide +kernel
theorem dJ7_copyOf_6403c_24 : decode cJ7_copyOf_6403c 24 = .ok (.astore_n 3, 1) := by decide +kernel
theorem dJ7_copyOf_6403c_25 : decode cJ7_copyOf_6403c 25 = .ok (.aload_n 0, 1) := by decide +kernel
theorem dJ7_copyOf_6403c_26 : decode cJ7_copyOf_6403c 26 = .ok (.iconst 0, 1) := by decide +kernel
theorem dJ7_copyOf_6403c_27 : decode cJ7_copyOf_6403c 27 = .ok (.aload_n 3, 1) := by decide +kernel
theorem dJ7_copyOf_6403c_28 : decode cJ7_copyOf_6403c 28 = .ok (.iconst 0, 1) := by decide +kernel
theorem dJ7_copyOf_6403c_29 : decode cJ7_copyOf_6403c 29 = .ok (.aload_n 0, 1) := by decide +kernel
theorem dJ7_copyOf_6403c_30 : decode cJ7_copyOf_6403c 30 = .ok (.arraylength, 1) := by decide +kernel
theorem dJ7_copyOf_6403c_31 : decode cJ7_copyOf_6403c 31 = .ok (.iload_n 1, 1) := by decide +kernel
theorem dJ7_copyOf_6403c_32 : decode cJ7_copyOf_6403c 32 = .ok (.invokestatic 304, 3) := by decide +kernel
theorem dJ7_copyOf_6403c_35 : decode cJ7_copyOf_6403c 35 = .ok (.invokestatic 150, 3) := by decide +kernel
theorem dJ7_copyOf_6403c_38 : decode cJ7_copyOf_6403c 38 = .ok (.aload_n 3, 1) := by decide +kernel
theorem dJ7_copyOf_6403c_39 : decode cJ7_copyOf_6403c 39 = .ok (.areturn, 1) := by decide +kernel
theorem dJ15_checkIndex_7cf53_0 : decode cJ15_checkIndex_7cf53 0 = .ok (.iload_n 0, 1) := by decide +kernel
theorem dJ15_checkIndex_7cf53_1 : decode cJ15_checkIndex_7cf53 1 = .ok (.iload_n 1, 1) := by decide +kernel
theorem dJ15_checkIndex_7cf53_2 : decode cJ15_checkIndex_7cf53 2 = .ok (.aconst_null, 1) := by decide +kernel
theorem dJ15_checkIndex_7cf53_3 : decode cJ15_checkIndex_7cf53 3 = .ok (.invokestatic 105, 3) := by decide +kernel
theorem dJ15_checkIndex_7cf53_6 : decode cJ15_checkIndex_7cf53 6 = .ok (.ireturn, 1) := by decide +kernel
theorem dJ8_newLength_cabcc_0 : decode cJ8_newLength_cabcc 0 = .ok (.iload_n 0, 1) := by decide +kernel
theorem dJ8_newLength_cabcc_1 : decode cJ8_newLength_cabcc 1 = .ok (.iload_n 1, 1) := by decide +kernel
theorem dJ8_newLength_cabcc_2 : decode cJ8_newLength_cabcc 2 = .ok (.iload_n 2, 1) := by decide +kernel
theorem dJ8_newLength_cabcc_3 : decode cJ8_newLength_cabcc 3 = .ok (.invokestatic 194, 3) := by decide +kernel
theorem dJ8_newLength_cabcc_6 : decode cJ8_newLength_cabcc 6 = .ok (.iadd, 1) := by decide +kernel
theorem dJ8_newLength_cabcc_7 : decode cJ8_newLength_cabcc 7 = .ok (.istore_n 3, 1) := by decide +kernel
theorem dJ8_newLength_cabcc_8 : decode cJ8_newLength_cabcc 8 = .ok (.iconst 0, 1) := by decide +kernel
theorem dJ8_newLength_cabcc_9 : decode cJ8_newLength_cabcc 9 = .ok (.iload_n 3, 1) := by decide +kernel
theorem dJ8_newLength_cabcc_10 : decode cJ8_newLength_cabcc 10 = .ok (.if_icmp .ge 11, 3) := by decide +kernel
theorem dJ8_newLength_cabcc_13 : decode cJ8_newLength_cabcc 13 = .ok (.iload_n 3, 1) := by decide +kernel
theorem dJ8_newLength_cabcc_14 : decode cJ8_newLength_cabcc 14 = .ok (.ldc 200, 2) := by decide +kernel
theorem dJ8_newLength_cabcc_16 : decode cJ8_newLength_cabcc 16 = .ok (.if_icmp .gt 5, 3) := by decide +kernel
theorem dJ8_newLength_cabcc_19 : decode cJ8_newLength_cabcc 19 = .ok (.iload_n 3, 1) := by decide +kernel
theorem dJ8_newLength_cabcc_20 : decode cJ8_newLength_cabcc 20 = .ok (.ireturn, 1) := by decide +kernel
theorem dJ8_newLength_cabcc_21 : decode cJ8_newLength_cabcc 21 = .ok (.iload_n 0, 1) := by decide +kernel
theorem dJ8_newLength_cabcc_22 : decode cJ8_newLength_cabcc 22 = .ok (.iload_n 1, 1) := by decide +kernel
theorem dJ8_newLength_cabcc_23 : decode cJ8_newLength_cabcc 23 = .ok (.invokestatic 201, 3) := by decide +kernel
theorem dJ8_newLength_cabcc_26 : decode cJ8_newLength_cabcc 26 = .ok (.ireturn, 1) := by decide +kernel
theorem dJ8_hugeLength_7cf53_0 : decode cJ8_hugeLength_7cf53 0 = .ok (.iload_n 0, 1) := by decide +kernel
theorem dJ8_hugeLength_7cf53_1 : decode cJ8_hugeLength_7cf53 1 = .ok (.iload_n 1, 1) := by decide +kernel
theorem dJ8_hugeLength_7cf53_2 : decode cJ8_hugeLength_7cf53 2 = .ok (.iadd, 1) := by decide +kernel
theorem dJ8_hugeLength_7cf53_3 : decode cJ8_hugeLength_7cf53 3 = .ok (.istore_n 2, 1) := by decide +kernel
theorem dJ8_hugeLength_7cf53_4 : decode cJ8_hugeLength_7cf53 4 = .ok (.iload_n 2, 1) := by decide +kernel
theorem dJ8_hugeLength_7cf53_5 : decode cJ8_hugeLength_7cf53 5 = .ok (.ifCond .ge 44, 3) := by decide +kernel
theorem dJ8_hugeLength_7cf53_8 : decode cJ8_hugeLength_7cf53 8 = .ok (.new 204, 3) := by decide +kernel
theorem dJ8_hugeLength_7cf53_11 : decode cJ8_hugeLength_7cf53 11 = .ok (.dup, 1) := by decide +kernel
theorem dJ8_hugeLength_7cf53_12 : decode cJ8_hugeLength_7cf53 12 = .ok (.new 89, 3) := by decide +kernel
theorem dJ8_hugeLength_7cf53_15 : decode cJ8_hugeLength_7cf53 15 = .ok (.dup, 1) := by decide +kernel
theorem dJ8_hugeLength_7cf53_16 : decode cJ8_hugeLength_7cf53 16 = .ok (.invokespecial 91, 3) := by decide +kernel
theorem dJ8_hugeLength_7cf53_19 : decode cJ8_hugeLength_7cf53 19 = .ok (.ldc 206, 2) := by decide +kernel
theorem dJ8_hugeLength_7cf53_21 : decode cJ8_hugeLength_7cf53 21 = .ok (.invokevirtual 94, 3) := by decide +kernel
theorem dJ8_hugeLength_7cf53_24 : decode cJ8_hugeLength_7cf53 24 = .ok (.iload_n 0, 1) := by decide +kernel
theorem dJ8_hugeLength_7cf53_25 : decode cJ8_hugeLength_7cf53 25 = .ok (.invokevirtual 98, 3) := by decide +kernel
theorem dJ8_hugeLength_7cf53_28 : decode cJ8_hugeLength_7cf53 28 = .ok (.ldc 208, 2) := by decide +kernel
theorem dJ8_hugeLength_7cf53_30 : decode cJ8_hugeLength_7cf53 30 = .ok (.invokevirtual 94, 3) := by decide +kernel
theorem dJ8_hugeLength_7cf53_33 : decode cJ8_hugeLength_7cf53 33 = .ok (.iload_n 1, 1) := by decide +kernel
theorem dJ8_hugeLength_7cf53_34 : decode cJ8_hugeLength_7cf53 34 = .ok (.invokevirtual 98, 3) := by decide +kernel
theorem dJ8_hugeLength_7cf53_37 : decode cJ8_hugeLength_7cf53 37 = .ok (.ldc 210, 2) := by decide +kernel
theorem dJ8_hugeLength_7cf53_39 : decode cJ8_hugeLength_7cf53 39 = .ok (.invokevirtual 94, 3) := by decide +kernel
theorem dJ8_hugeLength_7cf53_42 : decode cJ8_hugeLength_7cf53 42 = .ok (.invokevirtual 101, 3) := by decide +kernel
theorem dJ8_hugeLength_7cf53_45 : decode cJ8_hugeLength_7cf53 45 = .ok (.invokespecial 212, 3) := by decide +kernel
theorem dJ8_hugeLength_7cf53_48 : decode cJ8_hugeLength_7cf53 48 = .ok (.athrow, 1) := by decide +kernel
theorem dJ8_hugeLength_7cf53_49 : decode cJ8_hugeLength_7cf53 49 = .ok (.iload_n 2, 1) := by decide +kernel
theorem dJ8_hugeLength_7cf53_50 : decode cJ8_hugeLength_7cf53 50 = .ok (.ldc 200, 2) := by decide +kernel
theorem dJ8_hugeLength_7cf53_52 : decode cJ8_hugeLength_7cf53 52 = .ok (.if_icmp .gt 6, 3) := by decide +kernel
theorem dJ8_hugeLength_7cf53_55 : decode cJ8_hugeLength_7cf53 55 = .ok (.ldc 200, 2) := by decide +kernel
theorem dJ8_hugeLength_7cf53_57 : decode cJ8_hugeLength_7cf53 57 = .ok (.ireturn, 1) := by decide +kernel
theorem dJ8_hugeLength_7cf53_58 : decode cJ8_hugeLength_7cf53 58 = .ok (.iload_n 2, 1) := by decide +kernel
theorem dJ8_hugeLength_7cf53_59 : decode cJ8_hugeLength_7cf53 59 = .ok (.ireturn, 1) := by decide +kernel
theorem dJ3_checkIndex_8e157_0 : decode cJ3_checkIndex_8e157 0 = .ok (.iload_n 0, 1) := by decide +kernel
theorem dJ3_checkIndex_8e157_1 : decode cJ3_checkIndex_8e157 1 = .ok (.ifCond .lt 8, 3) := by decide +kernel
theorem dJ3_checkIndex_8e157_4 : decode cJ3_checkIndex_8e157 4 = .ok (.iload_n 0, 1) := by decide +kernel
theorem dJ3_checkIndex_8e157_5 : decode cJ3_checkIndex_8e157 5 = .ok (.iload_n 1, 1) := by decide +kernel
theorem dJ3_checkIndex_8e157_6 : decode cJ3_checkIndex_8e157 6 = .ok (.if_icmp .lt 10, 3) := by decide +kernel
theorem dJ3_checkIndex_8e157_9 : decode cJ3_checkIndex_8e157 9 = .ok (.aload_n 2, 1) := by decide +kernel
theorem dJ3_checkIndex_8e157_10 : decode cJ3_checkIndex_8e157 10 = .ok (.iload_n 0, 1) := by decide +kernel
theorem dJ3_checkIndex_8e157_11 : decode cJ3_checkIndex_8e157 11 = .ok (.iload_n 1, 1) := by decide +kernel
theorem dJ3_checkIndex_8e157_12 : decode cJ3_checkIndex_8e157 12 = .ok (.invokestatic 95, 3) := by decide +kernel
theorem dJ3_checkIndex_8e157_15 : decode cJ3_checkIndex_8e157 15 = .ok (.athrow, 1) := by decide +kernel
theorem dJ3_checkIndex_8e157_16 : decode cJ3_checkIndex_8e157 16 = .ok (.iload_n 0, 1) := by decide +kernel
theorem dJ3_checkIndex_8e157_17 : decode cJ3_checkIndex_8e157 17 = .ok (.ireturn, 1) := by decide +kernel
theorem dL_pass_0 : decode cL_pass 0 = .ok (.aload_n 2, 1) := by decide +kernel
theorem dL_pass_1 : decode cL_pass 1 = .ok (.iconst 0, 1) := by decide +kernel
theorem dL_pass_2 : decode cL_pass 2 = .ok (.aload_n 0, 1) := by decide +kernel
theorem dL_pass_3 : decode cL_pass 3 = .ok (.iload_n 1, 1) := by decide +kernel
theorem dL_pass_4 : decode cL_pass 4 = .ok (.invokevirtual 7, 3) := by decide +kernel
theorem dL_pass_7 : decode cL_pass 7 = .ok (.i2l, 1) := by decide +kernel
theorem dL_pass_8 : decode cL_pass 8 = .ok (.lastore, 1) := by decide +kernel
theorem dL_pass_9 : decode cL_pass 9 = .ok (.goto 9, 3) := by decide +kernel
theorem dL_pass_12 : decode cL_pass 12 = .ok (.astore_n 3, 1) := by decide +kernel
theorem dL_pass_13 : decode cL_pass 13 = .ok (.iconst 1, 1) := by decide +kernel
theorem dL_pass_14 : decode cL_pass 14 = .ok (.ireturn, 1) := by decide +kernel
theorem dL_pass_15 : decode cL_pass 15 = .ok (.astore_n 3, 1) := by decide +kernel
theorem dL_pass_16 : decode cL_pass 16 = .ok (.iconst 2, 1) := by decide +kernel
theorem dL_pass_17 : decode cL_pass 17 = .ok (.ireturn, 1) := by decide +kernel
theorem dL_pass_18 : decode cL_pass 18 = .ok (.iconst 0, 1) := by decide +kernel
theorem dL_pass_19 : decode cL_pass 19 = .ok (.ireturn, 1) := by decide +kernel
theorem dL_move_0 : decode cL_move 0 = .ok (.aload_n 3, 1) := by decide +kernel
theorem dL_move_1 : decode cL_move 1 = .ok (.iconst 0, 1) := by decide +kernel
theorem dL_move_2 : decode cL_move 2 = .ok (.aload_n 0, 1) := by decide +kernel
theorem dL_move_3 : decode cL_move 3 = .ok (.iload_n 1, 1) := by decide +kernel
theorem dL_move_4 : decode cL_move 4 = .ok (.iload_n 2, 1) := by decide +kernel
theorem dL_move_5 : decode cL_move 5 = .ok (.invokevirtual 17, 3) := by decide +kernel
theorem dL_move_8 : decode cL_move 8 = .ok (.i2l, 1) := by decide +kernel
theorem dL_move_9 : decode cL_move 9 = .ok (.lastore, 1) := by decide +kernel
theorem dL_move_10 : decode cL_move 10 = .ok (.goto 11, 3) := by decide +kernel
theorem dL_move_13 : decode cL_move 13 = .ok (.astore 4, 2) := by decide +kernel
theorem dL_move_15 : decode cL_move 15 = .ok (.iconst 1, 1) := by decide +kernel
theorem dL_move_16 : decode cL_move 16 = .ok (.ireturn, 1) := by decide +kernel
theorem dL_move_17 : decode cL_move 17 = .ok (.astore 4, 2) := by decide +kernel
theorem dL_move_19 : decode cL_move 19 = .ok (.iconst 2, 1) := by decide +kernel
theorem dL_move_20 : decode cL_move 20 = .ok (.ireturn, 1) := by decide +kernel
theorem dL_move_21 : decode cL_move 21 = .ok (.iconst 0, 1) := by decide +kernel
theorem dL_move_22 : decode cL_move 22 = .ok (.ireturn, 1) := by decide +kernel
theorem dL_load_0 : decode cL_load 0 = .ok (.aload_n 3, 1) := by decide +kernel
theorem dL_load_1 : decode cL_load 1 = .ok (.iconst 0, 1) := by decide +kernel
theorem dL_load_2 : decode cL_load 2 = .ok (.aload_n 0, 1) := by decide +kernel
theorem dL_load_3 : decode cL_load 3 = .ok (.iload_n 1, 1) := by decide +kernel
theorem dL_load_4 : decode cL_load 4 = .ok (.iload_n 2, 1) := by decide +kernel
theorem dL_load_5 : decode cL_load 5 = .ok (.invokevirtual 23, 3) := by decide +kernel
theorem dL_load_8 : decode cL_load 8 = .ok (.ifCond .eq 7, 3) := by decide +kernel
theorem dL_load_11 : decode cL_load 11 = .ok (.lconst 1, 1) := by decide +kernel
theorem dL_load_12 : decode cL_load 12 = .ok (.goto 4, 3) := by decide +kernel
theorem dL_load_15 : decode cL_load 15 = .ok (.lconst 0, 1) := by decide +kernel
theorem dL_load_16 : decode cL_load 16 = .ok (.lastore, 1) := by decide +kernel
theorem dL_load_17 : decode cL_load 17 = .ok (.goto 7, 3) := by decide +kernel
theorem dL_load_20 : decode cL_load 20 = .ok (.astore 4, 2) := by decide +kernel
theorem dL_load_22 : decode cL_load 22 = .ok (.iconst 1, 1) := by decide +kernel
theorem dL_load_23 : decode cL_load 23 = .ok (.ireturn, 1) := by decide +kernel
theorem dL_load_24 : decode cL_load 24 = .ok (.iconst 0, 1) := by decide +kernel
theorem dL_load_25 : decode cL_load 25 = .ok (.ireturn, 1) := by decide +kernel
theorem dL_allow_0 : decode cL_allow 0 = .ok (.aload 5, 2) := by decide +kernel
theorem dL_allow_2 : decode cL_allow 2 = .ok (.iconst 0, 1) := by decide +kernel
theorem dL_allow_3 : decode cL_allow 3 = .ok (.aload_n 0, 1) := by decide +kernel
theorem dL_allow_4 : decode cL_allow 4 = .ok (.iload_n 1, 1) := by decide +kernel
theorem dL_allow_5 : decode cL_allow 5 = .ok (.iload_n 2, 1) := by decide +kernel
theorem dL_allow_6 : decode cL_allow 6 = .ok (.iload_n 3, 1) := by decide +kernel
theorem dL_allow_7 : decode cL_allow 7 = .ok (.iload 4, 2) := by decide +kernel
theorem dL_allow_9 : decode cL_allow 9 = .ok (.invokevirtual 27, 3) := by decide +kernel
theorem dL_allow_12 : decode cL_allow 12 = .ok (.i2l, 1) := by decide +kernel
theorem dL_allow_13 : decode cL_allow 13 = .ok (.lastore, 1) := by decide +kernel
theorem dL_allow_14 : decode cL_allow 14 = .ok (.goto 15, 3) := by decide +kernel
theorem dL_allow_17 : decode cL_allow 17 = .ok (.astore 6, 2) := by decide +kernel
theorem dL_allow_19 : decode cL_allow 19 = .ok (.iconst 1, 1) := by decide +kernel
theorem dL_allow_20 : decode cL_allow 20 = .ok (.ireturn, 1) := by decide +kernel
theorem dL_allow_21 : decode cL_allow 21 = .ok (.astore 6, 2) := by decide +kernel
theorem dL_allow_23 : decode cL_allow 23 = .ok (.iconst 2, 1) := by decide +kernel
theorem dL_allow_24 : decode cL_allow 24 = .ok (.ireturn, 1) := by decide +kernel
theorem dL_allow_25 : decode cL_allow 25 = .ok (.astore 6, 2) := by decide +kernel
theorem dL_allow_27 : decode cL_allow 27 = .ok (.iconst 3, 1) := by decide +kernel
theorem dL_allow_28 : decode cL_allow 28 = .ok (.ireturn, 1) := by decide +kernel
theorem dL_allow_29 : decode cL_allow 29 = .ok (.iconst 0, 1) := by decide +kernel
theorem dL_allow_30 : decode cL_allow 30 = .ok (.ireturn, 1) := by decide +kernel
theorem dL_forbid_0 : decode cL_forbid 0 = .ok (.aload 4, 2) := by decide +kernel
theorem dL_forbid_2 : decode cL_forbid 2 = .ok (.iconst 0, 1) := by decide +kernel
theorem dL_forbid_3 : decode cL_forbid 3 = .ok (.aload_n 0, 1) := by decide +kernel
theorem dL_forbid_4 : decode cL_forbid 4 = .ok (.iload_n 1, 1) := by decide +kernel
theorem dL_forbid_5 : decode cL_forbid 5 = .ok (.iload_n 2, 1) := by decide +kernel
theorem dL_forbid_6 : decode cL_forbid 6 = .ok (.iload_n 3, 1) := by decide +kernel
theorem dL_forbid_7 : decode cL_forbid 7 = .ok (.invokevirtual 31, 3) := by decide +kernel
theorem dL_forbid_10 : decode cL_forbid 10 = .ok (.i2l, 1) := by decide +kernel
theorem dL_forbid_11 : decode cL_forbid 11 = .ok (.lastore, 1) := by decide +kernel
theorem dL_forbid_12 : decode cL_forbid 12 = .ok (.goto 15, 3) := by decide +kernel
theorem dL_forbid_15 : decode cL_forbid 15 = .ok (.astore 5, 2) := by decide +kernel
theorem dL_forbid_17 : decode cL_forbid 17 = .ok (.iconst 1, 1) := by decide +kernel
theorem dL_forbid_18 : decode cL_forbid 18 = .ok (.ireturn, 1) := by decide +kernel
theorem dL_forbid_19 : decode cL_forbid 19 = .ok (.astore 5, 2) := by decide +kernel
theorem dL_forbid_21 : decode cL_forbid 21 = .ok (.iconst 2, 1) := by decide +kernel
theorem dL_forbid_22 : decode cL_forbid 22 = .ok (.ireturn, 1) := by decide +kernel
theorem dL_forbid_23 : decode cL_forbid 23 = .ok (.astore 5, 2) := by decide +kernel
theorem dL_forbid_25 : decode cL_forbid 25 = .ok (.iconst 3, 1) := by decide +kernel
theorem dL_forbid_26 : decode cL_forbid 26 = .ok (.ireturn, 1) := by decide +kernel
theorem dL_forbid_27 : decode cL_forbid 27 = .ok (.iconst 0, 1) := by decide +kernel
theorem dL_forbid_28 : decode cL_forbid 28 = .ok (.ireturn, 1) := by decide +kernel
theorem dL_send_0 : decode cL_send 0 = .ok (.aload 5, 2) := by decide +kernel
theorem dL_send_2 : decode cL_send 2 = .ok (.iconst 0, 1) := by decide +kernel
theorem dL_send_3 : decode cL_send 3 = .ok (.aload_n 0, 1) := by decide +kernel
theorem dL_send_4 : decode cL_send 4 = .ok (.iload_n 1, 1) := by decide +kernel
theorem dL_send_5 : decode cL_send 5 = .ok (.iload_n 2, 1) := by decide +kernel
theorem dL_send_6 : decode cL_send 6 = .ok (.iload_n 3, 1) := by decide +kernel
theorem dL_send_7 : decode cL_send 7 = .ok (.iload 4, 2) := by decide +kernel
theorem dL_send_9 : decode cL_send 9 = .ok (.invokevirtual 37, 3) := by decide +kernel
theorem dL_send_12 : decode cL_send 12 = .ok (.i2l, 1) := by decide +kernel
theorem dL_send_13 : decode cL_send 13 = .ok (.lastore, 1) := by decide +kernel
theorem dL_send_14 : decode cL_send 14 = .ok (.goto 11, 3) := by decide +kernel
theorem dL_send_17 : decode cL_send 17 = .ok (.astore 6, 2) := by decide +kernel
theorem dL_send_19 : decode cL_send 19 = .ok (.iconst 1, 1) := by decide +kernel
theorem dL_send_20 : decode cL_send 20 = .ok (.ireturn, 1) := by decide +kernel
theorem dL_send_21 : decode cL_send 21 = .ok (.astore 6, 2) := by decide +kernel
theorem dL_send_23 : decode cL_send 23 = .ok (.iconst 2, 1) := by decide +kernel
theorem dL_send_24 : decode cL_send 24 = .ok (.ireturn, 1) := by decide +kernel
theorem dL_send_25 : decode cL_send 25 = .ok (.iconst 0, 1) := by decide +kernel
theorem dL_send_26 : decode cL_send 26 = .ok (.ireturn, 1) := by decide +kernel
theorem dL_keep_0 : decode cL_keep 0 = .ok (.aload_n 3, 1) := by decide +kernel
theorem dL_keep_1 : decode cL_keep 1 = .ok (.iconst 0, 1) := by decide +kernel
theorem dL_keep_2 : decode cL_keep 2 = .ok (.aload_n 0, 1) := by decide +kernel
theorem dL_keep_3 : decode cL_keep 3 = .ok (.iload_n 1, 1) := by decide +kernel
theorem dL_keep_4 : decode cL_keep 4 = .ok (.iload_n 2, 1) := by decide +kernel
theorem dL_keep_5 : decode cL_keep 5 = .ok (.invokevirtual 40, 3) := by decide +kernel
theorem dL_keep_8 : decode cL_keep 8 = .ok (.ifCond .eq 7, 3) := by decide +kernel
theorem dL_keep_11 : decode cL_keep 11 = .ok (.lconst 1, 1) := by decide +kernel
theorem dL_keep_12 : decode cL_keep 12 = .ok (.goto 4, 3) := by decide +kernel
theorem dL_keep_15 : decode cL_keep 15 = .ok (.lconst 0, 1) := by decide +kernel
theorem dL_keep_16 : decode cL_keep 16 = .ok (.lastore, 1) := by decide +kernel
theorem dL_keep_17 : decode cL_keep 17 = .ok (.goto 11, 3) := by decide +kernel
theorem dL_keep_20 : decode cL_keep 20 = .ok (.astore 4, 2) := by decide +kernel
theorem dL_keep_22 : decode cL_keep 22 = .ok (.iconst 1, 1) := by decide +kernel
theorem dL_keep_23 : decode cL_keep 23 = .ok (.ireturn, 1) := by decide +kernel
theorem dL_keep_24 : decode cL_keep 24 = .ok (.astore 4, 2) := by decide +kernel
theorem dL_keep_26 : decode cL_keep 26 = .ok (.iconst 2, 1) := by decide +kernel
theorem dL_keep_27 : decode cL_keep 27 = .ok (.ireturn, 1) := by decide +kernel
theorem dL_keep_28 : decode cL_keep 28 = .ok (.iconst 0, 1) := by decide +kernel
theorem dL_keep_29 : decode cL_keep 29 = .ok (.ireturn, 1) := by decide +kernel
theorem dL_greet_0 : decode cL_greet 0 = .ok (.aload_n 3, 1) := by decide +kernel
theorem dL_greet_1 : decode cL_greet 1 = .ok (.iconst 0, 1) := by decide +kernel
theorem dL_greet_2 : decode cL_greet 2 = .ok (.aload_n 0, 1) := by decide +kernel
theorem dL_greet_3 : decode cL_greet 3 = .ok (.iload_n 1, 1) := by decide +kernel
theorem dL_greet_4 : decode cL_greet 4 = .ok (.iload_n 2, 1) := by decide +kernel
theorem dL_greet_5 : decode cL_greet 5 = .ok (.invokevirtual 44, 3) := by decide +kernel
theorem dL_greet_8 : decode cL_greet 8 = .ok (.i2l, 1) := by decide +kernel
theorem dL_greet_9 : decode cL_greet 9 = .ok (.lastore, 1) := by decide +kernel
theorem dL_greet_10 : decode cL_greet 10 = .ok (.goto 15, 3) := by decide +kernel
theorem dL_greet_13 : decode cL_greet 13 = .ok (.astore 4, 2) := by decide +kernel
theorem dL_greet_15 : decode cL_greet 15 = .ok (.iconst 1, 1) := by decide +kernel
theorem dL_greet_16 : decode cL_greet 16 = .ok (.ireturn, 1) := by decide +kernel
theorem dL_greet_17 : decode cL_greet 17 = .ok (.astore 4, 2) := by decide +kernel
theorem dL_greet_19 : decode cL_greet 19 = .ok (.iconst 2, 1) := by decide +kernel
theorem dL_greet_20 : decode cL_greet 20 = .ok (.ireturn, 1) := by decide +kernel
theorem dL_greet_21 : decode cL_greet 21 = .ok (.astore 4, 2) := by decide +kernel
theorem dL_greet_23 : decode cL_greet 23 = .ok (.iconst 3, 1) := by decide +kernel
theorem dL_greet_24 : decode cL_greet 24 = .ok (.ireturn, 1) := by decide +kernel
theorem dL_greet_25 : decode cL_greet 25 = .ok (.iconst 0, 1) := by decide +kernel
theorem dL_greet_26 : decode cL_greet 26 = .ok (.ireturn, 1) := by decide +kernel
theorem dL_deliver_0 : decode cL_deliver 0 = .ok (.aload_n 2, 1) := by decide +kernel
theorem dL_deliver_1 : decode cL_deliver 1 = .ok (.iconst 0, 1) := by decide +kernel
theorem dL_deliver_2 : decode cL_deliver 2 = .ok (.aload_n 0, 1) := by decide +kernel
theorem dL_deliver_3 : decode cL_deliver 3 = .ok (.iload_n 1, 1) := by decide +kernel
theorem dL_deliver_4 : decode cL_deliver 4 = .ok (.invokevirtual 47, 3) := by decide +kernel
theorem dL_deliver_7 : decode cL_deliver 7 = .ok (.i2l, 1) := by decide +kernel
theorem dL_deliver_8 : decode cL_deliver 8 = .ok (.lastore, 1) := by decide +kernel
theorem dL_deliver_9 : decode cL_deliver 9 = .ok (.goto 6, 3) := by decide +kernel
theorem dL_deliver_12 : decode cL_deliver 12 = .ok (.astore_n 3, 1) := by decide +kernel
theorem dL_deliver_13 : decode cL_deliver 13 = .ok (.iconst 1, 1) := by decide +kernel
theorem dL_deliver_14 : decode cL_deliver 14 = .ok (.ireturn, 1) := by decide +kernel
theorem dL_deliver_15 : decode cL_deliver 15 = .ok (.iconst 0, 1) := by decide +kernel
theorem dL_deliver_16 : decode cL_deliver 16 = .ok (.ireturn, 1) := by decide +kernel
theorem dL_lose_0 : decode cL_lose 0 = .ok (.aload_n 2, 1) := by decide +kernel
theorem dL_lose_1 : decode cL_lose 1 = .ok (.iconst 0, 1) := by decide +kernel
theorem dL_lose_2 : decode cL_lose 2 = .ok (.aload_n 0, 1) := by decide +kernel
theorem dL_lose_3 : decode cL_lose 3 = .ok (.iload_n 1, 1) := by decide +kernel
theorem dL_lose_4 : decode cL_lose 4 = .ok (.invokevirtual 50, 3) := by decide +kernel
theorem dL_lose_7 : decode cL_lose 7 = .ok (.i2l, 1) := by decide +kernel
theorem dL_lose_8 : decode cL_lose 8 = .ok (.lastore, 1) := by decide +kernel
theorem dL_lose_9 : decode cL_lose 9 = .ok (.goto 6, 3) := by decide +kernel
theorem dL_lose_12 : decode cL_lose 12 = .ok (.astore_n 3, 1) := by decide +kernel
theorem dL_lose_13 : decode cL_lose 13 = .ok (.iconst 1, 1) := by decide +kernel
theorem dL_lose_14 : decode cL_lose 14 = .ok (.ireturn, 1) := by decide +kernel
theorem dL_lose_15 : decode cL_lose 15 = .ok (.iconst 0, 1) := by decide +kernel
theorem dL_lose_16 : decode cL_lose 16 = .ok (.ireturn, 1) := by decide +kernel
theorem dL_twice_0 : decode cL_twice 0 = .ok (.aload_n 2, 1) := by decide +kernel
theorem dL_twice_1 : decode cL_twice 1 = .ok (.iconst 0, 1) := by decide +kernel
theorem dL_twice_2 : decode cL_twice 2 = .ok (.aload_n 0, 1) := by decide +kernel
theorem dL_twice_3 : decode cL_twice 3 = .ok (.iload_n 1, 1) := by decide +kernel
theorem dL_twice_4 : decode cL_twice 4 = .ok (.invokevirtual 53, 3) := by decide +kernel
theorem dL_twice_7 : decode cL_twice 7 = .ok (.i2l, 1) := by decide +kernel
theorem dL_twice_8 : decode cL_twice 8 = .ok (.lastore, 1) := by decide +kernel
theorem dL_twice_9 : decode cL_twice 9 = .ok (.goto 9, 3) := by decide +kernel
theorem dL_twice_12 : decode cL_twice 12 = .ok (.astore_n 3, 1) := by decide +kernel
theorem dL_twice_13 : decode cL_twice 13 = .ok (.iconst 1, 1) := by decide +kernel
theorem dL_twice_14 : decode cL_twice 14 = .ok (.ireturn, 1) := by decide +kernel
theorem dL_twice_15 : decode cL_twice 15 = .ok (.astore_n 3, 1) := by decide +kernel
theorem dL_twice_16 : decode cL_twice 16 = .ok (.iconst 2, 1) := by decide +kernel
theorem dL_twice_17 : decode cL_twice 17 = .ok (.ireturn, 1) := by decide +kernel
theorem dL_twice_18 : decode cL_twice 18 = .ok (.iconst 0, 1) := by decide +kernel
theorem dL_twice_19 : decode cL_twice 19 = .ok (.ireturn, 1) := by decide +kernel
theorem dL_turn_0 : decode cL_turn 0 = .ok (.aload 4, 2) := by decide +kernel
theorem dL_turn_2 : decode cL_turn 2 = .ok (.iconst 0, 1) := by decide +kernel
theorem dL_turn_3 : decode cL_turn 3 = .ok (.aload_n 0, 1) := by decide +kernel
theorem dL_turn_4 : decode cL_turn 4 = .ok (.iload_n 1, 1) := by decide +kernel
theorem dL_turn_5 : decode cL_turn 5 = .ok (.iload_n 2, 1) := by decide +kernel
theorem dL_turn_6 : decode cL_turn 6 = .ok (.iload_n 3, 1) := by decide +kernel
theorem dL_turn_7 : decode cL_turn 7 = .ok (.invokevirtual 56, 3) := by decide +kernel
theorem dL_turn_10 : decode cL_turn 10 = .ok (.i2l, 1) := by decide +kernel
theorem dL_turn_11 : decode cL_turn 11 = .ok (.lastore, 1) := by decide +kernel
theorem dL_turn_12 : decode cL_turn 12 = .ok (.goto 15, 3) := by decide +kernel
theorem dL_turn_15 : decode cL_turn 15 = .ok (.astore 5, 2) := by decide +kernel
theorem dL_turn_17 : decode cL_turn 17 = .ok (.iconst 1, 1) := by decide +kernel
theorem dL_turn_18 : decode cL_turn 18 = .ok (.ireturn, 1) := by decide +kernel
theorem dL_turn_19 : decode cL_turn 19 = .ok (.astore 5, 2) := by decide +kernel
theorem dL_turn_21 : decode cL_turn 21 = .ok (.iconst 2, 1) := by decide +kernel
theorem dL_turn_22 : decode cL_turn 22 = .ok (.ireturn, 1) := by decide +kernel
theorem dL_turn_23 : decode cL_turn 23 = .ok (.astore 5, 2) := by decide +kernel
theorem dL_turn_25 : decode cL_turn 25 = .ok (.iconst 3, 1) := by decide +kernel
theorem dL_turn_26 : decode cL_turn 26 = .ok (.ireturn, 1) := by decide +kernel
theorem dL_turn_27 : decode cL_turn 27 = .ok (.iconst 0, 1) := by decide +kernel
theorem dL_turn_28 : decode cL_turn 28 = .ok (.ireturn, 1) := by decide +kernel
theorem dL_reroute_0 : decode cL_reroute 0 = .ok (.aload_n 3, 1) := by decide +kernel
theorem dL_reroute_1 : decode cL_reroute 1 = .ok (.iconst 0, 1) := by decide +kernel
theorem dL_reroute_2 : decode cL_reroute 2 = .ok (.aload_n 0, 1) := by decide +kernel
theorem dL_reroute_3 : decode cL_reroute 3 = .ok (.iload_n 1, 1) := by decide +kernel
theorem dL_reroute_4 : decode cL_reroute 4 = .ok (.iload_n 2, 1) := by decide +kernel
theorem dL_reroute_5 : decode cL_reroute 5 = .ok (.invokevirtual 59, 3) := by decide +kernel
theorem dL_reroute_8 : decode cL_reroute 8 = .ok (.i2l, 1) := by decide +kernel
theorem dL_reroute_9 : decode cL_reroute 9 = .ok (.lastore, 1) := by decide +kernel
theorem dL_reroute_10 : decode cL_reroute 10 = .ok (.goto 11, 3) := by decide +kernel
theorem dL_reroute_13 : decode cL_reroute 13 = .ok (.astore 4, 2) := by decide +kernel
theorem dL_reroute_15 : decode cL_reroute 15 = .ok (.iconst 1, 1) := by decide +kernel
theorem dL_reroute_16 : decode cL_reroute 16 = .ok (.ireturn, 1) := by decide +kernel
theorem dL_reroute_17 : decode cL_reroute 17 = .ok (.astore 4, 2) := by decide +kernel
theorem dL_reroute_19 : decode cL_reroute 19 = .ok (.iconst 2, 1) := by decide +kernel
theorem dL_reroute_20 : decode cL_reroute 20 = .ok (.ireturn, 1) := by decide +kernel
theorem dL_reroute_21 : decode cL_reroute 21 = .ok (.iconst 0, 1) := by decide +kernel
theorem dL_reroute_22 : decode cL_reroute 22 = .ok (.ireturn, 1) := by decide +kernel
theorem dL_later_0 : decode cL_later 0 = .ok (.aload_n 2, 1) := by decide +kernel
theorem dL_later_1 : decode cL_later 1 = .ok (.iconst 0, 1) := by decide +kernel
theorem dL_later_2 : decode cL_later 2 = .ok (.aload_n 0, 1) := by decide +kernel
theorem dL_later_3 : decode cL_later 3 = .ok (.iload_n 1, 1) := by decide +kernel
theorem dL_later_4 : decode cL_later 4 = .ok (.invokevirtual 62, 3) := by decide +kernel
theorem dL_later_7 : decode cL_later 7 = .ok (.i2l, 1) := by decide +kernel
theorem dL_later_8 : decode cL_later 8 = .ok (.lastore, 1) := by decide +kernel
theorem dL_later_9 : decode cL_later 9 = .ok (.goto 6, 3) := by decide +kernel
theorem dL_later_12 : decode cL_later 12 = .ok (.astore_n 3, 1) := by decide +kernel
theorem dL_later_13 : decode cL_later 13 = .ok (.iconst 1, 1) := by decide +kernel
theorem dL_later_14 : decode cL_later 14 = .ok (.ireturn, 1) := by decide +kernel
theorem dL_later_15 : decode cL_later 15 = .ok (.iconst 0, 1) := by decide +kernel
theorem dL_later_16 : decode cL_later 16 = .ok (.ireturn, 1) := by decide +kernel
theorem dL_letter_0 : decode cL_letter 0 = .ok (.aload_n 3, 1) := by decide +kernel
theorem dL_letter_1 : decode cL_letter 1 = .ok (.iconst 0, 1) := by decide +kernel
theorem dL_letter_2 : decode cL_letter 2 = .ok (.aload_n 0, 1) := by decide +kernel
theorem dL_letter_3 : decode cL_letter 3 = .ok (.iload_n 1, 1) := by decide +kernel
theorem dL_letter_4 : decode cL_letter 4 = .ok (.iload_n 2, 1) := by decide +kernel
theorem dL_letter_5 : decode cL_letter 5 = .ok (.invokevirtual 65, 3) := by decide +kernel
theorem dL_letter_8 : decode cL_letter 8 = .ok (.i2l, 1) := by decide +kernel
theorem dL_letter_9 : decode cL_letter 9 = .ok (.lastore, 1) := by decide +kernel
theorem dL_letter_10 : decode cL_letter 10 = .ok (.goto 11, 3) := by decide +kernel
theorem dL_letter_13 : decode cL_letter 13 = .ok (.astore 4, 2) := by decide +kernel
theorem dL_letter_15 : decode cL_letter 15 = .ok (.iconst 1, 1) := by decide +kernel
theorem dL_letter_16 : decode cL_letter 16 = .ok (.ireturn, 1) := by decide +kernel
theorem dL_letter_17 : decode cL_letter 17 = .ok (.astore 4, 2) := by decide +kernel
theorem dL_letter_19 : decode cL_letter 19 = .ok (.iconst 2, 1) := by decide +kernel
theorem dL_letter_20 : decode cL_letter 20 = .ok (.ireturn, 1) := by decide +kernel
theorem dL_letter_21 : decode cL_letter 21 = .ok (.iconst 0, 1) := by decide +kernel
theorem dL_letter_22 : decode cL_letter 22 = .ok (.ireturn, 1) := by decide +kernel
theorem dL_isTurned_0 : decode cL_isTurned 0 = .ok (.aload_n 2, 1) := by decide +kernel
theorem dL_isTurned_1 : decode cL_isTurned 1 = .ok (.iconst 0, 1) := by decide +kernel
theorem dL_isTurned_2 : decode cL_isTurned 2 = .ok (.aload_n 0, 1) := by decide +kernel
theorem dL_isTurned_3 : decode cL_isTurned 3 = .ok (.iload_n 1, 1) := by decide +kernel
theorem dL_isTurned_4 : decode cL_isTurned 4 = .ok (.invokevirtual 68, 3) := by decide +kernel
theorem dL_isTurned_7 : decode cL_isTurned 7 = .ok (.ifCond .eq 7, 3) := by decide +kernel
theorem dL_isTurned_10 : decode cL_isTurned 10 = .ok (.lconst 1, 1) := by decide +kernel
theorem dL_isTurned_11 : decode cL_isTurned 11 = .ok (.goto 4, 3) := by decide +kernel
theorem dL_isTurned_14 : decode cL_isTurned 14 = .ok (.lconst 0, 1) := by decide +kernel
theorem dL_isTurned_15 : decode cL_isTurned 15 = .ok (.lastore, 1) := by decide +kernel
theorem dL_isTurned_16 : decode cL_isTurned 16 = .ok (.goto 6, 3) := by decide +kernel
theorem dL_isTurned_19 : decode cL_isTurned 19 = .ok (.astore_n 3, 1) := by decide +kernel
theorem dL_isTurned_20 : decode cL_isTurned 20 = .ok (.iconst 1, 1) := by decide +kernel
theorem dL_isTurned_21 : decode cL_isTurned 21 = .ok (.ireturn, 1) := by decide +kernel
theorem dL_isTurned_22 : decode cL_isTurned 22 = .ok (.iconst 0, 1) := by decide +kernel
theorem dL_isTurned_23 : decode cL_isTurned 23 = .ok (.ireturn, 1) := by decide +kernel
theorem dL_address_0 : decode cL_address 0 = .ok (.aload_n 2, 1) := by decide +kernel
theorem dL_address_1 : decode cL_address 1 = .ok (.iconst 0, 1) := by decide +kernel
theorem dL_address_2 : decode cL_address 2 = .ok (.aload_n 0, 1) := by decide +kernel
theorem dL_address_3 : decode cL_address 3 = .ok (.iload_n 1, 1) := by decide +kernel
theorem dL_address_4 : decode cL_address 4 = .ok (.invokevirtual 72, 3) := by decide +kernel
theorem dL_address_7 : decode cL_address 7 = .ok (.i2l, 1) := by decide +kernel
theorem dL_address_8 : decode cL_address 8 = .ok (.lastore, 1) := by decide +kernel
theorem dL_address_9 : decode cL_address 9 = .ok (.goto 6, 3) := by decide +kernel
theorem dL_address_12 : decode cL_address 12 = .ok (.astore_n 3, 1) := by decide +kernel
theorem dL_address_13 : decode cL_address 13 = .ok (.iconst 1, 1) := by decide +kernel
theorem dL_address_14 : decode cL_address 14 = .ok (.ireturn, 1) := by decide +kernel
theorem dL_address_15 : decode cL_address 15 = .ok (.iconst 0, 1) := by decide +kernel
theorem dL_address_16 : decode cL_address 16 = .ok (.ireturn, 1) := by decide +kernel
theorem dL_known_0 : decode cL_known 0 = .ok (.aload_n 3, 1) := by decide +kernel
theorem dL_known_1 : decode cL_known 1 = .ok (.iconst 0, 1) := by decide +kernel
theorem dL_known_2 : decode cL_known 2 = .ok (.aload_n 0, 1) := by decide +kernel
theorem dL_known_3 : decode cL_known 3 = .ok (.iload_n 1, 1) := by decide +kernel
theorem dL_known_4 : decode cL_known 4 = .ok (.iload_n 2, 1) := by decide +kernel
theorem dL_known_5 : decode cL_known 5 = .ok (.invokevirtual 75, 3) := by decide +kernel
theorem dL_known_8 : decode cL_known 8 = .ok (.i2l, 1) := by decide +kernel
theorem dL_known_9 : decode cL_known 9 = .ok (.lastore, 1) := by decide +kernel
theorem dL_known_10 : decode cL_known 10 = .ok (.goto 11, 3) := by decide +kernel
theorem dL_known_13 : decode cL_known 13 = .ok (.astore 4, 2) := by decide +kernel
theorem dL_known_15 : decode cL_known 15 = .ok (.iconst 1, 1) := by decide +kernel
theorem dL_known_16 : decode cL_known 16 = .ok (.ireturn, 1) := by decide +kernel
theorem dL_known_17 : decode cL_known 17 = .ok (.astore 4, 2) := by decide +kernel
theorem dL_known_19 : decode cL_known 19 = .ok (.iconst 2, 1) := by decide +kernel
theorem dL_known_20 : decode cL_known 20 = .ok (.ireturn, 1) := by decide +kernel
theorem dL_known_21 : decode cL_known 21 = .ok (.iconst 0, 1) := by decide +kernel
theorem dL_known_22 : decode cL_known 22 = .ok (.ireturn, 1) := by decide +kernel
theorem dL_route_0 : decode cL_route 0 = .ok (.aload_n 3, 1) := by decide +kernel
theorem dL_route_1 : decode cL_route 1 = .ok (.iconst 0, 1) := by decide +kernel
theorem dL_route_2 : decode cL_route 2 = .ok (.aload_n 0, 1) := by decide +kernel
theorem dL_route_3 : decode cL_route 3 = .ok (.iload_n 1, 1) := by decide +kernel
theorem dL_route_4 : decode cL_route 4 = .ok (.iload_n 2, 1) := by decide +kernel
theorem dL_route_5 : decode cL_route 5 = .ok (.invokevirtual 78, 3) := by decide +kernel
theorem dL_route_8 : decode cL_route 8 = .ok (.i2l, 1) := by decide +kernel
theorem dL_route_9 : decode cL_route 9 = .ok (.lastore, 1) := by decide +kernel
theorem dL_route_10 : decode cL_route 10 = .ok (.goto 11, 3) := by decide +kernel
theorem dL_route_13 : decode cL_route 13 = .ok (.astore 4, 2) := by decide +kernel
theorem dL_route_15 : decode cL_route 15 = .ok (.iconst 1, 1) := by decide +kernel
theorem dL_route_16 : decode cL_route 16 = .ok (.ireturn, 1) := by decide +kernel
theorem dL_route_17 : decode cL_route 17 = .ok (.astore 4, 2) := by decide +kernel
theorem dL_route_19 : decode cL_route 19 = .ok (.iconst 2, 1) := by decide +kernel
theorem dL_route_20 : decode cL_route 20 = .ok (.ireturn, 1) := by decide +kernel
theorem dL_route_21 : decode cL_route 21 = .ok (.iconst 0, 1) := by decide +kernel
theorem dL_route_22 : decode cL_route 22 = .ok (.ireturn, 1) := by decide +kernel
theorem dL_session_0 : decode cL_session 0 = .ok (.aload 5, 2) := by decide +kernel
theorem dL_session_2 : decode cL_session 2 = .ok (.iconst 0, 1) := by decide +kernel
theorem dL_session_3 : decode cL_session 3 = .ok (.aload_n 0, 1) := by decide +kernel
theorem dL_session_4 : decode cL_session 4 = .ok (.iload_n 1, 1) := by decide +kernel
theorem dL_session_5 : decode cL_session 5 = .ok (.iload_n 2, 1) := by decide +kernel
theorem dL_session_6 : decode cL_session 6 = .ok (.iload_n 3, 1) := by decide +kernel
theorem dL_session_7 : decode cL_session 7 = .ok (.iload 4, 2) := by decide +kernel
theorem dL_session_9 : decode cL_session 9 = .ok (.invokevirtual 81, 3) := by decide +kernel
theorem dL_session_12 : decode cL_session 12 = .ok (.i2l, 1) := by decide +kernel
theorem dL_session_13 : decode cL_session 13 = .ok (.lastore, 1) := by decide +kernel
theorem dL_session_14 : decode cL_session 14 = .ok (.goto 15, 3) := by decide +kernel
theorem dL_session_17 : decode cL_session 17 = .ok (.astore 6, 2) := by decide +kernel
theorem dL_session_19 : decode cL_session 19 = .ok (.iconst 1, 1) := by decide +kernel
theorem dL_session_20 : decode cL_session 20 = .ok (.ireturn, 1) := by decide +kernel
theorem dL_session_21 : decode cL_session 21 = .ok (.astore 6, 2) := by decide +kernel
theorem dL_session_23 : decode cL_session 23 = .ok (.iconst 2, 1) := by decide +kernel
theorem dL_session_24 : decode cL_session 24 = .ok (.ireturn, 1) := by decide +kernel
theorem dL_session_25 : decode cL_session 25 = .ok (.astore 6, 2) := by decide +kernel
theorem dL_session_27 : decode cL_session 27 = .ok (.iconst 3, 1) := by decide +kernel
theorem dL_session_28 : decode cL_session 28 = .ok (.ireturn, 1) := by decide +kernel
theorem dL_session_29 : decode cL_session 29 = .ok (.iconst 0, 1) := by decide +kernel
theorem dL_session_30 : decode cL_session 30 = .ok (.ireturn, 1) := by decide +kernel
theorem dL_isUsable_0 : decode cL_isUsable 0 = .ok (.aload_n 3, 1) := by decide +kernel
theorem dL_isUsable_1 : decode cL_isUsable 1 = .ok (.iconst 0, 1) := by decide +kernel
theorem dL_isUsable_2 : decode cL_isUsable 2 = .ok (.aload_n 0, 1) := by decide +kernel
theorem dL_isUsable_3 : decode cL_isUsable 3 = .ok (.iload_n 1, 1) := by decide +kernel
theorem dL_isUsable_4 : decode cL_isUsable 4 = .ok (.iload_n 2, 1) := by decide +kernel
theorem dL_isUsable_5 : decode cL_isUsable 5 = .ok (.invokevirtual 84, 3) := by decide +kernel
theorem dL_isUsable_8 : decode cL_isUsable 8 = .ok (.ifCond .eq 7, 3) := by decide +kernel
theorem dL_isUsable_11 : decode cL_isUsable 11 = .ok (.lconst 1, 1) := by decide +kernel
theorem dL_isUsable_12 : decode cL_isUsable 12 = .ok (.goto 4, 3) := by decide +kernel
theorem dL_isUsable_15 : decode cL_isUsable 15 = .ok (.lconst 0, 1) := by decide +kernel
theorem dL_isUsable_16 : decode cL_isUsable 16 = .ok (.lastore, 1) := by decide +kernel
theorem dL_isUsable_17 : decode cL_isUsable 17 = .ok (.goto 11, 3) := by decide +kernel
theorem dL_isUsable_20 : decode cL_isUsable 20 = .ok (.astore 4, 2) := by decide +kernel
theorem dL_isUsable_22 : decode cL_isUsable 22 = .ok (.iconst 1, 1) := by decide +kernel
theorem dL_isUsable_23 : decode cL_isUsable 23 = .ok (.ireturn, 1) := by decide +kernel
theorem dL_isUsable_24 : decode cL_isUsable 24 = .ok (.astore 4, 2) := by decide +kernel
theorem dL_isUsable_26 : decode cL_isUsable 26 = .ok (.iconst 2, 1) := by decide +kernel
theorem dL_isUsable_27 : decode cL_isUsable 27 = .ok (.ireturn, 1) := by decide +kernel
theorem dL_isUsable_28 : decode cL_isUsable 28 = .ok (.iconst 0, 1) := by decide +kernel
theorem dL_isUsable_29 : decode cL_isUsable 29 = .ok (.ireturn, 1) := by decide +kernel
theorem dL_flight_0 : decode cL_flight 0 = .ok (.aload_n 3, 1) := by decide +kernel
theorem dL_flight_1 : decode cL_flight 1 = .ok (.iconst 0, 1) := by decide +kernel
theorem dL_flight_2 : decode cL_flight 2 = .ok (.aload_n 0, 1) := by decide +kernel
theorem dL_flight_3 : decode cL_flight 3 = .ok (.iload_n 1, 1) := by decide +kernel
theorem dL_flight_4 : decode cL_flight 4 = .ok (.iload_n 2, 1) := by decide +kernel
theorem dL_flight_5 : decode cL_flight 5 = .ok (.invokevirtual 87, 3) := by decide +kernel
theorem dL_flight_8 : decode cL_flight 8 = .ok (.i2l, 1) := by decide +kernel
theorem dL_flight_9 : decode cL_flight 9 = .ok (.lastore, 1) := by decide +kernel
theorem dL_flight_10 : decode cL_flight 10 = .ok (.goto 11, 3) := by decide +kernel
theorem dL_flight_13 : decode cL_flight 13 = .ok (.astore 4, 2) := by decide +kernel
theorem dL_flight_15 : decode cL_flight 15 = .ok (.iconst 1, 1) := by decide +kernel
theorem dL_flight_16 : decode cL_flight 16 = .ok (.ireturn, 1) := by decide +kernel
theorem dL_flight_17 : decode cL_flight 17 = .ok (.astore 4, 2) := by decide +kernel
theorem dL_flight_19 : decode cL_flight 19 = .ok (.iconst 2, 1) := by decide +kernel
theorem dL_flight_20 : decode cL_flight 20 = .ok (.ireturn, 1) := by decide +kernel
theorem dL_flight_21 : decode cL_flight 21 = .ok (.iconst 0, 1) := by decide +kernel
theorem dL_flight_22 : decode cL_flight 22 = .ok (.ireturn, 1) := by decide +kernel
theorem dL_waiting_0 : decode cL_waiting 0 = .ok (.aload_n 3, 1) := by decide +kernel
theorem dL_waiting_1 : decode cL_waiting 1 = .ok (.iconst 0, 1) := by decide +kernel
theorem dL_waiting_2 : decode cL_waiting 2 = .ok (.aload_n 0, 1) := by decide +kernel
theorem dL_waiting_3 : decode cL_waiting 3 = .ok (.iload_n 1, 1) := by decide +kernel
theorem dL_waiting_4 : decode cL_waiting 4 = .ok (.iload_n 2, 1) := by decide +kernel
theorem dL_waiting_5 : decode cL_waiting 5 = .ok (.invokevirtual 90, 3) := by decide +kernel
theorem dL_waiting_8 : decode cL_waiting 8 = .ok (.i2l, 1) := by decide +kernel
theorem dL_waiting_9 : decode cL_waiting 9 = .ok (.lastore, 1) := by decide +kernel
theorem dL_waiting_10 : decode cL_waiting 10 = .ok (.goto 11, 3) := by decide +kernel
theorem dL_waiting_13 : decode cL_waiting 13 = .ok (.astore 4, 2) := by decide +kernel
theorem dL_waiting_15 : decode cL_waiting 15 = .ok (.iconst 1, 1) := by decide +kernel
theorem dL_waiting_16 : decode cL_waiting 16 = .ok (.ireturn, 1) := by decide +kernel
theorem dL_waiting_17 : decode cL_waiting 17 = .ok (.astore 4, 2) := by decide +kernel
theorem dL_waiting_19 : decode cL_waiting 19 = .ok (.iconst 2, 1) := by decide +kernel
theorem dL_waiting_20 : decode cL_waiting 20 = .ok (.ireturn, 1) := by decide +kernel
theorem dL_waiting_21 : decode cL_waiting 21 = .ok (.iconst 0, 1) := by decide +kernel
theorem dL_waiting_22 : decode cL_waiting 22 = .ok (.ireturn, 1) := by decide +kernel
theorem dL_cookie_0 : decode cL_cookie 0 = .ok (.aload_n 3, 1) := by decide +kernel
theorem dL_cookie_1 : decode cL_cookie 1 = .ok (.iconst 0, 1) := by decide +kernel
theorem dL_cookie_2 : decode cL_cookie 2 = .ok (.aload_n 0, 1) := by decide +kernel
theorem dL_cookie_3 : decode cL_cookie 3 = .ok (.iload_n 1, 1) := by decide +kernel
theorem dL_cookie_4 : decode cL_cookie 4 = .ok (.iload_n 2, 1) := by decide +kernel
theorem dL_cookie_5 : decode cL_cookie 5 = .ok (.invokevirtual 93, 3) := by decide +kernel
theorem dL_cookie_8 : decode cL_cookie 8 = .ok (.i2l, 1) := by decide +kernel
theorem dL_cookie_9 : decode cL_cookie 9 = .ok (.lastore, 1) := by decide +kernel
theorem dL_cookie_10 : decode cL_cookie 10 = .ok (.goto 11, 3) := by decide +kernel
theorem dL_cookie_13 : decode cL_cookie 13 = .ok (.astore 4, 2) := by decide +kernel
theorem dL_cookie_15 : decode cL_cookie 15 = .ok (.iconst 1, 1) := by decide +kernel
theorem dL_cookie_16 : decode cL_cookie 16 = .ok (.ireturn, 1) := by decide +kernel
theorem dL_cookie_17 : decode cL_cookie 17 = .ok (.astore 4, 2) := by decide +kernel
theorem dL_cookie_19 : decode cL_cookie 19 = .ok (.iconst 2, 1) := by decide +kernel
theorem dL_cookie_20 : decode cL_cookie 20 = .ok (.ireturn, 1) := by decide +kernel
theorem dL_cookie_21 : decode cL_cookie 21 = .ok (.iconst 0, 1) := by decide +kernel
theorem dL_cookie_22 : decode cL_cookie 22 = .ok (.ireturn, 1) := by decide +kernel
theorem dL_stamp_0 : decode cL_stamp 0 = .ok (.aload 4, 2) := by decide +kernel
theorem dL_stamp_2 : decode cL_stamp 2 = .ok (.iconst 0, 1) := by decide +kernel
theorem dL_stamp_3 : decode cL_stamp 3 = .ok (.aload_n 0, 1) := by decide +kernel
theorem dL_stamp_4 : decode cL_stamp 4 = .ok (.iload_n 1, 1) := by decide +kernel
theorem dL_stamp_5 : decode cL_stamp 5 = .ok (.iload_n 2, 1) := by decide +kernel
theorem dL_stamp_6 : decode cL_stamp 6 = .ok (.iload_n 3, 1) := by decide +kernel
theorem dL_stamp_7 : decode cL_stamp 7 = .ok (.invokevirtual 96, 3) := by decide +kernel
theorem dL_stamp_10 : decode cL_stamp 10 = .ok (.i2l, 1) := by decide +kernel
theorem dL_stamp_11 : decode cL_stamp 11 = .ok (.lastore, 1) := by decide +kernel
theorem dL_stamp_12 : decode cL_stamp 12 = .ok (.goto 11, 3) := by decide +kernel
theorem dL_stamp_15 : decode cL_stamp 15 = .ok (.astore 5, 2) := by decide +kernel
theorem dL_stamp_17 : decode cL_stamp 17 = .ok (.iconst 1, 1) := by decide +kernel
theorem dL_stamp_18 : decode cL_stamp 18 = .ok (.ireturn, 1) := by decide +kernel
theorem dL_stamp_19 : decode cL_stamp 19 = .ok (.astore 5, 2) := by decide +kernel
theorem dL_stamp_21 : decode cL_stamp 21 = .ok (.iconst 2, 1) := by decide +kernel
theorem dL_stamp_22 : decode cL_stamp 22 = .ok (.ireturn, 1) := by decide +kernel
theorem dL_stamp_23 : decode cL_stamp 23 = .ok (.iconst 0, 1) := by decide +kernel
theorem dL_stamp_24 : decode cL_stamp 24 = .ok (.ireturn, 1) := by decide +kernel
theorem dL_outs_0 : decode cL_outs 0 = .ok (.aload_n 2, 1) := by decide +kernel
theorem dL_outs_1 : decode cL_outs 1 = .ok (.iconst 0, 1) := by decide +kernel
theorem dL_outs_2 : decode cL_outs 2 = .ok (.aload_n 0, 1) := by decide +kernel
theorem dL_outs_3 : decode cL_outs 3 = .ok (.iload_n 1, 1) := by decide +kernel
theorem dL_outs_4 : decode cL_outs 4 = .ok (.invokevirtual 100, 3) := by decide +kernel
theorem dL_outs_7 : decode cL_outs 7 = .ok (.i2l, 1) := by decide +kernel
theorem dL_outs_8 : decode cL_outs 8 = .ok (.lastore, 1) := by decide +kernel
theorem dL_outs_9 : decode cL_outs 9 = .ok (.goto 6, 3) := by decide +kernel
theorem dL_outs_12 : decode cL_outs 12 = .ok (.astore_n 3, 1) := by decide +kernel
theorem dL_outs_13 : decode cL_outs 13 = .ok (.iconst 1, 1) := by decide +kernel
theorem dL_outs_14 : decode cL_outs 14 = .ok (.ireturn, 1) := by decide +kernel
theorem dL_outs_15 : decode cL_outs 15 = .ok (.iconst 0, 1) := by decide +kernel
theorem dL_outs_16 : decode cL_outs 16 = .ok (.ireturn, 1) := by decide +kernel
theorem dL_out_0 : decode cL_out 0 = .ok (.aload 4, 2) := by decide +kernel
theorem dL_out_2 : decode cL_out 2 = .ok (.iconst 0, 1) := by decide +kernel
theorem dL_out_3 : decode cL_out 3 = .ok (.aload_n 0, 1) := by decide +kernel
theorem dL_out_4 : decode cL_out 4 = .ok (.iload_n 1, 1) := by decide +kernel
theorem dL_out_5 : decode cL_out 5 = .ok (.iload_n 2, 1) := by decide +kernel
theorem dL_out_6 : decode cL_out 6 = .ok (.iload_n 3, 1) := by decide +kernel
theorem dL_out_7 : decode cL_out 7 = .ok (.invokevirtual 103, 3) := by decide +kernel
theorem dL_out_10 : decode cL_out 10 = .ok (.i2l, 1) := by decide +kernel
theorem dL_out_11 : decode cL_out 11 = .ok (.lastore, 1) := by decide +kernel
theorem dL_out_12 : decode cL_out 12 = .ok (.goto 11, 3) := by decide +kernel
theorem dL_out_15 : decode cL_out 15 = .ok (.astore 5, 2) := by decide +kernel
theorem dL_out_17 : decode cL_out 17 = .ok (.iconst 1, 1) := by decide +kernel
theorem dL_out_18 : decode cL_out 18 = .ok (.ireturn, 1) := by decide +kernel
theorem dL_out_19 : decode cL_out 19 = .ok (.astore 5, 2) := by decide +kernel
theorem dL_out_21 : decode cL_out 21 = .ok (.iconst 2, 1) := by decide +kernel
theorem dL_out_22 : decode cL_out 22 = .ok (.ireturn, 1) := by decide +kernel
theorem dL_out_23 : decode cL_out 23 = .ok (.iconst 0, 1) := by decide +kernel
theorem dL_out_24 : decode cL_out 24 = .ok (.ireturn, 1) := by decide +kernel
theorem dL_drops_0 : decode cL_drops 0 = .ok (.aload_n 2, 1) := by decide +kernel
theorem dL_drops_1 : decode cL_drops 1 = .ok (.iconst 0, 1) := by decide +kernel
theorem dL_drops_2 : decode cL_drops 2 = .ok (.aload_n 0, 1) := by decide +kernel
theorem dL_drops_3 : decode cL_drops 3 = .ok (.iload_n 1, 1) := by decide +kernel
theorem dL_drops_4 : decode cL_drops 4 = .ok (.invokevirtual 106, 3) := by decide +kernel
theorem dL_drops_7 : decode cL_drops 7 = .ok (.i2l, 1) := by decide +kernel
theorem dL_drops_8 : decode cL_drops 8 = .ok (.lastore, 1) := by decide +kernel
theorem dL_drops_9 : decode cL_drops 9 = .ok (.goto 6, 3) := by decide +kernel
theorem dL_drops_12 : decode cL_drops 12 = .ok (.astore_n 3, 1) := by decide +kernel
theorem dL_drops_13 : decode cL_drops 13 = .ok (.iconst 1, 1) := by decide +kernel
theorem dL_drops_14 : decode cL_drops 14 = .ok (.ireturn, 1) := by decide +kernel
theorem dL_drops_15 : decode cL_drops 15 = .ok (.iconst 0, 1) := by decide +kernel
theorem dL_drops_16 : decode cL_drops 16 = .ok (.ireturn, 1) := by decide +kernel
theorem dL_publicOf_0 : decode cL_publicOf 0 = .ok (.aload_n 2, 1) := by decide +kernel
theorem dL_publicOf_1 : decode cL_publicOf 1 = .ok (.iconst 0, 1) := by decide +kernel
theorem dL_publicOf_2 : decode cL_publicOf 2 = .ok (.aload_n 0, 1) := by decide +kernel
theorem dL_publicOf_3 : decode cL_publicOf 3 = .ok (.iload_n 1, 1) := by decide +kernel
theorem dL_publicOf_4 : decode cL_publicOf 4 = .ok (.invokevirtual 109, 3) := by decide +kernel
theorem dL_publicOf_7 : decode cL_publicOf 7 = .ok (.i2l, 1) := by decide +kernel
theorem dL_publicOf_8 : decode cL_publicOf 8 = .ok (.lastore, 1) := by decide +kernel
theorem dL_publicOf_9 : decode cL_publicOf 9 = .ok (.goto 6, 3) := by decide +kernel
theorem dL_publicOf_12 : decode cL_publicOf 12 = .ok (.astore_n 3, 1) := by decide +kernel
theorem dL_publicOf_13 : decode cL_publicOf 13 = .ok (.iconst 1, 1) := by decide +kernel
theorem dL_publicOf_14 : decode cL_publicOf 14 = .ok (.ireturn, 1) := by decide +kernel
theorem dL_publicOf_15 : decode cL_publicOf 15 = .ok (.iconst 0, 1) := by decide +kernel
theorem dL_publicOf_16 : decode cL_publicOf 16 = .ok (.ireturn, 1) := by decide +kernel
theorem dL_shared_0 : decode cL_shared 0 = .ok (.aload_n 3, 1) := by decide +kernel
theorem dL_shared_1 : decode cL_shared 1 = .ok (.iconst 0, 1) := by decide +kernel
theorem dL_shared_2 : decode cL_shared 2 = .ok (.aload_n 0, 1) := by decide +kernel
theorem dL_shared_3 : decode cL_shared 3 = .ok (.iload_n 1, 1) := by decide +kernel
theorem dL_shared_4 : decode cL_shared 4 = .ok (.iload_n 2, 1) := by decide +kernel
theorem dL_shared_5 : decode cL_shared 5 = .ok (.invokevirtual 112, 3) := by decide +kernel
theorem dL_shared_8 : decode cL_shared 8 = .ok (.i2l, 1) := by decide +kernel
theorem dL_shared_9 : decode cL_shared 9 = .ok (.lastore, 1) := by decide +kernel
theorem dL_shared_10 : decode cL_shared 10 = .ok (.goto 7, 3) := by decide +kernel
theorem dL_shared_13 : decode cL_shared 13 = .ok (.astore 4, 2) := by decide +kernel
theorem dL_shared_15 : decode cL_shared 15 = .ok (.iconst 1, 1) := by decide +kernel
theorem dL_shared_16 : decode cL_shared 16 = .ok (.ireturn, 1) := by decide +kernel
theorem dL_shared_17 : decode cL_shared 17 = .ok (.iconst 0, 1) := by decide +kernel
theorem dL_shared_18 : decode cL_shared 18 = .ok (.ireturn, 1) := by decide +kernel
theorem dL_seal_0 : decode cL_seal 0 = .ok (.aload 5, 2) := by decide +kernel
theorem dL_seal_2 : decode cL_seal 2 = .ok (.iconst 0, 1) := by decide +kernel
theorem dL_seal_3 : decode cL_seal 3 = .ok (.aload_n 0, 1) := by decide +kernel
theorem dL_seal_4 : decode cL_seal 4 = .ok (.iload_n 1, 1) := by decide +kernel
theorem dL_seal_5 : decode cL_seal 5 = .ok (.iload_n 2, 1) := by decide +kernel
theorem dL_seal_6 : decode cL_seal 6 = .ok (.iload_n 3, 1) := by decide +kernel
theorem dL_seal_7 : decode cL_seal 7 = .ok (.iload 4, 2) := by decide +kernel
theorem dL_seal_9 : decode cL_seal 9 = .ok (.invokevirtual 115, 3) := by decide +kernel
theorem dL_seal_12 : decode cL_seal 12 = .ok (.i2l, 1) := by decide +kernel
theorem dL_seal_13 : decode cL_seal 13 = .ok (.lastore, 1) := by decide +kernel
theorem dL_seal_14 : decode cL_seal 14 = .ok (.goto 7, 3) := by decide +kernel
theorem dL_seal_17 : decode cL_seal 17 = .ok (.astore 6, 2) := by decide +kernel
theorem dL_seal_19 : decode cL_seal 19 = .ok (.iconst 1, 1) := by decide +kernel
theorem dL_seal_20 : decode cL_seal 20 = .ok (.ireturn, 1) := by decide +kernel
theorem dL_seal_21 : decode cL_seal 21 = .ok (.iconst 0, 1) := by decide +kernel
theorem dL_seal_22 : decode cL_seal 22 = .ok (.ireturn, 1) := by decide +kernel
theorem dL_law_0 : decode cL_law 0 = .ok (.new 8, 3) := by decide +kernel
theorem dL_law_3 : decode cL_law 3 = .ok (.dup, 1) := by decide +kernel
theorem dL_law_4 : decode cL_law 4 = .ok (.invokespecial 118, 3) := by decide +kernel
theorem dL_law_7 : decode cL_law 7 = .ok (.astore_n 1, 1) := by decide +kernel
theorem dL_law_8 : decode cL_law 8 = .ok (.new 119, 3) := by decide +kernel
theorem dL_law_11 : decode cL_law 11 = .ok (.dup, 1) := by decide +kernel
theorem dL_law_12 : decode cL_law 12 = .ok (.invokespecial 121, 3) := by decide +kernel
theorem dL_law_15 : decode cL_law 15 = .ok (.astore_n 2, 1) := by decide +kernel
theorem dL_law_16 : decode cL_law 16 = .ok (.iconst 1, 1) := by decide +kernel
theorem dL_law_17 : decode cL_law 17 = .ok (.newarray .long, 2) := by decide +kernel
theorem dL_law_19 : decode cL_law 19 = .ok (.astore_n 3, 1) := by decide +kernel
theorem dL_law_20 : decode cL_law 20 = .ok (.iconst 0, 1) := by decide +kernel
theorem dL_law_21 : decode cL_law 21 = .ok (.istore 4, 2) := by decide +kernel
theorem dL_law_23 : decode cL_law 23 = .ok (.iload 4, 2) := by decide +kernel
theorem dL_law_25 : decode cL_law 25 = .ok (.aload_n 0, 1) := by decide +kernel
theorem dL_law_26 : decode cL_law 26 = .ok (.arraylength, 1) := by decide +kernel
theorem dL_law_27 : decode cL_law 27 = .ok (.iconst 5, 1) := by decide +kernel
theorem dL_law_28 : decode cL_law 28 = .ok (.isub, 1) := by decide +kernel
theorem dL_law_29 : decode cL_law 29 = .ok (.if_icmp .gt 2506, 3) := by decide +kernel
theorem dL_law_32 : decode cL_law 32 = .ok (.aload_n 0, 1) := by decide +kernel
theorem dL_law_33 : decode cL_law 33 = .ok (.iload 4, 2) := by decide +kernel
theorem dL_law_35 : decode cL_law 35 = .ok (.iaload, 1) := by decide +kernel
theorem dL_law_36 : decode cL_law 36 = .ok (.bipush 63, 2) := by decide +kernel
theorem dL_law_38 : decode cL_law 38 = .ok (.iand, 1) := by decide +kernel
theorem dL_law_39 : decode cL_law 39 = .ok (.tableswitch 2490 0 36 #[161, 217, 285, 376, 468, 548, 640, 715, 783, 839, 895, 951, 1031, 1099, 1155, 1168, 1181, 1249, 1312, 1368, 1436, 1504, 1596, 1671, 1739, 1807, 1875, 1971, 2027, 2107, 2163, 2219, 2287, 2379, 2422, 2463, 2476], 161) := by decide +kernel
theorem dL_law_200 : decode cL_law 200 = .ok (.aload_n 1, 1) := by decide +kernel
theorem dL_law_201 : decode cL_law 201 = .ok (.aload_n 0, 1) := by decide +kernel
theorem dL_law_202 : decode cL_law 202 = .ok (.iload 4, 2) := by decide +kernel
theorem dL_law_204 : decode cL_law 204 = .ok (.iconst 1, 1) := by decide +kernel
theorem dL_law_205 : decode cL_law 205 = .ok (.iadd, 1) := by decide +kernel
theorem dL_law_206 : decode cL_law 206 = .ok (.iaload, 1) := by decide +kernel
theorem dL_law_207 : decode cL_law 207 = .ok (.aload_n 3, 1) := by decide +kernel
theorem dL_law_208 : decode cL_law 208 = .ok (.invokestatic 122, 3) := by decide +kernel
theorem dL_law_211 : decode cL_law 211 = .ok (.istore 5, 2) := by decide +kernel
theorem dL_law_213 : decode cL_law 213 = .ok (.aload_n 2, 1) := by decide +kernel
theorem dL_law_214 : decode cL_law 214 = .ok (.aload_n 0, 1) := by decide +kernel
theorem dL_law_215 : decode cL_law 215 = .ok (.iload 4, 2) := by decide +kernel
theorem dL_law_217 : decode cL_law 217 = .ok (.iconst 1, 1) := by decide +kernel
theorem dL_law_218 : decode cL_law 218 = .ok (.iadd, 1) := by decide +kernel
theorem dL_law_219 : decode cL_law 219 = .ok (.iaload, 1) := by decide +kernel
theorem dL_law_220 : decode cL_law 220 = .ok (.invokevirtual 127, 3) := by decide +kernel
theorem dL_law_223 : decode cL_law 223 = .ok (.istore 6, 2) := by decide +kernel
theorem dL_law_225 : decode cL_law 225 = .ok (.aload_n 2, 1) := by decide +kernel
theorem dL_law_226 : decode cL_law 226 = .ok (.invokevirtual 128, 3) := by decide +kernel
theorem dL_law_229 : decode cL_law 229 = .ok (.iload 5, 2) := by decide +kernel
theorem dL_law_231 : decode cL_law 231 = .ok (.if_icmp .eq 5, 3) := by decide +kernel
theorem dL_law_234 : decode cL_law 234 = .ok (.iconst 0, 1) := by decide +kernel
theorem dL_law_235 : decode cL_law 235 = .ok (.ireturn, 1) := by decide +kernel
theorem dL_law_236 : decode cL_law 236 = .ok (.iload 5, 2) := by decide +kernel
theorem dL_law_238 : decode cL_law 238 = .ok (.ifCond .ne 15, 3) := by decide +kernel
theorem dL_law_241 : decode cL_law 241 = .ok (.aload_n 3, 1) := by decide +kernel
theorem dL_law_242 : decode cL_law 242 = .ok (.iconst 0, 1) := by decide +kernel
theorem dL_law_243 : decode cL_law 243 = .ok (.laload, 1) := by decide +kernel
theorem dL_law_244 : decode cL_law 244 = .ok (.iload 6, 2) := by decide +kernel
theorem dL_law_246 : decode cL_law 246 = .ok (.i2l, 1) := by decide +kernel
theorem dL_law_247 : decode cL_law 247 = .ok (.lcmp, 1) := by decide +kernel
theorem dL_law_248 : decode cL_law 248 = .ok (.ifCond .eq 5, 3) := by decide +kernel
theorem dL_law_251 : decode cL_law 251 = .ok (.iconst 0, 1) := by decide +kernel
theorem dL_law_252 : decode cL_law 252 = .ok (.ireturn, 1) := by decide +kernel
theorem dL_law_253 : decode cL_law 253 = .ok (.goto 2276, 3) := by decide +kernel
theorem dL_law_256 : decode cL_law 256 = .ok (.aload_n 1, 1) := by decide +kernel
theorem dL_law_257 : decode cL_law 257 = .ok (.aload_n 0, 1) := by decide +kernel
theorem dL_law_258 : decode cL_law 258 = .ok (.iload 4, 2) := by decide +kernel
theorem dL_law_260 : decode cL_law 260 = .ok (.iconst 1, 1) := by decide +kernel
theorem dL_law_261 : decode cL_law 261 = .ok (.iadd, 1) := by decide +kernel
theorem dL_law_262 : decode cL_law 262 = .ok (.iaload, 1) := by decide +kernel
theorem dL_law_263 : decode cL_law 263 = .ok (.aload_n 0, 1) := by decide +kernel
theorem dL_law_264 : decode cL_law 264 = .ok (.iload 4, 2) := by decide +kernel
theorem dL_law_266 : decode cL_law 266 = .ok (.iconst 2, 1) := by decide +kernel
theorem dL_law_267 : decode cL_law 267 = .ok (.iadd, 1) := by decide +kernel
theorem dL_law_268 : decode cL_law 268 = .ok (.iaload, 1) := by decide +kernel
theorem dL_law_269 : decode cL_law 269 = .ok (.aload_n 3, 1) := by decide +kernel
theorem dL_law_270 : decode cL_law 270 = .ok (.invokestatic 132, 3) := by decide +kernel
theorem dL_law_273 : decode cL_law 273 = .ok (.istore 5, 2) := by decide +kernel
theorem dL_law_275 : decode cL_law 275 = .ok (.aload_n 2, 1) := by decide +kernel
theorem dL_law_276 : decode cL_law 276 = .ok (.aload_n 0, 1) := by decide +kernel
theorem dL_law_277 : decode cL_law 277 = .ok (.iload 4, 2) := by decide +kernel
theorem dL_law_279 : decode cL_law 279 = .ok (.iconst 1, 1) := by decide +kernel
theorem dL_law_280 : decode cL_law 280 = .ok (.iadd, 1) := by decide +kernel
theorem dL_law_281 : decode cL_law 281 = .ok (.iaload, 1) := by decide +kernel
theorem dL_law_282 : decode cL_law 282 = .ok (.aload_n 0, 1) := by decide +kernel
theorem dL_law_283 : decode cL_law 283 = .ok (.iload 4, 2) := by decide +kernel
theorem dL_law_285 : decode cL_law 285 = .ok (.iconst 2, 1) := by decide +kernel
theorem dL_law_286 : decode cL_law 286 = .ok (.iadd, 1) := by decide +kernel
theorem dL_law_287 : decode cL_law 287 = .ok (.iaload, 1) := by decide +kernel
theorem dL_law_288 : decode cL_law 288 = .ok (.invokevirtual 135, 3) := by decide +kernel
theorem dL_law_291 : decode cL_law 291 = .ok (.istore 6, 2) := by decide +kernel
theorem dL_law_293 : decode cL_law 293 = .ok (.aload_n 2, 1) := by decide +kernel
theorem dL_law_294 : decode cL_law 294 = .ok (.invokevirtual 128, 3) := by decide +kernel
theorem dL_law_297 : decode cL_law 297 = .ok (.iload 5, 2) := by decide +kernel
theorem dL_law_299 : decode cL_law 299 = .ok (.if_icmp .eq 5, 3) := by decide +kernel
theorem dL_law_302 : decode cL_law 302 = .ok (.iconst 0, 1) := by decide +kernel
theorem dL_law_303 : decode cL_law 303 = .ok (.ireturn, 1) := by decide +kernel
theorem dL_law_304 : decode cL_law 304 = .ok (.iload 5, 2) := by decide +kernel
theorem dL_law_306 : decode cL_law 306 = .ok (.ifCond .ne 15, 3) := by decide +kernel
theorem dL_law_309 : decode cL_law 309 = .ok (.aload_n 3, 1) := by decide +kernel
theorem dL_law_310 : decode cL_law 310 = .ok (.iconst 0, 1) := by decide +kernel
theorem dL_law_311 : decode cL_law 311 = .ok (.laload, 1) := by decide +kernel
theorem dL_law_312 : decode cL_law 312 = .ok (.iload 6, 2) := by decide +kernel
theorem dL_law_314 : decode cL_law 314 = .ok (.i2l, 1) := by decide +kernel
theorem dL_law_315 : decode cL_law 315 = .ok (.lcmp, 1) := by decide +kernel
theorem dL_law_316 : decode cL_law 316 = .ok (.ifCond .eq 5, 3) := by decide +kernel
theorem dL_law_319 : decode cL_law 319 = .ok (.iconst 0, 1) := by decide +kernel
theorem dL_law_320 : decode cL_law 320 = .ok (.ireturn, 1) := by decide +kernel
theorem dL_law_321 : decode cL_law 321 = .ok (.goto 2208, 3) := by decide +kernel
theorem dL_law_324 : decode cL_law 324 = .ok (.aload_n 1, 1) := by decide +kernel
theorem dL_law_325 : decode cL_law 325 = .ok (.aload_n 0, 1) := by decide +kernel
theorem dL_law_326 : decode cL_law 326 = .ok (.iload 4, 2) := by decide +kernel
theorem dL_law_328 : decode cL_law 328 = .ok (.iconst 1, 1) := by decide +kernel
theorem dL_law_329 : decode cL_law 329 = .ok (.iadd, 1) := by decide +kernel
theorem dL_law_330 : decode cL_law 330 = .ok (.iaload, 1) := by decide +kernel
theorem dL_law_331 : decode cL_law 331 = .ok (.aload_n 0, 1) := by decide +kernel
theorem dL_law_332 : decode cL_law 332 = .ok (.iload 4, 2) := by decide +kernel
theorem dL_law_334 : decode cL_law 334 = .ok (.iconst 2, 1) := by decide +kernel
theorem dL_law_335 : decode cL_law 335 = .ok (.iadd, 1) := by decide +kernel
theorem dL_law_336 : decode cL_law 336 = .ok (.iaload, 1) := by decide +kernel
theorem dL_law_337 : decode cL_law 337 = .ok (.ifCond .eq 7, 3) := by decide +kernel
theorem dL_law_340 : decode cL_law 340 = .ok (.iconst 1, 1) := by decide +kernel
theorem dL_law_341 : decode cL_law 341 = .ok (.goto 4, 3) := by decide +kernel
theorem dL_law_344 : decode cL_law 344 = .ok (.iconst 0, 1) := by decide +kernel
theorem dL_law_345 : decode cL_law 345 = .ok (.aload_n 3, 1) := by decide +kernel
theorem dL_law_346 : decode cL_law 346 = .ok (.invokestatic 136, 3) := by decide +kernel
theorem dL_law_349 : decode cL_law 349 = .ok (.istore 5, 2) := by decide +kernel
theorem dL_law_351 : decode cL_law 351 = .ok (.aload_n 2, 1) := by decide +kernel
theorem dL_law_352 : decode cL_law 352 = .ok (.aload_n 0, 1) := by decide +kernel
theorem dL_law_353 : decode cL_law 353 = .ok (.iload 4, 2) := by decide +kernel
theorem dL_law_355 : decode cL_law 355 = .ok (.iconst 1, 1) := by decide +kernel
theorem dL_law_356 : decode cL_law 356 = .ok (.iadd, 1) := by decide +kernel
theorem dL_law_357 : decode cL_law 357 = .ok (.iaload, 1) := by decide +kernel
theorem dL_law_358 : decode cL_law 358 = .ok (.aload_n 0, 1) := by decide +kernel
theorem dL_law_359 : decode cL_law 359 = .ok (.iload 4, 2) := by decide +kernel
theorem dL_law_361 : decode cL_law 361 = .ok (.iconst 2, 1) := by decide +kernel
theorem dL_law_362 : decode cL_law 362 = .ok (.iadd, 1) := by decide +kernel
theorem dL_law_363 : decode cL_law 363 = .ok (.iaload, 1) := by decide +kernel
theorem dL_law_364 : decode cL_law 364 = .ok (.ifCond .eq 7, 3) := by decide +kernel
theorem dL_law_367 : decode cL_law 367 = .ok (.iconst 1, 1) := by decide +kernel
theorem dL_law_368 : decode cL_law 368 = .ok (.goto 4, 3) := by decide +kernel
theorem dL_law_371 : decode cL_law 371 = .ok (.iconst 0, 1) := by decide +kernel
theorem dL_law_372 : decode cL_law 372 = .ok (.invokevirtual 139, 3) := by decide +kernel
theorem dL_law_375 : decode cL_law 375 = .ok (.istore 6, 2) := by decide +kernel
theorem dL_law_377 : decode cL_law 377 = .ok (.aload_n 2, 1) := by decide +kernel
theorem dL_law_378 : decode cL_law 378 = .ok (.invokevirtual 128, 3) := by decide +kernel
theorem dL_law_381 : decode cL_law 381 = .ok (.iload 5, 2) := by decide +kernel
theorem dL_law_383 : decode cL_law 383 = .ok (.if_icmp .eq 5, 3) := by decide +kernel
theorem dL_law_386 : decode cL_law 386 = .ok (.iconst 0, 1) := by decide +kernel
theorem dL_law_387 : decode cL_law 387 = .ok (.ireturn, 1) := by decide +kernel
theorem dL_law_388 : decode cL_law 388 = .ok (.iload 5, 2) := by decide +kernel
theorem dL_law_390 : decode cL_law 390 = .ok (.ifCond .ne 22, 3) := by decide +kernel
theorem dL_law_393 : decode cL_law 393 = .ok (.aload_n 3, 1) := by decide +kernel
theorem dL_law_394 : decode cL_law 394 = .ok (.iconst 0, 1) := by decide +kernel
theorem dL_law_395 : decode cL_law 395 = .ok (.laload, 1) := by decide +kernel
theorem dL_law_396 : decode cL_law 396 = .ok (.iload 6, 2) := by decide +kernel
theorem dL_law_398 : decode cL_law 398 = .ok (.ifCond .eq 7, 3) := by decide +kernel
theorem dL_law_401 : decode cL_law 401 = .ok (.lconst 1, 1) := by decide +kernel
theorem dL_law_402 : decode cL_law 402 = .ok (.goto 4, 3) := by decide +kernel
theorem dL_law_405 : decode cL_law 405 = .ok (.lconst 0, 1) := by decide +kernel
theorem dL_law_406 : decode cL_law 406 = .ok (.lcmp, 1) := by decide +kernel
theorem dL_law_407 : decode cL_law 407 = .ok (.ifCond .eq 5, 3) := by decide +kernel
theorem dL_law_410 : decode cL_law 410 = .ok (.iconst 0, 1) := by decide +kernel
theorem dL_law_411 : decode cL_law 411 = .ok (.ireturn, 1) := by decide +kernel
theorem dL_law_412 : decode cL_law 412 = .ok (.goto 2117, 3) := by decide +kernel
theorem dL_law_415 : decode cL_law 415 = .ok (.aload_n 1, 1) := by decide +kernel
theorem dL_law_416 : decode cL_law 416 = .ok (.aload_n 0, 1) := by decide +kernel
theorem dL_law_417 : decode cL_law 417 = .ok (.iload 4, 2) := by decide +kernel
theorem dL_law_419 : decode cL_law 419 = .ok (.iconst 1, 1) := by decide +kernel
theorem dL_law_420 : decode cL_law 420 = .ok (.iadd, 1) := by decide +kernel
theorem dL_law_421 : decode cL_law 421 = .ok (.iaload, 1) := by decide +kernel
theorem dL_law_422 : decode cL_law 422 = .ok (.aload_n 0, 1) := by decide +kernel
theorem dL_law_423 : decode cL_law 423 = .ok (.iload 4, 2) := by decide +kernel
theorem dL_law_425 : decode cL_law 425 = .ok (.iconst 2, 1) := by decide +kernel
theorem dL_law_426 : decode cL_law 426 = .ok (.iadd, 1) := by decide +kernel
theorem dL_law_427 : decode cL_law 427 = .ok (.iaload, 1) := by decide +kernel
theorem dL_law_428 : decode cL_law 428 = .ok (.aload_n 0, 1) := by decide +kernel
theorem dL_law_429 : decode cL_law 429 = .ok (.iload 4, 2) := by decide +kernel
theorem dL_law_431 : decode cL_law 431 = .ok (.iconst 3, 1) := by decide +kernel
theorem dL_law_432 : decode cL_law 432 = .ok (.iadd, 1) := by decide +kernel
theorem dL_law_433 : decode cL_law 433 = .ok (.iaload, 1) := by decide +kernel
theorem dL_law_434 : decode cL_law 434 = .ok (.aload_n 0, 1) := by decide +kernel
theorem dL_law_435 : decode cL_law 435 = .ok (.iload 4, 2) := by decide +kernel
theorem dL_law_437 : decode cL_law 437 = .ok (.iconst 4, 1) := by decide +kernel
theorem dL_law_438 : decode cL_law 438 = .ok (.iadd, 1) := by decide +kernel
theorem dL_law_439 : decode cL_law 439 = .ok (.iaload, 1) := by decide +kernel
theorem dL_law_440 : decode cL_law 440 = .ok (.aload_n 3, 1) := by decide +kernel
theorem dL_law_441 : decode cL_law 441 = .ok (.invokestatic 140, 3) := by decide +kernel
theorem dL_law_444 : decode cL_law 444 = .ok (.istore 5, 2) := by decide +kernel
theorem dL_law_446 : decode cL_law 446 = .ok (.aload_n 2, 1) := by decide +kernel
theorem dL_law_447 : decode cL_law 447 = .ok (.aload_n 0, 1) := by decide +kernel
theorem dL_law_448 : decode cL_law 448 = .ok (.iload 4, 2) := by decide +kernel
theorem dL_law_450 : decode cL_law 450 = .ok (.iconst 1, 1) := by decide +kernel
theorem dL_law_451 : decode cL_law 451 = .ok (.iadd, 1) := by decide +kernel
theorem dL_law_452 : decode cL_law 452 = .ok (.iaload, 1) := by decide +kernel
theorem dL_law_453 : decode cL_law 453 = .ok (.aload_n 0, 1) := by decide +kernel
theorem dL_law_454 : decode cL_law 454 = .ok (.iload 4, 2) := by decide +kernel
theorem dL_law_456 : decode cL_law 456 = .ok (.iconst 2, 1) := by decide +kernel
theorem dL_law_457 : decode cL_law 457 = .ok (.iadd, 1) := by decide +kernel
theorem dL_law_458 : decode cL_law 458 = .ok (.iaload, 1) := by decide +kernel
theorem dL_law_459 : decode cL_law 459 = .ok (.aload_n 0, 1) := by decide +kernel
theorem dL_law_460 : decode cL_law 460 = .ok (.iload 4, 2) := by decide +kernel
theorem dL_law_462 : decode cL_law 462 = .ok (.iconst 3, 1) := by decide +kernel
theorem dL_law_463 : decode cL_law 463 = .ok (.iadd, 1) := by decide +kernel
theorem dL_law_464 : decode cL_law 464 = .ok (.iaload, 1) := by decide +kernel
theorem dL_law_465 : decode cL_law 465 = .ok (.aload_n 0, 1) := by decide +kernel
theorem dL_law_466 : decode cL_law 466 = .ok (.iload 4, 2) := by decide +kernel
theorem dL_law_468 : decode cL_law 468 = .ok (.iconst 4, 1) := by decide +kernel
theorem dL_law_469 : decode cL_law 469 = .ok (.iadd, 1) := by decide +kernel
theorem dL_law_470 : decode cL_law 470 = .ok (.iaload, 1) := by decide +kernel
theorem dL_law_471 : decode cL_law 471 = .ok (.invokevirtual 143, 3) := by decide +kernel
theorem dL_law_474 : decode cL_law 474 = .ok (.istore 6, 2) := by decide +kernel
theorem dL_law_476 : decode cL_law 476 = .ok (.aload_n 2, 1) := by decide +kernel
theorem dL_law_477 : decode cL_law 477 = .ok (.invokevirtual 128, 3) := by decide +kernel
theorem dL_law_480 : decode cL_law 480 = .ok (.iload 5, 2) := by decide +kernel
theorem dL_law_482 : decode cL_law 482 = .ok (.if_icmp .eq 5, 3) := by decide +kernel
theorem dL_law_485 : decode cL_law 485 = .ok (.iconst 0, 1) := by decide +kernel
theorem dL_law_486 : decode cL_law 486 = .ok (.ireturn, 1) := by decide +kernel
theorem dL_law_487 : decode cL_law 487 = .ok (.iload 5, 2) := by decide +kernel
theorem dL_law_489 : decode cL_law 489 = .ok (.ifCond .ne 15, 3) := by decide +kernel
theorem dL_law_492 : decode cL_law 492 = .ok (.aload_n 3, 1) := by decide +kernel
theorem dL_law_493 : decode cL_law 493 = .ok (.iconst 0, 1) := by decide +kernel
theorem dL_law_494 : decode cL_law 494 = .ok (.laload, 1) := by decide +kernel
theorem dL_law_495 : decode cL_law 495 = .ok (.iload 6, 2) := by decide +kernel
theorem dL_law_497 : decode cL_law 497 = .ok (.i2l, 1) := by decide +kernel
theorem dL_law_498 : decode cL_law 498 = .ok (.lcmp, 1) := by decide +kernel
theorem dL_law_499 : decode cL_law 499 = .ok (.ifCond .eq 5, 3) := by decide +kernel
theorem dL_law_502 : decode cL_law 502 = .ok (.iconst 0, 1) := by decide +kernel
theorem dL_law_503 : decode cL_law 503 = .ok (.ireturn, 1) := by decide +kernel
theorem dL_law_504 : decode cL_law 504 = .ok (.goto 2025, 3) := by decide +kernel
theorem dL_law_507 : decode cL_law 507 = .ok (.aload_n 1, 1) := by decide +kernel
theorem dL_law_508 : decode cL_law 508 = .ok (.aload_n 0, 1) := by decide +kernel
theorem dL_law_509 : decode cL_law 509 = .ok (.iload 4, 2) := by decide +kernel
theorem dL_law_511 : decode cL_law 511 = .ok (.iconst 1, 1) := by decide +kernel
theorem dL_law_512 : decode cL_law 512 = .ok (.iadd, 1) := by decide +kernel
theorem dL_law_513 : decode cL_law 513 = .ok (.iaload, 1) := by decide +kernel
theorem dL_law_514 : decode cL_law 514 = .ok (.aload_n 0, 1) := by decide +kernel
theorem dL_law_515 : decode cL_law 515 = .ok (.iload 4, 2) := by decide +kernel
theorem dL_law_517 : decode cL_law 517 = .ok (.iconst 2, 1) := by decide +kernel
theorem dL_law_518 : decode cL_law 518 = .ok (.iadd, 1) := by decide +kernel
theorem dL_law_519 : decode cL_law 519 = .ok (.iaload, 1) := by decide +kernel
theorem dL_law_520 : decode cL_law 520 = .ok (.aload_n 0, 1) := by decide +kernel
theorem dL_law_521 : decode cL_law 521 = .ok (.iload 4, 2) := by decide +kernel
theorem dL_law_523 : decode cL_law 523 = .ok (.iconst 3, 1) := by decide +kernel
theorem dL_law_524 : decode cL_law 524 = .ok (.iadd, 1) := by decide +kernel
theorem dL_law_525 : decode cL_law 525 = .ok (.iaload, 1) := by decide +kernel
theorem dL_law_526 : decode cL_law 526 = .ok (.aload_n 3, 1) := by decide +kernel
theorem dL_law_527 : decode cL_law 527 = .ok (.invokestatic 144, 3) := by decide +kernel
theorem dL_law_530 : decode cL_law 530 = .ok (.istore 5, 2) := by decide +kernel
theorem dL_law_532 : decode cL_law 532 = .ok (.aload_n 2, 1) := by decide +kernel
theorem dL_law_533 : decode cL_law 533 = .ok (.aload_n 0, 1) := by decide +kernel
theorem dL_law_534 : decode cL_law 534 = .ok (.iload 4, 2) := by decide +kernel
theorem dL_law_536 : decode cL_law 536 = .ok (.iconst 1, 1) := by decide +kernel
theorem dL_law_537 : decode cL_law 537 = .ok (.iadd, 1) := by decide +kernel
theorem dL_law_538 : decode cL_law 538 = .ok (.iaload, 1) := by decide +kernel
theorem dL_law_539 : decode cL_law 539 = .ok (.aload_n 0, 1) := by decide +kernel
theorem dL_law_540 : decode cL_law 540 = .ok (.iload 4, 2) := by decide +kernel
theorem dL_law_542 : decode cL_law 542 = .ok (.iconst 2, 1) := by decide +kernel
theorem dL_law_543 : decode cL_law 543 = .ok (.iadd, 1) := by decide +kernel
theorem dL_law_544 : decode cL_law 544 = .ok (.iaload, 1) := by decide +kernel
theorem dL_law_545 : decode cL_law 545 = .ok (.aload_n 0, 1) := by decide +kernel
theorem dL_law_546 : decode cL_law 546 = .ok (.iload 4, 2) := by decide +kernel
theorem dL_law_548 : decode cL_law 548 = .ok (.iconst 3, 1) := by decide +kernel
theorem dL_law_549 : decode cL_law 549 = .ok (.iadd, 1) := by decide +kernel
theorem dL_law_550 : decode cL_law 550 = .ok (.iaload, 1) := by decide +kernel
theorem dL_law_551 : decode cL_law 551 = .ok (.invokevirtual 147, 3) := by decide +kernel
theorem dL_law_554 : decode cL_law 554 = .ok (.istore 6, 2) := by decide +kernel
theorem dL_law_556 : decode cL_law 556 = .ok (.aload_n 2, 1) := by decide +kernel
theorem dL_law_557 : decode cL_law 557 = .ok (.invokevirtual 128, 3) := by decide +kernel
theorem dL_law_560 : decode cL_law 560 = .ok (.iload 5, 2) := by decide +kernel
theorem dL_law_562 : decode cL_law 562 = .ok (.if_icmp .eq 5, 3) := by decide +kernel
theorem dL_law_565 : decode cL_law 565 = .ok (.iconst 0, 1) := by decide +kernel
theorem dL_law_566 : decode cL_law 566 = .ok (.ireturn, 1) := by decide +kernel
theorem dL_law_567 : decode cL_law 567 = .ok (.iload 5, 2) := by decide +kernel
theorem dL_law_569 : decode cL_law 569 = .ok (.ifCond .ne 15, 3) := by decide +kernel
theorem dL_law_572 : decode cL_law 572 = .ok (.aload_n 3, 1) := by decide +kernel
theorem dL_law_573 : decode cL_law 573 = .ok (.iconst 0, 1) := by decide +kernel
theorem dL_law_574 : decode cL_law 574 = .ok (.laload, 1) := by decide +kernel
theorem dL_law_575 : decode cL_law 575 = .ok (.iload 6, 2) := by decide +kernel
theorem dL_law_577 : decode cL_law 577 = .ok (.i2l, 1) := by decide +kernel
theorem dL_law_578 : decode cL_law 578 = .ok (.lcmp, 1) := by decide +kernel
theorem dL_law_579 : decode cL_law 579 = .ok (.ifCond .eq 5, 3) := by decide +kernel
theorem dL_law_582 : decode cL_law 582 = .ok (.iconst 0, 1) := by decide +kernel
theorem dL_law_583 : decode cL_law 583 = .ok (.ireturn, 1) := by decide +kernel
theorem dL_law_584 : decode cL_law 584 = .ok (.goto 1945, 3) := by decide +kernel
theorem dL_law_587 : decode cL_law 587 = .ok (.aload_n 1, 1) := by decide +kernel
theorem dL_law_588 : decode cL_law 588 = .ok (.aload_n 0, 1) := by decide +kernel
theorem dL_law_589 : decode cL_law 589 = .ok (.iload 4, 2) := by decide +kernel
theorem dL_law_591 : decode cL_law 591 = .ok (.iconst 1, 1) := by decide +kernel
theorem dL_law_592 : decode cL_law 592 = .ok (.iadd, 1) := by decide +kernel
theorem dL_law_593 : decode cL_law 593 = .ok (.iaload, 1) := by decide +kernel
theorem dL_law_594 : decode cL_law 594 = .ok (.aload_n 0, 1) := by decide +kernel
theorem dL_law_595 : decode cL_law 595 = .ok (.iload 4, 2) := by decide +kernel
theorem dL_law_597 : decode cL_law 597 = .ok (.iconst 2, 1) := by decide +kernel
theorem dL_law_598 : decode cL_law 598 = .ok (.iadd, 1) := by decide +kernel
theorem dL_law_599 : decode cL_law 599 = .ok (.iaload, 1) := by decide +kernel
theorem dL_law_600 : decode cL_law 600 = .ok (.aload_n 0, 1) := by decide +kernel
theorem dL_law_601 : decode cL_law 601 = .ok (.iload 4, 2) := by decide +kernel
theorem dL_law_603 : decode cL_law 603 = .ok (.iconst 3, 1) := by decide +kernel
theorem dL_law_604 : decode cL_law 604 = .ok (.iadd, 1) := by decide +kernel
theorem dL_law_605 : decode cL_law 605 = .ok (.iaload, 1) := by decide +kernel
theorem dL_law_606 : decode cL_law 606 = .ok (.aload_n 0, 1) := by decide +kernel
theorem dL_law_607 : decode cL_law 607 = .ok (.iload 4, 2) := by decide +kernel
theorem dL_law_609 : decode cL_law 609 = .ok (.iconst 4, 1) := by decide +kernel
theorem dL_law_610 : decode cL_law 610 = .ok (.iadd, 1) := by decide +kernel
theorem dL_law_611 : decode cL_law 611 = .ok (.iaload, 1) := by decide +kernel
theorem dL_law_612 : decode cL_law 612 = .ok (.aload_n 3, 1) := by decide +kernel
theorem dL_law_613 : decode cL_law 613 = .ok (.invokestatic 148, 3) := by decide +kernel
theorem dL_law_616 : decode cL_law 616 = .ok (.istore 5, 2) := by decide +kernel
theorem dL_law_618 : decode cL_law 618 = .ok (.aload_n 2, 1) := by decide +kernel
theorem dL_law_619 : decode cL_law 619 = .ok (.aload_n 0, 1) := by decide +kernel
theorem dL_law_620 : decode cL_law 620 = .ok (.iload 4, 2) := by decide +kernel
theorem dL_law_622 : decode cL_law 622 = .ok (.iconst 1, 1) := by decide +kernel
theorem dL_law_623 : decode cL_law 623 = .ok (.iadd, 1) := by decide +kernel
theorem dL_law_624 : decode cL_law 624 = .ok (.iaload, 1) := by decide +kernel
theorem dL_law_625 : decode cL_law 625 = .ok (.aload_n 0, 1) := by decide +kernel
theorem dL_law_626 : decode cL_law 626 = .ok (.iload 4, 2) := by decide +kernel
theorem dL_law_628 : decode cL_law 628 = .ok (.iconst 2, 1) := by decide +kernel
theorem dL_law_629 : decode cL_law 629 = .ok (.iadd, 1) := by decide +kernel
theorem dL_law_630 : decode cL_law 630 = .ok (.iaload, 1) := by decide +kernel
theorem dL_law_631 : decode cL_law 631 = .ok (.aload_n 0, 1) := by decide +kernel
theorem dL_law_632 : decode cL_law 632 = .ok (.iload 4, 2) := by decide +kernel
theorem dL_law_634 : decode cL_law 634 = .ok (.iconst 3, 1) := by decide +kernel
theorem dL_law_635 : decode cL_law 635 = .ok (.iadd, 1) := by decide +kernel
theorem dL_law_636 : decode cL_law 636 = .ok (.iaload, 1) := by decide +kernel
theorem dL_law_637 : decode cL_law 637 = .ok (.aload_n 0, 1) := by decide +kernel
theorem dL_law_638 : decode cL_law 638 = .ok (.iload 4, 2) := by decide +kernel
theorem dL_law_640 : decode cL_law 640 = .ok (.iconst 4, 1) := by decide +kernel
theorem dL_law_641 : decode cL_law 641 = .ok (.iadd, 1) := by decide +kernel
theorem dL_law_642 : decode cL_law 642 = .ok (.iaload, 1) := by decide +kernel
theorem dL_law_643 : decode cL_law 643 = .ok (.invokevirtual 150, 3) := by decide +kernel
theorem dL_law_646 : decode cL_law 646 = .ok (.istore 6, 2) := by decide +kernel
theorem dL_law_648 : decode cL_law 648 = .ok (.aload_n 2, 1) := by decide +kernel
theorem dL_law_649 : decode cL_law 649 = .ok (.invokevirtual 128, 3) := by decide +kernel
theorem dL_law_652 : decode cL_law 652 = .ok (.iload 5, 2) := by decide +kernel
theorem dL_law_654 : decode cL_law 654 = .ok (.if_icmp .eq 5, 3) := by decide +kernel
theorem dL_law_657 : decode cL_law 657 = .ok (.iconst 0, 1) := by decide +kernel
theorem dL_law_658 : decode cL_law 658 = .ok (.ireturn, 1) := by decide +kernel
theorem dL_law_659 : decode cL_law 659 = .ok (.iload 5, 2) := by decide +kernel
theorem dL_law_661 : decode cL_law 661 = .ok (.ifCond .ne 15, 3) := by decide +kernel
theorem dL_law_664 : decode cL_law 664 = .ok (.aload_n 3, 1) := by decide +kernel
theorem dL_law_665 : decode cL_law 665 = .ok (.iconst 0, 1) := by decide +kernel
theorem dL_law_666 : decode cL_law 666 = .ok (.laload, 1) := by decide +kernel
theorem dL_law_667 : decode cL_law 667 = .ok (.iload 6, 2) := by decide +kernel
theorem dL_law_669 : decode cL_law 669 = .ok (.i2l, 1) := by decide +kernel
theorem dL_law_670 : decode cL_law 670 = .ok (.lcmp, 1) := by decide +kernel
theorem dL_law_671 : decode cL_law 671 = .ok (.ifCond .eq 5, 3) := by decide +kernel
theorem dL_law_674 : decode cL_law 674 = .ok (.iconst 0, 1) := by decide +kernel
theorem dL_law_675 : decode cL_law 675 = .ok (.ireturn, 1) := by decide +kernel
theorem dL_law_676 : decode cL_law 676 = .ok (.goto 1853, 3) := by decide +kernel
theorem dL_law_679 : decode cL_law 679 = .ok (.aload_n 1, 1) := by decide +kernel
theorem dL_law_680 : decode cL_law 680 = .ok (.aload_n 0, 1) := by decide +kernel
theorem dL_law_681 : decode cL_law 681 = .ok (.iload 4, 2) := by decide +kernel
theorem dL_law_683 : decode cL_law 683 = .ok (.iconst 1, 1) := by decide +kernel
theorem dL_law_684 : decode cL_law 684 = .ok (.iadd, 1) := by decide +kernel
theorem dL_law_685 : decode cL_law 685 = .ok (.iaload, 1) := by decide +kernel
theorem dL_law_686 : decode cL_law 686 = .ok (.aload_n 0, 1) := by decide +kernel
theorem dL_law_687 : decode cL_law 687 = .ok (.iload 4, 2) := by decide +kernel
theorem dL_law_689 : decode cL_law 689 = .ok (.iconst 2, 1) := by decide +kernel
theorem dL_law_690 : decode cL_law 690 = .ok (.iadd, 1) := by decide +kernel
theorem dL_law_691 : decode cL_law 691 = .ok (.iaload, 1) := by decide +kernel
theorem dL_law_692 : decode cL_law 692 = .ok (.aload_n 3, 1) := by decide +kernel
theorem dL_law_693 : decode cL_law 693 = .ok (.invokestatic 151, 3) := by decide +kernel
theorem dL_law_696 : decode cL_law 696 = .ok (.istore 5, 2) := by decide +kernel
theorem dL_law_698 : decode cL_law 698 = .ok (.aload_n 2, 1) := by decide +kernel
theorem dL_law_699 : decode cL_law 699 = .ok (.aload_n 0, 1) := by decide +kernel
theorem dL_law_700 : decode cL_law 700 = .ok (.iload 4, 2) := by decide +kernel
theorem dL_law_702 : decode cL_law 702 = .ok (.iconst 1, 1) := by decide +kernel
theorem dL_law_703 : decode cL_law 703 = .ok (.iadd, 1) := by decide +kernel
theorem dL_law_704 : decode cL_law 704 = .ok (.iaload, 1) := by decide +kernel
theorem dL_law_705 : decode cL_law 705 = .ok (.aload_n 0, 1) := by decide +kernel
theorem dL_law_706 : decode cL_law 706 = .ok (.iload 4, 2) := by decide +kernel
theorem dL_law_708 : decode cL_law 708 = .ok (.iconst 2, 1) := by decide +kernel
theorem dL_law_709 : decode cL_law 709 = .ok (.iadd, 1) := by decide +kernel
theorem dL_law_710 : decode cL_law 710 = .ok (.iaload, 1) := by decide +kernel
theorem dL_law_711 : decode cL_law 711 = .ok (.invokevirtual 153, 3) := by decide +kernel
theorem dL_law_714 : decode cL_law 714 = .ok (.istore 6, 2) := by decide +kernel
theorem dL_law_716 : decode cL_law 716 = .ok (.aload_n 2, 1) := by decide +kernel
theorem dL_law_717 : decode cL_law 717 = .ok (.invokevirtual 128, 3) := by decide +kernel
theorem dL_law_720 : decode cL_law 720 = .ok (.iload 5, 2) := by decide +kernel
theorem dL_law_722 : decode cL_law 722 = .ok (.if_icmp .eq 5, 3) := by decide +kernel
theorem dL_law_725 : decode cL_law 725 = .ok (.iconst 0, 1) := by decide +kernel
theorem dL_law_726 : decode cL_law 726 = .ok (.ireturn, 1) := by decide +kernel
theorem dL_law_727 : decode cL_law 727 = .ok (.iload 5, 2) := by decide +kernel
theorem dL_law_729 : decode cL_law 729 = .ok (.ifCond .ne 22, 3) := by decide +kernel
theorem dL_law_732 : decode cL_law 732 = .ok (.aload_n 3, 1) := by decide +kernel
theorem dL_law_733 : decode cL_law 733 = .ok (.iconst 0, 1) := by decide +kernel
theorem dL_law_734 : decode cL_law 734 = .ok (.laload, 1) := by decide +kernel
theorem dL_law_735 : decode cL_law 735 = .ok (.iload 6, 2) := by decide +kernel
theorem dL_law_737 : decode cL_law 737 = .ok (.ifCond .eq 7, 3) := by decide +kernel
theorem dL_law_740 : decode cL_law 740 = .ok (.lconst 1, 1) := by decide +kernel
theorem dL_law_741 : decode cL_law 741 = .ok (.goto 4, 3) := by decide +kernel
theorem dL_law_744 : decode cL_law 744 = .ok (.lconst 0, 1) := by decide +kernel
theorem dL_law_745 : decode cL_law 745 = .ok (.lcmp, 1) := by decide +kernel
theorem dL_law_746 : decode cL_law 746 = .ok (.ifCond .eq 5, 3) := by decide +kernel
theorem dL_law_749 : decode cL_law 749 = .ok (.iconst 0, 1) := by decide +kernel
theorem dL_law_750 : decode cL_law 750 = .ok (.ireturn, 1) := by decide +kernel
theorem dL_law_751 : decode cL_law 751 = .ok (.goto 1778, 3) := by decide +kernel
theorem dL_law_754 : decode cL_law 754 = .ok (.aload_n 1, 1) := by decide +kernel
theorem dL_law_755 : decode cL_law 755 = .ok (.aload_n 0, 1) := by decide +kernel
theorem dL_law_756 : decode cL_law 756 = .ok (.iload 4, 2) := by decide +kernel
theorem dL_law_758 : decode cL_law 758 = .ok (.iconst 1, 1) := by decide +kernel
theorem dL_law_759 : decode cL_law 759 = .ok (.iadd, 1) := by decide +kernel
theorem dL_law_760 : decode cL_law 760 = .ok (.iaload, 1) := by decide +kernel
theorem dL_law_761 : decode cL_law 761 = .ok (.aload_n 0, 1) := by decide +kernel
theorem dL_law_762 : decode cL_law 762 = .ok (.iload 4, 2) := by decide +kernel
theorem dL_law_764 : decode cL_law 764 = .ok (.iconst 2, 1) := by decide +kernel
theorem dL_law_765 : decode cL_law 765 = .ok (.iadd, 1) := by decide +kernel
theorem dL_law_766 : decode cL_law 766 = .ok (.iaload, 1) := by decide +kernel
theorem dL_law_767 : decode cL_law 767 = .ok (.aload_n 3, 1) := by decide +kernel
theorem dL_law_768 : decode cL_law 768 = .ok (.invokestatic 154, 3) := by decide +kernel
theorem dL_law_771 : decode cL_law 771 = .ok (.istore 5, 2) := by decide +kernel
theorem dL_law_773 : decode cL_law 773 = .ok (.aload_n 2, 1) := by decide +kernel
theorem dL_law_774 : decode cL_law 774 = .ok (.aload_n 0, 1) := by decide +kernel
theorem dL_law_775 : decode cL_law 775 = .ok (.iload 4, 2) := by decide +kernel
theorem dL_law_777 : decode cL_law 777 = .ok (.iconst 1, 1) := by decide +kernel
theorem dL_law_778 : decode cL_law 778 = .ok (.iadd, 1) := by decide +kernel
theorem dL_law_779 : decode cL_law 779 = .ok (.iaload, 1) := by decide +kernel
theorem dL_law_780 : decode cL_law 780 = .ok (.aload_n 0, 1) := by decide +kernel
theorem dL_law_781 : decode cL_law 781 = .ok (.iload 4, 2) := by decide +kernel
theorem dL_law_783 : decode cL_law 783 = .ok (.iconst 2, 1) := by decide +kernel
theorem dL_law_784 : decode cL_law 784 = .ok (.iadd, 1) := by decide +kernel
theorem dL_law_785 : decode cL_law 785 = .ok (.iaload, 1) := by decide +kernel
theorem dL_law_786 : decode cL_law 786 = .ok (.invokevirtual 156, 3) := by decide +kernel
theorem dL_law_789 : decode cL_law 789 = .ok (.istore 6, 2) := by decide +kernel
theorem dL_law_791 : decode cL_law 791 = .ok (.aload_n 2, 1) := by decide +kernel
theorem dL_law_792 : decode cL_law 792 = .ok (.invokevirtual 128, 3) := by decide +kernel
theorem dL_law_795 : decode cL_law 795 = .ok (.iload 5, 2) := by decide +kernel
theorem dL_law_797 : decode cL_law 797 = .ok (.if_icmp .eq 5, 3) := by decide +kernel
theorem dL_law_800 : decode cL_law 800 = .ok (.iconst 0, 1) := by decide +kernel
theorem dL_law_801 : decode cL_law 801 = .ok (.ireturn, 1) := by decide +kernel
theorem dL_law_802 : decode cL_law 802 = .ok (.iload 5, 2) := by decide +kernel
theorem dL_law_804 : decode cL_law 804 = .ok (.ifCond .ne 15, 3) := by decide +kernel
theorem dL_law_807 : decode cL_law 807 = .ok (.aload_n 3, 1) := by decide +kernel
theorem dL_law_808 : decode cL_law 808 = .ok (.iconst 0, 1) := by decide +kernel
theorem dL_law_809 : decode cL_law 809 = .ok (.laload, 1) := by decide +kernel
theorem dL_law_810 : decode cL_law 810 = .ok (.iload 6, 2) := by decide +kernel
theorem dL_law_812 : decode cL_law 812 = .ok (.i2l, 1) := by decide +kernel
theorem dL_law_813 : decode cL_law 813 = .ok (.lcmp, 1) := by decide +kernel
theorem dL_law_814 : decode cL_law 814 = .ok (.ifCond .eq 5, 3) := by decide +kernel
theorem dL_law_817 : decode cL_law 817 = .ok (.iconst 0, 1) := by decide +kernel
theorem dL_law_818 : decode cL_law 818 = .ok (.ireturn, 1) := by decide +kernel
theorem dL_law_819 : decode cL_law 819 = .ok (.goto 1710, 3) := by decide +kernel
theorem dL_law_822 : decode cL_law 822 = .ok (.aload_n 1, 1) := by decide +kernel
theorem dL_law_823 : decode cL_law 823 = .ok (.aload_n 0, 1) := by decide +kernel
theorem dL_law_824 : decode cL_law 824 = .ok (.iload 4, 2) := by decide +kernel
theorem dL_law_826 : decode cL_law 826 = .ok (.iconst 1, 1) := by decide +kernel
theorem dL_law_827 : decode cL_law 827 = .ok (.iadd, 1) := by decide +kernel
theorem dL_law_828 : decode cL_law 828 = .ok (.iaload, 1) := by decide +kernel
theorem dL_law_829 : decode cL_law 829 = .ok (.aload_n 3, 1) := by decide +kernel
theorem dL_law_830 : decode cL_law 830 = .ok (.invokestatic 157, 3) := by decide +kernel
theorem dL_law_833 : decode cL_law 833 = .ok (.istore 5, 2) := by decide +kernel
theorem dL_law_835 : decode cL_law 835 = .ok (.aload_n 2, 1) := by decide +kernel
theorem dL_law_836 : decode cL_law 836 = .ok (.aload_n 0, 1) := by decide +kernel
theorem dL_law_837 : decode cL_law 837 = .ok (.iload 4, 2) := by decide +kernel
theorem dL_law_839 : decode cL_law 839 = .ok (.iconst 1, 1) := by decide +kernel
theorem dL_law_840 : decode cL_law 840 = .ok (.iadd, 1) := by decide +kernel
theorem dL_law_841 : decode cL_law 841 = .ok (.iaload, 1) := by decide +kernel
theorem dL_law_842 : decode cL_law 842 = .ok (.invokevirtual 159, 3) := by decide +kernel
theorem dL_law_845 : decode cL_law 845 = .ok (.istore 6, 2) := by decide +kernel
theorem dL_law_847 : decode cL_law 847 = .ok (.aload_n 2, 1) := by decide +kernel
theorem dL_law_848 : decode cL_law 848 = .ok (.invokevirtual 128, 3) := by decide +kernel
theorem dL_law_851 : decode cL_law 851 = .ok (.iload 5, 2) := by decide +kernel
theorem dL_law_853 : decode cL_law 853 = .ok (.if_icmp .eq 5, 3) := by decide +kernel
theorem dL_law_856 : decode cL_law 856 = .ok (.iconst 0, 1) := by decide +kernel
theorem dL_law_857 : decode cL_law 857 = .ok (.ireturn, 1) := by decide +kernel
theorem dL_law_858 : decode cL_law 858 = .ok (.iload 5, 2) := by decide +kernel
theorem dL_law_860 : decode cL_law 860 = .ok (.ifCond .ne 15, 3) := by decide +kernel
theorem dL_law_863 : decode cL_law 863 = .ok (.aload_n 3, 1) := by decide +kernel
theorem dL_law_864 : decode cL_law 864 = .ok (.iconst 0, 1) := by decide +kernel
theorem dL_law_865 : decode cL_law 865 = .ok (.laload, 1) := by decide +kernel
theorem dL_law_866 : decode cL_law 866 = .ok (.iload 6, 2) := by decide +kernel
theorem dL_law_868 : decode cL_law 868 = .ok (.i2l, 1) := by decide +kernel
theorem dL_law_869 : decode cL_law 869 = .ok (.lcmp, 1) := by decide +kernel
theorem dL_law_870 : decode cL_law 870 = .ok (.ifCond .eq 5, 3) := by decide +kernel
theorem dL_law_873 : decode cL_law 873 = .ok (.iconst 0, 1) := by decide +kernel
theorem dL_law_874 : decode cL_law 874 = .ok (.ireturn, 1) := by decide +kernel
theorem dL_law_875 : decode cL_law 875 = .ok (.goto 1654, 3) := by decide +kernel
theorem dL_law_878 : decode cL_law 878 = .ok (.aload_n 1, 1) := by decide +kernel
theorem dL_law_879 : decode cL_law 879 = .ok (.aload_n 0, 1) := by decide +kernel
theorem dL_law_880 : decode cL_law 880 = .ok (.iload 4, 2) := by decide +kernel
theorem dL_law_882 : decode cL_law 882 = .ok (.iconst 1, 1) := by decide +kernel
theorem dL_law_883 : decode cL_law 883 = .ok (.iadd, 1) := by decide +kernel
theorem dL_law_884 : decode cL_law 884 = .ok (.iaload, 1) := by decide +kernel
theorem dL_law_885 : decode cL_law 885 = .ok (.aload_n 3, 1) := by decide +kernel
theorem dL_law_886 : decode cL_law 886 = .ok (.invokestatic 160, 3) := by decide +kernel
theorem dL_law_889 : decode cL_law 889 = .ok (.istore 5, 2) := by decide +kernel
theorem dL_law_891 : decode cL_law 891 = .ok (.aload_n 2, 1) := by decide +kernel
theorem dL_law_892 : decode cL_law 892 = .ok (.aload_n 0, 1) := by decide +kernel
theorem dL_law_893 : decode cL_law 893 = .ok (.iload 4, 2) := by decide +kernel
theorem dL_law_895 : decode cL_law 895 = .ok (.iconst 1, 1) := by decide +kernel
theorem dL_law_896 : decode cL_law 896 = .ok (.iadd, 1) := by decide +kernel
theorem dL_law_897 : decode cL_law 897 = .ok (.iaload, 1) := by decide +kernel
theorem dL_law_898 : decode cL_law 898 = .ok (.invokevirtual 162, 3) := by decide +kernel
theorem dL_law_901 : decode cL_law 901 = .ok (.istore 6, 2) := by decide +kernel
theorem dL_law_903 : decode cL_law 903 = .ok (.aload_n 2, 1) := by decide +kernel
theorem dL_law_904 : decode cL_law 904 = .ok (.invokevirtual 128, 3) := by decide +kernel
theorem dL_law_907 : decode cL_law 907 = .ok (.iload 5, 2) := by decide +kernel
theorem dL_law_909 : decode cL_law 909 = .ok (.if_icmp .eq 5, 3) := by decide +kernel
theorem dL_law_912 : decode cL_law 912 = .ok (.iconst 0, 1) := by decide +kernel
theorem dL_law_913 : decode cL_law 913 = .ok (.ireturn, 1) := by decide +kernel
theorem dL_law_914 : decode cL_law 914 = .ok (.iload 5, 2) := by decide +kernel
theorem dL_law_916 : decode cL_law 916 = .ok (.ifCond .ne 15, 3) := by decide +kernel
theorem dL_law_919 : decode cL_law 919 = .ok (.aload_n 3, 1) := by decide +kernel
theorem dL_law_920 : decode cL_law 920 = .ok (.iconst 0, 1) := by decide +kernel
theorem dL_law_921 : decode cL_law 921 = .ok (.laload, 1) := by decide +kernel
theorem dL_law_922 : decode cL_law 922 = .ok (.iload 6, 2) := by decide +kernel
theorem dL_law_924 : decode cL_law 924 = .ok (.i2l, 1) := by decide +kernel
theorem dL_law_925 : decode cL_law 925 = .ok (.lcmp, 1) := by decide +kernel
theorem dL_law_926 : decode cL_law 926 = .ok (.ifCond .eq 5, 3) := by decide +kernel
theorem dL_law_929 : decode cL_law 929 = .ok (.iconst 0, 1) := by decide +kernel
theorem dL_law_930 : decode cL_law 930 = .ok (.ireturn, 1) := by decide +kernel
theorem dL_law_931 : decode cL_law 931 = .ok (.goto 1598, 3) := by decide +kernel
theorem dL_law_934 : decode cL_law 934 = .ok (.aload_n 1, 1) := by decide +kernel
theorem dL_law_935 : decode cL_law 935 = .ok (.aload_n 0, 1) := by decide +kernel
theorem dL_law_936 : decode cL_law 936 = .ok (.iload 4, 2) := by decide +kernel
theorem dL_law_938 : decode cL_law 938 = .ok (.iconst 1, 1) := by decide +kernel
theorem dL_law_939 : decode cL_law 939 = .ok (.iadd, 1) := by decide +kernel
theorem dL_law_940 : decode cL_law 940 = .ok (.iaload, 1) := by decide +kernel
theorem dL_law_941 : decode cL_law 941 = .ok (.aload_n 3, 1) := by decide +kernel
theorem dL_law_942 : decode cL_law 942 = .ok (.invokestatic 163, 3) := by decide +kernel
theorem dL_law_945 : decode cL_law 945 = .ok (.istore 5, 2) := by decide +kernel
theorem dL_law_947 : decode cL_law 947 = .ok (.aload_n 2, 1) := by decide +kernel
theorem dL_law_948 : decode cL_law 948 = .ok (.aload_n 0, 1) := by decide +kernel
theorem dL_law_949 : decode cL_law 949 = .ok (.iload 4, 2) := by decide +kernel
theorem dL_law_951 : decode cL_law 951 = .ok (.iconst 1, 1) := by decide +kernel
theorem dL_law_952 : decode cL_law 952 = .ok (.iadd, 1) := by decide +kernel
theorem dL_law_953 : decode cL_law 953 = .ok (.iaload, 1) := by decide +kernel
theorem dL_law_954 : decode cL_law 954 = .ok (.invokevirtual 165, 3) := by decide +kernel
theorem dL_law_957 : decode cL_law 957 = .ok (.istore 6, 2) := by decide +kernel
theorem dL_law_959 : decode cL_law 959 = .ok (.aload_n 2, 1) := by decide +kernel
theorem dL_law_960 : decode cL_law 960 = .ok (.invokevirtual 128, 3) := by decide +kernel
theorem dL_law_963 : decode cL_law 963 = .ok (.iload 5, 2) := by decide +kernel
theorem dL_law_965 : decode cL_law 965 = .ok (.if_icmp .eq 5, 3) := by decide +kernel
theorem dL_law_968 : decode cL_law 968 = .ok (.iconst 0, 1) := by decide +kernel
theorem dL_law_969 : decode cL_law 969 = .ok (.ireturn, 1) := by decide +kernel
theorem dL_law_970 : decode cL_law 970 = .ok (.iload 5, 2) := by decide +kernel
theorem dL_law_972 : decode cL_law 972 = .ok (.ifCond .ne 15, 3) := by decide +kernel
theorem dL_law_975 : decode cL_law 975 = .ok (.aload_n 3, 1) := by decide +kernel
theorem dL_law_976 : decode cL_law 976 = .ok (.iconst 0, 1) := by decide +kernel
theorem dL_law_977 : decode cL_law 977 = .ok (.laload, 1) := by decide +kernel
theorem dL_law_978 : decode cL_law 978 = .ok (.iload 6, 2) := by decide +kernel
theorem dL_law_980 : decode cL_law 980 = .ok (.i2l, 1) := by decide +kernel
theorem dL_law_981 : decode cL_law 981 = .ok (.lcmp, 1) := by decide +kernel
theorem dL_law_982 : decode cL_law 982 = .ok (.ifCond .eq 5, 3) := by decide +kernel
theorem dL_law_985 : decode cL_law 985 = .ok (.iconst 0, 1) := by decide +kernel
theorem dL_law_986 : decode cL_law 986 = .ok (.ireturn, 1) := by decide +kernel
theorem dL_law_987 : decode cL_law 987 = .ok (.goto 1542, 3) := by decide +kernel
theorem dL_law_990 : decode cL_law 990 = .ok (.aload_n 1, 1) := by decide +kernel
theorem dL_law_991 : decode cL_law 991 = .ok (.aload_n 0, 1) := by decide +kernel
theorem dL_law_992 : decode cL_law 992 = .ok (.iload 4, 2) := by decide +kernel
theorem dL_law_994 : decode cL_law 994 = .ok (.iconst 1, 1) := by decide +kernel
theorem dL_law_995 : decode cL_law 995 = .ok (.iadd, 1) := by decide +kernel
theorem dL_law_996 : decode cL_law 996 = .ok (.iaload, 1) := by decide +kernel
theorem dL_law_997 : decode cL_law 997 = .ok (.aload_n 0, 1) := by decide +kernel
theorem dL_law_998 : decode cL_law 998 = .ok (.iload 4, 2) := by decide +kernel
theorem dL_law_1000 : decode cL_law 1000 = .ok (.iconst 2, 1) := by decide +kernel
theorem dL_law_1001 : decode cL_law 1001 = .ok (.iadd, 1) := by decide +kernel
theorem dL_law_1002 : decode cL_law 1002 = .ok (.iaload, 1) := by decide +kernel
theorem dL_law_1003 : decode cL_law 1003 = .ok (.aload_n 0, 1) := by decide +kernel
theorem dL_law_1004 : decode cL_law 1004 = .ok (.iload 4, 2) := by decide +kernel
theorem dL_law_1006 : decode cL_law 1006 = .ok (.iconst 3, 1) := by decide +kernel
theorem dL_law_1007 : decode cL_law 1007 = .ok (.iadd, 1) := by decide +kernel
theorem dL_law_1008 : decode cL_law 1008 = .ok (.iaload, 1) := by decide +kernel
theorem dL_law_1009 : decode cL_law 1009 = .ok (.aload_n 3, 1) := by decide +kernel
theorem dL_law_1010 : decode cL_law 1010 = .ok (.invokestatic 166, 3) := by decide +kernel
theorem dL_law_1013 : decode cL_law 1013 = .ok (.istore 5, 2) := by decide +kernel
theorem dL_law_1015 : decode cL_law 1015 = .ok (.aload_n 2, 1) := by decide +kernel
theorem dL_law_1016 : decode cL_law 1016 = .ok (.aload_n 0, 1) := by decide +kernel
theorem dL_law_1017 : decode cL_law 1017 = .ok (.iload 4, 2) := by decide +kernel
theorem dL_law_1019 : decode cL_law 1019 = .ok (.iconst 1, 1) := by decide +kernel
theorem dL_law_1020 : decode cL_law 1020 = .ok (.iadd, 1) := by decide +kernel
theorem dL_law_1021 : decode cL_law 1021 = .ok (.iaload, 1) := by decide +kernel
theorem dL_law_1022 : decode cL_law 1022 = .ok (.aload_n 0, 1) := by decide +kernel
theorem dL_law_1023 : decode cL_law 1023 = .ok (.iload 4, 2) := by decide +kernel
theorem dL_law_1025 : decode cL_law 1025 = .ok (.iconst 2, 1) := by decide +kernel
theorem dL_law_1026 : decode cL_law 1026 = .ok (.iadd, 1) := by decide +kernel
theorem dL_law_1027 : decode cL_law 1027 = .ok (.iaload, 1) := by decide +kernel
theorem dL_law_1028 : decode cL_law 1028 = .ok (.aload_n 0, 1) := by decide +kernel
theorem dL_law_1029 : decode cL_law 1029 = .ok (.iload 4, 2) := by decide +kernel
theorem dL_law_1031 : decode cL_law 1031 = .ok (.iconst 3, 1) := by decide +kernel
theorem dL_law_1032 : decode cL_law 1032 = .ok (.iadd, 1) := by decide +kernel
theorem dL_law_1033 : decode cL_law 1033 = .ok (.iaload, 1) := by decide +kernel
theorem dL_law_1034 : decode cL_law 1034 = .ok (.invokevirtual 168, 3) := by decide +kernel
theorem dL_law_1037 : decode cL_law 1037 = .ok (.istore 6, 2) := by decide +kernel
theorem dL_law_1039 : decode cL_law 1039 = .ok (.aload_n 2, 1) := by decide +kernel
theorem dL_law_1040 : decode cL_law 1040 = .ok (.invokevirtual 128, 3) := by decide +kernel
theorem dL_law_1043 : decode cL_law 1043 = .ok (.iload 5, 2) := by decide +kernel
theorem dL_law_1045 : decode cL_law 1045 = .ok (.if_icmp .eq 5, 3) := by decide +kernel
theorem dL_law_1048 : decode cL_law 1048 = .ok (.iconst 0, 1) := by decide +kernel
theorem dL_law_1049 : decode cL_law 1049 = .ok (.ireturn, 1) := by decide +kernel
theorem dL_law_1050 : decode cL_law 1050 = .ok (.iload 5, 2) := by decide +kernel
theorem dL_law_1052 : decode cL_law 1052 = .ok (.ifCond .ne 15, 3) := by decide +kernel
theorem dL_law_1055 : decode cL_law 1055 = .ok (.aload_n 3, 1) := by decide +kernel
theorem dL_law_1056 : decode cL_law 1056 = .ok (.iconst 0, 1) := by decide +kernel
theorem dL_law_1057 : decode cL_law 1057 = .ok (.laload, 1) := by decide +kernel
theorem dL_law_1058 : decode cL_law 1058 = .ok (.iload 6, 2) := by decide +kernel
theorem dL_law_1060 : decode cL_law 1060 = .ok (.i2l, 1) := by decide +kernel
theorem dL_law_1061 : decode cL_law 1061 = .ok (.lcmp, 1) := by decide +kernel
theorem dL_law_1062 : decode cL_law 1062 = .ok (.ifCond .eq 5, 3) := by decide +kernel
theorem dL_law_1065 : decode cL_law 1065 = .ok (.iconst 0, 1) := by decide +kernel
theorem dL_law_1066 : decode cL_law 1066 = .ok (.ireturn, 1) := by decide +kernel
theorem dL_law_1067 : decode cL_law 1067 = .ok (.goto 1462, 3) := by decide +kernel
theorem dL_law_1070 : decode cL_law 1070 = .ok (.aload_n 1, 1) := by decide +kernel
theorem dL_law_1071 : decode cL_law 1071 = .ok (.aload_n 0, 1) := by decide +kernel
theorem dL_law_1072 : decode cL_law 1072 = .ok (.iload 4, 2) := by decide +kernel
theorem dL_law_1074 : decode cL_law 1074 = .ok (.iconst 1, 1) := by decide +kernel
theorem dL_law_1075 : decode cL_law 1075 = .ok (.iadd, 1) := by decide +kernel
theorem dL_law_1076 : decode cL_law 1076 = .ok (.iaload, 1) := by decide +kernel
theorem dL_law_1077 : decode cL_law 1077 = .ok (.aload_n 0, 1) := by decide +kernel
theorem dL_law_1078 : decode cL_law 1078 = .ok (.iload 4, 2) := by decide +kernel
theorem dL_law_1080 : decode cL_law 1080 = .ok (.iconst 2, 1) := by decide +kernel
theorem dL_law_1081 : decode cL_law 1081 = .ok (.iadd, 1) := by decide +kernel
theorem dL_law_1082 : decode cL_law 1082 = .ok (.iaload, 1) := by decide +kernel
theorem dL_law_1083 : decode cL_law 1083 = .ok (.aload_n 3, 1) := by decide +kernel
theorem dL_law_1084 : decode cL_law 1084 = .ok (.invokestatic 169, 3) := by decide +kernel
theorem dL_law_1087 : decode cL_law 1087 = .ok (.istore 5, 2) := by decide +kernel
theorem dL_law_1089 : decode cL_law 1089 = .ok (.aload_n 2, 1) := by decide +kernel
theorem dL_law_1090 : decode cL_law 1090 = .ok (.aload_n 0, 1) := by decide +kernel
theorem dL_law_1091 : decode cL_law 1091 = .ok (.iload 4, 2) := by decide +kernel
theorem dL_law_1093 : decode cL_law 1093 = .ok (.iconst 1, 1) := by decide +kernel
theorem dL_law_1094 : decode cL_law 1094 = .ok (.iadd, 1) := by decide +kernel
theorem dL_law_1095 : decode cL_law 1095 = .ok (.iaload, 1) := by decide +kernel
theorem dL_law_1096 : decode cL_law 1096 = .ok (.aload_n 0, 1) := by decide +kernel
theorem dL_law_1097 : decode cL_law 1097 = .ok (.iload 4, 2) := by decide +kernel
theorem dL_law_1099 : decode cL_law 1099 = .ok (.iconst 2, 1) := by decide +kernel
theorem dL_law_1100 : decode cL_law 1100 = .ok (.iadd, 1) := by decide +kernel
theorem dL_law_1101 : decode cL_law 1101 = .ok (.iaload, 1) := by decide +kernel
theorem dL_law_1102 : decode cL_law 1102 = .ok (.invokevirtual 171, 3) := by decide +kernel
theorem dL_law_1105 : decode cL_law 1105 = .ok (.istore 6, 2) := by decide +kernel
theorem dL_law_1107 : decode cL_law 1107 = .ok (.aload_n 2, 1) := by decide +kernel
theorem dL_law_1108 : decode cL_law 1108 = .ok (.invokevirtual 128, 3) := by decide +kernel
theorem dL_law_1111 : decode cL_law 1111 = .ok (.iload 5, 2) := by decide +kernel
theorem dL_law_1113 : decode cL_law 1113 = .ok (.if_icmp .eq 5, 3) := by decide +kernel
theorem dL_law_1116 : decode cL_law 1116 = .ok (.iconst 0, 1) := by decide +kernel
theorem dL_law_1117 : decode cL_law 1117 = .ok (.ireturn, 1) := by decide +kernel
theorem dL_law_1118 : decode cL_law 1118 = .ok (.iload 5, 2) := by decide +kernel
theorem dL_law_1120 : decode cL_law 1120 = .ok (.ifCond .ne 15, 3) := by decide +kernel
theorem dL_law_1123 : decode cL_law 1123 = .ok (.aload_n 3, 1) := by decide +kernel
theorem dL_law_1124 : decode cL_law 1124 = .ok (.iconst 0, 1) := by decide +kernel
theorem dL_law_1125 : decode cL_law 1125 = .ok (.laload, 1) := by decide +kernel
theorem dL_law_1126 : decode cL_law 1126 = .ok (.iload 6, 2) := by decide +kernel
theorem dL_law_1128 : decode cL_law 1128 = .ok (.i2l, 1) := by decide +kernel
theorem dL_law_1129 : decode cL_law 1129 = .ok (.lcmp, 1) := by decide +kernel
theorem dL_law_1130 : decode cL_law 1130 = .ok (.ifCond .eq 5, 3) := by decide +kernel
theorem dL_law_1133 : decode cL_law 1133 = .ok (.iconst 0, 1) := by decide +kernel
theorem dL_law_1134 : decode cL_law 1134 = .ok (.ireturn, 1) := by decide +kernel
theorem dL_law_1135 : decode cL_law 1135 = .ok (.goto 1394, 3) := by decide +kernel
theorem dL_law_1138 : decode cL_law 1138 = .ok (.aload_n 1, 1) := by decide +kernel
theorem dL_law_1139 : decode cL_law 1139 = .ok (.aload_n 0, 1) := by decide +kernel
theorem dL_law_1140 : decode cL_law 1140 = .ok (.iload 4, 2) := by decide +kernel
theorem dL_law_1142 : decode cL_law 1142 = .ok (.iconst 1, 1) := by decide +kernel
theorem dL_law_1143 : decode cL_law 1143 = .ok (.iadd, 1) := by decide +kernel
theorem dL_law_1144 : decode cL_law 1144 = .ok (.iaload, 1) := by decide +kernel
theorem dL_law_1145 : decode cL_law 1145 = .ok (.aload_n 3, 1) := by decide +kernel
theorem dL_law_1146 : decode cL_law 1146 = .ok (.invokestatic 172, 3) := by decide +kernel
theorem dL_law_1149 : decode cL_law 1149 = .ok (.istore 5, 2) := by decide +kernel
theorem dL_law_1151 : decode cL_law 1151 = .ok (.aload_n 2, 1) := by decide +kernel
theorem dL_law_1152 : decode cL_law 1152 = .ok (.aload_n 0, 1) := by decide +kernel
theorem dL_law_1153 : decode cL_law 1153 = .ok (.iload 4, 2) := by decide +kernel
theorem dL_law_1155 : decode cL_law 1155 = .ok (.iconst 1, 1) := by decide +kernel
theorem dL_law_1156 : decode cL_law 1156 = .ok (.iadd, 1) := by decide +kernel
theorem dL_law_1157 : decode cL_law 1157 = .ok (.iaload, 1) := by decide +kernel
theorem dL_law_1158 : decode cL_law 1158 = .ok (.invokevirtual 174, 3) := by decide +kernel
theorem dL_law_1161 : decode cL_law 1161 = .ok (.istore 6, 2) := by decide +kernel
theorem dL_law_1163 : decode cL_law 1163 = .ok (.aload_n 2, 1) := by decide +kernel
theorem dL_law_1164 : decode cL_law 1164 = .ok (.invokevirtual 128, 3) := by decide +kernel
theorem dL_law_1167 : decode cL_law 1167 = .ok (.iload 5, 2) := by decide +kernel
theorem dL_law_1169 : decode cL_law 1169 = .ok (.if_icmp .eq 5, 3) := by decide +kernel
theorem dL_law_1172 : decode cL_law 1172 = .ok (.iconst 0, 1) := by decide +kernel
theorem dL_law_1173 : decode cL_law 1173 = .ok (.ireturn, 1) := by decide +kernel
theorem dL_law_1174 : decode cL_law 1174 = .ok (.iload 5, 2) := by decide +kernel
theorem dL_law_1176 : decode cL_law 1176 = .ok (.ifCond .ne 15, 3) := by decide +kernel
theorem dL_law_1179 : decode cL_law 1179 = .ok (.aload_n 3, 1) := by decide +kernel
theorem dL_law_1180 : decode cL_law 1180 = .ok (.iconst 0, 1) := by decide +kernel
theorem dL_law_1181 : decode cL_law 1181 = .ok (.laload, 1) := by decide +kernel
theorem dL_law_1182 : decode cL_law 1182 = .ok (.iload 6, 2) := by decide +kernel
theorem dL_law_1184 : decode cL_law 1184 = .ok (.i2l, 1) := by decide +kernel
theorem dL_law_1185 : decode cL_law 1185 = .ok (.lcmp, 1) := by decide +kernel
theorem dL_law_1186 : decode cL_law 1186 = .ok (.ifCond .eq 5, 3) := by decide +kernel
theorem dL_law_1189 : decode cL_law 1189 = .ok (.iconst 0, 1) := by decide +kernel
theorem dL_law_1190 : decode cL_law 1190 = .ok (.ireturn, 1) := by decide +kernel
theorem dL_law_1191 : decode cL_law 1191 = .ok (.goto 1338, 3) := by decide +kernel
theorem dL_law_1194 : decode cL_law 1194 = .ok (.aload_n 1, 1) := by decide +kernel
theorem dL_law_1195 : decode cL_law 1195 = .ok (.invokevirtual 175, 3) := by decide +kernel
theorem dL_law_1198 : decode cL_law 1198 = .ok (.aload_n 2, 1) := by decide +kernel
theorem dL_law_1199 : decode cL_law 1199 = .ok (.invokevirtual 178, 3) := by decide +kernel
theorem dL_law_1202 : decode cL_law 1202 = .ok (.if_icmp .eq 1327, 3) := by decide +kernel
theorem dL_law_1205 : decode cL_law 1205 = .ok (.iconst 0, 1) := by decide +kernel
theorem dL_law_1206 : decode cL_law 1206 = .ok (.ireturn, 1) := by decide +kernel
theorem dL_law_1207 : decode cL_law 1207 = .ok (.aload_n 1, 1) := by decide +kernel
theorem dL_law_1208 : decode cL_law 1208 = .ok (.invokevirtual 179, 3) := by decide +kernel
theorem dL_law_1211 : decode cL_law 1211 = .ok (.aload_n 2, 1) := by decide +kernel
theorem dL_law_1212 : decode cL_law 1212 = .ok (.invokevirtual 182, 3) := by decide +kernel
theorem dL_law_1215 : decode cL_law 1215 = .ok (.if_icmp .eq 1314, 3) := by decide +kernel
theorem dL_law_1218 : decode cL_law 1218 = .ok (.iconst 0, 1) := by decide +kernel
theorem dL_law_1219 : decode cL_law 1219 = .ok (.ireturn, 1) := by decide +kernel
theorem dL_law_1220 : decode cL_law 1220 = .ok (.aload_n 1, 1) := by decide +kernel
theorem dL_law_1221 : decode cL_law 1221 = .ok (.aload_n 0, 1) := by decide +kernel
theorem dL_law_1222 : decode cL_law 1222 = .ok (.iload 4, 2) := by decide +kernel
theorem dL_law_1224 : decode cL_law 1224 = .ok (.iconst 1, 1) := by decide +kernel
theorem dL_law_1225 : decode cL_law 1225 = .ok (.iadd, 1) := by decide +kernel
theorem dL_law_1226 : decode cL_law 1226 = .ok (.iaload, 1) := by decide +kernel
theorem dL_law_1227 : decode cL_law 1227 = .ok (.aload_n 0, 1) := by decide +kernel
theorem dL_law_1228 : decode cL_law 1228 = .ok (.iload 4, 2) := by decide +kernel
theorem dL_law_1230 : decode cL_law 1230 = .ok (.iconst 2, 1) := by decide +kernel
theorem dL_law_1231 : decode cL_law 1231 = .ok (.iadd, 1) := by decide +kernel
theorem dL_law_1232 : decode cL_law 1232 = .ok (.iaload, 1) := by decide +kernel
theorem dL_law_1233 : decode cL_law 1233 = .ok (.aload_n 3, 1) := by decide +kernel
theorem dL_law_1234 : decode cL_law 1234 = .ok (.invokestatic 183, 3) := by decide +kernel
theorem dL_law_1237 : decode cL_law 1237 = .ok (.istore 5, 2) := by decide +kernel
theorem dL_law_1239 : decode cL_law 1239 = .ok (.aload_n 2, 1) := by decide +kernel
theorem dL_law_1240 : decode cL_law 1240 = .ok (.aload_n 0, 1) := by decide +kernel
theorem dL_law_1241 : decode cL_law 1241 = .ok (.iload 4, 2) := by decide +kernel
theorem dL_law_1243 : decode cL_law 1243 = .ok (.iconst 1, 1) := by decide +kernel
theorem dL_law_1244 : decode cL_law 1244 = .ok (.iadd, 1) := by decide +kernel
theorem dL_law_1245 : decode cL_law 1245 = .ok (.iaload, 1) := by decide +kernel
theorem dL_law_1246 : decode cL_law 1246 = .ok (.aload_n 0, 1) := by decide +kernel
theorem dL_law_1247 : decode cL_law 1247 = .ok (.iload 4, 2) := by decide +kernel
theorem dL_law_1249 : decode cL_law 1249 = .ok (.iconst 2, 1) := by decide +kernel
theorem dL_law_1250 : decode cL_law 1250 = .ok (.iadd, 1) := by decide +kernel
theorem dL_law_1251 : decode cL_law 1251 = .ok (.iaload, 1) := by decide +kernel
theorem dL_law_1252 : decode cL_law 1252 = .ok (.invokevirtual 185, 3) := by decide +kernel
theorem dL_law_1255 : decode cL_law 1255 = .ok (.istore 6, 2) := by decide +kernel
theorem dL_law_1257 : decode cL_law 1257 = .ok (.aload_n 2, 1) := by decide +kernel
theorem dL_law_1258 : decode cL_law 1258 = .ok (.invokevirtual 128, 3) := by decide +kernel
theorem dL_law_1261 : decode cL_law 1261 = .ok (.iload 5, 2) := by decide +kernel
theorem dL_law_1263 : decode cL_law 1263 = .ok (.if_icmp .eq 5, 3) := by decide +kernel
theorem dL_law_1266 : decode cL_law 1266 = .ok (.iconst 0, 1) := by decide +kernel
theorem dL_law_1267 : decode cL_law 1267 = .ok (.ireturn, 1) := by decide +kernel
theorem dL_law_1268 : decode cL_law 1268 = .ok (.iload 5, 2) := by decide +kernel
theorem dL_law_1270 : decode cL_law 1270 = .ok (.ifCond .ne 15, 3) := by decide +kernel
theorem dL_law_1273 : decode cL_law 1273 = .ok (.aload_n 3, 1) := by decide +kernel
theorem dL_law_1274 : decode cL_law 1274 = .ok (.iconst 0, 1) := by decide +kernel
theorem dL_law_1275 : decode cL_law 1275 = .ok (.laload, 1) := by decide +kernel
theorem dL_law_1276 : decode cL_law 1276 = .ok (.iload 6, 2) := by decide +kernel
theorem dL_law_1278 : decode cL_law 1278 = .ok (.i2l, 1) := by decide +kernel
theorem dL_law_1279 : decode cL_law 1279 = .ok (.lcmp, 1) := by decide +kernel
theorem dL_law_1280 : decode cL_law 1280 = .ok (.ifCond .eq 5, 3) := by decide +kernel
theorem dL_law_1283 : decode cL_law 1283 = .ok (.iconst 0, 1) := by decide +kernel
theorem dL_law_1284 : decode cL_law 1284 = .ok (.ireturn, 1) := by decide +kernel
theorem dL_law_1285 : decode cL_law 1285 = .ok (.goto 1244, 3) := by decide +kernel
theorem dL_law_1288 : decode cL_law 1288 = .ok (.aload_n 1, 1) := by decide +kernel
theorem dL_law_1289 : decode cL_law 1289 = .ok (.aload_n 0, 1) := by decide +kernel
theorem dL_law_1290 : decode cL_law 1290 = .ok (.iload 4, 2) := by decide +kernel
theorem dL_law_1292 : decode cL_law 1292 = .ok (.iconst 1, 1) := by decide +kernel
theorem dL_law_1293 : decode cL_law 1293 = .ok (.iadd, 1) := by decide +kernel
theorem dL_law_1294 : decode cL_law 1294 = .ok (.iaload, 1) := by decide +kernel
theorem dL_law_1295 : decode cL_law 1295 = .ok (.aload_n 3, 1) := by decide +kernel
theorem dL_law_1296 : decode cL_law 1296 = .ok (.invokestatic 186, 3) := by decide +kernel
theorem dL_law_1299 : decode cL_law 1299 = .ok (.istore 5, 2) := by decide +kernel
theorem dL_law_1301 : decode cL_law 1301 = .ok (.aload_n 2, 1) := by decide +kernel
theorem dL_law_1302 : decode cL_law 1302 = .ok (.aload_n 0, 1) := by decide +kernel
theorem dL_law_1303 : decode cL_law 1303 = .ok (.iload 4, 2) := by decide +kernel
theorem dL_law_1305 : decode cL_law 1305 = .ok (.iconst 1, 1) := by decide +kernel
theorem dL_law_1306 : decode cL_law 1306 = .ok (.iadd, 1) := by decide +kernel
theorem dL_law_1307 : decode cL_law 1307 = .ok (.iaload, 1) := by decide +kernel
theorem dL_law_1308 : decode cL_law 1308 = .ok (.invokevirtual 188, 3) := by decide +kernel
theorem dL_law_1311 : decode cL_law 1311 = .ok (.istore 6, 2) := by decide +kernel
theorem dL_law_1313 : decode cL_law 1313 = .ok (.aload_n 2, 1) := by decide +kernel
theorem dL_law_1314 : decode cL_law 1314 = .ok (.invokevirtual 128, 3) := by decide +kernel
theorem dL_law_1317 : decode cL_law 1317 = .ok (.iload 5, 2) := by decide +kernel
theorem dL_law_1319 : decode cL_law 1319 = .ok (.if_icmp .eq 5, 3) := by decide +kernel
theorem dL_law_1322 : decode cL_law 1322 = .ok (.iconst 0, 1) := by decide +kernel
theorem dL_law_1323 : decode cL_law 1323 = .ok (.ireturn, 1) := by decide +kernel
theorem dL_law_1324 : decode cL_law 1324 = .ok (.iload 5, 2) := by decide +kernel
theorem dL_law_1326 : decode cL_law 1326 = .ok (.ifCond .ne 22, 3) := by decide +kernel
theorem dL_law_1329 : decode cL_law 1329 = .ok (.aload_n 3, 1) := by decide +kernel
theorem dL_law_1330 : decode cL_law 1330 = .ok (.iconst 0, 1) := by decide +kernel
theorem dL_law_1331 : decode cL_law 1331 = .ok (.laload, 1) := by decide +kernel
theorem dL_law_1332 : decode cL_law 1332 = .ok (.iload 6, 2) := by decide +kernel
theorem dL_law_1334 : decode cL_law 1334 = .ok (.ifCond .eq 7, 3) := by decide +kernel
theorem dL_law_1337 : decode cL_law 1337 = .ok (.lconst 1, 1) := by decide +kernel
theorem dL_law_1338 : decode cL_law 1338 = .ok (.goto 4, 3) := by decide +kernel
theorem dL_law_1341 : decode cL_law 1341 = .ok (.lconst 0, 1) := by decide +kernel
theorem dL_law_1342 : decode cL_law 1342 = .ok (.lcmp, 1) := by decide +kernel
theorem dL_law_1343 : decode cL_law 1343 = .ok (.ifCond .eq 5, 3) := by decide +kernel
theorem dL_law_1346 : decode cL_law 1346 = .ok (.iconst 0, 1) := by decide +kernel
theorem dL_law_1347 : decode cL_law 1347 = .ok (.ireturn, 1) := by decide +kernel
theorem dL_law_1348 : decode cL_law 1348 = .ok (.goto 1181, 3) := by decide +kernel
theorem dL_law_1351 : decode cL_law 1351 = .ok (.aload_n 1, 1) := by decide +kernel
theorem dL_law_1352 : decode cL_law 1352 = .ok (.aload_n 0, 1) := by decide +kernel
theorem dL_law_1353 : decode cL_law 1353 = .ok (.iload 4, 2) := by decide +kernel
theorem dL_law_1355 : decode cL_law 1355 = .ok (.iconst 1, 1) := by decide +kernel
theorem dL_law_1356 : decode cL_law 1356 = .ok (.iadd, 1) := by decide +kernel
theorem dL_law_1357 : decode cL_law 1357 = .ok (.iaload, 1) := by decide +kernel
theorem dL_law_1358 : decode cL_law 1358 = .ok (.aload_n 3, 1) := by decide +kernel
theorem dL_law_1359 : decode cL_law 1359 = .ok (.invokestatic 189, 3) := by decide +kernel
theorem dL_law_1362 : decode cL_law 1362 = .ok (.istore 5, 2) := by decide +kernel
theorem dL_law_1364 : decode cL_law 1364 = .ok (.aload_n 2, 1) := by decide +kernel
theorem dL_law_1365 : decode cL_law 1365 = .ok (.aload_n 0, 1) := by decide +kernel
theorem dL_law_1366 : decode cL_law 1366 = .ok (.iload 4, 2) := by decide +kernel
theorem dL_law_1368 : decode cL_law 1368 = .ok (.iconst 1, 1) := by decide +kernel
theorem dL_law_1369 : decode cL_law 1369 = .ok (.iadd, 1) := by decide +kernel
theorem dL_law_1370 : decode cL_law 1370 = .ok (.iaload, 1) := by decide +kernel
theorem dL_law_1371 : decode cL_law 1371 = .ok (.invokevirtual 191, 3) := by decide +kernel
theorem dL_law_1374 : decode cL_law 1374 = .ok (.istore 6, 2) := by decide +kernel
theorem dL_law_1376 : decode cL_law 1376 = .ok (.aload_n 2, 1) := by decide +kernel
theorem dL_law_1377 : decode cL_law 1377 = .ok (.invokevirtual 128, 3) := by decide +kernel
theorem dL_law_1380 : decode cL_law 1380 = .ok (.iload 5, 2) := by decide +kernel
theorem dL_law_1382 : decode cL_law 1382 = .ok (.if_icmp .eq 5, 3) := by decide +kernel
theorem dL_law_1385 : decode cL_law 1385 = .ok (.iconst 0, 1) := by decide +kernel
theorem dL_law_1386 : decode cL_law 1386 = .ok (.ireturn, 1) := by decide +kernel
theorem dL_law_1387 : decode cL_law 1387 = .ok (.iload 5, 2) := by decide +kernel
theorem dL_law_1389 : decode cL_law 1389 = .ok (.ifCond .ne 15, 3) := by decide +kernel
theorem dL_law_1392 : decode cL_law 1392 = .ok (.aload_n 3, 1) := by decide +kernel
theorem dL_law_1393 : decode cL_law 1393 = .ok (.iconst 0, 1) := by decide +kernel
theorem dL_law_1394 : decode cL_law 1394 = .ok (.laload, 1) := by decide +kernel
theorem dL_law_1395 : decode cL_law 1395 = .ok (.iload 6, 2) := by decide +kernel
theorem dL_law_1397 : decode cL_law 1397 = .ok (.i2l, 1) := by decide +kernel
theorem dL_law_1398 : decode cL_law 1398 = .ok (.lcmp, 1) := by decide +kernel
theorem dL_law_1399 : decode cL_law 1399 = .ok (.ifCond .eq 5, 3) := by decide +kernel
theorem dL_law_1402 : decode cL_law 1402 = .ok (.iconst 0, 1) := by decide +kernel
theorem dL_law_1403 : decode cL_law 1403 = .ok (.ireturn, 1) := by decide +kernel
theorem dL_law_1404 : decode cL_law 1404 = .ok (.goto 1125, 3) := by decide +kernel
theorem dL_law_1407 : decode cL_law 1407 = .ok (.aload_n 1, 1) := by decide +kernel
theorem dL_law_1408 : decode cL_law 1408 = .ok (.aload_n 0, 1) := by decide +kernel
theorem dL_law_1409 : decode cL_law 1409 = .ok (.iload 4, 2) := by decide +kernel
theorem dL_law_1411 : decode cL_law 1411 = .ok (.iconst 1, 1) := by decide +kernel
theorem dL_law_1412 : decode cL_law 1412 = .ok (.iadd, 1) := by decide +kernel
theorem dL_law_1413 : decode cL_law 1413 = .ok (.iaload, 1) := by decide +kernel
theorem dL_law_1414 : decode cL_law 1414 = .ok (.aload_n 0, 1) := by decide +kernel
theorem dL_law_1415 : decode cL_law 1415 = .ok (.iload 4, 2) := by decide +kernel
theorem dL_law_1417 : decode cL_law 1417 = .ok (.iconst 2, 1) := by decide +kernel
theorem dL_law_1418 : decode cL_law 1418 = .ok (.iadd, 1) := by decide +kernel
theorem dL_law_1419 : decode cL_law 1419 = .ok (.iaload, 1) := by decide +kernel
theorem dL_law_1420 : decode cL_law 1420 = .ok (.aload_n 3, 1) := by decide +kernel
theorem dL_law_1421 : decode cL_law 1421 = .ok (.invokestatic 192, 3) := by decide +kernel
theorem dL_law_1424 : decode cL_law 1424 = .ok (.istore 5, 2) := by decide +kernel
theorem dL_law_1426 : decode cL_law 1426 = .ok (.aload_n 2, 1) := by decide +kernel
theorem dL_law_1427 : decode cL_law 1427 = .ok (.aload_n 0, 1) := by decide +kernel
theorem dL_law_1428 : decode cL_law 1428 = .ok (.iload 4, 2) := by decide +kernel
theorem dL_law_1430 : decode cL_law 1430 = .ok (.iconst 1, 1) := by decide +kernel
theorem dL_law_1431 : decode cL_law 1431 = .ok (.iadd, 1) := by decide +kernel
theorem dL_law_1432 : decode cL_law 1432 = .ok (.iaload, 1) := by decide +kernel
theorem dL_law_1433 : decode cL_law 1433 = .ok (.aload_n 0, 1) := by decide +kernel
theorem dL_law_1434 : decode cL_law 1434 = .ok (.iload 4, 2) := by decide +kernel
theorem dL_law_1436 : decode cL_law 1436 = .ok (.iconst 2, 1) := by decide +kernel
theorem dL_law_1437 : decode cL_law 1437 = .ok (.iadd, 1) := by decide +kernel
theorem dL_law_1438 : decode cL_law 1438 = .ok (.iaload, 1) := by decide +kernel
theorem dL_law_1439 : decode cL_law 1439 = .ok (.invokevirtual 194, 3) := by decide +kernel
theorem dL_law_1442 : decode cL_law 1442 = .ok (.istore 6, 2) := by decide +kernel
theorem dL_law_1444 : decode cL_law 1444 = .ok (.aload_n 2, 1) := by decide +kernel
theorem dL_law_1445 : decode cL_law 1445 = .ok (.invokevirtual 128, 3) := by decide +kernel
theorem dL_law_1448 : decode cL_law 1448 = .ok (.iload 5, 2) := by decide +kernel
theorem dL_law_1450 : decode cL_law 1450 = .ok (.if_icmp .eq 5, 3) := by decide +kernel
theorem dL_law_1453 : decode cL_law 1453 = .ok (.iconst 0, 1) := by decide +kernel
theorem dL_law_1454 : decode cL_law 1454 = .ok (.ireturn, 1) := by decide +kernel
theorem dL_law_1455 : decode cL_law 1455 = .ok (.iload 5, 2) := by decide +kernel
theorem dL_law_1457 : decode cL_law 1457 = .ok (.ifCond .ne 15, 3) := by decide +kernel
theorem dL_law_1460 : decode cL_law 1460 = .ok (.aload_n 3, 1) := by decide +kernel
theorem dL_law_1461 : decode cL_law 1461 = .ok (.iconst 0, 1) := by decide +kernel
theorem dL_law_1462 : decode cL_law 1462 = .ok (.laload, 1) := by decide +kernel
theorem dL_law_1463 : decode cL_law 1463 = .ok (.iload 6, 2) := by decide +kernel
theorem dL_law_1465 : decode cL_law 1465 = .ok (.i2l, 1) := by decide +kernel
theorem dL_law_1466 : decode cL_law 1466 = .ok (.lcmp, 1) := by decide +kernel
theorem dL_law_1467 : decode cL_law 1467 = .ok (.ifCond .eq 5, 3) := by decide +kernel
theorem dL_law_1470 : decode cL_law 1470 = .ok (.iconst 0, 1) := by decide +kernel
theorem dL_law_1471 : decode cL_law 1471 = .ok (.ireturn, 1) := by decide +kernel
theorem dL_law_1472 : decode cL_law 1472 = .ok (.goto 1057, 3) := by decide +kernel
theorem dL_law_1475 : decode cL_law 1475 = .ok (.aload_n 1, 1) := by decide +kernel
theorem dL_law_1476 : decode cL_law 1476 = .ok (.aload_n 0, 1) := by decide +kernel
theorem dL_law_1477 : decode cL_law 1477 = .ok (.iload 4, 2) := by decide +kernel
theorem dL_law_1479 : decode cL_law 1479 = .ok (.iconst 1, 1) := by decide +kernel
theorem dL_law_1480 : decode cL_law 1480 = .ok (.iadd, 1) := by decide +kernel
theorem dL_law_1481 : decode cL_law 1481 = .ok (.iaload, 1) := by decide +kernel
theorem dL_law_1482 : decode cL_law 1482 = .ok (.aload_n 0, 1) := by decide +kernel
theorem dL_law_1483 : decode cL_law 1483 = .ok (.iload 4, 2) := by decide +kernel
theorem dL_law_1485 : decode cL_law 1485 = .ok (.iconst 2, 1) := by decide +kernel
theorem dL_law_1486 : decode cL_law 1486 = .ok (.iadd, 1) := by decide +kernel
theorem dL_law_1487 : decode cL_law 1487 = .ok (.iaload, 1) := by decide +kernel
theorem dL_law_1488 : decode cL_law 1488 = .ok (.aload_n 3, 1) := by decide +kernel
theorem dL_law_1489 : decode cL_law 1489 = .ok (.invokestatic 195, 3) := by decide +kernel
theorem dL_law_1492 : decode cL_law 1492 = .ok (.istore 5, 2) := by decide +kernel
theorem dL_law_1494 : decode cL_law 1494 = .ok (.aload_n 2, 1) := by decide +kernel
theorem dL_law_1495 : decode cL_law 1495 = .ok (.aload_n 0, 1) := by decide +kernel
theorem dL_law_1496 : decode cL_law 1496 = .ok (.iload 4, 2) := by decide +kernel
theorem dL_law_1498 : decode cL_law 1498 = .ok (.iconst 1, 1) := by decide +kernel
theorem dL_law_1499 : decode cL_law 1499 = .ok (.iadd, 1) := by decide +kernel
theorem dL_law_1500 : decode cL_law 1500 = .ok (.iaload, 1) := by decide +kernel
theorem dL_law_1501 : decode cL_law 1501 = .ok (.aload_n 0, 1) := by decide +kernel
theorem dL_law_1502 : decode cL_law 1502 = .ok (.iload 4, 2) := by decide +kernel
theorem dL_law_1504 : decode cL_law 1504 = .ok (.iconst 2, 1) := by decide +kernel
theorem dL_law_1505 : decode cL_law 1505 = .ok (.iadd, 1) := by decide +kernel
theorem dL_law_1506 : decode cL_law 1506 = .ok (.iaload, 1) := by decide +kernel
theorem dL_law_1507 : decode cL_law 1507 = .ok (.invokevirtual 197, 3) := by decide +kernel
theorem dL_law_1510 : decode cL_law 1510 = .ok (.istore 6, 2) := by decide +kernel
theorem dL_law_1512 : decode cL_law 1512 = .ok (.aload_n 2, 1) := by decide +kernel
theorem dL_law_1513 : decode cL_law 1513 = .ok (.invokevirtual 128, 3) := by decide +kernel
theorem dL_law_1516 : decode cL_law 1516 = .ok (.iload 5, 2) := by decide +kernel
theorem dL_law_1518 : decode cL_law 1518 = .ok (.if_icmp .eq 5, 3) := by decide +kernel
theorem dL_law_1521 : decode cL_law 1521 = .ok (.iconst 0, 1) := by decide +kernel
theorem dL_law_1522 : decode cL_law 1522 = .ok (.ireturn, 1) := by decide +kernel
theorem dL_law_1523 : decode cL_law 1523 = .ok (.iload 5, 2) := by decide +kernel
theorem dL_law_1525 : decode cL_law 1525 = .ok (.ifCond .ne 15, 3) := by decide +kernel
theorem dL_law_1528 : decode cL_law 1528 = .ok (.aload_n 3, 1) := by decide +kernel
theorem dL_law_1529 : decode cL_law 1529 = .ok (.iconst 0, 1) := by decide +kernel
theorem dL_law_1530 : decode cL_law 1530 = .ok (.laload, 1) := by decide +kernel
theorem dL_law_1531 : decode cL_law 1531 = .ok (.iload 6, 2) := by decide +kernel
theorem dL_law_1533 : decode cL_law 1533 = .ok (.i2l, 1) := by decide +kernel
theorem dL_law_1534 : decode cL_law 1534 = .ok (.lcmp, 1) := by decide +kernel
theorem dL_law_1535 : decode cL_law 1535 = .ok (.ifCond .eq 5, 3) := by decide +kernel
theorem dL_law_1538 : decode cL_law 1538 = .ok (.iconst 0, 1) := by decide +kernel
theorem dL_law_1539 : decode cL_law 1539 = .ok (.ireturn, 1) := by decide +kernel
theorem dL_law_1540 : decode cL_law 1540 = .ok (.goto 989, 3) := by decide +kernel
theorem dL_law_1543 : decode cL_law 1543 = .ok (.aload_n 1, 1) := by decide +kernel
theorem dL_law_1544 : decode cL_law 1544 = .ok (.aload_n 0, 1) := by decide +kernel
theorem dL_law_1545 : decode cL_law 1545 = .ok (.iload 4, 2) := by decide +kernel
theorem dL_law_1547 : decode cL_law 1547 = .ok (.iconst 1, 1) := by decide +kernel
theorem dL_law_1548 : decode cL_law 1548 = .ok (.iadd, 1) := by decide +kernel
theorem dL_law_1549 : decode cL_law 1549 = .ok (.iaload, 1) := by decide +kernel
theorem dL_law_1550 : decode cL_law 1550 = .ok (.aload_n 0, 1) := by decide +kernel
theorem dL_law_1551 : decode cL_law 1551 = .ok (.iload 4, 2) := by decide +kernel
theorem dL_law_1553 : decode cL_law 1553 = .ok (.iconst 2, 1) := by decide +kernel
theorem dL_law_1554 : decode cL_law 1554 = .ok (.iadd, 1) := by decide +kernel
theorem dL_law_1555 : decode cL_law 1555 = .ok (.iaload, 1) := by decide +kernel
theorem dL_law_1556 : decode cL_law 1556 = .ok (.aload_n 0, 1) := by decide +kernel
theorem dL_law_1557 : decode cL_law 1557 = .ok (.iload 4, 2) := by decide +kernel
theorem dL_law_1559 : decode cL_law 1559 = .ok (.iconst 3, 1) := by decide +kernel
theorem dL_law_1560 : decode cL_law 1560 = .ok (.iadd, 1) := by decide +kernel
theorem dL_law_1561 : decode cL_law 1561 = .ok (.iaload, 1) := by decide +kernel
theorem dL_law_1562 : decode cL_law 1562 = .ok (.aload_n 0, 1) := by decide +kernel
theorem dL_law_1563 : decode cL_law 1563 = .ok (.iload 4, 2) := by decide +kernel
theorem dL_law_1565 : decode cL_law 1565 = .ok (.iconst 4, 1) := by decide +kernel
theorem dL_law_1566 : decode cL_law 1566 = .ok (.iadd, 1) := by decide +kernel
theorem dL_law_1567 : decode cL_law 1567 = .ok (.iaload, 1) := by decide +kernel
theorem dL_law_1568 : decode cL_law 1568 = .ok (.aload_n 3, 1) := by decide +kernel
theorem dL_law_1569 : decode cL_law 1569 = .ok (.invokestatic 198, 3) := by decide +kernel
theorem dL_law_1572 : decode cL_law 1572 = .ok (.istore 5, 2) := by decide +kernel
theorem dL_law_1574 : decode cL_law 1574 = .ok (.aload_n 2, 1) := by decide +kernel
theorem dL_law_1575 : decode cL_law 1575 = .ok (.aload_n 0, 1) := by decide +kernel
theorem dL_law_1576 : decode cL_law 1576 = .ok (.iload 4, 2) := by decide +kernel
theorem dL_law_1578 : decode cL_law 1578 = .ok (.iconst 1, 1) := by decide +kernel
theorem dL_law_1579 : decode cL_law 1579 = .ok (.iadd, 1) := by decide +kernel
theorem dL_law_1580 : decode cL_law 1580 = .ok (.iaload, 1) := by decide +kernel
theorem dL_law_1581 : decode cL_law 1581 = .ok (.aload_n 0, 1) := by decide +kernel
theorem dL_law_1582 : decode cL_law 1582 = .ok (.iload 4, 2) := by decide +kernel
theorem dL_law_1584 : decode cL_law 1584 = .ok (.iconst 2, 1) := by decide +kernel
theorem dL_law_1585 : decode cL_law 1585 = .ok (.iadd, 1) := by decide +kernel
theorem dL_law_1586 : decode cL_law 1586 = .ok (.iaload, 1) := by decide +kernel
theorem dL_law_1587 : decode cL_law 1587 = .ok (.aload_n 0, 1) := by decide +kernel
theorem dL_law_1588 : decode cL_law 1588 = .ok (.iload 4, 2) := by decide +kernel
theorem dL_law_1590 : decode cL_law 1590 = .ok (.iconst 3, 1) := by decide +kernel
theorem dL_law_1591 : decode cL_law 1591 = .ok (.iadd, 1) := by decide +kernel
theorem dL_law_1592 : decode cL_law 1592 = .ok (.iaload, 1) := by decide +kernel
theorem dL_law_1593 : decode cL_law 1593 = .ok (.aload_n 0, 1) := by decide +kernel
theorem dL_law_1594 : decode cL_law 1594 = .ok (.iload 4, 2) := by decide +kernel
theorem dL_law_1596 : decode cL_law 1596 = .ok (.iconst 4, 1) := by decide +kernel
theorem dL_law_1597 : decode cL_law 1597 = .ok (.iadd, 1) := by decide +kernel
theorem dL_law_1598 : decode cL_law 1598 = .ok (.iaload, 1) := by decide +kernel
theorem dL_law_1599 : decode cL_law 1599 = .ok (.invokevirtual 200, 3) := by decide +kernel
theorem dL_law_1602 : decode cL_law 1602 = .ok (.istore 6, 2) := by decide +kernel
theorem dL_law_1604 : decode cL_law 1604 = .ok (.aload_n 2, 1) := by decide +kernel
theorem dL_law_1605 : decode cL_law 1605 = .ok (.invokevirtual 128, 3) := by decide +kernel
theorem dL_law_1608 : decode cL_law 1608 = .ok (.iload 5, 2) := by decide +kernel
theorem dL_law_1610 : decode cL_law 1610 = .ok (.if_icmp .eq 5, 3) := by decide +kernel
theorem dL_law_1613 : decode cL_law 1613 = .ok (.iconst 0, 1) := by decide +kernel
theorem dL_law_1614 : decode cL_law 1614 = .ok (.ireturn, 1) := by decide +kernel
theorem dL_law_1615 : decode cL_law 1615 = .ok (.iload 5, 2) := by decide +kernel
theorem dL_law_1617 : decode cL_law 1617 = .ok (.ifCond .ne 15, 3) := by decide +kernel
theorem dL_law_1620 : decode cL_law 1620 = .ok (.aload_n 3, 1) := by decide +kernel
theorem dL_law_1621 : decode cL_law 1621 = .ok (.iconst 0, 1) := by decide +kernel
theorem dL_law_1622 : decode cL_law 1622 = .ok (.laload, 1) := by decide +kernel
theorem dL_law_1623 : decode cL_law 1623 = .ok (.iload 6, 2) := by decide +kernel
theorem dL_law_1625 : decode cL_law 1625 = .ok (.i2l, 1) := by decide +kernel
theorem dL_law_1626 : decode cL_law 1626 = .ok (.lcmp, 1) := by decide +kernel
theorem dL_law_1627 : decode cL_law 1627 = .ok (.ifCond .eq 5, 3) := by decide +kernel
theorem dL_law_1630 : decode cL_law 1630 = .ok (.iconst 0, 1) := by decide +kernel
theorem dL_law_1631 : decode cL_law 1631 = .ok (.ireturn, 1) := by decide +kernel
theorem dL_law_1632 : decode cL_law 1632 = .ok (.goto 897, 3) := by decide +kernel
theorem dL_law_1635 : decode cL_law 1635 = .ok (.aload_n 1, 1) := by decide +kernel
theorem dL_law_1636 : decode cL_law 1636 = .ok (.aload_n 0, 1) := by decide +kernel
theorem dL_law_1637 : decode cL_law 1637 = .ok (.iload 4, 2) := by decide +kernel
theorem dL_law_1639 : decode cL_law 1639 = .ok (.iconst 1, 1) := by decide +kernel
theorem dL_law_1640 : decode cL_law 1640 = .ok (.iadd, 1) := by decide +kernel
theorem dL_law_1641 : decode cL_law 1641 = .ok (.iaload, 1) := by decide +kernel
theorem dL_law_1642 : decode cL_law 1642 = .ok (.aload_n 0, 1) := by decide +kernel
theorem dL_law_1643 : decode cL_law 1643 = .ok (.iload 4, 2) := by decide +kernel
theorem dL_law_1645 : decode cL_law 1645 = .ok (.iconst 2, 1) := by decide +kernel
theorem dL_law_1646 : decode cL_law 1646 = .ok (.iadd, 1) := by decide +kernel
theorem dL_law_1647 : decode cL_law 1647 = .ok (.iaload, 1) := by decide +kernel
theorem dL_law_1648 : decode cL_law 1648 = .ok (.aload_n 3, 1) := by decide +kernel
theorem dL_law_1649 : decode cL_law 1649 = .ok (.invokestatic 201, 3) := by decide +kernel
theorem dL_law_1652 : decode cL_law 1652 = .ok (.istore 5, 2) := by decide +kernel
theorem dL_law_1654 : decode cL_law 1654 = .ok (.aload_n 2, 1) := by decide +kernel
theorem dL_law_1655 : decode cL_law 1655 = .ok (.aload_n 0, 1) := by decide +kernel
theorem dL_law_1656 : decode cL_law 1656 = .ok (.iload 4, 2) := by decide +kernel
theorem dL_law_1658 : decode cL_law 1658 = .ok (.iconst 1, 1) := by decide +kernel
theorem dL_law_1659 : decode cL_law 1659 = .ok (.iadd, 1) := by decide +kernel
theorem dL_law_1660 : decode cL_law 1660 = .ok (.iaload, 1) := by decide +kernel
theorem dL_law_1661 : decode cL_law 1661 = .ok (.aload_n 0, 1) := by decide +kernel
theorem dL_law_1662 : decode cL_law 1662 = .ok (.iload 4, 2) := by decide +kernel
theorem dL_law_1664 : decode cL_law 1664 = .ok (.iconst 2, 1) := by decide +kernel
theorem dL_law_1665 : decode cL_law 1665 = .ok (.iadd, 1) := by decide +kernel
theorem dL_law_1666 : decode cL_law 1666 = .ok (.iaload, 1) := by decide +kernel
theorem dL_law_1667 : decode cL_law 1667 = .ok (.invokevirtual 203, 3) := by decide +kernel
theorem dL_law_1670 : decode cL_law 1670 = .ok (.istore 6, 2) := by decide +kernel
theorem dL_law_1672 : decode cL_law 1672 = .ok (.aload_n 2, 1) := by decide +kernel
theorem dL_law_1673 : decode cL_law 1673 = .ok (.invokevirtual 128, 3) := by decide +kernel
theorem dL_law_1676 : decode cL_law 1676 = .ok (.iload 5, 2) := by decide +kernel
theorem dL_law_1678 : decode cL_law 1678 = .ok (.if_icmp .eq 5, 3) := by decide +kernel
theorem dL_law_1681 : decode cL_law 1681 = .ok (.iconst 0, 1) := by decide +kernel
theorem dL_law_1682 : decode cL_law 1682 = .ok (.ireturn, 1) := by decide +kernel
theorem dL_law_1683 : decode cL_law 1683 = .ok (.iload 5, 2) := by decide +kernel
theorem dL_law_1685 : decode cL_law 1685 = .ok (.ifCond .ne 22, 3) := by decide +kernel
theorem dL_law_1688 : decode cL_law 1688 = .ok (.aload_n 3, 1) := by decide +kernel
theorem dL_law_1689 : decode cL_law 1689 = .ok (.iconst 0, 1) := by decide +kernel
theorem dL_law_1690 : decode cL_law 1690 = .ok (.laload, 1) := by decide +kernel
theorem dL_law_1691 : decode cL_law 1691 = .ok (.iload 6, 2) := by decide +kernel
theorem dL_law_1693 : decode cL_law 1693 = .ok (.ifCond .eq 7, 3) := by decide +kernel
theorem dL_law_1696 : decode cL_law 1696 = .ok (.lconst 1, 1) := by decide +kernel
theorem dL_law_1697 : decode cL_law 1697 = .ok (.goto 4, 3) := by decide +kernel
theorem dL_law_1700 : decode cL_law 1700 = .ok (.lconst 0, 1) := by decide +kernel
theorem dL_law_1701 : decode cL_law 1701 = .ok (.lcmp, 1) := by decide +kernel
theorem dL_law_1702 : decode cL_law 1702 = .ok (.ifCond .eq 5, 3) := by decide +kernel
theorem dL_law_1705 : decode cL_law 1705 = .ok (.iconst 0, 1) := by decide +kernel
theorem dL_law_1706 : decode cL_law 1706 = .ok (.ireturn, 1) := by decide +kernel
theorem dL_law_1707 : decode cL_law 1707 = .ok (.goto 822, 3) := by decide +kernel
theorem dL_law_1710 : decode cL_law 1710 = .ok (.aload_n 1, 1) := by decide +kernel
theorem dL_law_1711 : decode cL_law 1711 = .ok (.aload_n 0, 1) := by decide +kernel
theorem dL_law_1712 : decode cL_law 1712 = .ok (.iload 4, 2) := by decide +kernel
theorem dL_law_1714 : decode cL_law 1714 = .ok (.iconst 1, 1) := by decide +kernel
theorem dL_law_1715 : decode cL_law 1715 = .ok (.iadd, 1) := by decide +kernel
theorem dL_law_1716 : decode cL_law 1716 = .ok (.iaload, 1) := by decide +kernel
theorem dL_law_1717 : decode cL_law 1717 = .ok (.aload_n 0, 1) := by decide +kernel
theorem dL_law_1718 : decode cL_law 1718 = .ok (.iload 4, 2) := by decide +kernel
theorem dL_law_1720 : decode cL_law 1720 = .ok (.iconst 2, 1) := by decide +kernel
theorem dL_law_1721 : decode cL_law 1721 = .ok (.iadd, 1) := by decide +kernel
theorem dL_law_1722 : decode cL_law 1722 = .ok (.iaload, 1) := by decide +kernel
theorem dL_law_1723 : decode cL_law 1723 = .ok (.aload_n 3, 1) := by decide +kernel
theorem dL_law_1724 : decode cL_law 1724 = .ok (.invokestatic 204, 3) := by decide +kernel
theorem dL_law_1727 : decode cL_law 1727 = .ok (.istore 5, 2) := by decide +kernel
theorem dL_law_1729 : decode cL_law 1729 = .ok (.aload_n 2, 1) := by decide +kernel
theorem dL_law_1730 : decode cL_law 1730 = .ok (.aload_n 0, 1) := by decide +kernel
theorem dL_law_1731 : decode cL_law 1731 = .ok (.iload 4, 2) := by decide +kernel
theorem dL_law_1733 : decode cL_law 1733 = .ok (.iconst 1, 1) := by decide +kernel
theorem dL_law_1734 : decode cL_law 1734 = .ok (.iadd, 1) := by decide +kernel
theorem dL_law_1735 : decode cL_law 1735 = .ok (.iaload, 1) := by decide +kernel
theorem dL_law_1736 : decode cL_law 1736 = .ok (.aload_n 0, 1) := by decide +kernel
theorem dL_law_1737 : decode cL_law 1737 = .ok (.iload 4, 2) := by decide +kernel
theorem dL_law_1739 : decode cL_law 1739 = .ok (.iconst 2, 1) := by decide +kernel
theorem dL_law_1740 : decode cL_law 1740 = .ok (.iadd, 1) := by decide +kernel
theorem dL_law_1741 : decode cL_law 1741 = .ok (.iaload, 1) := by decide +kernel
theorem dL_law_1742 : decode cL_law 1742 = .ok (.invokevirtual 206, 3) := by decide +kernel
theorem dL_law_1745 : decode cL_law 1745 = .ok (.istore 6, 2) := by decide +kernel
theorem dL_law_1747 : decode cL_law 1747 = .ok (.aload_n 2, 1) := by decide +kernel
theorem dL_law_1748 : decode cL_law 1748 = .ok (.invokevirtual 128, 3) := by decide +kernel
theorem dL_law_1751 : decode cL_law 1751 = .ok (.iload 5, 2) := by decide +kernel
theorem dL_law_1753 : decode cL_law 1753 = .ok (.if_icmp .eq 5, 3) := by decide +kernel
theorem dL_law_1756 : decode cL_law 1756 = .ok (.iconst 0, 1) := by decide +kernel
theorem dL_law_1757 : decode cL_law 1757 = .ok (.ireturn, 1) := by decide +kernel
theorem dL_law_1758 : decode cL_law 1758 = .ok (.iload 5, 2) := by decide +kernel
theorem dL_law_1760 : decode cL_law 1760 = .ok (.ifCond .ne 15, 3) := by decide +kernel
theorem dL_law_1763 : decode cL_law 1763 = .ok (.aload_n 3, 1) := by decide +kernel
theorem dL_law_1764 : decode cL_law 1764 = .ok (.iconst 0, 1) := by decide +kernel
theorem dL_law_1765 : decode cL_law 1765 = .ok (.laload, 1) := by decide +kernel
theorem dL_law_1766 : decode cL_law 1766 = .ok (.iload 6, 2) := by decide +kernel
theorem dL_law_1768 : decode cL_law 1768 = .ok (.i2l, 1) := by decide +kernel
theorem dL_law_1769 : decode cL_law 1769 = .ok (.lcmp, 1) := by decide +kernel
theorem dL_law_1770 : decode cL_law 1770 = .ok (.ifCond .eq 5, 3) := by decide +kernel
theorem dL_law_1773 : decode cL_law 1773 = .ok (.iconst 0, 1) := by decide +kernel
theorem dL_law_1774 : decode cL_law 1774 = .ok (.ireturn, 1) := by decide +kernel
theorem dL_law_1775 : decode cL_law 1775 = .ok (.goto 754, 3) := by decide +kernel
theorem dL_law_1778 : decode cL_law 1778 = .ok (.aload_n 1, 1) := by decide +kernel
theorem dL_law_1779 : decode cL_law 1779 = .ok (.aload_n 0, 1) := by decide +kernel
theorem dL_law_1780 : decode cL_law 1780 = .ok (.iload 4, 2) := by decide +kernel
theorem dL_law_1782 : decode cL_law 1782 = .ok (.iconst 1, 1) := by decide +kernel
theorem dL_law_1783 : decode cL_law 1783 = .ok (.iadd, 1) := by decide +kernel
theorem dL_law_1784 : decode cL_law 1784 = .ok (.iaload, 1) := by decide +kernel
theorem dL_law_1785 : decode cL_law 1785 = .ok (.aload_n 0, 1) := by decide +kernel
theorem dL_law_1786 : decode cL_law 1786 = .ok (.iload 4, 2) := by decide +kernel
theorem dL_law_1788 : decode cL_law 1788 = .ok (.iconst 2, 1) := by decide +kernel
theorem dL_law_1789 : decode cL_law 1789 = .ok (.iadd, 1) := by decide +kernel
theorem dL_law_1790 : decode cL_law 1790 = .ok (.iaload, 1) := by decide +kernel
theorem dL_law_1791 : decode cL_law 1791 = .ok (.aload_n 3, 1) := by decide +kernel
theorem dL_law_1792 : decode cL_law 1792 = .ok (.invokestatic 207, 3) := by decide +kernel
theorem dL_law_1795 : decode cL_law 1795 = .ok (.istore 5, 2) := by decide +kernel
theorem dL_law_1797 : decode cL_law 1797 = .ok (.aload_n 2, 1) := by decide +kernel
theorem dL_law_1798 : decode cL_law 1798 = .ok (.aload_n 0, 1) := by decide +kernel
theorem dL_law_1799 : decode cL_law 1799 = .ok (.iload 4, 2) := by decide +kernel
theorem dL_law_1801 : decode cL_law 1801 = .ok (.iconst 1, 1) := by decide +kernel
theorem dL_law_1802 : decode cL_law 1802 = .ok (.iadd, 1) := by decide +kernel
theorem dL_law_1803 : decode cL_law 1803 = .ok (.iaload, 1) := by decide +kernel
theorem dL_law_1804 : decode cL_law 1804 = .ok (.aload_n 0, 1) := by decide +kernel
theorem dL_law_1805 : decode cL_law 1805 = .ok (.iload 4, 2) := by decide +kernel
theorem dL_law_1807 : decode cL_law 1807 = .ok (.iconst 2, 1) := by decide +kernel
theorem dL_law_1808 : decode cL_law 1808 = .ok (.iadd, 1) := by decide +kernel
theorem dL_law_1809 : decode cL_law 1809 = .ok (.iaload, 1) := by decide +kernel
theorem dL_law_1810 : decode cL_law 1810 = .ok (.invokevirtual 209, 3) := by decide +kernel
theorem dL_law_1813 : decode cL_law 1813 = .ok (.istore 6, 2) := by decide +kernel
theorem dL_law_1815 : decode cL_law 1815 = .ok (.aload_n 2, 1) := by decide +kernel
theorem dL_law_1816 : decode cL_law 1816 = .ok (.invokevirtual 128, 3) := by decide +kernel
theorem dL_law_1819 : decode cL_law 1819 = .ok (.iload 5, 2) := by decide +kernel
theorem dL_law_1821 : decode cL_law 1821 = .ok (.if_icmp .eq 5, 3) := by decide +kernel
theorem dL_law_1824 : decode cL_law 1824 = .ok (.iconst 0, 1) := by decide +kernel
theorem dL_law_1825 : decode cL_law 1825 = .ok (.ireturn, 1) := by decide +kernel
theorem dL_law_1826 : decode cL_law 1826 = .ok (.iload 5, 2) := by decide +kernel
theorem dL_law_1828 : decode cL_law 1828 = .ok (.ifCond .ne 15, 3) := by decide +kernel
theorem dL_law_1831 : decode cL_law 1831 = .ok (.aload_n 3, 1) := by decide +kernel
theorem dL_law_1832 : decode cL_law 1832 = .ok (.iconst 0, 1) := by decide +kernel
theorem dL_law_1833 : decode cL_law 1833 = .ok (.laload, 1) := by decide +kernel
theorem dL_law_1834 : decode cL_law 1834 = .ok (.iload 6, 2) := by decide +kernel
theorem dL_law_1836 : decode cL_law 1836 = .ok (.i2l, 1) := by decide +kernel
theorem dL_law_1837 : decode cL_law 1837 = .ok (.lcmp, 1) := by decide +kernel
theorem dL_law_1838 : decode cL_law 1838 = .ok (.ifCond .eq 5, 3) := by decide +kernel
theorem dL_law_1841 : decode cL_law 1841 = .ok (.iconst 0, 1) := by decide +kernel
theorem dL_law_1842 : decode cL_law 1842 = .ok (.ireturn, 1) := by decide +kernel
theorem dL_law_1843 : decode cL_law 1843 = .ok (.goto 686, 3) := by decide +kernel
theorem dL_law_1846 : decode cL_law 1846 = .ok (.aload_n 1, 1) := by decide +kernel
theorem dL_law_1847 : decode cL_law 1847 = .ok (.aload_n 0, 1) := by decide +kernel
theorem dL_law_1848 : decode cL_law 1848 = .ok (.iload 4, 2) := by decide +kernel
theorem dL_law_1850 : decode cL_law 1850 = .ok (.iconst 1, 1) := by decide +kernel
theorem dL_law_1851 : decode cL_law 1851 = .ok (.iadd, 1) := by decide +kernel
theorem dL_law_1852 : decode cL_law 1852 = .ok (.iaload, 1) := by decide +kernel
theorem dL_law_1853 : decode cL_law 1853 = .ok (.aload_n 0, 1) := by decide +kernel
theorem dL_law_1854 : decode cL_law 1854 = .ok (.iload 4, 2) := by decide +kernel
theorem dL_law_1856 : decode cL_law 1856 = .ok (.iconst 2, 1) := by decide +kernel
theorem dL_law_1857 : decode cL_law 1857 = .ok (.iadd, 1) := by decide +kernel
theorem dL_law_1858 : decode cL_law 1858 = .ok (.iaload, 1) := by decide +kernel
theorem dL_law_1859 : decode cL_law 1859 = .ok (.aload_n 3, 1) := by decide +kernel
theorem dL_law_1860 : decode cL_law 1860 = .ok (.invokestatic 210, 3) := by decide +kernel
theorem dL_law_1863 : decode cL_law 1863 = .ok (.istore 5, 2) := by decide +kernel
theorem dL_law_1865 : decode cL_law 1865 = .ok (.aload_n 2, 1) := by decide +kernel
theorem dL_law_1866 : decode cL_law 1866 = .ok (.aload_n 0, 1) := by decide +kernel
theorem dL_law_1867 : decode cL_law 1867 = .ok (.iload 4, 2) := by decide +kernel
theorem dL_law_1869 : decode cL_law 1869 = .ok (.iconst 1, 1) := by decide +kernel
theorem dL_law_1870 : decode cL_law 1870 = .ok (.iadd, 1) := by decide +kernel
theorem dL_law_1871 : decode cL_law 1871 = .ok (.iaload, 1) := by decide +kernel
theorem dL_law_1872 : decode cL_law 1872 = .ok (.aload_n 0, 1) := by decide +kernel
theorem dL_law_1873 : decode cL_law 1873 = .ok (.iload 4, 2) := by decide +kernel
theorem dL_law_1875 : decode cL_law 1875 = .ok (.iconst 2, 1) := by decide +kernel
theorem dL_law_1876 : decode cL_law 1876 = .ok (.iadd, 1) := by decide +kernel
theorem dL_law_1877 : decode cL_law 1877 = .ok (.iaload, 1) := by decide +kernel
theorem dL_law_1878 : decode cL_law 1878 = .ok (.invokevirtual 212, 3) := by decide +kernel
theorem dL_law_1881 : decode cL_law 1881 = .ok (.istore 6, 2) := by decide +kernel
theorem dL_law_1883 : decode cL_law 1883 = .ok (.aload_n 2, 1) := by decide +kernel
theorem dL_law_1884 : decode cL_law 1884 = .ok (.invokevirtual 128, 3) := by decide +kernel
theorem dL_law_1887 : decode cL_law 1887 = .ok (.iload 5, 2) := by decide +kernel
theorem dL_law_1889 : decode cL_law 1889 = .ok (.if_icmp .eq 5, 3) := by decide +kernel
theorem dL_law_1892 : decode cL_law 1892 = .ok (.iconst 0, 1) := by decide +kernel
theorem dL_law_1893 : decode cL_law 1893 = .ok (.ireturn, 1) := by decide +kernel
theorem dL_law_1894 : decode cL_law 1894 = .ok (.iload 5, 2) := by decide +kernel
theorem dL_law_1896 : decode cL_law 1896 = .ok (.ifCond .ne 15, 3) := by decide +kernel
theorem dL_law_1899 : decode cL_law 1899 = .ok (.aload_n 3, 1) := by decide +kernel
theorem dL_law_1900 : decode cL_law 1900 = .ok (.iconst 0, 1) := by decide +kernel
theorem dL_law_1901 : decode cL_law 1901 = .ok (.laload, 1) := by decide +kernel
theorem dL_law_1902 : decode cL_law 1902 = .ok (.iload 6, 2) := by decide +kernel
theorem dL_law_1904 : decode cL_law 1904 = .ok (.i2l, 1) := by decide +kernel
theorem dL_law_1905 : decode cL_law 1905 = .ok (.lcmp, 1) := by decide +kernel
theorem dL_law_1906 : decode cL_law 1906 = .ok (.ifCond .eq 5, 3) := by decide +kernel
theorem dL_law_1909 : decode cL_law 1909 = .ok (.iconst 0, 1) := by decide +kernel
theorem dL_law_1910 : decode cL_law 1910 = .ok (.ireturn, 1) := by decide +kernel
theorem dL_law_1911 : decode cL_law 1911 = .ok (.goto 618, 3) := by decide +kernel
theorem dL_law_1914 : decode cL_law 1914 = .ok (.aload_n 1, 1) := by decide +kernel
theorem dL_law_1915 : decode cL_law 1915 = .ok (.aload_n 0, 1) := by decide +kernel
theorem dL_law_1916 : decode cL_law 1916 = .ok (.iload 4, 2) := by decide +kernel
theorem dL_law_1918 : decode cL_law 1918 = .ok (.iconst 1, 1) := by decide +kernel
theorem dL_law_1919 : decode cL_law 1919 = .ok (.iadd, 1) := by decide +kernel
theorem dL_law_1920 : decode cL_law 1920 = .ok (.iaload, 1) := by decide +kernel
theorem dL_law_1921 : decode cL_law 1921 = .ok (.aload_n 0, 1) := by decide +kernel
theorem dL_law_1922 : decode cL_law 1922 = .ok (.iload 4, 2) := by decide +kernel
theorem dL_law_1924 : decode cL_law 1924 = .ok (.iconst 2, 1) := by decide +kernel
theorem dL_law_1925 : decode cL_law 1925 = .ok (.iadd, 1) := by decide +kernel
theorem dL_law_1926 : decode cL_law 1926 = .ok (.iaload, 1) := by decide +kernel
theorem dL_law_1927 : decode cL_law 1927 = .ok (.aload_n 0, 1) := by decide +kernel
theorem dL_law_1928 : decode cL_law 1928 = .ok (.iload 4, 2) := by decide +kernel
theorem dL_law_1930 : decode cL_law 1930 = .ok (.iconst 3, 1) := by decide +kernel
theorem dL_law_1931 : decode cL_law 1931 = .ok (.iadd, 1) := by decide +kernel
theorem dL_law_1932 : decode cL_law 1932 = .ok (.iaload, 1) := by decide +kernel
theorem dL_law_1933 : decode cL_law 1933 = .ok (.ifCond .eq 7, 3) := by decide +kernel
theorem dL_law_1936 : decode cL_law 1936 = .ok (.iconst 1, 1) := by decide +kernel
theorem dL_law_1937 : decode cL_law 1937 = .ok (.goto 4, 3) := by decide +kernel
theorem dL_law_1940 : decode cL_law 1940 = .ok (.iconst 0, 1) := by decide +kernel
theorem dL_law_1941 : decode cL_law 1941 = .ok (.aload_n 3, 1) := by decide +kernel
theorem dL_law_1942 : decode cL_law 1942 = .ok (.invokestatic 213, 3) := by decide +kernel
theorem dL_law_1945 : decode cL_law 1945 = .ok (.istore 5, 2) := by decide +kernel
theorem dL_law_1947 : decode cL_law 1947 = .ok (.aload_n 2, 1) := by decide +kernel
theorem dL_law_1948 : decode cL_law 1948 = .ok (.aload_n 0, 1) := by decide +kernel
theorem dL_law_1949 : decode cL_law 1949 = .ok (.iload 4, 2) := by decide +kernel
theorem dL_law_1951 : decode cL_law 1951 = .ok (.iconst 1, 1) := by decide +kernel
theorem dL_law_1952 : decode cL_law 1952 = .ok (.iadd, 1) := by decide +kernel
theorem dL_law_1953 : decode cL_law 1953 = .ok (.iaload, 1) := by decide +kernel
theorem dL_law_1954 : decode cL_law 1954 = .ok (.aload_n 0, 1) := by decide +kernel
theorem dL_law_1955 : decode cL_law 1955 = .ok (.iload 4, 2) := by decide +kernel
theorem dL_law_1957 : decode cL_law 1957 = .ok (.iconst 2, 1) := by decide +kernel
theorem dL_law_1958 : decode cL_law 1958 = .ok (.iadd, 1) := by decide +kernel
theorem dL_law_1959 : decode cL_law 1959 = .ok (.iaload, 1) := by decide +kernel
theorem dL_law_1960 : decode cL_law 1960 = .ok (.aload_n 0, 1) := by decide +kernel
theorem dL_law_1961 : decode cL_law 1961 = .ok (.iload 4, 2) := by decide +kernel
theorem dL_law_1963 : decode cL_law 1963 = .ok (.iconst 3, 1) := by decide +kernel
theorem dL_law_1964 : decode cL_law 1964 = .ok (.iadd, 1) := by decide +kernel
theorem dL_law_1965 : decode cL_law 1965 = .ok (.iaload, 1) := by decide +kernel
theorem dL_law_1966 : decode cL_law 1966 = .ok (.ifCond .eq 7, 3) := by decide +kernel
theorem dL_law_1969 : decode cL_law 1969 = .ok (.iconst 1, 1) := by decide +kernel
theorem dL_law_1970 : decode cL_law 1970 = .ok (.goto 4, 3) := by decide +kernel
theorem dL_law_1973 : decode cL_law 1973 = .ok (.iconst 0, 1) := by decide +kernel
theorem dL_law_1974 : decode cL_law 1974 = .ok (.invokevirtual 216, 3) := by decide +kernel
theorem dL_law_1977 : decode cL_law 1977 = .ok (.istore 6, 2) := by decide +kernel
theorem dL_law_1979 : decode cL_law 1979 = .ok (.aload_n 2, 1) := by decide +kernel
theorem dL_law_1980 : decode cL_law 1980 = .ok (.invokevirtual 128, 3) := by decide +kernel
theorem dL_law_1983 : decode cL_law 1983 = .ok (.iload 5, 2) := by decide +kernel
theorem dL_law_1985 : decode cL_law 1985 = .ok (.if_icmp .eq 5, 3) := by decide +kernel
theorem dL_law_1988 : decode cL_law 1988 = .ok (.iconst 0, 1) := by decide +kernel
theorem dL_law_1989 : decode cL_law 1989 = .ok (.ireturn, 1) := by decide +kernel
theorem dL_law_1990 : decode cL_law 1990 = .ok (.iload 5, 2) := by decide +kernel
theorem dL_law_1992 : decode cL_law 1992 = .ok (.ifCond .ne 15, 3) := by decide +kernel
theorem dL_law_1995 : decode cL_law 1995 = .ok (.aload_n 3, 1) := by decide +kernel
theorem dL_law_1996 : decode cL_law 1996 = .ok (.iconst 0, 1) := by decide +kernel
theorem dL_law_1997 : decode cL_law 1997 = .ok (.laload, 1) := by decide +kernel
theorem dL_law_1998 : decode cL_law 1998 = .ok (.iload 6, 2) := by decide +kernel
theorem dL_law_2000 : decode cL_law 2000 = .ok (.i2l, 1) := by decide +kernel
theorem dL_law_2001 : decode cL_law 2001 = .ok (.lcmp, 1) := by decide +kernel
theorem dL_law_2002 : decode cL_law 2002 = .ok (.ifCond .eq 5, 3) := by decide +kernel
theorem dL_law_2005 : decode cL_law 2005 = .ok (.iconst 0, 1) := by decide +kernel
theorem dL_law_2006 : decode cL_law 2006 = .ok (.ireturn, 1) := by decide +kernel
theorem dL_law_2007 : decode cL_law 2007 = .ok (.goto 522, 3) := by decide +kernel
theorem dL_law_2010 : decode cL_law 2010 = .ok (.aload_n 1, 1) := by decide +kernel
theorem dL_law_2011 : decode cL_law 2011 = .ok (.aload_n 0, 1) := by decide +kernel
theorem dL_law_2012 : decode cL_law 2012 = .ok (.iload 4, 2) := by decide +kernel
theorem dL_law_2014 : decode cL_law 2014 = .ok (.iconst 1, 1) := by decide +kernel
theorem dL_law_2015 : decode cL_law 2015 = .ok (.iadd, 1) := by decide +kernel
theorem dL_law_2016 : decode cL_law 2016 = .ok (.iaload, 1) := by decide +kernel
theorem dL_law_2017 : decode cL_law 2017 = .ok (.aload_n 3, 1) := by decide +kernel
theorem dL_law_2018 : decode cL_law 2018 = .ok (.invokestatic 217, 3) := by decide +kernel
theorem dL_law_2021 : decode cL_law 2021 = .ok (.istore 5, 2) := by decide +kernel
theorem dL_law_2023 : decode cL_law 2023 = .ok (.aload_n 2, 1) := by decide +kernel
theorem dL_law_2024 : decode cL_law 2024 = .ok (.aload_n 0, 1) := by decide +kernel
theorem dL_law_2025 : decode cL_law 2025 = .ok (.iload 4, 2) := by decide +kernel
theorem dL_law_2027 : decode cL_law 2027 = .ok (.iconst 1, 1) := by decide +kernel
theorem dL_law_2028 : decode cL_law 2028 = .ok (.iadd, 1) := by decide +kernel
theorem dL_law_2029 : decode cL_law 2029 = .ok (.iaload, 1) := by decide +kernel
theorem dL_law_2030 : decode cL_law 2030 = .ok (.invokevirtual 219, 3) := by decide +kernel
theorem dL_law_2033 : decode cL_law 2033 = .ok (.istore 6, 2) := by decide +kernel
theorem dL_law_2035 : decode cL_law 2035 = .ok (.aload_n 2, 1) := by decide +kernel
theorem dL_law_2036 : decode cL_law 2036 = .ok (.invokevirtual 128, 3) := by decide +kernel
theorem dL_law_2039 : decode cL_law 2039 = .ok (.iload 5, 2) := by decide +kernel
theorem dL_law_2041 : decode cL_law 2041 = .ok (.if_icmp .eq 5, 3) := by decide +kernel
theorem dL_law_2044 : decode cL_law 2044 = .ok (.iconst 0, 1) := by decide +kernel
theorem dL_law_2045 : decode cL_law 2045 = .ok (.ireturn, 1) := by decide +kernel
theorem dL_law_2046 : decode cL_law 2046 = .ok (.iload 5, 2) := by decide +kernel
theorem dL_law_2048 : decode cL_law 2048 = .ok (.ifCond .ne 15, 3) := by decide +kernel
theorem dL_law_2051 : decode cL_law 2051 = .ok (.aload_n 3, 1) := by decide +kernel
theorem dL_law_2052 : decode cL_law 2052 = .ok (.iconst 0, 1) := by decide +kernel
theorem dL_law_2053 : decode cL_law 2053 = .ok (.laload, 1) := by decide +kernel
theorem dL_law_2054 : decode cL_law 2054 = .ok (.iload 6, 2) := by decide +kernel
theorem dL_law_2056 : decode cL_law 2056 = .ok (.i2l, 1) := by decide +kernel
theorem dL_law_2057 : decode cL_law 2057 = .ok (.lcmp, 1) := by decide +kernel
theorem dL_law_2058 : decode cL_law 2058 = .ok (.ifCond .eq 5, 3) := by decide +kernel
theorem dL_law_2061 : decode cL_law 2061 = .ok (.iconst 0, 1) := by decide +kernel
theorem dL_law_2062 : decode cL_law 2062 = .ok (.ireturn, 1) := by decide +kernel
theorem dL_law_2063 : decode cL_law 2063 = .ok (.goto 466, 3) := by decide +kernel
theorem dL_law_2066 : decode cL_law 2066 = .ok (.aload_n 1, 1) := by decide +kernel
theorem dL_law_2067 : decode cL_law 2067 = .ok (.aload_n 0, 1) := by decide +kernel
theorem dL_law_2068 : decode cL_law 2068 = .ok (.iload 4, 2) := by decide +kernel
theorem dL_law_2070 : decode cL_law 2070 = .ok (.iconst 1, 1) := by decide +kernel
theorem dL_law_2071 : decode cL_law 2071 = .ok (.iadd, 1) := by decide +kernel
theorem dL_law_2072 : decode cL_law 2072 = .ok (.iaload, 1) := by decide +kernel
theorem dL_law_2073 : decode cL_law 2073 = .ok (.aload_n 0, 1) := by decide +kernel
theorem dL_law_2074 : decode cL_law 2074 = .ok (.iload 4, 2) := by decide +kernel
theorem dL_law_2076 : decode cL_law 2076 = .ok (.iconst 2, 1) := by decide +kernel
theorem dL_law_2077 : decode cL_law 2077 = .ok (.iadd, 1) := by decide +kernel
theorem dL_law_2078 : decode cL_law 2078 = .ok (.iaload, 1) := by decide +kernel
theorem dL_law_2079 : decode cL_law 2079 = .ok (.aload_n 0, 1) := by decide +kernel
theorem dL_law_2080 : decode cL_law 2080 = .ok (.iload 4, 2) := by decide +kernel
theorem dL_law_2082 : decode cL_law 2082 = .ok (.iconst 3, 1) := by decide +kernel
theorem dL_law_2083 : decode cL_law 2083 = .ok (.iadd, 1) := by decide +kernel
theorem dL_law_2084 : decode cL_law 2084 = .ok (.iaload, 1) := by decide +kernel
theorem dL_law_2085 : decode cL_law 2085 = .ok (.aload_n 3, 1) := by decide +kernel
theorem dL_law_2086 : decode cL_law 2086 = .ok (.invokestatic 220, 3) := by decide +kernel
theorem dL_law_2089 : decode cL_law 2089 = .ok (.istore 5, 2) := by decide +kernel
theorem dL_law_2091 : decode cL_law 2091 = .ok (.aload_n 2, 1) := by decide +kernel
theorem dL_law_2092 : decode cL_law 2092 = .ok (.aload_n 0, 1) := by decide +kernel
theorem dL_law_2093 : decode cL_law 2093 = .ok (.iload 4, 2) := by decide +kernel
theorem dL_law_2095 : decode cL_law 2095 = .ok (.iconst 1, 1) := by decide +kernel
theorem dL_law_2096 : decode cL_law 2096 = .ok (.iadd, 1) := by decide +kernel
theorem dL_law_2097 : decode cL_law 2097 = .ok (.iaload, 1) := by decide +kernel
theorem dL_law_2098 : decode cL_law 2098 = .ok (.aload_n 0, 1) := by decide +kernel
theorem dL_law_2099 : decode cL_law 2099 = .ok (.iload 4, 2) := by decide +kernel
theorem dL_law_2101 : decode cL_law 2101 = .ok (.iconst 2, 1) := by decide +kernel
theorem dL_law_2102 : decode cL_law 2102 = .ok (.iadd, 1) := by decide +kernel
theorem dL_law_2103 : decode cL_law 2103 = .ok (.iaload, 1) := by decide +kernel
theorem dL_law_2104 : decode cL_law 2104 = .ok (.aload_n 0, 1) := by decide +kernel
theorem dL_law_2105 : decode cL_law 2105 = .ok (.iload 4, 2) := by decide +kernel
theorem dL_law_2107 : decode cL_law 2107 = .ok (.iconst 3, 1) := by decide +kernel
theorem dL_law_2108 : decode cL_law 2108 = .ok (.iadd, 1) := by decide +kernel
theorem dL_law_2109 : decode cL_law 2109 = .ok (.iaload, 1) := by decide +kernel
theorem dL_law_2110 : decode cL_law 2110 = .ok (.invokevirtual 222, 3) := by decide +kernel
theorem dL_law_2113 : decode cL_law 2113 = .ok (.istore 6, 2) := by decide +kernel
theorem dL_law_2115 : decode cL_law 2115 = .ok (.aload_n 2, 1) := by decide +kernel
theorem dL_law_2116 : decode cL_law 2116 = .ok (.invokevirtual 128, 3) := by decide +kernel
theorem dL_law_2119 : decode cL_law 2119 = .ok (.iload 5, 2) := by decide +kernel
theorem dL_law_2121 : decode cL_law 2121 = .ok (.if_icmp .eq 5, 3) := by decide +kernel
theorem dL_law_2124 : decode cL_law 2124 = .ok (.iconst 0, 1) := by decide +kernel
theorem dL_law_2125 : decode cL_law 2125 = .ok (.ireturn, 1) := by decide +kernel
theorem dL_law_2126 : decode cL_law 2126 = .ok (.iload 5, 2) := by decide +kernel
theorem dL_law_2128 : decode cL_law 2128 = .ok (.ifCond .ne 15, 3) := by decide +kernel
theorem dL_law_2131 : decode cL_law 2131 = .ok (.aload_n 3, 1) := by decide +kernel
theorem dL_law_2132 : decode cL_law 2132 = .ok (.iconst 0, 1) := by decide +kernel
theorem dL_law_2133 : decode cL_law 2133 = .ok (.laload, 1) := by decide +kernel
theorem dL_law_2134 : decode cL_law 2134 = .ok (.iload 6, 2) := by decide +kernel
theorem dL_law_2136 : decode cL_law 2136 = .ok (.i2l, 1) := by decide +kernel
theorem dL_law_2137 : decode cL_law 2137 = .ok (.lcmp, 1) := by decide +kernel
theorem dL_law_2138 : decode cL_law 2138 = .ok (.ifCond .eq 5, 3) := by decide +kernel
theorem dL_law_2141 : decode cL_law 2141 = .ok (.iconst 0, 1) := by decide +kernel
theorem dL_law_2142 : decode cL_law 2142 = .ok (.ireturn, 1) := by decide +kernel
theorem dL_law_2143 : decode cL_law 2143 = .ok (.goto 386, 3) := by decide +kernel
theorem dL_law_2146 : decode cL_law 2146 = .ok (.aload_n 1, 1) := by decide +kernel
theorem dL_law_2147 : decode cL_law 2147 = .ok (.aload_n 0, 1) := by decide +kernel
theorem dL_law_2148 : decode cL_law 2148 = .ok (.iload 4, 2) := by decide +kernel
theorem dL_law_2150 : decode cL_law 2150 = .ok (.iconst 1, 1) := by decide +kernel
theorem dL_law_2151 : decode cL_law 2151 = .ok (.iadd, 1) := by decide +kernel
theorem dL_law_2152 : decode cL_law 2152 = .ok (.iaload, 1) := by decide +kernel
theorem dL_law_2153 : decode cL_law 2153 = .ok (.aload_n 3, 1) := by decide +kernel
theorem dL_law_2154 : decode cL_law 2154 = .ok (.invokestatic 223, 3) := by decide +kernel
theorem dL_law_2157 : decode cL_law 2157 = .ok (.istore 5, 2) := by decide +kernel
theorem dL_law_2159 : decode cL_law 2159 = .ok (.aload_n 2, 1) := by decide +kernel
theorem dL_law_2160 : decode cL_law 2160 = .ok (.aload_n 0, 1) := by decide +kernel
theorem dL_law_2161 : decode cL_law 2161 = .ok (.iload 4, 2) := by decide +kernel
theorem dL_law_2163 : decode cL_law 2163 = .ok (.iconst 1, 1) := by decide +kernel
theorem dL_law_2164 : decode cL_law 2164 = .ok (.iadd, 1) := by decide +kernel
theorem dL_law_2165 : decode cL_law 2165 = .ok (.iaload, 1) := by decide +kernel
theorem dL_law_2166 : decode cL_law 2166 = .ok (.invokevirtual 225, 3) := by decide +kernel
theorem dL_law_2169 : decode cL_law 2169 = .ok (.istore 6, 2) := by decide +kernel
theorem dL_law_2171 : decode cL_law 2171 = .ok (.aload_n 2, 1) := by decide +kernel
theorem dL_law_2172 : decode cL_law 2172 = .ok (.invokevirtual 128, 3) := by decide +kernel
theorem dL_law_2175 : decode cL_law 2175 = .ok (.iload 5, 2) := by decide +kernel
theorem dL_law_2177 : decode cL_law 2177 = .ok (.if_icmp .eq 5, 3) := by decide +kernel
theorem dL_law_2180 : decode cL_law 2180 = .ok (.iconst 0, 1) := by decide +kernel
theorem dL_law_2181 : decode cL_law 2181 = .ok (.ireturn, 1) := by decide +kernel
theorem dL_law_2182 : decode cL_law 2182 = .ok (.iload 5, 2) := by decide +kernel
theorem dL_law_2184 : decode cL_law 2184 = .ok (.ifCond .ne 15, 3) := by decide +kernel
theorem dL_law_2187 : decode cL_law 2187 = .ok (.aload_n 3, 1) := by decide +kernel
theorem dL_law_2188 : decode cL_law 2188 = .ok (.iconst 0, 1) := by decide +kernel
theorem dL_law_2189 : decode cL_law 2189 = .ok (.laload, 1) := by decide +kernel
theorem dL_law_2190 : decode cL_law 2190 = .ok (.iload 6, 2) := by decide +kernel
theorem dL_law_2192 : decode cL_law 2192 = .ok (.i2l, 1) := by decide +kernel
theorem dL_law_2193 : decode cL_law 2193 = .ok (.lcmp, 1) := by decide +kernel
theorem dL_law_2194 : decode cL_law 2194 = .ok (.ifCond .eq 5, 3) := by decide +kernel
theorem dL_law_2197 : decode cL_law 2197 = .ok (.iconst 0, 1) := by decide +kernel
theorem dL_law_2198 : decode cL_law 2198 = .ok (.ireturn, 1) := by decide +kernel
theorem dL_law_2199 : decode cL_law 2199 = .ok (.goto 330, 3) := by decide +kernel
theorem dL_law_2202 : decode cL_law 2202 = .ok (.aload_n 1, 1) := by decide +kernel
theorem dL_law_2203 : decode cL_law 2203 = .ok (.aload_n 0, 1) := by decide +kernel
theorem dL_law_2204 : decode cL_law 2204 = .ok (.iload 4, 2) := by decide +kernel
theorem dL_law_2206 : decode cL_law 2206 = .ok (.iconst 1, 1) := by decide +kernel
theorem dL_law_2207 : decode cL_law 2207 = .ok (.iadd, 1) := by decide +kernel
theorem dL_law_2208 : decode cL_law 2208 = .ok (.iaload, 1) := by decide +kernel
theorem dL_law_2209 : decode cL_law 2209 = .ok (.aload_n 3, 1) := by decide +kernel
theorem dL_law_2210 : decode cL_law 2210 = .ok (.invokestatic 226, 3) := by decide +kernel
theorem dL_law_2213 : decode cL_law 2213 = .ok (.istore 5, 2) := by decide +kernel
theorem dL_law_2215 : decode cL_law 2215 = .ok (.aload_n 2, 1) := by decide +kernel
theorem dL_law_2216 : decode cL_law 2216 = .ok (.aload_n 0, 1) := by decide +kernel
theorem dL_law_2217 : decode cL_law 2217 = .ok (.iload 4, 2) := by decide +kernel
theorem dL_law_2219 : decode cL_law 2219 = .ok (.iconst 1, 1) := by decide +kernel
theorem dL_law_2220 : decode cL_law 2220 = .ok (.iadd, 1) := by decide +kernel
theorem dL_law_2221 : decode cL_law 2221 = .ok (.iaload, 1) := by decide +kernel
theorem dL_law_2222 : decode cL_law 2222 = .ok (.invokevirtual 228, 3) := by decide +kernel
theorem dL_law_2225 : decode cL_law 2225 = .ok (.istore 6, 2) := by decide +kernel
theorem dL_law_2227 : decode cL_law 2227 = .ok (.aload_n 2, 1) := by decide +kernel
theorem dL_law_2228 : decode cL_law 2228 = .ok (.invokevirtual 128, 3) := by decide +kernel
theorem dL_law_2231 : decode cL_law 2231 = .ok (.iload 5, 2) := by decide +kernel
theorem dL_law_2233 : decode cL_law 2233 = .ok (.if_icmp .eq 5, 3) := by decide +kernel
theorem dL_law_2236 : decode cL_law 2236 = .ok (.iconst 0, 1) := by decide +kernel
theorem dL_law_2237 : decode cL_law 2237 = .ok (.ireturn, 1) := by decide +kernel
theorem dL_law_2238 : decode cL_law 2238 = .ok (.iload 5, 2) := by decide +kernel
theorem dL_law_2240 : decode cL_law 2240 = .ok (.ifCond .ne 15, 3) := by decide +kernel
theorem dL_law_2243 : decode cL_law 2243 = .ok (.aload_n 3, 1) := by decide +kernel
theorem dL_law_2244 : decode cL_law 2244 = .ok (.iconst 0, 1) := by decide +kernel
theorem dL_law_2245 : decode cL_law 2245 = .ok (.laload, 1) := by decide +kernel
theorem dL_law_2246 : decode cL_law 2246 = .ok (.iload 6, 2) := by decide +kernel
theorem dL_law_2248 : decode cL_law 2248 = .ok (.i2l, 1) := by decide +kernel
theorem dL_law_2249 : decode cL_law 2249 = .ok (.lcmp, 1) := by decide +kernel
theorem dL_law_2250 : decode cL_law 2250 = .ok (.ifCond .eq 5, 3) := by decide +kernel
theorem dL_law_2253 : decode cL_law 2253 = .ok (.iconst 0, 1) := by decide +kernel
theorem dL_law_2254 : decode cL_law 2254 = .ok (.ireturn, 1) := by decide +kernel
theorem dL_law_2255 : decode cL_law 2255 = .ok (.goto 274, 3) := by decide +kernel
theorem dL_law_2258 : decode cL_law 2258 = .ok (.aload_n 1, 1) := by decide +kernel
theorem dL_law_2259 : decode cL_law 2259 = .ok (.aload_n 0, 1) := by decide +kernel
theorem dL_law_2260 : decode cL_law 2260 = .ok (.iload 4, 2) := by decide +kernel
theorem dL_law_2262 : decode cL_law 2262 = .ok (.iconst 1, 1) := by decide +kernel
theorem dL_law_2263 : decode cL_law 2263 = .ok (.iadd, 1) := by decide +kernel
theorem dL_law_2264 : decode cL_law 2264 = .ok (.iaload, 1) := by decide +kernel
theorem dL_law_2265 : decode cL_law 2265 = .ok (.aload_n 0, 1) := by decide +kernel
theorem dL_law_2266 : decode cL_law 2266 = .ok (.iload 4, 2) := by decide +kernel
theorem dL_law_2268 : decode cL_law 2268 = .ok (.iconst 2, 1) := by decide +kernel
theorem dL_law_2269 : decode cL_law 2269 = .ok (.iadd, 1) := by decide +kernel
theorem dL_law_2270 : decode cL_law 2270 = .ok (.iaload, 1) := by decide +kernel
theorem dL_law_2271 : decode cL_law 2271 = .ok (.aload_n 3, 1) := by decide +kernel
theorem dL_law_2272 : decode cL_law 2272 = .ok (.invokestatic 229, 3) := by decide +kernel
theorem dL_law_2275 : decode cL_law 2275 = .ok (.istore 5, 2) := by decide +kernel
theorem dL_law_2277 : decode cL_law 2277 = .ok (.aload_n 2, 1) := by decide +kernel
theorem dL_law_2278 : decode cL_law 2278 = .ok (.aload_n 0, 1) := by decide +kernel
theorem dL_law_2279 : decode cL_law 2279 = .ok (.iload 4, 2) := by decide +kernel
theorem dL_law_2281 : decode cL_law 2281 = .ok (.iconst 1, 1) := by decide +kernel
theorem dL_law_2282 : decode cL_law 2282 = .ok (.iadd, 1) := by decide +kernel
theorem dL_law_2283 : decode cL_law 2283 = .ok (.iaload, 1) := by decide +kernel
theorem dL_law_2284 : decode cL_law 2284 = .ok (.aload_n 0, 1) := by decide +kernel
theorem dL_law_2285 : decode cL_law 2285 = .ok (.iload 4, 2) := by decide +kernel
theorem dL_law_2287 : decode cL_law 2287 = .ok (.iconst 2, 1) := by decide +kernel
theorem dL_law_2288 : decode cL_law 2288 = .ok (.iadd, 1) := by decide +kernel
theorem dL_law_2289 : decode cL_law 2289 = .ok (.iaload, 1) := by decide +kernel
theorem dL_law_2290 : decode cL_law 2290 = .ok (.invokevirtual 231, 3) := by decide +kernel
theorem dL_law_2293 : decode cL_law 2293 = .ok (.istore 6, 2) := by decide +kernel
theorem dL_law_2295 : decode cL_law 2295 = .ok (.aload_n 2, 1) := by decide +kernel
theorem dL_law_2296 : decode cL_law 2296 = .ok (.invokevirtual 128, 3) := by decide +kernel
theorem dL_law_2299 : decode cL_law 2299 = .ok (.iload 5, 2) := by decide +kernel
theorem dL_law_2301 : decode cL_law 2301 = .ok (.if_icmp .eq 5, 3) := by decide +kernel
theorem dL_law_2304 : decode cL_law 2304 = .ok (.iconst 0, 1) := by decide +kernel
theorem dL_law_2305 : decode cL_law 2305 = .ok (.ireturn, 1) := by decide +kernel
theorem dL_law_2306 : decode cL_law 2306 = .ok (.iload 5, 2) := by decide +kernel
theorem dL_law_2308 : decode cL_law 2308 = .ok (.ifCond .ne 15, 3) := by decide +kernel
theorem dL_law_2311 : decode cL_law 2311 = .ok (.aload_n 3, 1) := by decide +kernel
theorem dL_law_2312 : decode cL_law 2312 = .ok (.iconst 0, 1) := by decide +kernel
theorem dL_law_2313 : decode cL_law 2313 = .ok (.laload, 1) := by decide +kernel
theorem dL_law_2314 : decode cL_law 2314 = .ok (.iload 6, 2) := by decide +kernel
theorem dL_law_2316 : decode cL_law 2316 = .ok (.i2l, 1) := by decide +kernel
theorem dL_law_2317 : decode cL_law 2317 = .ok (.lcmp, 1) := by decide +kernel
theorem dL_law_2318 : decode cL_law 2318 = .ok (.ifCond .eq 5, 3) := by decide +kernel
theorem dL_law_2321 : decode cL_law 2321 = .ok (.iconst 0, 1) := by decide +kernel
theorem dL_law_2322 : decode cL_law 2322 = .ok (.ireturn, 1) := by decide +kernel
theorem dL_law_2323 : decode cL_law 2323 = .ok (.goto 206, 3) := by decide +kernel
theorem dL_law_2326 : decode cL_law 2326 = .ok (.aload_n 1, 1) := by decide +kernel
theorem dL_law_2327 : decode cL_law 2327 = .ok (.aload_n 0, 1) := by decide +kernel
theorem dL_law_2328 : decode cL_law 2328 = .ok (.iload 4, 2) := by decide +kernel
theorem dL_law_2330 : decode cL_law 2330 = .ok (.iconst 1, 1) := by decide +kernel
theorem dL_law_2331 : decode cL_law 2331 = .ok (.iadd, 1) := by decide +kernel
theorem dL_law_2332 : decode cL_law 2332 = .ok (.iaload, 1) := by decide +kernel
theorem dL_law_2333 : decode cL_law 2333 = .ok (.aload_n 0, 1) := by decide +kernel
theorem dL_law_2334 : decode cL_law 2334 = .ok (.iload 4, 2) := by decide +kernel
theorem dL_law_2336 : decode cL_law 2336 = .ok (.iconst 2, 1) := by decide +kernel
theorem dL_law_2337 : decode cL_law 2337 = .ok (.iadd, 1) := by decide +kernel
theorem dL_law_2338 : decode cL_law 2338 = .ok (.iaload, 1) := by decide +kernel
theorem dL_law_2339 : decode cL_law 2339 = .ok (.aload_n 0, 1) := by decide +kernel
theorem dL_law_2340 : decode cL_law 2340 = .ok (.iload 4, 2) := by decide +kernel
theorem dL_law_2342 : decode cL_law 2342 = .ok (.iconst 3, 1) := by decide +kernel
theorem dL_law_2343 : decode cL_law 2343 = .ok (.iadd, 1) := by decide +kernel
theorem dL_law_2344 : decode cL_law 2344 = .ok (.iaload, 1) := by decide +kernel
theorem dL_law_2345 : decode cL_law 2345 = .ok (.aload_n 0, 1) := by decide +kernel
theorem dL_law_2346 : decode cL_law 2346 = .ok (.iload 4, 2) := by decide +kernel
theorem dL_law_2348 : decode cL_law 2348 = .ok (.iconst 4, 1) := by decide +kernel
theorem dL_law_2349 : decode cL_law 2349 = .ok (.iadd, 1) := by decide +kernel
theorem dL_law_2350 : decode cL_law 2350 = .ok (.iaload, 1) := by decide +kernel
theorem dL_law_2351 : decode cL_law 2351 = .ok (.aload_n 3, 1) := by decide +kernel
theorem dL_law_2352 : decode cL_law 2352 = .ok (.invokestatic 232, 3) := by decide +kernel
theorem dL_law_2355 : decode cL_law 2355 = .ok (.istore 5, 2) := by decide +kernel
theorem dL_law_2357 : decode cL_law 2357 = .ok (.aload_n 2, 1) := by decide +kernel
theorem dL_law_2358 : decode cL_law 2358 = .ok (.aload_n 0, 1) := by decide +kernel
theorem dL_law_2359 : decode cL_law 2359 = .ok (.iload 4, 2) := by decide +kernel
theorem dL_law_2361 : decode cL_law 2361 = .ok (.iconst 1, 1) := by decide +kernel
theorem dL_law_2362 : decode cL_law 2362 = .ok (.iadd, 1) := by decide +kernel
theorem dL_law_2363 : decode cL_law 2363 = .ok (.iaload, 1) := by decide +kernel
theorem dL_law_2364 : decode cL_law 2364 = .ok (.aload_n 0, 1) := by decide +kernel
theorem dL_law_2365 : decode cL_law 2365 = .ok (.iload 4, 2) := by decide +kernel
theorem dL_law_2367 : decode cL_law 2367 = .ok (.iconst 2, 1) := by decide +kernel
theorem dL_law_2368 : decode cL_law 2368 = .ok (.iadd, 1) := by decide +kernel
theorem dL_law_2369 : decode cL_law 2369 = .ok (.iaload, 1) := by decide +kernel
theorem dL_law_2370 : decode cL_law 2370 = .ok (.aload_n 0, 1) := by decide +kernel
theorem dL_law_2371 : decode cL_law 2371 = .ok (.iload 4, 2) := by decide +kernel
theorem dL_law_2373 : decode cL_law 2373 = .ok (.iconst 3, 1) := by decide +kernel
theorem dL_law_2374 : decode cL_law 2374 = .ok (.iadd, 1) := by decide +kernel
theorem dL_law_2375 : decode cL_law 2375 = .ok (.iaload, 1) := by decide +kernel
theorem dL_law_2376 : decode cL_law 2376 = .ok (.aload_n 0, 1) := by decide +kernel
theorem dL_law_2377 : decode cL_law 2377 = .ok (.iload 4, 2) := by decide +kernel
theorem dL_law_2379 : decode cL_law 2379 = .ok (.iconst 4, 1) := by decide +kernel
theorem dL_law_2380 : decode cL_law 2380 = .ok (.iadd, 1) := by decide +kernel
theorem dL_law_2381 : decode cL_law 2381 = .ok (.iaload, 1) := by decide +kernel
theorem dL_law_2382 : decode cL_law 2382 = .ok (.invokevirtual 234, 3) := by decide +kernel
theorem dL_law_2385 : decode cL_law 2385 = .ok (.istore 6, 2) := by decide +kernel
theorem dL_law_2387 : decode cL_law 2387 = .ok (.aload_n 2, 1) := by decide +kernel
theorem dL_law_2388 : decode cL_law 2388 = .ok (.invokevirtual 128, 3) := by decide +kernel
theorem dL_law_2391 : decode cL_law 2391 = .ok (.iload 5, 2) := by decide +kernel
theorem dL_law_2393 : decode cL_law 2393 = .ok (.if_icmp .eq 5, 3) := by decide +kernel
theorem dL_law_2396 : decode cL_law 2396 = .ok (.iconst 0, 1) := by decide +kernel
theorem dL_law_2397 : decode cL_law 2397 = .ok (.ireturn, 1) := by decide +kernel
theorem dL_law_2398 : decode cL_law 2398 = .ok (.iload 5, 2) := by decide +kernel
theorem dL_law_2400 : decode cL_law 2400 = .ok (.ifCond .ne 15, 3) := by decide +kernel
theorem dL_law_2403 : decode cL_law 2403 = .ok (.aload_n 3, 1) := by decide +kernel
theorem dL_law_2404 : decode cL_law 2404 = .ok (.iconst 0, 1) := by decide +kernel
theorem dL_law_2405 : decode cL_law 2405 = .ok (.laload, 1) := by decide +kernel
theorem dL_law_2406 : decode cL_law 2406 = .ok (.iload 6, 2) := by decide +kernel
theorem dL_law_2408 : decode cL_law 2408 = .ok (.i2l, 1) := by decide +kernel
theorem dL_law_2409 : decode cL_law 2409 = .ok (.lcmp, 1) := by decide +kernel
theorem dL_law_2410 : decode cL_law 2410 = .ok (.ifCond .eq 5, 3) := by decide +kernel
theorem dL_law_2413 : decode cL_law 2413 = .ok (.iconst 0, 1) := by decide +kernel
theorem dL_law_2414 : decode cL_law 2414 = .ok (.ireturn, 1) := by decide +kernel
theorem dL_law_2415 : decode cL_law 2415 = .ok (.goto 114, 3) := by decide +kernel
theorem dL_law_2418 : decode cL_law 2418 = .ok (.aload_n 1, 1) := by decide +kernel
theorem dL_law_2419 : decode cL_law 2419 = .ok (.invokevirtual 235, 3) := by decide +kernel
theorem dL_law_2422 : decode cL_law 2422 = .ok (.f2d, 1) := by decide +kernel
theorem dL_law_2423 : decode cL_law 2423 = .ok (.dstore 5, 2) := by decide +kernel
theorem dL_law_2425 : decode cL_law 2425 = .ok (.aload_n 2, 1) := by decide +kernel
theorem dL_law_2426 : decode cL_law 2426 = .ok (.invokevirtual 239, 3) := by decide +kernel
theorem dL_law_2429 : decode cL_law 2429 = .ok (.f2d, 1) := by decide +kernel
theorem dL_law_2430 : decode cL_law 2430 = .ok (.dstore 7, 2) := by decide +kernel
theorem dL_law_2432 : decode cL_law 2432 = .ok (.dload 5, 2) := by decide +kernel
theorem dL_law_2434 : decode cL_law 2434 = .ok (.dload 7, 2) := by decide +kernel
theorem dL_law_2436 : decode cL_law 2436 = .ok (.dcmp .l, 1) := by decide +kernel
theorem dL_law_2437 : decode cL_law 2437 = .ok (.ifCond .eq 21, 3) := by decide +kernel
theorem dL_law_2440 : decode cL_law 2440 = .ok (.dload 5, 2) := by decide +kernel
theorem dL_law_2442 : decode cL_law 2442 = .ok (.dload 5, 2) := by decide +kernel
theorem dL_law_2444 : decode cL_law 2444 = .ok (.dcmp .l, 1) := by decide +kernel
theorem dL_law_2445 : decode cL_law 2445 = .ok (.ifCond .eq 11, 3) := by decide +kernel
theorem dL_law_2448 : decode cL_law 2448 = .ok (.dload 7, 2) := by decide +kernel
theorem dL_law_2450 : decode cL_law 2450 = .ok (.dload 7, 2) := by decide +kernel
theorem dL_law_2452 : decode cL_law 2452 = .ok (.dcmp .l, 1) := by decide +kernel
theorem dL_law_2453 : decode cL_law 2453 = .ok (.ifCond .ne 5, 3) := by decide +kernel
theorem dL_law_2456 : decode cL_law 2456 = .ok (.iconst 0, 1) := by decide +kernel
theorem dL_law_2457 : decode cL_law 2457 = .ok (.ireturn, 1) := by decide +kernel
theorem dL_law_2458 : decode cL_law 2458 = .ok (.goto 71, 3) := by decide +kernel
theorem dL_law_2461 : decode cL_law 2461 = .ok (.aload_n 1, 1) := by decide +kernel
theorem dL_law_2462 : decode cL_law 2462 = .ok (.invokevirtual 240, 3) := by decide +kernel
theorem dL_law_2465 : decode cL_law 2465 = .ok (.dstore 5, 2) := by decide +kernel
theorem dL_law_2467 : decode cL_law 2467 = .ok (.aload_n 2, 1) := by decide +kernel
theorem dL_law_2468 : decode cL_law 2468 = .ok (.invokevirtual 244, 3) := by decide +kernel
theorem dL_law_2471 : decode cL_law 2471 = .ok (.dstore 7, 2) := by decide +kernel
theorem dL_law_2473 : decode cL_law 2473 = .ok (.dload 5, 2) := by decide +kernel
theorem dL_law_2475 : decode cL_law 2475 = .ok (.dload 7, 2) := by decide +kernel
theorem dL_law_2477 : decode cL_law 2477 = .ok (.dcmp .l, 1) := by decide +kernel
theorem dL_law_2478 : decode cL_law 2478 = .ok (.ifCond .eq 21, 3) := by decide +kernel
theorem dL_law_2481 : decode cL_law 2481 = .ok (.dload 5, 2) := by decide +kernel
theorem dL_law_2483 : decode cL_law 2483 = .ok (.dload 5, 2) := by decide +kernel
theorem dL_law_2485 : decode cL_law 2485 = .ok (.dcmp .l, 1) := by decide +kernel
theorem dL_law_2486 : decode cL_law 2486 = .ok (.ifCond .eq 11, 3) := by decide +kernel
theorem dL_law_2489 : decode cL_law 2489 = .ok (.dload 7, 2) := by decide +kernel
theorem dL_law_2491 : decode cL_law 2491 = .ok (.dload 7, 2) := by decide +kernel
theorem dL_law_2493 : decode cL_law 2493 = .ok (.dcmp .l, 1) := by decide +kernel
theorem dL_law_2494 : decode cL_law 2494 = .ok (.ifCond .ne 5, 3) := by decide +kernel
theorem dL_law_2497 : decode cL_law 2497 = .ok (.iconst 0, 1) := by decide +kernel
theorem dL_law_2498 : decode cL_law 2498 = .ok (.ireturn, 1) := by decide +kernel
theorem dL_law_2499 : decode cL_law 2499 = .ok (.goto 30, 3) := by decide +kernel
theorem dL_law_2502 : decode cL_law 2502 = .ok (.aload_n 1, 1) := by decide +kernel
theorem dL_law_2503 : decode cL_law 2503 = .ok (.invokevirtual 245, 3) := by decide +kernel
theorem dL_law_2506 : decode cL_law 2506 = .ok (.aload_n 2, 1) := by decide +kernel
theorem dL_law_2507 : decode cL_law 2507 = .ok (.invokevirtual 249, 3) := by decide +kernel
theorem dL_law_2510 : decode cL_law 2510 = .ok (.if_icmp .eq 19, 3) := by decide +kernel
theorem dL_law_2513 : decode cL_law 2513 = .ok (.iconst 0, 1) := by decide +kernel
theorem dL_law_2514 : decode cL_law 2514 = .ok (.ireturn, 1) := by decide +kernel
theorem dL_law_2515 : decode cL_law 2515 = .ok (.aload_n 1, 1) := by decide +kernel
theorem dL_law_2516 : decode cL_law 2516 = .ok (.invokevirtual 250, 3) := by decide +kernel
theorem dL_law_2519 : decode cL_law 2519 = .ok (.aload_n 2, 1) := by decide +kernel
theorem dL_law_2520 : decode cL_law 2520 = .ok (.invokevirtual 254, 3) := by decide +kernel
theorem dL_law_2523 : decode cL_law 2523 = .ok (.lcmp, 1) := by decide +kernel
theorem dL_law_2524 : decode cL_law 2524 = .ok (.ifCond .eq 5, 3) := by decide +kernel
theorem dL_law_2527 : decode cL_law 2527 = .ok (.iconst 0, 1) := by decide +kernel
theorem dL_law_2528 : decode cL_law 2528 = .ok (.ireturn, 1) := by decide +kernel
theorem dL_law_2529 : decode cL_law 2529 = .ok (.iinc 4 5, 3) := by decide +kernel
theorem dL_law_2532 : decode cL_law 2532 = .ok (.goto (-2509), 3) := by decide +kernel
theorem dL_law_2535 : decode cL_law 2535 = .ok (.iconst 1, 1) := by decide +kernel
theorem dL_law_2536 : decode cL_law 2536 = .ok (.ireturn, 1) := by decide +kernel
