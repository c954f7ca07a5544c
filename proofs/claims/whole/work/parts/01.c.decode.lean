theorem dX0_init_0 : decode cX0_init 0 = .ok (.aload_n 0, 1) := by decide +kernel
theorem dX0_init_1 : decode cX0_init 1 = .ok (.invokespecial 3, 3) := by decide +kernel
theorem dX0_init_4 : decode cX0_init 4 = .ok (.aload_n 0, 1) := by decide +kernel
theorem dX0_init_5 : decode cX0_init 5 = .ok (.iconst 2, 1) := by decide +kernel
theorem dX0_init_6 : decode cX0_init 6 = .ok (.putfield 9, 3) := by decide +kernel
theorem dX0_init_9 : decode cX0_init 9 = .ok (.aload_n 0, 1) := by decide +kernel
theorem dX0_init_10 : decode cX0_init 10 = .ok (.iconst 4, 1) := by decide +kernel
theorem dX0_init_11 : decode cX0_init 11 = .ok (.putfield 15, 3) := by decide +kernel
theorem dX0_init_14 : decode cX0_init 14 = .ok (.aload_n 0, 1) := by decide +kernel
theorem dX0_init_15 : decode cX0_init 15 = .ok (.bipush 8, 2) := by decide +kernel
theorem dX0_init_17 : decode cX0_init 17 = .ok (.newarray .int, 2) := by decide +kernel
theorem dX0_init_19 : decode cX0_init 19 = .ok (.putfield 18, 3) := by decide +kernel
theorem dX0_init_22 : decode cX0_init 22 = .ok (.aload_n 0, 1) := by decide +kernel
theorem dX0_init_23 : decode cX0_init 23 = .ok (.bipush 8, 2) := by decide +kernel
theorem dX0_init_25 : decode cX0_init 25 = .ok (.newarray .int, 2) := by decide +kernel
theorem dX0_init_27 : decode cX0_init 27 = .ok (.putfield 22, 3) := by decide +kernel
theorem dX0_init_30 : decode cX0_init 30 = .ok (.aload_n 0, 1) := by decide +kernel
theorem dX0_init_31 : decode cX0_init 31 = .ok (.iconst 0, 1) := by decide +kernel
theorem dX0_init_32 : decode cX0_init 32 = .ok (.putfield 25, 3) := by decide +kernel
theorem dX0_init_35 : decode cX0_init 35 = .ok (.return_, 1) := by decide +kernel
theorem dX0_hasMap_0 : decode cX0_hasMap 0 = .ok (.iload_n 1, 1) := by decide +kernel
theorem dX0_hasMap_1 : decode cX0_hasMap 1 = .ok (.ifCond .lt 15, 3) := by decide +kernel
theorem dX0_hasMap_4 : decode cX0_hasMap 4 = .ok (.iload_n 1, 1) := by decide +kernel
theorem dX0_hasMap_5 : decode cX0_hasMap 5 = .ok (.aload_n 0, 1) := by decide +kernel
theorem dX0_hasMap_6 : decode cX0_hasMap 6 = .ok (.getfield 25, 3) := by decide +kernel
theorem dX0_hasMap_9 : decode cX0_hasMap 9 = .ok (.if_icmp .ge 7, 3) := by decide +kernel
theorem dX0_hasMap_12 : decode cX0_hasMap 12 = .ok (.iconst 1, 1) := by decide +kernel
theorem dX0_hasMap_13 : decode cX0_hasMap 13 = .ok (.goto 4, 3) := by decide +kernel
theorem dX0_hasMap_16 : decode cX0_hasMap 16 = .ok (.iconst 0, 1) := by decide +kernel
theorem dX0_hasMap_17 : decode cX0_hasMap 17 = .ok (.ireturn, 1) := by decide +kernel
theorem dX0_addMap_0 : decode cX0_addMap 0 = .ok (.aload_n 0, 1) := by decide +kernel
theorem dX0_addMap_1 : decode cX0_addMap 1 = .ok (.getfield 25, 3) := by decide +kernel
theorem dX0_addMap_4 : decode cX0_addMap 4 = .ok (.bipush 8, 2) := by decide +kernel
theorem dX0_addMap_6 : decode cX0_addMap 6 = .ok (.if_icmp .lt 6, 3) := by decide +kernel
theorem dX0_addMap_9 : decode cX0_addMap 9 = .ok (.bipush (-3), 2) := by decide +kernel
theorem dX0_addMap_11 : decode cX0_addMap 11 = .ok (.ireturn, 1) := by decide +kernel
theorem dX0_addMap_12 : decode cX0_addMap 12 = .ok (.aload_n 0, 1) := by decide +kernel
theorem dX0_addMap_13 : decode cX0_addMap 13 = .ok (.getfield 18, 3) := by decide +kernel
theorem dX0_addMap_16 : decode cX0_addMap 16 = .ok (.aload_n 0, 1) := by decide +kernel
theorem dX0_addMap_17 : decode cX0_addMap 17 = .ok (.getfield 25, 3) := by decide +kernel
theorem dX0_addMap_20 : decode cX0_addMap 20 = .ok (.iload_n 1, 1) := by decide +kernel
theorem dX0_addMap_21 : decode cX0_addMap 21 = .ok (.iastore, 1) := by decide +kernel
theorem dX0_addMap_22 : decode cX0_addMap 22 = .ok (.aload_n 0, 1) := by decide +kernel
theorem dX0_addMap_23 : decode cX0_addMap 23 = .ok (.getfield 22, 3) := by decide +kernel
theorem dX0_addMap_26 : decode cX0_addMap 26 = .ok (.aload_n 0, 1) := by decide +kernel
theorem dX0_addMap_27 : decode cX0_addMap 27 = .ok (.getfield 25, 3) := by decide +kernel
theorem dX0_addMap_30 : decode cX0_addMap 30 = .ok (.iload_n 2, 1) := by decide +kernel
theorem dX0_addMap_31 : decode cX0_addMap 31 = .ok (.iastore, 1) := by decide +kernel
theorem dX0_addMap_32 : decode cX0_addMap 32 = .ok (.aload_n 0, 1) := by decide +kernel
theorem dX0_addMap_33 : decode cX0_addMap 33 = .ok (.dup, 1) := by decide +kernel
theorem dX0_addMap_34 : decode cX0_addMap 34 = .ok (.getfield 25, 3) := by decide +kernel
theorem dX0_addMap_37 : decode cX0_addMap 37 = .ok (.dup_x1, 1) := by decide +kernel
theorem dX0_addMap_38 : decode cX0_addMap 38 = .ok (.iconst 1, 1) := by decide +kernel
theorem dX0_addMap_39 : decode cX0_addMap 39 = .ok (.iadd, 1) := by decide +kernel
theorem dX0_addMap_40 : decode cX0_addMap 40 = .ok (.putfield 25, 3) := by decide +kernel
theorem dX0_addMap_43 : decode cX0_addMap 43 = .ok (.ireturn, 1) := by decide +kernel
theorem dX0_mayComeFrom_0 : decode cX0_mayComeFrom 0 = .ok (.aload_n 0, 1) := by decide +kernel
theorem dX0_mayComeFrom_1 : decode cX0_mayComeFrom 1 = .ok (.iload_n 1, 1) := by decide +kernel
theorem dX0_mayComeFrom_2 : decode cX0_mayComeFrom 2 = .ok (.invokevirtual 28, 3) := by decide +kernel
theorem dX0_mayComeFrom_5 : decode cX0_mayComeFrom 5 = .ok (.ifCond .ne 5, 3) := by decide +kernel
theorem dX0_mayComeFrom_8 : decode cX0_mayComeFrom 8 = .ok (.iconst 0, 1) := by decide +kernel
theorem dX0_mayComeFrom_9 : decode cX0_mayComeFrom 9 = .ok (.ireturn, 1) := by decide +kernel
theorem dX0_mayComeFrom_10 : decode cX0_mayComeFrom 10 = .ok (.iload_n 2, 1) := by decide +kernel
theorem dX0_mayComeFrom_11 : decode cX0_mayComeFrom 11 = .ok (.bipush (-9), 2) := by decide +kernel
theorem dX0_mayComeFrom_13 : decode cX0_mayComeFrom 13 = .ok (.if_icmp .eq 26, 3) := by decide +kernel
theorem dX0_mayComeFrom_16 : decode cX0_mayComeFrom 16 = .ok (.aload_n 0, 1) := by decide +kernel
theorem dX0_mayComeFrom_17 : decode cX0_mayComeFrom 17 = .ok (.iload_n 2, 1) := by decide +kernel
theorem dX0_mayComeFrom_18 : decode cX0_mayComeFrom 18 = .ok (.invokevirtual 28, 3) := by decide +kernel
theorem dX0_mayComeFrom_21 : decode cX0_mayComeFrom 21 = .ok (.ifCond .eq 22, 3) := by decide +kernel
theorem dX0_mayComeFrom_24 : decode cX0_mayComeFrom 24 = .ok (.aload_n 0, 1) := by decide +kernel
theorem dX0_mayComeFrom_25 : decode cX0_mayComeFrom 25 = .ok (.getfield 18, 3) := by decide +kernel
theorem dX0_mayComeFrom_28 : decode cX0_mayComeFrom 28 = .ok (.iload_n 2, 1) := by decide +kernel
theorem dX0_mayComeFrom_29 : decode cX0_mayComeFrom 29 = .ok (.iaload, 1) := by decide +kernel
theorem dX0_mayComeFrom_30 : decode cX0_mayComeFrom 30 = .ok (.aload_n 0, 1) := by decide +kernel
theorem dX0_mayComeFrom_31 : decode cX0_mayComeFrom 31 = .ok (.getfield 18, 3) := by decide +kernel
theorem dX0_mayComeFrom_34 : decode cX0_mayComeFrom 34 = .ok (.iload_n 1, 1) := by decide +kernel
theorem dX0_mayComeFrom_35 : decode cX0_mayComeFrom 35 = .ok (.iaload, 1) := by decide +kernel
theorem dX0_mayComeFrom_36 : decode cX0_mayComeFrom 36 = .ok (.if_icmp .ge 7, 3) := by decide +kernel
theorem dX0_mayComeFrom_39 : decode cX0_mayComeFrom 39 = .ok (.iconst 1, 1) := by decide +kernel
theorem dX0_mayComeFrom_40 : decode cX0_mayComeFrom 40 = .ok (.goto 4, 3) := by decide +kernel
theorem dX0_mayComeFrom_43 : decode cX0_mayComeFrom 43 = .ok (.iconst 0, 1) := by decide +kernel
theorem dX0_mayComeFrom_44 : decode cX0_mayComeFrom 44 = .ok (.ireturn, 1) := by decide +kernel
theorem dX0_costOf_0 : decode cX0_costOf 0 = .ok (.aload_n 0, 1) := by decide +kernel
theorem dX0_costOf_1 : decode cX0_costOf 1 = .ok (.iload_n 2, 1) := by decide +kernel
theorem dX0_costOf_2 : decode cX0_costOf 2 = .ok (.invokevirtual 28, 3) := by decide +kernel
theorem dX0_costOf_5 : decode cX0_costOf 5 = .ok (.ifCond .ne 18, 3) := by decide +kernel
theorem dX0_costOf_8 : decode cX0_costOf 8 = .ok (.aload_n 0, 1) := by decide +kernel
theorem dX0_costOf_9 : decode cX0_costOf 9 = .ok (.getfield 22, 3) := by decide +kernel
theorem dX0_costOf_12 : decode cX0_costOf 12 = .ok (.iload_n 1, 1) := by decide +kernel
theorem dX0_costOf_13 : decode cX0_costOf 13 = .ok (.iaload, 1) := by decide +kernel
theorem dX0_costOf_14 : decode cX0_costOf 14 = .ok (.invokestatic 32, 3) := by decide +kernel
theorem dX0_costOf_17 : decode cX0_costOf 17 = .ok (.aload_n 0, 1) := by decide +kernel
theorem dX0_costOf_18 : decode cX0_costOf 18 = .ok (.getfield 15, 3) := by decide +kernel
theorem dX0_costOf_21 : decode cX0_costOf 21 = .ok (.iadd, 1) := by decide +kernel
theorem dX0_costOf_22 : decode cX0_costOf 22 = .ok (.ireturn, 1) := by decide +kernel
theorem dX0_costOf_23 : decode cX0_costOf 23 = .ok (.aload_n 0, 1) := by decide +kernel
theorem dX0_costOf_24 : decode cX0_costOf 24 = .ok (.getfield 22, 3) := by decide +kernel
theorem dX0_costOf_27 : decode cX0_costOf 27 = .ok (.iload_n 1, 1) := by decide +kernel
theorem dX0_costOf_28 : decode cX0_costOf 28 = .ok (.iaload, 1) := by decide +kernel
theorem dX0_costOf_29 : decode cX0_costOf 29 = .ok (.aload_n 0, 1) := by decide +kernel
theorem dX0_costOf_30 : decode cX0_costOf 30 = .ok (.getfield 22, 3) := by decide +kernel
theorem dX0_costOf_33 : decode cX0_costOf 33 = .ok (.iload_n 2, 1) := by decide +kernel
theorem dX0_costOf_34 : decode cX0_costOf 34 = .ok (.iaload, 1) := by decide +kernel
theorem dX0_costOf_35 : decode cX0_costOf 35 = .ok (.iconst (-1), 1) := by decide +kernel
theorem dX0_costOf_36 : decode cX0_costOf 36 = .ok (.ixor, 1) := by decide +kernel
theorem dX0_costOf_37 : decode cX0_costOf 37 = .ok (.iand, 1) := by decide +kernel
theorem dX0_costOf_38 : decode cX0_costOf 38 = .ok (.invokestatic 32, 3) := by decide +kernel
theorem dX0_costOf_41 : decode cX0_costOf 41 = .ok (.istore_n 3, 1) := by decide +kernel
theorem dX0_costOf_42 : decode cX0_costOf 42 = .ok (.aload_n 0, 1) := by decide +kernel
theorem dX0_costOf_43 : decode cX0_costOf 43 = .ok (.getfield 22, 3) := by decide +kernel
theorem dX0_costOf_46 : decode cX0_costOf 46 = .ok (.iload_n 2, 1) := by decide +kernel
theorem dX0_costOf_47 : decode cX0_costOf 47 = .ok (.iaload, 1) := by decide +kernel
theorem dX0_costOf_48 : decode cX0_costOf 48 = .ok (.aload_n 0, 1) := by decide +kernel
theorem dX0_costOf_49 : decode cX0_costOf 49 = .ok (.getfield 22, 3) := by decide +kernel
theorem dX0_costOf_52 : decode cX0_costOf 52 = .ok (.iload_n 1, 1) := by decide +kernel
theorem dX0_costOf_53 : decode cX0_costOf 53 = .ok (.iaload, 1) := by decide +kernel
theorem dX0_costOf_54 : decode cX0_costOf 54 = .ok (.iconst (-1), 1) := by decide +kernel
theorem dX0_costOf_55 : decode cX0_costOf 55 = .ok (.ixor, 1) := by decide +kernel
theorem dX0_costOf_56 : decode cX0_costOf 56 = .ok (.iand, 1) := by decide +kernel
theorem dX0_costOf_57 : decode cX0_costOf 57 = .ok (.invokestatic 32, 3) := by decide +kernel
theorem dX0_costOf_60 : decode cX0_costOf 60 = .ok (.istore 4, 2) := by decide +kernel
theorem dX0_costOf_62 : decode cX0_costOf 62 = .ok (.iload_n 3, 1) := by decide +kernel
theorem dX0_costOf_63 : decode cX0_costOf 63 = .ok (.iload 4, 2) := by decide +kernel
theorem dX0_costOf_65 : decode cX0_costOf 65 = .ok (.aload_n 0, 1) := by decide +kernel
theorem dX0_costOf_66 : decode cX0_costOf 66 = .ok (.getfield 9, 3) := by decide +kernel
theorem dX0_costOf_69 : decode cX0_costOf 69 = .ok (.imul, 1) := by decide +kernel
theorem dX0_costOf_70 : decode cX0_costOf 70 = .ok (.iadd, 1) := by decide +kernel
theorem dX0_costOf_71 : decode cX0_costOf 71 = .ok (.ireturn, 1) := by decide +kernel
theorem dX0_cheapest_0 : decode cX0_cheapest 0 = .ok (.bipush (-9), 2) := by decide +kernel
theorem dX0_cheapest_2 : decode cX0_cheapest 2 = .ok (.istore_n 2, 1) := by decide +kernel
theorem dX0_cheapest_3 : decode cX0_cheapest 3 = .ok (.aload_n 0, 1) := by decide +kernel
theorem dX0_cheapest_4 : decode cX0_cheapest 4 = .ok (.iload_n 1, 1) := by decide +kernel
theorem dX0_cheapest_5 : decode cX0_cheapest 5 = .ok (.bipush (-9), 2) := by decide +kernel
theorem dX0_cheapest_7 : decode cX0_cheapest 7 = .ok (.invokevirtual 38, 3) := by decide +kernel
theorem dX0_cheapest_10 : decode cX0_cheapest 10 = .ok (.istore_n 3, 1) := by decide +kernel
theorem dX0_cheapest_11 : decode cX0_cheapest 11 = .ok (.iconst 0, 1) := by decide +kernel
theorem dX0_cheapest_12 : decode cX0_cheapest 12 = .ok (.istore 4, 2) := by decide +kernel
theorem dX0_cheapest_14 : decode cX0_cheapest 14 = .ok (.iload 4, 2) := by decide +kernel
theorem dX0_cheapest_16 : decode cX0_cheapest 16 = .ok (.aload_n 0, 1) := by decide +kernel
theorem dX0_cheapest_17 : decode cX0_cheapest 17 = .ok (.getfield 25, 3) := by decide +kernel
theorem dX0_cheapest_20 : decode cX0_cheapest 20 = .ok (.if_icmp .ge 41, 3) := by decide +kernel
theorem dX0_cheapest_23 : decode cX0_cheapest 23 = .ok (.aload_n 0, 1) := by decide +kernel
theorem dX0_cheapest_24 : decode cX0_cheapest 24 = .ok (.iload_n 1, 1) := by decide +kernel
theorem dX0_cheapest_25 : decode cX0_cheapest 25 = .ok (.iload 4, 2) := by decide +kernel
theorem dX0_cheapest_27 : decode cX0_cheapest 27 = .ok (.invokevirtual 42, 3) := by decide +kernel
theorem dX0_cheapest_30 : decode cX0_cheapest 30 = .ok (.ifCond .eq 25, 3) := by decide +kernel
theorem dX0_cheapest_33 : decode cX0_cheapest 33 = .ok (.aload_n 0, 1) := by decide +kernel
theorem dX0_cheapest_34 : decode cX0_cheapest 34 = .ok (.iload_n 1, 1) := by decide +kernel
theorem dX0_cheapest_35 : decode cX0_cheapest 35 = .ok (.iload 4, 2) := by decide +kernel
theorem dX0_cheapest_37 : decode cX0_cheapest 37 = .ok (.invokevirtual 38, 3) := by decide +kernel
theorem dX0_cheapest_40 : decode cX0_cheapest 40 = .ok (.iload_n 3, 1) := by decide +kernel
theorem dX0_cheapest_41 : decode cX0_cheapest 41 = .ok (.if_icmp .ge 14, 3) := by decide +kernel
theorem dX0_cheapest_44 : decode cX0_cheapest 44 = .ok (.iload 4, 2) := by decide +kernel
theorem dX0_cheapest_46 : decode cX0_cheapest 46 = .ok (.istore_n 2, 1) := by decide +kernel
theorem dX0_cheapest_47 : decode cX0_cheapest 47 = .ok (.aload_n 0, 1) := by decide +kernel
theorem dX0_cheapest_48 : decode cX0_cheapest 48 = .ok (.iload_n 1, 1) := by decide +kernel
theorem dX0_cheapest_49 : decode cX0_cheapest 49 = .ok (.iload 4, 2) := by decide +kernel
theorem dX0_cheapest_51 : decode cX0_cheapest 51 = .ok (.invokevirtual 38, 3) := by decide +kernel
theorem dX0_cheapest_54 : decode cX0_cheapest 54 = .ok (.istore_n 3, 1) := by decide +kernel
theorem dX0_cheapest_55 : decode cX0_cheapest 55 = .ok (.iinc 4 1, 3) := by decide +kernel
theorem dX0_cheapest_58 : decode cX0_cheapest 58 = .ok (.goto (-44), 3) := by decide +kernel
theorem dX0_cheapest_61 : decode cX0_cheapest 61 = .ok (.iload_n 2, 1) := by decide +kernel
theorem dX0_cheapest_62 : decode cX0_cheapest 62 = .ok (.ireturn, 1) := by decide +kernel
theorem dX0_rivalCount_0 : decode cX0_rivalCount 0 = .ok (.aload_n 0, 1) := by decide +kernel
theorem dX0_rivalCount_1 : decode cX0_rivalCount 1 = .ok (.iload_n 1, 1) := by decide +kernel
theorem dX0_rivalCount_2 : decode cX0_rivalCount 2 = .ok (.invokevirtual 46, 3) := by decide +kernel
theorem dX0_rivalCount_5 : decode cX0_rivalCount 5 = .ok (.istore_n 2, 1) := by decide +kernel
theorem dX0_rivalCount_6 : decode cX0_rivalCount 6 = .ok (.aload_n 0, 1) := by decide +kernel
theorem dX0_rivalCount_7 : decode cX0_rivalCount 7 = .ok (.iload_n 1, 1) := by decide +kernel
theorem dX0_rivalCount_8 : decode cX0_rivalCount 8 = .ok (.iload_n 2, 1) := by decide +kernel
theorem dX0_rivalCount_9 : decode cX0_rivalCount 9 = .ok (.invokevirtual 38, 3) := by decide +kernel
theorem dX0_rivalCount_12 : decode cX0_rivalCount 12 = .ok (.istore_n 3, 1) := by decide +kernel
theorem dX0_rivalCount_13 : decode cX0_rivalCount 13 = .ok (.iconst 0, 1) := by decide +kernel
theorem dX0_rivalCount_14 : decode cX0_rivalCount 14 = .ok (.istore 4, 2) := by decide +kernel
theorem dX0_rivalCount_16 : decode cX0_rivalCount 16 = .ok (.iconst 0, 1) := by decide +kernel
theorem dX0_rivalCount_17 : decode cX0_rivalCount 17 = .ok (.istore 5, 2) := by decide +kernel
theorem dX0_rivalCount_19 : decode cX0_rivalCount 19 = .ok (.iload 5, 2) := by decide +kernel
theorem dX0_rivalCount_21 : decode cX0_rivalCount 21 = .ok (.aload_n 0, 1) := by decide +kernel
theorem dX0_rivalCount_22 : decode cX0_rivalCount 22 = .ok (.getfield 25, 3) := by decide +kernel
theorem dX0_rivalCount_25 : decode cX0_rivalCount 25 = .ok (.if_icmp .ge 39, 3) := by decide +kernel
theorem dX0_rivalCount_28 : decode cX0_rivalCount 28 = .ok (.iload 5, 2) := by decide +kernel
theorem dX0_rivalCount_30 : decode cX0_rivalCount 30 = .ok (.iload_n 2, 1) := by decide +kernel
theorem dX0_rivalCount_31 : decode cX0_rivalCount 31 = .ok (.if_icmp .eq 27, 3) := by decide +kernel
theorem dX0_rivalCount_34 : decode cX0_rivalCount 34 = .ok (.aload_n 0, 1) := by decide +kernel
theorem dX0_rivalCount_35 : decode cX0_rivalCount 35 = .ok (.iload_n 1, 1) := by decide +kernel
theorem dX0_rivalCount_36 : decode cX0_rivalCount 36 = .ok (.iload 5, 2) := by decide +kernel
theorem dX0_rivalCount_38 : decode cX0_rivalCount 38 = .ok (.invokevirtual 42, 3) := by decide +kernel
theorem dX0_rivalCount_41 : decode cX0_rivalCount 41 = .ok (.ifCond .eq 17, 3) := by decide +kernel
theorem dX0_rivalCount_44 : decode cX0_rivalCount 44 = .ok (.aload_n 0, 1) := by decide +kernel
theorem dX0_rivalCount_45 : decode cX0_rivalCount 45 = .ok (.iload_n 1, 1) := by decide +kernel
theorem dX0_rivalCount_46 : decode cX0_rivalCount 46 = .ok (.iload 5, 2) := by decide +kernel
theorem dX0_rivalCount_48 : decode cX0_rivalCount 48 = .ok (.invokevirtual 38, 3) := by decide +kernel
theorem dX0_rivalCount_51 : decode cX0_rivalCount 51 = .ok (.iload_n 3, 1) := by decide +kernel
theorem dX0_rivalCount_52 : decode cX0_rivalCount 52 = .ok (.if_icmp .ne 6, 3) := by decide +kernel
theorem dX0_rivalCount_55 : decode cX0_rivalCount 55 = .ok (.iinc 4 1, 3) := by decide +kernel
theorem dX0_rivalCount_58 : decode cX0_rivalCount 58 = .ok (.iinc 5 1, 3) := by decide +kernel
theorem dX0_rivalCount_61 : decode cX0_rivalCount 61 = .ok (.goto (-42), 3) := by decide +kernel
theorem dX0_rivalCount_64 : decode cX0_rivalCount 64 = .ok (.iload 4, 2) := by decide +kernel
theorem dX0_rivalCount_66 : decode cX0_rivalCount 66 = .ok (.ireturn, 1) := by decide +kernel
theorem dX0_lifeOf_0 : decode cX0_lifeOf 0 = .ok (.iconst 0, 1) := by decide +kernel
theorem dX0_lifeOf_1 : decode cX0_lifeOf 1 = .ok (.istore_n 3, 1) := by decide +kernel
theorem dX0_lifeOf_2 : decode cX0_lifeOf 2 = .ok (.iconst 0, 1) := by decide +kernel
theorem dX0_lifeOf_3 : decode cX0_lifeOf 3 = .ok (.istore 4, 2) := by decide +kernel
theorem dX0_lifeOf_5 : decode cX0_lifeOf 5 = .ok (.iload 4, 2) := by decide +kernel
theorem dX0_lifeOf_7 : decode cX0_lifeOf 7 = .ok (.aload_n 0, 1) := by decide +kernel
theorem dX0_lifeOf_8 : decode cX0_lifeOf 8 = .ok (.getfield 25, 3) := by decide +kernel
theorem dX0_lifeOf_11 : decode cX0_lifeOf 11 = .ok (.if_icmp .ge 23, 3) := by decide +kernel
theorem dX0_lifeOf_14 : decode cX0_lifeOf 14 = .ok (.aload_n 0, 1) := by decide +kernel
theorem dX0_lifeOf_15 : decode cX0_lifeOf 15 = .ok (.iload 4, 2) := by decide +kernel
theorem dX0_lifeOf_17 : decode cX0_lifeOf 17 = .ok (.iload_n 1, 1) := by decide +kernel
theorem dX0_lifeOf_18 : decode cX0_lifeOf 18 = .ok (.iload_n 2, 1) := by decide +kernel
theorem dX0_lifeOf_19 : decode cX0_lifeOf 19 = .ok (.invokevirtual 49, 3) := by decide +kernel
theorem dX0_lifeOf_22 : decode cX0_lifeOf 22 = .ok (.ifCond .eq 6, 3) := by decide +kernel
theorem dX0_lifeOf_25 : decode cX0_lifeOf 25 = .ok (.iinc 3 1, 3) := by decide +kernel
theorem dX0_lifeOf_28 : decode cX0_lifeOf 28 = .ok (.iinc 4 1, 3) := by decide +kernel
theorem dX0_lifeOf_31 : decode cX0_lifeOf 31 = .ok (.goto (-26), 3) := by decide +kernel
theorem dX0_lifeOf_34 : decode cX0_lifeOf 34 = .ok (.iload_n 3, 1) := by decide +kernel
theorem dX0_lifeOf_35 : decode cX0_lifeOf 35 = .ok (.ireturn, 1) := by decide +kernel
theorem dX0_hasItFrom_0 : decode cX0_hasItFrom 0 = .ok (.iload_n 1, 1) := by decide +kernel
theorem dX0_hasItFrom_1 : decode cX0_hasItFrom 1 = .ok (.istore 4, 2) := by decide +kernel
theorem dX0_hasItFrom_3 : decode cX0_hasItFrom 3 = .ok (.iconst 0, 1) := by decide +kernel
theorem dX0_hasItFrom_4 : decode cX0_hasItFrom 4 = .ok (.istore 5, 2) := by decide +kernel
theorem dX0_hasItFrom_6 : decode cX0_hasItFrom 6 = .ok (.iload 5, 2) := by decide +kernel
theorem dX0_hasItFrom_8 : decode cX0_hasItFrom 8 = .ok (.bipush 8, 2) := by decide +kernel
theorem dX0_hasItFrom_10 : decode cX0_hasItFrom 10 = .ok (.if_icmp .ge 50, 3) := by decide +kernel
theorem dX0_hasItFrom_13 : decode cX0_hasItFrom 13 = .ok (.aload_n 0, 1) := by decide +kernel
theorem dX0_hasItFrom_14 : decode cX0_hasItFrom 14 = .ok (.iload 4, 2) := by decide +kernel
theorem dX0_hasItFrom_16 : decode cX0_hasItFrom 16 = .ok (.invokevirtual 28, 3) := by decide +kernel
theorem dX0_hasItFrom_19 : decode cX0_hasItFrom 19 = .ok (.ifCond .eq 17, 3) := by decide +kernel
theorem dX0_hasItFrom_22 : decode cX0_hasItFrom 22 = .ok (.aload_n 0, 1) := by decide +kernel
theorem dX0_hasItFrom_23 : decode cX0_hasItFrom 23 = .ok (.getfield 22, 3) := by decide +kernel
theorem dX0_hasItFrom_26 : decode cX0_hasItFrom 26 = .ok (.iload 4, 2) := by decide +kernel
theorem dX0_hasItFrom_28 : decode cX0_hasItFrom 28 = .ok (.iaload, 1) := by decide +kernel
theorem dX0_hasItFrom_29 : decode cX0_hasItFrom 29 = .ok (.iload_n 3, 1) := by decide +kernel
theorem dX0_hasItFrom_30 : decode cX0_hasItFrom 30 = .ok (.invokestatic 53, 3) := by decide +kernel
theorem dX0_hasItFrom_33 : decode cX0_hasItFrom 33 = .ok (.ifCond .ne 5, 3) := by decide +kernel
theorem dX0_hasItFrom_36 : decode cX0_hasItFrom 36 = .ok (.iconst 0, 1) := by decide +kernel
theorem dX0_hasItFrom_37 : decode cX0_hasItFrom 37 = .ok (.ireturn, 1) := by decide +kernel
theorem dX0_hasItFrom_38 : decode cX0_hasItFrom 38 = .ok (.iload 4, 2) := by decide +kernel
theorem dX0_hasItFrom_40 : decode cX0_hasItFrom 40 = .ok (.iload_n 2, 1) := by decide +kernel
theorem dX0_hasItFrom_41 : decode cX0_hasItFrom 41 = .ok (.if_icmp .ne 5, 3) := by decide +kernel
theorem dX0_hasItFrom_44 : decode cX0_hasItFrom 44 = .ok (.iconst 1, 1) := by decide +kernel
theorem dX0_hasItFrom_45 : decode cX0_hasItFrom 45 = .ok (.ireturn, 1) := by decide +kernel
theorem dX0_hasItFrom_46 : decode cX0_hasItFrom 46 = .ok (.aload_n 0, 1) := by decide +kernel
theorem dX0_hasItFrom_47 : decode cX0_hasItFrom 47 = .ok (.iload 4, 2) := by decide +kernel
theorem dX0_hasItFrom_49 : decode cX0_hasItFrom 49 = .ok (.invokevirtual 46, 3) := by decide +kernel
theorem dX0_hasItFrom_52 : decode cX0_hasItFrom 52 = .ok (.istore 4, 2) := by decide +kernel
theorem dX0_hasItFrom_54 : decode cX0_hasItFrom 54 = .ok (.iinc 5 1, 3) := by decide +kernel
theorem dX0_hasItFrom_57 : decode cX0_hasItFrom 57 = .ok (.goto (-51), 3) := by decide +kernel
theorem dX0_hasItFrom_60 : decode cX0_hasItFrom 60 = .ok (.iconst 0, 1) := by decide +kernel
theorem dX0_hasItFrom_61 : decode cX0_hasItFrom 61 = .ok (.ireturn, 1) := by decide +kernel
theorem dX1_init_0 : decode cX1_init 0 = .ok (.aload_n 0, 1) := by decide +kernel
theorem dX1_init_1 : decode cX1_init 1 = .ok (.invokespecial 3, 3) := by decide +kernel
theorem dX1_init_4 : decode cX1_init 4 = .ok (.aload_n 0, 1) := by decide +kernel
theorem dX1_init_5 : decode cX1_init 5 = .ok (.bipush 6, 2) := by decide +kernel
theorem dX1_init_7 : decode cX1_init 7 = .ok (.newarray .int, 2) := by decide +kernel
theorem dX1_init_9 : decode cX1_init 9 = .ok (.putfield 11, 3) := by decide +kernel
theorem dX1_init_12 : decode cX1_init 12 = .ok (.aload_n 0, 1) := by decide +kernel
theorem dX1_init_13 : decode cX1_init 13 = .ok (.iconst 0, 1) := by decide +kernel
theorem dX1_init_14 : decode cX1_init 14 = .ok (.putfield 15, 3) := by decide +kernel
theorem dX1_init_17 : decode cX1_init 17 = .ok (.return_, 1) := by decide +kernel
theorem dX1_isPlace_0 : decode cX1_isPlace 0 = .ok (.iload_n 0, 1) := by decide +kernel
theorem dX1_isPlace_1 : decode cX1_isPlace 1 = .ok (.ifCond .lt 13, 3) := by decide +kernel
theorem dX1_isPlace_4 : decode cX1_isPlace 4 = .ok (.iload_n 0, 1) := by decide +kernel
theorem dX1_isPlace_5 : decode cX1_isPlace 5 = .ok (.bipush 100, 2) := by decide +kernel
theorem dX1_isPlace_7 : decode cX1_isPlace 7 = .ok (.if_icmp .ge 7, 3) := by decide +kernel
theorem dX1_isPlace_10 : decode cX1_isPlace 10 = .ok (.iconst 1, 1) := by decide +kernel
theorem dX1_isPlace_11 : decode cX1_isPlace 11 = .ok (.goto 4, 3) := by decide +kernel
theorem dX1_isPlace_14 : decode cX1_isPlace 14 = .ok (.iconst 0, 1) := by decide +kernel
theorem dX1_isPlace_15 : decode cX1_isPlace 15 = .ok (.ireturn, 1) := by decide +kernel
theorem dX1_isShift_0 : decode cX1_isShift 0 = .ok (.iload_n 0, 1) := by decide +kernel
theorem dX1_isShift_1 : decode cX1_isShift 1 = .ok (.bipush (-20), 2) := by decide +kernel
theorem dX1_isShift_3 : decode cX1_isShift 3 = .ok (.if_icmp .lt 13, 3) := by decide +kernel
theorem dX1_isShift_6 : decode cX1_isShift 6 = .ok (.iload_n 0, 1) := by decide +kernel
theorem dX1_isShift_7 : decode cX1_isShift 7 = .ok (.bipush 20, 2) := by decide +kernel
theorem dX1_isShift_9 : decode cX1_isShift 9 = .ok (.if_icmp .gt 7, 3) := by decide +kernel
theorem dX1_isShift_12 : decode cX1_isShift 12 = .ok (.iconst 1, 1) := by decide +kernel
theorem dX1_isShift_13 : decode cX1_isShift 13 = .ok (.goto 4, 3) := by decide +kernel
theorem dX1_isShift_16 : decode cX1_isShift 16 = .ok (.iconst 0, 1) := by decide +kernel
theorem dX1_isShift_17 : decode cX1_isShift 17 = .ok (.ireturn, 1) := by decide +kernel
theorem dX1_bore_0 : decode cX1_bore 0 = .ok (.aload_n 0, 1) := by decide +kernel
theorem dX1_bore_1 : decode cX1_bore 1 = .ok (.iload_n 1, 1) := by decide +kernel
theorem dX1_bore_2 : decode cX1_bore 2 = .ok (.iconst 0, 1) := by decide +kernel
theorem dX1_bore_3 : decode cX1_bore 3 = .ok (.invokevirtual 19, 3) := by decide +kernel
theorem dX1_bore_6 : decode cX1_bore 6 = .ok (.ifCond .eq 8, 3) := by decide +kernel
theorem dX1_bore_9 : decode cX1_bore 9 = .ok (.aload_n 0, 1) := by decide +kernel
theorem dX1_bore_10 : decode cX1_bore 10 = .ok (.getfield 15, 3) := by decide +kernel
theorem dX1_bore_13 : decode cX1_bore 13 = .ok (.ireturn, 1) := by decide +kernel
theorem dX1_bore_14 : decode cX1_bore 14 = .ok (.aload_n 0, 1) := by decide +kernel
theorem dX1_bore_15 : decode cX1_bore 15 = .ok (.getfield 15, 3) := by decide +kernel
theorem dX1_bore_18 : decode cX1_bore 18 = .ok (.bipush 6, 2) := by decide +kernel
theorem dX1_bore_20 : decode cX1_bore 20 = .ok (.if_icmp .lt 6, 3) := by decide +kernel
theorem dX1_bore_23 : decode cX1_bore 23 = .ok (.bipush (-3), 2) := by decide +kernel
theorem dX1_bore_25 : decode cX1_bore 25 = .ok (.ireturn, 1) := by decide +kernel
theorem dX1_bore_26 : decode cX1_bore 26 = .ok (.aload_n 0, 1) := by decide +kernel
theorem dX1_bore_27 : decode cX1_bore 27 = .ok (.getfield 11, 3) := by decide +kernel
theorem dX1_bore_30 : decode cX1_bore 30 = .ok (.aload_n 0, 1) := by decide +kernel
theorem dX1_bore_31 : decode cX1_bore 31 = .ok (.getfield 15, 3) := by decide +kernel
theorem dX1_bore_34 : decode cX1_bore 34 = .ok (.iload_n 1, 1) := by decide +kernel
theorem dX1_bore_35 : decode cX1_bore 35 = .ok (.iastore, 1) := by decide +kernel
theorem dX1_bore_36 : decode cX1_bore 36 = .ok (.aload_n 0, 1) := by decide +kernel
theorem dX1_bore_37 : decode cX1_bore 37 = .ok (.dup, 1) := by decide +kernel
theorem dX1_bore_38 : decode cX1_bore 38 = .ok (.getfield 15, 3) := by decide +kernel
theorem dX1_bore_41 : decode cX1_bore 41 = .ok (.iconst 1, 1) := by decide +kernel
theorem dX1_bore_42 : decode cX1_bore 42 = .ok (.iadd, 1) := by decide +kernel
theorem dX1_bore_43 : decode cX1_bore 43 = .ok (.putfield 15, 3) := by decide +kernel
theorem dX1_bore_46 : decode cX1_bore 46 = .ok (.aload_n 0, 1) := by decide +kernel
theorem dX1_bore_47 : decode cX1_bore 47 = .ok (.getfield 15, 3) := by decide +kernel
theorem dX1_bore_50 : decode cX1_bore 50 = .ok (.ireturn, 1) := by decide +kernel
theorem dX1_isWithin_0 : decode cX1_isWithin 0 = .ok (.iconst 0, 1) := by decide +kernel
theorem dX1_isWithin_1 : decode cX1_isWithin 1 = .ok (.istore_n 3, 1) := by decide +kernel
theorem dX1_isWithin_2 : decode cX1_isWithin 2 = .ok (.iload_n 3, 1) := by decide +kernel
theorem dX1_isWithin_3 : decode cX1_isWithin 3 = .ok (.aload_n 0, 1) := by decide +kernel
theorem dX1_isWithin_4 : decode cX1_isWithin 4 = .ok (.getfield 15, 3) := by decide +kernel
theorem dX1_isWithin_7 : decode cX1_isWithin 7 = .ok (.if_icmp .ge 26, 3) := by decide +kernel
theorem dX1_isWithin_10 : decode cX1_isWithin 10 = .ok (.aload_n 0, 1) := by decide +kernel
theorem dX1_isWithin_11 : decode cX1_isWithin 11 = .ok (.getfield 11, 3) := by decide +kernel
theorem dX1_isWithin_14 : decode cX1_isWithin 14 = .ok (.iload_n 3, 1) := by decide +kernel
theorem dX1_isWithin_15 : decode cX1_isWithin 15 = .ok (.iaload, 1) := by decide +kernel
theorem dX1_isWithin_16 : decode cX1_isWithin 16 = .ok (.iload_n 1, 1) := by decide +kernel
theorem dX1_isWithin_17 : decode cX1_isWithin 17 = .ok (.isub, 1) := by decide +kernel
theorem dX1_isWithin_18 : decode cX1_isWithin 18 = .ok (.invokestatic 23, 3) := by decide +kernel
theorem dX1_isWithin_21 : decode cX1_isWithin 21 = .ok (.iload_n 2, 1) := by decide +kernel
theorem dX1_isWithin_22 : decode cX1_isWithin 22 = .ok (.if_icmp .gt 5, 3) := by decide +kernel
theorem dX1_isWithin_25 : decode cX1_isWithin 25 = .ok (.iconst 1, 1) := by decide +kernel
theorem dX1_isWithin_26 : decode cX1_isWithin 26 = .ok (.ireturn, 1) := by decide +kernel
theorem dX1_isWithin_27 : decode cX1_isWithin 27 = .ok (.iinc 3 1, 3) := by decide +kernel
theorem dX1_isWithin_30 : decode cX1_isWithin 30 = .ok (.goto (-28), 3) := by decide +kernel
theorem dX1_isWithin_33 : decode cX1_isWithin 33 = .ok (.iconst 0, 1) := by decide +kernel
theorem dX1_isWithin_34 : decode cX1_isWithin 34 = .ok (.ireturn, 1) := by decide +kernel
theorem dX1_fitting_0 : decode cX1_fitting 0 = .ok (.iconst 0, 1) := by decide +kernel
theorem dX1_fitting_1 : decode cX1_fitting 1 = .ok (.istore_n 3, 1) := by decide +kernel
theorem dX1_fitting_2 : decode cX1_fitting 2 = .ok (.iconst 0, 1) := by decide +kernel
theorem dX1_fitting_3 : decode cX1_fitting 3 = .ok (.istore 4, 2) := by decide +kernel
theorem dX1_fitting_5 : decode cX1_fitting 5 = .ok (.iload 4, 2) := by decide +kernel
theorem dX1_fitting_7 : decode cX1_fitting 7 = .ok (.aload_n 0, 1) := by decide +kernel
theorem dX1_fitting_8 : decode cX1_fitting 8 = .ok (.getfield 15, 3) := by decide +kernel
theorem dX1_fitting_11 : decode cX1_fitting 11 = .ok (.if_icmp .ge 29, 3) := by decide +kernel
theorem dX1_fitting_14 : decode cX1_fitting 14 = .ok (.aload_n 1, 1) := by decide +kernel
theorem dX1_fitting_15 : decode cX1_fitting 15 = .ok (.aload_n 0, 1) := by decide +kernel
theorem dX1_fitting_16 : decode cX1_fitting 16 = .ok (.getfield 11, 3) := by decide +kernel
theorem dX1_fitting_19 : decode cX1_fitting 19 = .ok (.iload 4, 2) := by decide +kernel
theorem dX1_fitting_21 : decode cX1_fitting 21 = .ok (.iaload, 1) := by decide +kernel
theorem dX1_fitting_22 : decode cX1_fitting 22 = .ok (.iload_n 2, 1) := by decide +kernel
theorem dX1_fitting_23 : decode cX1_fitting 23 = .ok (.iadd, 1) := by decide +kernel
theorem dX1_fitting_24 : decode cX1_fitting 24 = .ok (.iconst 1, 1) := by decide +kernel
theorem dX1_fitting_25 : decode cX1_fitting 25 = .ok (.invokevirtual 19, 3) := by decide +kernel
theorem dX1_fitting_28 : decode cX1_fitting 28 = .ok (.ifCond .eq 6, 3) := by decide +kernel
theorem dX1_fitting_31 : decode cX1_fitting 31 = .ok (.iinc 3 1, 3) := by decide +kernel
theorem dX1_fitting_34 : decode cX1_fitting 34 = .ok (.iinc 4 1, 3) := by decide +kernel
theorem dX1_fitting_37 : decode cX1_fitting 37 = .ok (.goto (-32), 3) := by decide +kernel
theorem dX1_fitting_40 : decode cX1_fitting 40 = .ok (.iload_n 3, 1) := by decide +kernel
theorem dX1_fitting_41 : decode cX1_fitting 41 = .ok (.ireturn, 1) := by decide +kernel
theorem dX1_mostFitting_0 : decode cX1_mostFitting 0 = .ok (.aload_n 0, 1) := by decide +kernel
theorem dX1_mostFitting_1 : decode cX1_mostFitting 1 = .ok (.aload_n 1, 1) := by decide +kernel
theorem dX1_mostFitting_2 : decode cX1_mostFitting 2 = .ok (.aload_n 0, 1) := by decide +kernel
theorem dX1_mostFitting_3 : decode cX1_mostFitting 3 = .ok (.aload_n 1, 1) := by decide +kernel
theorem dX1_mostFitting_4 : decode cX1_mostFitting 4 = .ok (.invokevirtual 29, 3) := by decide +kernel
theorem dX1_mostFitting_7 : decode cX1_mostFitting 7 = .ok (.invokevirtual 33, 3) := by decide +kernel
theorem dX1_mostFitting_10 : decode cX1_mostFitting 10 = .ok (.ireturn, 1) := by decide +kernel
theorem dX1_bestShift_0 : decode cX1_bestShift 0 = .ok (.bipush (-20), 2) := by decide +kernel
theorem dX1_bestShift_2 : decode cX1_bestShift 2 = .ok (.istore_n 2, 1) := by decide +kernel
theorem dX1_bestShift_3 : decode cX1_bestShift 3 = .ok (.aload_n 0, 1) := by decide +kernel
theorem dX1_bestShift_4 : decode cX1_bestShift 4 = .ok (.aload_n 1, 1) := by decide +kernel
theorem dX1_bestShift_5 : decode cX1_bestShift 5 = .ok (.iload_n 2, 1) := by decide +kernel
theorem dX1_bestShift_6 : decode cX1_bestShift 6 = .ok (.invokevirtual 33, 3) := by decide +kernel
theorem dX1_bestShift_9 : decode cX1_bestShift 9 = .ok (.istore_n 3, 1) := by decide +kernel
theorem dX1_bestShift_10 : decode cX1_bestShift 10 = .ok (.bipush (-19), 2) := by decide +kernel
theorem dX1_bestShift_12 : decode cX1_bestShift 12 = .ok (.istore 4, 2) := by decide +kernel
theorem dX1_bestShift_14 : decode cX1_bestShift 14 = .ok (.iload 4, 2) := by decide +kernel
theorem dX1_bestShift_16 : decode cX1_bestShift 16 = .ok (.bipush 20, 2) := by decide +kernel
theorem dX1_bestShift_18 : decode cX1_bestShift 18 = .ok (.if_icmp .gt 60, 3) := by decide +kernel
theorem dX1_bestShift_21 : decode cX1_bestShift 21 = .ok (.aload_n 0, 1) := by decide +kernel
theorem dX1_bestShift_22 : decode cX1_bestShift 22 = .ok (.aload_n 1, 1) := by decide +kernel
theorem dX1_bestShift_23 : decode cX1_bestShift 23 = .ok (.iload 4, 2) := by decide +kernel
theorem dX1_bestShift_25 : decode cX1_bestShift 25 = .ok (.invokevirtual 33, 3) := by decide +kernel
theorem dX1_bestShift_28 : decode cX1_bestShift 28 = .ok (.istore 5, 2) := by decide +kernel
theorem dX1_bestShift_30 : decode cX1_bestShift 30 = .ok (.iload 5, 2) := by decide +kernel
theorem dX1_bestShift_32 : decode cX1_bestShift 32 = .ok (.iload_n 3, 1) := by decide +kernel
theorem dX1_bestShift_33 : decode cX1_bestShift 33 = .ok (.if_icmp .ne 19, 3) := by decide +kernel
theorem dX1_bestShift_36 : decode cX1_bestShift 36 = .ok (.iload 4, 2) := by decide +kernel
theorem dX1_bestShift_38 : decode cX1_bestShift 38 = .ok (.invokestatic 23, 3) := by decide +kernel
theorem dX1_bestShift_41 : decode cX1_bestShift 41 = .ok (.iload_n 2, 1) := by decide +kernel
theorem dX1_bestShift_42 : decode cX1_bestShift 42 = .ok (.invokestatic 23, 3) := by decide +kernel
theorem dX1_bestShift_45 : decode cX1_bestShift 45 = .ok (.if_icmp .ge 7, 3) := by decide +kernel
theorem dX1_bestShift_48 : decode cX1_bestShift 48 = .ok (.iconst 1, 1) := by decide +kernel
theorem dX1_bestShift_49 : decode cX1_bestShift 49 = .ok (.goto 4, 3) := by decide +kernel
theorem dX1_bestShift_52 : decode cX1_bestShift 52 = .ok (.iconst 0, 1) := by decide +kernel
theorem dX1_bestShift_53 : decode cX1_bestShift 53 = .ok (.istore 6, 2) := by decide +kernel
theorem dX1_bestShift_55 : decode cX1_bestShift 55 = .ok (.iload 5, 2) := by decide +kernel
theorem dX1_bestShift_57 : decode cX1_bestShift 57 = .ok (.iload_n 3, 1) := by decide +kernel
theorem dX1_bestShift_58 : decode cX1_bestShift 58 = .ok (.if_icmp .gt 8, 3) := by decide +kernel
theorem dX1_bestShift_61 : decode cX1_bestShift 61 = .ok (.iload 6, 2) := by decide +kernel
theorem dX1_bestShift_63 : decode cX1_bestShift 63 = .ok (.ifCond .eq 9, 3) := by decide +kernel
theorem dX1_bestShift_66 : decode cX1_bestShift 66 = .ok (.iload 5, 2) := by decide +kernel
theorem dX1_bestShift_68 : decode cX1_bestShift 68 = .ok (.istore_n 3, 1) := by decide +kernel
theorem dX1_bestShift_69 : decode cX1_bestShift 69 = .ok (.iload 4, 2) := by decide +kernel
theorem dX1_bestShift_71 : decode cX1_bestShift 71 = .ok (.istore_n 2, 1) := by decide +kernel
theorem dX1_bestShift_72 : decode cX1_bestShift 72 = .ok (.iinc 4 1, 3) := by decide +kernel
theorem dX1_bestShift_75 : decode cX1_bestShift 75 = .ok (.goto (-61), 3) := by decide +kernel
theorem dX1_bestShift_78 : decode cX1_bestShift 78 = .ok (.iload_n 2, 1) := by decide +kernel
theorem dX1_bestShift_79 : decode cX1_bestShift 79 = .ok (.ireturn, 1) := by decide +kernel
theorem dX2_init_0 : decode cX2_init 0 = .ok (.aload_n 0, 1) := by decide +kernel
theorem dX2_init_1 : decode cX2_init 1 = .ok (.invokespecial 3, 3) := by decide +kernel
theorem dX2_init_4 : decode cX2_init 4 = .ok (.aload_n 0, 1) := by decide +kernel
theorem dX2_init_5 : decode cX2_init 5 = .ok (.iconst 0, 1) := by decide +kernel
theorem dX2_init_6 : decode cX2_init 6 = .ok (.putfield 9, 3) := by decide +kernel
theorem dX2_init_9 : decode cX2_init 9 = .ok (.aload_n 0, 1) := by decide +kernel
theorem dX2_init_10 : decode cX2_init 10 = .ok (.iconst 0, 1) := by decide +kernel
theorem dX2_init_11 : decode cX2_init 11 = .ok (.putfield 15, 3) := by decide +kernel
theorem dX2_init_14 : decode cX2_init 14 = .ok (.aload_n 0, 1) := by decide +kernel
theorem dX2_init_15 : decode cX2_init 15 = .ok (.iconst 0, 1) := by decide +kernel
theorem dX2_init_16 : decode cX2_init 16 = .ok (.putfield 18, 3) := by decide +kernel
theorem dX2_init_19 : decode cX2_init 19 = .ok (.aload_n 0, 1) := by decide +kernel
theorem dX2_init_20 : decode cX2_init 20 = .ok (.iconst 0, 1) := by decide +kernel
theorem dX2_init_21 : decode cX2_init 21 = .ok (.putfield 21, 3) := by decide +kernel
theorem dX2_init_24 : decode cX2_init 24 = .ok (.aload_n 0, 1) := by decide +kernel
theorem dX2_init_25 : decode cX2_init 25 = .ok (.bipush (-9), 2) := by decide +kernel
theorem dX2_init_27 : decode cX2_init 27 = .ok (.putfield 24, 3) := by decide +kernel
theorem dX2_init_30 : decode cX2_init 30 = .ok (.aload_n 0, 1) := by decide +kernel
theorem dX2_init_31 : decode cX2_init 31 = .ok (.bipush (-9), 2) := by decide +kernel
theorem dX2_init_33 : decode cX2_init 33 = .ok (.putfield 27, 3) := by decide +kernel
theorem dX2_init_36 : decode cX2_init 36 = .ok (.aload_n 0, 1) := by decide +kernel
theorem dX2_init_37 : decode cX2_init 37 = .ok (.new 30, 3) := by decide +kernel
theorem dX2_init_40 : decode cX2_init 40 = .ok (.dup, 1) := by decide +kernel
theorem dX2_init_41 : decode cX2_init 41 = .ok (.invokespecial 32, 3) := by decide +kernel
theorem dX2_init_44 : decode cX2_init 44 = .ok (.putfield 33, 3) := by decide +kernel
theorem dX2_init_47 : decode cX2_init 47 = .ok (.return_, 1) := by decide +kernel
theorem dX2_strike_0 : decode cX2_strike 0 = .ok (.aload_n 0, 1) := by decide +kernel
theorem dX2_strike_1 : decode cX2_strike 1 = .ok (.iload_n 1, 1) := by decide +kernel
theorem dX2_strike_2 : decode cX2_strike 2 = .ok (.putfield 9, 3) := by decide +kernel
theorem dX2_strike_5 : decode cX2_strike 5 = .ok (.aload_n 0, 1) := by decide +kernel
theorem dX2_strike_6 : decode cX2_strike 6 = .ok (.iload_n 2, 1) := by decide +kernel
theorem dX2_strike_7 : decode cX2_strike 7 = .ok (.putfield 15, 3) := by decide +kernel
theorem dX2_strike_10 : decode cX2_strike 10 = .ok (.aload_n 0, 1) := by decide +kernel
theorem dX2_strike_11 : decode cX2_strike 11 = .ok (.iload_n 3, 1) := by decide +kernel
theorem dX2_strike_12 : decode cX2_strike 12 = .ok (.putfield 18, 3) := by decide +kernel
theorem dX2_strike_15 : decode cX2_strike 15 = .ok (.aload_n 0, 1) := by decide +kernel
theorem dX2_strike_16 : decode cX2_strike 16 = .ok (.iload 4, 2) := by decide +kernel
theorem dX2_strike_18 : decode cX2_strike 18 = .ok (.putfield 21, 3) := by decide +kernel
theorem dX2_strike_21 : decode cX2_strike 21 = .ok (.return_, 1) := by decide +kernel
theorem dX2_lookOf_0 : decode cX2_lookOf 0 = .ok (.aload_n 0, 1) := by decide +kernel
theorem dX2_lookOf_1 : decode cX2_lookOf 1 = .ok (.getfield 9, 3) := by decide +kernel
theorem dX2_lookOf_4 : decode cX2_lookOf 4 = .ok (.iload_n 1, 1) := by decide +kernel
theorem dX2_lookOf_5 : decode cX2_lookOf 5 = .ok (.invokestatic 37, 3) := by decide +kernel
theorem dX2_lookOf_8 : decode cX2_lookOf 8 = .ok (.ifCond .eq 5, 3) := by decide +kernel
theorem dX2_lookOf_11 : decode cX2_lookOf 11 = .ok (.iconst 1, 1) := by decide +kernel
theorem dX2_lookOf_12 : decode cX2_lookOf 12 = .ok (.ireturn, 1) := by decide +kernel
theorem dX2_lookOf_13 : decode cX2_lookOf 13 = .ok (.aload_n 0, 1) := by decide +kernel
theorem dX2_lookOf_14 : decode cX2_lookOf 14 = .ok (.getfield 15, 3) := by decide +kernel
theorem dX2_lookOf_17 : decode cX2_lookOf 17 = .ok (.iload_n 1, 1) := by decide +kernel
theorem dX2_lookOf_18 : decode cX2_lookOf 18 = .ok (.invokestatic 37, 3) := by decide +kernel
theorem dX2_lookOf_21 : decode cX2_lookOf 21 = .ok (.ifCond .eq 7, 3) := by decide +kernel
theorem dX2_lookOf_24 : decode cX2_lookOf 24 = .ok (.iconst 2, 1) := by decide +kernel
theorem dX2_lookOf_25 : decode cX2_lookOf 25 = .ok (.goto 4, 3) := by decide +kernel
theorem dX2_lookOf_28 : decode cX2_lookOf 28 = .ok (.iconst 0, 1) := by decide +kernel
theorem dX2_lookOf_29 : decode cX2_lookOf 29 = .ok (.ireturn, 1) := by decide +kernel
theorem dX2_look_0 : decode cX2_look 0 = .ok (.iconst 1, 1) := by decide +kernel
theorem dX2_look_1 : decode cX2_look 1 = .ok (.iload_n 1, 1) := by decide +kernel
theorem dX2_look_2 : decode cX2_look 2 = .ok (.ishl, 1) := by decide +kernel
theorem dX2_look_3 : decode cX2_look 3 = .ok (.istore_n 3, 1) := by decide +kernel
theorem dX2_look_4 : decode cX2_look 4 = .ok (.aload_n 0, 1) := by decide +kernel
theorem dX2_look_5 : decode cX2_look 5 = .ok (.iload_n 2, 1) := by decide +kernel
theorem dX2_look_6 : decode cX2_look 6 = .ok (.iconst 1, 1) := by decide +kernel
theorem dX2_look_7 : decode cX2_look 7 = .ok (.if_icmp .ne 12, 3) := by decide +kernel
theorem dX2_look_10 : decode cX2_look 10 = .ok (.aload_n 0, 1) := by decide +kernel
theorem dX2_look_11 : decode cX2_look 11 = .ok (.getfield 9, 3) := by decide +kernel
theorem dX2_look_14 : decode cX2_look 14 = .ok (.iload_n 3, 1) := by decide +kernel
theorem dX2_look_15 : decode cX2_look 15 = .ok (.ior, 1) := by decide +kernel
theorem dX2_look_16 : decode cX2_look 16 = .ok (.goto 11, 3) := by decide +kernel
theorem dX2_look_19 : decode cX2_look 19 = .ok (.aload_n 0, 1) := by decide +kernel
theorem dX2_look_20 : decode cX2_look 20 = .ok (.getfield 9, 3) := by decide +kernel
theorem dX2_look_23 : decode cX2_look 23 = .ok (.iload_n 3, 1) := by decide +kernel
theorem dX2_look_24 : decode cX2_look 24 = .ok (.iconst (-1), 1) := by decide +kernel
theorem dX2_look_25 : decode cX2_look 25 = .ok (.ixor, 1) := by decide +kernel
theorem dX2_look_26 : decode cX2_look 26 = .ok (.iand, 1) := by decide +kernel
theorem dX2_look_27 : decode cX2_look 27 = .ok (.putfield 9, 3) := by decide +kernel
theorem dX2_look_30 : decode cX2_look 30 = .ok (.aload_n 0, 1) := by decide +kernel
theorem dX2_look_31 : decode cX2_look 31 = .ok (.iload_n 2, 1) := by decide +kernel
theorem dX2_look_32 : decode cX2_look 32 = .ok (.iconst 2, 1) := by decide +kernel
theorem dX2_look_33 : decode cX2_look 33 = .ok (.if_icmp .ne 12, 3) := by decide +kernel
theorem dX2_look_36 : decode cX2_look 36 = .ok (.aload_n 0, 1) := by decide +kernel
theorem dX2_look_37 : decode cX2_look 37 = .ok (.getfield 15, 3) := by decide +kernel
theorem dX2_look_40 : decode cX2_look 40 = .ok (.iload_n 3, 1) := by decide +kernel
theorem dX2_look_41 : decode cX2_look 41 = .ok (.ior, 1) := by decide +kernel
theorem dX2_look_42 : decode cX2_look 42 = .ok (.goto 11, 3) := by decide +kernel
theorem dX2_look_45 : decode cX2_look 45 = .ok (.aload_n 0, 1) := by decide +kernel
theorem dX2_look_46 : decode cX2_look 46 = .ok (.getfield 15, 3) := by decide +kernel
theorem dX2_look_49 : decode cX2_look 49 = .ok (.iload_n 3, 1) := by decide +kernel
theorem dX2_look_50 : decode cX2_look 50 = .ok (.iconst (-1), 1) := by decide +kernel
theorem dX2_look_51 : decode cX2_look 51 = .ok (.ixor, 1) := by decide +kernel
theorem dX2_look_52 : decode cX2_look 52 = .ok (.iand, 1) := by decide +kernel
theorem dX2_look_53 : decode cX2_look 53 = .ok (.putfield 15, 3) := by decide +kernel
theorem dX2_look_56 : decode cX2_look 56 = .ok (.return_, 1) := by decide +kernel
theorem dX3_init_0 : decode cX3_init 0 = .ok (.aload_n 0, 1) := by decide +kernel
theorem dX3_init_1 : decode cX3_init 1 = .ok (.invokespecial 3, 3) := by decide +kernel
theorem dX3_init_4 : decode cX3_init 4 = .ok (.aload_n 0, 1) := by decide +kernel
theorem dX3_init_5 : decode cX3_init 5 = .ok (.iconst 1, 1) := by decide +kernel
theorem dX3_init_6 : decode cX3_init 6 = .ok (.putfield 9, 3) := by decide +kernel
theorem dX3_init_9 : decode cX3_init 9 = .ok (.aload_n 0, 1) := by decide +kernel
theorem dX3_init_10 : decode cX3_init 10 = .ok (.iconst 2, 1) := by decide +kernel
theorem dX3_init_11 : decode cX3_init 11 = .ok (.putfield 15, 3) := by decide +kernel
theorem dX3_init_14 : decode cX3_init 14 = .ok (.aload_n 0, 1) := by decide +kernel
theorem dX3_init_15 : decode cX3_init 15 = .ok (.bipush 10, 2) := by decide +kernel
theorem dX3_init_17 : decode cX3_init 17 = .ok (.putfield 18, 3) := by decide +kernel
theorem dX3_init_20 : decode cX3_init 20 = .ok (.aload_n 0, 1) := by decide +kernel
theorem dX3_init_21 : decode cX3_init 21 = .ok (.bipush 6, 2) := by decide +kernel
theorem dX3_init_23 : decode cX3_init 23 = .ok (.newarray .int, 2) := by decide +kernel
theorem dX3_init_25 : decode cX3_init 25 = .ok (.putfield 21, 3) := by decide +kernel
theorem dX3_init_28 : decode cX3_init 28 = .ok (.aload_n 0, 1) := by decide +kernel
theorem dX3_init_29 : decode cX3_init 29 = .ok (.bipush 6, 2) := by decide +kernel
theorem dX3_init_31 : decode cX3_init 31 = .ok (.anewarray 25, 3) := by decide +kernel
theorem dX3_init_34 : decode cX3_init 34 = .ok (.putfield 27, 3) := by decide +kernel
theorem dX3_init_37 : decode cX3_init 37 = .ok (.aload_n 0, 1) := by decide +kernel
theorem dX3_init_38 : decode cX3_init 38 = .ok (.iconst 0, 1) := by decide +kernel
theorem dX3_init_39 : decode cX3_init 39 = .ok (.putfield 31, 3) := by decide +kernel
theorem dX3_init_42 : decode cX3_init 42 = .ok (.aload_n 0, 1) := by decide +kernel
theorem dX3_init_43 : decode cX3_init 43 = .ok (.bipush 6, 2) := by decide +kernel
theorem dX3_init_45 : decode cX3_init 45 = .ok (.newarray .int, 2) := by decide +kernel
theorem dX3_init_47 : decode cX3_init 47 = .ok (.putfield 34, 3) := by decide +kernel
theorem dX3_init_50 : decode cX3_init 50 = .ok (.aload_n 0, 1) := by decide +kernel
theorem dX3_init_51 : decode cX3_init 51 = .ok (.bipush 64, 2) := by decide +kernel
theorem dX3_init_53 : decode cX3_init 53 = .ok (.bipush 6, 2) := by decide +kernel
theorem dX3_init_55 : decode cX3_init 55 = .ok (.multianewarray 37 2, 4) := by decide +kernel
theorem dX3_init_59 : decode cX3_init 59 = .ok (.putfield 39, 3) := by decide +kernel
theorem dX3_init_62 : decode cX3_init 62 = .ok (.iconst 0, 1) := by decide +kernel
theorem dX3_init_63 : decode cX3_init 63 = .ok (.istore_n 1, 1) := by decide +kernel
theorem dX3_init_64 : decode cX3_init 64 = .ok (.iload_n 1, 1) := by decide +kernel
theorem dX3_init_65 : decode cX3_init 65 = .ok (.bipush 6, 2) := by decide +kernel
theorem dX3_init_67 : decode cX3_init 67 = .ok (.if_icmp .ge 22, 3) := by decide +kernel
theorem dX3_init_70 : decode cX3_init 70 = .ok (.aload_n 0, 1) := by decide +kernel
theorem dX3_init_71 : decode cX3_init 71 = .ok (.getfield 27, 3) := by decide +kernel
theorem dX3_init_74 : decode cX3_init 74 = .ok (.iload_n 1, 1) := by decide +kernel
theorem dX3_init_75 : decode cX3_init 75 = .ok (.new 25, 3) := by decide +kernel
theorem dX3_init_78 : decode cX3_init 78 = .ok (.dup, 1) := by decide +kernel
theorem dX3_init_79 : decode cX3_init 79 = .ok (.invokespecial 42, 3) := by decide +kernel
theorem dX3_init_82 : decode cX3_init 82 = .ok (.aastore, 1) := by decide +kernel
theorem dX3_init_83 : decode cX3_init 83 = .ok (.iinc 1 1, 3) := by decide +kernel
theorem dX3_init_86 : decode cX3_init 86 = .ok (.goto (-22), 3) := by decide +kernel
theorem dX3_init_89 : decode cX3_init 89 = .ok (.return_, 1) := by decide +kernel
theorem dX3_hasState_0 : decode cX3_hasState 0 = .ok (.iload_n 1, 1) := by decide +kernel
theorem dX3_hasState_1 : decode cX3_hasState 1 = .ok (.ifCond .lt 15, 3) := by decide +kernel
theorem dX3_hasState_4 : decode cX3_hasState 4 = .ok (.iload_n 1, 1) := by decide +kernel
theorem dX3_hasState_5 : decode cX3_hasState 5 = .ok (.aload_n 0, 1) := by decide +kernel
theorem dX3_hasState_6 : decode cX3_hasState 6 = .ok (.getfield 31, 3) := by decide +kernel
theorem dX3_hasState_9 : decode cX3_hasState 9 = .ok (.if_icmp .ge 7, 3) := by decide +kernel
theorem dX3_hasState_12 : decode cX3_hasState 12 = .ok (.iconst 1, 1) := by decide +kernel
theorem dX3_hasState_13 : decode cX3_hasState 13 = .ok (.goto 4, 3) := by decide +kernel
theorem dX3_hasState_16 : decode cX3_hasState 16 = .ok (.iconst 0, 1) := by decide +kernel
theorem dX3_hasState_17 : decode cX3_hasState 17 = .ok (.ireturn, 1) := by decide +kernel
theorem dX3_addState_0 : decode cX3_addState 0 = .ok (.aload_n 0, 1) := by decide +kernel
theorem dX3_addState_1 : decode cX3_addState 1 = .ok (.getfield 31, 3) := by decide +kernel
theorem dX3_addState_4 : decode cX3_addState 4 = .ok (.bipush 6, 2) := by decide +kernel
theorem dX3_addState_6 : decode cX3_addState 6 = .ok (.if_icmp .lt 6, 3) := by decide +kernel
theorem dX3_addState_9 : decode cX3_addState 9 = .ok (.bipush (-3), 2) := by decide +kernel
theorem dX3_addState_11 : decode cX3_addState 11 = .ok (.ireturn, 1) := by decide +kernel
theorem dX3_addState_12 : decode cX3_addState 12 = .ok (.aload_n 0, 1) := by decide +kernel
theorem dX3_addState_13 : decode cX3_addState 13 = .ok (.getfield 21, 3) := by decide +kernel
theorem dX3_addState_16 : decode cX3_addState 16 = .ok (.aload_n 0, 1) := by decide +kernel
theorem dX3_addState_17 : decode cX3_addState 17 = .ok (.getfield 31, 3) := by decide +kernel
theorem dX3_addState_20 : decode cX3_addState 20 = .ok (.iload_n 1, 1) := by decide +kernel
theorem dX3_addState_21 : decode cX3_addState 21 = .ok (.iastore, 1) := by decide +kernel
theorem dX3_addState_22 : decode cX3_addState 22 = .ok (.aload_n 0, 1) := by decide +kernel
theorem dX3_addState_23 : decode cX3_addState 23 = .ok (.getfield 27, 3) := by decide +kernel
theorem dX3_addState_26 : decode cX3_addState 26 = .ok (.aload_n 0, 1) := by decide +kernel
theorem dX3_addState_27 : decode cX3_addState 27 = .ok (.getfield 31, 3) := by decide +kernel
theorem dX3_addState_30 : decode cX3_addState 30 = .ok (.aaload, 1) := by decide +kernel
theorem dX3_addState_31 : decode cX3_addState 31 = .ok (.iload_n 2, 1) := by decide +kernel
theorem dX3_addState_32 : decode cX3_addState 32 = .ok (.iload_n 3, 1) := by decide +kernel
theorem dX3_addState_33 : decode cX3_addState 33 = .ok (.invokevirtual 43, 3) := by decide +kernel
theorem dX3_addState_36 : decode cX3_addState 36 = .ok (.aload_n 0, 1) := by decide +kernel
theorem dX3_addState_37 : decode cX3_addState 37 = .ok (.dup, 1) := by decide +kernel
theorem dX3_addState_38 : decode cX3_addState 38 = .ok (.getfield 31, 3) := by decide +kernel
theorem dX3_addState_41 : decode cX3_addState 41 = .ok (.dup_x1, 1) := by decide +kernel
theorem dX3_addState_42 : decode cX3_addState 42 = .ok (.iconst 1, 1) := by decide +kernel
theorem dX3_addState_43 : decode cX3_addState 43 = .ok (.iadd, 1) := by decide +kernel
theorem dX3_addState_44 : decode cX3_addState 44 = .ok (.putfield 31, 3) := by decide +kernel
theorem dX3_addState_47 : decode cX3_addState 47 = .ok (.ireturn, 1) := by decide +kernel
theorem dX3_statesWith_0 : decode cX3_statesWith 0 = .ok (.iconst 0, 1) := by decide +kernel
theorem dX3_statesWith_1 : decode cX3_statesWith 1 = .ok (.istore_n 3, 1) := by decide +kernel
theorem dX3_statesWith_2 : decode cX3_statesWith 2 = .ok (.iconst 0, 1) := by decide +kernel
theorem dX3_statesWith_3 : decode cX3_statesWith 3 = .ok (.istore 4, 2) := by decide +kernel
theorem dX3_statesWith_5 : decode cX3_statesWith 5 = .ok (.iload 4, 2) := by decide +kernel
theorem dX3_statesWith_7 : decode cX3_statesWith 7 = .ok (.aload_n 0, 1) := by decide +kernel
theorem dX3_statesWith_8 : decode cX3_statesWith 8 = .ok (.getfield 31, 3) := by decide +kernel
theorem dX3_statesWith_11 : decode cX3_statesWith 11 = .ok (.if_icmp .ge 41, 3) := by decide +kernel
theorem dX3_statesWith_14 : decode cX3_statesWith 14 = .ok (.aload_n 0, 1) := by decide +kernel
theorem dX3_statesWith_15 : decode cX3_statesWith 15 = .ok (.getfield 21, 3) := by decide +kernel
theorem dX3_statesWith_18 : decode cX3_statesWith 18 = .ok (.iload 4, 2) := by decide +kernel
theorem dX3_statesWith_20 : decode cX3_statesWith 20 = .ok (.iaload, 1) := by decide +kernel
theorem dX3_statesWith_21 : decode cX3_statesWith 21 = .ok (.iload_n 1, 1) := by decide +kernel
theorem dX3_statesWith_22 : decode cX3_statesWith 22 = .ok (.iand, 1) := by decide +kernel
theorem dX3_statesWith_23 : decode cX3_statesWith 23 = .ok (.iload_n 1, 1) := by decide +kernel
theorem dX3_statesWith_24 : decode cX3_statesWith 24 = .ok (.if_icmp .ne 22, 3) := by decide +kernel
theorem dX3_statesWith_27 : decode cX3_statesWith 27 = .ok (.aload_n 0, 1) := by decide +kernel
theorem dX3_statesWith_28 : decode cX3_statesWith 28 = .ok (.getfield 21, 3) := by decide +kernel
theorem dX3_statesWith_31 : decode cX3_statesWith 31 = .ok (.iload 4, 2) := by decide +kernel
theorem dX3_statesWith_33 : decode cX3_statesWith 33 = .ok (.iaload, 1) := by decide +kernel
theorem dX3_statesWith_34 : decode cX3_statesWith 34 = .ok (.iload_n 2, 1) := by decide +kernel
theorem dX3_statesWith_35 : decode cX3_statesWith 35 = .ok (.iand, 1) := by decide +kernel
theorem dX3_statesWith_36 : decode cX3_statesWith 36 = .ok (.ifCond .ne 10, 3) := by decide +kernel
theorem dX3_statesWith_39 : decode cX3_statesWith 39 = .ok (.iload_n 3, 1) := by decide +kernel
theorem dX3_statesWith_40 : decode cX3_statesWith 40 = .ok (.iconst 1, 1) := by decide +kernel
theorem dX3_statesWith_41 : decode cX3_statesWith 41 = .ok (.iload 4, 2) := by decide +kernel
theorem dX3_statesWith_43 : decode cX3_statesWith 43 = .ok (.ishl, 1) := by decide +kernel
theorem dX3_statesWith_44 : decode cX3_statesWith 44 = .ok (.ior, 1) := by decide +kernel
theorem dX3_statesWith_45 : decode cX3_statesWith 45 = .ok (.istore_n 3, 1) := by decide +kernel
theorem dX3_statesWith_46 : decode cX3_statesWith 46 = .ok (.iinc 4 1, 3) := by decide +kernel
theorem dX3_statesWith_49 : decode cX3_statesWith 49 = .ok (.goto (-44), 3) := by decide +kernel
theorem dX3_statesWith_52 : decode cX3_statesWith 52 = .ok (.iload_n 3, 1) := by decide +kernel
theorem dX3_statesWith_53 : decode cX3_statesWith 53 = .ok (.ireturn, 1) := by decide +kernel
theorem dX3_quarrelOf_0 : decode cX3_quarrelOf 0 = .ok (.aload_n 0, 1) := by decide +kernel
theorem dX3_quarrelOf_1 : decode cX3_quarrelOf 1 = .ok (.iload_n 1, 1) := by decide +kernel
theorem dX3_quarrelOf_2 : decode cX3_quarrelOf 2 = .ok (.invokevirtual 47, 3) := by decide +kernel
theorem dX3_quarrelOf_5 : decode cX3_quarrelOf 5 = .ok (.ifCond .ne 5, 3) := by decide +kernel
theorem dX3_quarrelOf_8 : decode cX3_quarrelOf 8 = .ok (.iconst (-1), 1) := by decide +kernel
theorem dX3_quarrelOf_9 : decode cX3_quarrelOf 9 = .ok (.ireturn, 1) := by decide +kernel
theorem dX3_quarrelOf_10 : decode cX3_quarrelOf 10 = .ok (.iconst 0, 1) := by decide +kernel
theorem dX3_quarrelOf_11 : decode cX3_quarrelOf 11 = .ok (.istore_n 2, 1) := by decide +kernel
theorem dX3_quarrelOf_12 : decode cX3_quarrelOf 12 = .ok (.iconst 0, 1) := by decide +kernel
theorem dX3_quarrelOf_13 : decode cX3_quarrelOf 13 = .ok (.istore_n 3, 1) := by decide +kernel
theorem dX3_quarrelOf_14 : decode cX3_quarrelOf 14 = .ok (.iconst 0, 1) := by decide +kernel
theorem dX3_quarrelOf_15 : decode cX3_quarrelOf 15 = .ok (.istore 4, 2) := by decide +kernel
theorem dX3_quarrelOf_17 : decode cX3_quarrelOf 17 = .ok (.iload 4, 2) := by decide +kernel
theorem dX3_quarrelOf_19 : decode cX3_quarrelOf 19 = .ok (.iconst 1, 1) := by decide +kernel
theorem dX3_quarrelOf_20 : decode cX3_quarrelOf 20 = .ok (.iadd, 1) := by decide +kernel
theorem dX3_quarrelOf_21 : decode cX3_quarrelOf 21 = .ok (.aload_n 0, 1) := by decide +kernel
theorem dX3_quarrelOf_22 : decode cX3_quarrelOf 22 = .ok (.getfield 31, 3) := by decide +kernel
theorem dX3_quarrelOf_25 : decode cX3_quarrelOf 25 = .ok (.if_icmp .ge 58, 3) := by decide +kernel
theorem dX3_quarrelOf_28 : decode cX3_quarrelOf 28 = .ok (.iload_n 3, 1) := by decide +kernel
theorem dX3_quarrelOf_29 : decode cX3_quarrelOf 29 = .ok (.aload_n 0, 1) := by decide +kernel
theorem dX3_quarrelOf_30 : decode cX3_quarrelOf 30 = .ok (.getfield 21, 3) := by decide +kernel
theorem dX3_quarrelOf_33 : decode cX3_quarrelOf 33 = .ok (.aload_n 0, 1) := by decide +kernel
theorem dX3_quarrelOf_34 : decode cX3_quarrelOf 34 = .ok (.getfield 34, 3) := by decide +kernel
theorem dX3_quarrelOf_37 : decode cX3_quarrelOf 37 = .ok (.iload 4, 2) := by decide +kernel
theorem dX3_quarrelOf_39 : decode cX3_quarrelOf 39 = .ok (.iaload, 1) := by decide +kernel
theorem dX3_quarrelOf_40 : decode cX3_quarrelOf 40 = .ok (.iaload, 1) := by decide +kernel
theorem dX3_quarrelOf_41 : decode cX3_quarrelOf 41 = .ok (.ior, 1) := by decide +kernel
theorem dX3_quarrelOf_42 : decode cX3_quarrelOf 42 = .ok (.istore_n 3, 1) := by decide +kernel
theorem dX3_quarrelOf_43 : decode cX3_quarrelOf 43 = .ok (.iload_n 2, 1) := by decide +kernel
theorem dX3_quarrelOf_44 : decode cX3_quarrelOf 44 = .ok (.aload_n 0, 1) := by decide +kernel
theorem dX3_quarrelOf_45 : decode cX3_quarrelOf 45 = .ok (.iload_n 3, 1) := by decide +kernel
theorem dX3_quarrelOf_46 : decode cX3_quarrelOf 46 = .ok (.aload_n 0, 1) := by decide +kernel
theorem dX3_quarrelOf_47 : decode cX3_quarrelOf 47 = .ok (.getfield 21, 3) := by decide +kernel
theorem dX3_quarrelOf_50 : decode cX3_quarrelOf 50 = .ok (.aload_n 0, 1) := by decide +kernel
theorem dX3_quarrelOf_51 : decode cX3_quarrelOf 51 = .ok (.getfield 34, 3) := by decide +kernel
theorem dX3_quarrelOf_54 : decode cX3_quarrelOf 54 = .ok (.iload 4, 2) := by decide +kernel
theorem dX3_quarrelOf_56 : decode cX3_quarrelOf 56 = .ok (.iaload, 1) := by decide +kernel
theorem dX3_quarrelOf_57 : decode cX3_quarrelOf 57 = .ok (.iaload, 1) := by decide +kernel
theorem dX3_quarrelOf_58 : decode cX3_quarrelOf 58 = .ok (.aload_n 0, 1) := by decide +kernel
theorem dX3_quarrelOf_59 : decode cX3_quarrelOf 59 = .ok (.getfield 21, 3) := by decide +kernel
theorem dX3_quarrelOf_62 : decode cX3_quarrelOf 62 = .ok (.aload_n 0, 1) := by decide +kernel
theorem dX3_quarrelOf_63 : decode cX3_quarrelOf 63 = .ok (.getfield 34, 3) := by decide +kernel
theorem dX3_quarrelOf_66 : decode cX3_quarrelOf 66 = .ok (.iload 4, 2) := by decide +kernel
theorem dX3_quarrelOf_68 : decode cX3_quarrelOf 68 = .ok (.iconst 1, 1) := by decide +kernel
theorem dX3_quarrelOf_69 : decode cX3_quarrelOf 69 = .ok (.iadd, 1) := by decide +kernel
theorem dX3_quarrelOf_70 : decode cX3_quarrelOf 70 = .ok (.iaload, 1) := by decide +kernel
theorem dX3_quarrelOf_71 : decode cX3_quarrelOf 71 = .ok (.iaload, 1) := by decide +kernel
theorem dX3_quarrelOf_72 : decode cX3_quarrelOf 72 = .ok (.invokevirtual 51, 3) := by decide +kernel
theorem dX3_quarrelOf_75 : decode cX3_quarrelOf 75 = .ok (.iadd, 1) := by decide +kernel
theorem dX3_quarrelOf_76 : decode cX3_quarrelOf 76 = .ok (.istore_n 2, 1) := by decide +kernel
theorem dX3_quarrelOf_77 : decode cX3_quarrelOf 77 = .ok (.iinc 4 1, 3) := by decide +kernel
theorem dX3_quarrelOf_80 : decode cX3_quarrelOf 80 = .ok (.goto (-63), 3) := by decide +kernel
theorem dX3_quarrelOf_83 : decode cX3_quarrelOf 83 = .ok (.iload_n 2, 1) := by decide +kernel
theorem dX3_quarrelOf_84 : decode cX3_quarrelOf 84 = .ok (.ireturn, 1) := by decide +kernel
theorem dX3_readOrder_0 : decode cX3_readOrder 0 = .ok (.iload_n 1, 1) := by decide +kernel
theorem dX3_readOrder_1 : decode cX3_readOrder 1 = .ok (.ifCond .lt 10, 3) := by decide +kernel
theorem dX3_readOrder_4 : decode cX3_readOrder 4 = .ok (.aload_n 0, 1) := by decide +kernel
theorem dX3_readOrder_5 : decode cX3_readOrder 5 = .ok (.getfield 31, 3) := by decide +kernel
theorem dX3_readOrder_8 : decode cX3_readOrder 8 = .ok (.ifCond .ne 5, 3) := by decide +kernel
theorem dX3_readOrder_11 : decode cX3_readOrder 11 = .ok (.iconst 0, 1) := by decide +kernel
theorem dX3_readOrder_12 : decode cX3_readOrder 12 = .ok (.ireturn, 1) := by decide +kernel
theorem dX3_readOrder_13 : decode cX3_readOrder 13 = .ok (.iload_n 1, 1) := by decide +kernel
theorem dX3_readOrder_14 : decode cX3_readOrder 14 = .ok (.istore_n 2, 1) := by decide +kernel
theorem dX3_readOrder_15 : decode cX3_readOrder 15 = .ok (.iconst 0, 1) := by decide +kernel
theorem dX3_readOrder_16 : decode cX3_readOrder 16 = .ok (.istore_n 3, 1) := by decide +kernel
theorem dX3_readOrder_17 : decode cX3_readOrder 17 = .ok (.aload_n 0, 1) := by decide +kernel
theorem dX3_readOrder_18 : decode cX3_readOrder 18 = .ok (.getfield 31, 3) := by decide +kernel
theorem dX3_readOrder_21 : decode cX3_readOrder 21 = .ok (.iconst 1, 1) := by decide +kernel
theorem dX3_readOrder_22 : decode cX3_readOrder 22 = .ok (.isub, 1) := by decide +kernel
theorem dX3_readOrder_23 : decode cX3_readOrder 23 = .ok (.istore 4, 2) := by decide +kernel
theorem dX3_readOrder_25 : decode cX3_readOrder 25 = .ok (.iload 4, 2) := by decide +kernel
theorem dX3_readOrder_27 : decode cX3_readOrder 27 = .ok (.ifCond .lt 56, 3) := by decide +kernel
theorem dX3_readOrder_30 : decode cX3_readOrder 30 = .ok (.iload_n 2, 1) := by decide +kernel
theorem dX3_readOrder_31 : decode cX3_readOrder 31 = .ok (.bipush 6, 2) := by decide +kernel
theorem dX3_readOrder_33 : decode cX3_readOrder 33 = .ok (.irem, 1) := by decide +kernel
theorem dX3_readOrder_34 : decode cX3_readOrder 34 = .ok (.istore 5, 2) := by decide +kernel
theorem dX3_readOrder_36 : decode cX3_readOrder 36 = .ok (.iload_n 2, 1) := by decide +kernel
theorem dX3_readOrder_37 : decode cX3_readOrder 37 = .ok (.bipush 6, 2) := by decide +kernel
theorem dX3_readOrder_39 : decode cX3_readOrder 39 = .ok (.idiv, 1) := by decide +kernel
theorem dX3_readOrder_40 : decode cX3_readOrder 40 = .ok (.istore_n 2, 1) := by decide +kernel
theorem dX3_readOrder_41 : decode cX3_readOrder 41 = .ok (.aload_n 0, 1) := by decide +kernel
theorem dX3_readOrder_42 : decode cX3_readOrder 42 = .ok (.iload 5, 2) := by decide +kernel
theorem dX3_readOrder_44 : decode cX3_readOrder 44 = .ok (.invokevirtual 55, 3) := by decide +kernel
theorem dX3_readOrder_47 : decode cX3_readOrder 47 = .ok (.ifCond .eq 12, 3) := by decide +kernel
theorem dX3_readOrder_50 : decode cX3_readOrder 50 = .ok (.iload_n 3, 1) := by decide +kernel
theorem dX3_readOrder_51 : decode cX3_readOrder 51 = .ok (.iload 5, 2) := by decide +kernel
theorem dX3_readOrder_53 : decode cX3_readOrder 53 = .ok (.invokestatic 58, 3) := by decide +kernel
theorem dX3_readOrder_56 : decode cX3_readOrder 56 = .ok (.ifCond .eq 5, 3) := by decide +kernel
theorem dX3_readOrder_59 : decode cX3_readOrder 59 = .ok (.iconst 0, 1) := by decide +kernel
theorem dX3_readOrder_60 : decode cX3_readOrder 60 = .ok (.ireturn, 1) := by decide +kernel
theorem dX3_readOrder_61 : decode cX3_readOrder 61 = .ok (.iload_n 3, 1) := by decide +kernel
theorem dX3_readOrder_62 : decode cX3_readOrder 62 = .ok (.iconst 1, 1) := by decide +kernel
theorem dX3_readOrder_63 : decode cX3_readOrder 63 = .ok (.iload 5, 2) := by decide +kernel
theorem dX3_readOrder_65 : decode cX3_readOrder 65 = .ok (.ishl, 1) := by decide +kernel
theorem dX3_readOrder_66 : decode cX3_readOrder 66 = .ok (.ior, 1) := by decide +kernel
theorem dX3_readOrder_67 : decode cX3_readOrder 67 = .ok (.istore_n 3, 1) := by decide +kernel
theorem dX3_readOrder_68 : decode cX3_readOrder 68 = .ok (.aload_n 0, 1) := by decide +kernel
theorem dX3_readOrder_69 : decode cX3_readOrder 69 = .ok (.getfield 34, 3) := by decide +kernel
theorem dX3_readOrder_72 : decode cX3_readOrder 72 = .ok (.iload 4, 2) := by decide +kernel
theorem dX3_readOrder_74 : decode cX3_readOrder 74 = .ok (.iload 5, 2) := by decide +kernel
theorem dX3_readOrder_76 : decode cX3_readOrder 76 = .ok (.iastore, 1) := by decide +kernel
theorem dX3_readOrder_77 : decode cX3_readOrder 77 = .ok (.iinc 4 (-1), 3) := by decide +kernel
theorem dX3_readOrder_80 : decode cX3_readOrder 80 = .ok (.goto (-55), 3) := by decide +kernel
theorem dX3_readOrder_83 : decode cX3_readOrder 83 = .ok (.iload_n 2, 1) := by decide +kernel
theorem dX3_readOrder_84 : decode cX3_readOrder 84 = .ok (.ifCond .ne 7, 3) := by decide +kernel
theorem dX3_readOrder_87 : decode cX3_readOrder 87 = .ok (.iconst 1, 1) := by decide +kernel
theorem dX3_readOrder_88 : decode cX3_readOrder 88 = .ok (.goto 4, 3) := by decide +kernel
theorem dX3_readOrder_91 : decode cX3_readOrder 91 = .ok (.iconst 0, 1) := by decide +kernel
theorem dX3_readOrder_92 : decode cX3_readOrder 92 = .ok (.ireturn, 1) := by decide +kernel
theorem dX3_stepQuarrel_0 : decode cX3_stepQuarrel 0 = .ok (.iload_n 3, 1) := by decide +kernel
theorem dX3_stepQuarrel_1 : decode cX3_stepQuarrel 1 = .ok (.iload_n 2, 1) := by decide +kernel
theorem dX3_stepQuarrel_2 : decode cX3_stepQuarrel 2 = .ok (.iconst (-1), 1) := by decide +kernel
theorem dX3_stepQuarrel_3 : decode cX3_stepQuarrel 3 = .ok (.ixor, 1) := by decide +kernel
theorem dX3_stepQuarrel_4 : decode cX3_stepQuarrel 4 = .ok (.iand, 1) := by decide +kernel
theorem dX3_stepQuarrel_5 : decode cX3_stepQuarrel 5 = .ok (.istore 4, 2) := by decide +kernel
theorem dX3_stepQuarrel_7 : decode cX3_stepQuarrel 7 = .ok (.iload_n 2, 1) := by decide +kernel
theorem dX3_stepQuarrel_8 : decode cX3_stepQuarrel 8 = .ok (.iload_n 3, 1) := by decide +kernel
theorem dX3_stepQuarrel_9 : decode cX3_stepQuarrel 9 = .ok (.iconst (-1), 1) := by decide +kernel
theorem dX3_stepQuarrel_10 : decode cX3_stepQuarrel 10 = .ok (.ixor, 1) := by decide +kernel
theorem dX3_stepQuarrel_11 : decode cX3_stepQuarrel 11 = .ok (.iand, 1) := by decide +kernel
theorem dX3_stepQuarrel_12 : decode cX3_stepQuarrel 12 = .ok (.istore 5, 2) := by decide +kernel
theorem dX3_stepQuarrel_14 : decode cX3_stepQuarrel 14 = .ok (.iload 4, 2) := by decide +kernel
theorem dX3_stepQuarrel_16 : decode cX3_stepQuarrel 16 = .ok (.iload_n 1, 1) := by decide +kernel
theorem dX3_stepQuarrel_17 : decode cX3_stepQuarrel 17 = .ok (.iconst (-1), 1) := by decide +kernel
theorem dX3_stepQuarrel_18 : decode cX3_stepQuarrel 18 = .ok (.ixor, 1) := by decide +kernel
theorem dX3_stepQuarrel_19 : decode cX3_stepQuarrel 19 = .ok (.iand, 1) := by decide +kernel
theorem dX3_stepQuarrel_20 : decode cX3_stepQuarrel 20 = .ok (.invokestatic 62, 3) := by decide +kernel
theorem dX3_stepQuarrel_23 : decode cX3_stepQuarrel 23 = .ok (.aload_n 0, 1) := by decide +kernel
theorem dX3_stepQuarrel_24 : decode cX3_stepQuarrel 24 = .ok (.getfield 9, 3) := by decide +kernel
theorem dX3_stepQuarrel_27 : decode cX3_stepQuarrel 27 = .ok (.imul, 1) := by decide +kernel
theorem dX3_stepQuarrel_28 : decode cX3_stepQuarrel 28 = .ok (.iload 4, 2) := by decide +kernel
theorem dX3_stepQuarrel_30 : decode cX3_stepQuarrel 30 = .ok (.iload_n 1, 1) := by decide +kernel
theorem dX3_stepQuarrel_31 : decode cX3_stepQuarrel 31 = .ok (.iand, 1) := by decide +kernel
theorem dX3_stepQuarrel_32 : decode cX3_stepQuarrel 32 = .ok (.invokestatic 62, 3) := by decide +kernel
theorem dX3_stepQuarrel_35 : decode cX3_stepQuarrel 35 = .ok (.aload_n 0, 1) := by decide +kernel
theorem dX3_stepQuarrel_36 : decode cX3_stepQuarrel 36 = .ok (.getfield 18, 3) := by decide +kernel
theorem dX3_stepQuarrel_39 : decode cX3_stepQuarrel 39 = .ok (.imul, 1) := by decide +kernel
theorem dX3_stepQuarrel_40 : decode cX3_stepQuarrel 40 = .ok (.iadd, 1) := by decide +kernel
theorem dX3_stepQuarrel_41 : decode cX3_stepQuarrel 41 = .ok (.iload 5, 2) := by decide +kernel
theorem dX3_stepQuarrel_43 : decode cX3_stepQuarrel 43 = .ok (.invokestatic 62, 3) := by decide +kernel
theorem dX3_stepQuarrel_46 : decode cX3_stepQuarrel 46 = .ok (.aload_n 0, 1) := by decide +kernel
theorem dX3_stepQuarrel_47 : decode cX3_stepQuarrel 47 = .ok (.getfield 15, 3) := by decide +kernel
theorem dX3_stepQuarrel_50 : decode cX3_stepQuarrel 50 = .ok (.imul, 1) := by decide +kernel
theorem dX3_stepQuarrel_51 : decode cX3_stepQuarrel 51 = .ok (.iadd, 1) := by decide +kernel
theorem dX3_stepQuarrel_52 : decode cX3_stepQuarrel 52 = .ok (.ireturn, 1) := by decide +kernel
theorem dX3_bestOrder_0 : decode cX3_bestOrder 0 = .ok (.aload_n 0, 1) := by decide +kernel
theorem dX3_bestOrder_1 : decode cX3_bestOrder 1 = .ok (.invokevirtual 68, 3) := by decide +kernel
theorem dX3_bestOrder_4 : decode cX3_bestOrder 4 = .ok (.iconst 0, 1) := by decide +kernel
theorem dX3_bestOrder_5 : decode cX3_bestOrder 5 = .ok (.istore_n 1, 1) := by decide +kernel
theorem dX3_bestOrder_6 : decode cX3_bestOrder 6 = .ok (.iconst 0, 1) := by decide +kernel
theorem dX3_bestOrder_7 : decode cX3_bestOrder 7 = .ok (.istore_n 2, 1) := by decide +kernel
theorem dX3_bestOrder_8 : decode cX3_bestOrder 8 = .ok (.bipush (-9), 2) := by decide +kernel
theorem dX3_bestOrder_10 : decode cX3_bestOrder 10 = .ok (.istore_n 3, 1) := by decide +kernel
theorem dX3_bestOrder_11 : decode cX3_bestOrder 11 = .ok (.iconst 0, 1) := by decide +kernel
theorem dX3_bestOrder_12 : decode cX3_bestOrder 12 = .ok (.istore 4, 2) := by decide +kernel
theorem dX3_bestOrder_14 : decode cX3_bestOrder 14 = .ok (.iload 4, 2) := by decide +kernel
theorem dX3_bestOrder_16 : decode cX3_bestOrder 16 = .ok (.aload_n 0, 1) := by decide +kernel
theorem dX3_bestOrder_17 : decode cX3_bestOrder 17 = .ok (.getfield 31, 3) := by decide +kernel
theorem dX3_bestOrder_20 : decode cX3_bestOrder 20 = .ok (.if_icmp .ge 39, 3) := by decide +kernel
theorem dX3_bestOrder_23 : decode cX3_bestOrder 23 = .ok (.aload_n 0, 1) := by decide +kernel
theorem dX3_bestOrder_24 : decode cX3_bestOrder 24 = .ok (.iload_n 2, 1) := by decide +kernel
theorem dX3_bestOrder_25 : decode cX3_bestOrder 25 = .ok (.iload_n 3, 1) := by decide +kernel
theorem dX3_bestOrder_26 : decode cX3_bestOrder 26 = .ok (.invokevirtual 71, 3) := by decide +kernel
theorem dX3_bestOrder_29 : decode cX3_bestOrder 29 = .ok (.istore_n 3, 1) := by decide +kernel
theorem dX3_bestOrder_30 : decode cX3_bestOrder 30 = .ok (.aload_n 0, 1) := by decide +kernel
theorem dX3_bestOrder_31 : decode cX3_bestOrder 31 = .ok (.iload_n 3, 1) := by decide +kernel
theorem dX3_bestOrder_32 : decode cX3_bestOrder 32 = .ok (.invokevirtual 55, 3) := by decide +kernel
theorem dX3_bestOrder_35 : decode cX3_bestOrder 35 = .ok (.ifCond .ne 5, 3) := by decide +kernel
theorem dX3_bestOrder_38 : decode cX3_bestOrder 38 = .ok (.iconst 0, 1) := by decide +kernel
theorem dX3_bestOrder_39 : decode cX3_bestOrder 39 = .ok (.ireturn, 1) := by decide +kernel
theorem dX3_bestOrder_40 : decode cX3_bestOrder 40 = .ok (.iload_n 2, 1) := by decide +kernel
theorem dX3_bestOrder_41 : decode cX3_bestOrder 41 = .ok (.iconst 1, 1) := by decide +kernel
theorem dX3_bestOrder_42 : decode cX3_bestOrder 42 = .ok (.iload_n 3, 1) := by decide +kernel
theorem dX3_bestOrder_43 : decode cX3_bestOrder 43 = .ok (.ishl, 1) := by decide +kernel
theorem dX3_bestOrder_44 : decode cX3_bestOrder 44 = .ok (.ior, 1) := by decide +kernel
theorem dX3_bestOrder_45 : decode cX3_bestOrder 45 = .ok (.istore_n 2, 1) := by decide +kernel
theorem dX3_bestOrder_46 : decode cX3_bestOrder 46 = .ok (.iload_n 1, 1) := by decide +kernel
theorem dX3_bestOrder_47 : decode cX3_bestOrder 47 = .ok (.bipush 6, 2) := by decide +kernel
theorem dX3_bestOrder_49 : decode cX3_bestOrder 49 = .ok (.imul, 1) := by decide +kernel
theorem dX3_bestOrder_50 : decode cX3_bestOrder 50 = .ok (.iload_n 3, 1) := by decide +kernel
theorem dX3_bestOrder_51 : decode cX3_bestOrder 51 = .ok (.iadd, 1) := by decide +kernel
theorem dX3_bestOrder_52 : decode cX3_bestOrder 52 = .ok (.istore_n 1, 1) := by decide +kernel
theorem dX3_bestOrder_53 : decode cX3_bestOrder 53 = .ok (.iinc 4 1, 3) := by decide +kernel
theorem dX3_bestOrder_56 : decode cX3_bestOrder 56 = .ok (.goto (-42), 3) := by decide +kernel
theorem dX3_bestOrder_59 : decode cX3_bestOrder 59 = .ok (.iload_n 1, 1) := by decide +kernel
theorem dX3_bestOrder_60 : decode cX3_bestOrder 60 = .ok (.ireturn, 1) := by decide +kernel
theorem dX3_weighWhatIsToCome_0 : decode cX3_weighWhatIsToCome 0 = .ok (.iconst 1, 1) := by decide +kernel
theorem dX3_weighWhatIsToCome_1 : decode cX3_weighWhatIsToCome 1 = .ok (.aload_n 0, 1) := by decide +kernel
theorem dX3_weighWhatIsToCome_2 : decode cX3_weighWhatIsToCome 2 = .ok (.getfield 31, 3) := by decide +kernel
theorem dX3_weighWhatIsToCome_5 : decode cX3_weighWhatIsToCome 5 = .ok (.ishl, 1) := by decide +kernel
theorem dX3_weighWhatIsToCome_6 : decode cX3_weighWhatIsToCome 6 = .ok (.iconst 1, 1) := by decide +kernel
theorem dX3_weighWhatIsToCome_7 : decode cX3_weighWhatIsToCome 7 = .ok (.isub, 1) := by decide +kernel
theorem dX3_weighWhatIsToCome_8 : decode cX3_weighWhatIsToCome 8 = .ok (.istore_n 1, 1) := by decide +kernel
theorem dX3_weighWhatIsToCome_9 : decode cX3_weighWhatIsToCome 9 = .ok (.iload_n 1, 1) := by decide +kernel
theorem dX3_weighWhatIsToCome_10 : decode cX3_weighWhatIsToCome 10 = .ok (.ifCond .le 59, 3) := by decide +kernel
theorem dX3_weighWhatIsToCome_13 : decode cX3_weighWhatIsToCome 13 = .ok (.iconst 0, 1) := by decide +kernel
theorem dX3_weighWhatIsToCome_14 : decode cX3_weighWhatIsToCome 14 = .ok (.istore_n 2, 1) := by decide +kernel
theorem dX3_weighWhatIsToCome_15 : decode cX3_weighWhatIsToCome 15 = .ok (.iload_n 2, 1) := by decide +kernel
theorem dX3_weighWhatIsToCome_16 : decode cX3_weighWhatIsToCome 16 = .ok (.aload_n 0, 1) := by decide +kernel
theorem dX3_weighWhatIsToCome_17 : decode cX3_weighWhatIsToCome 17 = .ok (.getfield 31, 3) := by decide +kernel
theorem dX3_weighWhatIsToCome_20 : decode cX3_weighWhatIsToCome 20 = .ok (.if_icmp .ge 43, 3) := by decide +kernel
theorem dX3_weighWhatIsToCome_23 : decode cX3_weighWhatIsToCome 23 = .ok (.aload_n 0, 1) := by decide +kernel
theorem dX3_weighWhatIsToCome_24 : decode cX3_weighWhatIsToCome 24 = .ok (.iload_n 1, 1) := by decide +kernel
theorem dX3_weighWhatIsToCome_25 : decode cX3_weighWhatIsToCome 25 = .ok (.iload_n 2, 1) := by decide +kernel
theorem dX3_weighWhatIsToCome_26 : decode cX3_weighWhatIsToCome 26 = .ok (.invokevirtual 71, 3) := by decide +kernel
theorem dX3_weighWhatIsToCome_29 : decode cX3_weighWhatIsToCome 29 = .ok (.istore_n 3, 1) := by decide +kernel
theorem dX3_weighWhatIsToCome_30 : decode cX3_weighWhatIsToCome 30 = .ok (.aload_n 0, 1) := by decide +kernel
theorem dX3_weighWhatIsToCome_31 : decode cX3_weighWhatIsToCome 31 = .ok (.getfield 39, 3) := by decide +kernel
theorem dX3_weighWhatIsToCome_34 : decode cX3_weighWhatIsToCome 34 = .ok (.iload_n 1, 1) := by decide +kernel
theorem dX3_weighWhatIsToCome_35 : decode cX3_weighWhatIsToCome 35 = .ok (.aaload, 1) := by decide +kernel
theorem dX3_weighWhatIsToCome_36 : decode cX3_weighWhatIsToCome 36 = .ok (.iload_n 2, 1) := by decide +kernel
theorem dX3_weighWhatIsToCome_37 : decode cX3_weighWhatIsToCome 37 = .ok (.aload_n 0, 1) := by decide +kernel
theorem dX3_weighWhatIsToCome_38 : decode cX3_weighWhatIsToCome 38 = .ok (.iload_n 3, 1) := by decide +kernel
theorem dX3_weighWhatIsToCome_39 : decode cX3_weighWhatIsToCome 39 = .ok (.invokevirtual 55, 3) := by decide +kernel
theorem dX3_weighWhatIsToCome_42 : decode cX3_weighWhatIsToCome 42 = .ok (.ifCond .eq 13, 3) := by decide +kernel
theorem dX3_weighWhatIsToCome_45 : decode cX3_weighWhatIsToCome 45 = .ok (.aload_n 0, 1) := by decide +kernel
theorem dX3_weighWhatIsToCome_46 : decode cX3_weighWhatIsToCome 46 = .ok (.iload_n 1, 1) := by decide +kernel
theorem dX3_weighWhatIsToCome_47 : decode cX3_weighWhatIsToCome 47 = .ok (.iload_n 2, 1) := by decide +kernel
theorem dX3_weighWhatIsToCome_48 : decode cX3_weighWhatIsToCome 48 = .ok (.iload_n 3, 1) := by decide +kernel
theorem dX3_weighWhatIsToCome_49 : decode cX3_weighWhatIsToCome 49 = .ok (.invokevirtual 75, 3) := by decide +kernel
theorem dX3_weighWhatIsToCome_52 : decode cX3_weighWhatIsToCome 52 = .ok (.goto 4, 3) := by decide +kernel
theorem dX3_weighWhatIsToCome_55 : decode cX3_weighWhatIsToCome 55 = .ok (.iconst 0, 1) := by decide +kernel
theorem dX3_weighWhatIsToCome_56 : decode cX3_weighWhatIsToCome 56 = .ok (.iastore, 1) := by decide +kernel
theorem dX3_weighWhatIsToCome_57 : decode cX3_weighWhatIsToCome 57 = .ok (.iinc 2 1, 3) := by decide +kernel
theorem dX3_weighWhatIsToCome_60 : decode cX3_weighWhatIsToCome 60 = .ok (.goto (-45), 3) := by decide +kernel
theorem dX3_weighWhatIsToCome_63 : decode cX3_weighWhatIsToCome 63 = .ok (.iinc 1 (-1), 3) := by decide +kernel
theorem dX3_weighWhatIsToCome_66 : decode cX3_weighWhatIsToCome 66 = .ok (.goto (-57), 3) := by decide +kernel
theorem dX3_weighWhatIsToCome_69 : decode cX3_weighWhatIsToCome 69 = .ok (.return_, 1) := by decide +kernel
theorem dX3_bestNext_0 : decode cX3_bestNext 0 = .ok (.bipush (-9), 2) := by decide +kernel
theorem dX3_bestNext_2 : decode cX3_bestNext 2 = .ok (.istore_n 3, 1) := by decide +kernel
theorem dX3_bestNext_3 : decode cX3_bestNext 3 = .ok (.iconst 0, 1) := by decide +kernel
theorem dX3_bestNext_4 : decode cX3_bestNext 4 = .ok (.istore 4, 2) := by decide +kernel
theorem dX3_bestNext_6 : decode cX3_bestNext 6 = .ok (.iconst 0, 1) := by decide +kernel
theorem dX3_bestNext_7 : decode cX3_bestNext 7 = .ok (.istore 5, 2) := by decide +kernel
theorem dX3_bestNext_9 : decode cX3_bestNext 9 = .ok (.iload 5, 2) := by decide +kernel
theorem dX3_bestNext_11 : decode cX3_bestNext 11 = .ok (.aload_n 0, 1) := by decide +kernel
theorem dX3_bestNext_12 : decode cX3_bestNext 12 = .ok (.getfield 31, 3) := by decide +kernel
theorem dX3_bestNext_15 : decode cX3_bestNext 15 = .ok (.if_icmp .ge 48, 3) := by decide +kernel
theorem dX3_bestNext_18 : decode cX3_bestNext 18 = .ok (.iload_n 1, 1) := by decide +kernel
theorem dX3_bestNext_19 : decode cX3_bestNext 19 = .ok (.iload 5, 2) := by decide +kernel
theorem dX3_bestNext_21 : decode cX3_bestNext 21 = .ok (.invokestatic 58, 3) := by decide +kernel
theorem dX3_bestNext_24 : decode cX3_bestNext 24 = .ok (.ifCond .ne 33, 3) := by decide +kernel
theorem dX3_bestNext_27 : decode cX3_bestNext 27 = .ok (.aload_n 0, 1) := by decide +kernel
theorem dX3_bestNext_28 : decode cX3_bestNext 28 = .ok (.iload_n 1, 1) := by decide +kernel
theorem dX3_bestNext_29 : decode cX3_bestNext 29 = .ok (.iload_n 2, 1) := by decide +kernel
theorem dX3_bestNext_30 : decode cX3_bestNext 30 = .ok (.iload 5, 2) := by decide +kernel
theorem dX3_bestNext_32 : decode cX3_bestNext 32 = .ok (.invokevirtual 75, 3) := by decide +kernel
theorem dX3_bestNext_35 : decode cX3_bestNext 35 = .ok (.istore 6, 2) := by decide +kernel
theorem dX3_bestNext_37 : decode cX3_bestNext 37 = .ok (.iload_n 3, 1) := by decide +kernel
theorem dX3_bestNext_38 : decode cX3_bestNext 38 = .ok (.bipush (-9), 2) := by decide +kernel
theorem dX3_bestNext_40 : decode cX3_bestNext 40 = .ok (.if_icmp .eq 10, 3) := by decide +kernel
theorem dX3_bestNext_43 : decode cX3_bestNext 43 = .ok (.iload 6, 2) := by decide +kernel
theorem dX3_bestNext_45 : decode cX3_bestNext 45 = .ok (.iload 4, 2) := by decide +kernel
theorem dX3_bestNext_47 : decode cX3_bestNext 47 = .ok (.if_icmp .ge 10, 3) := by decide +kernel
theorem dX3_bestNext_50 : decode cX3_bestNext 50 = .ok (.iload 5, 2) := by decide +kernel
theorem dX3_bestNext_52 : decode cX3_bestNext 52 = .ok (.istore_n 3, 1) := by decide +kernel
theorem dX3_bestNext_53 : decode cX3_bestNext 53 = .ok (.iload 6, 2) := by decide +kernel
theorem dX3_bestNext_55 : decode cX3_bestNext 55 = .ok (.istore 4, 2) := by decide +kernel
theorem dX3_bestNext_57 : decode cX3_bestNext 57 = .ok (.iinc 5 1, 3) := by decide +kernel
theorem dX3_bestNext_60 : decode cX3_bestNext 60 = .ok (.goto (-51), 3) := by decide +kernel
theorem dX3_bestNext_63 : decode cX3_bestNext 63 = .ok (.iload_n 3, 1) := by decide +kernel
theorem dX3_bestNext_64 : decode cX3_bestNext 64 = .ok (.ireturn, 1) := by decide +kernel
theorem dX3_quarrelBy_0 : decode cX3_quarrelBy 0 = .ok (.aload_n 0, 1) := by decide +kernel
theorem dX3_quarrelBy_1 : decode cX3_quarrelBy 1 = .ok (.iload_n 2, 1) := by decide +kernel
theorem dX3_quarrelBy_2 : decode cX3_quarrelBy 2 = .ok (.invokevirtual 55, 3) := by decide +kernel
theorem dX3_quarrelBy_5 : decode cX3_quarrelBy 5 = .ok (.ifCond .eq 27, 3) := by decide +kernel
theorem dX3_quarrelBy_8 : decode cX3_quarrelBy 8 = .ok (.aload_n 0, 1) := by decide +kernel
theorem dX3_quarrelBy_9 : decode cX3_quarrelBy 9 = .ok (.aload_n 0, 1) := by decide +kernel
theorem dX3_quarrelBy_10 : decode cX3_quarrelBy 10 = .ok (.iload_n 1, 1) := by decide +kernel
theorem dX3_quarrelBy_11 : decode cX3_quarrelBy 11 = .ok (.invokevirtual 78, 3) := by decide +kernel
theorem dX3_quarrelBy_14 : decode cX3_quarrelBy 14 = .ok (.aload_n 0, 1) := by decide +kernel
theorem dX3_quarrelBy_15 : decode cX3_quarrelBy 15 = .ok (.getfield 21, 3) := by decide +kernel
theorem dX3_quarrelBy_18 : decode cX3_quarrelBy 18 = .ok (.iload_n 2, 1) := by decide +kernel
theorem dX3_quarrelBy_19 : decode cX3_quarrelBy 19 = .ok (.iaload, 1) := by decide +kernel
theorem dX3_quarrelBy_20 : decode cX3_quarrelBy 20 = .ok (.aload_n 0, 1) := by decide +kernel
theorem dX3_quarrelBy_21 : decode cX3_quarrelBy 21 = .ok (.getfield 21, 3) := by decide +kernel
theorem dX3_quarrelBy_24 : decode cX3_quarrelBy 24 = .ok (.iload_n 3, 1) := by decide +kernel
theorem dX3_quarrelBy_25 : decode cX3_quarrelBy 25 = .ok (.iaload, 1) := by decide +kernel
theorem dX3_quarrelBy_26 : decode cX3_quarrelBy 26 = .ok (.invokevirtual 51, 3) := by decide +kernel
theorem dX3_quarrelBy_29 : decode cX3_quarrelBy 29 = .ok (.goto 4, 3) := by decide +kernel
theorem dX3_quarrelBy_32 : decode cX3_quarrelBy 32 = .ok (.iconst 0, 1) := by decide +kernel
theorem dX3_quarrelBy_33 : decode cX3_quarrelBy 33 = .ok (.istore 4, 2) := by decide +kernel
theorem dX3_quarrelBy_35 : decode cX3_quarrelBy 35 = .ok (.iload 4, 2) := by decide +kernel
theorem dX3_quarrelBy_37 : decode cX3_quarrelBy 37 = .ok (.aload_n 0, 1) := by decide +kernel
theorem dX3_quarrelBy_38 : decode cX3_quarrelBy 38 = .ok (.getfield 39, 3) := by decide +kernel
theorem dX3_quarrelBy_41 : decode cX3_quarrelBy 41 = .ok (.iload_n 1, 1) := by decide +kernel
theorem dX3_quarrelBy_42 : decode cX3_quarrelBy 42 = .ok (.iconst 1, 1) := by decide +kernel
theorem dX3_quarrelBy_43 : decode cX3_quarrelBy 43 = .ok (.iload_n 3, 1) := by decide +kernel
theorem dX3_quarrelBy_44 : decode cX3_quarrelBy 44 = .ok (.ishl, 1) := by decide +kernel
theorem dX3_quarrelBy_45 : decode cX3_quarrelBy 45 = .ok (.ior, 1) := by decide +kernel
theorem dX3_quarrelBy_46 : decode cX3_quarrelBy 46 = .ok (.aaload, 1) := by decide +kernel
theorem dX3_quarrelBy_47 : decode cX3_quarrelBy 47 = .ok (.iload_n 3, 1) := by decide +kernel
theorem dX3_quarrelBy_48 : decode cX3_quarrelBy 48 = .ok (.iaload, 1) := by decide +kernel
theorem dX3_quarrelBy_49 : decode cX3_quarrelBy 49 = .ok (.iadd, 1) := by decide +kernel
theorem dX3_quarrelBy_50 : decode cX3_quarrelBy 50 = .ok (.ireturn, 1) := by decide +kernel
theorem dX3_linesOf_0 : decode cX3_linesOf 0 = .ok (.iconst 0, 1) := by decide +kernel
theorem dX3_linesOf_1 : decode cX3_linesOf 1 = .ok (.istore_n 2, 1) := by decide +kernel
theorem dX3_linesOf_2 : decode cX3_linesOf 2 = .ok (.iconst 0, 1) := by decide +kernel
theorem dX3_linesOf_3 : decode cX3_linesOf 3 = .ok (.istore_n 3, 1) := by decide +kernel
theorem dX3_linesOf_4 : decode cX3_linesOf 4 = .ok (.iload_n 3, 1) := by decide +kernel
theorem dX3_linesOf_5 : decode cX3_linesOf 5 = .ok (.aload_n 0, 1) := by decide +kernel
theorem dX3_linesOf_6 : decode cX3_linesOf 6 = .ok (.getfield 31, 3) := by decide +kernel
theorem dX3_linesOf_9 : decode cX3_linesOf 9 = .ok (.if_icmp .ge 26, 3) := by decide +kernel
theorem dX3_linesOf_12 : decode cX3_linesOf 12 = .ok (.iload_n 1, 1) := by decide +kernel
theorem dX3_linesOf_13 : decode cX3_linesOf 13 = .ok (.iload_n 3, 1) := by decide +kernel
theorem dX3_linesOf_14 : decode cX3_linesOf 14 = .ok (.invokestatic 58, 3) := by decide +kernel
theorem dX3_linesOf_17 : decode cX3_linesOf 17 = .ok (.ifCond .eq 12, 3) := by decide +kernel
theorem dX3_linesOf_20 : decode cX3_linesOf 20 = .ok (.iload_n 2, 1) := by decide +kernel
theorem dX3_linesOf_21 : decode cX3_linesOf 21 = .ok (.aload_n 0, 1) := by decide +kernel
theorem dX3_linesOf_22 : decode cX3_linesOf 22 = .ok (.getfield 21, 3) := by decide +kernel
theorem dX3_linesOf_25 : decode cX3_linesOf 25 = .ok (.iload_n 3, 1) := by decide +kernel
theorem dX3_linesOf_26 : decode cX3_linesOf 26 = .ok (.iaload, 1) := by decide +kernel
theorem dX3_linesOf_27 : decode cX3_linesOf 27 = .ok (.ior, 1) := by decide +kernel
theorem dX3_linesOf_28 : decode cX3_linesOf 28 = .ok (.istore_n 2, 1) := by decide +kernel
theorem dX3_linesOf_29 : decode cX3_linesOf 29 = .ok (.iinc 3 1, 3) := by decide +kernel
theorem dX3_linesOf_32 : decode cX3_linesOf 32 = .ok (.goto (-28), 3) := by decide +kernel
theorem dX3_linesOf_35 : decode cX3_linesOf 35 = .ok (.iload_n 2, 1) := by decide +kernel
theorem dX3_linesOf_36 : decode cX3_linesOf 36 = .ok (.ireturn, 1) := by decide +kernel
theorem dX4_init_0 : decode cX4_init 0 = .ok (.aload_n 0, 1) := by decide +kernel
theorem dX4_init_1 : decode cX4_init 1 = .ok (.invokespecial 3, 3) := by decide +kernel
theorem dX4_init_4 : decode cX4_init 4 = .ok (.aload_n 0, 1) := by decide +kernel
theorem dX4_init_5 : decode cX4_init 5 = .ok (.sipush 1500, 3) := by decide +kernel
theorem dX4_init_8 : decode cX4_init 8 = .ok (.putfield 9, 3) := by decide +kernel
theorem dX4_init_11 : decode cX4_init 11 = .ok (.aload_n 0, 1) := by decide +kernel
theorem dX4_init_12 : decode cX4_init 12 = .ok (.sipush 1900, 3) := by decide +kernel
theorem dX4_init_15 : decode cX4_init 15 = .ok (.putfield 15, 3) := by decide +kernel
theorem dX4_init_18 : decode cX4_init 18 = .ok (.return_, 1) := by decide +kernel
theorem dX4_put_0 : decode cX4_put 0 = .ok (.aload_n 0, 1) := by decide +kernel
theorem dX4_put_1 : decode cX4_put 1 = .ok (.iload_n 1, 1) := by decide +kernel
theorem dX4_put_2 : decode cX4_put 2 = .ok (.putfield 9, 3) := by decide +kernel
theorem dX4_put_5 : decode cX4_put 5 = .ok (.aload_n 0, 1) := by decide +kernel
theorem dX4_put_6 : decode cX4_put 6 = .ok (.iload_n 2, 1) := by decide +kernel
theorem dX4_put_7 : decode cX4_put 7 = .ok (.putfield 15, 3) := by decide +kernel
theorem dX4_put_10 : decode cX4_put 10 = .ok (.return_, 1) := by decide +kernel
theorem dX5_init_0 : decode cX5_init 0 = .ok (.aload_n 0, 1) := by decide +kernel
theorem dX5_init_1 : decode cX5_init 1 = .ok (.invokespecial 1, 3) := by decide +kernel
theorem dX5_init_4 : decode cX5_init 4 = .ok (.aload_n 0, 1) := by decide +kernel
theorem dX5_init_5 : decode cX5_init 5 = .ok (.new 7, 3) := by decide +kernel
theorem dX5_init_8 : decode cX5_init 8 = .ok (.dup, 1) := by decide +kernel
theorem dX5_init_9 : decode cX5_init 9 = .ok (.invokespecial 9, 3) := by decide +kernel
theorem dX5_init_12 : decode cX5_init 12 = .ok (.putfield 10, 3) := by decide +kernel
theorem dX5_init_15 : decode cX5_init 15 = .ok (.aload_n 0, 1) := by decide +kernel
theorem dX5_init_16 : decode cX5_init 16 = .ok (.new 16, 3) := by decide +kernel
theorem dX5_init_19 : decode cX5_init 19 = .ok (.dup, 1) := by decide +kernel
theorem dX5_init_20 : decode cX5_init 20 = .ok (.invokespecial 18, 3) := by decide +kernel
theorem dX5_init_23 : decode cX5_init 23 = .ok (.putfield 19, 3) := by decide +kernel
theorem dX5_init_26 : decode cX5_init 26 = .ok (.aload_n 0, 1) := by decide +kernel
theorem dX5_init_27 : decode cX5_init 27 = .ok (.bipush 20, 2) := by decide +kernel
theorem dX5_init_29 : decode cX5_init 29 = .ok (.anewarray 23, 3) := by decide +kernel
theorem dX5_init_32 : decode cX5_init 32 = .ok (.putfield 25, 3) := by decide +kernel
theorem dX5_init_35 : decode cX5_init 35 = .ok (.aload_n 0, 1) := by decide +kernel
theorem dX5_init_36 : decode cX5_init 36 = .ok (.iconst 0, 1) := by decide +kernel
theorem dX5_init_37 : decode cX5_init 37 = .ok (.putfield 29, 3) := by decide +kernel
theorem dX5_init_40 : decode cX5_init 40 = .ok (.aload_n 0, 1) := by decide +kernel
theorem dX5_init_41 : decode cX5_init 41 = .ok (.bipush 8, 2) := by decide +kernel
theorem dX5_init_43 : decode cX5_init 43 = .ok (.anewarray 33, 3) := by decide +kernel
theorem dX5_init_46 : decode cX5_init 46 = .ok (.putfield 35, 3) := by decide +kernel
theorem dX5_init_49 : decode cX5_init 49 = .ok (.aload_n 0, 1) := by decide +kernel
theorem dX5_init_50 : decode cX5_init 50 = .ok (.iconst 0, 1) := by decide +kernel
theorem dX5_init_51 : decode cX5_init 51 = .ok (.putfield 39, 3) := by decide +kernel
theorem dX5_init_54 : decode cX5_init 54 = .ok (.aload_n 0, 1) := by decide +kernel
theorem dX5_init_55 : decode cX5_init 55 = .ok (.iconst 4, 1) := by decide +kernel
theorem dX5_init_56 : decode cX5_init 56 = .ok (.anewarray 42, 3) := by decide +kernel
theorem dX5_init_59 : decode cX5_init 59 = .ok (.putfield 44, 3) := by decide +kernel
theorem dX5_init_62 : decode cX5_init 62 = .ok (.aload_n 0, 1) := by decide +kernel
theorem dX5_init_63 : decode cX5_init 63 = .ok (.lconst 0, 1) := by decide +kernel
theorem dX5_init_64 : decode cX5_init 64 = .ok (.putfield 48, 3) := by decide +kernel
theorem dX5_init_67 : decode cX5_init 67 = .ok (.iconst 0, 1) := by decide +kernel
theorem dX5_init_68 : decode cX5_init 68 = .ok (.istore_n 1, 1) := by decide +kernel
theorem dX5_init_69 : decode cX5_init 69 = .ok (.iload_n 1, 1) := by decide +kernel
theorem dX5_init_70 : decode cX5_init 70 = .ok (.bipush 20, 2) := by decide +kernel
theorem dX5_init_72 : decode cX5_init 72 = .ok (.if_icmp .ge 22, 3) := by decide +kernel
theorem dX5_init_75 : decode cX5_init 75 = .ok (.aload_n 0, 1) := by decide +kernel
theorem dX5_init_76 : decode cX5_init 76 = .ok (.getfield 25, 3) := by decide +kernel
theorem dX5_init_79 : decode cX5_init 79 = .ok (.iload_n 1, 1) := by decide +kernel
theorem dX5_init_80 : decode cX5_init 80 = .ok (.new 23, 3) := by decide +kernel
theorem dX5_init_83 : decode cX5_init 83 = .ok (.dup, 1) := by decide +kernel
theorem dX5_init_84 : decode cX5_init 84 = .ok (.invokespecial 52, 3) := by decide +kernel
theorem dX5_init_87 : decode cX5_init 87 = .ok (.aastore, 1) := by decide +kernel
theorem dX5_init_88 : decode cX5_init 88 = .ok (.iinc 1 1, 3) := by decide +kernel
theorem dX5_init_91 : decode cX5_init 91 = .ok (.goto (-22), 3) := by decide +kernel
theorem dX5_init_94 : decode cX5_init 94 = .ok (.iconst 0, 1) := by decide +kernel
theorem dX5_init_95 : decode cX5_init 95 = .ok (.istore_n 1, 1) := by decide +kernel
theorem dX5_init_96 : decode cX5_init 96 = .ok (.iload_n 1, 1) := by decide +kernel
theorem dX5_init_97 : decode cX5_init 97 = .ok (.bipush 8, 2) := by decide +kernel
theorem dX5_init_99 : decode cX5_init 99 = .ok (.if_icmp .ge 22, 3) := by decide +kernel
theorem dX5_init_102 : decode cX5_init 102 = .ok (.aload_n 0, 1) := by decide +kernel
theorem dX5_init_103 : decode cX5_init 103 = .ok (.getfield 35, 3) := by decide +kernel
theorem dX5_init_106 : decode cX5_init 106 = .ok (.iload_n 1, 1) := by decide +kernel
theorem dX5_init_107 : decode cX5_init 107 = .ok (.new 33, 3) := by decide +kernel
theorem dX5_init_110 : decode cX5_init 110 = .ok (.dup, 1) := by decide +kernel
theorem dX5_init_111 : decode cX5_init 111 = .ok (.invokespecial 53, 3) := by decide +kernel
theorem dX5_init_114 : decode cX5_init 114 = .ok (.aastore, 1) := by decide +kernel
theorem dX5_init_115 : decode cX5_init 115 = .ok (.iinc 1 1, 3) := by decide +kernel
theorem dX5_init_118 : decode cX5_init 118 = .ok (.goto (-22), 3) := by decide +kernel
theorem dX5_init_121 : decode cX5_init 121 = .ok (.iconst 0, 1) := by decide +kernel
theorem dX5_init_122 : decode cX5_init 122 = .ok (.istore_n 1, 1) := by decide +kernel
theorem dX5_init_123 : decode cX5_init 123 = .ok (.iload_n 1, 1) := by decide +kernel
theorem dX5_init_124 : decode cX5_init 124 = .ok (.iconst 4, 1) := by decide +kernel
theorem dX5_init_125 : decode cX5_init 125 = .ok (.if_icmp .ge 22, 3) := by decide +kernel
theorem dX5_init_128 : decode cX5_init 128 = .ok (.aload_n 0, 1) := by decide +kernel
theorem dX5_init_129 : decode cX5_init 129 = .ok (.getfield 44, 3) := by decide +kernel
theorem dX5_init_132 : decode cX5_init 132 = .ok (.iload_n 1, 1) := by decide +kernel
theorem dX5_init_133 : decode cX5_init 133 = .ok (.new 42, 3) := by decide +kernel
theorem dX5_init_136 : decode cX5_init 136 = .ok (.dup, 1) := by decide +kernel
theorem dX5_init_137 : decode cX5_init 137 = .ok (.invokespecial 54, 3) := by decide +kernel
theorem dX5_init_140 : decode cX5_init 140 = .ok (.aastore, 1) := by decide +kernel
theorem dX5_init_141 : decode cX5_init 141 = .ok (.iinc 1 1, 3) := by decide +kernel
theorem dX5_init_144 : decode cX5_init 144 = .ok (.goto (-21), 3) := by decide +kernel
theorem dX5_init_147 : decode cX5_init 147 = .ok (.return_, 1) := by decide +kernel
theorem dX5_state_0 : decode cX5_state 0 = .ok (.iload_n 1, 1) := by decide +kernel
theorem dX5_state_1 : decode cX5_state 1 = .ok (.invokestatic 55, 3) := by decide +kernel
theorem dX5_state_4 : decode cX5_state 4 = .ok (.ifCond .eq 11, 3) := by decide +kernel
theorem dX5_state_7 : decode cX5_state 7 = .ok (.iload_n 2, 1) := by decide +kernel
theorem dX5_state_8 : decode cX5_state 8 = .ok (.iload_n 3, 1) := by decide +kernel
theorem dX5_state_9 : decode cX5_state 9 = .ok (.invokestatic 59, 3) := by decide +kernel
theorem dX5_state_12 : decode cX5_state 12 = .ok (.ifCond .ne 5, 3) := by decide +kernel
theorem dX5_state_15 : decode cX5_state 15 = .ok (.iconst (-1), 1) := by decide +kernel
theorem dX5_state_16 : decode cX5_state 16 = .ok (.ireturn, 1) := by decide +kernel
theorem dX5_state_17 : decode cX5_state 17 = .ok (.aload_n 0, 1) := by decide +kernel
theorem dX5_state_18 : decode cX5_state 18 = .ok (.getfield 10, 3) := by decide +kernel
theorem dX5_state_21 : decode cX5_state 21 = .ok (.iload_n 1, 1) := by decide +kernel
theorem dX5_state_22 : decode cX5_state 22 = .ok (.iload_n 2, 1) := by decide +kernel
theorem dX5_state_23 : decode cX5_state 23 = .ok (.iload_n 3, 1) := by decide +kernel
theorem dX5_state_24 : decode cX5_state 24 = .ok (.invokevirtual 63, 3) := by decide +kernel
theorem dX5_state_27 : decode cX5_state 27 = .ok (.ireturn, 1) := by decide +kernel
theorem dX5_about_0 : decode cX5_about 0 = .ok (.aload_n 0, 1) := by decide +kernel
theorem dX5_about_1 : decode cX5_about 1 = .ok (.getfield 10, 3) := by decide +kernel
theorem dX5_about_4 : decode cX5_about 4 = .ok (.iload_n 1, 1) := by decide +kernel
theorem dX5_about_5 : decode cX5_about 5 = .ok (.invokevirtual 67, 3) := by decide +kernel
theorem dX5_about_8 : decode cX5_about 8 = .ok (.ifCond .ne 5, 3) := by decide +kernel
theorem dX5_about_11 : decode cX5_about 11 = .ok (.iconst (-1), 1) := by decide +kernel
theorem dX5_about_12 : decode cX5_about 12 = .ok (.ireturn, 1) := by decide +kernel
theorem dX5_about_13 : decode cX5_about 13 = .ok (.iload_n 2, 1) := by decide +kernel
theorem dX5_about_14 : decode cX5_about 14 = .ok (.tableswitch 62 0 2 #[26, 36, 49], 26) := by decide +kernel
theorem dX5_about_40 : decode cX5_about 40 = .ok (.aload_n 0, 1) := by decide +kernel
theorem dX5_about_41 : decode cX5_about 41 = .ok (.getfield 10, 3) := by decide +kernel
theorem dX5_about_44 : decode cX5_about 44 = .ok (.getfield 70, 3) := by decide +kernel
theorem dX5_about_47 : decode cX5_about 47 = .ok (.iload_n 1, 1) := by decide +kernel
theorem dX5_about_48 : decode cX5_about 48 = .ok (.iaload, 1) := by decide +kernel
theorem dX5_about_49 : decode cX5_about 49 = .ok (.ireturn, 1) := by decide +kernel
theorem dX5_about_50 : decode cX5_about 50 = .ok (.aload_n 0, 1) := by decide +kernel
theorem dX5_about_51 : decode cX5_about 51 = .ok (.getfield 10, 3) := by decide +kernel
theorem dX5_about_54 : decode cX5_about 54 = .ok (.getfield 74, 3) := by decide +kernel
theorem dX5_about_57 : decode cX5_about 57 = .ok (.iload_n 1, 1) := by decide +kernel
theorem dX5_about_58 : decode cX5_about 58 = .ok (.aaload, 1) := by decide +kernel
theorem dX5_about_59 : decode cX5_about 59 = .ok (.getfield 77, 3) := by decide +kernel
theorem dX5_about_62 : decode cX5_about 62 = .ok (.ireturn, 1) := by decide +kernel
theorem dX5_about_63 : decode cX5_about 63 = .ok (.aload_n 0, 1) := by decide +kernel
theorem dX5_about_64 : decode cX5_about 64 = .ok (.getfield 10, 3) := by decide +kernel
theorem dX5_about_67 : decode cX5_about 67 = .ok (.getfield 74, 3) := by decide +kernel
theorem dX5_about_70 : decode cX5_about 70 = .ok (.iload_n 1, 1) := by decide +kernel
theorem dX5_about_71 : decode cX5_about 71 = .ok (.aaload, 1) := by decide +kernel
theorem dX5_about_72 : decode cX5_about 72 = .ok (.getfield 80, 3) := by decide +kernel
theorem dX5_about_75 : decode cX5_about 75 = .ok (.ireturn, 1) := by decide +kernel
theorem dX5_about_76 : decode cX5_about 76 = .ok (.iconst (-1), 1) := by decide +kernel
theorem dX5_about_77 : decode cX5_about 77 = .ok (.ireturn, 1) := by decide +kernel
theorem dX5_set_0 : decode cX5_set 0 = .ok (.iload_n 2, 1) := by decide +kernel
theorem dX5_set_1 : decode cX5_set 1 = .ok (.ifCond .lt 11, 3) := by decide +kernel
theorem dX5_set_4 : decode cX5_set 4 = .ok (.iload_n 2, 1) := by decide +kernel
theorem dX5_set_5 : decode cX5_set 5 = .ok (.iload_n 1, 1) := by decide +kernel
theorem dX5_set_6 : decode cX5_set 6 = .ok (.invokestatic 83, 3) := by decide +kernel
theorem dX5_set_9 : decode cX5_set 9 = .ok (.if_icmp .le 5, 3) := by decide +kernel
theorem dX5_set_12 : decode cX5_set 12 = .ok (.iconst (-1), 1) := by decide +kernel
theorem dX5_set_13 : decode cX5_set 13 = .ok (.ireturn, 1) := by decide +kernel
theorem dX5_set_14 : decode cX5_set 14 = .ok (.aload_n 0, 1) := by decide +kernel
theorem dX5_set_15 : decode cX5_set 15 = .ok (.iload_n 1, 1) := by decide +kernel
theorem dX5_set_16 : decode cX5_set 16 = .ok (.invokevirtual 87, 3) := by decide +kernel
theorem dX5_set_19 : decode cX5_set 19 = .ok (.istore_n 3, 1) := by decide +kernel
theorem dX5_set_20 : decode cX5_set 20 = .ok (.aload_n 0, 1) := by decide +kernel
theorem dX5_set_21 : decode cX5_set 21 = .ok (.iload_n 1, 1) := by decide +kernel
theorem dX5_set_22 : decode cX5_set 22 = .ok (.iload_n 2, 1) := by decide +kernel
theorem dX5_set_23 : decode cX5_set 23 = .ok (.invokevirtual 90, 3) := by decide +kernel
theorem dX5_set_26 : decode cX5_set 26 = .ok (.iload_n 3, 1) := by decide +kernel
theorem dX5_set_27 : decode cX5_set 27 = .ok (.ireturn, 1) := by decide +kernel
theorem dX5_quarrel_0 : decode cX5_quarrel 0 = .ok (.aload_n 0, 1) := by decide +kernel
theorem dX5_quarrel_1 : decode cX5_quarrel 1 = .ok (.getfield 10, 3) := by decide +kernel
theorem dX5_quarrel_4 : decode cX5_quarrel 4 = .ok (.iload_n 1, 1) := by decide +kernel
theorem dX5_quarrel_5 : decode cX5_quarrel 5 = .ok (.invokevirtual 94, 3) := by decide +kernel
theorem dX5_quarrel_8 : decode cX5_quarrel 8 = .ok (.ireturn, 1) := by decide +kernel
theorem dX5_best_0 : decode cX5_best 0 = .ok (.iload_n 1, 1) := by decide +kernel
theorem dX5_best_1 : decode cX5_best 1 = .ok (.invokestatic 97, 3) := by decide +kernel
theorem dX5_best_4 : decode cX5_best 4 = .ok (.ifCond .ne 5, 3) := by decide +kernel
theorem dX5_best_7 : decode cX5_best 7 = .ok (.iconst (-1), 1) := by decide +kernel
theorem dX5_best_8 : decode cX5_best 8 = .ok (.ireturn, 1) := by decide +kernel
theorem dX5_best_9 : decode cX5_best 9 = .ok (.aload_n 0, 1) := by decide +kernel
theorem dX5_best_10 : decode cX5_best 10 = .ok (.getfield 10, 3) := by decide +kernel
theorem dX5_best_13 : decode cX5_best 13 = .ok (.getfield 100, 3) := by decide +kernel
theorem dX5_best_16 : decode cX5_best 16 = .ok (.ifCond .ne 6, 3) := by decide +kernel
theorem dX5_best_19 : decode cX5_best 19 = .ok (.bipush (-2), 2) := by decide +kernel
theorem dX5_best_21 : decode cX5_best 21 = .ok (.ireturn, 1) := by decide +kernel
theorem dX5_best_22 : decode cX5_best 22 = .ok (.aload_n 0, 1) := by decide +kernel
theorem dX5_best_23 : decode cX5_best 23 = .ok (.getfield 10, 3) := by decide +kernel
theorem dX5_best_26 : decode cX5_best 26 = .ok (.invokevirtual 103, 3) := by decide +kernel
theorem dX5_best_29 : decode cX5_best 29 = .ok (.istore_n 2, 1) := by decide +kernel
theorem dX5_best_30 : decode cX5_best 30 = .ok (.iload_n 1, 1) := by decide +kernel
theorem dX5_best_31 : decode cX5_best 31 = .ok (.ifCond .ne 7, 3) := by decide +kernel
theorem dX5_best_34 : decode cX5_best 34 = .ok (.iload_n 2, 1) := by decide +kernel
theorem dX5_best_35 : decode cX5_best 35 = .ok (.goto 11, 3) := by decide +kernel
theorem dX5_best_38 : decode cX5_best 38 = .ok (.aload_n 0, 1) := by decide +kernel
theorem dX5_best_39 : decode cX5_best 39 = .ok (.getfield 10, 3) := by decide +kernel
theorem dX5_best_42 : decode cX5_best 42 = .ok (.iload_n 2, 1) := by decide +kernel
theorem dX5_best_43 : decode cX5_best 43 = .ok (.invokevirtual 94, 3) := by decide +kernel
theorem dX5_best_46 : decode cX5_best 46 = .ok (.ireturn, 1) := by decide +kernel
theorem dX5_leaf_0 : decode cX5_leaf 0 = .ok (.iload_n 1, 1) := by decide +kernel
theorem dX5_leaf_1 : decode cX5_leaf 1 = .ok (.invokestatic 55, 3) := by decide +kernel
theorem dX5_leaf_4 : decode cX5_leaf 4 = .ok (.ifCond .eq 16, 3) := by decide +kernel
theorem dX5_leaf_7 : decode cX5_leaf 7 = .ok (.iload_n 2, 1) := by decide +kernel
theorem dX5_leaf_8 : decode cX5_leaf 8 = .ok (.invokestatic 55, 3) := by decide +kernel
theorem dX5_leaf_11 : decode cX5_leaf 11 = .ok (.ifCond .eq 9, 3) := by decide +kernel
theorem dX5_leaf_14 : decode cX5_leaf 14 = .ok (.iload_n 1, 1) := by decide +kernel
theorem dX5_leaf_15 : decode cX5_leaf 15 = .ok (.iload_n 2, 1) := by decide +kernel
theorem dX5_leaf_16 : decode cX5_leaf 16 = .ok (.iand, 1) := by decide +kernel
theorem dX5_leaf_17 : decode cX5_leaf 17 = .ok (.ifCond .eq 5, 3) := by decide +kernel
theorem dX5_leaf_20 : decode cX5_leaf 20 = .ok (.iconst (-1), 1) := by decide +kernel
theorem dX5_leaf_21 : decode cX5_leaf 21 = .ok (.ireturn, 1) := by decide +kernel
theorem dX5_leaf_22 : decode cX5_leaf 22 = .ok (.iload_n 3, 1) := by decide +kernel
theorem dX5_leaf_23 : decode cX5_leaf 23 = .ok (.ifCond .lt 21, 3) := by decide +kernel
theorem dX5_leaf_26 : decode cX5_leaf 26 = .ok (.iload_n 3, 1) := by decide +kernel
theorem dX5_leaf_27 : decode cX5_leaf 27 = .ok (.sipush 1000, 3) := by decide +kernel
theorem dX5_leaf_30 : decode cX5_leaf 30 = .ok (.if_icmp .gt 14, 3) := by decide +kernel
theorem dX5_leaf_33 : decode cX5_leaf 33 = .ok (.iload 4, 2) := by decide +kernel
theorem dX5_leaf_35 : decode cX5_leaf 35 = .ok (.ifCond .lt 9, 3) := by decide +kernel
theorem dX5_leaf_38 : decode cX5_leaf 38 = .ok (.iload 4, 2) := by decide +kernel
theorem dX5_leaf_40 : decode cX5_leaf 40 = .ok (.iconst 3, 1) := by decide +kernel
theorem dX5_leaf_41 : decode cX5_leaf 41 = .ok (.if_icmp .lt 5, 3) := by decide +kernel
theorem dX5_leaf_44 : decode cX5_leaf 44 = .ok (.iconst (-1), 1) := by decide +kernel
theorem dX5_leaf_45 : decode cX5_leaf 45 = .ok (.ireturn, 1) := by decide +kernel
theorem dX5_leaf_46 : decode cX5_leaf 46 = .ok (.aload_n 0, 1) := by decide +kernel
theorem dX5_leaf_47 : decode cX5_leaf 47 = .ok (.getfield 29, 3) := by decide +kernel
theorem dX5_leaf_50 : decode cX5_leaf 50 = .ok (.bipush 20, 2) := by decide +kernel
theorem dX5_leaf_52 : decode cX5_leaf 52 = .ok (.if_icmp .lt 6, 3) := by decide +kernel
theorem dX5_leaf_55 : decode cX5_leaf 55 = .ok (.bipush (-3), 2) := by decide +kernel
theorem dX5_leaf_57 : decode cX5_leaf 57 = .ok (.ireturn, 1) := by decide +kernel
theorem dX5_leaf_58 : decode cX5_leaf 58 = .ok (.aload_n 0, 1) := by decide +kernel
theorem dX5_leaf_59 : decode cX5_leaf 59 = .ok (.getfield 25, 3) := by decide +kernel
theorem dX5_leaf_62 : decode cX5_leaf 62 = .ok (.aload_n 0, 1) := by decide +kernel
theorem dX5_leaf_63 : decode cX5_leaf 63 = .ok (.getfield 29, 3) := by decide +kernel
theorem dX5_leaf_66 : decode cX5_leaf 66 = .ok (.aaload, 1) := by decide +kernel
theorem dX5_leaf_67 : decode cX5_leaf 67 = .ok (.iload_n 1, 1) := by decide +kernel
theorem dX5_leaf_68 : decode cX5_leaf 68 = .ok (.iload_n 2, 1) := by decide +kernel
theorem dX5_leaf_69 : decode cX5_leaf 69 = .ok (.iload_n 3, 1) := by decide +kernel
theorem dX5_leaf_70 : decode cX5_leaf 70 = .ok (.iload 4, 2) := by decide +kernel
theorem dX5_leaf_72 : decode cX5_leaf 72 = .ok (.invokevirtual 107, 3) := by decide +kernel
theorem dX5_leaf_75 : decode cX5_leaf 75 = .ok (.aload_n 0, 1) := by decide +kernel
theorem dX5_leaf_76 : decode cX5_leaf 76 = .ok (.dup, 1) := by decide +kernel
theorem dX5_leaf_77 : decode cX5_leaf 77 = .ok (.getfield 29, 3) := by decide +kernel
theorem dX5_leaf_80 : decode cX5_leaf 80 = .ok (.dup_x1, 1) := by decide +kernel
theorem dX5_leaf_81 : decode cX5_leaf 81 = .ok (.iconst 1, 1) := by decide +kernel
theorem dX5_leaf_82 : decode cX5_leaf 82 = .ok (.iadd, 1) := by decide +kernel
theorem dX5_leaf_83 : decode cX5_leaf 83 = .ok (.putfield 29, 3) := by decide +kernel
theorem dX5_leaf_86 : decode cX5_leaf 86 = .ok (.ireturn, 1) := by decide +kernel
theorem dX5_see_0 : decode cX5_see 0 = .ok (.aload_n 0, 1) := by decide +kernel
theorem dX5_see_1 : decode cX5_see 1 = .ok (.iload_n 1, 1) := by decide +kernel
theorem dX5_see_2 : decode cX5_see 2 = .ok (.invokevirtual 111, 3) := by decide +kernel
theorem dX5_see_5 : decode cX5_see 5 = .ok (.ifCond .eq 19, 3) := by decide +kernel
theorem dX5_see_8 : decode cX5_see 8 = .ok (.iload_n 2, 1) := by decide +kernel
theorem dX5_see_9 : decode cX5_see 9 = .ok (.invokestatic 114, 3) := by decide +kernel
theorem dX5_see_12 : decode cX5_see 12 = .ok (.ifCond .eq 12, 3) := by decide +kernel
theorem dX5_see_15 : decode cX5_see 15 = .ok (.iload_n 3, 1) := by decide +kernel
theorem dX5_see_16 : decode cX5_see 16 = .ok (.ifCond .lt 8, 3) := by decide +kernel
theorem dX5_see_19 : decode cX5_see 19 = .ok (.iload_n 3, 1) := by decide +kernel
theorem dX5_see_20 : decode cX5_see 20 = .ok (.iconst 2, 1) := by decide +kernel
theorem dX5_see_21 : decode cX5_see 21 = .ok (.if_icmp .le 5, 3) := by decide +kernel
theorem dX5_see_24 : decode cX5_see 24 = .ok (.iconst (-1), 1) := by decide +kernel
theorem dX5_see_25 : decode cX5_see 25 = .ok (.ireturn, 1) := by decide +kernel
theorem dX5_see_26 : decode cX5_see 26 = .ok (.aload_n 0, 1) := by decide +kernel
theorem dX5_see_27 : decode cX5_see 27 = .ok (.getfield 25, 3) := by decide +kernel
theorem dX5_see_30 : decode cX5_see 30 = .ok (.iload_n 1, 1) := by decide +kernel
theorem dX5_see_31 : decode cX5_see 31 = .ok (.aaload, 1) := by decide +kernel
theorem dX5_see_32 : decode cX5_see 32 = .ok (.iload_n 2, 1) := by decide +kernel
theorem dX5_see_33 : decode cX5_see 33 = .ok (.invokevirtual 117, 3) := by decide +kernel
theorem dX5_see_36 : decode cX5_see 36 = .ok (.istore 4, 2) := by decide +kernel
theorem dX5_see_38 : decode cX5_see 38 = .ok (.aload_n 0, 1) := by decide +kernel
theorem dX5_see_39 : decode cX5_see 39 = .ok (.getfield 25, 3) := by decide +kernel
theorem dX5_see_42 : decode cX5_see 42 = .ok (.iload_n 1, 1) := by decide +kernel
theorem dX5_see_43 : decode cX5_see 43 = .ok (.aaload, 1) := by decide +kernel
theorem dX5_see_44 : decode cX5_see 44 = .ok (.iload_n 2, 1) := by decide +kernel
theorem dX5_see_45 : decode cX5_see 45 = .ok (.iload_n 3, 1) := by decide +kernel
theorem dX5_see_46 : decode cX5_see 46 = .ok (.invokevirtual 120, 3) := by decide +kernel
theorem dX5_see_49 : decode cX5_see 49 = .ok (.iload 4, 2) := by decide +kernel
theorem dX5_see_51 : decode cX5_see 51 = .ok (.ireturn, 1) := by decide +kernel
theorem dX5_candidates_0 : decode cX5_candidates 0 = .ok (.aload_n 0, 1) := by decide +kernel
theorem dX5_candidates_1 : decode cX5_candidates 1 = .ok (.iload_n 1, 1) := by decide +kernel
theorem dX5_candidates_2 : decode cX5_candidates 2 = .ok (.invokevirtual 111, 3) := by decide +kernel
theorem dX5_candidates_5 : decode cX5_candidates 5 = .ok (.ifCond .ne 5, 3) := by decide +kernel
theorem dX5_candidates_8 : decode cX5_candidates 8 = .ok (.iconst (-1), 1) := by decide +kernel
theorem dX5_candidates_9 : decode cX5_candidates 9 = .ok (.ireturn, 1) := by decide +kernel
theorem dX5_candidates_10 : decode cX5_candidates 10 = .ok (.aload_n 0, 1) := by decide +kernel
theorem dX5_candidates_11 : decode cX5_candidates 11 = .ok (.aload_n 0, 1) := by decide +kernel
theorem dX5_candidates_12 : decode cX5_candidates 12 = .ok (.getfield 25, 3) := by decide +kernel
theorem dX5_candidates_15 : decode cX5_candidates 15 = .ok (.iload_n 1, 1) := by decide +kernel
theorem dX5_candidates_16 : decode cX5_candidates 16 = .ok (.aaload, 1) := by decide +kernel
theorem dX5_candidates_17 : decode cX5_candidates 17 = .ok (.invokevirtual 123, 3) := by decide +kernel
theorem dX5_candidates_20 : decode cX5_candidates 20 = .ok (.ireturn, 1) := by decide +kernel
theorem dX5_mould_0 : decode cX5_mould 0 = .ok (.iload_n 1, 1) := by decide +kernel
theorem dX5_mould_1 : decode cX5_mould 1 = .ok (.iload_n 2, 1) := by decide +kernel
theorem dX5_mould_2 : decode cX5_mould 2 = .ok (.invokestatic 59, 3) := by decide +kernel
theorem dX5_mould_5 : decode cX5_mould 5 = .ok (.ifCond .ne 5, 3) := by decide +kernel
theorem dX5_mould_8 : decode cX5_mould 8 = .ok (.iconst (-1), 1) := by decide +kernel
theorem dX5_mould_9 : decode cX5_mould 9 = .ok (.ireturn, 1) := by decide +kernel
theorem dX5_mould_10 : decode cX5_mould 10 = .ok (.aload_n 0, 1) := by decide +kernel
theorem dX5_mould_11 : decode cX5_mould 11 = .ok (.getfield 39, 3) := by decide +kernel
theorem dX5_mould_14 : decode cX5_mould 14 = .ok (.bipush 8, 2) := by decide +kernel
theorem dX5_mould_16 : decode cX5_mould 16 = .ok (.if_icmp .lt 6, 3) := by decide +kernel
theorem dX5_mould_19 : decode cX5_mould 19 = .ok (.bipush (-3), 2) := by decide +kernel
theorem dX5_mould_21 : decode cX5_mould 21 = .ok (.ireturn, 1) := by decide +kernel
theorem dX5_mould_22 : decode cX5_mould 22 = .ok (.aload_n 0, 1) := by decide +kernel
theorem dX5_mould_23 : decode cX5_mould 23 = .ok (.getfield 35, 3) := by decide +kernel
theorem dX5_mould_26 : decode cX5_mould 26 = .ok (.aload_n 0, 1) := by decide +kernel
theorem dX5_mould_27 : decode cX5_mould 27 = .ok (.getfield 39, 3) := by decide +kernel
theorem dX5_mould_30 : decode cX5_mould 30 = .ok (.aaload, 1) := by decide +kernel
theorem dX5_mould_31 : decode cX5_mould 31 = .ok (.iload_n 1, 1) := by decide +kernel
theorem dX5_mould_32 : decode cX5_mould 32 = .ok (.iload_n 2, 1) := by decide +kernel
theorem dX5_mould_33 : decode cX5_mould 33 = .ok (.invokevirtual 127, 3) := by decide +kernel
theorem dX5_mould_36 : decode cX5_mould 36 = .ok (.aload_n 0, 1) := by decide +kernel
theorem dX5_mould_37 : decode cX5_mould 37 = .ok (.dup, 1) := by decide +kernel
theorem dX5_mould_38 : decode cX5_mould 38 = .ok (.getfield 39, 3) := by decide +kernel
theorem dX5_mould_41 : decode cX5_mould 41 = .ok (.dup_x1, 1) := by decide +kernel
theorem dX5_mould_42 : decode cX5_mould 42 = .ok (.iconst 1, 1) := by decide +kernel
theorem dX5_mould_43 : decode cX5_mould 43 = .ok (.iadd, 1) := by decide +kernel
theorem dX5_mould_44 : decode cX5_mould 44 = .ok (.putfield 39, 3) := by decide +kernel
theorem dX5_mould_47 : decode cX5_mould 47 = .ok (.ireturn, 1) := by decide +kernel
theorem dX5_paper_0 : decode cX5_paper 0 = .ok (.aload_n 0, 1) := by decide +kernel
theorem dX5_paper_1 : decode cX5_paper 1 = .ok (.iload_n 1, 1) := by decide +kernel
theorem dX5_paper_2 : decode cX5_paper 2 = .ok (.invokevirtual 111, 3) := by decide +kernel
theorem dX5_paper_5 : decode cX5_paper 5 = .ok (.ifCond .eq 17, 3) := by decide +kernel
theorem dX5_paper_8 : decode cX5_paper 8 = .ok (.iload_n 2, 1) := by decide +kernel
theorem dX5_paper_9 : decode cX5_paper 9 = .ok (.bipush (-9), 2) := by decide +kernel
theorem dX5_paper_11 : decode cX5_paper 11 = .ok (.if_icmp .eq 14, 3) := by decide +kernel
theorem dX5_paper_14 : decode cX5_paper 14 = .ok (.aload_n 0, 1) := by decide +kernel
theorem dX5_paper_15 : decode cX5_paper 15 = .ok (.iload_n 2, 1) := by decide +kernel
theorem dX5_paper_16 : decode cX5_paper 16 = .ok (.invokevirtual 130, 3) := by decide +kernel
theorem dX5_paper_19 : decode cX5_paper 19 = .ok (.ifCond .ne 6, 3) := by decide +kernel
theorem dX5_paper_22 : decode cX5_paper 22 = .ok (.bipush (-2), 2) := by decide +kernel
theorem dX5_paper_24 : decode cX5_paper 24 = .ok (.ireturn, 1) := by decide +kernel
theorem dX5_paper_25 : decode cX5_paper 25 = .ok (.aload_n 0, 1) := by decide +kernel
theorem dX5_paper_26 : decode cX5_paper 26 = .ok (.getfield 25, 3) := by decide +kernel
theorem dX5_paper_29 : decode cX5_paper 29 = .ok (.iload_n 1, 1) := by decide +kernel
theorem dX5_paper_30 : decode cX5_paper 30 = .ok (.aaload, 1) := by decide +kernel
theorem dX5_paper_31 : decode cX5_paper 31 = .ok (.getfield 133, 3) := by decide +kernel
theorem dX5_paper_34 : decode cX5_paper 34 = .ok (.istore_n 3, 1) := by decide +kernel
theorem dX5_paper_35 : decode cX5_paper 35 = .ok (.aload_n 0, 1) := by decide +kernel
theorem dX5_paper_36 : decode cX5_paper 36 = .ok (.getfield 25, 3) := by decide +kernel
theorem dX5_paper_39 : decode cX5_paper 39 = .ok (.iload_n 1, 1) := by decide +kernel
theorem dX5_paper_40 : decode cX5_paper 40 = .ok (.aaload, 1) := by decide +kernel
theorem dX5_paper_41 : decode cX5_paper 41 = .ok (.iload_n 2, 1) := by decide +kernel
theorem dX5_paper_42 : decode cX5_paper 42 = .ok (.putfield 133, 3) := by decide +kernel
theorem dX5_paper_45 : decode cX5_paper 45 = .ok (.iload_n 3, 1) := by decide +kernel
theorem dX5_paper_46 : decode cX5_paper 46 = .ok (.ireturn, 1) := by decide +kernel
theorem dX5_imprint_0 : decode cX5_imprint 0 = .ok (.aload_n 0, 1) := by decide +kernel
theorem dX5_imprint_1 : decode cX5_imprint 1 = .ok (.iload_n 1, 1) := by decide +kernel
theorem dX5_imprint_2 : decode cX5_imprint 2 = .ok (.invokevirtual 111, 3) := by decide +kernel
theorem dX5_imprint_5 : decode cX5_imprint 5 = .ok (.ifCond .eq 16, 3) := by decide +kernel
theorem dX5_imprint_8 : decode cX5_imprint 8 = .ok (.iload_n 2, 1) := by decide +kernel
theorem dX5_imprint_9 : decode cX5_imprint 9 = .ok (.bipush (-9), 2) := by decide +kernel
theorem dX5_imprint_11 : decode cX5_imprint 11 = .ok (.if_icmp .eq 13, 3) := by decide +kernel
theorem dX5_imprint_14 : decode cX5_imprint 14 = .ok (.iload_n 2, 1) := by decide +kernel
theorem dX5_imprint_15 : decode cX5_imprint 15 = .ok (.invokestatic 136, 3) := by decide +kernel
theorem dX5_imprint_18 : decode cX5_imprint 18 = .ok (.ifCond .ne 6, 3) := by decide +kernel
theorem dX5_imprint_21 : decode cX5_imprint 21 = .ok (.bipush (-2), 2) := by decide +kernel
theorem dX5_imprint_23 : decode cX5_imprint 23 = .ok (.ireturn, 1) := by decide +kernel
theorem dX5_imprint_24 : decode cX5_imprint 24 = .ok (.aload_n 0, 1) := by decide +kernel
theorem dX5_imprint_25 : decode cX5_imprint 25 = .ok (.getfield 25, 3) := by decide +kernel
theorem dX5_imprint_28 : decode cX5_imprint 28 = .ok (.iload_n 1, 1) := by decide +kernel
theorem dX5_imprint_29 : decode cX5_imprint 29 = .ok (.aaload, 1) := by decide +kernel
theorem dX5_imprint_30 : decode cX5_imprint 30 = .ok (.getfield 139, 3) := by decide +kernel
theorem dX5_imprint_33 : decode cX5_imprint 33 = .ok (.istore_n 3, 1) := by decide +kernel
theorem dX5_imprint_34 : decode cX5_imprint 34 = .ok (.aload_n 0, 1) := by decide +kernel
theorem dX5_imprint_35 : decode cX5_imprint 35 = .ok (.getfield 25, 3) := by decide +kernel
theorem dX5_imprint_38 : decode cX5_imprint 38 = .ok (.iload_n 1, 1) := by decide +kernel
theorem dX5_imprint_39 : decode cX5_imprint 39 = .ok (.aaload, 1) := by decide +kernel
theorem dX5_imprint_40 : decode cX5_imprint 40 = .ok (.iload_n 2, 1) := by decide +kernel
theorem dX5_imprint_41 : decode cX5_imprint 41 = .ok (.putfield 139, 3) := by decide +kernel
theorem dX5_imprint_44 : decode cX5_imprint 44 = .ok (.iload_n 3, 1) := by decide +kernel
theorem dX5_imprint_45 : decode cX5_imprint 45 = .ok (.ireturn, 1) := by decide +kernel
theorem dX5_span_0 : decode cX5_span 0 = .ok (.aload_n 0, 1) := by decide +kernel
theorem dX5_span_1 : decode cX5_span 1 = .ok (.iload_n 1, 1) := by decide +kernel
theorem dX5_span_2 : decode cX5_span 2 = .ok (.invokevirtual 111, 3) := by decide +kernel
theorem dX5_span_5 : decode cX5_span 5 = .ok (.ifCond .eq 10, 3) := by decide +kernel
theorem dX5_span_8 : decode cX5_span 8 = .ok (.iload_n 2, 1) := by decide +kernel
theorem dX5_span_9 : decode cX5_span 9 = .ok (.invokestatic 97, 3) := by decide +kernel
theorem dX5_span_12 : decode cX5_span 12 = .ok (.ifCond .ne 5, 3) := by decide +kernel
theorem dX5_span_15 : decode cX5_span 15 = .ok (.iconst (-1), 1) := by decide +kernel
theorem dX5_span_16 : decode cX5_span 16 = .ok (.ireturn, 1) := by decide +kernel
theorem dX5_span_17 : decode cX5_span 17 = .ok (.aload_n 0, 1) := by decide +kernel
theorem dX5_span_18 : decode cX5_span 18 = .ok (.getfield 25, 3) := by decide +kernel
theorem dX5_span_21 : decode cX5_span 21 = .ok (.iload_n 1, 1) := by decide +kernel
theorem dX5_span_22 : decode cX5_span 22 = .ok (.aaload, 1) := by decide +kernel
theorem dX5_span_23 : decode cX5_span 23 = .ok (.astore_n 3, 1) := by decide +kernel
theorem dX5_span_24 : decode cX5_span 24 = .ok (.aload_n 0, 1) := by decide +kernel
theorem dX5_span_25 : decode cX5_span 25 = .ok (.aload_n 3, 1) := by decide +kernel
theorem dX5_span_26 : decode cX5_span 26 = .ok (.invokevirtual 142, 3) := by decide +kernel
theorem dX5_span_29 : decode cX5_span 29 = .ok (.istore 4, 2) := by decide +kernel
theorem dX5_span_31 : decode cX5_span 31 = .ok (.aload_n 0, 1) := by decide +kernel
theorem dX5_span_32 : decode cX5_span 32 = .ok (.aload_n 3, 1) := by decide +kernel
theorem dX5_span_33 : decode cX5_span 33 = .ok (.invokevirtual 145, 3) := by decide +kernel
theorem dX5_span_36 : decode cX5_span 36 = .ok (.istore 5, 2) := by decide +kernel
theorem dX5_span_38 : decode cX5_span 38 = .ok (.aload_n 0, 1) := by decide +kernel
theorem dX5_span_39 : decode cX5_span 39 = .ok (.aload_n 3, 1) := by decide +kernel
theorem dX5_span_40 : decode cX5_span 40 = .ok (.invokevirtual 123, 3) := by decide +kernel
theorem dX5_span_43 : decode cX5_span 43 = .ok (.istore 6, 2) := by decide +kernel
theorem dX5_span_45 : decode cX5_span 45 = .ok (.bipush (-9), 2) := by decide +kernel
theorem dX5_span_47 : decode cX5_span 47 = .ok (.istore 7, 2) := by decide +kernel
theorem dX5_span_49 : decode cX5_span 49 = .ok (.bipush (-9), 2) := by decide +kernel
theorem dX5_span_51 : decode cX5_span 51 = .ok (.istore 8, 2) := by decide +kernel
theorem dX5_span_53 : decode cX5_span 53 = .ok (.iconst 0, 1) := by decide +kernel
theorem dX5_span_54 : decode cX5_span 54 = .ok (.istore 9, 2) := by decide +kernel
theorem dX5_span_56 : decode cX5_span 56 = .ok (.iload 9, 2) := by decide +kernel
theorem dX5_span_58 : decode cX5_span 58 = .ok (.aload_n 0, 1) := by decide +kernel
theorem dX5_span_59 : decode cX5_span 59 = .ok (.getfield 10, 3) := by decide +kernel
theorem dX5_span_62 : decode cX5_span 62 = .ok (.getfield 100, 3) := by decide +kernel
theorem dX5_span_65 : decode cX5_span 65 = .ok (.if_icmp .ge 108, 3) := by decide +kernel
theorem dX5_span_68 : decode cX5_span 68 = .ok (.iload 4, 2) := by decide +kernel
theorem dX5_span_70 : decode cX5_span 70 = .ok (.aload_n 0, 1) := by decide +kernel
theorem dX5_span_71 : decode cX5_span 71 = .ok (.getfield 10, 3) := by decide +kernel
theorem dX5_span_74 : decode cX5_span 74 = .ok (.getfield 74, 3) := by decide +kernel
theorem dX5_span_77 : decode cX5_span 77 = .ok (.iload 9, 2) := by decide +kernel
theorem dX5_span_79 : decode cX5_span 79 = .ok (.aaload, 1) := by decide +kernel
theorem dX5_span_80 : decode cX5_span 80 = .ok (.getfield 77, 3) := by decide +kernel
theorem dX5_span_83 : decode cX5_span 83 = .ok (.invokestatic 148, 3) := by decide +kernel
theorem dX5_span_86 : decode cX5_span 86 = .ok (.istore 10, 2) := by decide +kernel
theorem dX5_span_88 : decode cX5_span 88 = .ok (.iload 5, 2) := by decide +kernel
theorem dX5_span_90 : decode cX5_span 90 = .ok (.aload_n 0, 1) := by decide +kernel
theorem dX5_span_91 : decode cX5_span 91 = .ok (.getfield 10, 3) := by decide +kernel
theorem dX5_span_94 : decode cX5_span 94 = .ok (.getfield 74, 3) := by decide +kernel
theorem dX5_span_97 : decode cX5_span 97 = .ok (.iload 9, 2) := by decide +kernel
theorem dX5_span_99 : decode cX5_span 99 = .ok (.aaload, 1) := by decide +kernel
theorem dX5_span_100 : decode cX5_span 100 = .ok (.getfield 80, 3) := by decide +kernel
theorem dX5_span_103 : decode cX5_span 103 = .ok (.invokestatic 154, 3) := by decide +kernel
theorem dX5_span_106 : decode cX5_span 106 = .ok (.istore 11, 2) := by decide +kernel
theorem dX5_span_108 : decode cX5_span 108 = .ok (.iload 6, 2) := by decide +kernel
theorem dX5_span_110 : decode cX5_span 110 = .ok (.iload 9, 2) := by decide +kernel
theorem dX5_span_112 : decode cX5_span 112 = .ok (.invokestatic 157, 3) := by decide +kernel
theorem dX5_span_115 : decode cX5_span 115 = .ok (.ifCond .eq 52, 3) := by decide +kernel
theorem dX5_span_118 : decode cX5_span 118 = .ok (.iload 10, 2) := by decide +kernel
theorem dX5_span_120 : decode cX5_span 120 = .ok (.iload 11, 2) := by decide +kernel
theorem dX5_span_122 : decode cX5_span 122 = .ok (.if_icmp .gt 45, 3) := by decide +kernel
theorem dX5_span_125 : decode cX5_span 125 = .ok (.iload 7, 2) := by decide +kernel
theorem dX5_span_127 : decode cX5_span 127 = .ok (.bipush (-9), 2) := by decide +kernel
theorem dX5_span_129 : decode cX5_span 129 = .ok (.if_icmp .ne 8, 3) := by decide +kernel
theorem dX5_span_132 : decode cX5_span 132 = .ok (.iload 10, 2) := by decide +kernel
theorem dX5_span_134 : decode cX5_span 134 = .ok (.goto 10, 3) := by decide +kernel
theorem dX5_span_137 : decode cX5_span 137 = .ok (.iload 7, 2) := by decide +kernel
theorem dX5_span_139 : decode cX5_span 139 = .ok (.iload 10, 2) := by decide +kernel
theorem dX5_span_141 : decode cX5_span 141 = .ok (.invokestatic 154, 3) := by decide +kernel
theorem dX5_span_144 : decode cX5_span 144 = .ok (.istore 7, 2) := by decide +kernel
theorem dX5_span_146 : decode cX5_span 146 = .ok (.iload 8, 2) := by decide +kernel
theorem dX5_span_148 : decode cX5_span 148 = .ok (.bipush (-9), 2) := by decide +kernel
theorem dX5_span_150 : decode cX5_span 150 = .ok (.if_icmp .ne 8, 3) := by decide +kernel
theorem dX5_span_153 : decode cX5_span 153 = .ok (.iload 11, 2) := by decide +kernel
theorem dX5_span_155 : decode cX5_span 155 = .ok (.goto 10, 3) := by decide +kernel
theorem dX5_span_158 : decode cX5_span 158 = .ok (.iload 8, 2) := by decide +kernel
theorem dX5_span_160 : decode cX5_span 160 = .ok (.iload 11, 2) := by decide +kernel
theorem dX5_span_162 : decode cX5_span 162 = .ok (.invokestatic 148, 3) := by decide +kernel
theorem dX5_span_165 : decode cX5_span 165 = .ok (.istore 8, 2) := by decide +kernel
theorem dX5_span_167 : decode cX5_span 167 = .ok (.iinc 9 1, 3) := by decide +kernel
theorem dX5_span_170 : decode cX5_span 170 = .ok (.goto (-114), 3) := by decide +kernel
theorem dX5_span_173 : decode cX5_span 173 = .ok (.iload_n 2, 1) := by decide +kernel
theorem dX5_span_174 : decode cX5_span 174 = .ok (.ifCond .ne 8, 3) := by decide +kernel
theorem dX5_span_177 : decode cX5_span 177 = .ok (.iload 7, 2) := by decide +kernel
theorem dX5_span_179 : decode cX5_span 179 = .ok (.goto 5, 3) := by decide +kernel
theorem dX5_span_182 : decode cX5_span 182 = .ok (.iload 8, 2) := by decide +kernel
theorem dX5_span_184 : decode cX5_span 184 = .ok (.ireturn, 1) := by decide +kernel
theorem dX5_price_0 : decode cX5_price 0 = .ok (.aload_n 0, 1) := by decide +kernel
theorem dX5_price_1 : decode cX5_price 1 = .ok (.iload_n 2, 1) := by decide +kernel
theorem dX5_price_2 : decode cX5_price 2 = .ok (.invokevirtual 111, 3) := by decide +kernel
theorem dX5_price_5 : decode cX5_price 5 = .ok (.ifCond .ne 5, 3) := by decide +kernel
theorem dX5_price_8 : decode cX5_price 8 = .ok (.iconst (-1), 1) := by decide +kernel
theorem dX5_price_9 : decode cX5_price 9 = .ok (.ireturn, 1) := by decide +kernel
theorem dX5_price_10 : decode cX5_price 10 = .ok (.iload_n 1, 1) := by decide +kernel
theorem dX5_price_11 : decode cX5_price 11 = .ok (.tableswitch 58 0 2 #[25, 36, 47], 25) := by decide +kernel
theorem dX5_price_36 : decode cX5_price 36 = .ok (.aload_n 0, 1) := by decide +kernel
theorem dX5_price_37 : decode cX5_price 37 = .ok (.aload_n 0, 1) := by decide +kernel
theorem dX5_price_38 : decode cX5_price 38 = .ok (.getfield 25, 3) := by decide +kernel
theorem dX5_price_41 : decode cX5_price 41 = .ok (.iload_n 2, 1) := by decide +kernel
theorem dX5_price_42 : decode cX5_price 42 = .ok (.aaload, 1) := by decide +kernel
theorem dX5_price_43 : decode cX5_price 43 = .ok (.invokevirtual 160, 3) := by decide +kernel
theorem dX5_price_46 : decode cX5_price 46 = .ok (.ireturn, 1) := by decide +kernel
theorem dX5_price_47 : decode cX5_price 47 = .ok (.aload_n 0, 1) := by decide +kernel
theorem dX5_price_48 : decode cX5_price 48 = .ok (.aload_n 0, 1) := by decide +kernel
theorem dX5_price_49 : decode cX5_price 49 = .ok (.getfield 25, 3) := by decide +kernel
theorem dX5_price_52 : decode cX5_price 52 = .ok (.iload_n 2, 1) := by decide +kernel
theorem dX5_price_53 : decode cX5_price 53 = .ok (.aaload, 1) := by decide +kernel
theorem dX5_price_54 : decode cX5_price 54 = .ok (.invokevirtual 163, 3) := by decide +kernel
theorem dX5_price_57 : decode cX5_price 57 = .ok (.ireturn, 1) := by decide +kernel
theorem dX5_price_58 : decode cX5_price 58 = .ok (.aload_n 0, 1) := by decide +kernel
theorem dX5_price_59 : decode cX5_price 59 = .ok (.aload_n 0, 1) := by decide +kernel
theorem dX5_price_60 : decode cX5_price 60 = .ok (.getfield 25, 3) := by decide +kernel
theorem dX5_price_63 : decode cX5_price 63 = .ok (.iload_n 2, 1) := by decide +kernel
theorem dX5_price_64 : decode cX5_price 64 = .ok (.aaload, 1) := by decide +kernel
theorem dX5_price_65 : decode cX5_price 65 = .ok (.invokevirtual 166, 3) := by decide +kernel
theorem dX5_price_68 : decode cX5_price 68 = .ok (.ireturn, 1) := by decide +kernel
theorem dX5_price_69 : decode cX5_price 69 = .ok (.iconst (-1), 1) := by decide +kernel
theorem dX5_price_70 : decode cX5_price 70 = .ok (.ireturn, 1) := by decide +kernel
theorem dX5_map_0 : decode cX5_map 0 = .ok (.iload_n 1, 1) := by decide +kernel
theorem dX5_map_1 : decode cX5_map 1 = .ok (.invokestatic 136, 3) := by decide +kernel
theorem dX5_map_4 : decode cX5_map 4 = .ok (.ifCond .eq 10, 3) := by decide +kernel
theorem dX5_map_7 : decode cX5_map 7 = .ok (.iload_n 2, 1) := by decide +kernel
theorem dX5_map_8 : decode cX5_map 8 = .ok (.invokestatic 55, 3) := by decide +kernel
theorem dX5_map_11 : decode cX5_map 11 = .ok (.ifCond .ne 5, 3) := by decide +kernel
theorem dX5_map_14 : decode cX5_map 14 = .ok (.iconst (-1), 1) := by decide +kernel
theorem dX5_map_15 : decode cX5_map 15 = .ok (.ireturn, 1) := by decide +kernel
theorem dX5_map_16 : decode cX5_map 16 = .ok (.aload_n 0, 1) := by decide +kernel
theorem dX5_map_17 : decode cX5_map 17 = .ok (.getfield 19, 3) := by decide +kernel
theorem dX5_map_20 : decode cX5_map 20 = .ok (.iload_n 1, 1) := by decide +kernel
theorem dX5_map_21 : decode cX5_map 21 = .ok (.iload_n 2, 1) := by decide +kernel
theorem dX5_map_22 : decode cX5_map 22 = .ok (.invokevirtual 169, 3) := by decide +kernel
theorem dX5_map_25 : decode cX5_map 25 = .ok (.ireturn, 1) := by decide +kernel
theorem dX5_cost_0 : decode cX5_cost 0 = .ok (.aload_n 0, 1) := by decide +kernel
theorem dX5_cost_1 : decode cX5_cost 1 = .ok (.getfield 19, 3) := by decide +kernel
theorem dX5_cost_4 : decode cX5_cost 4 = .ok (.iload_n 1, 1) := by decide +kernel
theorem dX5_cost_5 : decode cX5_cost 5 = .ok (.iload_n 2, 1) := by decide +kernel
theorem dX5_cost_6 : decode cX5_cost 6 = .ok (.invokevirtual 172, 3) := by decide +kernel
theorem dX5_cost_9 : decode cX5_cost 9 = .ok (.ifCond .ne 5, 3) := by decide +kernel
theorem dX5_cost_12 : decode cX5_cost 12 = .ok (.iconst (-1), 1) := by decide +kernel
theorem dX5_cost_13 : decode cX5_cost 13 = .ok (.ireturn, 1) := by decide +kernel
theorem dX5_cost_14 : decode cX5_cost 14 = .ok (.aload_n 0, 1) := by decide +kernel
theorem dX5_cost_15 : decode cX5_cost 15 = .ok (.getfield 19, 3) := by decide +kernel
theorem dX5_cost_18 : decode cX5_cost 18 = .ok (.iload_n 1, 1) := by decide +kernel
theorem dX5_cost_19 : decode cX5_cost 19 = .ok (.iload_n 2, 1) := by decide +kernel
theorem dX5_cost_20 : decode cX5_cost 20 = .ok (.invokevirtual 175, 3) := by decide +kernel
theorem dX5_cost_23 : decode cX5_cost 23 = .ok (.ireturn, 1) := by decide +kernel
theorem dX5_from_0 : decode cX5_from 0 = .ok (.aload_n 0, 1) := by decide +kernel
theorem dX5_from_1 : decode cX5_from 1 = .ok (.getfield 19, 3) := by decide +kernel
theorem dX5_from_4 : decode cX5_from 4 = .ok (.iload_n 1, 1) := by decide +kernel
theorem dX5_from_5 : decode cX5_from 5 = .ok (.invokevirtual 178, 3) := by decide +kernel
theorem dX5_from_8 : decode cX5_from 8 = .ok (.ifCond .ne 6, 3) := by decide +kernel
theorem dX5_from_11 : decode cX5_from 11 = .ok (.bipush (-2), 2) := by decide +kernel
theorem dX5_from_13 : decode cX5_from 13 = .ok (.ireturn, 1) := by decide +kernel
theorem dX5_from_14 : decode cX5_from 14 = .ok (.aload_n 0, 1) := by decide +kernel
theorem dX5_from_15 : decode cX5_from 15 = .ok (.getfield 19, 3) := by decide +kernel
theorem dX5_from_18 : decode cX5_from 18 = .ok (.iload_n 1, 1) := by decide +kernel
theorem dX5_from_19 : decode cX5_from 19 = .ok (.invokevirtual 181, 3) := by decide +kernel
theorem dX5_from_22 : decode cX5_from 22 = .ok (.ireturn, 1) := by decide +kernel
theorem dX5_rivals_0 : decode cX5_rivals 0 = .ok (.aload_n 0, 1) := by decide +kernel
theorem dX5_rivals_1 : decode cX5_rivals 1 = .ok (.getfield 19, 3) := by decide +kernel
theorem dX5_rivals_4 : decode cX5_rivals 4 = .ok (.iload_n 1, 1) := by decide +kernel
theorem dX5_rivals_5 : decode cX5_rivals 5 = .ok (.invokevirtual 178, 3) := by decide +kernel
theorem dX5_rivals_8 : decode cX5_rivals 8 = .ok (.ifCond .ne 5, 3) := by decide +kernel
theorem dX5_rivals_11 : decode cX5_rivals 11 = .ok (.iconst (-1), 1) := by decide +kernel
theorem dX5_rivals_12 : decode cX5_rivals 12 = .ok (.ireturn, 1) := by decide +kernel
theorem dX5_rivals_13 : decode cX5_rivals 13 = .ok (.aload_n 0, 1) := by decide +kernel
theorem dX5_rivals_14 : decode cX5_rivals 14 = .ok (.getfield 19, 3) := by decide +kernel
theorem dX5_rivals_17 : decode cX5_rivals 17 = .ok (.iload_n 1, 1) := by decide +kernel
theorem dX5_rivals_18 : decode cX5_rivals 18 = .ok (.invokevirtual 184, 3) := by decide +kernel
theorem dX5_rivals_21 : decode cX5_rivals 21 = .ok (.ireturn, 1) := by decide +kernel
theorem dX5_life_0 : decode cX5_life 0 = .ok (.iload_n 2, 1) := by decide +kernel
theorem dX5_life_1 : decode cX5_life 1 = .ok (.invokestatic 114, 3) := by decide +kernel
theorem dX5_life_4 : decode cX5_life 4 = .ok (.ifCond .eq 30, 3) := by decide +kernel
theorem dX5_life_7 : decode cX5_life 7 = .ok (.aload_n 0, 1) := by decide +kernel
theorem dX5_life_8 : decode cX5_life 8 = .ok (.getfield 19, 3) := by decide +kernel
theorem dX5_life_11 : decode cX5_life 11 = .ok (.iload_n 1, 1) := by decide +kernel
theorem dX5_life_12 : decode cX5_life 12 = .ok (.invokevirtual 178, 3) := by decide +kernel
theorem dX5_life_15 : decode cX5_life 15 = .ok (.ifCond .eq 19, 3) := by decide +kernel
theorem dX5_life_18 : decode cX5_life 18 = .ok (.aload_n 0, 1) := by decide +kernel
theorem dX5_life_19 : decode cX5_life 19 = .ok (.getfield 19, 3) := by decide +kernel
theorem dX5_life_22 : decode cX5_life 22 = .ok (.getfield 187, 3) := by decide +kernel
theorem dX5_life_25 : decode cX5_life 25 = .ok (.iload_n 1, 1) := by decide +kernel
theorem dX5_life_26 : decode cX5_life 26 = .ok (.iaload, 1) := by decide +kernel
theorem dX5_life_27 : decode cX5_life 27 = .ok (.iload_n 2, 1) := by decide +kernel
theorem dX5_life_28 : decode cX5_life 28 = .ok (.invokestatic 157, 3) := by decide +kernel
theorem dX5_life_31 : decode cX5_life 31 = .ok (.ifCond .ne 5, 3) := by decide +kernel
theorem dX5_life_34 : decode cX5_life 34 = .ok (.iconst (-1), 1) := by decide +kernel
theorem dX5_life_35 : decode cX5_life 35 = .ok (.ireturn, 1) := by decide +kernel
theorem dX5_life_36 : decode cX5_life 36 = .ok (.aload_n 0, 1) := by decide +kernel
theorem dX5_life_37 : decode cX5_life 37 = .ok (.getfield 19, 3) := by decide +kernel
theorem dX5_life_40 : decode cX5_life 40 = .ok (.iload_n 1, 1) := by decide +kernel
theorem dX5_life_41 : decode cX5_life 41 = .ok (.iload_n 2, 1) := by decide +kernel
theorem dX5_life_42 : decode cX5_life 42 = .ok (.invokevirtual 190, 3) := by decide +kernel
theorem dX5_life_45 : decode cX5_life 45 = .ok (.ireturn, 1) := by decide +kernel
theorem dX5_hole_0 : decode cX5_hole 0 = .ok (.iload_n 3, 1) := by decide +kernel
theorem dX5_hole_1 : decode cX5_hole 1 = .ok (.invokestatic 193, 3) := by decide +kernel
theorem dX5_hole_4 : decode cX5_hole 4 = .ok (.ifCond .ne 5, 3) := by decide +kernel
theorem dX5_hole_7 : decode cX5_hole 7 = .ok (.iconst (-1), 1) := by decide +kernel
theorem dX5_hole_8 : decode cX5_hole 8 = .ok (.ireturn, 1) := by decide +kernel
theorem dX5_hole_9 : decode cX5_hole 9 = .ok (.iload_n 1, 1) := by decide +kernel
theorem dX5_hole_10 : decode cX5_hole 10 = .ok (.ifCond .ne 25, 3) := by decide +kernel
theorem dX5_hole_13 : decode cX5_hole 13 = .ok (.aload_n 0, 1) := by decide +kernel
theorem dX5_hole_14 : decode cX5_hole 14 = .ok (.iload_n 2, 1) := by decide +kernel
theorem dX5_hole_15 : decode cX5_hole 15 = .ok (.invokevirtual 111, 3) := by decide +kernel
theorem dX5_hole_18 : decode cX5_hole 18 = .ok (.ifCond .eq 17, 3) := by decide +kernel
theorem dX5_hole_21 : decode cX5_hole 21 = .ok (.aload_n 0, 1) := by decide +kernel
theorem dX5_hole_22 : decode cX5_hole 22 = .ok (.getfield 25, 3) := by decide +kernel
theorem dX5_hole_25 : decode cX5_hole 25 = .ok (.iload_n 2, 1) := by decide +kernel
theorem dX5_hole_26 : decode cX5_hole 26 = .ok (.aaload, 1) := by decide +kernel
theorem dX5_hole_27 : decode cX5_hole 27 = .ok (.getfield 196, 3) := by decide +kernel
theorem dX5_hole_30 : decode cX5_hole 30 = .ok (.iload_n 3, 1) := by decide +kernel
theorem dX5_hole_31 : decode cX5_hole 31 = .ok (.invokevirtual 200, 3) := by decide +kernel
theorem dX5_hole_34 : decode cX5_hole 34 = .ok (.ireturn, 1) := by decide +kernel
theorem dX5_hole_35 : decode cX5_hole 35 = .ok (.iload_n 1, 1) := by decide +kernel
theorem dX5_hole_36 : decode cX5_hole 36 = .ok (.iconst 1, 1) := by decide +kernel
theorem dX5_hole_37 : decode cX5_hole 37 = .ok (.if_icmp .ne 21, 3) := by decide +kernel
theorem dX5_hole_40 : decode cX5_hole 40 = .ok (.iload_n 2, 1) := by decide +kernel
theorem dX5_hole_41 : decode cX5_hole 41 = .ok (.invokestatic 203, 3) := by decide +kernel
theorem dX5_hole_44 : decode cX5_hole 44 = .ok (.ifCond .eq 14, 3) := by decide +kernel
theorem dX5_hole_47 : decode cX5_hole 47 = .ok (.aload_n 0, 1) := by decide +kernel
theorem dX5_hole_48 : decode cX5_hole 48 = .ok (.getfield 44, 3) := by decide +kernel
theorem dX5_hole_51 : decode cX5_hole 51 = .ok (.iload_n 2, 1) := by decide +kernel
theorem dX5_hole_52 : decode cX5_hole 52 = .ok (.aaload, 1) := by decide +kernel
theorem dX5_hole_53 : decode cX5_hole 53 = .ok (.iload_n 3, 1) := by decide +kernel
theorem dX5_hole_54 : decode cX5_hole 54 = .ok (.invokevirtual 200, 3) := by decide +kernel
theorem dX5_hole_57 : decode cX5_hole 57 = .ok (.ireturn, 1) := by decide +kernel
theorem dX5_hole_58 : decode cX5_hole 58 = .ok (.iconst (-1), 1) := by decide +kernel
theorem dX5_hole_59 : decode cX5_hole 59 = .ok (.ireturn, 1) := by decide +kernel
theorem dX5_fits_0 : decode cX5_fits 0 = .ok (.aload_n 0, 1) := by decide +kernel
theorem dX5_fits_1 : decode cX5_fits 1 = .ok (.iload_n 1, 1) := by decide +kernel
theorem dX5_fits_2 : decode cX5_fits 2 = .ok (.invokevirtual 111, 3) := by decide +kernel
theorem dX5_fits_5 : decode cX5_fits 5 = .ok (.ifCond .eq 17, 3) := by decide +kernel
theorem dX5_fits_8 : decode cX5_fits 8 = .ok (.iload_n 2, 1) := by decide +kernel
theorem dX5_fits_9 : decode cX5_fits 9 = .ok (.invokestatic 203, 3) := by decide +kernel
theorem dX5_fits_12 : decode cX5_fits 12 = .ok (.ifCond .eq 10, 3) := by decide +kernel
theorem dX5_fits_15 : decode cX5_fits 15 = .ok (.iload_n 3, 1) := by decide +kernel
theorem dX5_fits_16 : decode cX5_fits 16 = .ok (.invokestatic 206, 3) := by decide +kernel
theorem dX5_fits_19 : decode cX5_fits 19 = .ok (.ifCond .ne 5, 3) := by decide +kernel
theorem dX5_fits_22 : decode cX5_fits 22 = .ok (.iconst (-1), 1) := by decide +kernel
theorem dX5_fits_23 : decode cX5_fits 23 = .ok (.ireturn, 1) := by decide +kernel
theorem dX5_fits_24 : decode cX5_fits 24 = .ok (.aload_n 0, 1) := by decide +kernel
theorem dX5_fits_25 : decode cX5_fits 25 = .ok (.getfield 25, 3) := by decide +kernel
theorem dX5_fits_28 : decode cX5_fits 28 = .ok (.iload_n 1, 1) := by decide +kernel
theorem dX5_fits_29 : decode cX5_fits 29 = .ok (.aaload, 1) := by decide +kernel
theorem dX5_fits_30 : decode cX5_fits 30 = .ok (.getfield 196, 3) := by decide +kernel
theorem dX5_fits_33 : decode cX5_fits 33 = .ok (.aload_n 0, 1) := by decide +kernel
theorem dX5_fits_34 : decode cX5_fits 34 = .ok (.getfield 44, 3) := by decide +kernel
theorem dX5_fits_37 : decode cX5_fits 37 = .ok (.iload_n 2, 1) := by decide +kernel
theorem dX5_fits_38 : decode cX5_fits 38 = .ok (.aaload, 1) := by decide +kernel
theorem dX5_fits_39 : decode cX5_fits 39 = .ok (.iload_n 3, 1) := by decide +kernel
theorem dX5_fits_40 : decode cX5_fits 40 = .ok (.invokevirtual 209, 3) := by decide +kernel
theorem dX5_fits_43 : decode cX5_fits 43 = .ok (.ireturn, 1) := by decide +kernel
theorem dX5_shift_0 : decode cX5_shift 0 = .ok (.aload_n 0, 1) := by decide +kernel
theorem dX5_shift_1 : decode cX5_shift 1 = .ok (.iload_n 1, 1) := by decide +kernel
theorem dX5_shift_2 : decode cX5_shift 2 = .ok (.invokevirtual 111, 3) := by decide +kernel
theorem dX5_shift_5 : decode cX5_shift 5 = .ok (.ifCond .eq 17, 3) := by decide +kernel
theorem dX5_shift_8 : decode cX5_shift 8 = .ok (.iload_n 2, 1) := by decide +kernel
theorem dX5_shift_9 : decode cX5_shift 9 = .ok (.invokestatic 203, 3) := by decide +kernel
theorem dX5_shift_12 : decode cX5_shift 12 = .ok (.ifCond .eq 10, 3) := by decide +kernel
theorem dX5_shift_15 : decode cX5_shift 15 = .ok (.iload_n 3, 1) := by decide +kernel
theorem dX5_shift_16 : decode cX5_shift 16 = .ok (.invokestatic 97, 3) := by decide +kernel
theorem dX5_shift_19 : decode cX5_shift 19 = .ok (.ifCond .ne 6, 3) := by decide +kernel
theorem dX5_shift_22 : decode cX5_shift 22 = .ok (.bipush (-100), 2) := by decide +kernel
theorem dX5_shift_24 : decode cX5_shift 24 = .ok (.ireturn, 1) := by decide +kernel
theorem dX5_shift_25 : decode cX5_shift 25 = .ok (.aload_n 0, 1) := by decide +kernel
theorem dX5_shift_26 : decode cX5_shift 26 = .ok (.getfield 25, 3) := by decide +kernel
theorem dX5_shift_29 : decode cX5_shift 29 = .ok (.iload_n 1, 1) := by decide +kernel
theorem dX5_shift_30 : decode cX5_shift 30 = .ok (.aaload, 1) := by decide +kernel
theorem dX5_shift_31 : decode cX5_shift 31 = .ok (.getfield 196, 3) := by decide +kernel
theorem dX5_shift_34 : decode cX5_shift 34 = .ok (.astore 4, 2) := by decide +kernel
theorem dX5_shift_36 : decode cX5_shift 36 = .ok (.aload 4, 2) := by decide +kernel
theorem dX5_shift_38 : decode cX5_shift 38 = .ok (.aload_n 0, 1) := by decide +kernel
theorem dX5_shift_39 : decode cX5_shift 39 = .ok (.getfield 44, 3) := by decide +kernel
theorem dX5_shift_42 : decode cX5_shift 42 = .ok (.iload_n 2, 1) := by decide +kernel
theorem dX5_shift_43 : decode cX5_shift 43 = .ok (.aaload, 1) := by decide +kernel
theorem dX5_shift_44 : decode cX5_shift 44 = .ok (.invokevirtual 213, 3) := by decide +kernel
theorem dX5_shift_47 : decode cX5_shift 47 = .ok (.istore 5, 2) := by decide +kernel
theorem dX5_shift_49 : decode cX5_shift 49 = .ok (.iload_n 3, 1) := by decide +kernel
theorem dX5_shift_50 : decode cX5_shift 50 = .ok (.ifCond .ne 8, 3) := by decide +kernel
theorem dX5_shift_53 : decode cX5_shift 53 = .ok (.iload 5, 2) := by decide +kernel
theorem dX5_shift_55 : decode cX5_shift 55 = .ok (.goto 16, 3) := by decide +kernel
theorem dX5_shift_58 : decode cX5_shift 58 = .ok (.aload 4, 2) := by decide +kernel
theorem dX5_shift_60 : decode cX5_shift 60 = .ok (.aload_n 0, 1) := by decide +kernel
theorem dX5_shift_61 : decode cX5_shift 61 = .ok (.getfield 44, 3) := by decide +kernel
theorem dX5_shift_64 : decode cX5_shift 64 = .ok (.iload_n 2, 1) := by decide +kernel
theorem dX5_shift_65 : decode cX5_shift 65 = .ok (.aaload, 1) := by decide +kernel
theorem dX5_shift_66 : decode cX5_shift 66 = .ok (.iload 5, 2) := by decide +kernel
theorem dX5_shift_68 : decode cX5_shift 68 = .ok (.invokevirtual 209, 3) := by decide +kernel
theorem dX5_shift_71 : decode cX5_shift 71 = .ok (.ireturn, 1) := by decide +kernel
theorem dX5_home_0 : decode cX5_home 0 = .ok (.aload_n 0, 1) := by decide +kernel
theorem dX5_home_1 : decode cX5_home 1 = .ok (.iload_n 1, 1) := by decide +kernel
theorem dX5_home_2 : decode cX5_home 2 = .ok (.invokevirtual 111, 3) := by decide +kernel
theorem dX5_home_5 : decode cX5_home 5 = .ok (.ifCond .eq 10, 3) := by decide +kernel
theorem dX5_home_8 : decode cX5_home 8 = .ok (.iload_n 2, 1) := by decide +kernel
theorem dX5_home_9 : decode cX5_home 9 = .ok (.invokestatic 97, 3) := by decide +kernel
theorem dX5_home_12 : decode cX5_home 12 = .ok (.ifCond .ne 5, 3) := by decide +kernel
theorem dX5_home_15 : decode cX5_home 15 = .ok (.iconst (-1), 1) := by decide +kernel
theorem dX5_home_16 : decode cX5_home 16 = .ok (.ireturn, 1) := by decide +kernel
theorem dX5_home_17 : decode cX5_home 17 = .ok (.aload_n 0, 1) := by decide +kernel
theorem dX5_home_18 : decode cX5_home 18 = .ok (.iload_n 1, 1) := by decide +kernel
theorem dX5_home_19 : decode cX5_home 19 = .ok (.invokevirtual 217, 3) := by decide +kernel
theorem dX5_home_22 : decode cX5_home 22 = .ok (.istore_n 3, 1) := by decide +kernel
theorem dX5_home_23 : decode cX5_home 23 = .ok (.iload_n 2, 1) := by decide +kernel
theorem dX5_home_24 : decode cX5_home 24 = .ok (.ifCond .eq 10, 3) := by decide +kernel
theorem dX5_home_27 : decode cX5_home 27 = .ok (.iload_n 3, 1) := by decide +kernel
theorem dX5_home_28 : decode cX5_home 28 = .ok (.invokestatic 203, 3) := by decide +kernel
theorem dX5_home_31 : decode cX5_home 31 = .ok (.ifCond .ne 5, 3) := by decide +kernel
theorem dX5_home_34 : decode cX5_home 34 = .ok (.iload_n 3, 1) := by decide +kernel
theorem dX5_home_35 : decode cX5_home 35 = .ok (.ireturn, 1) := by decide +kernel
theorem dX5_home_36 : decode cX5_home 36 = .ok (.aload_n 0, 1) := by decide +kernel
theorem dX5_home_37 : decode cX5_home 37 = .ok (.iload_n 1, 1) := by decide +kernel
theorem dX5_home_38 : decode cX5_home 38 = .ok (.iload_n 3, 1) := by decide +kernel
theorem dX5_home_39 : decode cX5_home 39 = .ok (.invokevirtual 220, 3) := by decide +kernel
theorem dX5_home_42 : decode cX5_home 42 = .ok (.ireturn, 1) := by decide +kernel
theorem dX5_count_0 : decode cX5_count 0 = .ok (.iload_n 1, 1) := by decide +kernel
theorem dX5_count_1 : decode cX5_count 1 = .ok (.tableswitch 77 0 5 #[39, 47, 52, 57, 65, 71], 39) := by decide +kernel
theorem dX5_count_40 : decode cX5_count 40 = .ok (.aload_n 0, 1) := by decide +kernel
theorem dX5_count_41 : decode cX5_count 41 = .ok (.getfield 10, 3) := by decide +kernel
theorem dX5_count_44 : decode cX5_count 44 = .ok (.getfield 100, 3) := by decide +kernel
theorem dX5_count_47 : decode cX5_count 47 = .ok (.ireturn, 1) := by decide +kernel
theorem dX5_count_48 : decode cX5_count 48 = .ok (.aload_n 0, 1) := by decide +kernel
theorem dX5_count_49 : decode cX5_count 49 = .ok (.getfield 29, 3) := by decide +kernel
theorem dX5_count_52 : decode cX5_count 52 = .ok (.ireturn, 1) := by decide +kernel
theorem dX5_count_53 : decode cX5_count 53 = .ok (.aload_n 0, 1) := by decide +kernel
theorem dX5_count_54 : decode cX5_count 54 = .ok (.getfield 39, 3) := by decide +kernel
theorem dX5_count_57 : decode cX5_count 57 = .ok (.ireturn, 1) := by decide +kernel
theorem dX5_count_58 : decode cX5_count 58 = .ok (.aload_n 0, 1) := by decide +kernel
theorem dX5_count_59 : decode cX5_count 59 = .ok (.getfield 19, 3) := by decide +kernel
theorem dX5_count_62 : decode cX5_count 62 = .ok (.getfield 223, 3) := by decide +kernel
theorem dX5_count_65 : decode cX5_count 65 = .ok (.ireturn, 1) := by decide +kernel
theorem dX5_count_66 : decode cX5_count 66 = .ok (.aload_n 0, 1) := by decide +kernel
theorem dX5_count_67 : decode cX5_count 67 = .ok (.iconst 0, 1) := by decide +kernel
theorem dX5_count_68 : decode cX5_count 68 = .ok (.invokevirtual 226, 3) := by decide +kernel
theorem dX5_count_71 : decode cX5_count 71 = .ok (.ireturn, 1) := by decide +kernel
theorem dX5_count_72 : decode cX5_count 72 = .ok (.aload_n 0, 1) := by decide +kernel
theorem dX5_count_73 : decode cX5_count 73 = .ok (.iconst 1, 1) := by decide +kernel
theorem dX5_count_74 : decode cX5_count 74 = .ok (.invokevirtual 226, 3) := by decide +kernel
theorem dX5_count_77 : decode cX5_count 77 = .ok (.ireturn, 1) := by decide +kernel
theorem dX5_count_78 : decode cX5_count 78 = .ok (.iconst (-1), 1) := by decide +kernel
theorem dX5_count_79 : decode cX5_count 79 = .ok (.ireturn, 1) := by decide +kernel
theorem dX5_trace_0 : decode cX5_trace 0 = .ok (.aload_n 0, 1) := by decide +kernel
theorem dX5_trace_1 : decode cX5_trace 1 = .ok (.getfield 48, 3) := by decide +kernel
theorem dX5_trace_4 : decode cX5_trace 4 = .ok (.lreturn, 1) := by decide +kernel
theorem dX5_has_0 : decode cX5_has 0 = .ok (.iload_n 0, 1) := by decide +kernel
theorem dX5_has_1 : decode cX5_has 1 = .ok (.iload_n 1, 1) := by decide +kernel
theorem dX5_has_2 : decode cX5_has 2 = .ok (.ishr, 1) := by decide +kernel
theorem dX5_has_3 : decode cX5_has 3 = .ok (.iconst 1, 1) := by decide +kernel
theorem dX5_has_4 : decode cX5_has 4 = .ok (.iand, 1) := by decide +kernel
theorem dX5_has_5 : decode cX5_has 5 = .ok (.iconst 1, 1) := by decide +kernel
theorem dX5_has_6 : decode cX5_has 6 = .ok (.if_icmp .ne 7, 3) := by decide +kernel
theorem dX5_has_9 : decode cX5_has 9 = .ok (.iconst 1, 1) := by decide +kernel
theorem dX5_has_10 : decode cX5_has 10 = .ok (.goto 4, 3) := by decide +kernel
theorem dX5_has_13 : decode cX5_has 13 = .ok (.iconst 0, 1) := by decide +kernel
theorem dX5_has_14 : decode cX5_has 14 = .ok (.ireturn, 1) := by decide +kernel
theorem dX5_areLines_0 : decode cX5_areLines 0 = .ok (.iload_n 0, 1) := by decide +kernel
theorem dX5_areLines_1 : decode cX5_areLines 1 = .ok (.ifCond .lt 14, 3) := by decide +kernel
theorem dX5_areLines_4 : decode cX5_areLines 4 = .ok (.iload_n 0, 1) := by decide +kernel
theorem dX5_areLines_5 : decode cX5_areLines 5 = .ok (.sipush 4095, 3) := by decide +kernel
theorem dX5_areLines_8 : decode cX5_areLines 8 = .ok (.if_icmp .gt 7, 3) := by decide +kernel
theorem dX5_areLines_11 : decode cX5_areLines 11 = .ok (.iconst 1, 1) := by decide +kernel
theorem dX5_areLines_12 : decode cX5_areLines 12 = .ok (.goto 4, 3) := by decide +kernel
theorem dX5_areLines_15 : decode cX5_areLines 15 = .ok (.iconst 0, 1) := by decide +kernel
theorem dX5_areLines_16 : decode cX5_areLines 16 = .ok (.ireturn, 1) := by decide +kernel
theorem dX5_isLine_0 : decode cX5_isLine 0 = .ok (.iload_n 0, 1) := by decide +kernel
theorem dX5_isLine_1 : decode cX5_isLine 1 = .ok (.ifCond .lt 13, 3) := by decide +kernel
theorem dX5_isLine_4 : decode cX5_isLine 4 = .ok (.iload_n 0, 1) := by decide +kernel
theorem dX5_isLine_5 : decode cX5_isLine 5 = .ok (.bipush 12, 2) := by decide +kernel
theorem dX5_isLine_7 : decode cX5_isLine 7 = .ok (.if_icmp .ge 7, 3) := by decide +kernel
theorem dX5_isLine_10 : decode cX5_isLine 10 = .ok (.iconst 1, 1) := by decide +kernel
theorem dX5_isLine_11 : decode cX5_isLine 11 = .ok (.goto 4, 3) := by decide +kernel
theorem dX5_isLine_14 : decode cX5_isLine 14 = .ok (.iconst 0, 1) := by decide +kernel
theorem dX5_isLine_15 : decode cX5_isLine 15 = .ok (.ireturn, 1) := by decide +kernel
theorem dX5_isYear_0 : decode cX5_isYear 0 = .ok (.iload_n 0, 1) := by decide +kernel
theorem dX5_isYear_1 : decode cX5_isYear 1 = .ok (.sipush 1500, 3) := by decide +kernel
theorem dX5_isYear_4 : decode cX5_isYear 4 = .ok (.if_icmp .lt 14, 3) := by decide +kernel
theorem dX5_isYear_7 : decode cX5_isYear 7 = .ok (.iload_n 0, 1) := by decide +kernel
theorem dX5_isYear_8 : decode cX5_isYear 8 = .ok (.sipush 1900, 3) := by decide +kernel
theorem dX5_isYear_11 : decode cX5_isYear 11 = .ok (.if_icmp .gt 7, 3) := by decide +kernel
theorem dX5_isYear_14 : decode cX5_isYear 14 = .ok (.iconst 1, 1) := by decide +kernel
theorem dX5_isYear_15 : decode cX5_isYear 15 = .ok (.goto 4, 3) := by decide +kernel
theorem dX5_isYear_18 : decode cX5_isYear 18 = .ok (.iconst 0, 1) := by decide +kernel
theorem dX5_isYear_19 : decode cX5_isYear 19 = .ok (.ireturn, 1) := by decide +kernel
theorem dX5_areYears_0 : decode cX5_areYears 0 = .ok (.iload_n 0, 1) := by decide +kernel
theorem dX5_areYears_1 : decode cX5_areYears 1 = .ok (.invokestatic 136, 3) := by decide +kernel
theorem dX5_areYears_4 : decode cX5_areYears 4 = .ok (.ifCond .eq 19, 3) := by decide +kernel
theorem dX5_areYears_7 : decode cX5_areYears 7 = .ok (.iload_n 1, 1) := by decide +kernel
theorem dX5_areYears_8 : decode cX5_areYears 8 = .ok (.invokestatic 136, 3) := by decide +kernel
theorem dX5_areYears_11 : decode cX5_areYears 11 = .ok (.ifCond .eq 12, 3) := by decide +kernel
theorem dX5_areYears_14 : decode cX5_areYears 14 = .ok (.iload_n 0, 1) := by decide +kernel
theorem dX5_areYears_15 : decode cX5_areYears 15 = .ok (.iload_n 1, 1) := by decide +kernel
theorem dX5_areYears_16 : decode cX5_areYears 16 = .ok (.if_icmp .gt 7, 3) := by decide +kernel
theorem dX5_areYears_19 : decode cX5_areYears 19 = .ok (.iconst 1, 1) := by decide +kernel
theorem dX5_areYears_20 : decode cX5_areYears 20 = .ok (.goto 4, 3) := by decide +kernel
theorem dX5_areYears_23 : decode cX5_areYears 23 = .ok (.iconst 0, 1) := by decide +kernel
theorem dX5_areYears_24 : decode cX5_areYears 24 = .ok (.ireturn, 1) := by decide +kernel
theorem dX5_isFirstOrSecond_0 : decode cX5_isFirstOrSecond 0 = .ok (.iload_n 0, 1) := by decide +kernel
theorem dX5_isFirstOrSecond_1 : decode cX5_isFirstOrSecond 1 = .ok (.ifCond .eq 8, 3) := by decide +kernel
theorem dX5_isFirstOrSecond_4 : decode cX5_isFirstOrSecond 4 = .ok (.iload_n 0, 1) := by decide +kernel
theorem dX5_isFirstOrSecond_5 : decode cX5_isFirstOrSecond 5 = .ok (.iconst 1, 1) := by decide +kernel
theorem dX5_isFirstOrSecond_6 : decode cX5_isFirstOrSecond 6 = .ok (.if_icmp .ne 7, 3) := by decide +kernel
theorem dX5_isFirstOrSecond_9 : decode cX5_isFirstOrSecond 9 = .ok (.iconst 1, 1) := by decide +kernel
theorem dX5_isFirstOrSecond_10 : decode cX5_isFirstOrSecond 10 = .ok (.goto 4, 3) := by decide +kernel
theorem dX5_isFirstOrSecond_13 : decode cX5_isFirstOrSecond 13 = .ok (.iconst 0, 1) := by decide +kernel
theorem dX5_isFirstOrSecond_14 : decode cX5_isFirstOrSecond 14 = .ok (.ireturn, 1) := by decide +kernel
theorem dX5_isBook_0 : decode cX5_isBook 0 = .ok (.iload_n 0, 1) := by decide +kernel
theorem dX5_isBook_1 : decode cX5_isBook 1 = .ok (.ifCond .lt 12, 3) := by decide +kernel
theorem dX5_isBook_4 : decode cX5_isBook 4 = .ok (.iload_n 0, 1) := by decide +kernel
theorem dX5_isBook_5 : decode cX5_isBook 5 = .ok (.iconst 4, 1) := by decide +kernel
theorem dX5_isBook_6 : decode cX5_isBook 6 = .ok (.if_icmp .ge 7, 3) := by decide +kernel
theorem dX5_isBook_9 : decode cX5_isBook 9 = .ok (.iconst 1, 1) := by decide +kernel
theorem dX5_isBook_10 : decode cX5_isBook 10 = .ok (.goto 4, 3) := by decide +kernel
theorem dX5_isBook_13 : decode cX5_isBook 13 = .ok (.iconst 0, 1) := by decide +kernel
theorem dX5_isBook_14 : decode cX5_isBook 14 = .ok (.ireturn, 1) := by decide +kernel
theorem dX5_isLeaf_0 : decode cX5_isLeaf 0 = .ok (.iload_n 1, 1) := by decide +kernel
theorem dX5_isLeaf_1 : decode cX5_isLeaf 1 = .ok (.ifCond .lt 15, 3) := by decide +kernel
theorem dX5_isLeaf_4 : decode cX5_isLeaf 4 = .ok (.iload_n 1, 1) := by decide +kernel
theorem dX5_isLeaf_5 : decode cX5_isLeaf 5 = .ok (.aload_n 0, 1) := by decide +kernel
theorem dX5_isLeaf_6 : decode cX5_isLeaf 6 = .ok (.getfield 29, 3) := by decide +kernel
theorem dX5_isLeaf_9 : decode cX5_isLeaf 9 = .ok (.if_icmp .ge 7, 3) := by decide +kernel
theorem dX5_isLeaf_12 : decode cX5_isLeaf 12 = .ok (.iconst 1, 1) := by decide +kernel
theorem dX5_isLeaf_13 : decode cX5_isLeaf 13 = .ok (.goto 4, 3) := by decide +kernel
theorem dX5_isLeaf_16 : decode cX5_isLeaf 16 = .ok (.iconst 0, 1) := by decide +kernel
theorem dX5_isLeaf_17 : decode cX5_isLeaf 17 = .ok (.ireturn, 1) := by decide +kernel
theorem dX5_isMould_0 : decode cX5_isMould 0 = .ok (.iload_n 1, 1) := by decide +kernel
theorem dX5_isMould_1 : decode cX5_isMould 1 = .ok (.ifCond .lt 15, 3) := by decide +kernel
theorem dX5_isMould_4 : decode cX5_isMould 4 = .ok (.iload_n 1, 1) := by decide +kernel
theorem dX5_isMould_5 : decode cX5_isMould 5 = .ok (.aload_n 0, 1) := by decide +kernel
theorem dX5_isMould_6 : decode cX5_isMould 6 = .ok (.getfield 39, 3) := by decide +kernel
theorem dX5_isMould_9 : decode cX5_isMould 9 = .ok (.if_icmp .ge 7, 3) := by decide +kernel
theorem dX5_isMould_12 : decode cX5_isMould 12 = .ok (.iconst 1, 1) := by decide +kernel
theorem dX5_isMould_13 : decode cX5_isMould 13 = .ok (.goto 4, 3) := by decide +kernel
theorem dX5_isMould_16 : decode cX5_isMould 16 = .ok (.iconst 0, 1) := by decide +kernel
theorem dX5_isMould_17 : decode cX5_isMould 17 = .ok (.ireturn, 1) := by decide +kernel
theorem dX5_mostOfCharge_0 : decode cX5_mostOfCharge 0 = .ok (.iload_n 0, 1) := by decide +kernel
theorem dX5_mostOfCharge_1 : decode cX5_mostOfCharge 1 = .ok (.tableswitch 44 0 4 #[35, 35, 38, 35, 41], 35) := by decide +kernel
theorem dX5_mostOfCharge_36 : decode cX5_mostOfCharge 36 = .ok (.bipush 9, 2) := by decide +kernel
theorem dX5_mostOfCharge_38 : decode cX5_mostOfCharge 38 = .ok (.ireturn, 1) := by decide +kernel
theorem dX5_mostOfCharge_39 : decode cX5_mostOfCharge 39 = .ok (.bipush 50, 2) := by decide +kernel
theorem dX5_mostOfCharge_41 : decode cX5_mostOfCharge 41 = .ok (.ireturn, 1) := by decide +kernel
theorem dX5_mostOfCharge_42 : decode cX5_mostOfCharge 42 = .ok (.bipush 20, 2) := by decide +kernel
theorem dX5_mostOfCharge_44 : decode cX5_mostOfCharge 44 = .ok (.ireturn, 1) := by decide +kernel
theorem dX5_mostOfCharge_45 : decode cX5_mostOfCharge 45 = .ok (.iconst (-1), 1) := by decide +kernel
theorem dX5_mostOfCharge_46 : decode cX5_mostOfCharge 46 = .ok (.ireturn, 1) := by decide +kernel
theorem dX5_chargeOf_0 : decode cX5_chargeOf 0 = .ok (.iload_n 1, 1) := by decide +kernel
theorem dX5_chargeOf_1 : decode cX5_chargeOf 1 = .ok (.tableswitch 75 0 4 #[35, 43, 51, 59, 67], 35) := by decide +kernel
theorem dX5_chargeOf_36 : decode cX5_chargeOf 36 = .ok (.aload_n 0, 1) := by decide +kernel
theorem dX5_chargeOf_37 : decode cX5_chargeOf 37 = .ok (.getfield 10, 3) := by decide +kernel
theorem dX5_chargeOf_40 : decode cX5_chargeOf 40 = .ok (.getfield 229, 3) := by decide +kernel
theorem dX5_chargeOf_43 : decode cX5_chargeOf 43 = .ok (.ireturn, 1) := by decide +kernel
theorem dX5_chargeOf_44 : decode cX5_chargeOf 44 = .ok (.aload_n 0, 1) := by decide +kernel
theorem dX5_chargeOf_45 : decode cX5_chargeOf 45 = .ok (.getfield 10, 3) := by decide +kernel
theorem dX5_chargeOf_48 : decode cX5_chargeOf 48 = .ok (.getfield 232, 3) := by decide +kernel
theorem dX5_chargeOf_51 : decode cX5_chargeOf 51 = .ok (.ireturn, 1) := by decide +kernel
theorem dX5_chargeOf_52 : decode cX5_chargeOf 52 = .ok (.aload_n 0, 1) := by decide +kernel
theorem dX5_chargeOf_53 : decode cX5_chargeOf 53 = .ok (.getfield 10, 3) := by decide +kernel
theorem dX5_chargeOf_56 : decode cX5_chargeOf 56 = .ok (.getfield 235, 3) := by decide +kernel
theorem dX5_chargeOf_59 : decode cX5_chargeOf 59 = .ok (.ireturn, 1) := by decide +kernel
theorem dX5_chargeOf_60 : decode cX5_chargeOf 60 = .ok (.aload_n 0, 1) := by decide +kernel
theorem dX5_chargeOf_61 : decode cX5_chargeOf 61 = .ok (.getfield 19, 3) := by decide +kernel
theorem dX5_chargeOf_64 : decode cX5_chargeOf 64 = .ok (.getfield 238, 3) := by decide +kernel
theorem dX5_chargeOf_67 : decode cX5_chargeOf 67 = .ok (.ireturn, 1) := by decide +kernel
theorem dX5_chargeOf_68 : decode cX5_chargeOf 68 = .ok (.aload_n 0, 1) := by decide +kernel
theorem dX5_chargeOf_69 : decode cX5_chargeOf 69 = .ok (.getfield 19, 3) := by decide +kernel
theorem dX5_chargeOf_72 : decode cX5_chargeOf 72 = .ok (.getfield 241, 3) := by decide +kernel
theorem dX5_chargeOf_75 : decode cX5_chargeOf 75 = .ok (.ireturn, 1) := by decide +kernel
theorem dX5_chargeOf_76 : decode cX5_chargeOf 76 = .ok (.iconst (-1), 1) := by decide +kernel
theorem dX5_chargeOf_77 : decode cX5_chargeOf 77 = .ok (.ireturn, 1) := by decide +kernel
theorem dX5_putCharge_0 : decode cX5_putCharge 0 = .ok (.iload_n 1, 1) := by decide +kernel
theorem dX5_putCharge_1 : decode cX5_putCharge 1 = .ok (.tableswitch 90 0 4 #[35, 46, 57, 68, 79], 35) := by decide +kernel
theorem dX5_putCharge_36 : decode cX5_putCharge 36 = .ok (.aload_n 0, 1) := by decide +kernel
theorem dX5_putCharge_37 : decode cX5_putCharge 37 = .ok (.getfield 10, 3) := by decide +kernel
theorem dX5_putCharge_40 : decode cX5_putCharge 40 = .ok (.iload_n 2, 1) := by decide +kernel
theorem dX5_putCharge_41 : decode cX5_putCharge 41 = .ok (.putfield 229, 3) := by decide +kernel
theorem dX5_putCharge_44 : decode cX5_putCharge 44 = .ok (.goto 47, 3) := by decide +kernel
theorem dX5_putCharge_47 : decode cX5_putCharge 47 = .ok (.aload_n 0, 1) := by decide +kernel
theorem dX5_putCharge_48 : decode cX5_putCharge 48 = .ok (.getfield 10, 3) := by decide +kernel
theorem dX5_putCharge_51 : decode cX5_putCharge 51 = .ok (.iload_n 2, 1) := by decide +kernel
theorem dX5_putCharge_52 : decode cX5_putCharge 52 = .ok (.putfield 232, 3) := by decide +kernel
theorem dX5_putCharge_55 : decode cX5_putCharge 55 = .ok (.goto 36, 3) := by decide +kernel
theorem dX5_putCharge_58 : decode cX5_putCharge 58 = .ok (.aload_n 0, 1) := by decide +kernel
theorem dX5_putCharge_59 : decode cX5_putCharge 59 = .ok (.getfield 10, 3) := by decide +kernel
theorem dX5_putCharge_62 : decode cX5_putCharge 62 = .ok (.iload_n 2, 1) := by decide +kernel
theorem dX5_putCharge_63 : decode cX5_putCharge 63 = .ok (.putfield 235, 3) := by decide +kernel
theorem dX5_putCharge_66 : decode cX5_putCharge 66 = .ok (.goto 25, 3) := by decide +kernel
theorem dX5_putCharge_69 : decode cX5_putCharge 69 = .ok (.aload_n 0, 1) := by decide +kernel
theorem dX5_putCharge_70 : decode cX5_putCharge 70 = .ok (.getfield 19, 3) := by decide +kernel
theorem dX5_putCharge_73 : decode cX5_putCharge 73 = .ok (.iload_n 2, 1) := by decide +kernel
theorem dX5_putCharge_74 : decode cX5_putCharge 74 = .ok (.putfield 238, 3) := by decide +kernel
theorem dX5_putCharge_77 : decode cX5_putCharge 77 = .ok (.goto 14, 3) := by decide +kernel
theorem dX5_putCharge_80 : decode cX5_putCharge 80 = .ok (.aload_n 0, 1) := by decide +kernel
theorem dX5_putCharge_81 : decode cX5_putCharge 81 = .ok (.getfield 19, 3) := by decide +kernel
theorem dX5_putCharge_84 : decode cX5_putCharge 84 = .ok (.iload_n 2, 1) := by decide +kernel
theorem dX5_putCharge_85 : decode cX5_putCharge 85 = .ok (.putfield 241, 3) := by decide +kernel
theorem dX5_putCharge_88 : decode cX5_putCharge 88 = .ok (.goto 3, 3) := by decide +kernel
theorem dX5_putCharge_91 : decode cX5_putCharge 91 = .ok (.return_, 1) := by decide +kernel
theorem dX5_candidatesOf_0 : decode cX5_candidatesOf 0 = .ok (.aload_n 0, 1) := by decide +kernel
theorem dX5_candidatesOf_1 : decode cX5_candidatesOf 1 = .ok (.getfield 10, 3) := by decide +kernel
theorem dX5_candidatesOf_4 : decode cX5_candidatesOf 4 = .ok (.aload_n 1, 1) := by decide +kernel
theorem dX5_candidatesOf_5 : decode cX5_candidatesOf 5 = .ok (.getfield 244, 3) := by decide +kernel
theorem dX5_candidatesOf_8 : decode cX5_candidatesOf 8 = .ok (.aload_n 1, 1) := by decide +kernel
theorem dX5_candidatesOf_9 : decode cX5_candidatesOf 9 = .ok (.getfield 247, 3) := by decide +kernel
theorem dX5_candidatesOf_12 : decode cX5_candidatesOf 12 = .ok (.invokevirtual 250, 3) := by decide +kernel
theorem dX5_candidatesOf_15 : decode cX5_candidatesOf 15 = .ok (.ireturn, 1) := by decide +kernel
theorem dX5_leavesWithCandidates_0 : decode cX5_leavesWithCandidates 0 = .ok (.iconst 0, 1) := by decide +kernel
theorem dX5_leavesWithCandidates_1 : decode cX5_leavesWithCandidates 1 = .ok (.istore_n 2, 1) := by decide +kernel
theorem dX5_leavesWithCandidates_2 : decode cX5_leavesWithCandidates 2 = .ok (.iconst 0, 1) := by decide +kernel
theorem dX5_leavesWithCandidates_3 : decode cX5_leavesWithCandidates 3 = .ok (.istore_n 3, 1) := by decide +kernel
theorem dX5_leavesWithCandidates_4 : decode cX5_leavesWithCandidates 4 = .ok (.iload_n 3, 1) := by decide +kernel
theorem dX5_leavesWithCandidates_5 : decode cX5_leavesWithCandidates 5 = .ok (.aload_n 0, 1) := by decide +kernel
theorem dX5_leavesWithCandidates_6 : decode cX5_leavesWithCandidates 6 = .ok (.getfield 29, 3) := by decide +kernel
theorem dX5_leavesWithCandidates_9 : decode cX5_leavesWithCandidates 9 = .ok (.if_icmp .ge 29, 3) := by decide +kernel
theorem dX5_leavesWithCandidates_12 : decode cX5_leavesWithCandidates 12 = .ok (.aload_n 0, 1) := by decide +kernel
theorem dX5_leavesWithCandidates_13 : decode cX5_leavesWithCandidates 13 = .ok (.aload_n 0, 1) := by decide +kernel
theorem dX5_leavesWithCandidates_14 : decode cX5_leavesWithCandidates 14 = .ok (.getfield 25, 3) := by decide +kernel
theorem dX5_leavesWithCandidates_17 : decode cX5_leavesWithCandidates 17 = .ok (.iload_n 3, 1) := by decide +kernel
theorem dX5_leavesWithCandidates_18 : decode cX5_leavesWithCandidates 18 = .ok (.aaload, 1) := by decide +kernel
theorem dX5_leavesWithCandidates_19 : decode cX5_leavesWithCandidates 19 = .ok (.invokevirtual 123, 3) := by decide +kernel
theorem dX5_leavesWithCandidates_22 : decode cX5_leavesWithCandidates 22 = .ok (.invokestatic 253, 3) := by decide +kernel
theorem dX5_leavesWithCandidates_25 : decode cX5_leavesWithCandidates 25 = .ok (.iload_n 1, 1) := by decide +kernel
theorem dX5_leavesWithCandidates_26 : decode cX5_leavesWithCandidates 26 = .ok (.if_icmp .ne 6, 3) := by decide +kernel
theorem dX5_leavesWithCandidates_29 : decode cX5_leavesWithCandidates 29 = .ok (.iinc 2 1, 3) := by decide +kernel
theorem dX5_leavesWithCandidates_32 : decode cX5_leavesWithCandidates 32 = .ok (.iinc 3 1, 3) := by decide +kernel
theorem dX5_leavesWithCandidates_35 : decode cX5_leavesWithCandidates 35 = .ok (.goto (-31), 3) := by decide +kernel
theorem dX5_leavesWithCandidates_38 : decode cX5_leavesWithCandidates 38 = .ok (.iload_n 2, 1) := by decide +kernel
theorem dX5_leavesWithCandidates_39 : decode cX5_leavesWithCandidates 39 = .ok (.ireturn, 1) := by decide +kernel
theorem dX5_earliestByPaper_0 : decode cX5_earliestByPaper 0 = .ok (.aload_n 0, 1) := by decide +kernel
theorem dX5_earliestByPaper_1 : decode cX5_earliestByPaper 1 = .ok (.aload_n 1, 1) := by decide +kernel
theorem dX5_earliestByPaper_2 : decode cX5_earliestByPaper 2 = .ok (.getfield 133, 3) := by decide +kernel
theorem dX5_earliestByPaper_5 : decode cX5_earliestByPaper 5 = .ok (.invokevirtual 130, 3) := by decide +kernel
theorem dX5_earliestByPaper_8 : decode cX5_earliestByPaper 8 = .ok (.ifCond .eq 18, 3) := by decide +kernel
theorem dX5_earliestByPaper_11 : decode cX5_earliestByPaper 11 = .ok (.aload_n 0, 1) := by decide +kernel
theorem dX5_earliestByPaper_12 : decode cX5_earliestByPaper 12 = .ok (.getfield 35, 3) := by decide +kernel
theorem dX5_earliestByPaper_15 : decode cX5_earliestByPaper 15 = .ok (.aload_n 1, 1) := by decide +kernel
theorem dX5_earliestByPaper_16 : decode cX5_earliestByPaper 16 = .ok (.getfield 133, 3) := by decide +kernel
theorem dX5_earliestByPaper_19 : decode cX5_earliestByPaper 19 = .ok (.aaload, 1) := by decide +kernel
theorem dX5_earliestByPaper_20 : decode cX5_earliestByPaper 20 = .ok (.getfield 77, 3) := by decide +kernel
theorem dX5_earliestByPaper_23 : decode cX5_earliestByPaper 23 = .ok (.goto 6, 3) := by decide +kernel
theorem dX5_earliestByPaper_26 : decode cX5_earliestByPaper 26 = .ok (.sipush 1500, 3) := by decide +kernel
theorem dX5_earliestByPaper_29 : decode cX5_earliestByPaper 29 = .ok (.istore_n 2, 1) := by decide +kernel
theorem dX5_earliestByPaper_30 : decode cX5_earliestByPaper 30 = .ok (.aload_n 1, 1) := by decide +kernel
theorem dX5_earliestByPaper_31 : decode cX5_earliestByPaper 31 = .ok (.getfield 139, 3) := by decide +kernel
theorem dX5_earliestByPaper_34 : decode cX5_earliestByPaper 34 = .ok (.bipush (-9), 2) := by decide +kernel
theorem dX5_earliestByPaper_36 : decode cX5_earliestByPaper 36 = .ok (.if_icmp .ne 7, 3) := by decide +kernel
theorem dX5_earliestByPaper_39 : decode cX5_earliestByPaper 39 = .ok (.iload_n 2, 1) := by decide +kernel
theorem dX5_earliestByPaper_40 : decode cX5_earliestByPaper 40 = .ok (.goto 11, 3) := by decide +kernel
theorem dX5_earliestByPaper_43 : decode cX5_earliestByPaper 43 = .ok (.iload_n 2, 1) := by decide +kernel
theorem dX5_earliestByPaper_44 : decode cX5_earliestByPaper 44 = .ok (.aload_n 1, 1) := by decide +kernel
theorem dX5_earliestByPaper_45 : decode cX5_earliestByPaper 45 = .ok (.getfield 139, 3) := by decide +kernel
theorem dX5_earliestByPaper_48 : decode cX5_earliestByPaper 48 = .ok (.invokestatic 148, 3) := by decide +kernel
theorem dX5_earliestByPaper_51 : decode cX5_earliestByPaper 51 = .ok (.ireturn, 1) := by decide +kernel
theorem dX5_latestByPaper_0 : decode cX5_latestByPaper 0 = .ok (.aload_n 0, 1) := by decide +kernel
theorem dX5_latestByPaper_1 : decode cX5_latestByPaper 1 = .ok (.aload_n 1, 1) := by decide +kernel
theorem dX5_latestByPaper_2 : decode cX5_latestByPaper 2 = .ok (.getfield 133, 3) := by decide +kernel
theorem dX5_latestByPaper_5 : decode cX5_latestByPaper 5 = .ok (.invokevirtual 130, 3) := by decide +kernel
theorem dX5_latestByPaper_8 : decode cX5_latestByPaper 8 = .ok (.ifCond .eq 18, 3) := by decide +kernel
theorem dX5_latestByPaper_11 : decode cX5_latestByPaper 11 = .ok (.aload_n 0, 1) := by decide +kernel
theorem dX5_latestByPaper_12 : decode cX5_latestByPaper 12 = .ok (.getfield 35, 3) := by decide +kernel
theorem dX5_latestByPaper_15 : decode cX5_latestByPaper 15 = .ok (.aload_n 1, 1) := by decide +kernel
theorem dX5_latestByPaper_16 : decode cX5_latestByPaper 16 = .ok (.getfield 133, 3) := by decide +kernel
theorem dX5_latestByPaper_19 : decode cX5_latestByPaper 19 = .ok (.aaload, 1) := by decide +kernel
theorem dX5_latestByPaper_20 : decode cX5_latestByPaper 20 = .ok (.getfield 80, 3) := by decide +kernel
theorem dX5_latestByPaper_23 : decode cX5_latestByPaper 23 = .ok (.goto 6, 3) := by decide +kernel
theorem dX5_latestByPaper_26 : decode cX5_latestByPaper 26 = .ok (.sipush 1900, 3) := by decide +kernel
theorem dX5_latestByPaper_29 : decode cX5_latestByPaper 29 = .ok (.ireturn, 1) := by decide +kernel
theorem dX5_plainPrice_0 : decode cX5_plainPrice 0 = .ok (.aload_n 0, 1) := by decide +kernel
theorem dX5_plainPrice_1 : decode cX5_plainPrice 1 = .ok (.dup, 1) := by decide +kernel
theorem dX5_plainPrice_2 : decode cX5_plainPrice 2 = .ok (.getfield 48, 3) := by decide +kernel
theorem dX5_plainPrice_5 : decode cX5_plainPrice 5 = .ok (.lconst 1, 1) := by decide +kernel
theorem dX5_plainPrice_6 : decode cX5_plainPrice 6 = .ok (.ladd, 1) := by decide +kernel
theorem dX5_plainPrice_7 : decode cX5_plainPrice 7 = .ok (.putfield 48, 3) := by decide +kernel
theorem dX5_plainPrice_10 : decode cX5_plainPrice 10 = .ok (.aload_n 0, 1) := by decide +kernel
theorem dX5_plainPrice_11 : decode cX5_plainPrice 11 = .ok (.aload_n 1, 1) := by decide +kernel
theorem dX5_plainPrice_12 : decode cX5_plainPrice 12 = .ok (.invokevirtual 123, 3) := by decide +kernel
theorem dX5_plainPrice_15 : decode cX5_plainPrice 15 = .ok (.invokestatic 253, 3) := by decide +kernel
theorem dX5_plainPrice_18 : decode cX5_plainPrice 18 = .ok (.istore_n 2, 1) := by decide +kernel
theorem dX5_plainPrice_19 : decode cX5_plainPrice 19 = .ok (.iload_n 2, 1) := by decide +kernel
theorem dX5_plainPrice_20 : decode cX5_plainPrice 20 = .ok (.ifCond .ne 7, 3) := by decide +kernel
theorem dX5_plainPrice_23 : decode cX5_plainPrice 23 = .ok (.iconst 0, 1) := by decide +kernel
theorem dX5_plainPrice_24 : decode cX5_plainPrice 24 = .ok (.goto 9, 3) := by decide +kernel
theorem dX5_plainPrice_27 : decode cX5_plainPrice 27 = .ok (.aload_n 1, 1) := by decide +kernel
theorem dX5_plainPrice_28 : decode cX5_plainPrice 28 = .ok (.getfield 258, 3) := by decide +kernel
theorem dX5_plainPrice_31 : decode cX5_plainPrice 31 = .ok (.iload_n 2, 1) := by decide +kernel
theorem dX5_plainPrice_32 : decode cX5_plainPrice 32 = .ok (.idiv, 1) := by decide +kernel
theorem dX5_plainPrice_33 : decode cX5_plainPrice 33 = .ok (.ireturn, 1) := by decide +kernel
theorem dX5_colouredPrice_0 : decode cX5_colouredPrice 0 = .ok (.aload_n 0, 1) := by decide +kernel
theorem dX5_colouredPrice_1 : decode cX5_colouredPrice 1 = .ok (.dup, 1) := by decide +kernel
theorem dX5_colouredPrice_2 : decode cX5_colouredPrice 2 = .ok (.getfield 48, 3) := by decide +kernel
theorem dX5_colouredPrice_5 : decode cX5_colouredPrice 5 = .ok (.ldc2_w 261, 3) := by decide +kernel
theorem dX5_colouredPrice_8 : decode cX5_colouredPrice 8 = .ok (.ladd, 1) := by decide +kernel
theorem dX5_colouredPrice_9 : decode cX5_colouredPrice 9 = .ok (.putfield 48, 3) := by decide +kernel
theorem dX5_colouredPrice_12 : decode cX5_colouredPrice 12 = .ok (.aload_n 0, 1) := by decide +kernel
theorem dX5_colouredPrice_13 : decode cX5_colouredPrice 13 = .ok (.aload_n 1, 1) := by decide +kernel
theorem dX5_colouredPrice_14 : decode cX5_colouredPrice 14 = .ok (.invokevirtual 160, 3) := by decide +kernel
theorem dX5_colouredPrice_17 : decode cX5_colouredPrice 17 = .ok (.istore_n 2, 1) := by decide +kernel
theorem dX5_colouredPrice_18 : decode cX5_colouredPrice 18 = .ok (.aload_n 1, 1) := by decide +kernel
theorem dX5_colouredPrice_19 : decode cX5_colouredPrice 19 = .ok (.getfield 263, 3) := by decide +kernel
theorem dX5_colouredPrice_22 : decode cX5_colouredPrice 22 = .ok (.iconst 1, 1) := by decide +kernel
theorem dX5_colouredPrice_23 : decode cX5_colouredPrice 23 = .ok (.if_icmp .ne 9, 3) := by decide +kernel
theorem dX5_colouredPrice_26 : decode cX5_colouredPrice 26 = .ok (.iload_n 2, 1) := by decide +kernel
theorem dX5_colouredPrice_27 : decode cX5_colouredPrice 27 = .ok (.iload_n 2, 1) := by decide +kernel
theorem dX5_colouredPrice_28 : decode cX5_colouredPrice 28 = .ok (.iconst 2, 1) := by decide +kernel
theorem dX5_colouredPrice_29 : decode cX5_colouredPrice 29 = .ok (.idiv, 1) := by decide +kernel
theorem dX5_colouredPrice_30 : decode cX5_colouredPrice 30 = .ok (.iadd, 1) := by decide +kernel
theorem dX5_colouredPrice_31 : decode cX5_colouredPrice 31 = .ok (.ireturn, 1) := by decide +kernel
theorem dX5_colouredPrice_32 : decode cX5_colouredPrice 32 = .ok (.aload_n 1, 1) := by decide +kernel
theorem dX5_colouredPrice_33 : decode cX5_colouredPrice 33 = .ok (.getfield 263, 3) := by decide +kernel
theorem dX5_colouredPrice_36 : decode cX5_colouredPrice 36 = .ok (.iconst 2, 1) := by decide +kernel
theorem dX5_colouredPrice_37 : decode cX5_colouredPrice 37 = .ok (.if_icmp .ne 11, 3) := by decide +kernel
theorem dX5_colouredPrice_40 : decode cX5_colouredPrice 40 = .ok (.iload_n 2, 1) := by decide +kernel
theorem dX5_colouredPrice_41 : decode cX5_colouredPrice 41 = .ok (.iload_n 2, 1) := by decide +kernel
theorem dX5_colouredPrice_42 : decode cX5_colouredPrice 42 = .ok (.iconst 3, 1) := by decide +kernel
theorem dX5_colouredPrice_43 : decode cX5_colouredPrice 43 = .ok (.iadd, 1) := by decide +kernel
theorem dX5_colouredPrice_44 : decode cX5_colouredPrice 44 = .ok (.iconst 4, 1) := by decide +kernel
theorem dX5_colouredPrice_45 : decode cX5_colouredPrice 45 = .ok (.idiv, 1) := by decide +kernel
theorem dX5_colouredPrice_46 : decode cX5_colouredPrice 46 = .ok (.isub, 1) := by decide +kernel
theorem dX5_colouredPrice_47 : decode cX5_colouredPrice 47 = .ok (.ireturn, 1) := by decide +kernel
theorem dX5_colouredPrice_48 : decode cX5_colouredPrice 48 = .ok (.iload_n 2, 1) := by decide +kernel
theorem dX5_colouredPrice_49 : decode cX5_colouredPrice 49 = .ok (.ireturn, 1) := by decide +kernel
theorem dX5_wormPrice_0 : decode cX5_wormPrice 0 = .ok (.aload_n 0, 1) := by decide +kernel
theorem dX5_wormPrice_1 : decode cX5_wormPrice 1 = .ok (.dup, 1) := by decide +kernel
theorem dX5_wormPrice_2 : decode cX5_wormPrice 2 = .ok (.getfield 48, 3) := by decide +kernel
theorem dX5_wormPrice_5 : decode cX5_wormPrice 5 = .ok (.ldc2_w 266, 3) := by decide +kernel
theorem dX5_wormPrice_8 : decode cX5_wormPrice 8 = .ok (.ladd, 1) := by decide +kernel
theorem dX5_wormPrice_9 : decode cX5_wormPrice 9 = .ok (.putfield 48, 3) := by decide +kernel
theorem dX5_wormPrice_12 : decode cX5_wormPrice 12 = .ok (.iconst 0, 1) := by decide +kernel
theorem dX5_wormPrice_13 : decode cX5_wormPrice 13 = .ok (.aload_n 0, 1) := by decide +kernel
theorem dX5_wormPrice_14 : decode cX5_wormPrice 14 = .ok (.aload_n 1, 1) := by decide +kernel
theorem dX5_wormPrice_15 : decode cX5_wormPrice 15 = .ok (.invokevirtual 163, 3) := by decide +kernel
theorem dX5_wormPrice_18 : decode cX5_wormPrice 18 = .ok (.iconst 3, 1) := by decide +kernel
theorem dX5_wormPrice_19 : decode cX5_wormPrice 19 = .ok (.aload_n 1, 1) := by decide +kernel
theorem dX5_wormPrice_20 : decode cX5_wormPrice 20 = .ok (.getfield 196, 3) := by decide +kernel
theorem dX5_wormPrice_23 : decode cX5_wormPrice 23 = .ok (.getfield 268, 3) := by decide +kernel
theorem dX5_wormPrice_26 : decode cX5_wormPrice 26 = .ok (.imul, 1) := by decide +kernel
theorem dX5_wormPrice_27 : decode cX5_wormPrice 27 = .ok (.isub, 1) := by decide +kernel
theorem dX5_wormPrice_28 : decode cX5_wormPrice 28 = .ok (.invokestatic 148, 3) := by decide +kernel
theorem dX5_wormPrice_31 : decode cX5_wormPrice 31 = .ok (.ireturn, 1) := by decide +kernel
theorem dX5_homeOf_0 : decode cX5_homeOf 0 = .ok (.bipush (-9), 2) := by decide +kernel
theorem dX5_homeOf_2 : decode cX5_homeOf 2 = .ok (.istore_n 2, 1) := by decide +kernel
theorem dX5_homeOf_3 : decode cX5_homeOf 3 = .ok (.iconst 1, 1) := by decide +kernel
theorem dX5_homeOf_4 : decode cX5_homeOf 4 = .ok (.istore_n 3, 1) := by decide +kernel
theorem dX5_homeOf_5 : decode cX5_homeOf 5 = .ok (.iconst 0, 1) := by decide +kernel
theorem dX5_homeOf_6 : decode cX5_homeOf 6 = .ok (.istore 4, 2) := by decide +kernel
theorem dX5_homeOf_8 : decode cX5_homeOf 8 = .ok (.iload 4, 2) := by decide +kernel
theorem dX5_homeOf_10 : decode cX5_homeOf 10 = .ok (.iconst 4, 1) := by decide +kernel
theorem dX5_homeOf_11 : decode cX5_homeOf 11 = .ok (.if_icmp .ge 42, 3) := by decide +kernel
theorem dX5_homeOf_14 : decode cX5_homeOf 14 = .ok (.aload_n 0, 1) := by decide +kernel
theorem dX5_homeOf_15 : decode cX5_homeOf 15 = .ok (.getfield 25, 3) := by decide +kernel
theorem dX5_homeOf_18 : decode cX5_homeOf 18 = .ok (.iload_n 1, 1) := by decide +kernel
theorem dX5_homeOf_19 : decode cX5_homeOf 19 = .ok (.aaload, 1) := by decide +kernel
theorem dX5_homeOf_20 : decode cX5_homeOf 20 = .ok (.getfield 196, 3) := by decide +kernel
theorem dX5_homeOf_23 : decode cX5_homeOf 23 = .ok (.aload_n 0, 1) := by decide +kernel
theorem dX5_homeOf_24 : decode cX5_homeOf 24 = .ok (.getfield 44, 3) := by decide +kernel
theorem dX5_homeOf_27 : decode cX5_homeOf 27 = .ok (.iload 4, 2) := by decide +kernel
theorem dX5_homeOf_29 : decode cX5_homeOf 29 = .ok (.aaload, 1) := by decide +kernel
theorem dX5_homeOf_30 : decode cX5_homeOf 30 = .ok (.invokevirtual 271, 3) := by decide +kernel
theorem dX5_homeOf_33 : decode cX5_homeOf 33 = .ok (.istore 5, 2) := by decide +kernel
theorem dX5_homeOf_35 : decode cX5_homeOf 35 = .ok (.iload 5, 2) := by decide +kernel
theorem dX5_homeOf_37 : decode cX5_homeOf 37 = .ok (.iload_n 3, 1) := by decide +kernel
theorem dX5_homeOf_38 : decode cX5_homeOf 38 = .ok (.if_icmp .le 9, 3) := by decide +kernel
theorem dX5_homeOf_41 : decode cX5_homeOf 41 = .ok (.iload 5, 2) := by decide +kernel
theorem dX5_homeOf_43 : decode cX5_homeOf 43 = .ok (.istore_n 3, 1) := by decide +kernel
theorem dX5_homeOf_44 : decode cX5_homeOf 44 = .ok (.iload 4, 2) := by decide +kernel
theorem dX5_homeOf_46 : decode cX5_homeOf 46 = .ok (.istore_n 2, 1) := by decide +kernel
theorem dX5_homeOf_47 : decode cX5_homeOf 47 = .ok (.iinc 4 1, 3) := by decide +kernel
theorem dX5_homeOf_50 : decode cX5_homeOf 50 = .ok (.goto (-42), 3) := by decide +kernel
theorem dX5_homeOf_53 : decode cX5_homeOf 53 = .ok (.iload_n 2, 1) := by decide +kernel
theorem dX5_homeOf_54 : decode cX5_homeOf 54 = .ok (.ireturn, 1) := by decide +kernel
theorem dX5_othersByChance_0 : decode cX5_othersByChance 0 = .ok (.aload_n 0, 1) := by decide +kernel
theorem dX5_othersByChance_1 : decode cX5_othersByChance 1 = .ok (.getfield 25, 3) := by decide +kernel
theorem dX5_othersByChance_4 : decode cX5_othersByChance 4 = .ok (.iload_n 1, 1) := by decide +kernel
theorem dX5_othersByChance_5 : decode cX5_othersByChance 5 = .ok (.aaload, 1) := by decide +kernel
theorem dX5_othersByChance_6 : decode cX5_othersByChance 6 = .ok (.getfield 196, 3) := by decide +kernel
theorem dX5_othersByChance_9 : decode cX5_othersByChance 9 = .ok (.aload_n 0, 1) := by decide +kernel
theorem dX5_othersByChance_10 : decode cX5_othersByChance 10 = .ok (.getfield 44, 3) := by decide +kernel
theorem dX5_othersByChance_13 : decode cX5_othersByChance 13 = .ok (.iload_n 2, 1) := by decide +kernel
theorem dX5_othersByChance_14 : decode cX5_othersByChance 14 = .ok (.aaload, 1) := by decide +kernel
theorem dX5_othersByChance_15 : decode cX5_othersByChance 15 = .ok (.invokevirtual 271, 3) := by decide +kernel
theorem dX5_othersByChance_18 : decode cX5_othersByChance 18 = .ok (.istore_n 3, 1) := by decide +kernel
theorem dX5_othersByChance_19 : decode cX5_othersByChance 19 = .ok (.iconst 0, 1) := by decide +kernel
theorem dX5_othersByChance_20 : decode cX5_othersByChance 20 = .ok (.istore 4, 2) := by decide +kernel
theorem dX5_othersByChance_22 : decode cX5_othersByChance 22 = .ok (.iconst 0, 1) := by decide +kernel
theorem dX5_othersByChance_23 : decode cX5_othersByChance 23 = .ok (.istore 5, 2) := by decide +kernel
theorem dX5_othersByChance_25 : decode cX5_othersByChance 25 = .ok (.iload 5, 2) := by decide +kernel
theorem dX5_othersByChance_27 : decode cX5_othersByChance 27 = .ok (.aload_n 0, 1) := by decide +kernel
theorem dX5_othersByChance_28 : decode cX5_othersByChance 28 = .ok (.getfield 29, 3) := by decide +kernel
theorem dX5_othersByChance_31 : decode cX5_othersByChance 31 = .ok (.if_icmp .ge 41, 3) := by decide +kernel
theorem dX5_othersByChance_34 : decode cX5_othersByChance 34 = .ok (.iload 5, 2) := by decide +kernel
theorem dX5_othersByChance_36 : decode cX5_othersByChance 36 = .ok (.iload_n 1, 1) := by decide +kernel
theorem dX5_othersByChance_37 : decode cX5_othersByChance 37 = .ok (.if_icmp .eq 29, 3) := by decide +kernel
theorem dX5_othersByChance_40 : decode cX5_othersByChance 40 = .ok (.aload_n 0, 1) := by decide +kernel
theorem dX5_othersByChance_41 : decode cX5_othersByChance 41 = .ok (.getfield 25, 3) := by decide +kernel
theorem dX5_othersByChance_44 : decode cX5_othersByChance 44 = .ok (.iload 5, 2) := by decide +kernel
theorem dX5_othersByChance_46 : decode cX5_othersByChance 46 = .ok (.aaload, 1) := by decide +kernel
theorem dX5_othersByChance_47 : decode cX5_othersByChance 47 = .ok (.getfield 196, 3) := by decide +kernel
theorem dX5_othersByChance_50 : decode cX5_othersByChance 50 = .ok (.aload_n 0, 1) := by decide +kernel
theorem dX5_othersByChance_51 : decode cX5_othersByChance 51 = .ok (.getfield 44, 3) := by decide +kernel
theorem dX5_othersByChance_54 : decode cX5_othersByChance 54 = .ok (.iload_n 2, 1) := by decide +kernel
theorem dX5_othersByChance_55 : decode cX5_othersByChance 55 = .ok (.aaload, 1) := by decide +kernel
theorem dX5_othersByChance_56 : decode cX5_othersByChance 56 = .ok (.invokevirtual 271, 3) := by decide +kernel
theorem dX5_othersByChance_59 : decode cX5_othersByChance 59 = .ok (.iload_n 3, 1) := by decide +kernel
theorem dX5_othersByChance_60 : decode cX5_othersByChance 60 = .ok (.if_icmp .lt 6, 3) := by decide +kernel
theorem dX5_othersByChance_63 : decode cX5_othersByChance 63 = .ok (.iinc 4 1, 3) := by decide +kernel
theorem dX5_othersByChance_66 : decode cX5_othersByChance 66 = .ok (.iinc 5 1, 3) := by decide +kernel
theorem dX5_othersByChance_69 : decode cX5_othersByChance 69 = .ok (.goto (-44), 3) := by decide +kernel
theorem dX5_othersByChance_72 : decode cX5_othersByChance 72 = .ok (.iload 4, 2) := by decide +kernel
theorem dX5_othersByChance_74 : decode cX5_othersByChance 74 = .ok (.ireturn, 1) := by decide +kernel
theorem dJ6_bitCount_0f7a4_0 : decode cJ6_bitCount_0f7a4 0 = .ok (.iload_n 0, 1) := by decide +kernel
theorem dJ6_bitCount_0f7a4_1 : decode cJ6_bitCount_0f7a4 1 = .ok (.iload_n 0, 1) := by decide +kernel
theorem dJ6_bitCount_0f7a4_2 : decode cJ6_bitCount_0f7a4 2 = .ok (.iconst 1, 1) := by decide +kernel
theorem dJ6_bitCount_0f7a4_3 : decode cJ6_bitCount_0f7a4 3 = .ok (.iushr, 1) := by decide +kernel
theorem dJ6_bitCount_0f7a4_4 : decode cJ6_bitCount_0f7a4 4 = .ok (.ldc_w 265, 3) := by decide +kernel
theorem dJ6_bitCount_0f7a4_7 : decode cJ6_bitCount_0f7a4 7 = .ok (.iand, 1) := by decide +kernel
theorem dJ6_bitCount_0f7a4_8 : decode cJ6_bitCount_0f7a4 8 = .ok (.isub, 1) := by decide +kernel
theorem dJ6_bitCount_0f7a4_9 : decode cJ6_bitCount_0f7a4 9 = .ok (.istore_n 0, 1) := by decide +kernel
theorem dJ6_bitCount_0f7a4_10 : decode cJ6_bitCount_0f7a4 10 = .ok (.iload_n 0, 1) := by decide +kernel
theorem dJ6_bitCount_0f7a4_11 : decode cJ6_bitCount_0f7a4 11 = .ok (.ldc_w 266, 3) := by decide +kernel
theorem dJ6_bitCount_0f7a4_14 : decode cJ6_bitCount_0f7a4 14 = .ok (.iand, 1) := by decide +kernel
theorem dJ6_bitCount_0f7a4_15 : decode cJ6_bitCount_0f7a4 15 = .ok (.iload_n 0, 1) := by decide +kernel
theorem dJ6_bitCount_0f7a4_16 : decode cJ6_bitCount_0f7a4 16 = .ok (.iconst 2, 1) := by decide +kernel
theorem dJ6_bitCount_0f7a4_17 : decode cJ6_bitCount_0f7a4 17 = .ok (.iushr, 1) := by decide +kernel
theorem dJ6_bitCount_0f7a4_18 : decode cJ6_bitCount_0f7a4 18 = .ok (.ldc_w 266, 3) := by decide +kernel
theorem dJ6_bitCount_0f7a4_21 : decode cJ6_bitCount_0f7a4 21 = .ok (.iand, 1) := by decide +kernel
theorem dJ6_bitCount_0f7a4_22 : decode cJ6_bitCount_0f7a4 22 = .ok (.iadd, 1) := by decide +kernel
theorem dJ6_bitCount_0f7a4_23 : decode cJ6_bitCount_0f7a4 23 = .ok (.istore_n 0, 1) := by decide +kernel
theorem dJ6_bitCount_0f7a4_24 : decode cJ6_bitCount_0f7a4 24 = .ok (.iload_n 0, 1) := by decide +kernel
theorem dJ6_bitCount_0f7a4_25 : decode cJ6_bitCount_0f7a4 25 = .ok (.iload_n 0, 1) := by decide +kernel
theorem dJ6_bitCount_0f7a4_26 : decode cJ6_bitCount_0f7a4 26 = .ok (.iconst 4, 1) := by decide +kernel
theorem dJ6_bitCount_0f7a4_27 : decode cJ6_bitCount_0f7a4 27 = .ok (.iushr, 1) := by decide +kernel
theorem dJ6_bitCount_0f7a4_28 : decode cJ6_bitCount_0f7a4 28 = .ok (.iadd, 1) := by decide +kernel
theorem dJ6_bitCount_0f7a4_29 : decode cJ6_bitCount_0f7a4 29 = .ok (.ldc_w 267, 3) := by decide +kernel
theorem dJ6_bitCount_0f7a4_32 : decode cJ6_bitCount_0f7a4 32 = .ok (.iand, 1) := by decide +kernel
theorem dJ6_bitCount_0f7a4_33 : decode cJ6_bitCount_0f7a4 33 = .ok (.istore_n 0, 1) := by decide +kernel
theorem dJ6_bitCount_0f7a4_34 : decode cJ6_bitCount_0f7a4 34 = .ok (.iload_n 0, 1) := by decide +kernel
theorem dJ6_bitCount_0f7a4_35 : decode cJ6_bitCount_0f7a4 35 = .ok (.iload_n 0, 1) := by decide +kernel
theorem dJ6_bitCount_0f7a4_36 : decode cJ6_bitCount_0f7a4 36 = .ok (.bipush 8, 2) := by decide +kernel
theorem dJ6_bitCount_0f7a4_38 : decode cJ6_bitCount_0f7a4 38 = .ok (.iushr, 1) := by decide +kernel
theorem dJ6_bitCount_0f7a4_39 : decode cJ6_bitCount_0f7a4 39 = .ok (.iadd, 1) := by decide +kernel
theorem dJ6_bitCount_0f7a4_40 : decode cJ6_bitCount_0f7a4 40 = .ok (.istore_n 0, 1) := by decide +kernel
theorem dJ6_bitCount_0f7a4_41 : decode cJ6_bitCount_0f7a4 41 = .ok (.iload_n 0, 1) := by decide +kernel
theorem dJ6_bitCount_0f7a4_42 : decode cJ6_bitCount_0f7a4 42 = .ok (.iload_n 0, 1) := by decide +kernel
theorem dJ6_bitCount_0f7a4_43 : decode cJ6_bitCount_0f7a4 43 = .ok (.bipush 16, 2) := by decide +kernel
theorem dJ6_bitCount_0f7a4_45 : decode cJ6_bitCount_0f7a4 45 = .ok (.iushr, 1) := by decide +kernel
theorem dJ6_bitCount_0f7a4_46 : decode cJ6_bitCount_0f7a4 46 = .ok (.iadd, 1) := by decide +kernel
theorem dJ6_bitCount_0f7a4_47 : decode cJ6_bitCount_0f7a4 47 = .ok (.istore_n 0, 1) := by decide +kernel
theorem dJ6_bitCount_0f7a4_48 : decode cJ6_bitCount_0f7a4 48 = .ok (.iload_n 0, 1) := by decide +kernel
theorem dJ6_bitCount_0f7a4_49 : decode cJ6_bitCount_0f7a4 49 = .ok (.bipush 63, 2) := by decide +kernel
theorem dJ6_bitCount_0f7a4_51 : decode cJ6_bitCount_0f7a4 51 = .ok (.iand, 1) := by decide +kernel
theorem dJ6_bitCount_0f7a4_52 : decode cJ6_bitCount_0f7a4 52 = .ok (.ireturn, 1) := by decide +kernel
theorem dJ9_abs_0f7a4_0 : decode cJ9_abs_0f7a4 0 = .ok (.iload_n 0, 1) := by decide +kernel
theorem dJ9_abs_0f7a4_1 : decode cJ9_abs_0f7a4 1 = .ok (.ifCond .ge 8, 3) := by decide +kernel
theorem dJ9_abs_0f7a4_4 : decode cJ9_abs_0f7a4 4 = .ok (.iload_n 0, 1) := by decide +kernel
theorem dJ9_abs_0f7a4_5 : decode cJ9_abs_0f7a4 5 = .ok (.ineg, 1) := by decide +kernel
theorem dJ9_abs_0f7a4_6 : decode cJ9_abs_0f7a4 6 = .ok (.goto 4, 3) := by decide +kernel
theorem dJ9_abs_0f7a4_9 : decode cJ9_abs_0f7a4 9 = .ok (.iload_n 0, 1) := by decide +kernel
theorem dJ9_abs_0f7a4_10 : decode cJ9_abs_0f7a4 10 = .ok (.ireturn, 1) := by decide +kernel
theorem dJ9_max_7cf53_0 : decode cJ9_max_7cf53 0 = .ok (.iload_n 0, 1) := by decide +kernel
theorem dJ9_max_7cf53_1 : decode cJ9_max_7cf53 1 = .ok (.iload_n 1, 1) := by decide +kernel
theorem dJ9_max_7cf53_2 : decode cJ9_max_7cf53 2 = .ok (.if_icmp .lt 7, 3) := by decide +kernel
theorem dJ9_max_7cf53_5 : decode cJ9_max_7cf53 5 = .ok (.iload_n 0, 1) := by decide +kernel
theorem dJ9_max_7cf53_6 : decode cJ9_max_7cf53 6 = .ok (.goto 4, 3) := by decide +kernel
theorem dJ9_max_7cf53_9 : decode cJ9_max_7cf53 9 = .ok (.iload_n 1, 1) := by decide +kernel
theorem dJ9_max_7cf53_10 : decode cJ9_max_7cf53 10 = .ok (.ireturn, 1) := by decide +kernel
theorem dJ9_min_7cf53_0 : decode cJ9_min_7cf53 0 = .ok (.iload_n 0, 1) := by decide +kernel
theorem dJ9_min_7cf53_1 : decode cJ9_min_7cf53 1 = .ok (.iload_n 1, 1) := by decide +kernel
theorem dJ9_min_7cf53_2 : decode cJ9_min_7cf53 2 = .ok (.if_icmp .gt 7, 3) := by decide +kernel
theorem dJ9_min_7cf53_5 : decode cJ9_min_7cf53 5 = .ok (.iload_n 0, 1) := by decide +kernel
theorem dJ9_min_7cf53_6 : decode cJ9_min_7cf53 6 = .ok (.goto 4, 3) := by decide +kernel
theorem dJ9_min_7cf53_9 : decode cJ9_min_7cf53 9 = .ok (.iload_n 1, 1) := by decide +kernel
theorem dJ9_min_7cf53_10 : decode cJ9_min_7cf53 10 = .ok (.ireturn, 1) := by decide +kernel
