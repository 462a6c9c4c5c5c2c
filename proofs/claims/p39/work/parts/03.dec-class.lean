theorem dX0_init_0 : decode cX0_init 0 = .ok (.aload_n 0, 1) := by decide +kernel
theorem dX0_init_1 : decode cX0_init 1 = .ok (.invokespecial 3, 3) := by decide +kernel
theorem dX0_init_4 : decode cX0_init 4 = .ok (.aload_n 0, 1) := by decide +kernel
theorem dX0_init_5 : decode cX0_init 5 = .ok (.bipush 6, 2) := by decide +kernel
theorem dX0_init_7 : decode cX0_init 7 = .ok (.newarray .int, 2) := by decide +kernel
theorem dX0_init_9 : decode cX0_init 9 = .ok (.putfield 9, 3) := by decide +kernel
theorem dX0_init_12 : decode cX0_init 12 = .ok (.aload_n 0, 1) := by decide +kernel
theorem dX0_init_13 : decode cX0_init 13 = .ok (.bipush 6, 2) := by decide +kernel
theorem dX0_init_15 : decode cX0_init 15 = .ok (.newarray .int, 2) := by decide +kernel
theorem dX0_init_17 : decode cX0_init 17 = .ok (.putfield 15, 3) := by decide +kernel
theorem dX0_init_20 : decode cX0_init 20 = .ok (.aload_n 0, 1) := by decide +kernel
theorem dX0_init_21 : decode cX0_init 21 = .ok (.bipush 6, 2) := by decide +kernel
theorem dX0_init_23 : decode cX0_init 23 = .ok (.newarray .int, 2) := by decide +kernel
theorem dX0_init_25 : decode cX0_init 25 = .ok (.putfield 18, 3) := by decide +kernel
theorem dX0_init_28 : decode cX0_init 28 = .ok (.aload_n 0, 1) := by decide +kernel
theorem dX0_init_29 : decode cX0_init 29 = .ok (.bipush 6, 2) := by decide +kernel
theorem dX0_init_31 : decode cX0_init 31 = .ok (.newarray .int, 2) := by decide +kernel
theorem dX0_init_33 : decode cX0_init 33 = .ok (.putfield 21, 3) := by decide +kernel
theorem dX0_init_36 : decode cX0_init 36 = .ok (.aload_n 0, 1) := by decide +kernel
theorem dX0_init_37 : decode cX0_init 37 = .ok (.iconst 3, 1) := by decide +kernel
theorem dX0_init_38 : decode cX0_init 38 = .ok (.putfield 24, 3) := by decide +kernel
theorem dX0_init_41 : decode cX0_init 41 = .ok (.return_, 1) := by decide +kernel
theorem dX0_copyFrom_0 : decode cX0_copyFrom 0 = .ok (.iconst 0, 1) := by decide +kernel
theorem dX0_copyFrom_1 : decode cX0_copyFrom 1 = .ok (.istore_n 2, 1) := by decide +kernel
theorem dX0_copyFrom_2 : decode cX0_copyFrom 2 = .ok (.iload_n 2, 1) := by decide +kernel
theorem dX0_copyFrom_3 : decode cX0_copyFrom 3 = .ok (.bipush 6, 2) := by decide +kernel
theorem dX0_copyFrom_5 : decode cX0_copyFrom 5 = .ok (.if_icmp .ge 57, 3) := by decide +kernel
theorem dX0_copyFrom_8 : decode cX0_copyFrom 8 = .ok (.aload_n 0, 1) := by decide +kernel
theorem dX0_copyFrom_9 : decode cX0_copyFrom 9 = .ok (.getfield 9, 3) := by decide +kernel
theorem dX0_copyFrom_12 : decode cX0_copyFrom 12 = .ok (.iload_n 2, 1) := by decide +kernel
theorem dX0_copyFrom_13 : decode cX0_copyFrom 13 = .ok (.aload_n 1, 1) := by decide +kernel
theorem dX0_copyFrom_14 : decode cX0_copyFrom 14 = .ok (.getfield 9, 3) := by decide +kernel
theorem dX0_copyFrom_17 : decode cX0_copyFrom 17 = .ok (.iload_n 2, 1) := by decide +kernel
theorem dX0_copyFrom_18 : decode cX0_copyFrom 18 = .ok (.iaload, 1) := by decide +kernel
theorem dX0_copyFrom_19 : decode cX0_copyFrom 19 = .ok (.iastore, 1) := by decide +kernel
theorem dX0_copyFrom_20 : decode cX0_copyFrom 20 = .ok (.aload_n 0, 1) := by decide +kernel
theorem dX0_copyFrom_21 : decode cX0_copyFrom 21 = .ok (.getfield 15, 3) := by decide +kernel
theorem dX0_copyFrom_24 : decode cX0_copyFrom 24 = .ok (.iload_n 2, 1) := by decide +kernel
theorem dX0_copyFrom_25 : decode cX0_copyFrom 25 = .ok (.aload_n 1, 1) := by decide +kernel
theorem dX0_copyFrom_26 : decode cX0_copyFrom 26 = .ok (.getfield 15, 3) := by decide +kernel
theorem dX0_copyFrom_29 : decode cX0_copyFrom 29 = .ok (.iload_n 2, 1) := by decide +kernel
theorem dX0_copyFrom_30 : decode cX0_copyFrom 30 = .ok (.iaload, 1) := by decide +kernel
theorem dX0_copyFrom_31 : decode cX0_copyFrom 31 = .ok (.iastore, 1) := by decide +kernel
theorem dX0_copyFrom_32 : decode cX0_copyFrom 32 = .ok (.aload_n 0, 1) := by decide +kernel
theorem dX0_copyFrom_33 : decode cX0_copyFrom 33 = .ok (.getfield 18, 3) := by decide +kernel
theorem dX0_copyFrom_36 : decode cX0_copyFrom 36 = .ok (.iload_n 2, 1) := by decide +kernel
theorem dX0_copyFrom_37 : decode cX0_copyFrom 37 = .ok (.aload_n 1, 1) := by decide +kernel
theorem dX0_copyFrom_38 : decode cX0_copyFrom 38 = .ok (.getfield 18, 3) := by decide +kernel
theorem dX0_copyFrom_41 : decode cX0_copyFrom 41 = .ok (.iload_n 2, 1) := by decide +kernel
theorem dX0_copyFrom_42 : decode cX0_copyFrom 42 = .ok (.iaload, 1) := by decide +kernel
theorem dX0_copyFrom_43 : decode cX0_copyFrom 43 = .ok (.iastore, 1) := by decide +kernel
theorem dX0_copyFrom_44 : decode cX0_copyFrom 44 = .ok (.aload_n 0, 1) := by decide +kernel
theorem dX0_copyFrom_45 : decode cX0_copyFrom 45 = .ok (.getfield 21, 3) := by decide +kernel
theorem dX0_copyFrom_48 : decode cX0_copyFrom 48 = .ok (.iload_n 2, 1) := by decide +kernel
theorem dX0_copyFrom_49 : decode cX0_copyFrom 49 = .ok (.aload_n 1, 1) := by decide +kernel
theorem dX0_copyFrom_50 : decode cX0_copyFrom 50 = .ok (.getfield 21, 3) := by decide +kernel
theorem dX0_copyFrom_53 : decode cX0_copyFrom 53 = .ok (.iload_n 2, 1) := by decide +kernel
theorem dX0_copyFrom_54 : decode cX0_copyFrom 54 = .ok (.iaload, 1) := by decide +kernel
theorem dX0_copyFrom_55 : decode cX0_copyFrom 55 = .ok (.iastore, 1) := by decide +kernel
theorem dX0_copyFrom_56 : decode cX0_copyFrom 56 = .ok (.iinc 2 1, 3) := by decide +kernel
theorem dX0_copyFrom_59 : decode cX0_copyFrom 59 = .ok (.goto (-57), 3) := by decide +kernel
theorem dX0_copyFrom_62 : decode cX0_copyFrom 62 = .ok (.aload_n 0, 1) := by decide +kernel
theorem dX0_copyFrom_63 : decode cX0_copyFrom 63 = .ok (.aload_n 1, 1) := by decide +kernel
theorem dX0_copyFrom_64 : decode cX0_copyFrom 64 = .ok (.getfield 24, 3) := by decide +kernel
theorem dX0_copyFrom_67 : decode cX0_copyFrom 67 = .ok (.putfield 24, 3) := by decide +kernel
theorem dX0_copyFrom_70 : decode cX0_copyFrom 70 = .ok (.aload_n 0, 1) := by decide +kernel
theorem dX0_copyFrom_71 : decode cX0_copyFrom 71 = .ok (.aload_n 1, 1) := by decide +kernel
theorem dX0_copyFrom_72 : decode cX0_copyFrom 72 = .ok (.getfield 28, 3) := by decide +kernel
theorem dX0_copyFrom_75 : decode cX0_copyFrom 75 = .ok (.putfield 28, 3) := by decide +kernel
theorem dX0_copyFrom_78 : decode cX0_copyFrom 78 = .ok (.return_, 1) := by decide +kernel
theorem dX0_keep_0 : decode cX0_keep 0 = .ok (.aload_n 0, 1) := by decide +kernel
theorem dX0_keep_1 : decode cX0_keep 1 = .ok (.getfield 28, 3) := by decide +kernel
theorem dX0_keep_4 : decode cX0_keep 4 = .ok (.aload_n 0, 1) := by decide +kernel
theorem dX0_keep_5 : decode cX0_keep 5 = .ok (.getfield 24, 3) := by decide +kernel
theorem dX0_keep_8 : decode cX0_keep 8 = .ok (.if_icmp .lt 18, 3) := by decide +kernel
theorem dX0_keep_11 : decode cX0_keep 11 = .ok (.aload_n 0, 1) := by decide +kernel
theorem dX0_keep_12 : decode cX0_keep 12 = .ok (.aload_n 0, 1) := by decide +kernel
theorem dX0_keep_13 : decode cX0_keep 13 = .ok (.getfield 28, 3) := by decide +kernel
theorem dX0_keep_16 : decode cX0_keep 16 = .ok (.aload_n 0, 1) := by decide +kernel
theorem dX0_keep_17 : decode cX0_keep 17 = .ok (.getfield 24, 3) := by decide +kernel
theorem dX0_keep_20 : decode cX0_keep 20 = .ok (.isub, 1) := by decide +kernel
theorem dX0_keep_21 : decode cX0_keep 21 = .ok (.iconst 1, 1) := by decide +kernel
theorem dX0_keep_22 : decode cX0_keep 22 = .ok (.iadd, 1) := by decide +kernel
theorem dX0_keep_23 : decode cX0_keep 23 = .ok (.invokevirtual 31, 3) := by decide +kernel
theorem dX0_keep_26 : decode cX0_keep 26 = .ok (.aload_n 0, 1) := by decide +kernel
theorem dX0_keep_27 : decode cX0_keep 27 = .ok (.getfield 9, 3) := by decide +kernel
theorem dX0_keep_30 : decode cX0_keep 30 = .ok (.aload_n 0, 1) := by decide +kernel
theorem dX0_keep_31 : decode cX0_keep 31 = .ok (.getfield 28, 3) := by decide +kernel
theorem dX0_keep_34 : decode cX0_keep 34 = .ok (.iload_n 1, 1) := by decide +kernel
theorem dX0_keep_35 : decode cX0_keep 35 = .ok (.iastore, 1) := by decide +kernel
theorem dX0_keep_36 : decode cX0_keep 36 = .ok (.aload_n 0, 1) := by decide +kernel
theorem dX0_keep_37 : decode cX0_keep 37 = .ok (.getfield 15, 3) := by decide +kernel
theorem dX0_keep_40 : decode cX0_keep 40 = .ok (.aload_n 0, 1) := by decide +kernel
theorem dX0_keep_41 : decode cX0_keep 41 = .ok (.getfield 28, 3) := by decide +kernel
theorem dX0_keep_44 : decode cX0_keep 44 = .ok (.iload_n 2, 1) := by decide +kernel
theorem dX0_keep_45 : decode cX0_keep 45 = .ok (.iastore, 1) := by decide +kernel
theorem dX0_keep_46 : decode cX0_keep 46 = .ok (.aload_n 0, 1) := by decide +kernel
theorem dX0_keep_47 : decode cX0_keep 47 = .ok (.getfield 18, 3) := by decide +kernel
theorem dX0_keep_50 : decode cX0_keep 50 = .ok (.aload_n 0, 1) := by decide +kernel
theorem dX0_keep_51 : decode cX0_keep 51 = .ok (.getfield 28, 3) := by decide +kernel
theorem dX0_keep_54 : decode cX0_keep 54 = .ok (.iload_n 3, 1) := by decide +kernel
theorem dX0_keep_55 : decode cX0_keep 55 = .ok (.iastore, 1) := by decide +kernel
theorem dX0_keep_56 : decode cX0_keep 56 = .ok (.aload_n 0, 1) := by decide +kernel
theorem dX0_keep_57 : decode cX0_keep 57 = .ok (.getfield 21, 3) := by decide +kernel
theorem dX0_keep_60 : decode cX0_keep 60 = .ok (.aload_n 0, 1) := by decide +kernel
theorem dX0_keep_61 : decode cX0_keep 61 = .ok (.getfield 28, 3) := by decide +kernel
theorem dX0_keep_64 : decode cX0_keep 64 = .ok (.iconst 1, 1) := by decide +kernel
theorem dX0_keep_65 : decode cX0_keep 65 = .ok (.iload_n 2, 1) := by decide +kernel
theorem dX0_keep_66 : decode cX0_keep 66 = .ok (.iload_n 3, 1) := by decide +kernel
theorem dX0_keep_67 : decode cX0_keep 67 = .ok (.ior, 1) := by decide +kernel
theorem dX0_keep_68 : decode cX0_keep 68 = .ok (.invokestatic 35, 3) := by decide +kernel
theorem dX0_keep_71 : decode cX0_keep 71 = .ok (.iadd, 1) := by decide +kernel
theorem dX0_keep_72 : decode cX0_keep 72 = .ok (.iastore, 1) := by decide +kernel
theorem dX0_keep_73 : decode cX0_keep 73 = .ok (.aload_n 0, 1) := by decide +kernel
theorem dX0_keep_74 : decode cX0_keep 74 = .ok (.dup, 1) := by decide +kernel
theorem dX0_keep_75 : decode cX0_keep 75 = .ok (.getfield 28, 3) := by decide +kernel
theorem dX0_keep_78 : decode cX0_keep 78 = .ok (.iconst 1, 1) := by decide +kernel
theorem dX0_keep_79 : decode cX0_keep 79 = .ok (.iadd, 1) := by decide +kernel
theorem dX0_keep_80 : decode cX0_keep 80 = .ok (.putfield 28, 3) := by decide +kernel
theorem dX0_keep_83 : decode cX0_keep 83 = .ok (.return_, 1) := by decide +kernel
theorem dX0_limitTo_0 : decode cX0_limitTo 0 = .ok (.aload_n 0, 1) := by decide +kernel
theorem dX0_limitTo_1 : decode cX0_limitTo 1 = .ok (.iload_n 1, 1) := by decide +kernel
theorem dX0_limitTo_2 : decode cX0_limitTo 2 = .ok (.putfield 24, 3) := by decide +kernel
theorem dX0_limitTo_5 : decode cX0_limitTo 5 = .ok (.aload_n 0, 1) := by decide +kernel
theorem dX0_limitTo_6 : decode cX0_limitTo 6 = .ok (.getfield 28, 3) := by decide +kernel
theorem dX0_limitTo_9 : decode cX0_limitTo 9 = .ok (.aload_n 0, 1) := by decide +kernel
theorem dX0_limitTo_10 : decode cX0_limitTo 10 = .ok (.getfield 24, 3) := by decide +kernel
theorem dX0_limitTo_13 : decode cX0_limitTo 13 = .ok (.if_icmp .le 16, 3) := by decide +kernel
theorem dX0_limitTo_16 : decode cX0_limitTo 16 = .ok (.aload_n 0, 1) := by decide +kernel
theorem dX0_limitTo_17 : decode cX0_limitTo 17 = .ok (.aload_n 0, 1) := by decide +kernel
theorem dX0_limitTo_18 : decode cX0_limitTo 18 = .ok (.getfield 28, 3) := by decide +kernel
theorem dX0_limitTo_21 : decode cX0_limitTo 21 = .ok (.aload_n 0, 1) := by decide +kernel
theorem dX0_limitTo_22 : decode cX0_limitTo 22 = .ok (.getfield 24, 3) := by decide +kernel
theorem dX0_limitTo_25 : decode cX0_limitTo 25 = .ok (.isub, 1) := by decide +kernel
theorem dX0_limitTo_26 : decode cX0_limitTo 26 = .ok (.invokevirtual 31, 3) := by decide +kernel
theorem dX0_limitTo_29 : decode cX0_limitTo 29 = .ok (.return_, 1) := by decide +kernel
theorem dX0_dropAll_0 : decode cX0_dropAll 0 = .ok (.aload_n 0, 1) := by decide +kernel
theorem dX0_dropAll_1 : decode cX0_dropAll 1 = .ok (.iconst 0, 1) := by decide +kernel
theorem dX0_dropAll_2 : decode cX0_dropAll 2 = .ok (.putfield 28, 3) := by decide +kernel
theorem dX0_dropAll_5 : decode cX0_dropAll 5 = .ok (.return_, 1) := by decide +kernel
theorem dX0_dropOldest_0 : decode cX0_dropOldest 0 = .ok (.iload_n 1, 1) := by decide +kernel
theorem dX0_dropOldest_1 : decode cX0_dropOldest 1 = .ok (.istore_n 2, 1) := by decide +kernel
theorem dX0_dropOldest_2 : decode cX0_dropOldest 2 = .ok (.iload_n 2, 1) := by decide +kernel
theorem dX0_dropOldest_3 : decode cX0_dropOldest 3 = .ok (.aload_n 0, 1) := by decide +kernel
theorem dX0_dropOldest_4 : decode cX0_dropOldest 4 = .ok (.getfield 28, 3) := by decide +kernel
theorem dX0_dropOldest_7 : decode cX0_dropOldest 7 = .ok (.if_icmp .ge 65, 3) := by decide +kernel
theorem dX0_dropOldest_10 : decode cX0_dropOldest 10 = .ok (.aload_n 0, 1) := by decide +kernel
theorem dX0_dropOldest_11 : decode cX0_dropOldest 11 = .ok (.getfield 9, 3) := by decide +kernel
theorem dX0_dropOldest_14 : decode cX0_dropOldest 14 = .ok (.iload_n 2, 1) := by decide +kernel
theorem dX0_dropOldest_15 : decode cX0_dropOldest 15 = .ok (.iload_n 1, 1) := by decide +kernel
theorem dX0_dropOldest_16 : decode cX0_dropOldest 16 = .ok (.isub, 1) := by decide +kernel
theorem dX0_dropOldest_17 : decode cX0_dropOldest 17 = .ok (.aload_n 0, 1) := by decide +kernel
theorem dX0_dropOldest_18 : decode cX0_dropOldest 18 = .ok (.getfield 9, 3) := by decide +kernel
theorem dX0_dropOldest_21 : decode cX0_dropOldest 21 = .ok (.iload_n 2, 1) := by decide +kernel
theorem dX0_dropOldest_22 : decode cX0_dropOldest 22 = .ok (.iaload, 1) := by decide +kernel
theorem dX0_dropOldest_23 : decode cX0_dropOldest 23 = .ok (.iastore, 1) := by decide +kernel
theorem dX0_dropOldest_24 : decode cX0_dropOldest 24 = .ok (.aload_n 0, 1) := by decide +kernel
theorem dX0_dropOldest_25 : decode cX0_dropOldest 25 = .ok (.getfield 15, 3) := by decide +kernel
theorem dX0_dropOldest_28 : decode cX0_dropOldest 28 = .ok (.iload_n 2, 1) := by decide +kernel
theorem dX0_dropOldest_29 : decode cX0_dropOldest 29 = .ok (.iload_n 1, 1) := by decide +kernel
theorem dX0_dropOldest_30 : decode cX0_dropOldest 30 = .ok (.isub, 1) := by decide +kernel
theorem dX0_dropOldest_31 : decode cX0_dropOldest 31 = .ok (.aload_n 0, 1) := by decide +kernel
theorem dX0_dropOldest_32 : decode cX0_dropOldest 32 = .ok (.getfield 15, 3) := by decide +kernel
theorem dX0_dropOldest_35 : decode cX0_dropOldest 35 = .ok (.iload_n 2, 1) := by decide +kernel
theorem dX0_dropOldest_36 : decode cX0_dropOldest 36 = .ok (.iaload, 1) := by decide +kernel
theorem dX0_dropOldest_37 : decode cX0_dropOldest 37 = .ok (.iastore, 1) := by decide +kernel
theorem dX0_dropOldest_38 : decode cX0_dropOldest 38 = .ok (.aload_n 0, 1) := by decide +kernel
theorem dX0_dropOldest_39 : decode cX0_dropOldest 39 = .ok (.getfield 18, 3) := by decide +kernel
theorem dX0_dropOldest_42 : decode cX0_dropOldest 42 = .ok (.iload_n 2, 1) := by decide +kernel
theorem dX0_dropOldest_43 : decode cX0_dropOldest 43 = .ok (.iload_n 1, 1) := by decide +kernel
theorem dX0_dropOldest_44 : decode cX0_dropOldest 44 = .ok (.isub, 1) := by decide +kernel
theorem dX0_dropOldest_45 : decode cX0_dropOldest 45 = .ok (.aload_n 0, 1) := by decide +kernel
theorem dX0_dropOldest_46 : decode cX0_dropOldest 46 = .ok (.getfield 18, 3) := by decide +kernel
theorem dX0_dropOldest_49 : decode cX0_dropOldest 49 = .ok (.iload_n 2, 1) := by decide +kernel
theorem dX0_dropOldest_50 : decode cX0_dropOldest 50 = .ok (.iaload, 1) := by decide +kernel
theorem dX0_dropOldest_51 : decode cX0_dropOldest 51 = .ok (.iastore, 1) := by decide +kernel
theorem dX0_dropOldest_52 : decode cX0_dropOldest 52 = .ok (.aload_n 0, 1) := by decide +kernel
theorem dX0_dropOldest_53 : decode cX0_dropOldest 53 = .ok (.getfield 21, 3) := by decide +kernel
theorem dX0_dropOldest_56 : decode cX0_dropOldest 56 = .ok (.iload_n 2, 1) := by decide +kernel
theorem dX0_dropOldest_57 : decode cX0_dropOldest 57 = .ok (.iload_n 1, 1) := by decide +kernel
theorem dX0_dropOldest_58 : decode cX0_dropOldest 58 = .ok (.isub, 1) := by decide +kernel
theorem dX0_dropOldest_59 : decode cX0_dropOldest 59 = .ok (.aload_n 0, 1) := by decide +kernel
theorem dX0_dropOldest_60 : decode cX0_dropOldest 60 = .ok (.getfield 21, 3) := by decide +kernel
theorem dX0_dropOldest_63 : decode cX0_dropOldest 63 = .ok (.iload_n 2, 1) := by decide +kernel
theorem dX0_dropOldest_64 : decode cX0_dropOldest 64 = .ok (.iaload, 1) := by decide +kernel
theorem dX0_dropOldest_65 : decode cX0_dropOldest 65 = .ok (.iastore, 1) := by decide +kernel
theorem dX0_dropOldest_66 : decode cX0_dropOldest 66 = .ok (.iinc 2 1, 3) := by decide +kernel
theorem dX0_dropOldest_69 : decode cX0_dropOldest 69 = .ok (.goto (-67), 3) := by decide +kernel
theorem dX0_dropOldest_72 : decode cX0_dropOldest 72 = .ok (.aload_n 0, 1) := by decide +kernel
theorem dX0_dropOldest_73 : decode cX0_dropOldest 73 = .ok (.dup, 1) := by decide +kernel
theorem dX0_dropOldest_74 : decode cX0_dropOldest 74 = .ok (.getfield 28, 3) := by decide +kernel
theorem dX0_dropOldest_77 : decode cX0_dropOldest 77 = .ok (.iload_n 1, 1) := by decide +kernel
theorem dX0_dropOldest_78 : decode cX0_dropOldest 78 = .ok (.isub, 1) := by decide +kernel
theorem dX0_dropOldest_79 : decode cX0_dropOldest 79 = .ok (.putfield 28, 3) := by decide +kernel
theorem dX0_dropOldest_82 : decode cX0_dropOldest 82 = .ok (.return_, 1) := by decide +kernel
theorem dX0_costSince_0 : decode cX0_costSince 0 = .ok (.iconst 0, 1) := by decide +kernel
theorem dX0_costSince_1 : decode cX0_costSince 1 = .ok (.istore_n 2, 1) := by decide +kernel
theorem dX0_costSince_2 : decode cX0_costSince 2 = .ok (.aload_n 0, 1) := by decide +kernel
theorem dX0_costSince_3 : decode cX0_costSince 3 = .ok (.getfield 28, 3) := by decide +kernel
theorem dX0_costSince_6 : decode cX0_costSince 6 = .ok (.iconst 1, 1) := by decide +kernel
theorem dX0_costSince_7 : decode cX0_costSince 7 = .ok (.isub, 1) := by decide +kernel
theorem dX0_costSince_8 : decode cX0_costSince 8 = .ok (.istore_n 3, 1) := by decide +kernel
theorem dX0_costSince_9 : decode cX0_costSince 9 = .ok (.iload_n 3, 1) := by decide +kernel
theorem dX0_costSince_10 : decode cX0_costSince 10 = .ok (.ifCond .lt 30, 3) := by decide +kernel
theorem dX0_costSince_13 : decode cX0_costSince 13 = .ok (.iload_n 2, 1) := by decide +kernel
theorem dX0_costSince_14 : decode cX0_costSince 14 = .ok (.aload_n 0, 1) := by decide +kernel
theorem dX0_costSince_15 : decode cX0_costSince 15 = .ok (.getfield 21, 3) := by decide +kernel
theorem dX0_costSince_18 : decode cX0_costSince 18 = .ok (.iload_n 3, 1) := by decide +kernel
theorem dX0_costSince_19 : decode cX0_costSince 19 = .ok (.iaload, 1) := by decide +kernel
theorem dX0_costSince_20 : decode cX0_costSince 20 = .ok (.iadd, 1) := by decide +kernel
theorem dX0_costSince_21 : decode cX0_costSince 21 = .ok (.istore_n 2, 1) := by decide +kernel
theorem dX0_costSince_22 : decode cX0_costSince 22 = .ok (.aload_n 0, 1) := by decide +kernel
theorem dX0_costSince_23 : decode cX0_costSince 23 = .ok (.getfield 9, 3) := by decide +kernel
theorem dX0_costSince_26 : decode cX0_costSince 26 = .ok (.iload_n 3, 1) := by decide +kernel
theorem dX0_costSince_27 : decode cX0_costSince 27 = .ok (.iaload, 1) := by decide +kernel
theorem dX0_costSince_28 : decode cX0_costSince 28 = .ok (.iload_n 1, 1) := by decide +kernel
theorem dX0_costSince_29 : decode cX0_costSince 29 = .ok (.if_icmp .ne 5, 3) := by decide +kernel
theorem dX0_costSince_32 : decode cX0_costSince 32 = .ok (.iload_n 2, 1) := by decide +kernel
theorem dX0_costSince_33 : decode cX0_costSince 33 = .ok (.ireturn, 1) := by decide +kernel
theorem dX0_costSince_34 : decode cX0_costSince 34 = .ok (.iinc 3 (-1), 3) := by decide +kernel
theorem dX0_costSince_37 : decode cX0_costSince 37 = .ok (.goto (-28), 3) := by decide +kernel
theorem dX0_costSince_40 : decode cX0_costSince 40 = .ok (.iconst (-1), 1) := by decide +kernel
theorem dX0_costSince_41 : decode cX0_costSince 41 = .ok (.ireturn, 1) := by decide +kernel
theorem dX0_appliedSince_0 : decode cX0_appliedSince 0 = .ok (.iload_n 2, 1) := by decide +kernel
theorem dX0_appliedSince_1 : decode cX0_appliedSince 1 = .ok (.istore_n 3, 1) := by decide +kernel
theorem dX0_appliedSince_2 : decode cX0_appliedSince 2 = .ok (.iconst 0, 1) := by decide +kernel
theorem dX0_appliedSince_3 : decode cX0_appliedSince 3 = .ok (.istore 4, 2) := by decide +kernel
theorem dX0_appliedSince_5 : decode cX0_appliedSince 5 = .ok (.iconst 0, 1) := by decide +kernel
theorem dX0_appliedSince_6 : decode cX0_appliedSince 6 = .ok (.istore 5, 2) := by decide +kernel
theorem dX0_appliedSince_8 : decode cX0_appliedSince 8 = .ok (.iload 5, 2) := by decide +kernel
theorem dX0_appliedSince_10 : decode cX0_appliedSince 10 = .ok (.aload_n 0, 1) := by decide +kernel
theorem dX0_appliedSince_11 : decode cX0_appliedSince 11 = .ok (.getfield 28, 3) := by decide +kernel
theorem dX0_appliedSince_14 : decode cX0_appliedSince 14 = .ok (.if_icmp .ge 57, 3) := by decide +kernel
theorem dX0_appliedSince_17 : decode cX0_appliedSince 17 = .ok (.iload 4, 2) := by decide +kernel
theorem dX0_appliedSince_19 : decode cX0_appliedSince 19 = .ok (.ifCond .ne 14, 3) := by decide +kernel
theorem dX0_appliedSince_22 : decode cX0_appliedSince 22 = .ok (.aload_n 0, 1) := by decide +kernel
theorem dX0_appliedSince_23 : decode cX0_appliedSince 23 = .ok (.getfield 9, 3) := by decide +kernel
theorem dX0_appliedSince_26 : decode cX0_appliedSince 26 = .ok (.iload 5, 2) := by decide +kernel
theorem dX0_appliedSince_28 : decode cX0_appliedSince 28 = .ok (.iaload, 1) := by decide +kernel
theorem dX0_appliedSince_29 : decode cX0_appliedSince 29 = .ok (.iload_n 1, 1) := by decide +kernel
theorem dX0_appliedSince_30 : decode cX0_appliedSince 30 = .ok (.if_icmp .ne 7, 3) := by decide +kernel
theorem dX0_appliedSince_33 : decode cX0_appliedSince 33 = .ok (.iconst 1, 1) := by decide +kernel
theorem dX0_appliedSince_34 : decode cX0_appliedSince 34 = .ok (.goto 4, 3) := by decide +kernel
theorem dX0_appliedSince_37 : decode cX0_appliedSince 37 = .ok (.iconst 0, 1) := by decide +kernel
theorem dX0_appliedSince_38 : decode cX0_appliedSince 38 = .ok (.istore 4, 2) := by decide +kernel
theorem dX0_appliedSince_40 : decode cX0_appliedSince 40 = .ok (.iload 4, 2) := by decide +kernel
theorem dX0_appliedSince_42 : decode cX0_appliedSince 42 = .ok (.ifCond .eq 23, 3) := by decide +kernel
theorem dX0_appliedSince_45 : decode cX0_appliedSince 45 = .ok (.iload_n 3, 1) := by decide +kernel
theorem dX0_appliedSince_46 : decode cX0_appliedSince 46 = .ok (.aload_n 0, 1) := by decide +kernel
theorem dX0_appliedSince_47 : decode cX0_appliedSince 47 = .ok (.getfield 15, 3) := by decide +kernel
theorem dX0_appliedSince_50 : decode cX0_appliedSince 50 = .ok (.iload 5, 2) := by decide +kernel
theorem dX0_appliedSince_52 : decode cX0_appliedSince 52 = .ok (.iaload, 1) := by decide +kernel
theorem dX0_appliedSince_53 : decode cX0_appliedSince 53 = .ok (.iconst (-1), 1) := by decide +kernel
theorem dX0_appliedSince_54 : decode cX0_appliedSince 54 = .ok (.ixor, 1) := by decide +kernel
theorem dX0_appliedSince_55 : decode cX0_appliedSince 55 = .ok (.iand, 1) := by decide +kernel
theorem dX0_appliedSince_56 : decode cX0_appliedSince 56 = .ok (.aload_n 0, 1) := by decide +kernel
theorem dX0_appliedSince_57 : decode cX0_appliedSince 57 = .ok (.getfield 18, 3) := by decide +kernel
theorem dX0_appliedSince_60 : decode cX0_appliedSince 60 = .ok (.iload 5, 2) := by decide +kernel
theorem dX0_appliedSince_62 : decode cX0_appliedSince 62 = .ok (.iaload, 1) := by decide +kernel
theorem dX0_appliedSince_63 : decode cX0_appliedSince 63 = .ok (.ior, 1) := by decide +kernel
theorem dX0_appliedSince_64 : decode cX0_appliedSince 64 = .ok (.istore_n 3, 1) := by decide +kernel
theorem dX0_appliedSince_65 : decode cX0_appliedSince 65 = .ok (.iinc 5 1, 3) := by decide +kernel
theorem dX0_appliedSince_68 : decode cX0_appliedSince 68 = .ok (.goto (-60), 3) := by decide +kernel
theorem dX0_appliedSince_71 : decode cX0_appliedSince 71 = .ok (.iload_n 3, 1) := by decide +kernel
theorem dX0_appliedSince_72 : decode cX0_appliedSince 72 = .ok (.ireturn, 1) := by decide +kernel
theorem dX1_init_0 : decode cX1_init 0 = .ok (.aload_n 0, 1) := by decide +kernel
theorem dX1_init_1 : decode cX1_init 1 = .ok (.invokespecial 3, 3) := by decide +kernel
theorem dX1_init_4 : decode cX1_init 4 = .ok (.return_, 1) := by decide +kernel
theorem dX1_copyFrom_0 : decode cX1_copyFrom 0 = .ok (.aload_n 0, 1) := by decide +kernel
theorem dX1_copyFrom_1 : decode cX1_copyFrom 1 = .ok (.aload_n 1, 1) := by decide +kernel
theorem dX1_copyFrom_2 : decode cX1_copyFrom 2 = .ok (.getfield 9, 3) := by decide +kernel
theorem dX1_copyFrom_5 : decode cX1_copyFrom 5 = .ok (.putfield 9, 3) := by decide +kernel
theorem dX1_copyFrom_8 : decode cX1_copyFrom 8 = .ok (.aload_n 0, 1) := by decide +kernel
theorem dX1_copyFrom_9 : decode cX1_copyFrom 9 = .ok (.aload_n 1, 1) := by decide +kernel
theorem dX1_copyFrom_10 : decode cX1_copyFrom 10 = .ok (.getfield 15, 3) := by decide +kernel
theorem dX1_copyFrom_13 : decode cX1_copyFrom 13 = .ok (.putfield 15, 3) := by decide +kernel
theorem dX1_copyFrom_16 : decode cX1_copyFrom 16 = .ok (.aload_n 0, 1) := by decide +kernel
theorem dX1_copyFrom_17 : decode cX1_copyFrom 17 = .ok (.aload_n 1, 1) := by decide +kernel
theorem dX1_copyFrom_18 : decode cX1_copyFrom 18 = .ok (.getfield 19, 3) := by decide +kernel
theorem dX1_copyFrom_21 : decode cX1_copyFrom 21 = .ok (.putfield 19, 3) := by decide +kernel
theorem dX1_copyFrom_24 : decode cX1_copyFrom 24 = .ok (.aload_n 0, 1) := by decide +kernel
theorem dX1_copyFrom_25 : decode cX1_copyFrom 25 = .ok (.aload_n 1, 1) := by decide +kernel
theorem dX1_copyFrom_26 : decode cX1_copyFrom 26 = .ok (.getfield 22, 3) := by decide +kernel
theorem dX1_copyFrom_29 : decode cX1_copyFrom 29 = .ok (.putfield 22, 3) := by decide +kernel
theorem dX1_copyFrom_32 : decode cX1_copyFrom 32 = .ok (.aload_n 0, 1) := by decide +kernel
theorem dX1_copyFrom_33 : decode cX1_copyFrom 33 = .ok (.aload_n 1, 1) := by decide +kernel
theorem dX1_copyFrom_34 : decode cX1_copyFrom 34 = .ok (.getfield 25, 3) := by decide +kernel
theorem dX1_copyFrom_37 : decode cX1_copyFrom 37 = .ok (.putfield 25, 3) := by decide +kernel
theorem dX1_copyFrom_40 : decode cX1_copyFrom 40 = .ok (.aload_n 0, 1) := by decide +kernel
theorem dX1_copyFrom_41 : decode cX1_copyFrom 41 = .ok (.aload_n 1, 1) := by decide +kernel
theorem dX1_copyFrom_42 : decode cX1_copyFrom 42 = .ok (.getfield 28, 3) := by decide +kernel
theorem dX1_copyFrom_45 : decode cX1_copyFrom 45 = .ok (.putfield 28, 3) := by decide +kernel
theorem dX1_copyFrom_48 : decode cX1_copyFrom 48 = .ok (.aload_n 0, 1) := by decide +kernel
theorem dX1_copyFrom_49 : decode cX1_copyFrom 49 = .ok (.aload_n 1, 1) := by decide +kernel
theorem dX1_copyFrom_50 : decode cX1_copyFrom 50 = .ok (.getfield 31, 3) := by decide +kernel
theorem dX1_copyFrom_53 : decode cX1_copyFrom 53 = .ok (.putfield 31, 3) := by decide +kernel
theorem dX1_copyFrom_56 : decode cX1_copyFrom 56 = .ok (.return_, 1) := by decide +kernel
theorem dX1_loseList_0 : decode cX1_loseList 0 = .ok (.aload_n 0, 1) := by decide +kernel
theorem dX1_loseList_1 : decode cX1_loseList 1 = .ok (.iconst 0, 1) := by decide +kernel
theorem dX1_loseList_2 : decode cX1_loseList 2 = .ok (.putfield 9, 3) := by decide +kernel
theorem dX1_loseList_5 : decode cX1_loseList 5 = .ok (.aload_n 0, 1) := by decide +kernel
theorem dX1_loseList_6 : decode cX1_loseList 6 = .ok (.iconst 0, 1) := by decide +kernel
theorem dX1_loseList_7 : decode cX1_loseList 7 = .ok (.putfield 15, 3) := by decide +kernel
theorem dX1_loseList_10 : decode cX1_loseList 10 = .ok (.return_, 1) := by decide +kernel
theorem dX1_editionOrNone_0 : decode cX1_editionOrNone 0 = .ok (.aload_n 0, 1) := by decide +kernel
theorem dX1_editionOrNone_1 : decode cX1_editionOrNone 1 = .ok (.getfield 9, 3) := by decide +kernel
theorem dX1_editionOrNone_4 : decode cX1_editionOrNone 4 = .ok (.ifCond .eq 10, 3) := by decide +kernel
theorem dX1_editionOrNone_7 : decode cX1_editionOrNone 7 = .ok (.aload_n 0, 1) := by decide +kernel
theorem dX1_editionOrNone_8 : decode cX1_editionOrNone 8 = .ok (.getfield 19, 3) := by decide +kernel
theorem dX1_editionOrNone_11 : decode cX1_editionOrNone 11 = .ok (.goto 4, 3) := by decide +kernel
theorem dX1_editionOrNone_14 : decode cX1_editionOrNone 14 = .ok (.iconst (-1), 1) := by decide +kernel
theorem dX1_editionOrNone_15 : decode cX1_editionOrNone 15 = .ok (.ireturn, 1) := by decide +kernel
theorem dX1_sizeOrNone_0 : decode cX1_sizeOrNone 0 = .ok (.aload_n 0, 1) := by decide +kernel
theorem dX1_sizeOrNone_1 : decode cX1_sizeOrNone 1 = .ok (.getfield 9, 3) := by decide +kernel
theorem dX1_sizeOrNone_4 : decode cX1_sizeOrNone 4 = .ok (.ifCond .eq 13, 3) := by decide +kernel
theorem dX1_sizeOrNone_7 : decode cX1_sizeOrNone 7 = .ok (.aload_n 0, 1) := by decide +kernel
theorem dX1_sizeOrNone_8 : decode cX1_sizeOrNone 8 = .ok (.getfield 15, 3) := by decide +kernel
theorem dX1_sizeOrNone_11 : decode cX1_sizeOrNone 11 = .ok (.invokestatic 34, 3) := by decide +kernel
theorem dX1_sizeOrNone_14 : decode cX1_sizeOrNone 14 = .ok (.goto 4, 3) := by decide +kernel
theorem dX1_sizeOrNone_17 : decode cX1_sizeOrNone 17 = .ok (.iconst (-1), 1) := by decide +kernel
theorem dX1_sizeOrNone_18 : decode cX1_sizeOrNone 18 = .ok (.ireturn, 1) := by decide +kernel
theorem dX1_wrongOrNone_0 : decode cX1_wrongOrNone 0 = .ok (.aload_n 0, 1) := by decide +kernel
theorem dX1_wrongOrNone_1 : decode cX1_wrongOrNone 1 = .ok (.getfield 9, 3) := by decide +kernel
theorem dX1_wrongOrNone_4 : decode cX1_wrongOrNone 4 = .ok (.ifCond .eq 15, 3) := by decide +kernel
theorem dX1_wrongOrNone_7 : decode cX1_wrongOrNone 7 = .ok (.aload_n 0, 1) := by decide +kernel
theorem dX1_wrongOrNone_8 : decode cX1_wrongOrNone 8 = .ok (.getfield 15, 3) := by decide +kernel
theorem dX1_wrongOrNone_11 : decode cX1_wrongOrNone 11 = .ok (.iload_n 1, 1) := by decide +kernel
theorem dX1_wrongOrNone_12 : decode cX1_wrongOrNone 12 = .ok (.ixor, 1) := by decide +kernel
theorem dX1_wrongOrNone_13 : decode cX1_wrongOrNone 13 = .ok (.invokestatic 34, 3) := by decide +kernel
theorem dX1_wrongOrNone_16 : decode cX1_wrongOrNone 16 = .ok (.goto 4, 3) := by decide +kernel
theorem dX1_wrongOrNone_19 : decode cX1_wrongOrNone 19 = .ok (.iconst (-1), 1) := by decide +kernel
theorem dX1_wrongOrNone_20 : decode cX1_wrongOrNone 20 = .ok (.ireturn, 1) := by decide +kernel
theorem dX1_knows_0 : decode cX1_knows 0 = .ok (.aload_n 0, 1) := by decide +kernel
theorem dX1_knows_1 : decode cX1_knows 1 = .ok (.getfield 15, 3) := by decide +kernel
theorem dX1_knows_4 : decode cX1_knows 4 = .ok (.iload_n 1, 1) := by decide +kernel
theorem dX1_knows_5 : decode cX1_knows 5 = .ok (.invokestatic 40, 3) := by decide +kernel
theorem dX1_knows_8 : decode cX1_knows 8 = .ok (.ireturn, 1) := by decide +kernel
theorem dX1_attentionNumber_0 : decode cX1_attentionNumber 0 = .ok (.aload_n 0, 1) := by decide +kernel
theorem dX1_attentionNumber_1 : decode cX1_attentionNumber 1 = .ok (.getfield 25, 3) := by decide +kernel
theorem dX1_attentionNumber_4 : decode cX1_attentionNumber 4 = .ok (.ifCond .eq 7, 3) := by decide +kernel
theorem dX1_attentionNumber_7 : decode cX1_attentionNumber 7 = .ok (.iconst 1, 1) := by decide +kernel
theorem dX1_attentionNumber_8 : decode cX1_attentionNumber 8 = .ok (.goto 4, 3) := by decide +kernel
theorem dX1_attentionNumber_11 : decode cX1_attentionNumber 11 = .ok (.iconst 0, 1) := by decide +kernel
theorem dX1_attentionNumber_12 : decode cX1_attentionNumber 12 = .ok (.aload_n 0, 1) := by decide +kernel
theorem dX1_attentionNumber_13 : decode cX1_attentionNumber 13 = .ok (.getfield 22, 3) := by decide +kernel
theorem dX1_attentionNumber_16 : decode cX1_attentionNumber 16 = .ok (.ifCond .eq 7, 3) := by decide +kernel
theorem dX1_attentionNumber_19 : decode cX1_attentionNumber 19 = .ok (.iconst 2, 1) := by decide +kernel
theorem dX1_attentionNumber_20 : decode cX1_attentionNumber 20 = .ok (.goto 4, 3) := by decide +kernel
theorem dX1_attentionNumber_23 : decode cX1_attentionNumber 23 = .ok (.iconst 0, 1) := by decide +kernel
theorem dX1_attentionNumber_24 : decode cX1_attentionNumber 24 = .ok (.iadd, 1) := by decide +kernel
theorem dX1_attentionNumber_25 : decode cX1_attentionNumber 25 = .ok (.ireturn, 1) := by decide +kernel
theorem dX2_init_0 : decode cX2_init 0 = .ok (.aload_n 0, 1) := by decide +kernel
theorem dX2_init_1 : decode cX2_init 1 = .ok (.invokespecial 3, 3) := by decide +kernel
theorem dX2_init_4 : decode cX2_init 4 = .ok (.aload_n 0, 1) := by decide +kernel
theorem dX2_init_5 : decode cX2_init 5 = .ok (.bipush 60, 2) := by decide +kernel
theorem dX2_init_7 : decode cX2_init 7 = .ok (.newarray .int, 2) := by decide +kernel
theorem dX2_init_9 : decode cX2_init 9 = .ok (.putfield 9, 3) := by decide +kernel
theorem dX2_init_12 : decode cX2_init 12 = .ok (.return_, 1) := by decide +kernel
theorem dX3_init_0 : decode cX3_init 0 = .ok (.aload_n 0, 1) := by decide +kernel
theorem dX3_init_1 : decode cX3_init 1 = .ok (.invokespecial 3, 3) := by decide +kernel
theorem dX3_init_4 : decode cX3_init 4 = .ok (.aload_n 0, 1) := by decide +kernel
theorem dX3_init_5 : decode cX3_init 5 = .ok (.new 9, 3) := by decide +kernel
theorem dX3_init_8 : decode cX3_init 8 = .ok (.dup, 1) := by decide +kernel
theorem dX3_init_9 : decode cX3_init 9 = .ok (.invokespecial 11, 3) := by decide +kernel
theorem dX3_init_12 : decode cX3_init 12 = .ok (.putfield 12, 3) := by decide +kernel
theorem dX3_init_15 : decode cX3_init 15 = .ok (.return_, 1) := by decide +kernel
theorem dX3_copyFrom_0 : decode cX3_copyFrom 0 = .ok (.aload_n 0, 1) := by decide +kernel
theorem dX3_copyFrom_1 : decode cX3_copyFrom 1 = .ok (.aload_n 1, 1) := by decide +kernel
theorem dX3_copyFrom_2 : decode cX3_copyFrom 2 = .ok (.getfield 18, 3) := by decide +kernel
theorem dX3_copyFrom_5 : decode cX3_copyFrom 5 = .ok (.putfield 18, 3) := by decide +kernel
theorem dX3_copyFrom_8 : decode cX3_copyFrom 8 = .ok (.aload_n 0, 1) := by decide +kernel
theorem dX3_copyFrom_9 : decode cX3_copyFrom 9 = .ok (.aload_n 1, 1) := by decide +kernel
theorem dX3_copyFrom_10 : decode cX3_copyFrom 10 = .ok (.getfield 22, 3) := by decide +kernel
theorem dX3_copyFrom_13 : decode cX3_copyFrom 13 = .ok (.putfield 22, 3) := by decide +kernel
theorem dX3_copyFrom_16 : decode cX3_copyFrom 16 = .ok (.aload_n 0, 1) := by decide +kernel
theorem dX3_copyFrom_17 : decode cX3_copyFrom 17 = .ok (.aload_n 1, 1) := by decide +kernel
theorem dX3_copyFrom_18 : decode cX3_copyFrom 18 = .ok (.getfield 25, 3) := by decide +kernel
theorem dX3_copyFrom_21 : decode cX3_copyFrom 21 = .ok (.putfield 25, 3) := by decide +kernel
theorem dX3_copyFrom_24 : decode cX3_copyFrom 24 = .ok (.aload_n 0, 1) := by decide +kernel
theorem dX3_copyFrom_25 : decode cX3_copyFrom 25 = .ok (.getfield 12, 3) := by decide +kernel
theorem dX3_copyFrom_28 : decode cX3_copyFrom 28 = .ok (.aload_n 1, 1) := by decide +kernel
theorem dX3_copyFrom_29 : decode cX3_copyFrom 29 = .ok (.getfield 12, 3) := by decide +kernel
theorem dX3_copyFrom_32 : decode cX3_copyFrom 32 = .ok (.invokevirtual 28, 3) := by decide +kernel
theorem dX3_copyFrom_35 : decode cX3_copyFrom 35 = .ok (.return_, 1) := by decide +kernel
theorem dX3_mayAdd_0 : decode cX3_mayAdd 0 = .ok (.iload_n 1, 1) := by decide +kernel
theorem dX3_mayAdd_1 : decode cX3_mayAdd 1 = .ok (.invokestatic 32, 3) := by decide +kernel
theorem dX3_mayAdd_4 : decode cX3_mayAdd 4 = .ok (.ifCond .eq 18, 3) := by decide +kernel
theorem dX3_mayAdd_7 : decode cX3_mayAdd 7 = .ok (.aload_n 0, 1) := by decide +kernel
theorem dX3_mayAdd_8 : decode cX3_mayAdd 8 = .ok (.getfield 18, 3) := by decide +kernel
theorem dX3_mayAdd_11 : decode cX3_mayAdd 11 = .ok (.iload_n 1, 1) := by decide +kernel
theorem dX3_mayAdd_12 : decode cX3_mayAdd 12 = .ok (.invokestatic 36, 3) := by decide +kernel
theorem dX3_mayAdd_15 : decode cX3_mayAdd 15 = .ok (.ifCond .ne 7, 3) := by decide +kernel
theorem dX3_mayAdd_18 : decode cX3_mayAdd 18 = .ok (.iconst 1, 1) := by decide +kernel
theorem dX3_mayAdd_19 : decode cX3_mayAdd 19 = .ok (.goto 4, 3) := by decide +kernel
theorem dX3_mayAdd_22 : decode cX3_mayAdd 22 = .ok (.iconst 0, 1) := by decide +kernel
theorem dX3_mayAdd_23 : decode cX3_mayAdd 23 = .ok (.ireturn, 1) := by decide +kernel
theorem dX3_mayCrossOut_0 : decode cX3_mayCrossOut 0 = .ok (.iload_n 1, 1) := by decide +kernel
theorem dX3_mayCrossOut_1 : decode cX3_mayCrossOut 1 = .ok (.invokestatic 32, 3) := by decide +kernel
theorem dX3_mayCrossOut_4 : decode cX3_mayCrossOut 4 = .ok (.ifCond .eq 18, 3) := by decide +kernel
theorem dX3_mayCrossOut_7 : decode cX3_mayCrossOut 7 = .ok (.aload_n 0, 1) := by decide +kernel
theorem dX3_mayCrossOut_8 : decode cX3_mayCrossOut 8 = .ok (.getfield 18, 3) := by decide +kernel
theorem dX3_mayCrossOut_11 : decode cX3_mayCrossOut 11 = .ok (.iload_n 1, 1) := by decide +kernel
theorem dX3_mayCrossOut_12 : decode cX3_mayCrossOut 12 = .ok (.invokestatic 36, 3) := by decide +kernel
theorem dX3_mayCrossOut_15 : decode cX3_mayCrossOut 15 = .ok (.ifCond .eq 7, 3) := by decide +kernel
theorem dX3_mayCrossOut_18 : decode cX3_mayCrossOut 18 = .ok (.iconst 1, 1) := by decide +kernel
theorem dX3_mayCrossOut_19 : decode cX3_mayCrossOut 19 = .ok (.goto 4, 3) := by decide +kernel
theorem dX3_mayCrossOut_22 : decode cX3_mayCrossOut 22 = .ok (.iconst 0, 1) := by decide +kernel
theorem dX3_mayCrossOut_23 : decode cX3_mayCrossOut 23 = .ok (.ireturn, 1) := by decide +kernel
theorem dX3_mayPublish_0 : decode cX3_mayPublish 0 = .ok (.aload_n 0, 1) := by decide +kernel
theorem dX3_mayPublish_1 : decode cX3_mayPublish 1 = .ok (.getfield 18, 3) := by decide +kernel
theorem dX3_mayPublish_4 : decode cX3_mayPublish 4 = .ok (.aload_n 0, 1) := by decide +kernel
theorem dX3_mayPublish_5 : decode cX3_mayPublish 5 = .ok (.getfield 22, 3) := by decide +kernel
theorem dX3_mayPublish_8 : decode cX3_mayPublish 8 = .ok (.if_icmp .eq 7, 3) := by decide +kernel
theorem dX3_mayPublish_11 : decode cX3_mayPublish 11 = .ok (.iconst 1, 1) := by decide +kernel
theorem dX3_mayPublish_12 : decode cX3_mayPublish 12 = .ok (.goto 4, 3) := by decide +kernel
theorem dX3_mayPublish_15 : decode cX3_mayPublish 15 = .ok (.iconst 0, 1) := by decide +kernel
theorem dX3_mayPublish_16 : decode cX3_mayPublish 16 = .ok (.ireturn, 1) := by decide +kernel
theorem dX3_mayTakeNumber_0 : decode cX3_mayTakeNumber 0 = .ok (.iload_n 1, 1) := by decide +kernel
theorem dX3_mayTakeNumber_1 : decode cX3_mayTakeNumber 1 = .ok (.invokestatic 40, 3) := by decide +kernel
theorem dX3_mayTakeNumber_4 : decode cX3_mayTakeNumber 4 = .ok (.ifCond .eq 15, 3) := by decide +kernel
theorem dX3_mayTakeNumber_7 : decode cX3_mayTakeNumber 7 = .ok (.iload_n 1, 1) := by decide +kernel
theorem dX3_mayTakeNumber_8 : decode cX3_mayTakeNumber 8 = .ok (.aload_n 0, 1) := by decide +kernel
theorem dX3_mayTakeNumber_9 : decode cX3_mayTakeNumber 9 = .ok (.getfield 25, 3) := by decide +kernel
theorem dX3_mayTakeNumber_12 : decode cX3_mayTakeNumber 12 = .ok (.if_icmp .eq 7, 3) := by decide +kernel
theorem dX3_mayTakeNumber_15 : decode cX3_mayTakeNumber 15 = .ok (.iconst 1, 1) := by decide +kernel
theorem dX3_mayTakeNumber_16 : decode cX3_mayTakeNumber 16 = .ok (.goto 4, 3) := by decide +kernel
theorem dX3_mayTakeNumber_19 : decode cX3_mayTakeNumber 19 = .ok (.iconst 0, 1) := by decide +kernel
theorem dX3_mayTakeNumber_20 : decode cX3_mayTakeNumber 20 = .ok (.ireturn, 1) := by decide +kernel
theorem dX3_addToDraft_0 : decode cX3_addToDraft 0 = .ok (.aload_n 0, 1) := by decide +kernel
theorem dX3_addToDraft_1 : decode cX3_addToDraft 1 = .ok (.dup, 1) := by decide +kernel
theorem dX3_addToDraft_2 : decode cX3_addToDraft 2 = .ok (.getfield 18, 3) := by decide +kernel
theorem dX3_addToDraft_5 : decode cX3_addToDraft 5 = .ok (.iconst 1, 1) := by decide +kernel
theorem dX3_addToDraft_6 : decode cX3_addToDraft 6 = .ok (.iload_n 1, 1) := by decide +kernel
theorem dX3_addToDraft_7 : decode cX3_addToDraft 7 = .ok (.ishl, 1) := by decide +kernel
theorem dX3_addToDraft_8 : decode cX3_addToDraft 8 = .ok (.ior, 1) := by decide +kernel
theorem dX3_addToDraft_9 : decode cX3_addToDraft 9 = .ok (.putfield 18, 3) := by decide +kernel
theorem dX3_addToDraft_12 : decode cX3_addToDraft 12 = .ok (.return_, 1) := by decide +kernel
theorem dX3_takeOutOfDraft_0 : decode cX3_takeOutOfDraft 0 = .ok (.aload_n 0, 1) := by decide +kernel
theorem dX3_takeOutOfDraft_1 : decode cX3_takeOutOfDraft 1 = .ok (.dup, 1) := by decide +kernel
theorem dX3_takeOutOfDraft_2 : decode cX3_takeOutOfDraft 2 = .ok (.getfield 18, 3) := by decide +kernel
theorem dX3_takeOutOfDraft_5 : decode cX3_takeOutOfDraft 5 = .ok (.iconst 1, 1) := by decide +kernel
theorem dX3_takeOutOfDraft_6 : decode cX3_takeOutOfDraft 6 = .ok (.iload_n 1, 1) := by decide +kernel
theorem dX3_takeOutOfDraft_7 : decode cX3_takeOutOfDraft 7 = .ok (.ishl, 1) := by decide +kernel
theorem dX3_takeOutOfDraft_8 : decode cX3_takeOutOfDraft 8 = .ok (.iconst (-1), 1) := by decide +kernel
theorem dX3_takeOutOfDraft_9 : decode cX3_takeOutOfDraft 9 = .ok (.ixor, 1) := by decide +kernel
theorem dX3_takeOutOfDraft_10 : decode cX3_takeOutOfDraft 10 = .ok (.iand, 1) := by decide +kernel
theorem dX3_takeOutOfDraft_11 : decode cX3_takeOutOfDraft 11 = .ok (.putfield 18, 3) := by decide +kernel
theorem dX3_takeOutOfDraft_14 : decode cX3_takeOutOfDraft 14 = .ok (.return_, 1) := by decide +kernel
theorem dX3_issueDraft_0 : decode cX3_issueDraft 0 = .ok (.aload_n 0, 1) := by decide +kernel
theorem dX3_issueDraft_1 : decode cX3_issueDraft 1 = .ok (.getfield 12, 3) := by decide +kernel
theorem dX3_issueDraft_4 : decode cX3_issueDraft 4 = .ok (.aload_n 0, 1) := by decide +kernel
theorem dX3_issueDraft_5 : decode cX3_issueDraft 5 = .ok (.getfield 25, 3) := by decide +kernel
theorem dX3_issueDraft_8 : decode cX3_issueDraft 8 = .ok (.aload_n 0, 1) := by decide +kernel
theorem dX3_issueDraft_9 : decode cX3_issueDraft 9 = .ok (.getfield 22, 3) := by decide +kernel
theorem dX3_issueDraft_12 : decode cX3_issueDraft 12 = .ok (.aload_n 0, 1) := by decide +kernel
theorem dX3_issueDraft_13 : decode cX3_issueDraft 13 = .ok (.getfield 18, 3) := by decide +kernel
theorem dX3_issueDraft_16 : decode cX3_issueDraft 16 = .ok (.iconst (-1), 1) := by decide +kernel
theorem dX3_issueDraft_17 : decode cX3_issueDraft 17 = .ok (.ixor, 1) := by decide +kernel
theorem dX3_issueDraft_18 : decode cX3_issueDraft 18 = .ok (.iand, 1) := by decide +kernel
theorem dX3_issueDraft_19 : decode cX3_issueDraft 19 = .ok (.aload_n 0, 1) := by decide +kernel
theorem dX3_issueDraft_20 : decode cX3_issueDraft 20 = .ok (.getfield 18, 3) := by decide +kernel
theorem dX3_issueDraft_23 : decode cX3_issueDraft 23 = .ok (.aload_n 0, 1) := by decide +kernel
theorem dX3_issueDraft_24 : decode cX3_issueDraft 24 = .ok (.getfield 22, 3) := by decide +kernel
theorem dX3_issueDraft_27 : decode cX3_issueDraft 27 = .ok (.iconst (-1), 1) := by decide +kernel
theorem dX3_issueDraft_28 : decode cX3_issueDraft 28 = .ok (.ixor, 1) := by decide +kernel
theorem dX3_issueDraft_29 : decode cX3_issueDraft 29 = .ok (.iand, 1) := by decide +kernel
theorem dX3_issueDraft_30 : decode cX3_issueDraft 30 = .ok (.invokevirtual 43, 3) := by decide +kernel
theorem dX3_issueDraft_33 : decode cX3_issueDraft 33 = .ok (.aload_n 0, 1) := by decide +kernel
theorem dX3_issueDraft_34 : decode cX3_issueDraft 34 = .ok (.aload_n 0, 1) := by decide +kernel
theorem dX3_issueDraft_35 : decode cX3_issueDraft 35 = .ok (.getfield 18, 3) := by decide +kernel
theorem dX3_issueDraft_38 : decode cX3_issueDraft 38 = .ok (.putfield 22, 3) := by decide +kernel
theorem dX3_issueDraft_41 : decode cX3_issueDraft 41 = .ok (.aload_n 0, 1) := by decide +kernel
theorem dX3_issueDraft_42 : decode cX3_issueDraft 42 = .ok (.aload_n 0, 1) := by decide +kernel
theorem dX3_issueDraft_43 : decode cX3_issueDraft 43 = .ok (.getfield 25, 3) := by decide +kernel
theorem dX3_issueDraft_46 : decode cX3_issueDraft 46 = .ok (.iconst 1, 1) := by decide +kernel
theorem dX3_issueDraft_47 : decode cX3_issueDraft 47 = .ok (.iadd, 1) := by decide +kernel
theorem dX3_issueDraft_48 : decode cX3_issueDraft 48 = .ok (.bipush 16, 2) := by decide +kernel
theorem dX3_issueDraft_50 : decode cX3_issueDraft 50 = .ok (.irem, 1) := by decide +kernel
theorem dX3_issueDraft_51 : decode cX3_issueDraft 51 = .ok (.putfield 25, 3) := by decide +kernel
theorem dX3_issueDraft_54 : decode cX3_issueDraft 54 = .ok (.return_, 1) := by decide +kernel
theorem dX3_takeNumber_0 : decode cX3_takeNumber 0 = .ok (.aload_n 0, 1) := by decide +kernel
theorem dX3_takeNumber_1 : decode cX3_takeNumber 1 = .ok (.iload_n 1, 1) := by decide +kernel
theorem dX3_takeNumber_2 : decode cX3_takeNumber 2 = .ok (.putfield 25, 3) := by decide +kernel
theorem dX3_takeNumber_5 : decode cX3_takeNumber 5 = .ok (.aload_n 0, 1) := by decide +kernel
theorem dX3_takeNumber_6 : decode cX3_takeNumber 6 = .ok (.getfield 12, 3) := by decide +kernel
theorem dX3_takeNumber_9 : decode cX3_takeNumber 9 = .ok (.invokevirtual 47, 3) := by decide +kernel
theorem dX3_takeNumber_12 : decode cX3_takeNumber 12 = .ok (.return_, 1) := by decide +kernel
theorem dX3_placeOf_0 : decode cX3_placeOf 0 = .ok (.aload_n 0, 1) := by decide +kernel
theorem dX3_placeOf_1 : decode cX3_placeOf 1 = .ok (.getfield 18, 3) := by decide +kernel
theorem dX3_placeOf_4 : decode cX3_placeOf 4 = .ok (.iload_n 1, 1) := by decide +kernel
theorem dX3_placeOf_5 : decode cX3_placeOf 5 = .ok (.invokestatic 36, 3) := by decide +kernel
theorem dX3_placeOf_8 : decode cX3_placeOf 8 = .ok (.ifCond .eq 7, 3) := by decide +kernel
theorem dX3_placeOf_11 : decode cX3_placeOf 11 = .ok (.iconst 1, 1) := by decide +kernel
theorem dX3_placeOf_12 : decode cX3_placeOf 12 = .ok (.goto 4, 3) := by decide +kernel
theorem dX3_placeOf_15 : decode cX3_placeOf 15 = .ok (.iconst 0, 1) := by decide +kernel
theorem dX3_placeOf_16 : decode cX3_placeOf 16 = .ok (.istore_n 2, 1) := by decide +kernel
theorem dX3_placeOf_17 : decode cX3_placeOf 17 = .ok (.aload_n 0, 1) := by decide +kernel
theorem dX3_placeOf_18 : decode cX3_placeOf 18 = .ok (.getfield 22, 3) := by decide +kernel
theorem dX3_placeOf_21 : decode cX3_placeOf 21 = .ok (.iload_n 1, 1) := by decide +kernel
theorem dX3_placeOf_22 : decode cX3_placeOf 22 = .ok (.invokestatic 36, 3) := by decide +kernel
theorem dX3_placeOf_25 : decode cX3_placeOf 25 = .ok (.ifCond .eq 7, 3) := by decide +kernel
theorem dX3_placeOf_28 : decode cX3_placeOf 28 = .ok (.iconst 2, 1) := by decide +kernel
theorem dX3_placeOf_29 : decode cX3_placeOf 29 = .ok (.goto 4, 3) := by decide +kernel
theorem dX3_placeOf_32 : decode cX3_placeOf 32 = .ok (.iconst 0, 1) := by decide +kernel
theorem dX3_placeOf_33 : decode cX3_placeOf 33 = .ok (.istore_n 3, 1) := by decide +kernel
theorem dX3_placeOf_34 : decode cX3_placeOf 34 = .ok (.iload_n 2, 1) := by decide +kernel
theorem dX3_placeOf_35 : decode cX3_placeOf 35 = .ok (.iload_n 3, 1) := by decide +kernel
theorem dX3_placeOf_36 : decode cX3_placeOf 36 = .ok (.iadd, 1) := by decide +kernel
theorem dX3_placeOf_37 : decode cX3_placeOf 37 = .ok (.ireturn, 1) := by decide +kernel
theorem dX3_wholeListCost_0 : decode cX3_wholeListCost 0 = .ok (.iconst 1, 1) := by decide +kernel
theorem dX3_wholeListCost_1 : decode cX3_wholeListCost 1 = .ok (.aload_n 0, 1) := by decide +kernel
theorem dX3_wholeListCost_2 : decode cX3_wholeListCost 2 = .ok (.getfield 22, 3) := by decide +kernel
theorem dX3_wholeListCost_5 : decode cX3_wholeListCost 5 = .ok (.invokestatic 50, 3) := by decide +kernel
theorem dX3_wholeListCost_8 : decode cX3_wholeListCost 8 = .ok (.iadd, 1) := by decide +kernel
theorem dX3_wholeListCost_9 : decode cX3_wholeListCost 9 = .ok (.ireturn, 1) := by decide +kernel
theorem dX3_answerTo_0 : decode cX3_answerTo 0 = .ok (.aload_n 1, 1) := by decide +kernel
theorem dX3_answerTo_1 : decode cX3_answerTo 1 = .ok (.getfield 56, 3) := by decide +kernel
theorem dX3_answerTo_4 : decode cX3_answerTo 4 = .ok (.ifCond .ne 5, 3) := by decide +kernel
theorem dX3_answerTo_7 : decode cX3_answerTo 7 = .ok (.iconst 2, 1) := by decide +kernel
theorem dX3_answerTo_8 : decode cX3_answerTo 8 = .ok (.ireturn, 1) := by decide +kernel
theorem dX3_answerTo_9 : decode cX3_answerTo 9 = .ok (.aload_n 1, 1) := by decide +kernel
theorem dX3_answerTo_10 : decode cX3_answerTo 10 = .ok (.getfield 62, 3) := by decide +kernel
theorem dX3_answerTo_13 : decode cX3_answerTo 13 = .ok (.aload_n 0, 1) := by decide +kernel
theorem dX3_answerTo_14 : decode cX3_answerTo 14 = .ok (.getfield 25, 3) := by decide +kernel
theorem dX3_answerTo_17 : decode cX3_answerTo 17 = .ok (.if_icmp .ne 5, 3) := by decide +kernel
theorem dX3_answerTo_20 : decode cX3_answerTo 20 = .ok (.iconst 0, 1) := by decide +kernel
theorem dX3_answerTo_21 : decode cX3_answerTo 21 = .ok (.ireturn, 1) := by decide +kernel
theorem dX3_answerTo_22 : decode cX3_answerTo 22 = .ok (.aload_n 0, 1) := by decide +kernel
theorem dX3_answerTo_23 : decode cX3_answerTo 23 = .ok (.getfield 25, 3) := by decide +kernel
theorem dX3_answerTo_26 : decode cX3_answerTo 26 = .ok (.aload_n 1, 1) := by decide +kernel
theorem dX3_answerTo_27 : decode cX3_answerTo 27 = .ok (.getfield 62, 3) := by decide +kernel
theorem dX3_answerTo_30 : decode cX3_answerTo 30 = .ok (.invokestatic 65, 3) := by decide +kernel
theorem dX3_answerTo_33 : decode cX3_answerTo 33 = .ok (.ifCond .ne 5, 3) := by decide +kernel
theorem dX3_answerTo_36 : decode cX3_answerTo 36 = .ok (.iconst 3, 1) := by decide +kernel
theorem dX3_answerTo_37 : decode cX3_answerTo 37 = .ok (.ireturn, 1) := by decide +kernel
theorem dX3_answerTo_38 : decode cX3_answerTo 38 = .ok (.aload_n 0, 1) := by decide +kernel
theorem dX3_answerTo_39 : decode cX3_answerTo 39 = .ok (.getfield 12, 3) := by decide +kernel
theorem dX3_answerTo_42 : decode cX3_answerTo 42 = .ok (.aload_n 1, 1) := by decide +kernel
theorem dX3_answerTo_43 : decode cX3_answerTo 43 = .ok (.getfield 62, 3) := by decide +kernel
theorem dX3_answerTo_46 : decode cX3_answerTo 46 = .ok (.invokevirtual 68, 3) := by decide +kernel
theorem dX3_answerTo_49 : decode cX3_answerTo 49 = .ok (.istore_n 2, 1) := by decide +kernel
theorem dX3_answerTo_50 : decode cX3_answerTo 50 = .ok (.iload_n 2, 1) := by decide +kernel
theorem dX3_answerTo_51 : decode cX3_answerTo 51 = .ok (.iconst (-1), 1) := by decide +kernel
theorem dX3_answerTo_52 : decode cX3_answerTo 52 = .ok (.if_icmp .eq 15, 3) := by decide +kernel
theorem dX3_answerTo_55 : decode cX3_answerTo 55 = .ok (.iload_n 2, 1) := by decide +kernel
theorem dX3_answerTo_56 : decode cX3_answerTo 56 = .ok (.aload_n 0, 1) := by decide +kernel
theorem dX3_answerTo_57 : decode cX3_answerTo 57 = .ok (.invokevirtual 71, 3) := by decide +kernel
theorem dX3_answerTo_60 : decode cX3_answerTo 60 = .ok (.if_icmp .gt 7, 3) := by decide +kernel
theorem dX3_answerTo_63 : decode cX3_answerTo 63 = .ok (.iconst 1, 1) := by decide +kernel
theorem dX3_answerTo_64 : decode cX3_answerTo 64 = .ok (.goto 4, 3) := by decide +kernel
theorem dX3_answerTo_67 : decode cX3_answerTo 67 = .ok (.iconst 2, 1) := by decide +kernel
theorem dX3_answerTo_68 : decode cX3_answerTo 68 = .ok (.ireturn, 1) := by decide +kernel
theorem dX3_costOfAnswer_0 : decode cX3_costOfAnswer 0 = .ok (.iload_n 1, 1) := by decide +kernel
theorem dX3_costOfAnswer_1 : decode cX3_costOfAnswer 1 = .ok (.iconst 1, 1) := by decide +kernel
theorem dX3_costOfAnswer_2 : decode cX3_costOfAnswer 2 = .ok (.if_icmp .ne 12, 3) := by decide +kernel
theorem dX3_costOfAnswer_5 : decode cX3_costOfAnswer 5 = .ok (.aload_n 0, 1) := by decide +kernel
theorem dX3_costOfAnswer_6 : decode cX3_costOfAnswer 6 = .ok (.getfield 12, 3) := by decide +kernel
theorem dX3_costOfAnswer_9 : decode cX3_costOfAnswer 9 = .ok (.iload_n 2, 1) := by decide +kernel
theorem dX3_costOfAnswer_10 : decode cX3_costOfAnswer 10 = .ok (.invokevirtual 68, 3) := by decide +kernel
theorem dX3_costOfAnswer_13 : decode cX3_costOfAnswer 13 = .ok (.ireturn, 1) := by decide +kernel
theorem dX3_costOfAnswer_14 : decode cX3_costOfAnswer 14 = .ok (.iload_n 1, 1) := by decide +kernel
theorem dX3_costOfAnswer_15 : decode cX3_costOfAnswer 15 = .ok (.iconst 2, 1) := by decide +kernel
theorem dX3_costOfAnswer_16 : decode cX3_costOfAnswer 16 = .ok (.if_icmp .ne 10, 3) := by decide +kernel
theorem dX3_costOfAnswer_19 : decode cX3_costOfAnswer 19 = .ok (.aload_n 0, 1) := by decide +kernel
theorem dX3_costOfAnswer_20 : decode cX3_costOfAnswer 20 = .ok (.invokevirtual 71, 3) := by decide +kernel
theorem dX3_costOfAnswer_23 : decode cX3_costOfAnswer 23 = .ok (.goto 4, 3) := by decide +kernel
theorem dX3_costOfAnswer_26 : decode cX3_costOfAnswer 26 = .ok (.iconst 0, 1) := by decide +kernel
theorem dX3_costOfAnswer_27 : decode cX3_costOfAnswer 27 = .ok (.ireturn, 1) := by decide +kernel
theorem dX4_init_0 : decode cX4_init 0 = .ok (.aload_n 0, 1) := by decide +kernel
theorem dX4_init_1 : decode cX4_init 1 = .ok (.invokespecial 3, 3) := by decide +kernel
theorem dX4_init_4 : decode cX4_init 4 = .ok (.aload_n 0, 1) := by decide +kernel
theorem dX4_init_5 : decode cX4_init 5 = .ok (.bipush 6, 2) := by decide +kernel
theorem dX4_init_7 : decode cX4_init 7 = .ok (.anewarray 9, 3) := by decide +kernel
theorem dX4_init_10 : decode cX4_init 10 = .ok (.putfield 11, 3) := by decide +kernel
theorem dX4_init_13 : decode cX4_init 13 = .ok (.iconst 0, 1) := by decide +kernel
theorem dX4_init_14 : decode cX4_init 14 = .ok (.istore_n 1, 1) := by decide +kernel
theorem dX4_init_15 : decode cX4_init 15 = .ok (.iload_n 1, 1) := by decide +kernel
theorem dX4_init_16 : decode cX4_init 16 = .ok (.bipush 6, 2) := by decide +kernel
theorem dX4_init_18 : decode cX4_init 18 = .ok (.if_icmp .ge 22, 3) := by decide +kernel
theorem dX4_init_21 : decode cX4_init 21 = .ok (.aload_n 0, 1) := by decide +kernel
theorem dX4_init_22 : decode cX4_init 22 = .ok (.getfield 11, 3) := by decide +kernel
theorem dX4_init_25 : decode cX4_init 25 = .ok (.iload_n 1, 1) := by decide +kernel
theorem dX4_init_26 : decode cX4_init 26 = .ok (.new 9, 3) := by decide +kernel
theorem dX4_init_29 : decode cX4_init 29 = .ok (.dup, 1) := by decide +kernel
theorem dX4_init_30 : decode cX4_init 30 = .ok (.invokespecial 17, 3) := by decide +kernel
theorem dX4_init_33 : decode cX4_init 33 = .ok (.aastore, 1) := by decide +kernel
theorem dX4_init_34 : decode cX4_init 34 = .ok (.iinc 1 1, 3) := by decide +kernel
theorem dX4_init_37 : decode cX4_init 37 = .ok (.goto (-22), 3) := by decide +kernel
theorem dX4_init_40 : decode cX4_init 40 = .ok (.return_, 1) := by decide +kernel
theorem dX4_save_0 : decode cX4_save 0 = .ok (.aload_n 0, 1) := by decide +kernel
theorem dX4_save_1 : decode cX4_save 1 = .ok (.getfield 11, 3) := by decide +kernel
theorem dX4_save_4 : decode cX4_save 4 = .ok (.aload_n 0, 1) := by decide +kernel
theorem dX4_save_5 : decode cX4_save 5 = .ok (.getfield 18, 3) := by decide +kernel
theorem dX4_save_8 : decode cX4_save 8 = .ok (.aaload, 1) := by decide +kernel
theorem dX4_save_9 : decode cX4_save 9 = .ok (.aload_n 1, 1) := by decide +kernel
theorem dX4_save_10 : decode cX4_save 10 = .ok (.invokevirtual 22, 3) := by decide +kernel
theorem dX4_save_13 : decode cX4_save 13 = .ok (.aload_n 0, 1) := by decide +kernel
theorem dX4_save_14 : decode cX4_save 14 = .ok (.aload_n 0, 1) := by decide +kernel
theorem dX4_save_15 : decode cX4_save 15 = .ok (.getfield 18, 3) := by decide +kernel
theorem dX4_save_18 : decode cX4_save 18 = .ok (.iconst 1, 1) := by decide +kernel
theorem dX4_save_19 : decode cX4_save 19 = .ok (.iadd, 1) := by decide +kernel
theorem dX4_save_20 : decode cX4_save 20 = .ok (.bipush 6, 2) := by decide +kernel
theorem dX4_save_22 : decode cX4_save 22 = .ok (.irem, 1) := by decide +kernel
theorem dX4_save_23 : decode cX4_save 23 = .ok (.putfield 18, 3) := by decide +kernel
theorem dX4_save_26 : decode cX4_save 26 = .ok (.aload_n 0, 1) := by decide +kernel
theorem dX4_save_27 : decode cX4_save 27 = .ok (.aload_n 0, 1) := by decide +kernel
theorem dX4_save_28 : decode cX4_save 28 = .ok (.getfield 26, 3) := by decide +kernel
theorem dX4_save_31 : decode cX4_save 31 = .ok (.iconst 1, 1) := by decide +kernel
theorem dX4_save_32 : decode cX4_save 32 = .ok (.iadd, 1) := by decide +kernel
theorem dX4_save_33 : decode cX4_save 33 = .ok (.bipush 6, 2) := by decide +kernel
theorem dX4_save_35 : decode cX4_save 35 = .ok (.invokestatic 29, 3) := by decide +kernel
theorem dX4_save_38 : decode cX4_save 38 = .ok (.putfield 26, 3) := by decide +kernel
theorem dX4_save_41 : decode cX4_save 41 = .ok (.return_, 1) := by decide +kernel
theorem dX4_restoreInto_0 : decode cX4_restoreInto 0 = .ok (.aload_n 0, 1) := by decide +kernel
theorem dX4_restoreInto_1 : decode cX4_restoreInto 1 = .ok (.aload_n 0, 1) := by decide +kernel
theorem dX4_restoreInto_2 : decode cX4_restoreInto 2 = .ok (.getfield 18, 3) := by decide +kernel
theorem dX4_restoreInto_5 : decode cX4_restoreInto 5 = .ok (.bipush 6, 2) := by decide +kernel
theorem dX4_restoreInto_7 : decode cX4_restoreInto 7 = .ok (.iadd, 1) := by decide +kernel
theorem dX4_restoreInto_8 : decode cX4_restoreInto 8 = .ok (.iconst 1, 1) := by decide +kernel
theorem dX4_restoreInto_9 : decode cX4_restoreInto 9 = .ok (.isub, 1) := by decide +kernel
theorem dX4_restoreInto_10 : decode cX4_restoreInto 10 = .ok (.bipush 6, 2) := by decide +kernel
theorem dX4_restoreInto_12 : decode cX4_restoreInto 12 = .ok (.irem, 1) := by decide +kernel
theorem dX4_restoreInto_13 : decode cX4_restoreInto 13 = .ok (.putfield 18, 3) := by decide +kernel
theorem dX4_restoreInto_16 : decode cX4_restoreInto 16 = .ok (.aload_n 0, 1) := by decide +kernel
theorem dX4_restoreInto_17 : decode cX4_restoreInto 17 = .ok (.dup, 1) := by decide +kernel
theorem dX4_restoreInto_18 : decode cX4_restoreInto 18 = .ok (.getfield 26, 3) := by decide +kernel
theorem dX4_restoreInto_21 : decode cX4_restoreInto 21 = .ok (.iconst 1, 1) := by decide +kernel
theorem dX4_restoreInto_22 : decode cX4_restoreInto 22 = .ok (.isub, 1) := by decide +kernel
theorem dX4_restoreInto_23 : decode cX4_restoreInto 23 = .ok (.putfield 26, 3) := by decide +kernel
theorem dX4_restoreInto_26 : decode cX4_restoreInto 26 = .ok (.aload_n 1, 1) := by decide +kernel
theorem dX4_restoreInto_27 : decode cX4_restoreInto 27 = .ok (.aload_n 0, 1) := by decide +kernel
theorem dX4_restoreInto_28 : decode cX4_restoreInto 28 = .ok (.getfield 11, 3) := by decide +kernel
theorem dX4_restoreInto_31 : decode cX4_restoreInto 31 = .ok (.aload_n 0, 1) := by decide +kernel
theorem dX4_restoreInto_32 : decode cX4_restoreInto 32 = .ok (.getfield 18, 3) := by decide +kernel
theorem dX4_restoreInto_35 : decode cX4_restoreInto 35 = .ok (.aaload, 1) := by decide +kernel
theorem dX4_restoreInto_36 : decode cX4_restoreInto 36 = .ok (.invokevirtual 22, 3) := by decide +kernel
theorem dX4_restoreInto_39 : decode cX4_restoreInto 39 = .ok (.return_, 1) := by decide +kernel
theorem dX5_init_0 : decode cX5_init 0 = .ok (.aload_n 0, 1) := by decide +kernel
theorem dX5_init_1 : decode cX5_init 1 = .ok (.invokespecial 3, 3) := by decide +kernel
theorem dX5_init_4 : decode cX5_init 4 = .ok (.aload_n 0, 1) := by decide +kernel
theorem dX5_init_5 : decode cX5_init 5 = .ok (.new 9, 3) := by decide +kernel
theorem dX5_init_8 : decode cX5_init 8 = .ok (.dup, 1) := by decide +kernel
theorem dX5_init_9 : decode cX5_init 9 = .ok (.invokespecial 11, 3) := by decide +kernel
theorem dX5_init_12 : decode cX5_init 12 = .ok (.putfield 12, 3) := by decide +kernel
theorem dX5_init_15 : decode cX5_init 15 = .ok (.aload_n 0, 1) := by decide +kernel
theorem dX5_init_16 : decode cX5_init 16 = .ok (.iconst 4, 1) := by decide +kernel
theorem dX5_init_17 : decode cX5_init 17 = .ok (.anewarray 18, 3) := by decide +kernel
theorem dX5_init_20 : decode cX5_init 20 = .ok (.putfield 20, 3) := by decide +kernel
theorem dX5_init_23 : decode cX5_init 23 = .ok (.iconst 0, 1) := by decide +kernel
theorem dX5_init_24 : decode cX5_init 24 = .ok (.istore_n 1, 1) := by decide +kernel
theorem dX5_init_25 : decode cX5_init 25 = .ok (.iload_n 1, 1) := by decide +kernel
theorem dX5_init_26 : decode cX5_init 26 = .ok (.iconst 4, 1) := by decide +kernel
theorem dX5_init_27 : decode cX5_init 27 = .ok (.if_icmp .ge 22, 3) := by decide +kernel
theorem dX5_init_30 : decode cX5_init 30 = .ok (.aload_n 0, 1) := by decide +kernel
theorem dX5_init_31 : decode cX5_init 31 = .ok (.getfield 20, 3) := by decide +kernel
theorem dX5_init_34 : decode cX5_init 34 = .ok (.iload_n 1, 1) := by decide +kernel
theorem dX5_init_35 : decode cX5_init 35 = .ok (.new 18, 3) := by decide +kernel
theorem dX5_init_38 : decode cX5_init 38 = .ok (.dup, 1) := by decide +kernel
theorem dX5_init_39 : decode cX5_init 39 = .ok (.invokespecial 24, 3) := by decide +kernel
theorem dX5_init_42 : decode cX5_init 42 = .ok (.aastore, 1) := by decide +kernel
theorem dX5_init_43 : decode cX5_init 43 = .ok (.iinc 1 1, 3) := by decide +kernel
theorem dX5_init_46 : decode cX5_init 46 = .ok (.goto (-21), 3) := by decide +kernel
theorem dX5_init_49 : decode cX5_init 49 = .ok (.return_, 1) := by decide +kernel
theorem dX5_copyFrom_0 : decode cX5_copyFrom 0 = .ok (.aload_n 0, 1) := by decide +kernel
theorem dX5_copyFrom_1 : decode cX5_copyFrom 1 = .ok (.getfield 12, 3) := by decide +kernel
theorem dX5_copyFrom_4 : decode cX5_copyFrom 4 = .ok (.aload_n 1, 1) := by decide +kernel
theorem dX5_copyFrom_5 : decode cX5_copyFrom 5 = .ok (.getfield 12, 3) := by decide +kernel
theorem dX5_copyFrom_8 : decode cX5_copyFrom 8 = .ok (.invokevirtual 25, 3) := by decide +kernel
theorem dX5_copyFrom_11 : decode cX5_copyFrom 11 = .ok (.iconst 0, 1) := by decide +kernel
theorem dX5_copyFrom_12 : decode cX5_copyFrom 12 = .ok (.istore_n 2, 1) := by decide +kernel
theorem dX5_copyFrom_13 : decode cX5_copyFrom 13 = .ok (.iload_n 2, 1) := by decide +kernel
theorem dX5_copyFrom_14 : decode cX5_copyFrom 14 = .ok (.iconst 4, 1) := by decide +kernel
theorem dX5_copyFrom_15 : decode cX5_copyFrom 15 = .ok (.if_icmp .ge 24, 3) := by decide +kernel
theorem dX5_copyFrom_18 : decode cX5_copyFrom 18 = .ok (.aload_n 0, 1) := by decide +kernel
theorem dX5_copyFrom_19 : decode cX5_copyFrom 19 = .ok (.getfield 20, 3) := by decide +kernel
theorem dX5_copyFrom_22 : decode cX5_copyFrom 22 = .ok (.iload_n 2, 1) := by decide +kernel
theorem dX5_copyFrom_23 : decode cX5_copyFrom 23 = .ok (.aaload, 1) := by decide +kernel
theorem dX5_copyFrom_24 : decode cX5_copyFrom 24 = .ok (.aload_n 1, 1) := by decide +kernel
theorem dX5_copyFrom_25 : decode cX5_copyFrom 25 = .ok (.getfield 20, 3) := by decide +kernel
theorem dX5_copyFrom_28 : decode cX5_copyFrom 28 = .ok (.iload_n 2, 1) := by decide +kernel
theorem dX5_copyFrom_29 : decode cX5_copyFrom 29 = .ok (.aaload, 1) := by decide +kernel
theorem dX5_copyFrom_30 : decode cX5_copyFrom 30 = .ok (.invokevirtual 29, 3) := by decide +kernel
theorem dX5_copyFrom_33 : decode cX5_copyFrom 33 = .ok (.iinc 2 1, 3) := by decide +kernel
theorem dX5_copyFrom_36 : decode cX5_copyFrom 36 = .ok (.goto (-23), 3) := by decide +kernel
theorem dX5_copyFrom_39 : decode cX5_copyFrom 39 = .ok (.return_, 1) := by decide +kernel
theorem dX5_issueDraft_0 : decode cX5_issueDraft 0 = .ok (.aload_n 0, 1) := by decide +kernel
theorem dX5_issueDraft_1 : decode cX5_issueDraft 1 = .ok (.getfield 12, 3) := by decide +kernel
theorem dX5_issueDraft_4 : decode cX5_issueDraft 4 = .ok (.invokevirtual 32, 3) := by decide +kernel
theorem dX5_issueDraft_7 : decode cX5_issueDraft 7 = .ok (.aload_n 0, 1) := by decide +kernel
theorem dX5_issueDraft_8 : decode cX5_issueDraft 8 = .ok (.invokevirtual 35, 3) := by decide +kernel
theorem dX5_issueDraft_11 : decode cX5_issueDraft 11 = .ok (.return_, 1) := by decide +kernel
theorem dX5_takeNumber_0 : decode cX5_takeNumber 0 = .ok (.aload_n 0, 1) := by decide +kernel
theorem dX5_takeNumber_1 : decode cX5_takeNumber 1 = .ok (.getfield 12, 3) := by decide +kernel
theorem dX5_takeNumber_4 : decode cX5_takeNumber 4 = .ok (.iload_n 1, 1) := by decide +kernel
theorem dX5_takeNumber_5 : decode cX5_takeNumber 5 = .ok (.invokevirtual 38, 3) := by decide +kernel
theorem dX5_takeNumber_8 : decode cX5_takeNumber 8 = .ok (.aload_n 0, 1) := by decide +kernel
theorem dX5_takeNumber_9 : decode cX5_takeNumber 9 = .ok (.invokevirtual 35, 3) := by decide +kernel
theorem dX5_takeNumber_12 : decode cX5_takeNumber 12 = .ok (.return_, 1) := by decide +kernel
theorem dX5_giveNotice_0 : decode cX5_giveNotice 0 = .ok (.iconst 0, 1) := by decide +kernel
theorem dX5_giveNotice_1 : decode cX5_giveNotice 1 = .ok (.istore_n 1, 1) := by decide +kernel
theorem dX5_giveNotice_2 : decode cX5_giveNotice 2 = .ok (.iload_n 1, 1) := by decide +kernel
theorem dX5_giveNotice_3 : decode cX5_giveNotice 3 = .ok (.iconst 4, 1) := by decide +kernel
theorem dX5_giveNotice_4 : decode cX5_giveNotice 4 = .ok (.if_icmp .ge 31, 3) := by decide +kernel
theorem dX5_giveNotice_7 : decode cX5_giveNotice 7 = .ok (.aload_n 0, 1) := by decide +kernel
theorem dX5_giveNotice_8 : decode cX5_giveNotice 8 = .ok (.getfield 20, 3) := by decide +kernel
theorem dX5_giveNotice_11 : decode cX5_giveNotice 11 = .ok (.iload_n 1, 1) := by decide +kernel
theorem dX5_giveNotice_12 : decode cX5_giveNotice 12 = .ok (.aaload, 1) := by decide +kernel
theorem dX5_giveNotice_13 : decode cX5_giveNotice 13 = .ok (.getfield 42, 3) := by decide +kernel
theorem dX5_giveNotice_16 : decode cX5_giveNotice 16 = .ok (.ifCond .ne 13, 3) := by decide +kernel
theorem dX5_giveNotice_19 : decode cX5_giveNotice 19 = .ok (.aload_n 0, 1) := by decide +kernel
theorem dX5_giveNotice_20 : decode cX5_giveNotice 20 = .ok (.getfield 20, 3) := by decide +kernel
theorem dX5_giveNotice_23 : decode cX5_giveNotice 23 = .ok (.iload_n 1, 1) := by decide +kernel
theorem dX5_giveNotice_24 : decode cX5_giveNotice 24 = .ok (.aaload, 1) := by decide +kernel
theorem dX5_giveNotice_25 : decode cX5_giveNotice 25 = .ok (.iconst 1, 1) := by decide +kernel
theorem dX5_giveNotice_26 : decode cX5_giveNotice 26 = .ok (.putfield 46, 3) := by decide +kernel
theorem dX5_giveNotice_29 : decode cX5_giveNotice 29 = .ok (.iinc 1 1, 3) := by decide +kernel
theorem dX5_giveNotice_32 : decode cX5_giveNotice 32 = .ok (.goto (-30), 3) := by decide +kernel
theorem dX5_giveNotice_35 : decode cX5_giveNotice 35 = .ok (.return_, 1) := by decide +kernel
theorem dX5_countAsleep_0 : decode cX5_countAsleep 0 = .ok (.iconst 0, 1) := by decide +kernel
theorem dX5_countAsleep_1 : decode cX5_countAsleep 1 = .ok (.istore_n 1, 1) := by decide +kernel
theorem dX5_countAsleep_2 : decode cX5_countAsleep 2 = .ok (.iconst 0, 1) := by decide +kernel
theorem dX5_countAsleep_3 : decode cX5_countAsleep 3 = .ok (.istore_n 2, 1) := by decide +kernel
theorem dX5_countAsleep_4 : decode cX5_countAsleep 4 = .ok (.iload_n 2, 1) := by decide +kernel
theorem dX5_countAsleep_5 : decode cX5_countAsleep 5 = .ok (.iconst 4, 1) := by decide +kernel
theorem dX5_countAsleep_6 : decode cX5_countAsleep 6 = .ok (.if_icmp .ge 24, 3) := by decide +kernel
theorem dX5_countAsleep_9 : decode cX5_countAsleep 9 = .ok (.aload_n 0, 1) := by decide +kernel
theorem dX5_countAsleep_10 : decode cX5_countAsleep 10 = .ok (.getfield 20, 3) := by decide +kernel
theorem dX5_countAsleep_13 : decode cX5_countAsleep 13 = .ok (.iload_n 2, 1) := by decide +kernel
theorem dX5_countAsleep_14 : decode cX5_countAsleep 14 = .ok (.aaload, 1) := by decide +kernel
theorem dX5_countAsleep_15 : decode cX5_countAsleep 15 = .ok (.getfield 42, 3) := by decide +kernel
theorem dX5_countAsleep_18 : decode cX5_countAsleep 18 = .ok (.ifCond .eq 6, 3) := by decide +kernel
theorem dX5_countAsleep_21 : decode cX5_countAsleep 21 = .ok (.iinc 1 1, 3) := by decide +kernel
theorem dX5_countAsleep_24 : decode cX5_countAsleep 24 = .ok (.iinc 2 1, 3) := by decide +kernel
theorem dX5_countAsleep_27 : decode cX5_countAsleep 27 = .ok (.goto (-23), 3) := by decide +kernel
theorem dX5_countAsleep_30 : decode cX5_countAsleep 30 = .ok (.iload_n 1, 1) := by decide +kernel
theorem dX5_countAsleep_31 : decode cX5_countAsleep 31 = .ok (.ireturn, 1) := by decide +kernel
theorem dX5_nextCostOf_0 : decode cX5_nextCostOf 0 = .ok (.aload_n 0, 1) := by decide +kernel
theorem dX5_nextCostOf_1 : decode cX5_nextCostOf 1 = .ok (.getfield 12, 3) := by decide +kernel
theorem dX5_nextCostOf_4 : decode cX5_nextCostOf 4 = .ok (.aload_n 0, 1) := by decide +kernel
theorem dX5_nextCostOf_5 : decode cX5_nextCostOf 5 = .ok (.getfield 12, 3) := by decide +kernel
theorem dX5_nextCostOf_8 : decode cX5_nextCostOf 8 = .ok (.aload_n 1, 1) := by decide +kernel
theorem dX5_nextCostOf_9 : decode cX5_nextCostOf 9 = .ok (.invokevirtual 49, 3) := by decide +kernel
theorem dX5_nextCostOf_12 : decode cX5_nextCostOf 12 = .ok (.aload_n 1, 1) := by decide +kernel
theorem dX5_nextCostOf_13 : decode cX5_nextCostOf 13 = .ok (.getfield 53, 3) := by decide +kernel
theorem dX5_nextCostOf_16 : decode cX5_nextCostOf 16 = .ok (.invokevirtual 57, 3) := by decide +kernel
theorem dX5_nextCostOf_19 : decode cX5_nextCostOf 19 = .ok (.ireturn, 1) := by decide +kernel
theorem dX5_bringNews_0 : decode cX5_bringNews 0 = .ok (.aload_n 0, 1) := by decide +kernel
theorem dX5_bringNews_1 : decode cX5_bringNews 1 = .ok (.getfield 12, 3) := by decide +kernel
theorem dX5_bringNews_4 : decode cX5_bringNews 4 = .ok (.aload_n 1, 1) := by decide +kernel
theorem dX5_bringNews_5 : decode cX5_bringNews 5 = .ok (.invokevirtual 49, 3) := by decide +kernel
theorem dX5_bringNews_8 : decode cX5_bringNews 8 = .ok (.istore_n 2, 1) := by decide +kernel
theorem dX5_bringNews_9 : decode cX5_bringNews 9 = .ok (.aload_n 1, 1) := by decide +kernel
theorem dX5_bringNews_10 : decode cX5_bringNews 10 = .ok (.iconst 0, 1) := by decide +kernel
theorem dX5_bringNews_11 : decode cX5_bringNews 11 = .ok (.putfield 46, 3) := by decide +kernel
theorem dX5_bringNews_14 : decode cX5_bringNews 14 = .ok (.iload_n 2, 1) := by decide +kernel
theorem dX5_bringNews_15 : decode cX5_bringNews 15 = .ok (.iconst 1, 1) := by decide +kernel
theorem dX5_bringNews_16 : decode cX5_bringNews 16 = .ok (.if_icmp .eq 8, 3) := by decide +kernel
theorem dX5_bringNews_19 : decode cX5_bringNews 19 = .ok (.iload_n 2, 1) := by decide +kernel
theorem dX5_bringNews_20 : decode cX5_bringNews 20 = .ok (.iconst 2, 1) := by decide +kernel
theorem dX5_bringNews_21 : decode cX5_bringNews 21 = .ok (.if_icmp .ne 93, 3) := by decide +kernel
theorem dX5_bringNews_24 : decode cX5_bringNews 24 = .ok (.aload_n 1, 1) := by decide +kernel
theorem dX5_bringNews_25 : decode cX5_bringNews 25 = .ok (.dup, 1) := by decide +kernel
theorem dX5_bringNews_26 : decode cX5_bringNews 26 = .ok (.getfield 61, 3) := by decide +kernel
theorem dX5_bringNews_29 : decode cX5_bringNews 29 = .ok (.aload_n 0, 1) := by decide +kernel
theorem dX5_bringNews_30 : decode cX5_bringNews 30 = .ok (.getfield 12, 3) := by decide +kernel
theorem dX5_bringNews_33 : decode cX5_bringNews 33 = .ok (.iload_n 2, 1) := by decide +kernel
theorem dX5_bringNews_34 : decode cX5_bringNews 34 = .ok (.aload_n 1, 1) := by decide +kernel
theorem dX5_bringNews_35 : decode cX5_bringNews 35 = .ok (.getfield 53, 3) := by decide +kernel
theorem dX5_bringNews_38 : decode cX5_bringNews 38 = .ok (.invokevirtual 57, 3) := by decide +kernel
theorem dX5_bringNews_41 : decode cX5_bringNews 41 = .ok (.iadd, 1) := by decide +kernel
theorem dX5_bringNews_42 : decode cX5_bringNews 42 = .ok (.putfield 61, 3) := by decide +kernel
theorem dX5_bringNews_45 : decode cX5_bringNews 45 = .ok (.aload_n 1, 1) := by decide +kernel
theorem dX5_bringNews_46 : decode cX5_bringNews 46 = .ok (.dup, 1) := by decide +kernel
theorem dX5_bringNews_47 : decode cX5_bringNews 47 = .ok (.getfield 64, 3) := by decide +kernel
theorem dX5_bringNews_50 : decode cX5_bringNews 50 = .ok (.aload_n 0, 1) := by decide +kernel
theorem dX5_bringNews_51 : decode cX5_bringNews 51 = .ok (.getfield 12, 3) := by decide +kernel
theorem dX5_bringNews_54 : decode cX5_bringNews 54 = .ok (.invokevirtual 67, 3) := by decide +kernel
theorem dX5_bringNews_57 : decode cX5_bringNews 57 = .ok (.iadd, 1) := by decide +kernel
theorem dX5_bringNews_58 : decode cX5_bringNews 58 = .ok (.putfield 64, 3) := by decide +kernel
theorem dX5_bringNews_61 : decode cX5_bringNews 61 = .ok (.aload_n 1, 1) := by decide +kernel
theorem dX5_bringNews_62 : decode cX5_bringNews 62 = .ok (.iload_n 2, 1) := by decide +kernel
theorem dX5_bringNews_63 : decode cX5_bringNews 63 = .ok (.iconst 2, 1) := by decide +kernel
theorem dX5_bringNews_64 : decode cX5_bringNews 64 = .ok (.if_icmp .ne 13, 3) := by decide +kernel
theorem dX5_bringNews_67 : decode cX5_bringNews 67 = .ok (.aload_n 0, 1) := by decide +kernel
theorem dX5_bringNews_68 : decode cX5_bringNews 68 = .ok (.getfield 12, 3) := by decide +kernel
theorem dX5_bringNews_71 : decode cX5_bringNews 71 = .ok (.getfield 71, 3) := by decide +kernel
theorem dX5_bringNews_74 : decode cX5_bringNews 74 = .ok (.goto 21, 3) := by decide +kernel
theorem dX5_bringNews_77 : decode cX5_bringNews 77 = .ok (.aload_n 0, 1) := by decide +kernel
theorem dX5_bringNews_78 : decode cX5_bringNews 78 = .ok (.getfield 12, 3) := by decide +kernel
theorem dX5_bringNews_81 : decode cX5_bringNews 81 = .ok (.getfield 74, 3) := by decide +kernel
theorem dX5_bringNews_84 : decode cX5_bringNews 84 = .ok (.aload_n 1, 1) := by decide +kernel
theorem dX5_bringNews_85 : decode cX5_bringNews 85 = .ok (.getfield 53, 3) := by decide +kernel
theorem dX5_bringNews_88 : decode cX5_bringNews 88 = .ok (.aload_n 1, 1) := by decide +kernel
theorem dX5_bringNews_89 : decode cX5_bringNews 89 = .ok (.getfield 78, 3) := by decide +kernel
theorem dX5_bringNews_92 : decode cX5_bringNews 92 = .ok (.invokevirtual 81, 3) := by decide +kernel
theorem dX5_bringNews_95 : decode cX5_bringNews 95 = .ok (.putfield 78, 3) := by decide +kernel
theorem dX5_bringNews_98 : decode cX5_bringNews 98 = .ok (.aload_n 1, 1) := by decide +kernel
theorem dX5_bringNews_99 : decode cX5_bringNews 99 = .ok (.iconst 1, 1) := by decide +kernel
theorem dX5_bringNews_100 : decode cX5_bringNews 100 = .ok (.putfield 86, 3) := by decide +kernel
theorem dX5_bringNews_103 : decode cX5_bringNews 103 = .ok (.aload_n 1, 1) := by decide +kernel
theorem dX5_bringNews_104 : decode cX5_bringNews 104 = .ok (.aload_n 0, 1) := by decide +kernel
theorem dX5_bringNews_105 : decode cX5_bringNews 105 = .ok (.getfield 12, 3) := by decide +kernel
theorem dX5_bringNews_108 : decode cX5_bringNews 108 = .ok (.getfield 89, 3) := by decide +kernel
theorem dX5_bringNews_111 : decode cX5_bringNews 111 = .ok (.putfield 53, 3) := by decide +kernel
theorem dX5_bringNews_114 : decode cX5_bringNews 114 = .ok (.iload_n 2, 1) := by decide +kernel
theorem dX5_bringNews_115 : decode cX5_bringNews 115 = .ok (.ireturn, 1) := by decide +kernel
theorem dX5_bringNewsToAllWithNotice_0 : decode cX5_bringNewsToAllWithNotice 0 = .ok (.iconst 0, 1) := by decide +kernel
theorem dX5_bringNewsToAllWithNotice_1 : decode cX5_bringNewsToAllWithNotice 1 = .ok (.istore_n 1, 1) := by decide +kernel
theorem dX5_bringNewsToAllWithNotice_2 : decode cX5_bringNewsToAllWithNotice 2 = .ok (.iconst 0, 1) := by decide +kernel
theorem dX5_bringNewsToAllWithNotice_3 : decode cX5_bringNewsToAllWithNotice 3 = .ok (.istore_n 2, 1) := by decide +kernel
theorem dX5_bringNewsToAllWithNotice_4 : decode cX5_bringNewsToAllWithNotice 4 = .ok (.iload_n 2, 1) := by decide +kernel
theorem dX5_bringNewsToAllWithNotice_5 : decode cX5_bringNewsToAllWithNotice 5 = .ok (.iconst 4, 1) := by decide +kernel
theorem dX5_bringNewsToAllWithNotice_6 : decode cX5_bringNewsToAllWithNotice 6 = .ok (.if_icmp .ge 47, 3) := by decide +kernel
theorem dX5_bringNewsToAllWithNotice_9 : decode cX5_bringNewsToAllWithNotice 9 = .ok (.aload_n 0, 1) := by decide +kernel
theorem dX5_bringNewsToAllWithNotice_10 : decode cX5_bringNewsToAllWithNotice 10 = .ok (.getfield 20, 3) := by decide +kernel
theorem dX5_bringNewsToAllWithNotice_13 : decode cX5_bringNewsToAllWithNotice 13 = .ok (.iload_n 2, 1) := by decide +kernel
theorem dX5_bringNewsToAllWithNotice_14 : decode cX5_bringNewsToAllWithNotice 14 = .ok (.aaload, 1) := by decide +kernel
theorem dX5_bringNewsToAllWithNotice_15 : decode cX5_bringNewsToAllWithNotice 15 = .ok (.getfield 42, 3) := by decide +kernel
theorem dX5_bringNewsToAllWithNotice_18 : decode cX5_bringNewsToAllWithNotice 18 = .ok (.ifCond .ne 29, 3) := by decide +kernel
theorem dX5_bringNewsToAllWithNotice_21 : decode cX5_bringNewsToAllWithNotice 21 = .ok (.aload_n 0, 1) := by decide +kernel
theorem dX5_bringNewsToAllWithNotice_22 : decode cX5_bringNewsToAllWithNotice 22 = .ok (.getfield 20, 3) := by decide +kernel
theorem dX5_bringNewsToAllWithNotice_25 : decode cX5_bringNewsToAllWithNotice 25 = .ok (.iload_n 2, 1) := by decide +kernel
theorem dX5_bringNewsToAllWithNotice_26 : decode cX5_bringNewsToAllWithNotice 26 = .ok (.aaload, 1) := by decide +kernel
theorem dX5_bringNewsToAllWithNotice_27 : decode cX5_bringNewsToAllWithNotice 27 = .ok (.getfield 46, 3) := by decide +kernel
theorem dX5_bringNewsToAllWithNotice_30 : decode cX5_bringNewsToAllWithNotice 30 = .ok (.ifCond .eq 17, 3) := by decide +kernel
theorem dX5_bringNewsToAllWithNotice_33 : decode cX5_bringNewsToAllWithNotice 33 = .ok (.aload_n 0, 1) := by decide +kernel
theorem dX5_bringNewsToAllWithNotice_34 : decode cX5_bringNewsToAllWithNotice 34 = .ok (.aload_n 0, 1) := by decide +kernel
theorem dX5_bringNewsToAllWithNotice_35 : decode cX5_bringNewsToAllWithNotice 35 = .ok (.getfield 20, 3) := by decide +kernel
theorem dX5_bringNewsToAllWithNotice_38 : decode cX5_bringNewsToAllWithNotice 38 = .ok (.iload_n 2, 1) := by decide +kernel
theorem dX5_bringNewsToAllWithNotice_39 : decode cX5_bringNewsToAllWithNotice 39 = .ok (.aaload, 1) := by decide +kernel
theorem dX5_bringNewsToAllWithNotice_40 : decode cX5_bringNewsToAllWithNotice 40 = .ok (.invokevirtual 92, 3) := by decide +kernel
theorem dX5_bringNewsToAllWithNotice_43 : decode cX5_bringNewsToAllWithNotice 43 = .ok (.pop, 1) := by decide +kernel
theorem dX5_bringNewsToAllWithNotice_44 : decode cX5_bringNewsToAllWithNotice 44 = .ok (.iinc 1 1, 3) := by decide +kernel
theorem dX5_bringNewsToAllWithNotice_47 : decode cX5_bringNewsToAllWithNotice 47 = .ok (.iinc 2 1, 3) := by decide +kernel
theorem dX5_bringNewsToAllWithNotice_50 : decode cX5_bringNewsToAllWithNotice 50 = .ok (.goto (-46), 3) := by decide +kernel
theorem dX5_bringNewsToAllWithNotice_53 : decode cX5_bringNewsToAllWithNotice 53 = .ok (.iload_n 1, 1) := by decide +kernel
theorem dX5_bringNewsToAllWithNotice_54 : decode cX5_bringNewsToAllWithNotice 54 = .ok (.ireturn, 1) := by decide +kernel
theorem dX6_init_0 : decode cX6_init 0 = .ok (.aload_n 0, 1) := by decide +kernel
theorem dX6_init_1 : decode cX6_init 1 = .ok (.invokespecial 1, 3) := by decide +kernel
theorem dX6_init_4 : decode cX6_init 4 = .ok (.aload_n 0, 1) := by decide +kernel
theorem dX6_init_5 : decode cX6_init 5 = .ok (.new 7, 3) := by decide +kernel
theorem dX6_init_8 : decode cX6_init 8 = .ok (.dup, 1) := by decide +kernel
theorem dX6_init_9 : decode cX6_init 9 = .ok (.invokespecial 9, 3) := by decide +kernel
theorem dX6_init_12 : decode cX6_init 12 = .ok (.putfield 10, 3) := by decide +kernel
theorem dX6_init_15 : decode cX6_init 15 = .ok (.aload_n 0, 1) := by decide +kernel
theorem dX6_init_16 : decode cX6_init 16 = .ok (.new 16, 3) := by decide +kernel
theorem dX6_init_19 : decode cX6_init 19 = .ok (.dup, 1) := by decide +kernel
theorem dX6_init_20 : decode cX6_init 20 = .ok (.invokespecial 18, 3) := by decide +kernel
theorem dX6_init_23 : decode cX6_init 23 = .ok (.putfield 19, 3) := by decide +kernel
theorem dX6_init_26 : decode cX6_init 26 = .ok (.aload_n 0, 1) := by decide +kernel
theorem dX6_init_27 : decode cX6_init 27 = .ok (.new 23, 3) := by decide +kernel
theorem dX6_init_30 : decode cX6_init 30 = .ok (.dup, 1) := by decide +kernel
theorem dX6_init_31 : decode cX6_init 31 = .ok (.invokespecial 25, 3) := by decide +kernel
theorem dX6_init_34 : decode cX6_init 34 = .ok (.putfield 26, 3) := by decide +kernel
theorem dX6_init_37 : decode cX6_init 37 = .ok (.return_, 1) := by decide +kernel
theorem dX6_add_0 : decode cX6_add 0 = .ok (.iload_n 1, 1) := by decide +kernel
theorem dX6_add_1 : decode cX6_add 1 = .ok (.invokestatic 30, 3) := by decide +kernel
theorem dX6_add_4 : decode cX6_add 4 = .ok (.aload_n 0, 1) := by decide +kernel
theorem dX6_add_5 : decode cX6_add 5 = .ok (.getfield 10, 3) := by decide +kernel
theorem dX6_add_8 : decode cX6_add 8 = .ok (.getfield 34, 3) := by decide +kernel
theorem dX6_add_11 : decode cX6_add 11 = .ok (.iload_n 1, 1) := by decide +kernel
theorem dX6_add_12 : decode cX6_add 12 = .ok (.invokevirtual 38, 3) := by decide +kernel
theorem dX6_add_15 : decode cX6_add 15 = .ok (.ifCond .ne 13, 3) := by decide +kernel
theorem dX6_add_18 : decode cX6_add 18 = .ok (.new 44, 3) := by decide +kernel
theorem dX6_add_21 : decode cX6_add 21 = .ok (.dup, 1) := by decide +kernel
theorem dX6_add_22 : decode cX6_add 22 = .ok (.ldc 46, 2) := by decide +kernel
theorem dX6_add_24 : decode cX6_add 24 = .ok (.invokespecial 48, 3) := by decide +kernel
theorem dX6_add_27 : decode cX6_add 27 = .ok (.athrow, 1) := by decide +kernel
theorem dX6_add_28 : decode cX6_add 28 = .ok (.aload_n 0, 1) := by decide +kernel
theorem dX6_add_29 : decode cX6_add 29 = .ok (.getfield 19, 3) := by decide +kernel
theorem dX6_add_32 : decode cX6_add 32 = .ok (.aload_n 0, 1) := by decide +kernel
theorem dX6_add_33 : decode cX6_add 33 = .ok (.getfield 10, 3) := by decide +kernel
theorem dX6_add_36 : decode cX6_add 36 = .ok (.invokevirtual 51, 3) := by decide +kernel
theorem dX6_add_39 : decode cX6_add 39 = .ok (.aload_n 0, 1) := by decide +kernel
theorem dX6_add_40 : decode cX6_add 40 = .ok (.getfield 10, 3) := by decide +kernel
theorem dX6_add_43 : decode cX6_add 43 = .ok (.getfield 34, 3) := by decide +kernel
theorem dX6_add_46 : decode cX6_add 46 = .ok (.iload_n 1, 1) := by decide +kernel
theorem dX6_add_47 : decode cX6_add 47 = .ok (.invokevirtual 55, 3) := by decide +kernel
theorem dX6_add_50 : decode cX6_add 50 = .ok (.aload_n 0, 1) := by decide +kernel
theorem dX6_add_51 : decode cX6_add 51 = .ok (.invokevirtual 58, 3) := by decide +kernel
theorem dX6_add_54 : decode cX6_add 54 = .ok (.ireturn, 1) := by decide +kernel
theorem dX6_crossOut_0 : decode cX6_crossOut 0 = .ok (.iload_n 1, 1) := by decide +kernel
theorem dX6_crossOut_1 : decode cX6_crossOut 1 = .ok (.invokestatic 30, 3) := by decide +kernel
theorem dX6_crossOut_4 : decode cX6_crossOut 4 = .ok (.aload_n 0, 1) := by decide +kernel
theorem dX6_crossOut_5 : decode cX6_crossOut 5 = .ok (.getfield 10, 3) := by decide +kernel
theorem dX6_crossOut_8 : decode cX6_crossOut 8 = .ok (.getfield 34, 3) := by decide +kernel
theorem dX6_crossOut_11 : decode cX6_crossOut 11 = .ok (.iload_n 1, 1) := by decide +kernel
theorem dX6_crossOut_12 : decode cX6_crossOut 12 = .ok (.invokevirtual 62, 3) := by decide +kernel
theorem dX6_crossOut_15 : decode cX6_crossOut 15 = .ok (.ifCond .ne 13, 3) := by decide +kernel
theorem dX6_crossOut_18 : decode cX6_crossOut 18 = .ok (.new 44, 3) := by decide +kernel
theorem dX6_crossOut_21 : decode cX6_crossOut 21 = .ok (.dup, 1) := by decide +kernel
theorem dX6_crossOut_22 : decode cX6_crossOut 22 = .ok (.ldc 65, 2) := by decide +kernel
theorem dX6_crossOut_24 : decode cX6_crossOut 24 = .ok (.invokespecial 48, 3) := by decide +kernel
theorem dX6_crossOut_27 : decode cX6_crossOut 27 = .ok (.athrow, 1) := by decide +kernel
theorem dX6_crossOut_28 : decode cX6_crossOut 28 = .ok (.aload_n 0, 1) := by decide +kernel
theorem dX6_crossOut_29 : decode cX6_crossOut 29 = .ok (.getfield 19, 3) := by decide +kernel
theorem dX6_crossOut_32 : decode cX6_crossOut 32 = .ok (.aload_n 0, 1) := by decide +kernel
theorem dX6_crossOut_33 : decode cX6_crossOut 33 = .ok (.getfield 10, 3) := by decide +kernel
theorem dX6_crossOut_36 : decode cX6_crossOut 36 = .ok (.invokevirtual 51, 3) := by decide +kernel
theorem dX6_crossOut_39 : decode cX6_crossOut 39 = .ok (.aload_n 0, 1) := by decide +kernel
theorem dX6_crossOut_40 : decode cX6_crossOut 40 = .ok (.getfield 10, 3) := by decide +kernel
theorem dX6_crossOut_43 : decode cX6_crossOut 43 = .ok (.getfield 34, 3) := by decide +kernel
theorem dX6_crossOut_46 : decode cX6_crossOut 46 = .ok (.iload_n 1, 1) := by decide +kernel
theorem dX6_crossOut_47 : decode cX6_crossOut 47 = .ok (.invokevirtual 67, 3) := by decide +kernel
theorem dX6_crossOut_50 : decode cX6_crossOut 50 = .ok (.aload_n 0, 1) := by decide +kernel
theorem dX6_crossOut_51 : decode cX6_crossOut 51 = .ok (.invokevirtual 58, 3) := by decide +kernel
theorem dX6_crossOut_54 : decode cX6_crossOut 54 = .ok (.ireturn, 1) := by decide +kernel
theorem dX6_publish_0 : decode cX6_publish 0 = .ok (.aload_n 0, 1) := by decide +kernel
theorem dX6_publish_1 : decode cX6_publish 1 = .ok (.getfield 10, 3) := by decide +kernel
theorem dX6_publish_4 : decode cX6_publish 4 = .ok (.getfield 34, 3) := by decide +kernel
theorem dX6_publish_7 : decode cX6_publish 7 = .ok (.invokevirtual 70, 3) := by decide +kernel
theorem dX6_publish_10 : decode cX6_publish 10 = .ok (.ifCond .ne 13, 3) := by decide +kernel
theorem dX6_publish_13 : decode cX6_publish 13 = .ok (.new 44, 3) := by decide +kernel
theorem dX6_publish_16 : decode cX6_publish 16 = .ok (.dup, 1) := by decide +kernel
theorem dX6_publish_17 : decode cX6_publish 17 = .ok (.ldc 74, 2) := by decide +kernel
theorem dX6_publish_19 : decode cX6_publish 19 = .ok (.invokespecial 48, 3) := by decide +kernel
theorem dX6_publish_22 : decode cX6_publish 22 = .ok (.athrow, 1) := by decide +kernel
theorem dX6_publish_23 : decode cX6_publish 23 = .ok (.aload_n 0, 1) := by decide +kernel
theorem dX6_publish_24 : decode cX6_publish 24 = .ok (.getfield 19, 3) := by decide +kernel
theorem dX6_publish_27 : decode cX6_publish 27 = .ok (.aload_n 0, 1) := by decide +kernel
theorem dX6_publish_28 : decode cX6_publish 28 = .ok (.getfield 10, 3) := by decide +kernel
theorem dX6_publish_31 : decode cX6_publish 31 = .ok (.invokevirtual 51, 3) := by decide +kernel
theorem dX6_publish_34 : decode cX6_publish 34 = .ok (.aload_n 0, 1) := by decide +kernel
theorem dX6_publish_35 : decode cX6_publish 35 = .ok (.getfield 10, 3) := by decide +kernel
theorem dX6_publish_38 : decode cX6_publish 38 = .ok (.invokevirtual 76, 3) := by decide +kernel
theorem dX6_publish_41 : decode cX6_publish 41 = .ok (.aload_n 0, 1) := by decide +kernel
theorem dX6_publish_42 : decode cX6_publish 42 = .ok (.invokevirtual 79, 3) := by decide +kernel
theorem dX6_publish_45 : decode cX6_publish 45 = .ok (.ireturn, 1) := by decide +kernel
theorem dX6_renumber_0 : decode cX6_renumber 0 = .ok (.aload_n 0, 1) := by decide +kernel
theorem dX6_renumber_1 : decode cX6_renumber 1 = .ok (.getfield 10, 3) := by decide +kernel
theorem dX6_renumber_4 : decode cX6_renumber 4 = .ok (.getfield 34, 3) := by decide +kernel
theorem dX6_renumber_7 : decode cX6_renumber 7 = .ok (.iload_n 1, 1) := by decide +kernel
theorem dX6_renumber_8 : decode cX6_renumber 8 = .ok (.invokevirtual 82, 3) := by decide +kernel
theorem dX6_renumber_11 : decode cX6_renumber 11 = .ok (.ifCond .ne 13, 3) := by decide +kernel
theorem dX6_renumber_14 : decode cX6_renumber 14 = .ok (.new 85, 3) := by decide +kernel
theorem dX6_renumber_17 : decode cX6_renumber 17 = .ok (.dup, 1) := by decide +kernel
theorem dX6_renumber_18 : decode cX6_renumber 18 = .ok (.ldc 87, 2) := by decide +kernel
theorem dX6_renumber_20 : decode cX6_renumber 20 = .ok (.invokespecial 89, 3) := by decide +kernel
theorem dX6_renumber_23 : decode cX6_renumber 23 = .ok (.athrow, 1) := by decide +kernel
theorem dX6_renumber_24 : decode cX6_renumber 24 = .ok (.aload_n 0, 1) := by decide +kernel
theorem dX6_renumber_25 : decode cX6_renumber 25 = .ok (.getfield 19, 3) := by decide +kernel
theorem dX6_renumber_28 : decode cX6_renumber 28 = .ok (.aload_n 0, 1) := by decide +kernel
theorem dX6_renumber_29 : decode cX6_renumber 29 = .ok (.getfield 10, 3) := by decide +kernel
theorem dX6_renumber_32 : decode cX6_renumber 32 = .ok (.invokevirtual 51, 3) := by decide +kernel
theorem dX6_renumber_35 : decode cX6_renumber 35 = .ok (.aload_n 0, 1) := by decide +kernel
theorem dX6_renumber_36 : decode cX6_renumber 36 = .ok (.invokevirtual 79, 3) := by decide +kernel
theorem dX6_renumber_39 : decode cX6_renumber 39 = .ok (.istore_n 2, 1) := by decide +kernel
theorem dX6_renumber_40 : decode cX6_renumber 40 = .ok (.aload_n 0, 1) := by decide +kernel
theorem dX6_renumber_41 : decode cX6_renumber 41 = .ok (.getfield 10, 3) := by decide +kernel
theorem dX6_renumber_44 : decode cX6_renumber 44 = .ok (.iload_n 1, 1) := by decide +kernel
theorem dX6_renumber_45 : decode cX6_renumber 45 = .ok (.invokevirtual 90, 3) := by decide +kernel
theorem dX6_renumber_48 : decode cX6_renumber 48 = .ok (.iload_n 2, 1) := by decide +kernel
theorem dX6_renumber_49 : decode cX6_renumber 49 = .ok (.ireturn, 1) := by decide +kernel
theorem dX6_setKeep_0 : decode cX6_setKeep 0 = .ok (.iload_n 1, 1) := by decide +kernel
theorem dX6_setKeep_1 : decode cX6_setKeep 1 = .ok (.iconst 1, 1) := by decide +kernel
theorem dX6_setKeep_2 : decode cX6_setKeep 2 = .ok (.if_icmp .lt 9, 3) := by decide +kernel
theorem dX6_setKeep_5 : decode cX6_setKeep 5 = .ok (.iload_n 1, 1) := by decide +kernel
theorem dX6_setKeep_6 : decode cX6_setKeep 6 = .ok (.bipush 6, 2) := by decide +kernel
theorem dX6_setKeep_8 : decode cX6_setKeep 8 = .ok (.if_icmp .le 13, 3) := by decide +kernel
theorem dX6_setKeep_11 : decode cX6_setKeep 11 = .ok (.new 85, 3) := by decide +kernel
theorem dX6_setKeep_14 : decode cX6_setKeep 14 = .ok (.dup, 1) := by decide +kernel
theorem dX6_setKeep_15 : decode cX6_setKeep 15 = .ok (.ldc 93, 2) := by decide +kernel
theorem dX6_setKeep_17 : decode cX6_setKeep 17 = .ok (.invokespecial 89, 3) := by decide +kernel
theorem dX6_setKeep_20 : decode cX6_setKeep 20 = .ok (.athrow, 1) := by decide +kernel
theorem dX6_setKeep_21 : decode cX6_setKeep 21 = .ok (.aload_n 0, 1) := by decide +kernel
theorem dX6_setKeep_22 : decode cX6_setKeep 22 = .ok (.getfield 19, 3) := by decide +kernel
theorem dX6_setKeep_25 : decode cX6_setKeep 25 = .ok (.aload_n 0, 1) := by decide +kernel
theorem dX6_setKeep_26 : decode cX6_setKeep 26 = .ok (.getfield 10, 3) := by decide +kernel
theorem dX6_setKeep_29 : decode cX6_setKeep 29 = .ok (.invokevirtual 51, 3) := by decide +kernel
theorem dX6_setKeep_32 : decode cX6_setKeep 32 = .ok (.aload_n 0, 1) := by decide +kernel
theorem dX6_setKeep_33 : decode cX6_setKeep 33 = .ok (.getfield 10, 3) := by decide +kernel
theorem dX6_setKeep_36 : decode cX6_setKeep 36 = .ok (.getfield 34, 3) := by decide +kernel
theorem dX6_setKeep_39 : decode cX6_setKeep 39 = .ok (.getfield 95, 3) := by decide +kernel
theorem dX6_setKeep_42 : decode cX6_setKeep 42 = .ok (.iload_n 1, 1) := by decide +kernel
theorem dX6_setKeep_43 : decode cX6_setKeep 43 = .ok (.invokevirtual 99, 3) := by decide +kernel
theorem dX6_setKeep_46 : decode cX6_setKeep 46 = .ok (.aload_n 0, 1) := by decide +kernel
theorem dX6_setKeep_47 : decode cX6_setKeep 47 = .ok (.invokevirtual 104, 3) := by decide +kernel
theorem dX6_setKeep_50 : decode cX6_setKeep 50 = .ok (.ireturn, 1) := by decide +kernel
theorem dX6_edition_0 : decode cX6_edition 0 = .ok (.aload_n 0, 1) := by decide +kernel
theorem dX6_edition_1 : decode cX6_edition 1 = .ok (.getfield 10, 3) := by decide +kernel
theorem dX6_edition_4 : decode cX6_edition 4 = .ok (.getfield 34, 3) := by decide +kernel
theorem dX6_edition_7 : decode cX6_edition 7 = .ok (.getfield 107, 3) := by decide +kernel
theorem dX6_edition_10 : decode cX6_edition 10 = .ok (.ireturn, 1) := by decide +kernel
theorem dX6_draft_0 : decode cX6_draft 0 = .ok (.aload_n 0, 1) := by decide +kernel
theorem dX6_draft_1 : decode cX6_draft 1 = .ok (.getfield 10, 3) := by decide +kernel
theorem dX6_draft_4 : decode cX6_draft 4 = .ok (.getfield 34, 3) := by decide +kernel
theorem dX6_draft_7 : decode cX6_draft 7 = .ok (.getfield 111, 3) := by decide +kernel
theorem dX6_draft_10 : decode cX6_draft 10 = .ok (.invokestatic 114, 3) := by decide +kernel
theorem dX6_draft_13 : decode cX6_draft 13 = .ok (.ireturn, 1) := by decide +kernel
theorem dX6_published_0 : decode cX6_published 0 = .ok (.aload_n 0, 1) := by decide +kernel
theorem dX6_published_1 : decode cX6_published 1 = .ok (.getfield 10, 3) := by decide +kernel
theorem dX6_published_4 : decode cX6_published 4 = .ok (.getfield 34, 3) := by decide +kernel
theorem dX6_published_7 : decode cX6_published 7 = .ok (.getfield 120, 3) := by decide +kernel
theorem dX6_published_10 : decode cX6_published 10 = .ok (.invokestatic 114, 3) := by decide +kernel
theorem dX6_published_13 : decode cX6_published 13 = .ok (.ireturn, 1) := by decide +kernel
theorem dX6_where_0 : decode cX6_where 0 = .ok (.iload_n 1, 1) := by decide +kernel
theorem dX6_where_1 : decode cX6_where 1 = .ok (.invokestatic 30, 3) := by decide +kernel
theorem dX6_where_4 : decode cX6_where 4 = .ok (.aload_n 0, 1) := by decide +kernel
theorem dX6_where_5 : decode cX6_where 5 = .ok (.getfield 10, 3) := by decide +kernel
theorem dX6_where_8 : decode cX6_where 8 = .ok (.getfield 34, 3) := by decide +kernel
theorem dX6_where_11 : decode cX6_where 11 = .ok (.iload_n 1, 1) := by decide +kernel
theorem dX6_where_12 : decode cX6_where 12 = .ok (.invokevirtual 123, 3) := by decide +kernel
theorem dX6_where_15 : decode cX6_where 15 = .ok (.ireturn, 1) := by decide +kernel
theorem dX6_pending_0 : decode cX6_pending 0 = .ok (.aload_n 0, 1) := by decide +kernel
theorem dX6_pending_1 : decode cX6_pending 1 = .ok (.getfield 10, 3) := by decide +kernel
theorem dX6_pending_4 : decode cX6_pending 4 = .ok (.getfield 34, 3) := by decide +kernel
theorem dX6_pending_7 : decode cX6_pending 7 = .ok (.getfield 111, 3) := by decide +kernel
theorem dX6_pending_10 : decode cX6_pending 10 = .ok (.aload_n 0, 1) := by decide +kernel
theorem dX6_pending_11 : decode cX6_pending 11 = .ok (.getfield 10, 3) := by decide +kernel
theorem dX6_pending_14 : decode cX6_pending 14 = .ok (.getfield 34, 3) := by decide +kernel
theorem dX6_pending_17 : decode cX6_pending 17 = .ok (.getfield 120, 3) := by decide +kernel
theorem dX6_pending_20 : decode cX6_pending 20 = .ok (.ixor, 1) := by decide +kernel
theorem dX6_pending_21 : decode cX6_pending 21 = .ok (.invokestatic 114, 3) := by decide +kernel
theorem dX6_pending_24 : decode cX6_pending 24 = .ok (.ireturn, 1) := by decide +kernel
theorem dX6_kept_0 : decode cX6_kept 0 = .ok (.aload_n 0, 1) := by decide +kernel
theorem dX6_kept_1 : decode cX6_kept 1 = .ok (.getfield 10, 3) := by decide +kernel
theorem dX6_kept_4 : decode cX6_kept 4 = .ok (.getfield 34, 3) := by decide +kernel
theorem dX6_kept_7 : decode cX6_kept 7 = .ok (.getfield 95, 3) := by decide +kernel
theorem dX6_kept_10 : decode cX6_kept 10 = .ok (.getfield 126, 3) := by decide +kernel
theorem dX6_kept_13 : decode cX6_kept 13 = .ok (.ireturn, 1) := by decide +kernel
theorem dX6_from_0 : decode cX6_from 0 = .ok (.aload_n 0, 1) := by decide +kernel
theorem dX6_from_1 : decode cX6_from 1 = .ok (.iload_n 1, 1) := by decide +kernel
theorem dX6_from_2 : decode cX6_from 2 = .ok (.invokevirtual 129, 3) := by decide +kernel
theorem dX6_from_5 : decode cX6_from 5 = .ok (.aload_n 0, 1) := by decide +kernel
theorem dX6_from_6 : decode cX6_from 6 = .ok (.getfield 10, 3) := by decide +kernel
theorem dX6_from_9 : decode cX6_from 9 = .ok (.getfield 34, 3) := by decide +kernel
theorem dX6_from_12 : decode cX6_from 12 = .ok (.getfield 95, 3) := by decide +kernel
theorem dX6_from_15 : decode cX6_from 15 = .ok (.getfield 132, 3) := by decide +kernel
theorem dX6_from_18 : decode cX6_from 18 = .ok (.iload_n 1, 1) := by decide +kernel
theorem dX6_from_19 : decode cX6_from 19 = .ok (.iaload, 1) := by decide +kernel
theorem dX6_from_20 : decode cX6_from 20 = .ok (.ireturn, 1) := by decide +kernel
theorem dX6_cost_0 : decode cX6_cost 0 = .ok (.aload_n 0, 1) := by decide +kernel
theorem dX6_cost_1 : decode cX6_cost 1 = .ok (.iload_n 1, 1) := by decide +kernel
theorem dX6_cost_2 : decode cX6_cost 2 = .ok (.invokevirtual 129, 3) := by decide +kernel
theorem dX6_cost_5 : decode cX6_cost 5 = .ok (.aload_n 0, 1) := by decide +kernel
theorem dX6_cost_6 : decode cX6_cost 6 = .ok (.getfield 10, 3) := by decide +kernel
theorem dX6_cost_9 : decode cX6_cost 9 = .ok (.getfield 34, 3) := by decide +kernel
theorem dX6_cost_12 : decode cX6_cost 12 = .ok (.getfield 95, 3) := by decide +kernel
theorem dX6_cost_15 : decode cX6_cost 15 = .ok (.getfield 136, 3) := by decide +kernel
theorem dX6_cost_18 : decode cX6_cost 18 = .ok (.iload_n 1, 1) := by decide +kernel
theorem dX6_cost_19 : decode cX6_cost 19 = .ok (.iaload, 1) := by decide +kernel
theorem dX6_cost_20 : decode cX6_cost 20 = .ok (.ireturn, 1) := by decide +kernel
theorem dX6_compare_0 : decode cX6_compare 0 = .ok (.iload_n 1, 1) := by decide +kernel
theorem dX6_compare_1 : decode cX6_compare 1 = .ok (.invokestatic 139, 3) := by decide +kernel
theorem dX6_compare_4 : decode cX6_compare 4 = .ok (.ifCond .eq 10, 3) := by decide +kernel
theorem dX6_compare_7 : decode cX6_compare 7 = .ok (.iload_n 2, 1) := by decide +kernel
theorem dX6_compare_8 : decode cX6_compare 8 = .ok (.invokestatic 139, 3) := by decide +kernel
theorem dX6_compare_11 : decode cX6_compare 11 = .ok (.ifCond .ne 13, 3) := by decide +kernel
theorem dX6_compare_14 : decode cX6_compare 14 = .ok (.new 85, 3) := by decide +kernel
theorem dX6_compare_17 : decode cX6_compare 17 = .ok (.dup, 1) := by decide +kernel
theorem dX6_compare_18 : decode cX6_compare 18 = .ok (.ldc 142, 2) := by decide +kernel
theorem dX6_compare_20 : decode cX6_compare 20 = .ok (.invokespecial 89, 3) := by decide +kernel
theorem dX6_compare_23 : decode cX6_compare 23 = .ok (.athrow, 1) := by decide +kernel
theorem dX6_compare_24 : decode cX6_compare 24 = .ok (.iload_n 1, 1) := by decide +kernel
theorem dX6_compare_25 : decode cX6_compare 25 = .ok (.iload_n 2, 1) := by decide +kernel
theorem dX6_compare_26 : decode cX6_compare 26 = .ok (.if_icmp .ne 5, 3) := by decide +kernel
theorem dX6_compare_29 : decode cX6_compare 29 = .ok (.iconst 0, 1) := by decide +kernel
theorem dX6_compare_30 : decode cX6_compare 30 = .ok (.ireturn, 1) := by decide +kernel
theorem dX6_compare_31 : decode cX6_compare 31 = .ok (.iload_n 1, 1) := by decide +kernel
theorem dX6_compare_32 : decode cX6_compare 32 = .ok (.iload_n 2, 1) := by decide +kernel
theorem dX6_compare_33 : decode cX6_compare 33 = .ok (.invokestatic 144, 3) := by decide +kernel
theorem dX6_compare_36 : decode cX6_compare 36 = .ok (.ifCond .eq 7, 3) := by decide +kernel
theorem dX6_compare_39 : decode cX6_compare 39 = .ok (.iconst 1, 1) := by decide +kernel
theorem dX6_compare_40 : decode cX6_compare 40 = .ok (.goto 4, 3) := by decide +kernel
theorem dX6_compare_43 : decode cX6_compare 43 = .ok (.iconst (-1), 1) := by decide +kernel
theorem dX6_compare_44 : decode cX6_compare 44 = .ok (.ireturn, 1) := by decide +kernel
theorem dX6_refresh_0 : decode cX6_refresh 0 = .ok (.aload_n 0, 1) := by decide +kernel
theorem dX6_refresh_1 : decode cX6_refresh 1 = .ok (.iload_n 1, 1) := by decide +kernel
theorem dX6_refresh_2 : decode cX6_refresh 2 = .ok (.invokevirtual 148, 3) := by decide +kernel
theorem dX6_refresh_5 : decode cX6_refresh 5 = .ok (.astore_n 2, 1) := by decide +kernel
theorem dX6_refresh_6 : decode cX6_refresh 6 = .ok (.aload_n 2, 1) := by decide +kernel
theorem dX6_refresh_7 : decode cX6_refresh 7 = .ok (.invokestatic 152, 3) := by decide +kernel
theorem dX6_refresh_10 : decode cX6_refresh 10 = .ok (.aload_n 0, 1) := by decide +kernel
theorem dX6_refresh_11 : decode cX6_refresh 11 = .ok (.getfield 19, 3) := by decide +kernel
theorem dX6_refresh_14 : decode cX6_refresh 14 = .ok (.aload_n 0, 1) := by decide +kernel
theorem dX6_refresh_15 : decode cX6_refresh 15 = .ok (.getfield 10, 3) := by decide +kernel
theorem dX6_refresh_18 : decode cX6_refresh 18 = .ok (.invokevirtual 51, 3) := by decide +kernel
theorem dX6_refresh_21 : decode cX6_refresh 21 = .ok (.aload_n 0, 1) := by decide +kernel
theorem dX6_refresh_22 : decode cX6_refresh 22 = .ok (.getfield 10, 3) := by decide +kernel
theorem dX6_refresh_25 : decode cX6_refresh 25 = .ok (.aload_n 2, 1) := by decide +kernel
theorem dX6_refresh_26 : decode cX6_refresh 26 = .ok (.invokevirtual 156, 3) := by decide +kernel
theorem dX6_refresh_29 : decode cX6_refresh 29 = .ok (.ireturn, 1) := by decide +kernel
theorem dX6_refreshAll_0 : decode cX6_refreshAll 0 = .ok (.aload_n 0, 1) := by decide +kernel
theorem dX6_refreshAll_1 : decode cX6_refreshAll 1 = .ok (.getfield 19, 3) := by decide +kernel
theorem dX6_refreshAll_4 : decode cX6_refreshAll 4 = .ok (.aload_n 0, 1) := by decide +kernel
theorem dX6_refreshAll_5 : decode cX6_refreshAll 5 = .ok (.getfield 10, 3) := by decide +kernel
theorem dX6_refreshAll_8 : decode cX6_refreshAll 8 = .ok (.invokevirtual 51, 3) := by decide +kernel
theorem dX6_refreshAll_11 : decode cX6_refreshAll 11 = .ok (.aload_n 0, 1) := by decide +kernel
theorem dX6_refreshAll_12 : decode cX6_refreshAll 12 = .ok (.getfield 10, 3) := by decide +kernel
theorem dX6_refreshAll_15 : decode cX6_refreshAll 15 = .ok (.invokevirtual 160, 3) := by decide +kernel
theorem dX6_refreshAll_18 : decode cX6_refreshAll 18 = .ok (.ireturn, 1) := by decide +kernel
theorem dX6_sleep_0 : decode cX6_sleep 0 = .ok (.aload_n 0, 1) := by decide +kernel
theorem dX6_sleep_1 : decode cX6_sleep 1 = .ok (.iload_n 1, 1) := by decide +kernel
theorem dX6_sleep_2 : decode cX6_sleep 2 = .ok (.invokevirtual 148, 3) := by decide +kernel
theorem dX6_sleep_5 : decode cX6_sleep 5 = .ok (.astore_n 2, 1) := by decide +kernel
theorem dX6_sleep_6 : decode cX6_sleep 6 = .ok (.aload_n 2, 1) := by decide +kernel
theorem dX6_sleep_7 : decode cX6_sleep 7 = .ok (.invokestatic 152, 3) := by decide +kernel
theorem dX6_sleep_10 : decode cX6_sleep 10 = .ok (.aload_n 0, 1) := by decide +kernel
theorem dX6_sleep_11 : decode cX6_sleep 11 = .ok (.getfield 19, 3) := by decide +kernel
theorem dX6_sleep_14 : decode cX6_sleep 14 = .ok (.aload_n 0, 1) := by decide +kernel
theorem dX6_sleep_15 : decode cX6_sleep 15 = .ok (.getfield 10, 3) := by decide +kernel
theorem dX6_sleep_18 : decode cX6_sleep 18 = .ok (.invokevirtual 51, 3) := by decide +kernel
theorem dX6_sleep_21 : decode cX6_sleep 21 = .ok (.aload_n 2, 1) := by decide +kernel
theorem dX6_sleep_22 : decode cX6_sleep 22 = .ok (.iconst 1, 1) := by decide +kernel
theorem dX6_sleep_23 : decode cX6_sleep 23 = .ok (.putfield 163, 3) := by decide +kernel
theorem dX6_sleep_26 : decode cX6_sleep 26 = .ok (.aload_n 0, 1) := by decide +kernel
theorem dX6_sleep_27 : decode cX6_sleep 27 = .ok (.getfield 10, 3) := by decide +kernel
theorem dX6_sleep_30 : decode cX6_sleep 30 = .ok (.invokevirtual 169, 3) := by decide +kernel
theorem dX6_sleep_33 : decode cX6_sleep 33 = .ok (.ireturn, 1) := by decide +kernel
theorem dX6_wake_0 : decode cX6_wake 0 = .ok (.aload_n 0, 1) := by decide +kernel
theorem dX6_wake_1 : decode cX6_wake 1 = .ok (.iload_n 1, 1) := by decide +kernel
theorem dX6_wake_2 : decode cX6_wake 2 = .ok (.invokevirtual 148, 3) := by decide +kernel
theorem dX6_wake_5 : decode cX6_wake 5 = .ok (.astore_n 2, 1) := by decide +kernel
theorem dX6_wake_6 : decode cX6_wake 6 = .ok (.aload_n 2, 1) := by decide +kernel
theorem dX6_wake_7 : decode cX6_wake 7 = .ok (.getfield 163, 3) := by decide +kernel
theorem dX6_wake_10 : decode cX6_wake 10 = .ok (.ifCond .ne 13, 3) := by decide +kernel
theorem dX6_wake_13 : decode cX6_wake 13 = .ok (.new 44, 3) := by decide +kernel
theorem dX6_wake_16 : decode cX6_wake 16 = .ok (.dup, 1) := by decide +kernel
theorem dX6_wake_17 : decode cX6_wake 17 = .ok (.ldc 172, 2) := by decide +kernel
theorem dX6_wake_19 : decode cX6_wake 19 = .ok (.invokespecial 48, 3) := by decide +kernel
theorem dX6_wake_22 : decode cX6_wake 22 = .ok (.athrow, 1) := by decide +kernel
theorem dX6_wake_23 : decode cX6_wake 23 = .ok (.aload_n 0, 1) := by decide +kernel
theorem dX6_wake_24 : decode cX6_wake 24 = .ok (.getfield 19, 3) := by decide +kernel
theorem dX6_wake_27 : decode cX6_wake 27 = .ok (.aload_n 0, 1) := by decide +kernel
theorem dX6_wake_28 : decode cX6_wake 28 = .ok (.getfield 10, 3) := by decide +kernel
theorem dX6_wake_31 : decode cX6_wake 31 = .ok (.invokevirtual 51, 3) := by decide +kernel
theorem dX6_wake_34 : decode cX6_wake 34 = .ok (.aload_n 2, 1) := by decide +kernel
theorem dX6_wake_35 : decode cX6_wake 35 = .ok (.iconst 0, 1) := by decide +kernel
theorem dX6_wake_36 : decode cX6_wake 36 = .ok (.putfield 163, 3) := by decide +kernel
theorem dX6_wake_39 : decode cX6_wake 39 = .ok (.aload_n 0, 1) := by decide +kernel
theorem dX6_wake_40 : decode cX6_wake 40 = .ok (.getfield 10, 3) := by decide +kernel
theorem dX6_wake_43 : decode cX6_wake 43 = .ok (.invokevirtual 169, 3) := by decide +kernel
theorem dX6_wake_46 : decode cX6_wake 46 = .ok (.ireturn, 1) := by decide +kernel
theorem dX6_throwAway_0 : decode cX6_throwAway 0 = .ok (.aload_n 0, 1) := by decide +kernel
theorem dX6_throwAway_1 : decode cX6_throwAway 1 = .ok (.iload_n 1, 1) := by decide +kernel
theorem dX6_throwAway_2 : decode cX6_throwAway 2 = .ok (.invokevirtual 148, 3) := by decide +kernel
theorem dX6_throwAway_5 : decode cX6_throwAway 5 = .ok (.astore_n 2, 1) := by decide +kernel
theorem dX6_throwAway_6 : decode cX6_throwAway 6 = .ok (.aload_n 0, 1) := by decide +kernel
theorem dX6_throwAway_7 : decode cX6_throwAway 7 = .ok (.getfield 19, 3) := by decide +kernel
theorem dX6_throwAway_10 : decode cX6_throwAway 10 = .ok (.aload_n 0, 1) := by decide +kernel
theorem dX6_throwAway_11 : decode cX6_throwAway 11 = .ok (.getfield 10, 3) := by decide +kernel
theorem dX6_throwAway_14 : decode cX6_throwAway 14 = .ok (.invokevirtual 51, 3) := by decide +kernel
theorem dX6_throwAway_17 : decode cX6_throwAway 17 = .ok (.aload_n 2, 1) := by decide +kernel
theorem dX6_throwAway_18 : decode cX6_throwAway 18 = .ok (.invokevirtual 174, 3) := by decide +kernel
theorem dX6_throwAway_21 : decode cX6_throwAway 21 = .ok (.istore_n 3, 1) := by decide +kernel
theorem dX6_throwAway_22 : decode cX6_throwAway 22 = .ok (.aload_n 2, 1) := by decide +kernel
theorem dX6_throwAway_23 : decode cX6_throwAway 23 = .ok (.invokevirtual 177, 3) := by decide +kernel
theorem dX6_throwAway_26 : decode cX6_throwAway 26 = .ok (.iload_n 3, 1) := by decide +kernel
theorem dX6_throwAway_27 : decode cX6_throwAway 27 = .ok (.ireturn, 1) := by decide +kernel
theorem dX6_editionOf_0 : decode cX6_editionOf 0 = .ok (.aload_n 0, 1) := by decide +kernel
theorem dX6_editionOf_1 : decode cX6_editionOf 1 = .ok (.iload_n 1, 1) := by decide +kernel
theorem dX6_editionOf_2 : decode cX6_editionOf 2 = .ok (.invokevirtual 148, 3) := by decide +kernel
theorem dX6_editionOf_5 : decode cX6_editionOf 5 = .ok (.invokevirtual 180, 3) := by decide +kernel
theorem dX6_editionOf_8 : decode cX6_editionOf 8 = .ok (.ireturn, 1) := by decide +kernel
theorem dX6_streets_0 : decode cX6_streets 0 = .ok (.aload_n 0, 1) := by decide +kernel
theorem dX6_streets_1 : decode cX6_streets 1 = .ok (.iload_n 1, 1) := by decide +kernel
theorem dX6_streets_2 : decode cX6_streets 2 = .ok (.invokevirtual 148, 3) := by decide +kernel
theorem dX6_streets_5 : decode cX6_streets 5 = .ok (.invokevirtual 174, 3) := by decide +kernel
theorem dX6_streets_8 : decode cX6_streets 8 = .ok (.ireturn, 1) := by decide +kernel
theorem dX6_has_0 : decode cX6_has 0 = .ok (.iload_n 2, 1) := by decide +kernel
theorem dX6_has_1 : decode cX6_has 1 = .ok (.invokestatic 30, 3) := by decide +kernel
theorem dX6_has_4 : decode cX6_has 4 = .ok (.aload_n 0, 1) := by decide +kernel
theorem dX6_has_5 : decode cX6_has 5 = .ok (.iload_n 1, 1) := by decide +kernel
theorem dX6_has_6 : decode cX6_has 6 = .ok (.invokevirtual 148, 3) := by decide +kernel
theorem dX6_has_9 : decode cX6_has 9 = .ok (.iload_n 2, 1) := by decide +kernel
theorem dX6_has_10 : decode cX6_has 10 = .ok (.invokevirtual 183, 3) := by decide +kernel
theorem dX6_has_13 : decode cX6_has 13 = .ok (.ireturn, 1) := by decide +kernel
theorem dX6_isRight_0 : decode cX6_isRight 0 = .ok (.aload_n 0, 1) := by decide +kernel
theorem dX6_isRight_1 : decode cX6_isRight 1 = .ok (.iload_n 1, 1) := by decide +kernel
theorem dX6_isRight_2 : decode cX6_isRight 2 = .ok (.invokevirtual 148, 3) := by decide +kernel
theorem dX6_isRight_5 : decode cX6_isRight 5 = .ok (.aload_n 0, 1) := by decide +kernel
theorem dX6_isRight_6 : decode cX6_isRight 6 = .ok (.getfield 10, 3) := by decide +kernel
theorem dX6_isRight_9 : decode cX6_isRight 9 = .ok (.getfield 34, 3) := by decide +kernel
theorem dX6_isRight_12 : decode cX6_isRight 12 = .ok (.getfield 120, 3) := by decide +kernel
theorem dX6_isRight_15 : decode cX6_isRight 15 = .ok (.invokevirtual 186, 3) := by decide +kernel
theorem dX6_isRight_18 : decode cX6_isRight 18 = .ok (.ifCond .ne 7, 3) := by decide +kernel
theorem dX6_isRight_21 : decode cX6_isRight 21 = .ok (.iconst 1, 1) := by decide +kernel
theorem dX6_isRight_22 : decode cX6_isRight 22 = .ok (.goto 4, 3) := by decide +kernel
theorem dX6_isRight_25 : decode cX6_isRight 25 = .ok (.iconst 0, 1) := by decide +kernel
theorem dX6_isRight_26 : decode cX6_isRight 26 = .ok (.ireturn, 1) := by decide +kernel
theorem dX6_attention_0 : decode cX6_attention 0 = .ok (.aload_n 0, 1) := by decide +kernel
theorem dX6_attention_1 : decode cX6_attention 1 = .ok (.iload_n 1, 1) := by decide +kernel
theorem dX6_attention_2 : decode cX6_attention 2 = .ok (.invokevirtual 148, 3) := by decide +kernel
theorem dX6_attention_5 : decode cX6_attention 5 = .ok (.invokevirtual 189, 3) := by decide +kernel
theorem dX6_attention_8 : decode cX6_attention 8 = .ok (.ireturn, 1) := by decide +kernel
theorem dX6_costs_0 : decode cX6_costs 0 = .ok (.aload_n 0, 1) := by decide +kernel
theorem dX6_costs_1 : decode cX6_costs 1 = .ok (.iload_n 1, 1) := by decide +kernel
theorem dX6_costs_2 : decode cX6_costs 2 = .ok (.invokevirtual 148, 3) := by decide +kernel
theorem dX6_costs_5 : decode cX6_costs 5 = .ok (.getfield 192, 3) := by decide +kernel
theorem dX6_costs_8 : decode cX6_costs 8 = .ok (.ireturn, 1) := by decide +kernel
theorem dX6_answer_0 : decode cX6_answer 0 = .ok (.aload_n 0, 1) := by decide +kernel
theorem dX6_answer_1 : decode cX6_answer 1 = .ok (.getfield 10, 3) := by decide +kernel
theorem dX6_answer_4 : decode cX6_answer 4 = .ok (.getfield 34, 3) := by decide +kernel
theorem dX6_answer_7 : decode cX6_answer 7 = .ok (.aload_n 0, 1) := by decide +kernel
theorem dX6_answer_8 : decode cX6_answer 8 = .ok (.iload_n 1, 1) := by decide +kernel
theorem dX6_answer_9 : decode cX6_answer 9 = .ok (.invokevirtual 148, 3) := by decide +kernel
theorem dX6_answer_12 : decode cX6_answer 12 = .ok (.invokevirtual 195, 3) := by decide +kernel
theorem dX6_answer_15 : decode cX6_answer 15 = .ok (.ireturn, 1) := by decide +kernel
theorem dX6_costToCome_0 : decode cX6_costToCome 0 = .ok (.aload_n 0, 1) := by decide +kernel
theorem dX6_costToCome_1 : decode cX6_costToCome 1 = .ok (.getfield 10, 3) := by decide +kernel
theorem dX6_costToCome_4 : decode cX6_costToCome 4 = .ok (.aload_n 0, 1) := by decide +kernel
theorem dX6_costToCome_5 : decode cX6_costToCome 5 = .ok (.iload_n 1, 1) := by decide +kernel
theorem dX6_costToCome_6 : decode cX6_costToCome 6 = .ok (.invokevirtual 148, 3) := by decide +kernel
theorem dX6_costToCome_9 : decode cX6_costToCome 9 = .ok (.invokevirtual 198, 3) := by decide +kernel
theorem dX6_costToCome_12 : decode cX6_costToCome 12 = .ok (.ireturn, 1) := by decide +kernel
theorem dX6_wrong_0 : decode cX6_wrong 0 = .ok (.aload_n 0, 1) := by decide +kernel
theorem dX6_wrong_1 : decode cX6_wrong 1 = .ok (.iload_n 1, 1) := by decide +kernel
theorem dX6_wrong_2 : decode cX6_wrong 2 = .ok (.invokevirtual 148, 3) := by decide +kernel
theorem dX6_wrong_5 : decode cX6_wrong 5 = .ok (.aload_n 0, 1) := by decide +kernel
theorem dX6_wrong_6 : decode cX6_wrong 6 = .ok (.getfield 10, 3) := by decide +kernel
theorem dX6_wrong_9 : decode cX6_wrong 9 = .ok (.getfield 34, 3) := by decide +kernel
theorem dX6_wrong_12 : decode cX6_wrong 12 = .ok (.getfield 120, 3) := by decide +kernel
theorem dX6_wrong_15 : decode cX6_wrong 15 = .ok (.invokevirtual 186, 3) := by decide +kernel
theorem dX6_wrong_18 : decode cX6_wrong 18 = .ok (.ireturn, 1) := by decide +kernel
theorem dX6_savedShare_0 : decode cX6_savedShare 0 = .ok (.iconst 0, 1) := by decide +kernel
theorem dX6_savedShare_1 : decode cX6_savedShare 1 = .ok (.istore_n 1, 1) := by decide +kernel
theorem dX6_savedShare_2 : decode cX6_savedShare 2 = .ok (.iconst 0, 1) := by decide +kernel
theorem dX6_savedShare_3 : decode cX6_savedShare 3 = .ok (.istore_n 2, 1) := by decide +kernel
theorem dX6_savedShare_4 : decode cX6_savedShare 4 = .ok (.iconst 0, 1) := by decide +kernel
theorem dX6_savedShare_5 : decode cX6_savedShare 5 = .ok (.istore_n 3, 1) := by decide +kernel
theorem dX6_savedShare_6 : decode cX6_savedShare 6 = .ok (.iload_n 3, 1) := by decide +kernel
theorem dX6_savedShare_7 : decode cX6_savedShare 7 = .ok (.iconst 4, 1) := by decide +kernel
theorem dX6_savedShare_8 : decode cX6_savedShare 8 = .ok (.if_icmp .ge 39, 3) := by decide +kernel
theorem dX6_savedShare_11 : decode cX6_savedShare 11 = .ok (.iload_n 1, 1) := by decide +kernel
theorem dX6_savedShare_12 : decode cX6_savedShare 12 = .ok (.aload_n 0, 1) := by decide +kernel
theorem dX6_savedShare_13 : decode cX6_savedShare 13 = .ok (.getfield 10, 3) := by decide +kernel
theorem dX6_savedShare_16 : decode cX6_savedShare 16 = .ok (.getfield 201, 3) := by decide +kernel
theorem dX6_savedShare_19 : decode cX6_savedShare 19 = .ok (.iload_n 3, 1) := by decide +kernel
theorem dX6_savedShare_20 : decode cX6_savedShare 20 = .ok (.aaload, 1) := by decide +kernel
theorem dX6_savedShare_21 : decode cX6_savedShare 21 = .ok (.getfield 192, 3) := by decide +kernel
theorem dX6_savedShare_24 : decode cX6_savedShare 24 = .ok (.iadd, 1) := by decide +kernel
theorem dX6_savedShare_25 : decode cX6_savedShare 25 = .ok (.istore_n 1, 1) := by decide +kernel
theorem dX6_savedShare_26 : decode cX6_savedShare 26 = .ok (.iload_n 2, 1) := by decide +kernel
theorem dX6_savedShare_27 : decode cX6_savedShare 27 = .ok (.aload_n 0, 1) := by decide +kernel
theorem dX6_savedShare_28 : decode cX6_savedShare 28 = .ok (.getfield 10, 3) := by decide +kernel
theorem dX6_savedShare_31 : decode cX6_savedShare 31 = .ok (.getfield 201, 3) := by decide +kernel
theorem dX6_savedShare_34 : decode cX6_savedShare 34 = .ok (.iload_n 3, 1) := by decide +kernel
theorem dX6_savedShare_35 : decode cX6_savedShare 35 = .ok (.aaload, 1) := by decide +kernel
theorem dX6_savedShare_36 : decode cX6_savedShare 36 = .ok (.getfield 205, 3) := by decide +kernel
theorem dX6_savedShare_39 : decode cX6_savedShare 39 = .ok (.iadd, 1) := by decide +kernel
theorem dX6_savedShare_40 : decode cX6_savedShare 40 = .ok (.istore_n 2, 1) := by decide +kernel
theorem dX6_savedShare_41 : decode cX6_savedShare 41 = .ok (.iinc 3 1, 3) := by decide +kernel
theorem dX6_savedShare_44 : decode cX6_savedShare 44 = .ok (.goto (-38), 3) := by decide +kernel
theorem dX6_savedShare_47 : decode cX6_savedShare 47 = .ok (.iload_n 2, 1) := by decide +kernel
theorem dX6_savedShare_48 : decode cX6_savedShare 48 = .ok (.ifCond .ne 5, 3) := by decide +kernel
theorem dX6_savedShare_51 : decode cX6_savedShare 51 = .ok (.dconst 0, 1) := by decide +kernel
theorem dX6_savedShare_52 : decode cX6_savedShare 52 = .ok (.dreturn, 1) := by decide +kernel
theorem dX6_savedShare_53 : decode cX6_savedShare 53 = .ok (.dconst 1, 1) := by decide +kernel
theorem dX6_savedShare_54 : decode cX6_savedShare 54 = .ok (.iload_n 1, 1) := by decide +kernel
theorem dX6_savedShare_55 : decode cX6_savedShare 55 = .ok (.i2d, 1) := by decide +kernel
theorem dX6_savedShare_56 : decode cX6_savedShare 56 = .ok (.iload_n 2, 1) := by decide +kernel
theorem dX6_savedShare_57 : decode cX6_savedShare 57 = .ok (.i2d, 1) := by decide +kernel
theorem dX6_savedShare_58 : decode cX6_savedShare 58 = .ok (.ddiv, 1) := by decide +kernel
theorem dX6_savedShare_59 : decode cX6_savedShare 59 = .ok (.dsub, 1) := by decide +kernel
theorem dX6_savedShare_60 : decode cX6_savedShare 60 = .ok (.dreturn, 1) := by decide +kernel
theorem dX6_undo_0 : decode cX6_undo 0 = .ok (.aload_n 0, 1) := by decide +kernel
theorem dX6_undo_1 : decode cX6_undo 1 = .ok (.getfield 19, 3) := by decide +kernel
theorem dX6_undo_4 : decode cX6_undo 4 = .ok (.getfield 233, 3) := by decide +kernel
theorem dX6_undo_7 : decode cX6_undo 7 = .ok (.ifCond .ne 13, 3) := by decide +kernel
theorem dX6_undo_10 : decode cX6_undo 10 = .ok (.new 44, 3) := by decide +kernel
theorem dX6_undo_13 : decode cX6_undo 13 = .ok (.dup, 1) := by decide +kernel
theorem dX6_undo_14 : decode cX6_undo 14 = .ok (.ldc 234, 2) := by decide +kernel
theorem dX6_undo_16 : decode cX6_undo 16 = .ok (.invokespecial 48, 3) := by decide +kernel
theorem dX6_undo_19 : decode cX6_undo 19 = .ok (.athrow, 1) := by decide +kernel
theorem dX6_undo_20 : decode cX6_undo 20 = .ok (.aload_n 0, 1) := by decide +kernel
theorem dX6_undo_21 : decode cX6_undo 21 = .ok (.getfield 19, 3) := by decide +kernel
theorem dX6_undo_24 : decode cX6_undo 24 = .ok (.aload_n 0, 1) := by decide +kernel
theorem dX6_undo_25 : decode cX6_undo 25 = .ok (.getfield 10, 3) := by decide +kernel
theorem dX6_undo_28 : decode cX6_undo 28 = .ok (.invokevirtual 236, 3) := by decide +kernel
theorem dX6_undo_31 : decode cX6_undo 31 = .ok (.aload_n 0, 1) := by decide +kernel
theorem dX6_undo_32 : decode cX6_undo 32 = .ok (.getfield 19, 3) := by decide +kernel
theorem dX6_undo_35 : decode cX6_undo 35 = .ok (.getfield 233, 3) := by decide +kernel
theorem dX6_undo_38 : decode cX6_undo 38 = .ok (.ireturn, 1) := by decide +kernel
theorem dX6_savedStates_0 : decode cX6_savedStates 0 = .ok (.aload_n 0, 1) := by decide +kernel
theorem dX6_savedStates_1 : decode cX6_savedStates 1 = .ok (.getfield 19, 3) := by decide +kernel
theorem dX6_savedStates_4 : decode cX6_savedStates 4 = .ok (.getfield 233, 3) := by decide +kernel
theorem dX6_savedStates_7 : decode cX6_savedStates 7 = .ok (.ireturn, 1) := by decide +kernel
theorem dX6_digest_0 : decode cX6_digest 0 = .ok (.ldc2_w 239, 3) := by decide +kernel
theorem dX6_digest_3 : decode cX6_digest 3 = .ok (.lstore_n 1, 1) := by decide +kernel
theorem dX6_digest_4 : decode cX6_digest 4 = .ok (.ldc2_w 241, 3) := by decide +kernel
theorem dX6_digest_7 : decode cX6_digest 7 = .ok (.lload_n 1, 1) := by decide +kernel
theorem dX6_digest_8 : decode cX6_digest 8 = .ok (.lmul, 1) := by decide +kernel
theorem dX6_digest_9 : decode cX6_digest 9 = .ok (.aload_n 0, 1) := by decide +kernel
theorem dX6_digest_10 : decode cX6_digest 10 = .ok (.invokevirtual 79, 3) := by decide +kernel
theorem dX6_digest_13 : decode cX6_digest 13 = .ok (.i2l, 1) := by decide +kernel
theorem dX6_digest_14 : decode cX6_digest 14 = .ok (.ladd, 1) := by decide +kernel
theorem dX6_digest_15 : decode cX6_digest 15 = .ok (.lstore_n 1, 1) := by decide +kernel
theorem dX6_digest_16 : decode cX6_digest 16 = .ok (.ldc2_w 241, 3) := by decide +kernel
theorem dX6_digest_19 : decode cX6_digest 19 = .ok (.lload_n 1, 1) := by decide +kernel
theorem dX6_digest_20 : decode cX6_digest 20 = .ok (.lmul, 1) := by decide +kernel
theorem dX6_digest_21 : decode cX6_digest 21 = .ok (.aload_n 0, 1) := by decide +kernel
theorem dX6_digest_22 : decode cX6_digest 22 = .ok (.invokevirtual 58, 3) := by decide +kernel
theorem dX6_digest_25 : decode cX6_digest 25 = .ok (.i2l, 1) := by decide +kernel
theorem dX6_digest_26 : decode cX6_digest 26 = .ok (.ladd, 1) := by decide +kernel
theorem dX6_digest_27 : decode cX6_digest 27 = .ok (.lstore_n 1, 1) := by decide +kernel
theorem dX6_digest_28 : decode cX6_digest 28 = .ok (.ldc2_w 241, 3) := by decide +kernel
theorem dX6_digest_31 : decode cX6_digest 31 = .ok (.lload_n 1, 1) := by decide +kernel
theorem dX6_digest_32 : decode cX6_digest 32 = .ok (.lmul, 1) := by decide +kernel
theorem dX6_digest_33 : decode cX6_digest 33 = .ok (.aload_n 0, 1) := by decide +kernel
theorem dX6_digest_34 : decode cX6_digest 34 = .ok (.invokevirtual 243, 3) := by decide +kernel
theorem dX6_digest_37 : decode cX6_digest 37 = .ok (.i2l, 1) := by decide +kernel
theorem dX6_digest_38 : decode cX6_digest 38 = .ok (.ladd, 1) := by decide +kernel
theorem dX6_digest_39 : decode cX6_digest 39 = .ok (.lstore_n 1, 1) := by decide +kernel
theorem dX6_digest_40 : decode cX6_digest 40 = .ok (.ldc2_w 241, 3) := by decide +kernel
theorem dX6_digest_43 : decode cX6_digest 43 = .ok (.lload_n 1, 1) := by decide +kernel
theorem dX6_digest_44 : decode cX6_digest 44 = .ok (.lmul, 1) := by decide +kernel
theorem dX6_digest_45 : decode cX6_digest 45 = .ok (.aload_n 0, 1) := by decide +kernel
theorem dX6_digest_46 : decode cX6_digest 46 = .ok (.invokevirtual 246, 3) := by decide +kernel
theorem dX6_digest_49 : decode cX6_digest 49 = .ok (.i2l, 1) := by decide +kernel
theorem dX6_digest_50 : decode cX6_digest 50 = .ok (.ladd, 1) := by decide +kernel
theorem dX6_digest_51 : decode cX6_digest 51 = .ok (.lstore_n 1, 1) := by decide +kernel
theorem dX6_digest_52 : decode cX6_digest 52 = .ok (.ldc2_w 241, 3) := by decide +kernel
theorem dX6_digest_55 : decode cX6_digest 55 = .ok (.lload_n 1, 1) := by decide +kernel
theorem dX6_digest_56 : decode cX6_digest 56 = .ok (.lmul, 1) := by decide +kernel
theorem dX6_digest_57 : decode cX6_digest 57 = .ok (.aload_n 0, 1) := by decide +kernel
theorem dX6_digest_58 : decode cX6_digest 58 = .ok (.invokevirtual 104, 3) := by decide +kernel
theorem dX6_digest_61 : decode cX6_digest 61 = .ok (.i2l, 1) := by decide +kernel
theorem dX6_digest_62 : decode cX6_digest 62 = .ok (.ladd, 1) := by decide +kernel
theorem dX6_digest_63 : decode cX6_digest 63 = .ok (.lstore_n 1, 1) := by decide +kernel
theorem dX6_digest_64 : decode cX6_digest 64 = .ok (.lload_n 1, 1) := by decide +kernel
theorem dX6_digest_65 : decode cX6_digest 65 = .ok (.aload_n 0, 1) := by decide +kernel
theorem dX6_digest_66 : decode cX6_digest 66 = .ok (.getfield 10, 3) := by decide +kernel
theorem dX6_digest_69 : decode cX6_digest 69 = .ok (.getfield 34, 3) := by decide +kernel
theorem dX6_digest_72 : decode cX6_digest 72 = .ok (.getfield 95, 3) := by decide +kernel
theorem dX6_digest_75 : decode cX6_digest 75 = .ok (.invokestatic 249, 3) := by decide +kernel
theorem dX6_digest_78 : decode cX6_digest 78 = .ok (.lstore_n 1, 1) := by decide +kernel
theorem dX6_digest_79 : decode cX6_digest 79 = .ok (.iconst 0, 1) := by decide +kernel
theorem dX6_digest_80 : decode cX6_digest 80 = .ok (.istore_n 3, 1) := by decide +kernel
theorem dX6_digest_81 : decode cX6_digest 81 = .ok (.iload_n 3, 1) := by decide +kernel
theorem dX6_digest_82 : decode cX6_digest 82 = .ok (.iconst 4, 1) := by decide +kernel
theorem dX6_digest_83 : decode cX6_digest 83 = .ok (.if_icmp .ge 24, 3) := by decide +kernel
theorem dX6_digest_86 : decode cX6_digest 86 = .ok (.aload_n 0, 1) := by decide +kernel
theorem dX6_digest_87 : decode cX6_digest 87 = .ok (.lload_n 1, 1) := by decide +kernel
theorem dX6_digest_88 : decode cX6_digest 88 = .ok (.aload_n 0, 1) := by decide +kernel
theorem dX6_digest_89 : decode cX6_digest 89 = .ok (.getfield 10, 3) := by decide +kernel
theorem dX6_digest_92 : decode cX6_digest 92 = .ok (.getfield 201, 3) := by decide +kernel
theorem dX6_digest_95 : decode cX6_digest 95 = .ok (.iload_n 3, 1) := by decide +kernel
theorem dX6_digest_96 : decode cX6_digest 96 = .ok (.aaload, 1) := by decide +kernel
theorem dX6_digest_97 : decode cX6_digest 97 = .ok (.invokevirtual 253, 3) := by decide +kernel
theorem dX6_digest_100 : decode cX6_digest 100 = .ok (.lstore_n 1, 1) := by decide +kernel
theorem dX6_digest_101 : decode cX6_digest 101 = .ok (.iinc 3 1, 3) := by decide +kernel
theorem dX6_digest_104 : decode cX6_digest 104 = .ok (.goto (-23), 3) := by decide +kernel
theorem dX6_digest_107 : decode cX6_digest 107 = .ok (.iconst 0, 1) := by decide +kernel
theorem dX6_digest_108 : decode cX6_digest 108 = .ok (.istore_n 3, 1) := by decide +kernel
theorem dX6_digest_109 : decode cX6_digest 109 = .ok (.iload_n 3, 1) := by decide +kernel
theorem dX6_digest_110 : decode cX6_digest 110 = .ok (.bipush 30, 2) := by decide +kernel
theorem dX6_digest_112 : decode cX6_digest 112 = .ok (.if_icmp .ge 16, 3) := by decide +kernel
theorem dX6_digest_115 : decode cX6_digest 115 = .ok (.aload_n 0, 1) := by decide +kernel
theorem dX6_digest_116 : decode cX6_digest 116 = .ok (.lload_n 1, 1) := by decide +kernel
theorem dX6_digest_117 : decode cX6_digest 117 = .ok (.iload_n 3, 1) := by decide +kernel
theorem dX6_digest_118 : decode cX6_digest 118 = .ok (.invokevirtual 257, 3) := by decide +kernel
theorem dX6_digest_121 : decode cX6_digest 121 = .ok (.lstore_n 1, 1) := by decide +kernel
theorem dX6_digest_122 : decode cX6_digest 122 = .ok (.iinc 3 1, 3) := by decide +kernel
theorem dX6_digest_125 : decode cX6_digest 125 = .ok (.goto (-16), 3) := by decide +kernel
theorem dX6_digest_128 : decode cX6_digest 128 = .ok (.lload_n 1, 1) := by decide +kernel
theorem dX6_digest_129 : decode cX6_digest 129 = .ok (.lreturn, 1) := by decide +kernel
theorem dX6_withDifferences_0 : decode cX6_withDifferences 0 = .ok (.lload_n 0, 1) := by decide +kernel
theorem dX6_withDifferences_1 : decode cX6_withDifferences 1 = .ok (.lstore_n 3, 1) := by decide +kernel
theorem dX6_withDifferences_2 : decode cX6_withDifferences 2 = .ok (.iconst 0, 1) := by decide +kernel
theorem dX6_withDifferences_3 : decode cX6_withDifferences 3 = .ok (.istore 5, 2) := by decide +kernel
theorem dX6_withDifferences_5 : decode cX6_withDifferences 5 = .ok (.iload 5, 2) := by decide +kernel
theorem dX6_withDifferences_7 : decode cX6_withDifferences 7 = .ok (.aload_n 2, 1) := by decide +kernel
theorem dX6_withDifferences_8 : decode cX6_withDifferences 8 = .ok (.getfield 126, 3) := by decide +kernel
theorem dX6_withDifferences_11 : decode cX6_withDifferences 11 = .ok (.if_icmp .ge 39, 3) := by decide +kernel
theorem dX6_withDifferences_14 : decode cX6_withDifferences 14 = .ok (.ldc2_w 241, 3) := by decide +kernel
theorem dX6_withDifferences_17 : decode cX6_withDifferences 17 = .ok (.lload_n 3, 1) := by decide +kernel
theorem dX6_withDifferences_18 : decode cX6_withDifferences 18 = .ok (.lmul, 1) := by decide +kernel
theorem dX6_withDifferences_19 : decode cX6_withDifferences 19 = .ok (.aload_n 2, 1) := by decide +kernel
theorem dX6_withDifferences_20 : decode cX6_withDifferences 20 = .ok (.getfield 132, 3) := by decide +kernel
theorem dX6_withDifferences_23 : decode cX6_withDifferences 23 = .ok (.iload 5, 2) := by decide +kernel
theorem dX6_withDifferences_25 : decode cX6_withDifferences 25 = .ok (.iaload, 1) := by decide +kernel
theorem dX6_withDifferences_26 : decode cX6_withDifferences 26 = .ok (.i2l, 1) := by decide +kernel
theorem dX6_withDifferences_27 : decode cX6_withDifferences 27 = .ok (.ladd, 1) := by decide +kernel
theorem dX6_withDifferences_28 : decode cX6_withDifferences 28 = .ok (.lstore_n 3, 1) := by decide +kernel
theorem dX6_withDifferences_29 : decode cX6_withDifferences 29 = .ok (.ldc2_w 241, 3) := by decide +kernel
theorem dX6_withDifferences_32 : decode cX6_withDifferences 32 = .ok (.lload_n 3, 1) := by decide +kernel
theorem dX6_withDifferences_33 : decode cX6_withDifferences 33 = .ok (.lmul, 1) := by decide +kernel
theorem dX6_withDifferences_34 : decode cX6_withDifferences 34 = .ok (.aload_n 2, 1) := by decide +kernel
theorem dX6_withDifferences_35 : decode cX6_withDifferences 35 = .ok (.getfield 136, 3) := by decide +kernel
theorem dX6_withDifferences_38 : decode cX6_withDifferences 38 = .ok (.iload 5, 2) := by decide +kernel
theorem dX6_withDifferences_40 : decode cX6_withDifferences 40 = .ok (.iaload, 1) := by decide +kernel
theorem dX6_withDifferences_41 : decode cX6_withDifferences 41 = .ok (.i2l, 1) := by decide +kernel
theorem dX6_withDifferences_42 : decode cX6_withDifferences 42 = .ok (.ladd, 1) := by decide +kernel
theorem dX6_withDifferences_43 : decode cX6_withDifferences 43 = .ok (.lstore_n 3, 1) := by decide +kernel
theorem dX6_withDifferences_44 : decode cX6_withDifferences 44 = .ok (.iinc 5 1, 3) := by decide +kernel
theorem dX6_withDifferences_47 : decode cX6_withDifferences 47 = .ok (.goto (-42), 3) := by decide +kernel
theorem dX6_withDifferences_50 : decode cX6_withDifferences 50 = .ok (.lload_n 3, 1) := by decide +kernel
theorem dX6_withDifferences_51 : decode cX6_withDifferences 51 = .ok (.lreturn, 1) := by decide +kernel
theorem dX6_withFollower_0 : decode cX6_withFollower 0 = .ok (.lload_n 1, 1) := by decide +kernel
theorem dX6_withFollower_1 : decode cX6_withFollower 1 = .ok (.lstore 4, 2) := by decide +kernel
theorem dX6_withFollower_3 : decode cX6_withFollower 3 = .ok (.ldc2_w 241, 3) := by decide +kernel
theorem dX6_withFollower_6 : decode cX6_withFollower 6 = .ok (.lload 4, 2) := by decide +kernel
theorem dX6_withFollower_8 : decode cX6_withFollower 8 = .ok (.lmul, 1) := by decide +kernel
theorem dX6_withFollower_9 : decode cX6_withFollower 9 = .ok (.aload_n 3, 1) := by decide +kernel
theorem dX6_withFollower_10 : decode cX6_withFollower 10 = .ok (.invokevirtual 180, 3) := by decide +kernel
theorem dX6_withFollower_13 : decode cX6_withFollower 13 = .ok (.i2l, 1) := by decide +kernel
theorem dX6_withFollower_14 : decode cX6_withFollower 14 = .ok (.ladd, 1) := by decide +kernel
theorem dX6_withFollower_15 : decode cX6_withFollower 15 = .ok (.lstore 4, 2) := by decide +kernel
theorem dX6_withFollower_17 : decode cX6_withFollower 17 = .ok (.ldc2_w 241, 3) := by decide +kernel
theorem dX6_withFollower_20 : decode cX6_withFollower 20 = .ok (.lload 4, 2) := by decide +kernel
theorem dX6_withFollower_22 : decode cX6_withFollower 22 = .ok (.lmul, 1) := by decide +kernel
theorem dX6_withFollower_23 : decode cX6_withFollower 23 = .ok (.aload_n 3, 1) := by decide +kernel
theorem dX6_withFollower_24 : decode cX6_withFollower 24 = .ok (.invokevirtual 174, 3) := by decide +kernel
theorem dX6_withFollower_27 : decode cX6_withFollower 27 = .ok (.i2l, 1) := by decide +kernel
theorem dX6_withFollower_28 : decode cX6_withFollower 28 = .ok (.ladd, 1) := by decide +kernel
theorem dX6_withFollower_29 : decode cX6_withFollower 29 = .ok (.lstore 4, 2) := by decide +kernel
theorem dX6_withFollower_31 : decode cX6_withFollower 31 = .ok (.ldc2_w 241, 3) := by decide +kernel
theorem dX6_withFollower_34 : decode cX6_withFollower 34 = .ok (.lload 4, 2) := by decide +kernel
theorem dX6_withFollower_36 : decode cX6_withFollower 36 = .ok (.lmul, 1) := by decide +kernel
theorem dX6_withFollower_37 : decode cX6_withFollower 37 = .ok (.aload_n 3, 1) := by decide +kernel
theorem dX6_withFollower_38 : decode cX6_withFollower 38 = .ok (.invokevirtual 189, 3) := by decide +kernel
theorem dX6_withFollower_41 : decode cX6_withFollower 41 = .ok (.i2l, 1) := by decide +kernel
theorem dX6_withFollower_42 : decode cX6_withFollower 42 = .ok (.ladd, 1) := by decide +kernel
theorem dX6_withFollower_43 : decode cX6_withFollower 43 = .ok (.lstore 4, 2) := by decide +kernel
theorem dX6_withFollower_45 : decode cX6_withFollower 45 = .ok (.ldc2_w 241, 3) := by decide +kernel
theorem dX6_withFollower_48 : decode cX6_withFollower 48 = .ok (.lload 4, 2) := by decide +kernel
theorem dX6_withFollower_50 : decode cX6_withFollower 50 = .ok (.lmul, 1) := by decide +kernel
theorem dX6_withFollower_51 : decode cX6_withFollower 51 = .ok (.aload_n 3, 1) := by decide +kernel
theorem dX6_withFollower_52 : decode cX6_withFollower 52 = .ok (.getfield 192, 3) := by decide +kernel
theorem dX6_withFollower_55 : decode cX6_withFollower 55 = .ok (.i2l, 1) := by decide +kernel
theorem dX6_withFollower_56 : decode cX6_withFollower 56 = .ok (.ladd, 1) := by decide +kernel
theorem dX6_withFollower_57 : decode cX6_withFollower 57 = .ok (.lstore 4, 2) := by decide +kernel
theorem dX6_withFollower_59 : decode cX6_withFollower 59 = .ok (.ldc2_w 241, 3) := by decide +kernel
theorem dX6_withFollower_62 : decode cX6_withFollower 62 = .ok (.lload 4, 2) := by decide +kernel
theorem dX6_withFollower_64 : decode cX6_withFollower 64 = .ok (.lmul, 1) := by decide +kernel
theorem dX6_withFollower_65 : decode cX6_withFollower 65 = .ok (.aload_n 0, 1) := by decide +kernel
theorem dX6_withFollower_66 : decode cX6_withFollower 66 = .ok (.getfield 10, 3) := by decide +kernel
theorem dX6_withFollower_69 : decode cX6_withFollower 69 = .ok (.getfield 34, 3) := by decide +kernel
theorem dX6_withFollower_72 : decode cX6_withFollower 72 = .ok (.aload_n 3, 1) := by decide +kernel
theorem dX6_withFollower_73 : decode cX6_withFollower 73 = .ok (.invokevirtual 195, 3) := by decide +kernel
theorem dX6_withFollower_76 : decode cX6_withFollower 76 = .ok (.i2l, 1) := by decide +kernel
theorem dX6_withFollower_77 : decode cX6_withFollower 77 = .ok (.ladd, 1) := by decide +kernel
theorem dX6_withFollower_78 : decode cX6_withFollower 78 = .ok (.lstore 4, 2) := by decide +kernel
theorem dX6_withFollower_80 : decode cX6_withFollower 80 = .ok (.ldc2_w 241, 3) := by decide +kernel
theorem dX6_withFollower_83 : decode cX6_withFollower 83 = .ok (.lload 4, 2) := by decide +kernel
theorem dX6_withFollower_85 : decode cX6_withFollower 85 = .ok (.lmul, 1) := by decide +kernel
theorem dX6_withFollower_86 : decode cX6_withFollower 86 = .ok (.aload_n 0, 1) := by decide +kernel
theorem dX6_withFollower_87 : decode cX6_withFollower 87 = .ok (.getfield 10, 3) := by decide +kernel
theorem dX6_withFollower_90 : decode cX6_withFollower 90 = .ok (.aload_n 3, 1) := by decide +kernel
theorem dX6_withFollower_91 : decode cX6_withFollower 91 = .ok (.invokevirtual 198, 3) := by decide +kernel
theorem dX6_withFollower_94 : decode cX6_withFollower 94 = .ok (.i2l, 1) := by decide +kernel
theorem dX6_withFollower_95 : decode cX6_withFollower 95 = .ok (.ladd, 1) := by decide +kernel
theorem dX6_withFollower_96 : decode cX6_withFollower 96 = .ok (.lstore 4, 2) := by decide +kernel
theorem dX6_withFollower_98 : decode cX6_withFollower 98 = .ok (.ldc2_w 241, 3) := by decide +kernel
theorem dX6_withFollower_101 : decode cX6_withFollower 101 = .ok (.lload 4, 2) := by decide +kernel
theorem dX6_withFollower_103 : decode cX6_withFollower 103 = .ok (.lmul, 1) := by decide +kernel
theorem dX6_withFollower_104 : decode cX6_withFollower 104 = .ok (.aload_n 3, 1) := by decide +kernel
theorem dX6_withFollower_105 : decode cX6_withFollower 105 = .ok (.aload_n 0, 1) := by decide +kernel
theorem dX6_withFollower_106 : decode cX6_withFollower 106 = .ok (.getfield 10, 3) := by decide +kernel
theorem dX6_withFollower_109 : decode cX6_withFollower 109 = .ok (.getfield 34, 3) := by decide +kernel
theorem dX6_withFollower_112 : decode cX6_withFollower 112 = .ok (.getfield 120, 3) := by decide +kernel
theorem dX6_withFollower_115 : decode cX6_withFollower 115 = .ok (.invokevirtual 186, 3) := by decide +kernel
theorem dX6_withFollower_118 : decode cX6_withFollower 118 = .ok (.i2l, 1) := by decide +kernel
theorem dX6_withFollower_119 : decode cX6_withFollower 119 = .ok (.ladd, 1) := by decide +kernel
theorem dX6_withFollower_120 : decode cX6_withFollower 120 = .ok (.lstore 4, 2) := by decide +kernel
theorem dX6_withFollower_122 : decode cX6_withFollower 122 = .ok (.lload 4, 2) := by decide +kernel
theorem dX6_withFollower_124 : decode cX6_withFollower 124 = .ok (.lreturn, 1) := by decide +kernel
theorem dX6_withStreet_0 : decode cX6_withStreet 0 = .ok (.ldc2_w 241, 3) := by decide +kernel
theorem dX6_withStreet_3 : decode cX6_withStreet 3 = .ok (.lload_n 1, 1) := by decide +kernel
theorem dX6_withStreet_4 : decode cX6_withStreet 4 = .ok (.lmul, 1) := by decide +kernel
theorem dX6_withStreet_5 : decode cX6_withStreet 5 = .ok (.aload_n 0, 1) := by decide +kernel
theorem dX6_withStreet_6 : decode cX6_withStreet 6 = .ok (.getfield 10, 3) := by decide +kernel
theorem dX6_withStreet_9 : decode cX6_withStreet 9 = .ok (.getfield 34, 3) := by decide +kernel
theorem dX6_withStreet_12 : decode cX6_withStreet 12 = .ok (.iload_n 3, 1) := by decide +kernel
theorem dX6_withStreet_13 : decode cX6_withStreet 13 = .ok (.invokevirtual 123, 3) := by decide +kernel
theorem dX6_withStreet_16 : decode cX6_withStreet 16 = .ok (.i2l, 1) := by decide +kernel
theorem dX6_withStreet_17 : decode cX6_withStreet 17 = .ok (.ladd, 1) := by decide +kernel
theorem dX6_withStreet_18 : decode cX6_withStreet 18 = .ok (.lstore 4, 2) := by decide +kernel
theorem dX6_withStreet_20 : decode cX6_withStreet 20 = .ok (.iconst 0, 1) := by decide +kernel
theorem dX6_withStreet_21 : decode cX6_withStreet 21 = .ok (.istore 6, 2) := by decide +kernel
theorem dX6_withStreet_23 : decode cX6_withStreet 23 = .ok (.iload 6, 2) := by decide +kernel
theorem dX6_withStreet_25 : decode cX6_withStreet 25 = .ok (.iconst 4, 1) := by decide +kernel
theorem dX6_withStreet_26 : decode cX6_withStreet 26 = .ok (.if_icmp .ge 41, 3) := by decide +kernel
theorem dX6_withStreet_29 : decode cX6_withStreet 29 = .ok (.ldc2_w 241, 3) := by decide +kernel
theorem dX6_withStreet_32 : decode cX6_withStreet 32 = .ok (.lload 4, 2) := by decide +kernel
theorem dX6_withStreet_34 : decode cX6_withStreet 34 = .ok (.lmul, 1) := by decide +kernel
theorem dX6_withStreet_35 : decode cX6_withStreet 35 = .ok (.aload_n 0, 1) := by decide +kernel
theorem dX6_withStreet_36 : decode cX6_withStreet 36 = .ok (.getfield 10, 3) := by decide +kernel
theorem dX6_withStreet_39 : decode cX6_withStreet 39 = .ok (.getfield 201, 3) := by decide +kernel
theorem dX6_withStreet_42 : decode cX6_withStreet 42 = .ok (.iload 6, 2) := by decide +kernel
theorem dX6_withStreet_44 : decode cX6_withStreet 44 = .ok (.aaload, 1) := by decide +kernel
theorem dX6_withStreet_45 : decode cX6_withStreet 45 = .ok (.iload_n 3, 1) := by decide +kernel
theorem dX6_withStreet_46 : decode cX6_withStreet 46 = .ok (.invokevirtual 183, 3) := by decide +kernel
theorem dX6_withStreet_49 : decode cX6_withStreet 49 = .ok (.ifCond .eq 7, 3) := by decide +kernel
theorem dX6_withStreet_52 : decode cX6_withStreet 52 = .ok (.iconst 1, 1) := by decide +kernel
theorem dX6_withStreet_53 : decode cX6_withStreet 53 = .ok (.goto 4, 3) := by decide +kernel
theorem dX6_withStreet_56 : decode cX6_withStreet 56 = .ok (.iconst 0, 1) := by decide +kernel
theorem dX6_withStreet_57 : decode cX6_withStreet 57 = .ok (.i2l, 1) := by decide +kernel
theorem dX6_withStreet_58 : decode cX6_withStreet 58 = .ok (.ladd, 1) := by decide +kernel
theorem dX6_withStreet_59 : decode cX6_withStreet 59 = .ok (.lstore 4, 2) := by decide +kernel
theorem dX6_withStreet_61 : decode cX6_withStreet 61 = .ok (.iinc 6 1, 3) := by decide +kernel
theorem dX6_withStreet_64 : decode cX6_withStreet 64 = .ok (.goto (-41), 3) := by decide +kernel
theorem dX6_withStreet_67 : decode cX6_withStreet 67 = .ok (.lload 4, 2) := by decide +kernel
theorem dX6_withStreet_69 : decode cX6_withStreet 69 = .ok (.lreturn, 1) := by decide +kernel
theorem dX6_needStreet_0 : decode cX6_needStreet 0 = .ok (.iload_n 0, 1) := by decide +kernel
theorem dX6_needStreet_1 : decode cX6_needStreet 1 = .ok (.invokestatic 261, 3) := by decide +kernel
theorem dX6_needStreet_4 : decode cX6_needStreet 4 = .ok (.ifCond .ne 14, 3) := by decide +kernel
theorem dX6_needStreet_7 : decode cX6_needStreet 7 = .ok (.new 264, 3) := by decide +kernel
theorem dX6_needStreet_10 : decode cX6_needStreet 10 = .ok (.dup, 1) := by decide +kernel
theorem dX6_needStreet_11 : decode cX6_needStreet 11 = .ok (.ldc_w 266, 3) := by decide +kernel
theorem dX6_needStreet_14 : decode cX6_needStreet 14 = .ok (.invokespecial 268, 3) := by decide +kernel
theorem dX6_needStreet_17 : decode cX6_needStreet 17 = .ok (.athrow, 1) := by decide +kernel
theorem dX6_needStreet_18 : decode cX6_needStreet 18 = .ok (.return_, 1) := by decide +kernel
theorem dX6_needDifference_0 : decode cX6_needDifference 0 = .ok (.iload_n 1, 1) := by decide +kernel
theorem dX6_needDifference_1 : decode cX6_needDifference 1 = .ok (.ifCond .lt 20, 3) := by decide +kernel
theorem dX6_needDifference_4 : decode cX6_needDifference 4 = .ok (.iload_n 1, 1) := by decide +kernel
theorem dX6_needDifference_5 : decode cX6_needDifference 5 = .ok (.aload_n 0, 1) := by decide +kernel
theorem dX6_needDifference_6 : decode cX6_needDifference 6 = .ok (.getfield 10, 3) := by decide +kernel
theorem dX6_needDifference_9 : decode cX6_needDifference 9 = .ok (.getfield 34, 3) := by decide +kernel
theorem dX6_needDifference_12 : decode cX6_needDifference 12 = .ok (.getfield 95, 3) := by decide +kernel
theorem dX6_needDifference_15 : decode cX6_needDifference 15 = .ok (.getfield 126, 3) := by decide +kernel
theorem dX6_needDifference_18 : decode cX6_needDifference 18 = .ok (.if_icmp .lt 14, 3) := by decide +kernel
theorem dX6_needDifference_21 : decode cX6_needDifference 21 = .ok (.new 264, 3) := by decide +kernel
theorem dX6_needDifference_24 : decode cX6_needDifference 24 = .ok (.dup, 1) := by decide +kernel
theorem dX6_needDifference_25 : decode cX6_needDifference 25 = .ok (.ldc_w 269, 3) := by decide +kernel
theorem dX6_needDifference_28 : decode cX6_needDifference 28 = .ok (.invokespecial 268, 3) := by decide +kernel
theorem dX6_needDifference_31 : decode cX6_needDifference 31 = .ok (.athrow, 1) := by decide +kernel
theorem dX6_needDifference_32 : decode cX6_needDifference 32 = .ok (.return_, 1) := by decide +kernel
theorem dX6_followerNumbered_0 : decode cX6_followerNumbered 0 = .ok (.iload_n 1, 1) := by decide +kernel
theorem dX6_followerNumbered_1 : decode cX6_followerNumbered 1 = .ok (.invokestatic 271, 3) := by decide +kernel
theorem dX6_followerNumbered_4 : decode cX6_followerNumbered 4 = .ok (.ifCond .ne 14, 3) := by decide +kernel
theorem dX6_followerNumbered_7 : decode cX6_followerNumbered 7 = .ok (.new 264, 3) := by decide +kernel
theorem dX6_followerNumbered_10 : decode cX6_followerNumbered 10 = .ok (.dup, 1) := by decide +kernel
theorem dX6_followerNumbered_11 : decode cX6_followerNumbered 11 = .ok (.ldc_w 274, 3) := by decide +kernel
theorem dX6_followerNumbered_14 : decode cX6_followerNumbered 14 = .ok (.invokespecial 268, 3) := by decide +kernel
theorem dX6_followerNumbered_17 : decode cX6_followerNumbered 17 = .ok (.athrow, 1) := by decide +kernel
theorem dX6_followerNumbered_18 : decode cX6_followerNumbered 18 = .ok (.aload_n 0, 1) := by decide +kernel
theorem dX6_followerNumbered_19 : decode cX6_followerNumbered 19 = .ok (.getfield 10, 3) := by decide +kernel
theorem dX6_followerNumbered_22 : decode cX6_followerNumbered 22 = .ok (.getfield 201, 3) := by decide +kernel
theorem dX6_followerNumbered_25 : decode cX6_followerNumbered 25 = .ok (.iload_n 1, 1) := by decide +kernel
theorem dX6_followerNumbered_26 : decode cX6_followerNumbered 26 = .ok (.aaload, 1) := by decide +kernel
theorem dX6_followerNumbered_27 : decode cX6_followerNumbered 27 = .ok (.areturn, 1) := by decide +kernel
theorem dX6_needAwake_0 : decode cX6_needAwake 0 = .ok (.aload_n 0, 1) := by decide +kernel
theorem dX6_needAwake_1 : decode cX6_needAwake 1 = .ok (.getfield 163, 3) := by decide +kernel
theorem dX6_needAwake_4 : decode cX6_needAwake 4 = .ok (.ifCond .eq 14, 3) := by decide +kernel
theorem dX6_needAwake_7 : decode cX6_needAwake 7 = .ok (.new 44, 3) := by decide +kernel
theorem dX6_needAwake_10 : decode cX6_needAwake 10 = .ok (.dup, 1) := by decide +kernel
theorem dX6_needAwake_11 : decode cX6_needAwake 11 = .ok (.ldc_w 276, 3) := by decide +kernel
theorem dX6_needAwake_14 : decode cX6_needAwake 14 = .ok (.invokespecial 48, 3) := by decide +kernel
theorem dX6_needAwake_17 : decode cX6_needAwake 17 = .ok (.athrow, 1) := by decide +kernel
theorem dX6_needAwake_18 : decode cX6_needAwake 18 = .ok (.return_, 1) := by decide +kernel
theorem dX6_isStreet_0 : decode cX6_isStreet 0 = .ok (.iload_n 0, 1) := by decide +kernel
theorem dX6_isStreet_1 : decode cX6_isStreet 1 = .ok (.ifCond .lt 13, 3) := by decide +kernel
theorem dX6_isStreet_4 : decode cX6_isStreet 4 = .ok (.iload_n 0, 1) := by decide +kernel
theorem dX6_isStreet_5 : decode cX6_isStreet 5 = .ok (.bipush 30, 2) := by decide +kernel
theorem dX6_isStreet_7 : decode cX6_isStreet 7 = .ok (.if_icmp .ge 7, 3) := by decide +kernel
theorem dX6_isStreet_10 : decode cX6_isStreet 10 = .ok (.iconst 1, 1) := by decide +kernel
theorem dX6_isStreet_11 : decode cX6_isStreet 11 = .ok (.goto 4, 3) := by decide +kernel
theorem dX6_isStreet_14 : decode cX6_isStreet 14 = .ok (.iconst 0, 1) := by decide +kernel
theorem dX6_isStreet_15 : decode cX6_isStreet 15 = .ok (.ireturn, 1) := by decide +kernel
theorem dX6_isEdition_0 : decode cX6_isEdition 0 = .ok (.iload_n 0, 1) := by decide +kernel
theorem dX6_isEdition_1 : decode cX6_isEdition 1 = .ok (.ifCond .lt 13, 3) := by decide +kernel
theorem dX6_isEdition_4 : decode cX6_isEdition 4 = .ok (.iload_n 0, 1) := by decide +kernel
theorem dX6_isEdition_5 : decode cX6_isEdition 5 = .ok (.bipush 16, 2) := by decide +kernel
theorem dX6_isEdition_7 : decode cX6_isEdition 7 = .ok (.if_icmp .ge 7, 3) := by decide +kernel
theorem dX6_isEdition_10 : decode cX6_isEdition 10 = .ok (.iconst 1, 1) := by decide +kernel
theorem dX6_isEdition_11 : decode cX6_isEdition 11 = .ok (.goto 4, 3) := by decide +kernel
theorem dX6_isEdition_14 : decode cX6_isEdition 14 = .ok (.iconst 0, 1) := by decide +kernel
theorem dX6_isEdition_15 : decode cX6_isEdition 15 = .ok (.ireturn, 1) := by decide +kernel
theorem dX6_isFollower_0 : decode cX6_isFollower 0 = .ok (.iload_n 0, 1) := by decide +kernel
theorem dX6_isFollower_1 : decode cX6_isFollower 1 = .ok (.ifCond .lt 12, 3) := by decide +kernel
theorem dX6_isFollower_4 : decode cX6_isFollower 4 = .ok (.iload_n 0, 1) := by decide +kernel
theorem dX6_isFollower_5 : decode cX6_isFollower 5 = .ok (.iconst 4, 1) := by decide +kernel
theorem dX6_isFollower_6 : decode cX6_isFollower 6 = .ok (.if_icmp .ge 7, 3) := by decide +kernel
theorem dX6_isFollower_9 : decode cX6_isFollower 9 = .ok (.iconst 1, 1) := by decide +kernel
theorem dX6_isFollower_10 : decode cX6_isFollower 10 = .ok (.goto 4, 3) := by decide +kernel
theorem dX6_isFollower_13 : decode cX6_isFollower 13 = .ok (.iconst 0, 1) := by decide +kernel
theorem dX6_isFollower_14 : decode cX6_isFollower 14 = .ok (.ireturn, 1) := by decide +kernel
theorem dX6_isNewer_0 : decode cX6_isNewer 0 = .ok (.iload_n 0, 1) := by decide +kernel
theorem dX6_isNewer_1 : decode cX6_isNewer 1 = .ok (.iload_n 1, 1) := by decide +kernel
theorem dX6_isNewer_2 : decode cX6_isNewer 2 = .ok (.isub, 1) := by decide +kernel
theorem dX6_isNewer_3 : decode cX6_isNewer 3 = .ok (.bipush 16, 2) := by decide +kernel
theorem dX6_isNewer_5 : decode cX6_isNewer 5 = .ok (.iadd, 1) := by decide +kernel
theorem dX6_isNewer_6 : decode cX6_isNewer 6 = .ok (.bipush 16, 2) := by decide +kernel
theorem dX6_isNewer_8 : decode cX6_isNewer 8 = .ok (.irem, 1) := by decide +kernel
theorem dX6_isNewer_9 : decode cX6_isNewer 9 = .ok (.istore_n 2, 1) := by decide +kernel
theorem dX6_isNewer_10 : decode cX6_isNewer 10 = .ok (.iload_n 2, 1) := by decide +kernel
theorem dX6_isNewer_11 : decode cX6_isNewer 11 = .ok (.iconst 1, 1) := by decide +kernel
theorem dX6_isNewer_12 : decode cX6_isNewer 12 = .ok (.if_icmp .lt 13, 3) := by decide +kernel
theorem dX6_isNewer_15 : decode cX6_isNewer 15 = .ok (.iload_n 2, 1) := by decide +kernel
theorem dX6_isNewer_16 : decode cX6_isNewer 16 = .ok (.bipush 7, 2) := by decide +kernel
theorem dX6_isNewer_18 : decode cX6_isNewer 18 = .ok (.if_icmp .gt 7, 3) := by decide +kernel
theorem dX6_isNewer_21 : decode cX6_isNewer 21 = .ok (.iconst 1, 1) := by decide +kernel
theorem dX6_isNewer_22 : decode cX6_isNewer 22 = .ok (.goto 4, 3) := by decide +kernel
theorem dX6_isNewer_25 : decode cX6_isNewer 25 = .ok (.iconst 0, 1) := by decide +kernel
theorem dX6_isNewer_26 : decode cX6_isNewer 26 = .ok (.ireturn, 1) := by decide +kernel
theorem dX6_contains_0 : decode cX6_contains 0 = .ok (.iload_n 0, 1) := by decide +kernel
theorem dX6_contains_1 : decode cX6_contains 1 = .ok (.iconst 1, 1) := by decide +kernel
theorem dX6_contains_2 : decode cX6_contains 2 = .ok (.iload_n 1, 1) := by decide +kernel
theorem dX6_contains_3 : decode cX6_contains 3 = .ok (.ishl, 1) := by decide +kernel
theorem dX6_contains_4 : decode cX6_contains 4 = .ok (.iand, 1) := by decide +kernel
theorem dX6_contains_5 : decode cX6_contains 5 = .ok (.ifCond .eq 7, 3) := by decide +kernel
theorem dX6_contains_8 : decode cX6_contains 8 = .ok (.iconst 1, 1) := by decide +kernel
theorem dX6_contains_9 : decode cX6_contains 9 = .ok (.goto 4, 3) := by decide +kernel
theorem dX6_contains_12 : decode cX6_contains 12 = .ok (.iconst 0, 1) := by decide +kernel
theorem dX6_contains_13 : decode cX6_contains 13 = .ok (.ireturn, 1) := by decide +kernel
theorem dJ6_bitCount_0f7a4_0 : decode cJ6_bitCount_0f7a4 0 = .ok (.iload_n 0, 1) := by decide +kernel
theorem dJ6_bitCount_0f7a4_1 : decode cJ6_bitCount_0f7a4 1 = .ok (.iload_n 0, 1) := by decide +kernel
theorem dJ6_bitCount_0f7a4_2 : decode cJ6_bitCount_0f7a4 2 = .ok (.iconst 1, 1) := by decide +kernel
theorem dJ6_bitCount_0f7a4_3 : decode cJ6_bitCount_0f7a4 3 = .ok (.iushr, 1) := by decide +kernel
theorem dJ6_bitCount_0f7a4_4 : decode cJ6_bitCount_0f7a4 4 = .ok (.ldc_w 265, 3) := by decide +kernel
theorem dJ6_bitCount_0f7a4_7 : decode cJ6_bitCount_0f7a4 7 = .ok (.iand, 1) := by decide +kernel
theorem dJ6_bitCount_0f7a4_8 : decode cJ6_bitCount_0f7a4 8 = .ok (.isub, 1) := by decide +kernel
theorem dJ6_bitCount_0f7a4_9 : decode cJ6_bitCount_0f7a4 9 = .ok (.istore_n 0, 1) := by decide +kernel
theorem dJ6_bitCount_0f7a4_10 : decode cJ6_bitCount_0f7a4 10 = .ok (.iload_n 0, 1) := by decide +kernel
theorem dJ6_bitCount_0f7a4_11 : decode cJ6_bitCount_0f7a4 11 = .ok (.ldc_w 266, 3) := by decide +kernel
theorem dJ6_bitCount_0f7a4_14 : decode cJ6_bitCount_0f7a4 14 = .ok (.iand, 1) := by decide +kernel
theorem dJ6_bitCount_0f7a4_15 : decode cJ6_bitCount_0f7a4 15 = .ok (.iload_n 0, 1) := by decide +kernel
theorem dJ6_bitCount_0f7a4_16 : decode cJ6_bitCount_0f7a4 16 = .ok (.iconst 2, 1) := by decide +kernel
theorem dJ6_bitCount_0f7a4_17 : decode cJ6_bitCount_0f7a4 17 = .ok (.iushr, 1) := by decide +kernel
theorem dJ6_bitCount_0f7a4_18 : decode cJ6_bitCount_0f7a4 18 = .ok (.ldc_w 266, 3) := by decide +kernel
theorem dJ6_bitCount_0f7a4_21 : decode cJ6_bitCount_0f7a4 21 = .ok (.iand, 1) := by decide +kernel
theorem dJ6_bitCount_0f7a4_22 : decode cJ6_bitCount_0f7a4 22 = .ok (.iadd, 1) := by decide +kernel
theorem dJ6_bitCount_0f7a4_23 : decode cJ6_bitCount_0f7a4 23 = .ok (.istore_n 0, 1) := by decide +kernel
theorem dJ6_bitCount_0f7a4_24 : decode cJ6_bitCount_0f7a4 24 = .ok (.iload_n 0, 1) := by decide +kernel
theorem dJ6_bitCount_0f7a4_25 : decode cJ6_bitCount_0f7a4 25 = .ok (.iload_n 0, 1) := by decide +kernel
theorem dJ6_bitCount_0f7a4_26 : decode cJ6_bitCount_0f7a4 26 = .ok (.iconst 4, 1) := by decide +kernel
theorem dJ6_bitCount_0f7a4_27 : decode cJ6_bitCount_0f7a4 27 = .ok (.iushr, 1) := by decide +kernel
theorem dJ6_bitCount_0f7a4_28 : decode cJ6_bitCount_0f7a4 28 = .ok (.iadd, 1) := by decide +kernel
theorem dJ6_bitCount_0f7a4_29 : decode cJ6_bitCount_0f7a4 29 = .ok (.ldc_w 267, 3) := by decide +kernel
theorem dJ6_bitCount_0f7a4_32 : decode cJ6_bitCount_0f7a4 32 = .ok (.iand, 1) := by decide +kernel
theorem dJ6_bitCount_0f7a4_33 : decode cJ6_bitCount_0f7a4 33 = .ok (.istore_n 0, 1) := by decide +kernel
theorem dJ6_bitCount_0f7a4_34 : decode cJ6_bitCount_0f7a4 34 = .ok (.iload_n 0, 1) := by decide +kernel
theorem dJ6_bitCount_0f7a4_35 : decode cJ6_bitCount_0f7a4 35 = .ok (.iload_n 0, 1) := by decide +kernel
theorem dJ6_bitCount_0f7a4_36 : decode cJ6_bitCount_0f7a4 36 = .ok (.bipush 8, 2) := by decide +kernel
theorem dJ6_bitCount_0f7a4_38 : decode cJ6_bitCount_0f7a4 38 = .ok (.iushr, 1) := by decide +kernel
theorem dJ6_bitCount_0f7a4_39 : decode cJ6_bitCount_0f7a4 39 = .ok (.iadd, 1) := by decide +kernel
theorem dJ6_bitCount_0f7a4_40 : decode cJ6_bitCount_0f7a4 40 = .ok (.istore_n 0, 1) := by decide +kernel
theorem dJ6_bitCount_0f7a4_41 : decode cJ6_bitCount_0f7a4 41 = .ok (.iload_n 0, 1) := by decide +kernel
theorem dJ6_bitCount_0f7a4_42 : decode cJ6_bitCount_0f7a4 42 = .ok (.iload_n 0, 1) := by decide +kernel
theorem dJ6_bitCount_0f7a4_43 : decode cJ6_bitCount_0f7a4 43 = .ok (.bipush 16, 2) := by decide +kernel
theorem dJ6_bitCount_0f7a4_45 : decode cJ6_bitCount_0f7a4 45 = .ok (.iushr, 1) := by decide +kernel
theorem dJ6_bitCount_0f7a4_46 : decode cJ6_bitCount_0f7a4 46 = .ok (.iadd, 1) := by decide +kernel
theorem dJ6_bitCount_0f7a4_47 : decode cJ6_bitCount_0f7a4 47 = .ok (.istore_n 0, 1) := by decide +kernel
theorem dJ6_bitCount_0f7a4_48 : decode cJ6_bitCount_0f7a4 48 = .ok (.iload_n 0, 1) := by decide +kernel
theorem dJ6_bitCount_0f7a4_49 : decode cJ6_bitCount_0f7a4 49 = .ok (.bipush 63, 2) := by decide +kernel
theorem dJ6_bitCount_0f7a4_51 : decode cJ6_bitCount_0f7a4 51 = .ok (.iand, 1) := by decide +kernel
theorem dJ6_bitCount_0f7a4_52 : decode cJ6_bitCount_0f7a4 52 = .ok (.ireturn, 1) := by decide +kernel
theorem dJ9_min_7cf53_0 : decode cJ9_min_7cf53 0 = .ok (.iload_n 0, 1) := by decide +kernel
theorem dJ9_min_7cf53_1 : decode cJ9_min_7cf53 1 = .ok (.iload_n 1, 1) := by decide +kernel
theorem dJ9_min_7cf53_2 : decode cJ9_min_7cf53 2 = .ok (.if_icmp .gt 7, 3) := by decide +kernel
theorem dJ9_min_7cf53_5 : decode cJ9_min_7cf53 5 = .ok (.iload_n 0, 1) := by decide +kernel
theorem dJ9_min_7cf53_6 : decode cJ9_min_7cf53 6 = .ok (.goto 4, 3) := by decide +kernel
theorem dJ9_min_7cf53_9 : decode cJ9_min_7cf53 9 = .ok (.iload_n 1, 1) := by decide +kernel
theorem dJ9_min_7cf53_10 : decode cJ9_min_7cf53 10 = .ok (.ireturn, 1) := by decide +kernel
