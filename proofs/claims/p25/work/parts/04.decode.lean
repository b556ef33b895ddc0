theorem dX0_init_0 : decode cX0_init 0 = .ok (.aload_n 0, 1) := by decide +kernel
theorem dX0_init_1 : decode cX0_init 1 = .ok (.invokespecial 3, 3) := by decide +kernel
theorem dX0_init_4 : decode cX0_init 4 = .ok (.aload_n 0, 1) := by decide +kernel
theorem dX0_init_5 : decode cX0_init 5 = .ok (.bipush 36, 2) := by decide +kernel
theorem dX0_init_7 : decode cX0_init 7 = .ok (.newarray .int, 2) := by decide +kernel
theorem dX0_init_9 : decode cX0_init 9 = .ok (.putfield 9, 3) := by decide +kernel
theorem dX0_init_12 : decode cX0_init 12 = .ok (.aload_n 0, 1) := by decide +kernel
theorem dX0_init_13 : decode cX0_init 13 = .ok (.bipush 36, 2) := by decide +kernel
theorem dX0_init_15 : decode cX0_init 15 = .ok (.newarray .int, 2) := by decide +kernel
theorem dX0_init_17 : decode cX0_init 17 = .ok (.putfield 15, 3) := by decide +kernel
theorem dX0_init_20 : decode cX0_init 20 = .ok (.aload_n 0, 1) := by decide +kernel
theorem dX0_init_21 : decode cX0_init 21 = .ok (.bipush 36, 2) := by decide +kernel
theorem dX0_init_23 : decode cX0_init 23 = .ok (.newarray .int, 2) := by decide +kernel
theorem dX0_init_25 : decode cX0_init 25 = .ok (.putfield 18, 3) := by decide +kernel
theorem dX0_init_28 : decode cX0_init 28 = .ok (.aload_n 0, 1) := by decide +kernel
theorem dX0_init_29 : decode cX0_init 29 = .ok (.iconst 2, 1) := by decide +kernel
theorem dX0_init_30 : decode cX0_init 30 = .ok (.newarray .int, 2) := by decide +kernel
theorem dX0_init_32 : decode cX0_init 32 = .ok (.putfield 21, 3) := by decide +kernel
theorem dX0_init_35 : decode cX0_init 35 = .ok (.iconst 0, 1) := by decide +kernel
theorem dX0_init_36 : decode cX0_init 36 = .ok (.istore_n 1, 1) := by decide +kernel
theorem dX0_init_37 : decode cX0_init 37 = .ok (.iload_n 1, 1) := by decide +kernel
theorem dX0_init_38 : decode cX0_init 38 = .ok (.bipush 36, 2) := by decide +kernel
theorem dX0_init_40 : decode cX0_init 40 = .ok (.if_icmp .ge 23, 3) := by decide +kernel
theorem dX0_init_43 : decode cX0_init 43 = .ok (.aload_n 0, 1) := by decide +kernel
theorem dX0_init_44 : decode cX0_init 44 = .ok (.getfield 15, 3) := by decide +kernel
theorem dX0_init_47 : decode cX0_init 47 = .ok (.iload_n 1, 1) := by decide +kernel
theorem dX0_init_48 : decode cX0_init 48 = .ok (.iconst (-1), 1) := by decide +kernel
theorem dX0_init_49 : decode cX0_init 49 = .ok (.iastore, 1) := by decide +kernel
theorem dX0_init_50 : decode cX0_init 50 = .ok (.aload_n 0, 1) := by decide +kernel
theorem dX0_init_51 : decode cX0_init 51 = .ok (.getfield 18, 3) := by decide +kernel
theorem dX0_init_54 : decode cX0_init 54 = .ok (.iload_n 1, 1) := by decide +kernel
theorem dX0_init_55 : decode cX0_init 55 = .ok (.iconst 1, 1) := by decide +kernel
theorem dX0_init_56 : decode cX0_init 56 = .ok (.iastore, 1) := by decide +kernel
theorem dX0_init_57 : decode cX0_init 57 = .ok (.iinc 1 1, 3) := by decide +kernel
theorem dX0_init_60 : decode cX0_init 60 = .ok (.goto (-23), 3) := by decide +kernel
theorem dX0_init_63 : decode cX0_init 63 = .ok (.return_, 1) := by decide +kernel
theorem dX0_writeTo_0 : decode cX0_writeTo 0 = .ok (.aload_n 0, 1) := by decide +kernel
theorem dX0_writeTo_1 : decode cX0_writeTo 1 = .ok (.getfield 9, 3) := by decide +kernel
theorem dX0_writeTo_4 : decode cX0_writeTo 4 = .ok (.iconst 0, 1) := by decide +kernel
theorem dX0_writeTo_5 : decode cX0_writeTo 5 = .ok (.aload_n 1, 1) := by decide +kernel
theorem dX0_writeTo_6 : decode cX0_writeTo 6 = .ok (.iload_n 2, 1) := by decide +kernel
theorem dX0_writeTo_7 : decode cX0_writeTo 7 = .ok (.bipush 36, 2) := by decide +kernel
theorem dX0_writeTo_9 : decode cX0_writeTo 9 = .ok (.invokestatic 24, 3) := by decide +kernel
theorem dX0_writeTo_12 : decode cX0_writeTo 12 = .ok (.aload_n 0, 1) := by decide +kernel
theorem dX0_writeTo_13 : decode cX0_writeTo 13 = .ok (.getfield 15, 3) := by decide +kernel
theorem dX0_writeTo_16 : decode cX0_writeTo 16 = .ok (.iconst 0, 1) := by decide +kernel
theorem dX0_writeTo_17 : decode cX0_writeTo 17 = .ok (.aload_n 1, 1) := by decide +kernel
theorem dX0_writeTo_18 : decode cX0_writeTo 18 = .ok (.iload_n 2, 1) := by decide +kernel
theorem dX0_writeTo_19 : decode cX0_writeTo 19 = .ok (.bipush 36, 2) := by decide +kernel
theorem dX0_writeTo_21 : decode cX0_writeTo 21 = .ok (.iadd, 1) := by decide +kernel
theorem dX0_writeTo_22 : decode cX0_writeTo 22 = .ok (.bipush 36, 2) := by decide +kernel
theorem dX0_writeTo_24 : decode cX0_writeTo 24 = .ok (.invokestatic 24, 3) := by decide +kernel
theorem dX0_writeTo_27 : decode cX0_writeTo 27 = .ok (.aload_n 0, 1) := by decide +kernel
theorem dX0_writeTo_28 : decode cX0_writeTo 28 = .ok (.getfield 18, 3) := by decide +kernel
theorem dX0_writeTo_31 : decode cX0_writeTo 31 = .ok (.iconst 0, 1) := by decide +kernel
theorem dX0_writeTo_32 : decode cX0_writeTo 32 = .ok (.aload_n 1, 1) := by decide +kernel
theorem dX0_writeTo_33 : decode cX0_writeTo 33 = .ok (.iload_n 2, 1) := by decide +kernel
theorem dX0_writeTo_34 : decode cX0_writeTo 34 = .ok (.bipush 72, 2) := by decide +kernel
theorem dX0_writeTo_36 : decode cX0_writeTo 36 = .ok (.iadd, 1) := by decide +kernel
theorem dX0_writeTo_37 : decode cX0_writeTo 37 = .ok (.bipush 36, 2) := by decide +kernel
theorem dX0_writeTo_39 : decode cX0_writeTo 39 = .ok (.invokestatic 24, 3) := by decide +kernel
theorem dX0_writeTo_42 : decode cX0_writeTo 42 = .ok (.aload_n 0, 1) := by decide +kernel
theorem dX0_writeTo_43 : decode cX0_writeTo 43 = .ok (.getfield 21, 3) := by decide +kernel
theorem dX0_writeTo_46 : decode cX0_writeTo 46 = .ok (.iconst 0, 1) := by decide +kernel
theorem dX0_writeTo_47 : decode cX0_writeTo 47 = .ok (.aload_n 1, 1) := by decide +kernel
theorem dX0_writeTo_48 : decode cX0_writeTo 48 = .ok (.iload_n 2, 1) := by decide +kernel
theorem dX0_writeTo_49 : decode cX0_writeTo 49 = .ok (.bipush 108, 2) := by decide +kernel
theorem dX0_writeTo_51 : decode cX0_writeTo 51 = .ok (.iadd, 1) := by decide +kernel
theorem dX0_writeTo_52 : decode cX0_writeTo 52 = .ok (.iconst 2, 1) := by decide +kernel
theorem dX0_writeTo_53 : decode cX0_writeTo 53 = .ok (.invokestatic 24, 3) := by decide +kernel
theorem dX0_writeTo_56 : decode cX0_writeTo 56 = .ok (.iload_n 2, 1) := by decide +kernel
theorem dX0_writeTo_57 : decode cX0_writeTo 57 = .ok (.bipush 108, 2) := by decide +kernel
theorem dX0_writeTo_59 : decode cX0_writeTo 59 = .ok (.iadd, 1) := by decide +kernel
theorem dX0_writeTo_60 : decode cX0_writeTo 60 = .ok (.iconst 2, 1) := by decide +kernel
theorem dX0_writeTo_61 : decode cX0_writeTo 61 = .ok (.iadd, 1) := by decide +kernel
theorem dX0_writeTo_62 : decode cX0_writeTo 62 = .ok (.istore_n 3, 1) := by decide +kernel
theorem dX0_writeTo_63 : decode cX0_writeTo 63 = .ok (.aload_n 1, 1) := by decide +kernel
theorem dX0_writeTo_64 : decode cX0_writeTo 64 = .ok (.iload_n 3, 1) := by decide +kernel
theorem dX0_writeTo_65 : decode cX0_writeTo 65 = .ok (.aload_n 0, 1) := by decide +kernel
theorem dX0_writeTo_66 : decode cX0_writeTo 66 = .ok (.getfield 30, 3) := by decide +kernel
theorem dX0_writeTo_69 : decode cX0_writeTo 69 = .ok (.iastore, 1) := by decide +kernel
theorem dX0_writeTo_70 : decode cX0_writeTo 70 = .ok (.aload_n 1, 1) := by decide +kernel
theorem dX0_writeTo_71 : decode cX0_writeTo 71 = .ok (.iload_n 3, 1) := by decide +kernel
theorem dX0_writeTo_72 : decode cX0_writeTo 72 = .ok (.iconst 1, 1) := by decide +kernel
theorem dX0_writeTo_73 : decode cX0_writeTo 73 = .ok (.iadd, 1) := by decide +kernel
theorem dX0_writeTo_74 : decode cX0_writeTo 74 = .ok (.aload_n 0, 1) := by decide +kernel
theorem dX0_writeTo_75 : decode cX0_writeTo 75 = .ok (.getfield 34, 3) := by decide +kernel
theorem dX0_writeTo_78 : decode cX0_writeTo 78 = .ok (.iastore, 1) := by decide +kernel
theorem dX0_writeTo_79 : decode cX0_writeTo 79 = .ok (.aload_n 1, 1) := by decide +kernel
theorem dX0_writeTo_80 : decode cX0_writeTo 80 = .ok (.iload_n 3, 1) := by decide +kernel
theorem dX0_writeTo_81 : decode cX0_writeTo 81 = .ok (.iconst 2, 1) := by decide +kernel
theorem dX0_writeTo_82 : decode cX0_writeTo 82 = .ok (.iadd, 1) := by decide +kernel
theorem dX0_writeTo_83 : decode cX0_writeTo 83 = .ok (.aload_n 0, 1) := by decide +kernel
theorem dX0_writeTo_84 : decode cX0_writeTo 84 = .ok (.getfield 37, 3) := by decide +kernel
theorem dX0_writeTo_87 : decode cX0_writeTo 87 = .ok (.iastore, 1) := by decide +kernel
theorem dX0_writeTo_88 : decode cX0_writeTo 88 = .ok (.aload_n 1, 1) := by decide +kernel
theorem dX0_writeTo_89 : decode cX0_writeTo 89 = .ok (.iload_n 3, 1) := by decide +kernel
theorem dX0_writeTo_90 : decode cX0_writeTo 90 = .ok (.iconst 3, 1) := by decide +kernel
theorem dX0_writeTo_91 : decode cX0_writeTo 91 = .ok (.iadd, 1) := by decide +kernel
theorem dX0_writeTo_92 : decode cX0_writeTo 92 = .ok (.aload_n 0, 1) := by decide +kernel
theorem dX0_writeTo_93 : decode cX0_writeTo 93 = .ok (.getfield 40, 3) := by decide +kernel
theorem dX0_writeTo_96 : decode cX0_writeTo 96 = .ok (.iastore, 1) := by decide +kernel
theorem dX0_writeTo_97 : decode cX0_writeTo 97 = .ok (.return_, 1) := by decide +kernel
theorem dX0_readFrom_0 : decode cX0_readFrom 0 = .ok (.aload_n 1, 1) := by decide +kernel
theorem dX0_readFrom_1 : decode cX0_readFrom 1 = .ok (.iload_n 2, 1) := by decide +kernel
theorem dX0_readFrom_2 : decode cX0_readFrom 2 = .ok (.aload_n 0, 1) := by decide +kernel
theorem dX0_readFrom_3 : decode cX0_readFrom 3 = .ok (.getfield 9, 3) := by decide +kernel
theorem dX0_readFrom_6 : decode cX0_readFrom 6 = .ok (.iconst 0, 1) := by decide +kernel
theorem dX0_readFrom_7 : decode cX0_readFrom 7 = .ok (.bipush 36, 2) := by decide +kernel
theorem dX0_readFrom_9 : decode cX0_readFrom 9 = .ok (.invokestatic 24, 3) := by decide +kernel
theorem dX0_readFrom_12 : decode cX0_readFrom 12 = .ok (.aload_n 1, 1) := by decide +kernel
theorem dX0_readFrom_13 : decode cX0_readFrom 13 = .ok (.iload_n 2, 1) := by decide +kernel
theorem dX0_readFrom_14 : decode cX0_readFrom 14 = .ok (.bipush 36, 2) := by decide +kernel
theorem dX0_readFrom_16 : decode cX0_readFrom 16 = .ok (.iadd, 1) := by decide +kernel
theorem dX0_readFrom_17 : decode cX0_readFrom 17 = .ok (.aload_n 0, 1) := by decide +kernel
theorem dX0_readFrom_18 : decode cX0_readFrom 18 = .ok (.getfield 15, 3) := by decide +kernel
theorem dX0_readFrom_21 : decode cX0_readFrom 21 = .ok (.iconst 0, 1) := by decide +kernel
theorem dX0_readFrom_22 : decode cX0_readFrom 22 = .ok (.bipush 36, 2) := by decide +kernel
theorem dX0_readFrom_24 : decode cX0_readFrom 24 = .ok (.invokestatic 24, 3) := by decide +kernel
theorem dX0_readFrom_27 : decode cX0_readFrom 27 = .ok (.aload_n 1, 1) := by decide +kernel
theorem dX0_readFrom_28 : decode cX0_readFrom 28 = .ok (.iload_n 2, 1) := by decide +kernel
theorem dX0_readFrom_29 : decode cX0_readFrom 29 = .ok (.bipush 72, 2) := by decide +kernel
theorem dX0_readFrom_31 : decode cX0_readFrom 31 = .ok (.iadd, 1) := by decide +kernel
theorem dX0_readFrom_32 : decode cX0_readFrom 32 = .ok (.aload_n 0, 1) := by decide +kernel
theorem dX0_readFrom_33 : decode cX0_readFrom 33 = .ok (.getfield 18, 3) := by decide +kernel
theorem dX0_readFrom_36 : decode cX0_readFrom 36 = .ok (.iconst 0, 1) := by decide +kernel
theorem dX0_readFrom_37 : decode cX0_readFrom 37 = .ok (.bipush 36, 2) := by decide +kernel
theorem dX0_readFrom_39 : decode cX0_readFrom 39 = .ok (.invokestatic 24, 3) := by decide +kernel
theorem dX0_readFrom_42 : decode cX0_readFrom 42 = .ok (.aload_n 1, 1) := by decide +kernel
theorem dX0_readFrom_43 : decode cX0_readFrom 43 = .ok (.iload_n 2, 1) := by decide +kernel
theorem dX0_readFrom_44 : decode cX0_readFrom 44 = .ok (.bipush 108, 2) := by decide +kernel
theorem dX0_readFrom_46 : decode cX0_readFrom 46 = .ok (.iadd, 1) := by decide +kernel
theorem dX0_readFrom_47 : decode cX0_readFrom 47 = .ok (.aload_n 0, 1) := by decide +kernel
theorem dX0_readFrom_48 : decode cX0_readFrom 48 = .ok (.getfield 21, 3) := by decide +kernel
theorem dX0_readFrom_51 : decode cX0_readFrom 51 = .ok (.iconst 0, 1) := by decide +kernel
theorem dX0_readFrom_52 : decode cX0_readFrom 52 = .ok (.iconst 2, 1) := by decide +kernel
theorem dX0_readFrom_53 : decode cX0_readFrom 53 = .ok (.invokestatic 24, 3) := by decide +kernel
theorem dX0_readFrom_56 : decode cX0_readFrom 56 = .ok (.iload_n 2, 1) := by decide +kernel
theorem dX0_readFrom_57 : decode cX0_readFrom 57 = .ok (.bipush 108, 2) := by decide +kernel
theorem dX0_readFrom_59 : decode cX0_readFrom 59 = .ok (.iadd, 1) := by decide +kernel
theorem dX0_readFrom_60 : decode cX0_readFrom 60 = .ok (.iconst 2, 1) := by decide +kernel
theorem dX0_readFrom_61 : decode cX0_readFrom 61 = .ok (.iadd, 1) := by decide +kernel
theorem dX0_readFrom_62 : decode cX0_readFrom 62 = .ok (.istore_n 3, 1) := by decide +kernel
theorem dX0_readFrom_63 : decode cX0_readFrom 63 = .ok (.aload_n 0, 1) := by decide +kernel
theorem dX0_readFrom_64 : decode cX0_readFrom 64 = .ok (.aload_n 1, 1) := by decide +kernel
theorem dX0_readFrom_65 : decode cX0_readFrom 65 = .ok (.iload_n 3, 1) := by decide +kernel
theorem dX0_readFrom_66 : decode cX0_readFrom 66 = .ok (.iaload, 1) := by decide +kernel
theorem dX0_readFrom_67 : decode cX0_readFrom 67 = .ok (.putfield 30, 3) := by decide +kernel
theorem dX0_readFrom_70 : decode cX0_readFrom 70 = .ok (.aload_n 0, 1) := by decide +kernel
theorem dX0_readFrom_71 : decode cX0_readFrom 71 = .ok (.aload_n 1, 1) := by decide +kernel
theorem dX0_readFrom_72 : decode cX0_readFrom 72 = .ok (.iload_n 3, 1) := by decide +kernel
theorem dX0_readFrom_73 : decode cX0_readFrom 73 = .ok (.iconst 1, 1) := by decide +kernel
theorem dX0_readFrom_74 : decode cX0_readFrom 74 = .ok (.iadd, 1) := by decide +kernel
theorem dX0_readFrom_75 : decode cX0_readFrom 75 = .ok (.iaload, 1) := by decide +kernel
theorem dX0_readFrom_76 : decode cX0_readFrom 76 = .ok (.putfield 34, 3) := by decide +kernel
theorem dX0_readFrom_79 : decode cX0_readFrom 79 = .ok (.aload_n 0, 1) := by decide +kernel
theorem dX0_readFrom_80 : decode cX0_readFrom 80 = .ok (.aload_n 1, 1) := by decide +kernel
theorem dX0_readFrom_81 : decode cX0_readFrom 81 = .ok (.iload_n 3, 1) := by decide +kernel
theorem dX0_readFrom_82 : decode cX0_readFrom 82 = .ok (.iconst 2, 1) := by decide +kernel
theorem dX0_readFrom_83 : decode cX0_readFrom 83 = .ok (.iadd, 1) := by decide +kernel
theorem dX0_readFrom_84 : decode cX0_readFrom 84 = .ok (.iaload, 1) := by decide +kernel
theorem dX0_readFrom_85 : decode cX0_readFrom 85 = .ok (.putfield 37, 3) := by decide +kernel
theorem dX0_readFrom_88 : decode cX0_readFrom 88 = .ok (.aload_n 0, 1) := by decide +kernel
theorem dX0_readFrom_89 : decode cX0_readFrom 89 = .ok (.aload_n 1, 1) := by decide +kernel
theorem dX0_readFrom_90 : decode cX0_readFrom 90 = .ok (.iload_n 3, 1) := by decide +kernel
theorem dX0_readFrom_91 : decode cX0_readFrom 91 = .ok (.iconst 3, 1) := by decide +kernel
theorem dX0_readFrom_92 : decode cX0_readFrom 92 = .ok (.iadd, 1) := by decide +kernel
theorem dX0_readFrom_93 : decode cX0_readFrom 93 = .ok (.iaload, 1) := by decide +kernel
theorem dX0_readFrom_94 : decode cX0_readFrom 94 = .ok (.putfield 40, 3) := by decide +kernel
theorem dX0_readFrom_97 : decode cX0_readFrom 97 = .ok (.return_, 1) := by decide +kernel
theorem dX0_putTower_0 : decode cX0_putTower 0 = .ok (.aload_n 0, 1) := by decide +kernel
theorem dX0_putTower_1 : decode cX0_putTower 1 = .ok (.getfield 15, 3) := by decide +kernel
theorem dX0_putTower_4 : decode cX0_putTower 4 = .ok (.iload_n 1, 1) := by decide +kernel
theorem dX0_putTower_5 : decode cX0_putTower 5 = .ok (.iload_n 2, 1) := by decide +kernel
theorem dX0_putTower_6 : decode cX0_putTower 6 = .ok (.iastore, 1) := by decide +kernel
theorem dX0_putTower_7 : decode cX0_putTower 7 = .ok (.aload_n 0, 1) := by decide +kernel
theorem dX0_putTower_8 : decode cX0_putTower 8 = .ok (.getfield 9, 3) := by decide +kernel
theorem dX0_putTower_11 : decode cX0_putTower 11 = .ok (.iload_n 1, 1) := by decide +kernel
theorem dX0_putTower_12 : decode cX0_putTower 12 = .ok (.iload_n 3, 1) := by decide +kernel
theorem dX0_putTower_13 : decode cX0_putTower 13 = .ok (.iastore, 1) := by decide +kernel
theorem dX0_putTower_14 : decode cX0_putTower 14 = .ok (.return_, 1) := by decide +kernel
set_option maxRecDepth 20000 in
theorem ggX0_endTurn_X0_payNow : GoodIn wsX0_endTurn wsX0_payNow := goodIn_r _ [9, 10, 2, 11, 12, 13, 14, 8, 15, 16, 17, 18, 19, 20, 21, 22, 23, 24, 25, 26, 27, 28, 29, 30, 31, 32, 33, 34, 35, 36, 37] (by decide +kernel) (by decide +kernel)
set_option maxRecDepth 20000 in
theorem gX0_endTurn_X0_payNow : GoodIn wsX0_endTurn (wsV RX0 43 RX0 yX0_payNow wsX0_payNow) := goodIn_app (goodIn_of _ (by decide +kernel)) ggX0_endTurn_X0_payNow
theorem dX0_endTurn_0 : decode cX0_endTurn 0 = .ok (.iconst 0, 1) := by decide +kernel
theorem dX0_endTurn_1 : decode cX0_endTurn 1 = .ok (.istore_n 1, 1) := by decide +kernel
theorem dX0_endTurn_2 : decode cX0_endTurn 2 = .ok (.iload_n 1, 1) := by decide +kernel
theorem dX0_endTurn_3 : decode cX0_endTurn 3 = .ok (.iconst 2, 1) := by decide +kernel
theorem dX0_endTurn_4 : decode cX0_endTurn 4 = .ok (.if_icmp .ge 23, 3) := by decide +kernel
theorem dX0_endTurn_7 : decode cX0_endTurn 7 = .ok (.aload_n 0, 1) := by decide +kernel
theorem dX0_endTurn_8 : decode cX0_endTurn 8 = .ok (.getfield 21, 3) := by decide +kernel
theorem dX0_endTurn_11 : decode cX0_endTurn 11 = .ok (.iload_n 1, 1) := by decide +kernel
theorem dX0_endTurn_12 : decode cX0_endTurn 12 = .ok (.dup2, 1) := by decide +kernel
theorem dX0_endTurn_13 : decode cX0_endTurn 13 = .ok (.iaload, 1) := by decide +kernel
theorem dX0_endTurn_14 : decode cX0_endTurn 14 = .ok (.aload_n 0, 1) := by decide +kernel
theorem dX0_endTurn_15 : decode cX0_endTurn 15 = .ok (.iload_n 1, 1) := by decide +kernel
theorem dX0_endTurn_16 : decode cX0_endTurn 16 = .ok (.invokevirtual 43, 3) := by decide +kernel
theorem dX0_endTurn_19 : decode cX0_endTurn 19 = .ok (.iadd, 1) := by decide +kernel
theorem dX0_endTurn_20 : decode cX0_endTurn 20 = .ok (.iastore, 1) := by decide +kernel
theorem dX0_endTurn_21 : decode cX0_endTurn 21 = .ok (.iinc 1 1, 3) := by decide +kernel
theorem dX0_endTurn_24 : decode cX0_endTurn 24 = .ok (.goto (-22), 3) := by decide +kernel
theorem dX0_endTurn_27 : decode cX0_endTurn 27 = .ok (.aload_n 0, 1) := by decide +kernel
theorem dX0_endTurn_28 : decode cX0_endTurn 28 = .ok (.aload_n 0, 1) := by decide +kernel
theorem dX0_endTurn_29 : decode cX0_endTurn 29 = .ok (.getfield 30, 3) := by decide +kernel
theorem dX0_endTurn_32 : decode cX0_endTurn 32 = .ok (.iconst 1, 1) := by decide +kernel
theorem dX0_endTurn_33 : decode cX0_endTurn 33 = .ok (.iadd, 1) := by decide +kernel
theorem dX0_endTurn_34 : decode cX0_endTurn 34 = .ok (.bipush 12, 2) := by decide +kernel
theorem dX0_endTurn_36 : decode cX0_endTurn 36 = .ok (.irem, 1) := by decide +kernel
theorem dX0_endTurn_37 : decode cX0_endTurn 37 = .ok (.putfield 30, 3) := by decide +kernel
theorem dX0_endTurn_40 : decode cX0_endTurn 40 = .ok (.aload_n 0, 1) := by decide +kernel
theorem dX0_endTurn_41 : decode cX0_endTurn 41 = .ok (.iconst 1, 1) := by decide +kernel
theorem dX0_endTurn_42 : decode cX0_endTurn 42 = .ok (.aload_n 0, 1) := by decide +kernel
theorem dX0_endTurn_43 : decode cX0_endTurn 43 = .ok (.getfield 34, 3) := by decide +kernel
theorem dX0_endTurn_46 : decode cX0_endTurn 46 = .ok (.isub, 1) := by decide +kernel
theorem dX0_endTurn_47 : decode cX0_endTurn 47 = .ok (.putfield 34, 3) := by decide +kernel
theorem dX0_endTurn_50 : decode cX0_endTurn 50 = .ok (.aload_n 0, 1) := by decide +kernel
theorem dX0_endTurn_51 : decode cX0_endTurn 51 = .ok (.dup, 1) := by decide +kernel
theorem dX0_endTurn_52 : decode cX0_endTurn 52 = .ok (.getfield 37, 3) := by decide +kernel
theorem dX0_endTurn_55 : decode cX0_endTurn 55 = .ok (.iconst 1, 1) := by decide +kernel
theorem dX0_endTurn_56 : decode cX0_endTurn 56 = .ok (.iadd, 1) := by decide +kernel
theorem dX0_endTurn_57 : decode cX0_endTurn 57 = .ok (.putfield 37, 3) := by decide +kernel
theorem dX0_endTurn_60 : decode cX0_endTurn 60 = .ok (.return_, 1) := by decide +kernel
set_option maxRecDepth 20000 in
theorem ggX0_refusalReason_X0_isDark : GoodIn wsX0_refusalReason wsX0_isDark := goodIn_r _ [9, 3, 10, 11, 12, 13, 14, 15, 16, 17, 18, 19, 20, 21, 22, 23, 24, 25, 26, 27, 28, 29, 30] (by decide +kernel) (by decide +kernel)
set_option maxRecDepth 20000 in
theorem gX0_refusalReason_X0_isDark : GoodIn wsX0_refusalReason (wsV RX0 47 RX0 yX0_isDark wsX0_isDark) := goodIn_app (goodIn_of _ (by decide +kernel)) ggX0_refusalReason_X0_isDark
theorem dX0_refusalReason_0 : decode cX0_refusalReason 0 = .ok (.aload_n 0, 1) := by decide +kernel
theorem dX0_refusalReason_1 : decode cX0_refusalReason 1 = .ok (.getfield 15, 3) := by decide +kernel
theorem dX0_refusalReason_4 : decode cX0_refusalReason 4 = .ok (.iload_n 1, 1) := by decide +kernel
theorem dX0_refusalReason_5 : decode cX0_refusalReason 5 = .ok (.iaload, 1) := by decide +kernel
theorem dX0_refusalReason_6 : decode cX0_refusalReason 6 = .ok (.iconst 1, 1) := by decide +kernel
theorem dX0_refusalReason_7 : decode cX0_refusalReason 7 = .ok (.aload_n 0, 1) := by decide +kernel
theorem dX0_refusalReason_8 : decode cX0_refusalReason 8 = .ok (.getfield 34, 3) := by decide +kernel
theorem dX0_refusalReason_11 : decode cX0_refusalReason 11 = .ok (.isub, 1) := by decide +kernel
theorem dX0_refusalReason_12 : decode cX0_refusalReason 12 = .ok (.if_icmp .ne 5, 3) := by decide +kernel
theorem dX0_refusalReason_15 : decode cX0_refusalReason 15 = .ok (.iconst 1, 1) := by decide +kernel
theorem dX0_refusalReason_16 : decode cX0_refusalReason 16 = .ok (.ireturn, 1) := by decide +kernel
theorem dX0_refusalReason_17 : decode cX0_refusalReason 17 = .ok (.aload_n 0, 1) := by decide +kernel
theorem dX0_refusalReason_18 : decode cX0_refusalReason 18 = .ok (.getfield 9, 3) := by decide +kernel
theorem dX0_refusalReason_21 : decode cX0_refusalReason 21 = .ok (.iload_n 1, 1) := by decide +kernel
theorem dX0_refusalReason_22 : decode cX0_refusalReason 22 = .ok (.iaload, 1) := by decide +kernel
theorem dX0_refusalReason_23 : decode cX0_refusalReason 23 = .ok (.bipush 9, 2) := by decide +kernel
theorem dX0_refusalReason_25 : decode cX0_refusalReason 25 = .ok (.if_icmp .ne 5, 3) := by decide +kernel
theorem dX0_refusalReason_28 : decode cX0_refusalReason 28 = .ok (.iconst 2, 1) := by decide +kernel
theorem dX0_refusalReason_29 : decode cX0_refusalReason 29 = .ok (.ireturn, 1) := by decide +kernel
theorem dX0_refusalReason_30 : decode cX0_refusalReason 30 = .ok (.aload_n 0, 1) := by decide +kernel
theorem dX0_refusalReason_31 : decode cX0_refusalReason 31 = .ok (.iload_n 1, 1) := by decide +kernel
theorem dX0_refusalReason_32 : decode cX0_refusalReason 32 = .ok (.aload_n 0, 1) := by decide +kernel
theorem dX0_refusalReason_33 : decode cX0_refusalReason 33 = .ok (.getfield 30, 3) := by decide +kernel
theorem dX0_refusalReason_36 : decode cX0_refusalReason 36 = .ok (.invokevirtual 47, 3) := by decide +kernel
theorem dX0_refusalReason_39 : decode cX0_refusalReason 39 = .ok (.ifCond .eq 7, 3) := by decide +kernel
theorem dX0_refusalReason_42 : decode cX0_refusalReason 42 = .ok (.iconst 3, 1) := by decide +kernel
theorem dX0_refusalReason_43 : decode cX0_refusalReason 43 = .ok (.goto 4, 3) := by decide +kernel
theorem dX0_refusalReason_46 : decode cX0_refusalReason 46 = .ok (.iconst 0, 1) := by decide +kernel
theorem dX0_refusalReason_47 : decode cX0_refusalReason 47 = .ok (.ireturn, 1) := by decide +kernel
set_option maxRecDepth 20000 in
theorem ggX0_worthOfRaising_X0_refusalReason : GoodIn wsX0_worthOfRaising wsX0_refusalReason := goodIn_r _ [8, 1, 3, 2, 9, 10, 11, 12, 7, 13, 14, 15, 16, 17, 18, 19, 20, 21, 22, 23, 24, 25, 26, 36, 37, 38, 39, 40, 41, 42, 43] (by decide +kernel) (by decide +kernel)
set_option maxRecDepth 20000 in
theorem gX0_worthOfRaising_X0_refusalReason : GoodIn wsX0_worthOfRaising (wsV RX0 51 RX0 yX0_refusalReason wsX0_refusalReason) := goodIn_app (goodIn_of _ (by decide +kernel)) ggX0_worthOfRaising_X0_refusalReason
set_option maxRecDepth 20000 in
theorem ggX0_worthOfRaising_X0_putTower : GoodIn wsX0_worthOfRaising wsX0_putTower := goodIn_r _ [30, 1, 2, 36, 37, 38, 39, 40, 41, 42, 43] (by decide +kernel) (by decide +kernel)
set_option maxRecDepth 20000 in
theorem gX0_worthOfRaising_X0_putTower : GoodIn wsX0_worthOfRaising (wsV RX0 54 RX0 yX0_putTower wsX0_putTower) := goodIn_app (goodIn_of _ (by decide +kernel)) ggX0_worthOfRaising_X0_putTower
set_option maxRecDepth 20000 in
theorem ggX0_worthOfRaising_X0_payNow : GoodIn wsX0_worthOfRaising wsX0_payNow := goodIn_r _ [34, 1, 9, 35, 10, 11, 12, 7, 13, 2, 14, 15, 16, 17, 18, 19, 20, 21, 22, 23, 24, 25, 26, 36, 37, 38, 39, 40, 41, 42, 43] (by decide +kernel) (by decide +kernel)
set_option maxRecDepth 20000 in
theorem gX0_worthOfRaising_X0_payNow : GoodIn wsX0_worthOfRaising (wsV RX0 43 RX0 yX0_payNow wsX0_payNow) := goodIn_app (goodIn_of _ (by decide +kernel)) ggX0_worthOfRaising_X0_payNow
theorem dX0_worthOfRaising_0 : decode cX0_worthOfRaising 0 = .ok (.aload_n 0, 1) := by decide +kernel
theorem dX0_worthOfRaising_1 : decode cX0_worthOfRaising 1 = .ok (.iload_n 1, 1) := by decide +kernel
theorem dX0_worthOfRaising_2 : decode cX0_worthOfRaising 2 = .ok (.invokevirtual 51, 3) := by decide +kernel
theorem dX0_worthOfRaising_5 : decode cX0_worthOfRaising 5 = .ok (.ifCond .eq 7, 3) := by decide +kernel
theorem dX0_worthOfRaising_8 : decode cX0_worthOfRaising 8 = .ok (.sipush (-999), 3) := by decide +kernel
theorem dX0_worthOfRaising_11 : decode cX0_worthOfRaising 11 = .ok (.ireturn, 1) := by decide +kernel
theorem dX0_worthOfRaising_12 : decode cX0_worthOfRaising 12 = .ok (.aload_n 0, 1) := by decide +kernel
theorem dX0_worthOfRaising_13 : decode cX0_worthOfRaising 13 = .ok (.getfield 15, 3) := by decide +kernel
theorem dX0_worthOfRaising_16 : decode cX0_worthOfRaising 16 = .ok (.iload_n 1, 1) := by decide +kernel
theorem dX0_worthOfRaising_17 : decode cX0_worthOfRaising 17 = .ok (.iaload, 1) := by decide +kernel
theorem dX0_worthOfRaising_18 : decode cX0_worthOfRaising 18 = .ok (.istore_n 2, 1) := by decide +kernel
theorem dX0_worthOfRaising_19 : decode cX0_worthOfRaising 19 = .ok (.aload_n 0, 1) := by decide +kernel
theorem dX0_worthOfRaising_20 : decode cX0_worthOfRaising 20 = .ok (.getfield 9, 3) := by decide +kernel
theorem dX0_worthOfRaising_23 : decode cX0_worthOfRaising 23 = .ok (.iload_n 1, 1) := by decide +kernel
theorem dX0_worthOfRaising_24 : decode cX0_worthOfRaising 24 = .ok (.iaload, 1) := by decide +kernel
theorem dX0_worthOfRaising_25 : decode cX0_worthOfRaising 25 = .ok (.istore_n 3, 1) := by decide +kernel
theorem dX0_worthOfRaising_26 : decode cX0_worthOfRaising 26 = .ok (.aload_n 0, 1) := by decide +kernel
theorem dX0_worthOfRaising_27 : decode cX0_worthOfRaising 27 = .ok (.iload_n 1, 1) := by decide +kernel
theorem dX0_worthOfRaising_28 : decode cX0_worthOfRaising 28 = .ok (.aload_n 0, 1) := by decide +kernel
theorem dX0_worthOfRaising_29 : decode cX0_worthOfRaising 29 = .ok (.getfield 34, 3) := by decide +kernel
theorem dX0_worthOfRaising_32 : decode cX0_worthOfRaising 32 = .ok (.iload_n 3, 1) := by decide +kernel
theorem dX0_worthOfRaising_33 : decode cX0_worthOfRaising 33 = .ok (.iconst 1, 1) := by decide +kernel
theorem dX0_worthOfRaising_34 : decode cX0_worthOfRaising 34 = .ok (.iadd, 1) := by decide +kernel
theorem dX0_worthOfRaising_35 : decode cX0_worthOfRaising 35 = .ok (.invokevirtual 54, 3) := by decide +kernel
theorem dX0_worthOfRaising_38 : decode cX0_worthOfRaising 38 = .ok (.aload_n 0, 1) := by decide +kernel
theorem dX0_worthOfRaising_39 : decode cX0_worthOfRaising 39 = .ok (.aload_n 0, 1) := by decide +kernel
theorem dX0_worthOfRaising_40 : decode cX0_worthOfRaising 40 = .ok (.getfield 34, 3) := by decide +kernel
theorem dX0_worthOfRaising_43 : decode cX0_worthOfRaising 43 = .ok (.invokevirtual 43, 3) := by decide +kernel
theorem dX0_worthOfRaising_46 : decode cX0_worthOfRaising 46 = .ok (.aload_n 0, 1) := by decide +kernel
theorem dX0_worthOfRaising_47 : decode cX0_worthOfRaising 47 = .ok (.iconst 1, 1) := by decide +kernel
theorem dX0_worthOfRaising_48 : decode cX0_worthOfRaising 48 = .ok (.aload_n 0, 1) := by decide +kernel
theorem dX0_worthOfRaising_49 : decode cX0_worthOfRaising 49 = .ok (.getfield 34, 3) := by decide +kernel
theorem dX0_worthOfRaising_52 : decode cX0_worthOfRaising 52 = .ok (.isub, 1) := by decide +kernel
theorem dX0_worthOfRaising_53 : decode cX0_worthOfRaising 53 = .ok (.invokevirtual 43, 3) := by decide +kernel
theorem dX0_worthOfRaising_56 : decode cX0_worthOfRaising 56 = .ok (.isub, 1) := by decide +kernel
theorem dX0_worthOfRaising_57 : decode cX0_worthOfRaising 57 = .ok (.istore 4, 2) := by decide +kernel
theorem dX0_worthOfRaising_59 : decode cX0_worthOfRaising 59 = .ok (.aload_n 0, 1) := by decide +kernel
theorem dX0_worthOfRaising_60 : decode cX0_worthOfRaising 60 = .ok (.iload_n 1, 1) := by decide +kernel
theorem dX0_worthOfRaising_61 : decode cX0_worthOfRaising 61 = .ok (.iload_n 2, 1) := by decide +kernel
theorem dX0_worthOfRaising_62 : decode cX0_worthOfRaising 62 = .ok (.iload_n 3, 1) := by decide +kernel
theorem dX0_worthOfRaising_63 : decode cX0_worthOfRaising 63 = .ok (.invokevirtual 54, 3) := by decide +kernel
theorem dX0_worthOfRaising_66 : decode cX0_worthOfRaising 66 = .ok (.iload 4, 2) := by decide +kernel
theorem dX0_worthOfRaising_68 : decode cX0_worthOfRaising 68 = .ok (.ireturn, 1) := by decide +kernel
set_option maxRecDepth 20000 in
theorem ggX0_isDark_X3_side : GoodIn wsX0_isDark wsX3_side := goodIn_r _ [5] (by decide +kernel) (by decide +kernel)
set_option maxRecDepth 20000 in
theorem gX0_isDark_X3_side : GoodIn wsX0_isDark (va_wsS RX0 58 yX3_side wsX3_side) := goodIn_app (goodIn_of _ (by decide +kernel)) ggX0_isDark_X3_side
set_option maxRecDepth 20000 in
theorem ggX0_isDark_X3_steepness : GoodIn wsX0_isDark wsX3_steepness := goodIn_r _ [8] (by decide +kernel) (by decide +kernel)
set_option maxRecDepth 20000 in
theorem gX0_isDark_X3_steepness : GoodIn wsX0_isDark (va_wsS RX0 63 yX3_steepness wsX3_steepness) := goodIn_app (goodIn_of _ (by decide +kernel)) ggX0_isDark_X3_steepness
set_option maxRecDepth 20000 in
theorem ggX0_isDark_X3_stepTowardSun : GoodIn wsX0_isDark wsX3_stepTowardSun := goodIn_r _ [11] (by decide +kernel) (by decide +kernel)
set_option maxRecDepth 20000 in
theorem gX0_isDark_X3_stepTowardSun : GoodIn wsX0_isDark (va_wsS RX0 66 yX3_stepTowardSun wsX3_stepTowardSun) := goodIn_app (goodIn_of _ (by decide +kernel)) ggX0_isDark_X3_stepTowardSun
set_option maxRecDepth 20000 in
theorem ggX0_isDark_X3_squaresTowardSun : GoodIn wsX0_isDark wsX3_squaresTowardSun := goodIn_r _ [14] (by decide +kernel) (by decide +kernel)
set_option maxRecDepth 20000 in
theorem gX0_isDark_X3_squaresTowardSun : GoodIn wsX0_isDark (va_wsS RX0 69 yX3_squaresTowardSun wsX3_squaresTowardSun) := goodIn_app (goodIn_of _ (by decide +kernel)) ggX0_isDark_X3_squaresTowardSun
theorem dX0_isDark_0 : decode cX0_isDark 0 = .ok (.iload_n 2, 1) := by decide +kernel
theorem dX0_isDark_1 : decode cX0_isDark 1 = .ok (.invokestatic 58, 3) := by decide +kernel
theorem dX0_isDark_4 : decode cX0_isDark 4 = .ok (.istore_n 3, 1) := by decide +kernel
theorem dX0_isDark_5 : decode cX0_isDark 5 = .ok (.iload_n 2, 1) := by decide +kernel
theorem dX0_isDark_6 : decode cX0_isDark 6 = .ok (.invokestatic 63, 3) := by decide +kernel
theorem dX0_isDark_9 : decode cX0_isDark 9 = .ok (.istore 4, 2) := by decide +kernel
theorem dX0_isDark_11 : decode cX0_isDark 11 = .ok (.iload_n 3, 1) := by decide +kernel
theorem dX0_isDark_12 : decode cX0_isDark 12 = .ok (.invokestatic 66, 3) := by decide +kernel
theorem dX0_isDark_15 : decode cX0_isDark 15 = .ok (.istore 5, 2) := by decide +kernel
theorem dX0_isDark_17 : decode cX0_isDark 17 = .ok (.iload_n 3, 1) := by decide +kernel
theorem dX0_isDark_18 : decode cX0_isDark 18 = .ok (.iload_n 1, 1) := by decide +kernel
theorem dX0_isDark_19 : decode cX0_isDark 19 = .ok (.invokestatic 69, 3) := by decide +kernel
theorem dX0_isDark_22 : decode cX0_isDark 22 = .ok (.istore 6, 2) := by decide +kernel
theorem dX0_isDark_24 : decode cX0_isDark 24 = .ok (.iconst 1, 1) := by decide +kernel
theorem dX0_isDark_25 : decode cX0_isDark 25 = .ok (.istore 7, 2) := by decide +kernel
theorem dX0_isDark_27 : decode cX0_isDark 27 = .ok (.iload 7, 2) := by decide +kernel
theorem dX0_isDark_29 : decode cX0_isDark 29 = .ok (.iload 6, 2) := by decide +kernel
theorem dX0_isDark_31 : decode cX0_isDark 31 = .ok (.if_icmp .gt 38, 3) := by decide +kernel
theorem dX0_isDark_34 : decode cX0_isDark 34 = .ok (.aload_n 0, 1) := by decide +kernel
theorem dX0_isDark_35 : decode cX0_isDark 35 = .ok (.getfield 9, 3) := by decide +kernel
theorem dX0_isDark_38 : decode cX0_isDark 38 = .ok (.iload_n 1, 1) := by decide +kernel
theorem dX0_isDark_39 : decode cX0_isDark 39 = .ok (.iload 7, 2) := by decide +kernel
theorem dX0_isDark_41 : decode cX0_isDark 41 = .ok (.iload 5, 2) := by decide +kernel
theorem dX0_isDark_43 : decode cX0_isDark 43 = .ok (.imul, 1) := by decide +kernel
theorem dX0_isDark_44 : decode cX0_isDark 44 = .ok (.iadd, 1) := by decide +kernel
theorem dX0_isDark_45 : decode cX0_isDark 45 = .ok (.iaload, 1) := by decide +kernel
theorem dX0_isDark_46 : decode cX0_isDark 46 = .ok (.iload 7, 2) := by decide +kernel
theorem dX0_isDark_48 : decode cX0_isDark 48 = .ok (.iload 4, 2) := by decide +kernel
theorem dX0_isDark_50 : decode cX0_isDark 50 = .ok (.imul, 1) := by decide +kernel
theorem dX0_isDark_51 : decode cX0_isDark 51 = .ok (.isub, 1) := by decide +kernel
theorem dX0_isDark_52 : decode cX0_isDark 52 = .ok (.aload_n 0, 1) := by decide +kernel
theorem dX0_isDark_53 : decode cX0_isDark 53 = .ok (.getfield 9, 3) := by decide +kernel
theorem dX0_isDark_56 : decode cX0_isDark 56 = .ok (.iload_n 1, 1) := by decide +kernel
theorem dX0_isDark_57 : decode cX0_isDark 57 = .ok (.iaload, 1) := by decide +kernel
theorem dX0_isDark_58 : decode cX0_isDark 58 = .ok (.if_icmp .le 5, 3) := by decide +kernel
theorem dX0_isDark_61 : decode cX0_isDark 61 = .ok (.iconst 1, 1) := by decide +kernel
theorem dX0_isDark_62 : decode cX0_isDark 62 = .ok (.ireturn, 1) := by decide +kernel
theorem dX0_isDark_63 : decode cX0_isDark 63 = .ok (.iinc 7 1, 3) := by decide +kernel
theorem dX0_isDark_66 : decode cX0_isDark 66 = .ok (.goto (-39), 3) := by decide +kernel
theorem dX0_isDark_69 : decode cX0_isDark 69 = .ok (.iconst 0, 1) := by decide +kernel
theorem dX0_isDark_70 : decode cX0_isDark 70 = .ok (.ireturn, 1) := by decide +kernel
set_option maxRecDepth 20000 in
theorem ggX0_isDarkBySweep_X3_side : GoodIn wsX0_isDarkBySweep wsX3_side := goodIn_r _ [9] (by decide +kernel) (by decide +kernel)
set_option maxRecDepth 20000 in
theorem gX0_isDarkBySweep_X3_side : GoodIn wsX0_isDarkBySweep (va_wsS RX0 58 yX3_side wsX3_side) := goodIn_app (goodIn_of _ (by decide +kernel)) ggX0_isDarkBySweep_X3_side
set_option maxRecDepth 20000 in
theorem ggX0_isDarkBySweep_X3_steepness : GoodIn wsX0_isDarkBySweep wsX3_steepness := goodIn_r _ [12] (by decide +kernel) (by decide +kernel)
set_option maxRecDepth 20000 in
theorem gX0_isDarkBySweep_X3_steepness : GoodIn wsX0_isDarkBySweep (va_wsS RX0 63 yX3_steepness wsX3_steepness) := goodIn_app (goodIn_of _ (by decide +kernel)) ggX0_isDarkBySweep_X3_steepness
set_option maxRecDepth 20000 in
theorem ggX0_isDarkBySweep_X3_stepTowardSun : GoodIn wsX0_isDarkBySweep wsX3_stepTowardSun := goodIn_r _ [15] (by decide +kernel) (by decide +kernel)
set_option maxRecDepth 20000 in
theorem gX0_isDarkBySweep_X3_stepTowardSun : GoodIn wsX0_isDarkBySweep (va_wsS RX0 66 yX3_stepTowardSun wsX3_stepTowardSun) := goodIn_app (goodIn_of _ (by decide +kernel)) ggX0_isDarkBySweep_X3_stepTowardSun
set_option maxRecDepth 20000 in
theorem ggX0_isDarkBySweep_X3_squaresTowardSun : GoodIn wsX0_isDarkBySweep wsX3_squaresTowardSun := goodIn_r _ [18] (by decide +kernel) (by decide +kernel)
set_option maxRecDepth 20000 in
theorem gX0_isDarkBySweep_X3_squaresTowardSun : GoodIn wsX0_isDarkBySweep (va_wsS RX0 69 yX3_squaresTowardSun wsX3_squaresTowardSun) := goodIn_app (goodIn_of _ (by decide +kernel)) ggX0_isDarkBySweep_X3_squaresTowardSun
theorem dX0_isDarkBySweep_0 : decode cX0_isDarkBySweep 0 = .ok (.iload_n 2, 1) := by decide +kernel
theorem dX0_isDarkBySweep_1 : decode cX0_isDarkBySweep 1 = .ok (.invokestatic 58, 3) := by decide +kernel
theorem dX0_isDarkBySweep_4 : decode cX0_isDarkBySweep 4 = .ok (.istore_n 3, 1) := by decide +kernel
theorem dX0_isDarkBySweep_5 : decode cX0_isDarkBySweep 5 = .ok (.iload_n 2, 1) := by decide +kernel
theorem dX0_isDarkBySweep_6 : decode cX0_isDarkBySweep 6 = .ok (.invokestatic 63, 3) := by decide +kernel
theorem dX0_isDarkBySweep_9 : decode cX0_isDarkBySweep 9 = .ok (.istore 4, 2) := by decide +kernel
theorem dX0_isDarkBySweep_11 : decode cX0_isDarkBySweep 11 = .ok (.iload_n 3, 1) := by decide +kernel
theorem dX0_isDarkBySweep_12 : decode cX0_isDarkBySweep 12 = .ok (.invokestatic 66, 3) := by decide +kernel
theorem dX0_isDarkBySweep_15 : decode cX0_isDarkBySweep 15 = .ok (.istore 5, 2) := by decide +kernel
theorem dX0_isDarkBySweep_17 : decode cX0_isDarkBySweep 17 = .ok (.iconst 0, 1) := by decide +kernel
theorem dX0_isDarkBySweep_18 : decode cX0_isDarkBySweep 18 = .ok (.istore 6, 2) := by decide +kernel
theorem dX0_isDarkBySweep_20 : decode cX0_isDarkBySweep 20 = .ok (.iload_n 3, 1) := by decide +kernel
theorem dX0_isDarkBySweep_21 : decode cX0_isDarkBySweep 21 = .ok (.iload_n 1, 1) := by decide +kernel
theorem dX0_isDarkBySweep_22 : decode cX0_isDarkBySweep 22 = .ok (.invokestatic 69, 3) := by decide +kernel
theorem dX0_isDarkBySweep_25 : decode cX0_isDarkBySweep 25 = .ok (.istore 7, 2) := by decide +kernel
theorem dX0_isDarkBySweep_27 : decode cX0_isDarkBySweep 27 = .ok (.iload 7, 2) := by decide +kernel
theorem dX0_isDarkBySweep_29 : decode cX0_isDarkBySweep 29 = .ok (.iconst 1, 1) := by decide +kernel
theorem dX0_isDarkBySweep_30 : decode cX0_isDarkBySweep 30 = .ok (.if_icmp .lt 31, 3) := by decide +kernel
theorem dX0_isDarkBySweep_33 : decode cX0_isDarkBySweep 33 = .ok (.iload 6, 2) := by decide +kernel
theorem dX0_isDarkBySweep_35 : decode cX0_isDarkBySweep 35 = .ok (.aload_n 0, 1) := by decide +kernel
theorem dX0_isDarkBySweep_36 : decode cX0_isDarkBySweep 36 = .ok (.getfield 9, 3) := by decide +kernel
theorem dX0_isDarkBySweep_39 : decode cX0_isDarkBySweep 39 = .ok (.iload_n 1, 1) := by decide +kernel
theorem dX0_isDarkBySweep_40 : decode cX0_isDarkBySweep 40 = .ok (.iload 7, 2) := by decide +kernel
theorem dX0_isDarkBySweep_42 : decode cX0_isDarkBySweep 42 = .ok (.iload 5, 2) := by decide +kernel
theorem dX0_isDarkBySweep_44 : decode cX0_isDarkBySweep 44 = .ok (.imul, 1) := by decide +kernel
theorem dX0_isDarkBySweep_45 : decode cX0_isDarkBySweep 45 = .ok (.iadd, 1) := by decide +kernel
theorem dX0_isDarkBySweep_46 : decode cX0_isDarkBySweep 46 = .ok (.iaload, 1) := by decide +kernel
theorem dX0_isDarkBySweep_47 : decode cX0_isDarkBySweep 47 = .ok (.invokestatic 73, 3) := by decide +kernel
theorem dX0_isDarkBySweep_50 : decode cX0_isDarkBySweep 50 = .ok (.iload 4, 2) := by decide +kernel
theorem dX0_isDarkBySweep_52 : decode cX0_isDarkBySweep 52 = .ok (.isub, 1) := by decide +kernel
theorem dX0_isDarkBySweep_53 : decode cX0_isDarkBySweep 53 = .ok (.istore 6, 2) := by decide +kernel
theorem dX0_isDarkBySweep_55 : decode cX0_isDarkBySweep 55 = .ok (.iinc 7 (-1), 3) := by decide +kernel
theorem dX0_isDarkBySweep_58 : decode cX0_isDarkBySweep 58 = .ok (.goto (-31), 3) := by decide +kernel
theorem dX0_isDarkBySweep_61 : decode cX0_isDarkBySweep 61 = .ok (.iload 6, 2) := by decide +kernel
theorem dX0_isDarkBySweep_63 : decode cX0_isDarkBySweep 63 = .ok (.aload_n 0, 1) := by decide +kernel
theorem dX0_isDarkBySweep_64 : decode cX0_isDarkBySweep 64 = .ok (.getfield 9, 3) := by decide +kernel
theorem dX0_isDarkBySweep_67 : decode cX0_isDarkBySweep 67 = .ok (.iload_n 1, 1) := by decide +kernel
theorem dX0_isDarkBySweep_68 : decode cX0_isDarkBySweep 68 = .ok (.iaload, 1) := by decide +kernel
theorem dX0_isDarkBySweep_69 : decode cX0_isDarkBySweep 69 = .ok (.if_icmp .le 7, 3) := by decide +kernel
theorem dX0_isDarkBySweep_72 : decode cX0_isDarkBySweep 72 = .ok (.iconst 1, 1) := by decide +kernel
theorem dX0_isDarkBySweep_73 : decode cX0_isDarkBySweep 73 = .ok (.goto 4, 3) := by decide +kernel
theorem dX0_isDarkBySweep_76 : decode cX0_isDarkBySweep 76 = .ok (.iconst 0, 1) := by decide +kernel
theorem dX0_isDarkBySweep_77 : decode cX0_isDarkBySweep 77 = .ok (.ireturn, 1) := by decide +kernel
set_option maxRecDepth 20000 in
theorem ggX0_towersShading_X3_side : GoodIn wsX0_towersShading wsX3_side := goodIn_r _ [7] (by decide +kernel) (by decide +kernel)
set_option maxRecDepth 20000 in
theorem gX0_towersShading_X3_side : GoodIn wsX0_towersShading (va_wsS RX0 58 yX3_side wsX3_side) := goodIn_app (goodIn_of _ (by decide +kernel)) ggX0_towersShading_X3_side
set_option maxRecDepth 20000 in
theorem ggX0_towersShading_X3_steepness : GoodIn wsX0_towersShading wsX3_steepness := goodIn_r _ [10] (by decide +kernel) (by decide +kernel)
set_option maxRecDepth 20000 in
theorem gX0_towersShading_X3_steepness : GoodIn wsX0_towersShading (va_wsS RX0 63 yX3_steepness wsX3_steepness) := goodIn_app (goodIn_of _ (by decide +kernel)) ggX0_towersShading_X3_steepness
set_option maxRecDepth 20000 in
theorem ggX0_towersShading_X3_stepTowardSun : GoodIn wsX0_towersShading wsX3_stepTowardSun := goodIn_r _ [13] (by decide +kernel) (by decide +kernel)
set_option maxRecDepth 20000 in
theorem gX0_towersShading_X3_stepTowardSun : GoodIn wsX0_towersShading (va_wsS RX0 66 yX3_stepTowardSun wsX3_stepTowardSun) := goodIn_app (goodIn_of _ (by decide +kernel)) ggX0_towersShading_X3_stepTowardSun
set_option maxRecDepth 20000 in
theorem ggX0_towersShading_X3_squaresTowardSun : GoodIn wsX0_towersShading wsX3_squaresTowardSun := goodIn_r _ [16] (by decide +kernel) (by decide +kernel)
set_option maxRecDepth 20000 in
theorem gX0_towersShading_X3_squaresTowardSun : GoodIn wsX0_towersShading (va_wsS RX0 69 yX3_squaresTowardSun wsX3_squaresTowardSun) := goodIn_app (goodIn_of _ (by decide +kernel)) ggX0_towersShading_X3_squaresTowardSun
theorem dX0_towersShading_0 : decode cX0_towersShading 0 = .ok (.aload_n 0, 1) := by decide +kernel
theorem dX0_towersShading_1 : decode cX0_towersShading 1 = .ok (.getfield 30, 3) := by decide +kernel
theorem dX0_towersShading_4 : decode cX0_towersShading 4 = .ok (.invokestatic 58, 3) := by decide +kernel
theorem dX0_towersShading_7 : decode cX0_towersShading 7 = .ok (.istore_n 3, 1) := by decide +kernel
theorem dX0_towersShading_8 : decode cX0_towersShading 8 = .ok (.aload_n 0, 1) := by decide +kernel
theorem dX0_towersShading_9 : decode cX0_towersShading 9 = .ok (.getfield 30, 3) := by decide +kernel
theorem dX0_towersShading_12 : decode cX0_towersShading 12 = .ok (.invokestatic 63, 3) := by decide +kernel
theorem dX0_towersShading_15 : decode cX0_towersShading 15 = .ok (.istore 4, 2) := by decide +kernel
theorem dX0_towersShading_17 : decode cX0_towersShading 17 = .ok (.iload_n 3, 1) := by decide +kernel
theorem dX0_towersShading_18 : decode cX0_towersShading 18 = .ok (.invokestatic 66, 3) := by decide +kernel
theorem dX0_towersShading_21 : decode cX0_towersShading 21 = .ok (.istore 5, 2) := by decide +kernel
theorem dX0_towersShading_23 : decode cX0_towersShading 23 = .ok (.iload_n 3, 1) := by decide +kernel
theorem dX0_towersShading_24 : decode cX0_towersShading 24 = .ok (.iload_n 1, 1) := by decide +kernel
theorem dX0_towersShading_25 : decode cX0_towersShading 25 = .ok (.invokestatic 69, 3) := by decide +kernel
theorem dX0_towersShading_28 : decode cX0_towersShading 28 = .ok (.istore 6, 2) := by decide +kernel
theorem dX0_towersShading_30 : decode cX0_towersShading 30 = .ok (.iconst 0, 1) := by decide +kernel
theorem dX0_towersShading_31 : decode cX0_towersShading 31 = .ok (.istore 7, 2) := by decide +kernel
theorem dX0_towersShading_33 : decode cX0_towersShading 33 = .ok (.iconst 1, 1) := by decide +kernel
theorem dX0_towersShading_34 : decode cX0_towersShading 34 = .ok (.istore 8, 2) := by decide +kernel
theorem dX0_towersShading_36 : decode cX0_towersShading 36 = .ok (.iload 8, 2) := by decide +kernel
theorem dX0_towersShading_38 : decode cX0_towersShading 38 = .ok (.iload 6, 2) := by decide +kernel
theorem dX0_towersShading_40 : decode cX0_towersShading 40 = .ok (.if_icmp .gt 54, 3) := by decide +kernel
theorem dX0_towersShading_43 : decode cX0_towersShading 43 = .ok (.iload_n 1, 1) := by decide +kernel
theorem dX0_towersShading_44 : decode cX0_towersShading 44 = .ok (.iload 8, 2) := by decide +kernel
theorem dX0_towersShading_46 : decode cX0_towersShading 46 = .ok (.iload 5, 2) := by decide +kernel
theorem dX0_towersShading_48 : decode cX0_towersShading 48 = .ok (.imul, 1) := by decide +kernel
theorem dX0_towersShading_49 : decode cX0_towersShading 49 = .ok (.iadd, 1) := by decide +kernel
theorem dX0_towersShading_50 : decode cX0_towersShading 50 = .ok (.istore 9, 2) := by decide +kernel
theorem dX0_towersShading_52 : decode cX0_towersShading 52 = .ok (.aload_n 0, 1) := by decide +kernel
theorem dX0_towersShading_53 : decode cX0_towersShading 53 = .ok (.getfield 15, 3) := by decide +kernel
theorem dX0_towersShading_56 : decode cX0_towersShading 56 = .ok (.iload 9, 2) := by decide +kernel
theorem dX0_towersShading_58 : decode cX0_towersShading 58 = .ok (.iaload, 1) := by decide +kernel
theorem dX0_towersShading_59 : decode cX0_towersShading 59 = .ok (.iload_n 2, 1) := by decide +kernel
theorem dX0_towersShading_60 : decode cX0_towersShading 60 = .ok (.if_icmp .ne 28, 3) := by decide +kernel
theorem dX0_towersShading_63 : decode cX0_towersShading 63 = .ok (.aload_n 0, 1) := by decide +kernel
theorem dX0_towersShading_64 : decode cX0_towersShading 64 = .ok (.getfield 9, 3) := by decide +kernel
theorem dX0_towersShading_67 : decode cX0_towersShading 67 = .ok (.iload 9, 2) := by decide +kernel
theorem dX0_towersShading_69 : decode cX0_towersShading 69 = .ok (.iaload, 1) := by decide +kernel
theorem dX0_towersShading_70 : decode cX0_towersShading 70 = .ok (.iload 8, 2) := by decide +kernel
theorem dX0_towersShading_72 : decode cX0_towersShading 72 = .ok (.iload 4, 2) := by decide +kernel
theorem dX0_towersShading_74 : decode cX0_towersShading 74 = .ok (.imul, 1) := by decide +kernel
theorem dX0_towersShading_75 : decode cX0_towersShading 75 = .ok (.isub, 1) := by decide +kernel
theorem dX0_towersShading_76 : decode cX0_towersShading 76 = .ok (.aload_n 0, 1) := by decide +kernel
theorem dX0_towersShading_77 : decode cX0_towersShading 77 = .ok (.getfield 9, 3) := by decide +kernel
theorem dX0_towersShading_80 : decode cX0_towersShading 80 = .ok (.iload_n 1, 1) := by decide +kernel
theorem dX0_towersShading_81 : decode cX0_towersShading 81 = .ok (.iaload, 1) := by decide +kernel
theorem dX0_towersShading_82 : decode cX0_towersShading 82 = .ok (.if_icmp .le 6, 3) := by decide +kernel
theorem dX0_towersShading_85 : decode cX0_towersShading 85 = .ok (.iinc 7 1, 3) := by decide +kernel
theorem dX0_towersShading_88 : decode cX0_towersShading 88 = .ok (.iinc 8 1, 3) := by decide +kernel
theorem dX0_towersShading_91 : decode cX0_towersShading 91 = .ok (.goto (-55), 3) := by decide +kernel
theorem dX0_towersShading_94 : decode cX0_towersShading 94 = .ok (.iload 7, 2) := by decide +kernel
theorem dX0_towersShading_96 : decode cX0_towersShading 96 = .ok (.ireturn, 1) := by decide +kernel
set_option maxRecDepth 20000 in
theorem ggX0_squaresShadedFrom_X3_side : GoodIn wsX0_squaresShadedFrom wsX3_side := goodIn_r _ [6] (by decide +kernel) (by decide +kernel)
set_option maxRecDepth 20000 in
theorem gX0_squaresShadedFrom_X3_side : GoodIn wsX0_squaresShadedFrom (va_wsS RX0 58 yX3_side wsX3_side) := goodIn_app (goodIn_of _ (by decide +kernel)) ggX0_squaresShadedFrom_X3_side
set_option maxRecDepth 20000 in
theorem ggX0_squaresShadedFrom_X3_steepness : GoodIn wsX0_squaresShadedFrom wsX3_steepness := goodIn_r _ [9] (by decide +kernel) (by decide +kernel)
set_option maxRecDepth 20000 in
theorem gX0_squaresShadedFrom_X3_steepness : GoodIn wsX0_squaresShadedFrom (va_wsS RX0 63 yX3_steepness wsX3_steepness) := goodIn_app (goodIn_of _ (by decide +kernel)) ggX0_squaresShadedFrom_X3_steepness
set_option maxRecDepth 20000 in
theorem ggX0_squaresShadedFrom_X3_stepTowardSun : GoodIn wsX0_squaresShadedFrom wsX3_stepTowardSun := goodIn_r _ [12] (by decide +kernel) (by decide +kernel)
set_option maxRecDepth 20000 in
theorem gX0_squaresShadedFrom_X3_stepTowardSun : GoodIn wsX0_squaresShadedFrom (va_wsS RX0 66 yX3_stepTowardSun wsX3_stepTowardSun) := goodIn_app (goodIn_of _ (by decide +kernel)) ggX0_squaresShadedFrom_X3_stepTowardSun
set_option maxRecDepth 20000 in
theorem ggX0_squaresShadedFrom_X3_squaresTowardSun : GoodIn wsX0_squaresShadedFrom wsX3_squaresTowardSun := goodIn_r _ [15] (by decide +kernel) (by decide +kernel)
set_option maxRecDepth 20000 in
theorem gX0_squaresShadedFrom_X3_squaresTowardSun : GoodIn wsX0_squaresShadedFrom (va_wsS RX0 69 yX3_squaresTowardSun wsX3_squaresTowardSun) := goodIn_app (goodIn_of _ (by decide +kernel)) ggX0_squaresShadedFrom_X3_squaresTowardSun
theorem dX0_squaresShadedFrom_0 : decode cX0_squaresShadedFrom 0 = .ok (.aload_n 0, 1) := by decide +kernel
theorem dX0_squaresShadedFrom_1 : decode cX0_squaresShadedFrom 1 = .ok (.getfield 30, 3) := by decide +kernel
theorem dX0_squaresShadedFrom_4 : decode cX0_squaresShadedFrom 4 = .ok (.invokestatic 58, 3) := by decide +kernel
theorem dX0_squaresShadedFrom_7 : decode cX0_squaresShadedFrom 7 = .ok (.istore_n 2, 1) := by decide +kernel
theorem dX0_squaresShadedFrom_8 : decode cX0_squaresShadedFrom 8 = .ok (.aload_n 0, 1) := by decide +kernel
theorem dX0_squaresShadedFrom_9 : decode cX0_squaresShadedFrom 9 = .ok (.getfield 30, 3) := by decide +kernel
theorem dX0_squaresShadedFrom_12 : decode cX0_squaresShadedFrom 12 = .ok (.invokestatic 63, 3) := by decide +kernel
theorem dX0_squaresShadedFrom_15 : decode cX0_squaresShadedFrom 15 = .ok (.istore_n 3, 1) := by decide +kernel
theorem dX0_squaresShadedFrom_16 : decode cX0_squaresShadedFrom 16 = .ok (.iload_n 2, 1) := by decide +kernel
theorem dX0_squaresShadedFrom_17 : decode cX0_squaresShadedFrom 17 = .ok (.invokestatic 66, 3) := by decide +kernel
theorem dX0_squaresShadedFrom_20 : decode cX0_squaresShadedFrom 20 = .ok (.istore 4, 2) := by decide +kernel
theorem dX0_squaresShadedFrom_22 : decode cX0_squaresShadedFrom 22 = .ok (.iconst 5, 1) := by decide +kernel
theorem dX0_squaresShadedFrom_23 : decode cX0_squaresShadedFrom 23 = .ok (.iload_n 2, 1) := by decide +kernel
theorem dX0_squaresShadedFrom_24 : decode cX0_squaresShadedFrom 24 = .ok (.iload_n 1, 1) := by decide +kernel
theorem dX0_squaresShadedFrom_25 : decode cX0_squaresShadedFrom 25 = .ok (.invokestatic 69, 3) := by decide +kernel
theorem dX0_squaresShadedFrom_28 : decode cX0_squaresShadedFrom 28 = .ok (.isub, 1) := by decide +kernel
theorem dX0_squaresShadedFrom_29 : decode cX0_squaresShadedFrom 29 = .ok (.istore 5, 2) := by decide +kernel
theorem dX0_squaresShadedFrom_31 : decode cX0_squaresShadedFrom 31 = .ok (.iconst 0, 1) := by decide +kernel
theorem dX0_squaresShadedFrom_32 : decode cX0_squaresShadedFrom 32 = .ok (.istore 6, 2) := by decide +kernel
theorem dX0_squaresShadedFrom_34 : decode cX0_squaresShadedFrom 34 = .ok (.iconst 1, 1) := by decide +kernel
theorem dX0_squaresShadedFrom_35 : decode cX0_squaresShadedFrom 35 = .ok (.istore 7, 2) := by decide +kernel
theorem dX0_squaresShadedFrom_37 : decode cX0_squaresShadedFrom 37 = .ok (.iload 7, 2) := by decide +kernel
theorem dX0_squaresShadedFrom_39 : decode cX0_squaresShadedFrom 39 = .ok (.iload 5, 2) := by decide +kernel
theorem dX0_squaresShadedFrom_41 : decode cX0_squaresShadedFrom 41 = .ok (.if_icmp .gt 38, 3) := by decide +kernel
theorem dX0_squaresShadedFrom_44 : decode cX0_squaresShadedFrom 44 = .ok (.aload_n 0, 1) := by decide +kernel
theorem dX0_squaresShadedFrom_45 : decode cX0_squaresShadedFrom 45 = .ok (.getfield 9, 3) := by decide +kernel
theorem dX0_squaresShadedFrom_48 : decode cX0_squaresShadedFrom 48 = .ok (.iload_n 1, 1) := by decide +kernel
theorem dX0_squaresShadedFrom_49 : decode cX0_squaresShadedFrom 49 = .ok (.iaload, 1) := by decide +kernel
theorem dX0_squaresShadedFrom_50 : decode cX0_squaresShadedFrom 50 = .ok (.iload 7, 2) := by decide +kernel
theorem dX0_squaresShadedFrom_52 : decode cX0_squaresShadedFrom 52 = .ok (.iload_n 3, 1) := by decide +kernel
theorem dX0_squaresShadedFrom_53 : decode cX0_squaresShadedFrom 53 = .ok (.imul, 1) := by decide +kernel
theorem dX0_squaresShadedFrom_54 : decode cX0_squaresShadedFrom 54 = .ok (.isub, 1) := by decide +kernel
theorem dX0_squaresShadedFrom_55 : decode cX0_squaresShadedFrom 55 = .ok (.aload_n 0, 1) := by decide +kernel
theorem dX0_squaresShadedFrom_56 : decode cX0_squaresShadedFrom 56 = .ok (.getfield 9, 3) := by decide +kernel
theorem dX0_squaresShadedFrom_59 : decode cX0_squaresShadedFrom 59 = .ok (.iload_n 1, 1) := by decide +kernel
theorem dX0_squaresShadedFrom_60 : decode cX0_squaresShadedFrom 60 = .ok (.iload 7, 2) := by decide +kernel
theorem dX0_squaresShadedFrom_62 : decode cX0_squaresShadedFrom 62 = .ok (.iload 4, 2) := by decide +kernel
theorem dX0_squaresShadedFrom_64 : decode cX0_squaresShadedFrom 64 = .ok (.imul, 1) := by decide +kernel
theorem dX0_squaresShadedFrom_65 : decode cX0_squaresShadedFrom 65 = .ok (.isub, 1) := by decide +kernel
theorem dX0_squaresShadedFrom_66 : decode cX0_squaresShadedFrom 66 = .ok (.iaload, 1) := by decide +kernel
theorem dX0_squaresShadedFrom_67 : decode cX0_squaresShadedFrom 67 = .ok (.if_icmp .le 6, 3) := by decide +kernel
theorem dX0_squaresShadedFrom_70 : decode cX0_squaresShadedFrom 70 = .ok (.iinc 6 1, 3) := by decide +kernel
theorem dX0_squaresShadedFrom_73 : decode cX0_squaresShadedFrom 73 = .ok (.iinc 7 1, 3) := by decide +kernel
theorem dX0_squaresShadedFrom_76 : decode cX0_squaresShadedFrom 76 = .ok (.goto (-39), 3) := by decide +kernel
theorem dX0_squaresShadedFrom_79 : decode cX0_squaresShadedFrom 79 = .ok (.iload 6, 2) := by decide +kernel
theorem dX0_squaresShadedFrom_81 : decode cX0_squaresShadedFrom 81 = .ok (.ireturn, 1) := by decide +kernel
set_option maxRecDepth 20000 in
theorem ggX0_darkHourMask_X0_isDark : GoodIn wsX0_darkHourMask wsX0_isDark := goodIn_r _ [5, 6, 7, 8, 9, 10, 11, 12, 13, 14, 15, 16, 17, 18, 19, 20, 21, 22, 23, 24, 25, 26, 27] (by decide +kernel) (by decide +kernel)
set_option maxRecDepth 20000 in
theorem gX0_darkHourMask_X0_isDark : GoodIn wsX0_darkHourMask (wsV RX0 47 RX0 yX0_isDark wsX0_isDark) := goodIn_app (goodIn_of _ (by decide +kernel)) ggX0_darkHourMask_X0_isDark
theorem dX0_darkHourMask_0 : decode cX0_darkHourMask 0 = .ok (.iconst 0, 1) := by decide +kernel
theorem dX0_darkHourMask_1 : decode cX0_darkHourMask 1 = .ok (.istore_n 2, 1) := by decide +kernel
theorem dX0_darkHourMask_2 : decode cX0_darkHourMask 2 = .ok (.iconst 0, 1) := by decide +kernel
theorem dX0_darkHourMask_3 : decode cX0_darkHourMask 3 = .ok (.istore_n 3, 1) := by decide +kernel
theorem dX0_darkHourMask_4 : decode cX0_darkHourMask 4 = .ok (.iload_n 3, 1) := by decide +kernel
theorem dX0_darkHourMask_5 : decode cX0_darkHourMask 5 = .ok (.bipush 12, 2) := by decide +kernel
theorem dX0_darkHourMask_7 : decode cX0_darkHourMask 7 = .ok (.if_icmp .ge 24, 3) := by decide +kernel
theorem dX0_darkHourMask_10 : decode cX0_darkHourMask 10 = .ok (.aload_n 0, 1) := by decide +kernel
theorem dX0_darkHourMask_11 : decode cX0_darkHourMask 11 = .ok (.iload_n 1, 1) := by decide +kernel
theorem dX0_darkHourMask_12 : decode cX0_darkHourMask 12 = .ok (.iload_n 3, 1) := by decide +kernel
theorem dX0_darkHourMask_13 : decode cX0_darkHourMask 13 = .ok (.invokevirtual 47, 3) := by decide +kernel
theorem dX0_darkHourMask_16 : decode cX0_darkHourMask 16 = .ok (.ifCond .eq 9, 3) := by decide +kernel
theorem dX0_darkHourMask_19 : decode cX0_darkHourMask 19 = .ok (.iload_n 2, 1) := by decide +kernel
theorem dX0_darkHourMask_20 : decode cX0_darkHourMask 20 = .ok (.iconst 1, 1) := by decide +kernel
theorem dX0_darkHourMask_21 : decode cX0_darkHourMask 21 = .ok (.iload_n 3, 1) := by decide +kernel
theorem dX0_darkHourMask_22 : decode cX0_darkHourMask 22 = .ok (.ishl, 1) := by decide +kernel
theorem dX0_darkHourMask_23 : decode cX0_darkHourMask 23 = .ok (.ior, 1) := by decide +kernel
theorem dX0_darkHourMask_24 : decode cX0_darkHourMask 24 = .ok (.istore_n 2, 1) := by decide +kernel
theorem dX0_darkHourMask_25 : decode cX0_darkHourMask 25 = .ok (.iinc 3 1, 3) := by decide +kernel
theorem dX0_darkHourMask_28 : decode cX0_darkHourMask 28 = .ok (.goto (-24), 3) := by decide +kernel
theorem dX0_darkHourMask_31 : decode cX0_darkHourMask 31 = .ok (.iload_n 2, 1) := by decide +kernel
theorem dX0_darkHourMask_32 : decode cX0_darkHourMask 32 = .ok (.ireturn, 1) := by decide +kernel
set_option maxRecDepth 20000 in
theorem ggX0_darkSquares_X0_isDark : GoodIn wsX0_darkSquares wsX0_isDark := goodIn_r _ [5, 6, 7, 8, 9, 10, 11, 12, 13, 14, 15, 16, 17, 18, 19, 20, 21, 22, 23, 24, 25, 26, 27] (by decide +kernel) (by decide +kernel)
set_option maxRecDepth 20000 in
theorem gX0_darkSquares_X0_isDark : GoodIn wsX0_darkSquares (wsV RX0 47 RX0 yX0_isDark wsX0_isDark) := goodIn_app (goodIn_of _ (by decide +kernel)) ggX0_darkSquares_X0_isDark
theorem dX0_darkSquares_0 : decode cX0_darkSquares 0 = .ok (.iconst 0, 1) := by decide +kernel
theorem dX0_darkSquares_1 : decode cX0_darkSquares 1 = .ok (.istore_n 2, 1) := by decide +kernel
theorem dX0_darkSquares_2 : decode cX0_darkSquares 2 = .ok (.iconst 0, 1) := by decide +kernel
theorem dX0_darkSquares_3 : decode cX0_darkSquares 3 = .ok (.istore_n 3, 1) := by decide +kernel
theorem dX0_darkSquares_4 : decode cX0_darkSquares 4 = .ok (.iload_n 3, 1) := by decide +kernel
theorem dX0_darkSquares_5 : decode cX0_darkSquares 5 = .ok (.bipush 36, 2) := by decide +kernel
theorem dX0_darkSquares_7 : decode cX0_darkSquares 7 = .ok (.if_icmp .ge 21, 3) := by decide +kernel
theorem dX0_darkSquares_10 : decode cX0_darkSquares 10 = .ok (.aload_n 0, 1) := by decide +kernel
theorem dX0_darkSquares_11 : decode cX0_darkSquares 11 = .ok (.iload_n 3, 1) := by decide +kernel
theorem dX0_darkSquares_12 : decode cX0_darkSquares 12 = .ok (.iload_n 1, 1) := by decide +kernel
theorem dX0_darkSquares_13 : decode cX0_darkSquares 13 = .ok (.invokevirtual 47, 3) := by decide +kernel
theorem dX0_darkSquares_16 : decode cX0_darkSquares 16 = .ok (.ifCond .eq 6, 3) := by decide +kernel
theorem dX0_darkSquares_19 : decode cX0_darkSquares 19 = .ok (.iinc 2 1, 3) := by decide +kernel
theorem dX0_darkSquares_22 : decode cX0_darkSquares 22 = .ok (.iinc 3 1, 3) := by decide +kernel
theorem dX0_darkSquares_25 : decode cX0_darkSquares 25 = .ok (.goto (-21), 3) := by decide +kernel
theorem dX0_darkSquares_28 : decode cX0_darkSquares 28 = .ok (.iload_n 2, 1) := by decide +kernel
theorem dX0_darkSquares_29 : decode cX0_darkSquares 29 = .ok (.ireturn, 1) := by decide +kernel
set_option maxRecDepth 20000 in
theorem ggX0_towers_X0_towersOf : GoodIn wsX0_towers wsX0_towersOf := goodIn_r _ [5, 6, 7, 8, 9, 10, 11, 12, 13, 14] (by decide +kernel) (by decide +kernel)
set_option maxRecDepth 20000 in
theorem gX0_towers_X0_towersOf : GoodIn wsX0_towers (wsV RX0 78 RX0 yX0_towersOf wsX0_towersOf) := goodIn_app (goodIn_of _ (by decide +kernel)) ggX0_towers_X0_towersOf
theorem dX0_towers_0 : decode cX0_towers 0 = .ok (.aload_n 0, 1) := by decide +kernel
theorem dX0_towers_1 : decode cX0_towers 1 = .ok (.iconst 0, 1) := by decide +kernel
theorem dX0_towers_2 : decode cX0_towers 2 = .ok (.invokevirtual 78, 3) := by decide +kernel
theorem dX0_towers_5 : decode cX0_towers 5 = .ok (.aload_n 0, 1) := by decide +kernel
theorem dX0_towers_6 : decode cX0_towers 6 = .ok (.iconst 1, 1) := by decide +kernel
theorem dX0_towers_7 : decode cX0_towers 7 = .ok (.invokevirtual 78, 3) := by decide +kernel
theorem dX0_towers_10 : decode cX0_towers 10 = .ok (.iadd, 1) := by decide +kernel
theorem dX0_towers_11 : decode cX0_towers 11 = .ok (.ireturn, 1) := by decide +kernel
theorem dX0_towersOf_0 : decode cX0_towersOf 0 = .ok (.iconst 0, 1) := by decide +kernel
theorem dX0_towersOf_1 : decode cX0_towersOf 1 = .ok (.istore_n 2, 1) := by decide +kernel
theorem dX0_towersOf_2 : decode cX0_towersOf 2 = .ok (.iconst 0, 1) := by decide +kernel
theorem dX0_towersOf_3 : decode cX0_towersOf 3 = .ok (.istore_n 3, 1) := by decide +kernel
theorem dX0_towersOf_4 : decode cX0_towersOf 4 = .ok (.iload_n 3, 1) := by decide +kernel
theorem dX0_towersOf_5 : decode cX0_towersOf 5 = .ok (.bipush 36, 2) := by decide +kernel
theorem dX0_towersOf_7 : decode cX0_towersOf 7 = .ok (.if_icmp .ge 22, 3) := by decide +kernel
theorem dX0_towersOf_10 : decode cX0_towersOf 10 = .ok (.aload_n 0, 1) := by decide +kernel
theorem dX0_towersOf_11 : decode cX0_towersOf 11 = .ok (.getfield 15, 3) := by decide +kernel
theorem dX0_towersOf_14 : decode cX0_towersOf 14 = .ok (.iload_n 3, 1) := by decide +kernel
theorem dX0_towersOf_15 : decode cX0_towersOf 15 = .ok (.iaload, 1) := by decide +kernel
theorem dX0_towersOf_16 : decode cX0_towersOf 16 = .ok (.iload_n 1, 1) := by decide +kernel
theorem dX0_towersOf_17 : decode cX0_towersOf 17 = .ok (.if_icmp .ne 6, 3) := by decide +kernel
theorem dX0_towersOf_20 : decode cX0_towersOf 20 = .ok (.iinc 2 1, 3) := by decide +kernel
theorem dX0_towersOf_23 : decode cX0_towersOf 23 = .ok (.iinc 3 1, 3) := by decide +kernel
theorem dX0_towersOf_26 : decode cX0_towersOf 26 = .ok (.goto (-22), 3) := by decide +kernel
theorem dX0_towersOf_29 : decode cX0_towersOf 29 = .ok (.iload_n 2, 1) := by decide +kernel
theorem dX0_towersOf_30 : decode cX0_towersOf 30 = .ok (.ireturn, 1) := by decide +kernel
theorem dX0_heightsOf_0 : decode cX0_heightsOf 0 = .ok (.iconst 0, 1) := by decide +kernel
theorem dX0_heightsOf_1 : decode cX0_heightsOf 1 = .ok (.istore_n 2, 1) := by decide +kernel
theorem dX0_heightsOf_2 : decode cX0_heightsOf 2 = .ok (.iconst 0, 1) := by decide +kernel
theorem dX0_heightsOf_3 : decode cX0_heightsOf 3 = .ok (.istore_n 3, 1) := by decide +kernel
theorem dX0_heightsOf_4 : decode cX0_heightsOf 4 = .ok (.iload_n 3, 1) := by decide +kernel
theorem dX0_heightsOf_5 : decode cX0_heightsOf 5 = .ok (.bipush 36, 2) := by decide +kernel
theorem dX0_heightsOf_7 : decode cX0_heightsOf 7 = .ok (.if_icmp .ge 28, 3) := by decide +kernel
theorem dX0_heightsOf_10 : decode cX0_heightsOf 10 = .ok (.aload_n 0, 1) := by decide +kernel
theorem dX0_heightsOf_11 : decode cX0_heightsOf 11 = .ok (.getfield 15, 3) := by decide +kernel
theorem dX0_heightsOf_14 : decode cX0_heightsOf 14 = .ok (.iload_n 3, 1) := by decide +kernel
theorem dX0_heightsOf_15 : decode cX0_heightsOf 15 = .ok (.iaload, 1) := by decide +kernel
theorem dX0_heightsOf_16 : decode cX0_heightsOf 16 = .ok (.iload_n 1, 1) := by decide +kernel
theorem dX0_heightsOf_17 : decode cX0_heightsOf 17 = .ok (.if_icmp .ne 12, 3) := by decide +kernel
theorem dX0_heightsOf_20 : decode cX0_heightsOf 20 = .ok (.iload_n 2, 1) := by decide +kernel
theorem dX0_heightsOf_21 : decode cX0_heightsOf 21 = .ok (.aload_n 0, 1) := by decide +kernel
theorem dX0_heightsOf_22 : decode cX0_heightsOf 22 = .ok (.getfield 9, 3) := by decide +kernel
theorem dX0_heightsOf_25 : decode cX0_heightsOf 25 = .ok (.iload_n 3, 1) := by decide +kernel
theorem dX0_heightsOf_26 : decode cX0_heightsOf 26 = .ok (.iaload, 1) := by decide +kernel
theorem dX0_heightsOf_27 : decode cX0_heightsOf 27 = .ok (.iadd, 1) := by decide +kernel
theorem dX0_heightsOf_28 : decode cX0_heightsOf 28 = .ok (.istore_n 2, 1) := by decide +kernel
theorem dX0_heightsOf_29 : decode cX0_heightsOf 29 = .ok (.iinc 3 1, 3) := by decide +kernel
theorem dX0_heightsOf_32 : decode cX0_heightsOf 32 = .ok (.goto (-28), 3) := by decide +kernel
theorem dX0_heightsOf_35 : decode cX0_heightsOf 35 = .ok (.iload_n 2, 1) := by decide +kernel
theorem dX0_heightsOf_36 : decode cX0_heightsOf 36 = .ok (.ireturn, 1) := by decide +kernel
set_option maxRecDepth 20000 in
theorem ggX0_darkTowersOf_X0_isDark : GoodIn wsX0_darkTowersOf wsX0_isDark := goodIn_r _ [7, 8, 9, 10, 11, 12, 13, 14, 15, 16, 17, 18, 19, 20, 21, 22, 23, 24, 25, 26, 27, 28, 29] (by decide +kernel) (by decide +kernel)
set_option maxRecDepth 20000 in
theorem gX0_darkTowersOf_X0_isDark : GoodIn wsX0_darkTowersOf (wsV RX0 47 RX0 yX0_isDark wsX0_isDark) := goodIn_app (goodIn_of _ (by decide +kernel)) ggX0_darkTowersOf_X0_isDark
theorem dX0_darkTowersOf_0 : decode cX0_darkTowersOf 0 = .ok (.iconst 0, 1) := by decide +kernel
theorem dX0_darkTowersOf_1 : decode cX0_darkTowersOf 1 = .ok (.istore_n 2, 1) := by decide +kernel
theorem dX0_darkTowersOf_2 : decode cX0_darkTowersOf 2 = .ok (.iconst 0, 1) := by decide +kernel
theorem dX0_darkTowersOf_3 : decode cX0_darkTowersOf 3 = .ok (.istore_n 3, 1) := by decide +kernel
theorem dX0_darkTowersOf_4 : decode cX0_darkTowersOf 4 = .ok (.iload_n 3, 1) := by decide +kernel
theorem dX0_darkTowersOf_5 : decode cX0_darkTowersOf 5 = .ok (.bipush 36, 2) := by decide +kernel
theorem dX0_darkTowersOf_7 : decode cX0_darkTowersOf 7 = .ok (.if_icmp .ge 34, 3) := by decide +kernel
theorem dX0_darkTowersOf_10 : decode cX0_darkTowersOf 10 = .ok (.aload_n 0, 1) := by decide +kernel
theorem dX0_darkTowersOf_11 : decode cX0_darkTowersOf 11 = .ok (.getfield 15, 3) := by decide +kernel
theorem dX0_darkTowersOf_14 : decode cX0_darkTowersOf 14 = .ok (.iload_n 3, 1) := by decide +kernel
theorem dX0_darkTowersOf_15 : decode cX0_darkTowersOf 15 = .ok (.iaload, 1) := by decide +kernel
theorem dX0_darkTowersOf_16 : decode cX0_darkTowersOf 16 = .ok (.iload_n 1, 1) := by decide +kernel
theorem dX0_darkTowersOf_17 : decode cX0_darkTowersOf 17 = .ok (.if_icmp .ne 18, 3) := by decide +kernel
theorem dX0_darkTowersOf_20 : decode cX0_darkTowersOf 20 = .ok (.aload_n 0, 1) := by decide +kernel
theorem dX0_darkTowersOf_21 : decode cX0_darkTowersOf 21 = .ok (.iload_n 3, 1) := by decide +kernel
theorem dX0_darkTowersOf_22 : decode cX0_darkTowersOf 22 = .ok (.aload_n 0, 1) := by decide +kernel
theorem dX0_darkTowersOf_23 : decode cX0_darkTowersOf 23 = .ok (.getfield 30, 3) := by decide +kernel
theorem dX0_darkTowersOf_26 : decode cX0_darkTowersOf 26 = .ok (.invokevirtual 47, 3) := by decide +kernel
theorem dX0_darkTowersOf_29 : decode cX0_darkTowersOf 29 = .ok (.ifCond .eq 6, 3) := by decide +kernel
theorem dX0_darkTowersOf_32 : decode cX0_darkTowersOf 32 = .ok (.iinc 2 1, 3) := by decide +kernel
theorem dX0_darkTowersOf_35 : decode cX0_darkTowersOf 35 = .ok (.iinc 3 1, 3) := by decide +kernel
theorem dX0_darkTowersOf_38 : decode cX0_darkTowersOf 38 = .ok (.goto (-34), 3) := by decide +kernel
theorem dX0_darkTowersOf_41 : decode cX0_darkTowersOf 41 = .ok (.iload_n 2, 1) := by decide +kernel
theorem dX0_darkTowersOf_42 : decode cX0_darkTowersOf 42 = .ok (.ireturn, 1) := by decide +kernel
set_option maxRecDepth 20000 in
theorem ggX0_payNow_X0_isDark : GoodIn wsX0_payNow wsX0_isDark := goodIn_r _ [8, 9, 10, 11, 12, 13, 14, 15, 16, 17, 18, 19, 20, 21, 22, 23, 24, 25, 26, 27, 28, 29, 30] (by decide +kernel) (by decide +kernel)
set_option maxRecDepth 20000 in
theorem gX0_payNow_X0_isDark : GoodIn wsX0_payNow (wsV RX0 47 RX0 yX0_isDark wsX0_isDark) := goodIn_app (goodIn_of _ (by decide +kernel)) ggX0_payNow_X0_isDark
theorem dX0_payNow_0 : decode cX0_payNow 0 = .ok (.iconst 0, 1) := by decide +kernel
theorem dX0_payNow_1 : decode cX0_payNow 1 = .ok (.istore_n 2, 1) := by decide +kernel
theorem dX0_payNow_2 : decode cX0_payNow 2 = .ok (.iconst 0, 1) := by decide +kernel
theorem dX0_payNow_3 : decode cX0_payNow 3 = .ok (.istore_n 3, 1) := by decide +kernel
theorem dX0_payNow_4 : decode cX0_payNow 4 = .ok (.iload_n 3, 1) := by decide +kernel
theorem dX0_payNow_5 : decode cX0_payNow 5 = .ok (.bipush 36, 2) := by decide +kernel
theorem dX0_payNow_7 : decode cX0_payNow 7 = .ok (.if_icmp .ge 40, 3) := by decide +kernel
theorem dX0_payNow_10 : decode cX0_payNow 10 = .ok (.aload_n 0, 1) := by decide +kernel
theorem dX0_payNow_11 : decode cX0_payNow 11 = .ok (.getfield 15, 3) := by decide +kernel
theorem dX0_payNow_14 : decode cX0_payNow 14 = .ok (.iload_n 3, 1) := by decide +kernel
theorem dX0_payNow_15 : decode cX0_payNow 15 = .ok (.iaload, 1) := by decide +kernel
theorem dX0_payNow_16 : decode cX0_payNow 16 = .ok (.iload_n 1, 1) := by decide +kernel
theorem dX0_payNow_17 : decode cX0_payNow 17 = .ok (.if_icmp .ne 24, 3) := by decide +kernel
theorem dX0_payNow_20 : decode cX0_payNow 20 = .ok (.aload_n 0, 1) := by decide +kernel
theorem dX0_payNow_21 : decode cX0_payNow 21 = .ok (.iload_n 3, 1) := by decide +kernel
theorem dX0_payNow_22 : decode cX0_payNow 22 = .ok (.aload_n 0, 1) := by decide +kernel
theorem dX0_payNow_23 : decode cX0_payNow 23 = .ok (.getfield 30, 3) := by decide +kernel
theorem dX0_payNow_26 : decode cX0_payNow 26 = .ok (.invokevirtual 47, 3) := by decide +kernel
theorem dX0_payNow_29 : decode cX0_payNow 29 = .ok (.ifCond .ne 12, 3) := by decide +kernel
theorem dX0_payNow_32 : decode cX0_payNow 32 = .ok (.iload_n 2, 1) := by decide +kernel
theorem dX0_payNow_33 : decode cX0_payNow 33 = .ok (.aload_n 0, 1) := by decide +kernel
theorem dX0_payNow_34 : decode cX0_payNow 34 = .ok (.getfield 18, 3) := by decide +kernel
theorem dX0_payNow_37 : decode cX0_payNow 37 = .ok (.iload_n 3, 1) := by decide +kernel
theorem dX0_payNow_38 : decode cX0_payNow 38 = .ok (.iaload, 1) := by decide +kernel
theorem dX0_payNow_39 : decode cX0_payNow 39 = .ok (.iadd, 1) := by decide +kernel
theorem dX0_payNow_40 : decode cX0_payNow 40 = .ok (.istore_n 2, 1) := by decide +kernel
theorem dX0_payNow_41 : decode cX0_payNow 41 = .ok (.iinc 3 1, 3) := by decide +kernel
theorem dX0_payNow_44 : decode cX0_payNow 44 = .ok (.goto (-40), 3) := by decide +kernel
theorem dX0_payNow_47 : decode cX0_payNow 47 = .ok (.iload_n 2, 1) := by decide +kernel
theorem dX0_payNow_48 : decode cX0_payNow 48 = .ok (.ireturn, 1) := by decide +kernel
set_option maxRecDepth 20000 in
theorem ggX0_rivalsShadedBy_X0_towersShading : GoodIn wsX0_rivalsShadedBy wsX0_towersShading := goodIn_r _ [6, 7, 1, 8, 9, 10, 11, 12, 13, 14, 15, 16, 17, 18, 19, 20, 21, 22, 23, 24, 25, 26, 27, 28, 29] (by decide +kernel) (by decide +kernel)
set_option maxRecDepth 20000 in
theorem gX0_rivalsShadedBy_X0_towersShading : GoodIn wsX0_rivalsShadedBy (wsV RX0 81 RX0 yX0_towersShading wsX0_towersShading) := goodIn_app (goodIn_of _ (by decide +kernel)) ggX0_rivalsShadedBy_X0_towersShading
theorem dX0_rivalsShadedBy_0 : decode cX0_rivalsShadedBy 0 = .ok (.iconst 0, 1) := by decide +kernel
theorem dX0_rivalsShadedBy_1 : decode cX0_rivalsShadedBy 1 = .ok (.istore_n 2, 1) := by decide +kernel
theorem dX0_rivalsShadedBy_2 : decode cX0_rivalsShadedBy 2 = .ok (.iconst 0, 1) := by decide +kernel
theorem dX0_rivalsShadedBy_3 : decode cX0_rivalsShadedBy 3 = .ok (.istore_n 3, 1) := by decide +kernel
theorem dX0_rivalsShadedBy_4 : decode cX0_rivalsShadedBy 4 = .ok (.iload_n 3, 1) := by decide +kernel
theorem dX0_rivalsShadedBy_5 : decode cX0_rivalsShadedBy 5 = .ok (.bipush 36, 2) := by decide +kernel
theorem dX0_rivalsShadedBy_7 : decode cX0_rivalsShadedBy 7 = .ok (.if_icmp .ge 33, 3) := by decide +kernel
theorem dX0_rivalsShadedBy_10 : decode cX0_rivalsShadedBy 10 = .ok (.aload_n 0, 1) := by decide +kernel
theorem dX0_rivalsShadedBy_11 : decode cX0_rivalsShadedBy 11 = .ok (.getfield 15, 3) := by decide +kernel
theorem dX0_rivalsShadedBy_14 : decode cX0_rivalsShadedBy 14 = .ok (.iload_n 3, 1) := by decide +kernel
theorem dX0_rivalsShadedBy_15 : decode cX0_rivalsShadedBy 15 = .ok (.iaload, 1) := by decide +kernel
theorem dX0_rivalsShadedBy_16 : decode cX0_rivalsShadedBy 16 = .ok (.iconst 1, 1) := by decide +kernel
theorem dX0_rivalsShadedBy_17 : decode cX0_rivalsShadedBy 17 = .ok (.iload_n 1, 1) := by decide +kernel
theorem dX0_rivalsShadedBy_18 : decode cX0_rivalsShadedBy 18 = .ok (.isub, 1) := by decide +kernel
theorem dX0_rivalsShadedBy_19 : decode cX0_rivalsShadedBy 19 = .ok (.if_icmp .ne 15, 3) := by decide +kernel
theorem dX0_rivalsShadedBy_22 : decode cX0_rivalsShadedBy 22 = .ok (.aload_n 0, 1) := by decide +kernel
theorem dX0_rivalsShadedBy_23 : decode cX0_rivalsShadedBy 23 = .ok (.iload_n 3, 1) := by decide +kernel
theorem dX0_rivalsShadedBy_24 : decode cX0_rivalsShadedBy 24 = .ok (.iload_n 1, 1) := by decide +kernel
theorem dX0_rivalsShadedBy_25 : decode cX0_rivalsShadedBy 25 = .ok (.invokevirtual 81, 3) := by decide +kernel
theorem dX0_rivalsShadedBy_28 : decode cX0_rivalsShadedBy 28 = .ok (.ifCond .le 6, 3) := by decide +kernel
theorem dX0_rivalsShadedBy_31 : decode cX0_rivalsShadedBy 31 = .ok (.iinc 2 1, 3) := by decide +kernel
theorem dX0_rivalsShadedBy_34 : decode cX0_rivalsShadedBy 34 = .ok (.iinc 3 1, 3) := by decide +kernel
theorem dX0_rivalsShadedBy_37 : decode cX0_rivalsShadedBy 37 = .ok (.goto (-33), 3) := by decide +kernel
theorem dX0_rivalsShadedBy_40 : decode cX0_rivalsShadedBy 40 = .ok (.iload_n 2, 1) := by decide +kernel
theorem dX0_rivalsShadedBy_41 : decode cX0_rivalsShadedBy 41 = .ok (.ireturn, 1) := by decide +kernel
theorem dX0_crowdsTogether_0 : decode cX0_crowdsTogether 0 = .ok (.iconst 0, 1) := by decide +kernel
theorem dX0_crowdsTogether_1 : decode cX0_crowdsTogether 1 = .ok (.istore_n 1, 1) := by decide +kernel
theorem dX0_crowdsTogether_2 : decode cX0_crowdsTogether 2 = .ok (.iconst 0, 1) := by decide +kernel
theorem dX0_crowdsTogether_3 : decode cX0_crowdsTogether 3 = .ok (.istore_n 2, 1) := by decide +kernel
theorem dX0_crowdsTogether_4 : decode cX0_crowdsTogether 4 = .ok (.iload_n 2, 1) := by decide +kernel
theorem dX0_crowdsTogether_5 : decode cX0_crowdsTogether 5 = .ok (.bipush 36, 2) := by decide +kernel
theorem dX0_crowdsTogether_7 : decode cX0_crowdsTogether 7 = .ok (.if_icmp .ge 18, 3) := by decide +kernel
theorem dX0_crowdsTogether_10 : decode cX0_crowdsTogether 10 = .ok (.iload_n 1, 1) := by decide +kernel
theorem dX0_crowdsTogether_11 : decode cX0_crowdsTogether 11 = .ok (.aload_n 0, 1) := by decide +kernel
theorem dX0_crowdsTogether_12 : decode cX0_crowdsTogether 12 = .ok (.getfield 18, 3) := by decide +kernel
theorem dX0_crowdsTogether_15 : decode cX0_crowdsTogether 15 = .ok (.iload_n 2, 1) := by decide +kernel
theorem dX0_crowdsTogether_16 : decode cX0_crowdsTogether 16 = .ok (.iaload, 1) := by decide +kernel
theorem dX0_crowdsTogether_17 : decode cX0_crowdsTogether 17 = .ok (.iadd, 1) := by decide +kernel
theorem dX0_crowdsTogether_18 : decode cX0_crowdsTogether 18 = .ok (.istore_n 1, 1) := by decide +kernel
theorem dX0_crowdsTogether_19 : decode cX0_crowdsTogether 19 = .ok (.iinc 2 1, 3) := by decide +kernel
theorem dX0_crowdsTogether_22 : decode cX0_crowdsTogether 22 = .ok (.goto (-18), 3) := by decide +kernel
theorem dX0_crowdsTogether_25 : decode cX0_crowdsTogether 25 = .ok (.iload_n 1, 1) := by decide +kernel
theorem dX0_crowdsTogether_26 : decode cX0_crowdsTogether 26 = .ok (.ireturn, 1) := by decide +kernel
theorem dX1_init_0 : decode cX1_init 0 = .ok (.aload_n 0, 1) := by decide +kernel
theorem dX1_init_1 : decode cX1_init 1 = .ok (.invokespecial 3, 3) := by decide +kernel
theorem dX1_init_4 : decode cX1_init 4 = .ok (.aload_n 0, 1) := by decide +kernel
theorem dX1_init_5 : decode cX1_init 5 = .ok (.bipush 60, 2) := by decide +kernel
theorem dX1_init_7 : decode cX1_init 7 = .ok (.newarray .int, 2) := by decide +kernel
theorem dX1_init_9 : decode cX1_init 9 = .ok (.putfield 11, 3) := by decide +kernel
theorem dX1_init_12 : decode cX1_init 12 = .ok (.return_, 1) := by decide +kernel
theorem dX1_isFull_0 : decode cX1_isFull 0 = .ok (.aload_n 0, 1) := by decide +kernel
theorem dX1_isFull_1 : decode cX1_isFull 1 = .ok (.getfield 15, 3) := by decide +kernel
theorem dX1_isFull_4 : decode cX1_isFull 4 = .ok (.bipush 60, 2) := by decide +kernel
theorem dX1_isFull_6 : decode cX1_isFull 6 = .ok (.if_icmp .lt 7, 3) := by decide +kernel
theorem dX1_isFull_9 : decode cX1_isFull 9 = .ok (.iconst 1, 1) := by decide +kernel
theorem dX1_isFull_10 : decode cX1_isFull 10 = .ok (.goto 4, 3) := by decide +kernel
theorem dX1_isFull_13 : decode cX1_isFull 13 = .ok (.iconst 0, 1) := by decide +kernel
theorem dX1_isFull_14 : decode cX1_isFull 14 = .ok (.ireturn, 1) := by decide +kernel
theorem dX1_add_0 : decode cX1_add 0 = .ok (.aload_n 0, 1) := by decide +kernel
theorem dX1_add_1 : decode cX1_add 1 = .ok (.getfield 11, 3) := by decide +kernel
theorem dX1_add_4 : decode cX1_add 4 = .ok (.aload_n 0, 1) := by decide +kernel
theorem dX1_add_5 : decode cX1_add 5 = .ok (.getfield 15, 3) := by decide +kernel
theorem dX1_add_8 : decode cX1_add 8 = .ok (.iload_n 1, 1) := by decide +kernel
theorem dX1_add_9 : decode cX1_add 9 = .ok (.iastore, 1) := by decide +kernel
theorem dX1_add_10 : decode cX1_add 10 = .ok (.aload_n 0, 1) := by decide +kernel
theorem dX1_add_11 : decode cX1_add 11 = .ok (.dup, 1) := by decide +kernel
theorem dX1_add_12 : decode cX1_add 12 = .ok (.getfield 15, 3) := by decide +kernel
theorem dX1_add_15 : decode cX1_add 15 = .ok (.iconst 1, 1) := by decide +kernel
theorem dX1_add_16 : decode cX1_add 16 = .ok (.iadd, 1) := by decide +kernel
theorem dX1_add_17 : decode cX1_add 17 = .ok (.putfield 15, 3) := by decide +kernel
theorem dX1_add_20 : decode cX1_add 20 = .ok (.return_, 1) := by decide +kernel
set_option maxRecDepth 20000 in
theorem ggX1_errorIndex_X1_fits : GoodIn wsX1_errorIndex wsX1_fits := goodIn_r _ [6, 7, 8, 9, 5, 10, 11, 12] (by decide +kernel) (by decide +kernel)
set_option maxRecDepth 20000 in
theorem gX1_errorIndex_X1_fits : GoodIn wsX1_errorIndex (wsV RX1 19 RX1 yX1_fits wsX1_fits) := goodIn_app (goodIn_of _ (by decide +kernel)) ggX1_errorIndex_X1_fits
theorem dX1_errorIndex_0 : decode cX1_errorIndex 0 = .ok (.iconst 0, 1) := by decide +kernel
theorem dX1_errorIndex_1 : decode cX1_errorIndex 1 = .ok (.istore_n 1, 1) := by decide +kernel
theorem dX1_errorIndex_2 : decode cX1_errorIndex 2 = .ok (.iload_n 1, 1) := by decide +kernel
theorem dX1_errorIndex_3 : decode cX1_errorIndex 3 = .ok (.aload_n 0, 1) := by decide +kernel
theorem dX1_errorIndex_4 : decode cX1_errorIndex 4 = .ok (.getfield 15, 3) := by decide +kernel
theorem dX1_errorIndex_7 : decode cX1_errorIndex 7 = .ok (.if_icmp .ge 19, 3) := by decide +kernel
theorem dX1_errorIndex_10 : decode cX1_errorIndex 10 = .ok (.aload_n 0, 1) := by decide +kernel
theorem dX1_errorIndex_11 : decode cX1_errorIndex 11 = .ok (.iload_n 1, 1) := by decide +kernel
theorem dX1_errorIndex_12 : decode cX1_errorIndex 12 = .ok (.invokevirtual 19, 3) := by decide +kernel
theorem dX1_errorIndex_15 : decode cX1_errorIndex 15 = .ok (.ifCond .ne 5, 3) := by decide +kernel
theorem dX1_errorIndex_18 : decode cX1_errorIndex 18 = .ok (.iload_n 1, 1) := by decide +kernel
theorem dX1_errorIndex_19 : decode cX1_errorIndex 19 = .ok (.ireturn, 1) := by decide +kernel
theorem dX1_errorIndex_20 : decode cX1_errorIndex 20 = .ok (.iinc 1 1, 3) := by decide +kernel
theorem dX1_errorIndex_23 : decode cX1_errorIndex 23 = .ok (.goto (-21), 3) := by decide +kernel
theorem dX1_errorIndex_26 : decode cX1_errorIndex 26 = .ok (.aload_n 0, 1) := by decide +kernel
theorem dX1_errorIndex_27 : decode cX1_errorIndex 27 = .ok (.getfield 15, 3) := by decide +kernel
theorem dX1_errorIndex_30 : decode cX1_errorIndex 30 = .ok (.ireturn, 1) := by decide +kernel
set_option maxRecDepth 20000 in
theorem ggX1_isWhole_X1_errorIndex : GoodIn wsX1_isWhole wsX1_errorIndex := goodIn_r _ [6, 1, 7, 8, 9, 5, 10, 11, 12, 13, 14, 15, 16] (by decide +kernel) (by decide +kernel)
set_option maxRecDepth 20000 in
theorem gX1_isWhole_X1_errorIndex : GoodIn wsX1_isWhole (wsV RX1 23 RX1 yX1_errorIndex wsX1_errorIndex) := goodIn_app (goodIn_of _ (by decide +kernel)) ggX1_isWhole_X1_errorIndex
theorem dX1_isWhole_0 : decode cX1_isWhole 0 = .ok (.aload_n 0, 1) := by decide +kernel
theorem dX1_isWhole_1 : decode cX1_isWhole 1 = .ok (.getfield 15, 3) := by decide +kernel
theorem dX1_isWhole_4 : decode cX1_isWhole 4 = .ok (.iconst 5, 1) := by decide +kernel
theorem dX1_isWhole_5 : decode cX1_isWhole 5 = .ok (.irem, 1) := by decide +kernel
theorem dX1_isWhole_6 : decode cX1_isWhole 6 = .ok (.iconst 4, 1) := by decide +kernel
theorem dX1_isWhole_7 : decode cX1_isWhole 7 = .ok (.if_icmp .ne 18, 3) := by decide +kernel
theorem dX1_isWhole_10 : decode cX1_isWhole 10 = .ok (.aload_n 0, 1) := by decide +kernel
theorem dX1_isWhole_11 : decode cX1_isWhole 11 = .ok (.invokevirtual 23, 3) := by decide +kernel
theorem dX1_isWhole_14 : decode cX1_isWhole 14 = .ok (.aload_n 0, 1) := by decide +kernel
theorem dX1_isWhole_15 : decode cX1_isWhole 15 = .ok (.getfield 15, 3) := by decide +kernel
theorem dX1_isWhole_18 : decode cX1_isWhole 18 = .ok (.if_icmp .ne 7, 3) := by decide +kernel
theorem dX1_isWhole_21 : decode cX1_isWhole 21 = .ok (.iconst 1, 1) := by decide +kernel
theorem dX1_isWhole_22 : decode cX1_isWhole 22 = .ok (.goto 4, 3) := by decide +kernel
theorem dX1_isWhole_25 : decode cX1_isWhole 25 = .ok (.iconst 0, 1) := by decide +kernel
theorem dX1_isWhole_26 : decode cX1_isWhole 26 = .ok (.ireturn, 1) := by decide +kernel
theorem dX1_entries_0 : decode cX1_entries 0 = .ok (.aload_n 0, 1) := by decide +kernel
theorem dX1_entries_1 : decode cX1_entries 1 = .ok (.getfield 15, 3) := by decide +kernel
theorem dX1_entries_4 : decode cX1_entries 4 = .ok (.iconst 1, 1) := by decide +kernel
theorem dX1_entries_5 : decode cX1_entries 5 = .ok (.iadd, 1) := by decide +kernel
theorem dX1_entries_6 : decode cX1_entries 6 = .ok (.iconst 5, 1) := by decide +kernel
theorem dX1_entries_7 : decode cX1_entries 7 = .ok (.idiv, 1) := by decide +kernel
theorem dX1_entries_8 : decode cX1_entries 8 = .ok (.ireturn, 1) := by decide +kernel
theorem dX1_square_0 : decode cX1_square 0 = .ok (.iload_n 1, 1) := by decide +kernel
theorem dX1_square_1 : decode cX1_square 1 = .ok (.iconst 5, 1) := by decide +kernel
theorem dX1_square_2 : decode cX1_square 2 = .ok (.imul, 1) := by decide +kernel
theorem dX1_square_3 : decode cX1_square 3 = .ok (.istore_n 2, 1) := by decide +kernel
theorem dX1_square_4 : decode cX1_square 4 = .ok (.aload_n 0, 1) := by decide +kernel
theorem dX1_square_5 : decode cX1_square 5 = .ok (.getfield 11, 3) := by decide +kernel
theorem dX1_square_8 : decode cX1_square 8 = .ok (.iload_n 2, 1) := by decide +kernel
theorem dX1_square_9 : decode cX1_square 9 = .ok (.iaload, 1) := by decide +kernel
theorem dX1_square_10 : decode cX1_square 10 = .ok (.bipush 97, 2) := by decide +kernel
theorem dX1_square_12 : decode cX1_square 12 = .ok (.isub, 1) := by decide +kernel
theorem dX1_square_13 : decode cX1_square 13 = .ok (.bipush 6, 2) := by decide +kernel
theorem dX1_square_15 : decode cX1_square 15 = .ok (.imul, 1) := by decide +kernel
theorem dX1_square_16 : decode cX1_square 16 = .ok (.aload_n 0, 1) := by decide +kernel
theorem dX1_square_17 : decode cX1_square 17 = .ok (.getfield 11, 3) := by decide +kernel
theorem dX1_square_20 : decode cX1_square 20 = .ok (.iload_n 2, 1) := by decide +kernel
theorem dX1_square_21 : decode cX1_square 21 = .ok (.iconst 1, 1) := by decide +kernel
theorem dX1_square_22 : decode cX1_square 22 = .ok (.iadd, 1) := by decide +kernel
theorem dX1_square_23 : decode cX1_square 23 = .ok (.iaload, 1) := by decide +kernel
theorem dX1_square_24 : decode cX1_square 24 = .ok (.iadd, 1) := by decide +kernel
theorem dX1_square_25 : decode cX1_square 25 = .ok (.bipush 49, 2) := by decide +kernel
theorem dX1_square_27 : decode cX1_square 27 = .ok (.isub, 1) := by decide +kernel
theorem dX1_square_28 : decode cX1_square 28 = .ok (.ireturn, 1) := by decide +kernel
theorem dX1_mark_0 : decode cX1_mark 0 = .ok (.aload_n 0, 1) := by decide +kernel
theorem dX1_mark_1 : decode cX1_mark 1 = .ok (.getfield 11, 3) := by decide +kernel
theorem dX1_mark_4 : decode cX1_mark 4 = .ok (.iload_n 1, 1) := by decide +kernel
theorem dX1_mark_5 : decode cX1_mark 5 = .ok (.iconst 5, 1) := by decide +kernel
theorem dX1_mark_6 : decode cX1_mark 6 = .ok (.imul, 1) := by decide +kernel
theorem dX1_mark_7 : decode cX1_mark 7 = .ok (.iconst 2, 1) := by decide +kernel
theorem dX1_mark_8 : decode cX1_mark 8 = .ok (.iadd, 1) := by decide +kernel
theorem dX1_mark_9 : decode cX1_mark 9 = .ok (.iaload, 1) := by decide +kernel
theorem dX1_mark_10 : decode cX1_mark 10 = .ok (.ireturn, 1) := by decide +kernel
theorem dX1_number_0 : decode cX1_number 0 = .ok (.aload_n 0, 1) := by decide +kernel
theorem dX1_number_1 : decode cX1_number 1 = .ok (.getfield 11, 3) := by decide +kernel
theorem dX1_number_4 : decode cX1_number 4 = .ok (.iload_n 1, 1) := by decide +kernel
theorem dX1_number_5 : decode cX1_number 5 = .ok (.iconst 5, 1) := by decide +kernel
theorem dX1_number_6 : decode cX1_number 6 = .ok (.imul, 1) := by decide +kernel
theorem dX1_number_7 : decode cX1_number 7 = .ok (.iconst 3, 1) := by decide +kernel
theorem dX1_number_8 : decode cX1_number 8 = .ok (.iadd, 1) := by decide +kernel
theorem dX1_number_9 : decode cX1_number 9 = .ok (.iaload, 1) := by decide +kernel
theorem dX1_number_10 : decode cX1_number 10 = .ok (.bipush 48, 2) := by decide +kernel
theorem dX1_number_12 : decode cX1_number 12 = .ok (.isub, 1) := by decide +kernel
theorem dX1_number_13 : decode cX1_number 13 = .ok (.ireturn, 1) := by decide +kernel
set_option maxRecDepth 20000 in
theorem ggX1_fits_X1_leastDigit : GoodIn wsX1_fits wsX1_leastDigit := goodIn_r _ [5] (by decide +kernel) (by decide +kernel)
set_option maxRecDepth 20000 in
theorem gX1_fits_X1_leastDigit : GoodIn wsX1_fits (va_wsS RX1 27 yX1_leastDigit wsX1_leastDigit) := goodIn_app (goodIn_of _ (by decide +kernel)) ggX1_fits_X1_leastDigit
theorem dX1_fits_0 : decode cX1_fits 0 = .ok (.aload_n 0, 1) := by decide +kernel
theorem dX1_fits_1 : decode cX1_fits 1 = .ok (.getfield 11, 3) := by decide +kernel
theorem dX1_fits_4 : decode cX1_fits 4 = .ok (.iload_n 1, 1) := by decide +kernel
theorem dX1_fits_5 : decode cX1_fits 5 = .ok (.iaload, 1) := by decide +kernel
theorem dX1_fits_6 : decode cX1_fits 6 = .ok (.istore_n 2, 1) := by decide +kernel
theorem dX1_fits_7 : decode cX1_fits 7 = .ok (.iload_n 1, 1) := by decide +kernel
theorem dX1_fits_8 : decode cX1_fits 8 = .ok (.iconst 5, 1) := by decide +kernel
theorem dX1_fits_9 : decode cX1_fits 9 = .ok (.irem, 1) := by decide +kernel
theorem dX1_fits_10 : decode cX1_fits 10 = .ok (.tableswitch 117 0 3 #[30, 48, 66, 90], 30) := by decide +kernel
theorem dX1_fits_40 : decode cX1_fits 40 = .ok (.iload_n 2, 1) := by decide +kernel
theorem dX1_fits_41 : decode cX1_fits 41 = .ok (.bipush 97, 2) := by decide +kernel
theorem dX1_fits_43 : decode cX1_fits 43 = .ok (.if_icmp .lt 13, 3) := by decide +kernel
theorem dX1_fits_46 : decode cX1_fits 46 = .ok (.iload_n 2, 1) := by decide +kernel
theorem dX1_fits_47 : decode cX1_fits 47 = .ok (.bipush 102, 2) := by decide +kernel
theorem dX1_fits_49 : decode cX1_fits 49 = .ok (.if_icmp .gt 7, 3) := by decide +kernel
theorem dX1_fits_52 : decode cX1_fits 52 = .ok (.iconst 1, 1) := by decide +kernel
theorem dX1_fits_53 : decode cX1_fits 53 = .ok (.goto 4, 3) := by decide +kernel
theorem dX1_fits_56 : decode cX1_fits 56 = .ok (.iconst 0, 1) := by decide +kernel
theorem dX1_fits_57 : decode cX1_fits 57 = .ok (.ireturn, 1) := by decide +kernel
theorem dX1_fits_58 : decode cX1_fits 58 = .ok (.iload_n 2, 1) := by decide +kernel
theorem dX1_fits_59 : decode cX1_fits 59 = .ok (.bipush 49, 2) := by decide +kernel
theorem dX1_fits_61 : decode cX1_fits 61 = .ok (.if_icmp .lt 13, 3) := by decide +kernel
theorem dX1_fits_64 : decode cX1_fits 64 = .ok (.iload_n 2, 1) := by decide +kernel
theorem dX1_fits_65 : decode cX1_fits 65 = .ok (.bipush 54, 2) := by decide +kernel
theorem dX1_fits_67 : decode cX1_fits 67 = .ok (.if_icmp .gt 7, 3) := by decide +kernel
theorem dX1_fits_70 : decode cX1_fits 70 = .ok (.iconst 1, 1) := by decide +kernel
theorem dX1_fits_71 : decode cX1_fits 71 = .ok (.goto 4, 3) := by decide +kernel
theorem dX1_fits_74 : decode cX1_fits 74 = .ok (.iconst 0, 1) := by decide +kernel
theorem dX1_fits_75 : decode cX1_fits 75 = .ok (.ireturn, 1) := by decide +kernel
theorem dX1_fits_76 : decode cX1_fits 76 = .ok (.iload_n 2, 1) := by decide +kernel
theorem dX1_fits_77 : decode cX1_fits 77 = .ok (.bipush 43, 2) := by decide +kernel
theorem dX1_fits_79 : decode cX1_fits 79 = .ok (.if_icmp .eq 15, 3) := by decide +kernel
theorem dX1_fits_82 : decode cX1_fits 82 = .ok (.iload_n 2, 1) := by decide +kernel
theorem dX1_fits_83 : decode cX1_fits 83 = .ok (.bipush 45, 2) := by decide +kernel
theorem dX1_fits_85 : decode cX1_fits 85 = .ok (.if_icmp .eq 9, 3) := by decide +kernel
theorem dX1_fits_88 : decode cX1_fits 88 = .ok (.iload_n 2, 1) := by decide +kernel
theorem dX1_fits_89 : decode cX1_fits 89 = .ok (.bipush 61, 2) := by decide +kernel
theorem dX1_fits_91 : decode cX1_fits 91 = .ok (.if_icmp .ne 7, 3) := by decide +kernel
theorem dX1_fits_94 : decode cX1_fits 94 = .ok (.iconst 1, 1) := by decide +kernel
theorem dX1_fits_95 : decode cX1_fits 95 = .ok (.goto 4, 3) := by decide +kernel
theorem dX1_fits_98 : decode cX1_fits 98 = .ok (.iconst 0, 1) := by decide +kernel
theorem dX1_fits_99 : decode cX1_fits 99 = .ok (.ireturn, 1) := by decide +kernel
theorem dX1_fits_100 : decode cX1_fits 100 = .ok (.iload_n 2, 1) := by decide +kernel
theorem dX1_fits_101 : decode cX1_fits 101 = .ok (.aload_n 0, 1) := by decide +kernel
theorem dX1_fits_102 : decode cX1_fits 102 = .ok (.getfield 11, 3) := by decide +kernel
theorem dX1_fits_105 : decode cX1_fits 105 = .ok (.iload_n 1, 1) := by decide +kernel
theorem dX1_fits_106 : decode cX1_fits 106 = .ok (.iconst 1, 1) := by decide +kernel
theorem dX1_fits_107 : decode cX1_fits 107 = .ok (.isub, 1) := by decide +kernel
theorem dX1_fits_108 : decode cX1_fits 108 = .ok (.iaload, 1) := by decide +kernel
theorem dX1_fits_109 : decode cX1_fits 109 = .ok (.invokestatic 27, 3) := by decide +kernel
theorem dX1_fits_112 : decode cX1_fits 112 = .ok (.if_icmp .lt 13, 3) := by decide +kernel
theorem dX1_fits_115 : decode cX1_fits 115 = .ok (.iload_n 2, 1) := by decide +kernel
theorem dX1_fits_116 : decode cX1_fits 116 = .ok (.bipush 57, 2) := by decide +kernel
theorem dX1_fits_118 : decode cX1_fits 118 = .ok (.if_icmp .gt 7, 3) := by decide +kernel
theorem dX1_fits_121 : decode cX1_fits 121 = .ok (.iconst 1, 1) := by decide +kernel
theorem dX1_fits_122 : decode cX1_fits 122 = .ok (.goto 4, 3) := by decide +kernel
theorem dX1_fits_125 : decode cX1_fits 125 = .ok (.iconst 0, 1) := by decide +kernel
theorem dX1_fits_126 : decode cX1_fits 126 = .ok (.ireturn, 1) := by decide +kernel
theorem dX1_fits_127 : decode cX1_fits 127 = .ok (.iload_n 2, 1) := by decide +kernel
theorem dX1_fits_128 : decode cX1_fits 128 = .ok (.bipush 59, 2) := by decide +kernel
theorem dX1_fits_130 : decode cX1_fits 130 = .ok (.if_icmp .ne 7, 3) := by decide +kernel
theorem dX1_fits_133 : decode cX1_fits 133 = .ok (.iconst 1, 1) := by decide +kernel
theorem dX1_fits_134 : decode cX1_fits 134 = .ok (.goto 4, 3) := by decide +kernel
theorem dX1_fits_137 : decode cX1_fits 137 = .ok (.iconst 0, 1) := by decide +kernel
theorem dX1_fits_138 : decode cX1_fits 138 = .ok (.ireturn, 1) := by decide +kernel
theorem dX1_leastDigit_0 : decode cX1_leastDigit 0 = .ok (.iload_n 0, 1) := by decide +kernel
theorem dX1_leastDigit_1 : decode cX1_leastDigit 1 = .ok (.bipush 61, 2) := by decide +kernel
theorem dX1_leastDigit_3 : decode cX1_leastDigit 3 = .ok (.if_icmp .ne 8, 3) := by decide +kernel
theorem dX1_leastDigit_6 : decode cX1_leastDigit 6 = .ok (.bipush 48, 2) := by decide +kernel
theorem dX1_leastDigit_8 : decode cX1_leastDigit 8 = .ok (.goto 5, 3) := by decide +kernel
theorem dX1_leastDigit_11 : decode cX1_leastDigit 11 = .ok (.bipush 49, 2) := by decide +kernel
theorem dX1_leastDigit_13 : decode cX1_leastDigit 13 = .ok (.ireturn, 1) := by decide +kernel
theorem dX2_init_0 : decode cX2_init 0 = .ok (.aload_n 0, 1) := by decide +kernel
theorem dX2_init_1 : decode cX2_init 1 = .ok (.invokespecial 1, 3) := by decide +kernel
theorem dX2_init_4 : decode cX2_init 4 = .ok (.aload_n 0, 1) := by decide +kernel
theorem dX2_init_5 : decode cX2_init 5 = .ok (.sipush 684, 3) := by decide +kernel
theorem dX2_init_8 : decode cX2_init 8 = .ok (.newarray .int, 2) := by decide +kernel
theorem dX2_init_10 : decode cX2_init 10 = .ok (.putfield 11, 3) := by decide +kernel
theorem dX2_init_13 : decode cX2_init 13 = .ok (.return_, 1) := by decide +kernel
set_option maxRecDepth 20000 in
theorem ggX2_push_X2_place : GoodIn wsX2_push wsX2_place := goodIn_r _ [8, 3, 26, 27, 28] (by decide +kernel) (by decide +kernel)
set_option maxRecDepth 20000 in
theorem gX2_push_X2_place : GoodIn wsX2_push (wsV RX2 19 RX2 yX2_place wsX2_place) := goodIn_app (goodIn_of _ (by decide +kernel)) ggX2_push_X2_place
set_option maxRecDepth 20000 in
theorem ggX2_push_X0_writeTo : GoodIn wsX2_push wsX0_writeTo := goodIn_r _ [13, 14, 15, 16, 17, 18, 19, 20, 21, 22, 23, 24, 25, 29, 30, 31, 32, 33, 34, 35, 36] (by decide +kernel) (by decide +kernel)
set_option maxRecDepth 20000 in
theorem gX2_push_X0_writeTo : GoodIn wsX2_push (wsV RX2 23 RX0 yX0_writeTo wsX0_writeTo) := goodIn_app (goodIn_of _ (by decide +kernel)) ggX2_push_X0_writeTo
theorem dX2_push_0 : decode cX2_push 0 = .ok (.aload_n 1, 1) := by decide +kernel
theorem dX2_push_1 : decode cX2_push 1 = .ok (.aload_n 0, 1) := by decide +kernel
theorem dX2_push_2 : decode cX2_push 2 = .ok (.getfield 11, 3) := by decide +kernel
theorem dX2_push_5 : decode cX2_push 5 = .ok (.aload_n 0, 1) := by decide +kernel
theorem dX2_push_6 : decode cX2_push 6 = .ok (.aload_n 0, 1) := by decide +kernel
theorem dX2_push_7 : decode cX2_push 7 = .ok (.getfield 15, 3) := by decide +kernel
theorem dX2_push_10 : decode cX2_push 10 = .ok (.invokevirtual 19, 3) := by decide +kernel
theorem dX2_push_13 : decode cX2_push 13 = .ok (.invokevirtual 23, 3) := by decide +kernel
theorem dX2_push_16 : decode cX2_push 16 = .ok (.aload_n 0, 1) := by decide +kernel
theorem dX2_push_17 : decode cX2_push 17 = .ok (.getfield 15, 3) := by decide +kernel
theorem dX2_push_20 : decode cX2_push 20 = .ok (.bipush 6, 2) := by decide +kernel
theorem dX2_push_22 : decode cX2_push 22 = .ok (.if_icmp .ge 16, 3) := by decide +kernel
theorem dX2_push_25 : decode cX2_push 25 = .ok (.aload_n 0, 1) := by decide +kernel
theorem dX2_push_26 : decode cX2_push 26 = .ok (.dup, 1) := by decide +kernel
theorem dX2_push_27 : decode cX2_push 27 = .ok (.getfield 15, 3) := by decide +kernel
theorem dX2_push_30 : decode cX2_push 30 = .ok (.iconst 1, 1) := by decide +kernel
theorem dX2_push_31 : decode cX2_push 31 = .ok (.iadd, 1) := by decide +kernel
theorem dX2_push_32 : decode cX2_push 32 = .ok (.putfield 15, 3) := by decide +kernel
theorem dX2_push_35 : decode cX2_push 35 = .ok (.goto 16, 3) := by decide +kernel
theorem dX2_push_38 : decode cX2_push 38 = .ok (.aload_n 0, 1) := by decide +kernel
theorem dX2_push_39 : decode cX2_push 39 = .ok (.aload_n 0, 1) := by decide +kernel
theorem dX2_push_40 : decode cX2_push 40 = .ok (.getfield 27, 3) := by decide +kernel
theorem dX2_push_43 : decode cX2_push 43 = .ok (.iconst 1, 1) := by decide +kernel
theorem dX2_push_44 : decode cX2_push 44 = .ok (.iadd, 1) := by decide +kernel
theorem dX2_push_45 : decode cX2_push 45 = .ok (.bipush 6, 2) := by decide +kernel
theorem dX2_push_47 : decode cX2_push 47 = .ok (.irem, 1) := by decide +kernel
theorem dX2_push_48 : decode cX2_push 48 = .ok (.putfield 27, 3) := by decide +kernel
theorem dX2_push_51 : decode cX2_push 51 = .ok (.return_, 1) := by decide +kernel
theorem dX2_place_0 : decode cX2_place 0 = .ok (.aload_n 0, 1) := by decide +kernel
theorem dX2_place_1 : decode cX2_place 1 = .ok (.getfield 27, 3) := by decide +kernel
theorem dX2_place_4 : decode cX2_place 4 = .ok (.iload_n 1, 1) := by decide +kernel
theorem dX2_place_5 : decode cX2_place 5 = .ok (.iadd, 1) := by decide +kernel
theorem dX2_place_6 : decode cX2_place 6 = .ok (.bipush 6, 2) := by decide +kernel
theorem dX2_place_8 : decode cX2_place 8 = .ok (.irem, 1) := by decide +kernel
theorem dX2_place_9 : decode cX2_place 9 = .ok (.bipush 114, 2) := by decide +kernel
theorem dX2_place_11 : decode cX2_place 11 = .ok (.imul, 1) := by decide +kernel
theorem dX2_place_12 : decode cX2_place 12 = .ok (.ireturn, 1) := by decide +kernel
theorem dX3_side_0 : decode cX3_side 0 = .ok (.iload_n 0, 1) := by decide +kernel
theorem dX3_side_1 : decode cX3_side 1 = .ok (.iconst 3, 1) := by decide +kernel
theorem dX3_side_2 : decode cX3_side 2 = .ok (.idiv, 1) := by decide +kernel
theorem dX3_side_3 : decode cX3_side 3 = .ok (.ireturn, 1) := by decide +kernel
theorem dX3_steepness_0 : decode cX3_steepness 0 = .ok (.iload_n 0, 1) := by decide +kernel
theorem dX3_steepness_1 : decode cX3_steepness 1 = .ok (.iconst 3, 1) := by decide +kernel
theorem dX3_steepness_2 : decode cX3_steepness 2 = .ok (.irem, 1) := by decide +kernel
theorem dX3_steepness_3 : decode cX3_steepness 3 = .ok (.lookupswitch 29 #[(0, 25), (1, 27)], 25) := by decide +kernel
theorem dX3_steepness_28 : decode cX3_steepness 28 = .ok (.iconst 1, 1) := by decide +kernel
theorem dX3_steepness_29 : decode cX3_steepness 29 = .ok (.ireturn, 1) := by decide +kernel
theorem dX3_steepness_30 : decode cX3_steepness 30 = .ok (.iconst 3, 1) := by decide +kernel
theorem dX3_steepness_31 : decode cX3_steepness 31 = .ok (.ireturn, 1) := by decide +kernel
theorem dX3_steepness_32 : decode cX3_steepness 32 = .ok (.iconst 2, 1) := by decide +kernel
theorem dX3_steepness_33 : decode cX3_steepness 33 = .ok (.ireturn, 1) := by decide +kernel
theorem dX3_stepTowardSun_0 : decode cX3_stepTowardSun 0 = .ok (.iload_n 0, 1) := by decide +kernel
theorem dX3_stepTowardSun_1 : decode cX3_stepTowardSun 1 = .ok (.tableswitch 34 0 2 #[27, 29, 32], 27) := by decide +kernel
theorem dX3_stepTowardSun_28 : decode cX3_stepTowardSun 28 = .ok (.iconst 1, 1) := by decide +kernel
theorem dX3_stepTowardSun_29 : decode cX3_stepTowardSun 29 = .ok (.ireturn, 1) := by decide +kernel
theorem dX3_stepTowardSun_30 : decode cX3_stepTowardSun 30 = .ok (.bipush 6, 2) := by decide +kernel
theorem dX3_stepTowardSun_32 : decode cX3_stepTowardSun 32 = .ok (.ireturn, 1) := by decide +kernel
theorem dX3_stepTowardSun_33 : decode cX3_stepTowardSun 33 = .ok (.iconst (-1), 1) := by decide +kernel
theorem dX3_stepTowardSun_34 : decode cX3_stepTowardSun 34 = .ok (.ireturn, 1) := by decide +kernel
theorem dX3_stepTowardSun_35 : decode cX3_stepTowardSun 35 = .ok (.bipush (-6), 2) := by decide +kernel
theorem dX3_stepTowardSun_37 : decode cX3_stepTowardSun 37 = .ok (.ireturn, 1) := by decide +kernel
theorem dX3_squaresTowardSun_0 : decode cX3_squaresTowardSun 0 = .ok (.iload_n 0, 1) := by decide +kernel
theorem dX3_squaresTowardSun_1 : decode cX3_squaresTowardSun 1 = .ok (.tableswitch 46 0 2 #[27, 34, 41], 27) := by decide +kernel
theorem dX3_squaresTowardSun_28 : decode cX3_squaresTowardSun 28 = .ok (.iconst 5, 1) := by decide +kernel
theorem dX3_squaresTowardSun_29 : decode cX3_squaresTowardSun 29 = .ok (.iload_n 1, 1) := by decide +kernel
theorem dX3_squaresTowardSun_30 : decode cX3_squaresTowardSun 30 = .ok (.bipush 6, 2) := by decide +kernel
theorem dX3_squaresTowardSun_32 : decode cX3_squaresTowardSun 32 = .ok (.irem, 1) := by decide +kernel
theorem dX3_squaresTowardSun_33 : decode cX3_squaresTowardSun 33 = .ok (.isub, 1) := by decide +kernel
theorem dX3_squaresTowardSun_34 : decode cX3_squaresTowardSun 34 = .ok (.ireturn, 1) := by decide +kernel
theorem dX3_squaresTowardSun_35 : decode cX3_squaresTowardSun 35 = .ok (.iconst 5, 1) := by decide +kernel
theorem dX3_squaresTowardSun_36 : decode cX3_squaresTowardSun 36 = .ok (.iload_n 1, 1) := by decide +kernel
theorem dX3_squaresTowardSun_37 : decode cX3_squaresTowardSun 37 = .ok (.bipush 6, 2) := by decide +kernel
theorem dX3_squaresTowardSun_39 : decode cX3_squaresTowardSun 39 = .ok (.idiv, 1) := by decide +kernel
theorem dX3_squaresTowardSun_40 : decode cX3_squaresTowardSun 40 = .ok (.isub, 1) := by decide +kernel
theorem dX3_squaresTowardSun_41 : decode cX3_squaresTowardSun 41 = .ok (.ireturn, 1) := by decide +kernel
theorem dX3_squaresTowardSun_42 : decode cX3_squaresTowardSun 42 = .ok (.iload_n 1, 1) := by decide +kernel
theorem dX3_squaresTowardSun_43 : decode cX3_squaresTowardSun 43 = .ok (.bipush 6, 2) := by decide +kernel
theorem dX3_squaresTowardSun_45 : decode cX3_squaresTowardSun 45 = .ok (.irem, 1) := by decide +kernel
theorem dX3_squaresTowardSun_46 : decode cX3_squaresTowardSun 46 = .ok (.ireturn, 1) := by decide +kernel
theorem dX3_squaresTowardSun_47 : decode cX3_squaresTowardSun 47 = .ok (.iload_n 1, 1) := by decide +kernel
theorem dX3_squaresTowardSun_48 : decode cX3_squaresTowardSun 48 = .ok (.bipush 6, 2) := by decide +kernel
theorem dX3_squaresTowardSun_50 : decode cX3_squaresTowardSun 50 = .ok (.idiv, 1) := by decide +kernel
theorem dX3_squaresTowardSun_51 : decode cX3_squaresTowardSun 51 = .ok (.ireturn, 1) := by decide +kernel
set_option maxRecDepth 20000 in
theorem ggX3_distanceTowardSun_X3_stepTowardSun : GoodIn wsX3_distanceTowardSun wsX3_stepTowardSun := goodIn_r _ [4] (by decide +kernel) (by decide +kernel)
set_option maxRecDepth 20000 in
theorem gX3_distanceTowardSun_X3_stepTowardSun : GoodIn wsX3_distanceTowardSun (va_wsS RX3 9 yX3_stepTowardSun wsX3_stepTowardSun) := goodIn_app (goodIn_of _ (by decide +kernel)) ggX3_distanceTowardSun_X3_stepTowardSun
set_option maxRecDepth 20000 in
theorem ggX3_distanceTowardSun_X3_squaresTowardSun : GoodIn wsX3_distanceTowardSun wsX3_squaresTowardSun := goodIn_r _ [7] (by decide +kernel) (by decide +kernel)
set_option maxRecDepth 20000 in
theorem gX3_distanceTowardSun_X3_squaresTowardSun : GoodIn wsX3_distanceTowardSun (va_wsS RX3 15 yX3_squaresTowardSun wsX3_squaresTowardSun) := goodIn_app (goodIn_of _ (by decide +kernel)) ggX3_distanceTowardSun_X3_squaresTowardSun
theorem dX3_distanceTowardSun_0 : decode cX3_distanceTowardSun 0 = .ok (.iload_n 0, 1) := by decide +kernel
theorem dX3_distanceTowardSun_1 : decode cX3_distanceTowardSun 1 = .ok (.invokestatic 9, 3) := by decide +kernel
theorem dX3_distanceTowardSun_4 : decode cX3_distanceTowardSun 4 = .ok (.istore_n 3, 1) := by decide +kernel
theorem dX3_distanceTowardSun_5 : decode cX3_distanceTowardSun 5 = .ok (.iload_n 0, 1) := by decide +kernel
theorem dX3_distanceTowardSun_6 : decode cX3_distanceTowardSun 6 = .ok (.iload_n 1, 1) := by decide +kernel
theorem dX3_distanceTowardSun_7 : decode cX3_distanceTowardSun 7 = .ok (.invokestatic 15, 3) := by decide +kernel
theorem dX3_distanceTowardSun_10 : decode cX3_distanceTowardSun 10 = .ok (.istore 4, 2) := by decide +kernel
theorem dX3_distanceTowardSun_12 : decode cX3_distanceTowardSun 12 = .ok (.iconst 1, 1) := by decide +kernel
theorem dX3_distanceTowardSun_13 : decode cX3_distanceTowardSun 13 = .ok (.istore 5, 2) := by decide +kernel
theorem dX3_distanceTowardSun_15 : decode cX3_distanceTowardSun 15 = .ok (.iload 5, 2) := by decide +kernel
theorem dX3_distanceTowardSun_17 : decode cX3_distanceTowardSun 17 = .ok (.iload 4, 2) := by decide +kernel
theorem dX3_distanceTowardSun_19 : decode cX3_distanceTowardSun 19 = .ok (.if_icmp .gt 22, 3) := by decide +kernel
theorem dX3_distanceTowardSun_22 : decode cX3_distanceTowardSun 22 = .ok (.iload_n 1, 1) := by decide +kernel
theorem dX3_distanceTowardSun_23 : decode cX3_distanceTowardSun 23 = .ok (.iload 5, 2) := by decide +kernel
theorem dX3_distanceTowardSun_25 : decode cX3_distanceTowardSun 25 = .ok (.iload_n 3, 1) := by decide +kernel
theorem dX3_distanceTowardSun_26 : decode cX3_distanceTowardSun 26 = .ok (.imul, 1) := by decide +kernel
theorem dX3_distanceTowardSun_27 : decode cX3_distanceTowardSun 27 = .ok (.iadd, 1) := by decide +kernel
theorem dX3_distanceTowardSun_28 : decode cX3_distanceTowardSun 28 = .ok (.iload_n 2, 1) := by decide +kernel
theorem dX3_distanceTowardSun_29 : decode cX3_distanceTowardSun 29 = .ok (.if_icmp .ne 6, 3) := by decide +kernel
theorem dX3_distanceTowardSun_32 : decode cX3_distanceTowardSun 32 = .ok (.iload 5, 2) := by decide +kernel
theorem dX3_distanceTowardSun_34 : decode cX3_distanceTowardSun 34 = .ok (.ireturn, 1) := by decide +kernel
theorem dX3_distanceTowardSun_35 : decode cX3_distanceTowardSun 35 = .ok (.iinc 5 1, 3) := by decide +kernel
theorem dX3_distanceTowardSun_38 : decode cX3_distanceTowardSun 38 = .ok (.goto (-23), 3) := by decide +kernel
theorem dX3_distanceTowardSun_41 : decode cX3_distanceTowardSun 41 = .ok (.iconst 0, 1) := by decide +kernel
theorem dX3_distanceTowardSun_42 : decode cX3_distanceTowardSun 42 = .ok (.ireturn, 1) := by decide +kernel
set_option maxRecDepth 20000 in
theorem ggX4_init_X0_init : GoodIn wsX4_init wsX0_init := goodIn_r _ [22, 23, 2, 3, 16, 24, 25, 26, 27, 36, 37, 38, 39, 40, 41, 42, 43] (by decide +kernel) (by decide +kernel)
set_option maxRecDepth 20000 in
theorem gX4_init_X0_init : GoodIn wsX4_init (wsX0_init) := ggX4_init_X0_init
set_option maxRecDepth 20000 in
theorem ggX4_init_X1_init : GoodIn wsX4_init wsX1_init := goodIn_r _ [29, 30, 2, 3, 16, 31, 49, 50] (by decide +kernel) (by decide +kernel)
set_option maxRecDepth 20000 in
theorem gX4_init_X1_init_n18 : GoodIn wsX4_init (wsX1_init) := ggX4_init_X1_init
set_option maxRecDepth 20000 in
theorem ggX4_init_X2_init : GoodIn wsX4_init wsX2_init := goodIn_r _ [33, 34, 2, 3, 16, 35, 51, 52, 53] (by decide +kernel) (by decide +kernel)
set_option maxRecDepth 20000 in
theorem gX4_init_X2_init_n25 : GoodIn wsX4_init (wsX2_init) := ggX4_init_X2_init
theorem dX4_init_0 : decode cX4_init 0 = .ok (.aload_n 0, 1) := by decide +kernel
theorem dX4_init_1 : decode cX4_init 1 = .ok (.invokespecial 1, 3) := by decide +kernel
theorem dX4_init_4 : decode cX4_init 4 = .ok (.aload_n 0, 1) := by decide +kernel
theorem dX4_init_5 : decode cX4_init 5 = .ok (.new 7, 3) := by decide +kernel
theorem dX4_init_8 : decode cX4_init 8 = .ok (.dup, 1) := by decide +kernel
theorem dX4_init_9 : decode cX4_init 9 = .ok (.invokespecial 9, 3) := by decide +kernel
theorem dX4_init_12 : decode cX4_init 12 = .ok (.putfield 10, 3) := by decide +kernel
theorem dX4_init_15 : decode cX4_init 15 = .ok (.aload_n 0, 1) := by decide +kernel
theorem dX4_init_16 : decode cX4_init 16 = .ok (.new 16, 3) := by decide +kernel
theorem dX4_init_19 : decode cX4_init 19 = .ok (.dup, 1) := by decide +kernel
theorem dX4_init_20 : decode cX4_init 20 = .ok (.invokespecial 18, 3) := by decide +kernel
theorem dX4_init_23 : decode cX4_init 23 = .ok (.putfield 19, 3) := by decide +kernel
theorem dX4_init_26 : decode cX4_init 26 = .ok (.aload_n 0, 1) := by decide +kernel
theorem dX4_init_27 : decode cX4_init 27 = .ok (.new 23, 3) := by decide +kernel
theorem dX4_init_30 : decode cX4_init 30 = .ok (.dup, 1) := by decide +kernel
theorem dX4_init_31 : decode cX4_init 31 = .ok (.invokespecial 25, 3) := by decide +kernel
theorem dX4_init_34 : decode cX4_init 34 = .ok (.putfield 26, 3) := by decide +kernel
theorem dX4_init_37 : decode cX4_init 37 = .ok (.aload_n 0, 1) := by decide +kernel
theorem dX4_init_38 : decode cX4_init 38 = .ok (.sipush 228, 3) := by decide +kernel
theorem dX4_init_41 : decode cX4_init 41 = .ok (.newarray .int, 2) := by decide +kernel
theorem dX4_init_43 : decode cX4_init 43 = .ok (.putfield 30, 3) := by decide +kernel
theorem dX4_init_46 : decode cX4_init 46 = .ok (.aload_n 0, 1) := by decide +kernel
theorem dX4_init_47 : decode cX4_init 47 = .ok (.iconst 2, 1) := by decide +kernel
theorem dX4_init_48 : decode cX4_init 48 = .ok (.newarray .boolean, 2) := by decide +kernel
theorem dX4_init_50 : decode cX4_init 50 = .ok (.putfield 34, 3) := by decide +kernel
theorem dX4_init_53 : decode cX4_init 53 = .ok (.return_, 1) := by decide +kernel
set_option maxRecDepth 20000 in
theorem ggX4_raise_X4_isSquare : GoodIn wsX4_raise wsX4_isSquare := goodIn_r _ [8] (by decide +kernel) (by decide +kernel)
set_option maxRecDepth 20000 in
theorem gX4_raise_X4_isSquare : GoodIn wsX4_raise (va_wsS RX4 38 yX4_isSquare wsX4_isSquare) := goodIn_app (goodIn_of _ (by decide +kernel)) ggX4_raise_X4_isSquare
set_option maxRecDepth 20000 in
theorem ggX4_raise_X2_push : GoodIn wsX4_raise wsX2_push := goodIn_r _ [13, 14, 15, 16, 17, 18, 19, 12, 20, 21, 22, 23, 24, 25, 26, 27, 28, 29, 30, 31, 32, 33, 34, 35, 36, 37, 84, 85, 86, 76, 77, 78, 79, 80, 81, 82, 83] (by decide +kernel) (by decide +kernel)
set_option maxRecDepth 20000 in
theorem gX4_raise_X2_push : GoodIn wsX4_raise (wsV RX4 49 RX2 yX2_push wsX2_push) := goodIn_app (goodIn_of _ (by decide +kernel)) ggX4_raise_X2_push
set_option maxRecDepth 20000 in
theorem ggX4_raise_X0_refusalReason : GoodIn wsX4_raise wsX0_refusalReason := goodIn_r _ [41, 31, 35, 26, 34, 42, 43, 44, 24, 45, 46, 47, 48, 49, 50, 51, 52, 53, 54, 55, 56, 57, 58, 76, 77, 78, 79, 80, 81, 82, 83] (by decide +kernel) (by decide +kernel)
set_option maxRecDepth 20000 in
theorem gX4_raise_X0_refusalReason : GoodIn wsX4_raise (wsV RX4 53 RX0 yX0_refusalReason wsX0_refusalReason) := goodIn_app (goodIn_of _ (by decide +kernel)) ggX4_raise_X0_refusalReason
set_option maxRecDepth 20000 in
theorem ggX4_raise_X0_putTower : GoodIn wsX4_raise wsX0_putTower := goodIn_r _ [62, 31, 26, 76, 77, 78, 79, 80, 81, 82, 83] (by decide +kernel) (by decide +kernel)
set_option maxRecDepth 20000 in
theorem gX4_raise_X0_putTower : GoodIn wsX4_raise (wsV RX4 67 RX0 yX0_putTower wsX0_putTower) := goodIn_app (goodIn_of _ (by decide +kernel)) ggX4_raise_X0_putTower
set_option maxRecDepth 20000 in
theorem ggX4_raise_X0_endTurn : GoodIn wsX4_raise wsX0_endTurn := goodIn_r _ [66, 33, 34, 35, 36, 67, 68, 69, 24, 70, 31, 32, 42, 43, 44, 45, 26, 46, 47, 48, 49, 50, 51, 52, 53, 54, 55, 56, 57, 58, 76, 77, 78, 79, 80, 81, 82, 83] (by decide +kernel) (by decide +kernel)
set_option maxRecDepth 20000 in
theorem gX4_raise_X0_endTurn : GoodIn wsX4_raise (wsV RX4 71 RX0 yX0_endTurn wsX0_endTurn) := goodIn_app (goodIn_of _ (by decide +kernel)) ggX4_raise_X0_endTurn
theorem dX4_raise_0 : decode cX4_raise 0 = .ok (.iload_n 1, 1) := by decide +kernel
theorem dX4_raise_1 : decode cX4_raise 1 = .ok (.invokestatic 38, 3) := by decide +kernel
theorem dX4_raise_4 : decode cX4_raise 4 = .ok (.ifCond .ne 13, 3) := by decide +kernel
theorem dX4_raise_7 : decode cX4_raise 7 = .ok (.new 42, 3) := by decide +kernel
theorem dX4_raise_10 : decode cX4_raise 10 = .ok (.dup, 1) := by decide +kernel
theorem dX4_raise_11 : decode cX4_raise 11 = .ok (.ldc 44, 2) := by decide +kernel
theorem dX4_raise_13 : decode cX4_raise 13 = .ok (.invokespecial 46, 3) := by decide +kernel
theorem dX4_raise_16 : decode cX4_raise 16 = .ok (.athrow, 1) := by decide +kernel
theorem dX4_raise_17 : decode cX4_raise 17 = .ok (.aload_n 0, 1) := by decide +kernel
theorem dX4_raise_18 : decode cX4_raise 18 = .ok (.getfield 26, 3) := by decide +kernel
theorem dX4_raise_21 : decode cX4_raise 21 = .ok (.aload_n 0, 1) := by decide +kernel
theorem dX4_raise_22 : decode cX4_raise 22 = .ok (.getfield 10, 3) := by decide +kernel
theorem dX4_raise_25 : decode cX4_raise 25 = .ok (.invokevirtual 49, 3) := by decide +kernel
theorem dX4_raise_28 : decode cX4_raise 28 = .ok (.aload_n 0, 1) := by decide +kernel
theorem dX4_raise_29 : decode cX4_raise 29 = .ok (.getfield 10, 3) := by decide +kernel
theorem dX4_raise_32 : decode cX4_raise 32 = .ok (.iload_n 1, 1) := by decide +kernel
theorem dX4_raise_33 : decode cX4_raise 33 = .ok (.invokevirtual 53, 3) := by decide +kernel
theorem dX4_raise_36 : decode cX4_raise 36 = .ok (.istore_n 2, 1) := by decide +kernel
theorem dX4_raise_37 : decode cX4_raise 37 = .ok (.iload_n 2, 1) := by decide +kernel
theorem dX4_raise_38 : decode cX4_raise 38 = .ok (.ifCond .eq 18, 3) := by decide +kernel
theorem dX4_raise_41 : decode cX4_raise 41 = .ok (.aload_n 0, 1) := by decide +kernel
theorem dX4_raise_42 : decode cX4_raise 42 = .ok (.getfield 10, 3) := by decide +kernel
theorem dX4_raise_45 : decode cX4_raise 45 = .ok (.dup, 1) := by decide +kernel
theorem dX4_raise_46 : decode cX4_raise 46 = .ok (.getfield 57, 3) := by decide +kernel
theorem dX4_raise_49 : decode cX4_raise 49 = .ok (.iconst 1, 1) := by decide +kernel
theorem dX4_raise_50 : decode cX4_raise 50 = .ok (.iadd, 1) := by decide +kernel
theorem dX4_raise_51 : decode cX4_raise 51 = .ok (.putfield 57, 3) := by decide +kernel
theorem dX4_raise_54 : decode cX4_raise 54 = .ok (.iload_n 2, 1) := by decide +kernel
theorem dX4_raise_55 : decode cX4_raise 55 = .ok (.ireturn, 1) := by decide +kernel
theorem dX4_raise_56 : decode cX4_raise 56 = .ok (.aload_n 0, 1) := by decide +kernel
theorem dX4_raise_57 : decode cX4_raise 57 = .ok (.getfield 10, 3) := by decide +kernel
theorem dX4_raise_60 : decode cX4_raise 60 = .ok (.iload_n 1, 1) := by decide +kernel
theorem dX4_raise_61 : decode cX4_raise 61 = .ok (.aload_n 0, 1) := by decide +kernel
theorem dX4_raise_62 : decode cX4_raise 62 = .ok (.getfield 10, 3) := by decide +kernel
theorem dX4_raise_65 : decode cX4_raise 65 = .ok (.getfield 61, 3) := by decide +kernel
theorem dX4_raise_68 : decode cX4_raise 68 = .ok (.aload_n 0, 1) := by decide +kernel
theorem dX4_raise_69 : decode cX4_raise 69 = .ok (.getfield 10, 3) := by decide +kernel
theorem dX4_raise_72 : decode cX4_raise 72 = .ok (.getfield 64, 3) := by decide +kernel
theorem dX4_raise_75 : decode cX4_raise 75 = .ok (.iload_n 1, 1) := by decide +kernel
theorem dX4_raise_76 : decode cX4_raise 76 = .ok (.iaload, 1) := by decide +kernel
theorem dX4_raise_77 : decode cX4_raise 77 = .ok (.iconst 1, 1) := by decide +kernel
theorem dX4_raise_78 : decode cX4_raise 78 = .ok (.iadd, 1) := by decide +kernel
theorem dX4_raise_79 : decode cX4_raise 79 = .ok (.invokevirtual 67, 3) := by decide +kernel
theorem dX4_raise_82 : decode cX4_raise 82 = .ok (.aload_n 0, 1) := by decide +kernel
theorem dX4_raise_83 : decode cX4_raise 83 = .ok (.getfield 10, 3) := by decide +kernel
theorem dX4_raise_86 : decode cX4_raise 86 = .ok (.invokevirtual 71, 3) := by decide +kernel
theorem dX4_raise_89 : decode cX4_raise 89 = .ok (.bipush 10, 2) := by decide +kernel
theorem dX4_raise_91 : decode cX4_raise 91 = .ok (.aload_n 0, 1) := by decide +kernel
theorem dX4_raise_92 : decode cX4_raise 92 = .ok (.getfield 10, 3) := by decide +kernel
theorem dX4_raise_95 : decode cX4_raise 95 = .ok (.getfield 64, 3) := by decide +kernel
theorem dX4_raise_98 : decode cX4_raise 98 = .ok (.iload_n 1, 1) := by decide +kernel
theorem dX4_raise_99 : decode cX4_raise 99 = .ok (.iaload, 1) := by decide +kernel
theorem dX4_raise_100 : decode cX4_raise 100 = .ok (.iadd, 1) := by decide +kernel
theorem dX4_raise_101 : decode cX4_raise 101 = .ok (.ireturn, 1) := by decide +kernel
set_option maxRecDepth 20000 in
theorem ggX4_rest_X2_push : GoodIn wsX4_rest wsX2_push := goodIn_r _ [7, 8, 9, 10, 11, 12, 13, 6, 14, 15, 16, 17, 18, 19, 20, 21, 22, 23, 24, 25, 26, 27, 28, 29, 30, 31, 71, 72, 73, 63, 64, 65, 66, 67, 68, 69, 70] (by decide +kernel) (by decide +kernel)
set_option maxRecDepth 20000 in
theorem gX4_rest_X2_push : GoodIn wsX4_rest (wsV RX4 49 RX2 yX2_push wsX2_push) := goodIn_app (goodIn_of _ (by decide +kernel)) ggX4_rest_X2_push
set_option maxRecDepth 20000 in
theorem ggX4_rest_X0_payNow : GoodIn wsX4_rest wsX0_payNow := goodIn_r _ [35, 25, 28, 26, 36, 37, 38, 18, 39, 20, 40, 41, 42, 43, 44, 45, 46, 47, 48, 49, 50, 51, 52, 63, 64, 65, 66, 67, 68, 69, 70] (by decide +kernel) (by decide +kernel)
set_option maxRecDepth 20000 in
theorem gX4_rest_X0_payNow : GoodIn wsX4_rest (wsV RX4 74 RX0 yX0_payNow wsX0_payNow) := goodIn_app (goodIn_of _ (by decide +kernel)) ggX4_rest_X0_payNow
set_option maxRecDepth 20000 in
theorem ggX4_rest_X0_endTurn : GoodIn wsX4_rest wsX0_endTurn := goodIn_r _ [56, 27, 28, 29, 30, 57, 33, 34, 18, 35, 25, 26, 36, 37, 38, 39, 20, 40, 41, 42, 43, 44, 45, 46, 47, 48, 49, 50, 51, 52, 63, 64, 65, 66, 67, 68, 69, 70] (by decide +kernel) (by decide +kernel)
set_option maxRecDepth 20000 in
theorem gX4_rest_X0_endTurn : GoodIn wsX4_rest (wsV RX4 71 RX0 yX0_endTurn wsX0_endTurn) := goodIn_app (goodIn_of _ (by decide +kernel)) ggX4_rest_X0_endTurn
theorem dX4_rest_0 : decode cX4_rest 0 = .ok (.aload_n 0, 1) := by decide +kernel
theorem dX4_rest_1 : decode cX4_rest 1 = .ok (.getfield 26, 3) := by decide +kernel
theorem dX4_rest_4 : decode cX4_rest 4 = .ok (.aload_n 0, 1) := by decide +kernel
theorem dX4_rest_5 : decode cX4_rest 5 = .ok (.getfield 10, 3) := by decide +kernel
theorem dX4_rest_8 : decode cX4_rest 8 = .ok (.invokevirtual 49, 3) := by decide +kernel
theorem dX4_rest_11 : decode cX4_rest 11 = .ok (.aload_n 0, 1) := by decide +kernel
theorem dX4_rest_12 : decode cX4_rest 12 = .ok (.getfield 10, 3) := by decide +kernel
theorem dX4_rest_15 : decode cX4_rest 15 = .ok (.aload_n 0, 1) := by decide +kernel
theorem dX4_rest_16 : decode cX4_rest 16 = .ok (.getfield 10, 3) := by decide +kernel
theorem dX4_rest_19 : decode cX4_rest 19 = .ok (.getfield 61, 3) := by decide +kernel
theorem dX4_rest_22 : decode cX4_rest 22 = .ok (.invokevirtual 74, 3) := by decide +kernel
theorem dX4_rest_25 : decode cX4_rest 25 = .ok (.istore_n 1, 1) := by decide +kernel
theorem dX4_rest_26 : decode cX4_rest 26 = .ok (.aload_n 0, 1) := by decide +kernel
theorem dX4_rest_27 : decode cX4_rest 27 = .ok (.getfield 10, 3) := by decide +kernel
theorem dX4_rest_30 : decode cX4_rest 30 = .ok (.invokevirtual 71, 3) := by decide +kernel
theorem dX4_rest_33 : decode cX4_rest 33 = .ok (.iload_n 1, 1) := by decide +kernel
theorem dX4_rest_34 : decode cX4_rest 34 = .ok (.ireturn, 1) := by decide +kernel
set_option maxRecDepth 20000 in
theorem ggX4_crowd_X4_isSquare : GoodIn wsX4_crowd wsX4_isSquare := goodIn_r _ [10] (by decide +kernel) (by decide +kernel)
set_option maxRecDepth 20000 in
theorem gX4_crowd_X4_isSquare : GoodIn wsX4_crowd (va_wsS RX4 38 yX4_isSquare wsX4_isSquare) := goodIn_app (goodIn_of _ (by decide +kernel)) ggX4_crowd_X4_isSquare
set_option maxRecDepth 20000 in
theorem ggX4_crowd_X2_push : GoodIn wsX4_crowd wsX2_push := goodIn_r _ [15, 16, 17, 18, 19, 20, 21, 14, 22, 23, 24, 25, 26, 27, 28, 29, 30, 31, 32, 33, 34, 35, 36, 37, 38, 39, 53, 54, 55, 45, 46, 47, 48, 49, 50, 51, 52] (by decide +kernel) (by decide +kernel)
set_option maxRecDepth 20000 in
theorem gX4_crowd_X2_push : GoodIn wsX4_crowd (wsV RX4 49 RX2 yX2_push wsX2_push) := goodIn_app (goodIn_of _ (by decide +kernel)) ggX4_crowd_X2_push
theorem dX4_crowd_0 : decode cX4_crowd 0 = .ok (.iload_n 1, 1) := by decide +kernel
theorem dX4_crowd_1 : decode cX4_crowd 1 = .ok (.invokestatic 38, 3) := by decide +kernel
theorem dX4_crowd_4 : decode cX4_crowd 4 = .ok (.ifCond .ne 13, 3) := by decide +kernel
theorem dX4_crowd_7 : decode cX4_crowd 7 = .ok (.new 42, 3) := by decide +kernel
theorem dX4_crowd_10 : decode cX4_crowd 10 = .ok (.dup, 1) := by decide +kernel
theorem dX4_crowd_11 : decode cX4_crowd 11 = .ok (.ldc 44, 2) := by decide +kernel
theorem dX4_crowd_13 : decode cX4_crowd 13 = .ok (.invokespecial 46, 3) := by decide +kernel
theorem dX4_crowd_16 : decode cX4_crowd 16 = .ok (.athrow, 1) := by decide +kernel
theorem dX4_crowd_17 : decode cX4_crowd 17 = .ok (.iload_n 2, 1) := by decide +kernel
theorem dX4_crowd_18 : decode cX4_crowd 18 = .ok (.ifCond .lt 9, 3) := by decide +kernel
theorem dX4_crowd_21 : decode cX4_crowd 21 = .ok (.iload_n 2, 1) := by decide +kernel
theorem dX4_crowd_22 : decode cX4_crowd 22 = .ok (.bipush 9, 2) := by decide +kernel
theorem dX4_crowd_24 : decode cX4_crowd 24 = .ok (.if_icmp .le 13, 3) := by decide +kernel
theorem dX4_crowd_27 : decode cX4_crowd 27 = .ok (.new 77, 3) := by decide +kernel
theorem dX4_crowd_30 : decode cX4_crowd 30 = .ok (.dup, 1) := by decide +kernel
theorem dX4_crowd_31 : decode cX4_crowd 31 = .ok (.ldc 79, 2) := by decide +kernel
theorem dX4_crowd_33 : decode cX4_crowd 33 = .ok (.invokespecial 81, 3) := by decide +kernel
theorem dX4_crowd_36 : decode cX4_crowd 36 = .ok (.athrow, 1) := by decide +kernel
theorem dX4_crowd_37 : decode cX4_crowd 37 = .ok (.aload_n 0, 1) := by decide +kernel
theorem dX4_crowd_38 : decode cX4_crowd 38 = .ok (.getfield 26, 3) := by decide +kernel
theorem dX4_crowd_41 : decode cX4_crowd 41 = .ok (.aload_n 0, 1) := by decide +kernel
theorem dX4_crowd_42 : decode cX4_crowd 42 = .ok (.getfield 10, 3) := by decide +kernel
theorem dX4_crowd_45 : decode cX4_crowd 45 = .ok (.invokevirtual 49, 3) := by decide +kernel
theorem dX4_crowd_48 : decode cX4_crowd 48 = .ok (.aload_n 0, 1) := by decide +kernel
theorem dX4_crowd_49 : decode cX4_crowd 49 = .ok (.getfield 10, 3) := by decide +kernel
theorem dX4_crowd_52 : decode cX4_crowd 52 = .ok (.getfield 82, 3) := by decide +kernel
theorem dX4_crowd_55 : decode cX4_crowd 55 = .ok (.iload_n 1, 1) := by decide +kernel
theorem dX4_crowd_56 : decode cX4_crowd 56 = .ok (.iaload, 1) := by decide +kernel
theorem dX4_crowd_57 : decode cX4_crowd 57 = .ok (.istore_n 3, 1) := by decide +kernel
theorem dX4_crowd_58 : decode cX4_crowd 58 = .ok (.aload_n 0, 1) := by decide +kernel
theorem dX4_crowd_59 : decode cX4_crowd 59 = .ok (.getfield 10, 3) := by decide +kernel
theorem dX4_crowd_62 : decode cX4_crowd 62 = .ok (.getfield 82, 3) := by decide +kernel
theorem dX4_crowd_65 : decode cX4_crowd 65 = .ok (.iload_n 1, 1) := by decide +kernel
theorem dX4_crowd_66 : decode cX4_crowd 66 = .ok (.iload_n 2, 1) := by decide +kernel
theorem dX4_crowd_67 : decode cX4_crowd 67 = .ok (.iastore, 1) := by decide +kernel
theorem dX4_crowd_68 : decode cX4_crowd 68 = .ok (.iload_n 3, 1) := by decide +kernel
theorem dX4_crowd_69 : decode cX4_crowd 69 = .ok (.ireturn, 1) := by decide +kernel
set_option maxRecDepth 20000 in
theorem ggX4_tear_X4_isSquare : GoodIn wsX4_tear wsX4_isSquare := goodIn_r _ [8] (by decide +kernel) (by decide +kernel)
set_option maxRecDepth 20000 in
theorem gX4_tear_X4_isSquare : GoodIn wsX4_tear (va_wsS RX4 38 yX4_isSquare wsX4_isSquare) := goodIn_app (goodIn_of _ (by decide +kernel)) ggX4_tear_X4_isSquare
set_option maxRecDepth 20000 in
theorem ggX4_tear_X2_push : GoodIn wsX4_tear wsX2_push := goodIn_r _ [13, 14, 15, 16, 17, 18, 19, 12, 20, 21, 22, 23, 24, 25, 26, 27, 28, 29, 30, 31, 32, 33, 34, 35, 36, 37, 55, 56, 57, 47, 48, 49, 50, 51, 52, 53, 54] (by decide +kernel) (by decide +kernel)
set_option maxRecDepth 20000 in
theorem gX4_tear_X2_push : GoodIn wsX4_tear (wsV RX4 49 RX2 yX2_push wsX2_push) := goodIn_app (goodIn_of _ (by decide +kernel)) ggX4_tear_X2_push
set_option maxRecDepth 20000 in
theorem ggX4_tear_X0_putTower : GoodIn wsX4_tear wsX0_putTower := goodIn_r _ [41, 31, 26, 47, 48, 49, 50, 51, 52, 53, 54] (by decide +kernel) (by decide +kernel)
set_option maxRecDepth 20000 in
theorem gX4_tear_X0_putTower : GoodIn wsX4_tear (wsV RX4 67 RX0 yX0_putTower wsX0_putTower) := goodIn_app (goodIn_of _ (by decide +kernel)) ggX4_tear_X0_putTower
theorem dX4_tear_0 : decode cX4_tear 0 = .ok (.iload_n 1, 1) := by decide +kernel
theorem dX4_tear_1 : decode cX4_tear 1 = .ok (.invokestatic 38, 3) := by decide +kernel
theorem dX4_tear_4 : decode cX4_tear 4 = .ok (.ifCond .ne 13, 3) := by decide +kernel
theorem dX4_tear_7 : decode cX4_tear 7 = .ok (.new 42, 3) := by decide +kernel
theorem dX4_tear_10 : decode cX4_tear 10 = .ok (.dup, 1) := by decide +kernel
theorem dX4_tear_11 : decode cX4_tear 11 = .ok (.ldc 44, 2) := by decide +kernel
theorem dX4_tear_13 : decode cX4_tear 13 = .ok (.invokespecial 46, 3) := by decide +kernel
theorem dX4_tear_16 : decode cX4_tear 16 = .ok (.athrow, 1) := by decide +kernel
theorem dX4_tear_17 : decode cX4_tear 17 = .ok (.aload_n 0, 1) := by decide +kernel
theorem dX4_tear_18 : decode cX4_tear 18 = .ok (.getfield 26, 3) := by decide +kernel
theorem dX4_tear_21 : decode cX4_tear 21 = .ok (.aload_n 0, 1) := by decide +kernel
theorem dX4_tear_22 : decode cX4_tear 22 = .ok (.getfield 10, 3) := by decide +kernel
theorem dX4_tear_25 : decode cX4_tear 25 = .ok (.invokevirtual 49, 3) := by decide +kernel
theorem dX4_tear_28 : decode cX4_tear 28 = .ok (.aload_n 0, 1) := by decide +kernel
theorem dX4_tear_29 : decode cX4_tear 29 = .ok (.getfield 10, 3) := by decide +kernel
theorem dX4_tear_32 : decode cX4_tear 32 = .ok (.getfield 64, 3) := by decide +kernel
theorem dX4_tear_35 : decode cX4_tear 35 = .ok (.iload_n 1, 1) := by decide +kernel
theorem dX4_tear_36 : decode cX4_tear 36 = .ok (.iaload, 1) := by decide +kernel
theorem dX4_tear_37 : decode cX4_tear 37 = .ok (.istore_n 2, 1) := by decide +kernel
theorem dX4_tear_38 : decode cX4_tear 38 = .ok (.aload_n 0, 1) := by decide +kernel
theorem dX4_tear_39 : decode cX4_tear 39 = .ok (.getfield 10, 3) := by decide +kernel
theorem dX4_tear_42 : decode cX4_tear 42 = .ok (.iload_n 1, 1) := by decide +kernel
theorem dX4_tear_43 : decode cX4_tear 43 = .ok (.iconst (-1), 1) := by decide +kernel
theorem dX4_tear_44 : decode cX4_tear 44 = .ok (.iconst 0, 1) := by decide +kernel
theorem dX4_tear_45 : decode cX4_tear 45 = .ok (.invokevirtual 67, 3) := by decide +kernel
theorem dX4_tear_48 : decode cX4_tear 48 = .ok (.iload_n 2, 1) := by decide +kernel
theorem dX4_tear_49 : decode cX4_tear 49 = .ok (.ireturn, 1) := by decide +kernel
set_option maxRecDepth 20000 in
theorem ggX4_hour_X2_push : GoodIn wsX4_hour wsX2_push := goodIn_r _ [9, 10, 11, 12, 13, 14, 15, 8, 16, 17, 18, 19, 20, 21, 22, 23, 24, 25, 26, 27, 28, 29, 30, 31, 32, 33, 47, 48, 49, 39, 40, 41, 42, 43, 44, 45, 46] (by decide +kernel) (by decide +kernel)
set_option maxRecDepth 20000 in
theorem gX4_hour_X2_push : GoodIn wsX4_hour (wsV RX4 49 RX2 yX2_push wsX2_push) := goodIn_app (goodIn_of _ (by decide +kernel)) ggX4_hour_X2_push
theorem dX4_hour_0 : decode cX4_hour 0 = .ok (.iload_n 1, 1) := by decide +kernel
theorem dX4_hour_1 : decode cX4_hour 1 = .ok (.ifCond .lt 9, 3) := by decide +kernel
theorem dX4_hour_4 : decode cX4_hour 4 = .ok (.iload_n 1, 1) := by decide +kernel
theorem dX4_hour_5 : decode cX4_hour 5 = .ok (.bipush 12, 2) := by decide +kernel
theorem dX4_hour_7 : decode cX4_hour 7 = .ok (.if_icmp .lt 13, 3) := by decide +kernel
theorem dX4_hour_10 : decode cX4_hour 10 = .ok (.new 77, 3) := by decide +kernel
theorem dX4_hour_13 : decode cX4_hour 13 = .ok (.dup, 1) := by decide +kernel
theorem dX4_hour_14 : decode cX4_hour 14 = .ok (.ldc 85, 2) := by decide +kernel
theorem dX4_hour_16 : decode cX4_hour 16 = .ok (.invokespecial 81, 3) := by decide +kernel
theorem dX4_hour_19 : decode cX4_hour 19 = .ok (.athrow, 1) := by decide +kernel
theorem dX4_hour_20 : decode cX4_hour 20 = .ok (.aload_n 0, 1) := by decide +kernel
theorem dX4_hour_21 : decode cX4_hour 21 = .ok (.getfield 26, 3) := by decide +kernel
theorem dX4_hour_24 : decode cX4_hour 24 = .ok (.aload_n 0, 1) := by decide +kernel
theorem dX4_hour_25 : decode cX4_hour 25 = .ok (.getfield 10, 3) := by decide +kernel
theorem dX4_hour_28 : decode cX4_hour 28 = .ok (.invokevirtual 49, 3) := by decide +kernel
theorem dX4_hour_31 : decode cX4_hour 31 = .ok (.aload_n 0, 1) := by decide +kernel
theorem dX4_hour_32 : decode cX4_hour 32 = .ok (.getfield 10, 3) := by decide +kernel
theorem dX4_hour_35 : decode cX4_hour 35 = .ok (.getfield 87, 3) := by decide +kernel
theorem dX4_hour_38 : decode cX4_hour 38 = .ok (.istore_n 2, 1) := by decide +kernel
theorem dX4_hour_39 : decode cX4_hour 39 = .ok (.aload_n 0, 1) := by decide +kernel
theorem dX4_hour_40 : decode cX4_hour 40 = .ok (.getfield 10, 3) := by decide +kernel
theorem dX4_hour_43 : decode cX4_hour 43 = .ok (.iload_n 1, 1) := by decide +kernel
theorem dX4_hour_44 : decode cX4_hour 44 = .ok (.putfield 87, 3) := by decide +kernel
theorem dX4_hour_47 : decode cX4_hour 47 = .ok (.iload_n 2, 1) := by decide +kernel
theorem dX4_hour_48 : decode cX4_hour 48 = .ok (.ireturn, 1) := by decide +kernel
set_option maxRecDepth 20000 in
theorem ggX4_append_X1_isFull : GoodIn wsX4_append wsX1_isFull := goodIn_r _ [10, 11, 22, 23] (by decide +kernel) (by decide +kernel)
set_option maxRecDepth 20000 in
theorem gX4_append_X1_isFull : GoodIn wsX4_append (wsV RX4 92 RX1 yX1_isFull wsX1_isFull) := goodIn_app (goodIn_of _ (by decide +kernel)) ggX4_append_X1_isFull
set_option maxRecDepth 20000 in
theorem ggX4_append_X1_add : GoodIn wsX4_append wsX1_add := goodIn_r _ [15, 16, 11, 22, 23] (by decide +kernel) (by decide +kernel)
set_option maxRecDepth 20000 in
theorem gX4_append_X1_add : GoodIn wsX4_append (wsV RX4 101 RX1 yX1_add wsX1_add) := goodIn_app (goodIn_of _ (by decide +kernel)) ggX4_append_X1_add
theorem dX4_append_0 : decode cX4_append 0 = .ok (.iload_n 1, 1) := by decide +kernel
theorem dX4_append_1 : decode cX4_append 1 = .ok (.bipush 33, 2) := by decide +kernel
theorem dX4_append_3 : decode cX4_append 3 = .ok (.if_icmp .lt 9, 3) := by decide +kernel
theorem dX4_append_6 : decode cX4_append 6 = .ok (.iload_n 1, 1) := by decide +kernel
theorem dX4_append_7 : decode cX4_append 7 = .ok (.bipush 126, 2) := by decide +kernel
theorem dX4_append_9 : decode cX4_append 9 = .ok (.if_icmp .le 13, 3) := by decide +kernel
theorem dX4_append_12 : decode cX4_append 12 = .ok (.new 77, 3) := by decide +kernel
theorem dX4_append_15 : decode cX4_append 15 = .ok (.dup, 1) := by decide +kernel
theorem dX4_append_16 : decode cX4_append 16 = .ok (.ldc 90, 2) := by decide +kernel
theorem dX4_append_18 : decode cX4_append 18 = .ok (.invokespecial 81, 3) := by decide +kernel
theorem dX4_append_21 : decode cX4_append 21 = .ok (.athrow, 1) := by decide +kernel
theorem dX4_append_22 : decode cX4_append 22 = .ok (.aload_n 0, 1) := by decide +kernel
theorem dX4_append_23 : decode cX4_append 23 = .ok (.getfield 19, 3) := by decide +kernel
theorem dX4_append_26 : decode cX4_append 26 = .ok (.invokevirtual 92, 3) := by decide +kernel
theorem dX4_append_29 : decode cX4_append 29 = .ok (.ifCond .eq 13, 3) := by decide +kernel
theorem dX4_append_32 : decode cX4_append 32 = .ok (.new 96, 3) := by decide +kernel
theorem dX4_append_35 : decode cX4_append 35 = .ok (.dup, 1) := by decide +kernel
theorem dX4_append_36 : decode cX4_append 36 = .ok (.ldc 98, 2) := by decide +kernel
theorem dX4_append_38 : decode cX4_append 38 = .ok (.invokespecial 100, 3) := by decide +kernel
theorem dX4_append_41 : decode cX4_append 41 = .ok (.athrow, 1) := by decide +kernel
theorem dX4_append_42 : decode cX4_append 42 = .ok (.aload_n 0, 1) := by decide +kernel
theorem dX4_append_43 : decode cX4_append 43 = .ok (.getfield 19, 3) := by decide +kernel
theorem dX4_append_46 : decode cX4_append 46 = .ok (.iload_n 1, 1) := by decide +kernel
theorem dX4_append_47 : decode cX4_append 47 = .ok (.invokevirtual 101, 3) := by decide +kernel
theorem dX4_append_50 : decode cX4_append 50 = .ok (.aload_n 0, 1) := by decide +kernel
theorem dX4_append_51 : decode cX4_append 51 = .ok (.getfield 19, 3) := by decide +kernel
theorem dX4_append_54 : decode cX4_append 54 = .ok (.getfield 105, 3) := by decide +kernel
theorem dX4_append_57 : decode cX4_append 57 = .ok (.ireturn, 1) := by decide +kernel
set_option maxRecDepth 20000 in
theorem ggX4_load_X1_isWhole : GoodIn wsX4_load wsX1_isWhole := goodIn_r _ [10, 11, 12, 13, 14, 9, 15, 16, 17, 18, 19, 20, 21, 22, 23, 91, 92] (by decide +kernel) (by decide +kernel)
set_option maxRecDepth 20000 in
theorem gX4_load_X1_isWhole : GoodIn wsX4_load (wsV RX4 112 RX1 yX1_isWhole wsX1_isWhole) := goodIn_app (goodIn_of _ (by decide +kernel)) ggX4_load_X1_isWhole
set_option maxRecDepth 20000 in
theorem ggX4_load_X2_push : GoodIn wsX4_load wsX2_push := goodIn_r _ [28, 29, 30, 31, 32, 33, 34, 27, 35, 36, 37, 38, 39, 40, 41, 42, 43, 44, 45, 46, 47, 48, 49, 50, 51, 52, 93, 94, 95, 96, 97, 98, 99, 100, 101, 102, 103] (by decide +kernel) (by decide +kernel)
set_option maxRecDepth 20000 in
theorem gX4_load_X2_push : GoodIn wsX4_load (wsV RX4 49 RX2 yX2_push wsX2_push) := goodIn_app (goodIn_of _ (by decide +kernel)) ggX4_load_X2_push
set_option maxRecDepth 20000 in
theorem ggX4_load_X1_entries : GoodIn wsX4_load wsX1_entries := goodIn_r _ [56, 11, 91, 92] (by decide +kernel) (by decide +kernel)
set_option maxRecDepth 20000 in
theorem gX4_load_X1_entries : GoodIn wsX4_load (wsV RX4 117 RX1 yX1_entries wsX1_entries) := goodIn_app (goodIn_of _ (by decide +kernel)) ggX4_load_X1_entries
set_option maxRecDepth 20000 in
theorem ggX4_load_X4_putEntry : GoodIn wsX4_load wsX4_putEntry := goodIn_r _ [61, 3, 5, 62, 63, 64, 9, 65, 20, 66, 67, 68, 69, 70, 71, 72, 73, 74, 75, 76, 39, 77, 46, 41, 86, 87, 88, 89, 90, 96, 97, 98, 99, 100, 101, 102, 103, 91, 92] (by decide +kernel) (by decide +kernel)
set_option maxRecDepth 20000 in
theorem gX4_load_X4_putEntry : GoodIn wsX4_load (wsV RX4 120 RX4 yX4_putEntry wsX4_putEntry) := goodIn_app (goodIn_of _ (by decide +kernel)) ggX4_load_X4_putEntry
set_option maxRecDepth 20000 in
theorem ggX4_load_X0_towers : GoodIn wsX4_load wsX0_towers := goodIn_r _ [81, 82, 83, 84, 39, 85, 46, 96, 97, 98, 99, 100, 101, 102, 103] (by decide +kernel) (by decide +kernel)
set_option maxRecDepth 20000 in
theorem gX4_load_X0_towers : GoodIn wsX4_load (wsV RX4 123 RX0 yX0_towers wsX0_towers) := goodIn_app (goodIn_of _ (by decide +kernel)) ggX4_load_X0_towers
theorem dX4_load_0 : decode cX4_load 0 = .ok (.aload_n 0, 1) := by decide +kernel
theorem dX4_load_1 : decode cX4_load 1 = .ok (.getfield 19, 3) := by decide +kernel
theorem dX4_load_4 : decode cX4_load 4 = .ok (.invokevirtual 112, 3) := by decide +kernel
theorem dX4_load_7 : decode cX4_load 7 = .ok (.ifCond .ne 13, 3) := by decide +kernel
theorem dX4_load_10 : decode cX4_load 10 = .ok (.new 77, 3) := by decide +kernel
theorem dX4_load_13 : decode cX4_load 13 = .ok (.dup, 1) := by decide +kernel
theorem dX4_load_14 : decode cX4_load 14 = .ok (.ldc 115, 2) := by decide +kernel
theorem dX4_load_16 : decode cX4_load 16 = .ok (.invokespecial 81, 3) := by decide +kernel
theorem dX4_load_19 : decode cX4_load 19 = .ok (.athrow, 1) := by decide +kernel
theorem dX4_load_20 : decode cX4_load 20 = .ok (.aload_n 0, 1) := by decide +kernel
theorem dX4_load_21 : decode cX4_load 21 = .ok (.getfield 26, 3) := by decide +kernel
theorem dX4_load_24 : decode cX4_load 24 = .ok (.aload_n 0, 1) := by decide +kernel
theorem dX4_load_25 : decode cX4_load 25 = .ok (.getfield 10, 3) := by decide +kernel
theorem dX4_load_28 : decode cX4_load 28 = .ok (.invokevirtual 49, 3) := by decide +kernel
theorem dX4_load_31 : decode cX4_load 31 = .ok (.aload_n 0, 1) := by decide +kernel
theorem dX4_load_32 : decode cX4_load 32 = .ok (.getfield 19, 3) := by decide +kernel
theorem dX4_load_35 : decode cX4_load 35 = .ok (.invokevirtual 117, 3) := by decide +kernel
theorem dX4_load_38 : decode cX4_load 38 = .ok (.istore_n 1, 1) := by decide +kernel
theorem dX4_load_39 : decode cX4_load 39 = .ok (.iconst 0, 1) := by decide +kernel
theorem dX4_load_40 : decode cX4_load 40 = .ok (.istore_n 2, 1) := by decide +kernel
theorem dX4_load_41 : decode cX4_load 41 = .ok (.iload_n 2, 1) := by decide +kernel
theorem dX4_load_42 : decode cX4_load 42 = .ok (.iload_n 1, 1) := by decide +kernel
theorem dX4_load_43 : decode cX4_load 43 = .ok (.if_icmp .ge 14, 3) := by decide +kernel
theorem dX4_load_46 : decode cX4_load 46 = .ok (.aload_n 0, 1) := by decide +kernel
theorem dX4_load_47 : decode cX4_load 47 = .ok (.iload_n 2, 1) := by decide +kernel
theorem dX4_load_48 : decode cX4_load 48 = .ok (.invokevirtual 120, 3) := by decide +kernel
theorem dX4_load_51 : decode cX4_load 51 = .ok (.iinc 2 1, 3) := by decide +kernel
theorem dX4_load_54 : decode cX4_load 54 = .ok (.goto (-13), 3) := by decide +kernel
theorem dX4_load_57 : decode cX4_load 57 = .ok (.aload_n 0, 1) := by decide +kernel
theorem dX4_load_58 : decode cX4_load 58 = .ok (.getfield 19, 3) := by decide +kernel
theorem dX4_load_61 : decode cX4_load 61 = .ok (.iconst 0, 1) := by decide +kernel
theorem dX4_load_62 : decode cX4_load 62 = .ok (.putfield 105, 3) := by decide +kernel
theorem dX4_load_65 : decode cX4_load 65 = .ok (.aload_n 0, 1) := by decide +kernel
theorem dX4_load_66 : decode cX4_load 66 = .ok (.getfield 10, 3) := by decide +kernel
theorem dX4_load_69 : decode cX4_load 69 = .ok (.invokevirtual 123, 3) := by decide +kernel
theorem dX4_load_72 : decode cX4_load 72 = .ok (.ireturn, 1) := by decide +kernel
set_option maxRecDepth 20000 in
theorem ggX4_keep_X0_writeTo : GoodIn wsX4_keep wsX0_writeTo := goodIn_r _ [10, 11, 12, 13, 14, 15, 16, 17, 18, 19, 20, 21, 22, 36, 37, 38, 39, 40, 41, 42, 43] (by decide +kernel) (by decide +kernel)
set_option maxRecDepth 20000 in
theorem gX4_keep_X0_writeTo : GoodIn wsX4_keep (wsV RX4 128 RX0 yX0_writeTo wsX0_writeTo) := goodIn_app (goodIn_of _ (by decide +kernel)) ggX4_keep_X0_writeTo
set_option maxRecDepth 20000 in
theorem ggX4_keep_X0_towers : GoodIn wsX4_keep wsX0_towers := goodIn_r _ [26, 27, 28, 29, 9, 30, 16, 36, 37, 38, 39, 40, 41, 42, 43] (by decide +kernel) (by decide +kernel)
set_option maxRecDepth 20000 in
theorem gX4_keep_X0_towers : GoodIn wsX4_keep (wsV RX4 123 RX0 yX0_towers wsX0_towers) := goodIn_app (goodIn_of _ (by decide +kernel)) ggX4_keep_X0_towers
theorem dX4_keep_0 : decode cX4_keep 0 = .ok (.iload_n 1, 1) := by decide +kernel
theorem dX4_keep_1 : decode cX4_keep 1 = .ok (.ifCond .lt 8, 3) := by decide +kernel
theorem dX4_keep_4 : decode cX4_keep 4 = .ok (.iload_n 1, 1) := by decide +kernel
theorem dX4_keep_5 : decode cX4_keep 5 = .ok (.iconst 2, 1) := by decide +kernel
theorem dX4_keep_6 : decode cX4_keep 6 = .ok (.if_icmp .lt 13, 3) := by decide +kernel
theorem dX4_keep_9 : decode cX4_keep 9 = .ok (.new 77, 3) := by decide +kernel
theorem dX4_keep_12 : decode cX4_keep 12 = .ok (.dup, 1) := by decide +kernel
theorem dX4_keep_13 : decode cX4_keep 13 = .ok (.ldc 126, 2) := by decide +kernel
theorem dX4_keep_15 : decode cX4_keep 15 = .ok (.invokespecial 81, 3) := by decide +kernel
theorem dX4_keep_18 : decode cX4_keep 18 = .ok (.athrow, 1) := by decide +kernel
theorem dX4_keep_19 : decode cX4_keep 19 = .ok (.aload_n 0, 1) := by decide +kernel
theorem dX4_keep_20 : decode cX4_keep 20 = .ok (.getfield 10, 3) := by decide +kernel
theorem dX4_keep_23 : decode cX4_keep 23 = .ok (.aload_n 0, 1) := by decide +kernel
theorem dX4_keep_24 : decode cX4_keep 24 = .ok (.getfield 30, 3) := by decide +kernel
theorem dX4_keep_27 : decode cX4_keep 27 = .ok (.iload_n 1, 1) := by decide +kernel
theorem dX4_keep_28 : decode cX4_keep 28 = .ok (.bipush 114, 2) := by decide +kernel
theorem dX4_keep_30 : decode cX4_keep 30 = .ok (.imul, 1) := by decide +kernel
theorem dX4_keep_31 : decode cX4_keep 31 = .ok (.invokevirtual 128, 3) := by decide +kernel
theorem dX4_keep_34 : decode cX4_keep 34 = .ok (.aload_n 0, 1) := by decide +kernel
theorem dX4_keep_35 : decode cX4_keep 35 = .ok (.getfield 34, 3) := by decide +kernel
theorem dX4_keep_38 : decode cX4_keep 38 = .ok (.iload_n 1, 1) := by decide +kernel
theorem dX4_keep_39 : decode cX4_keep 39 = .ok (.iconst 1, 1) := by decide +kernel
theorem dX4_keep_40 : decode cX4_keep 40 = .ok (.bastore, 1) := by decide +kernel
theorem dX4_keep_41 : decode cX4_keep 41 = .ok (.aload_n 0, 1) := by decide +kernel
theorem dX4_keep_42 : decode cX4_keep 42 = .ok (.getfield 10, 3) := by decide +kernel
theorem dX4_keep_45 : decode cX4_keep 45 = .ok (.invokevirtual 123, 3) := by decide +kernel
theorem dX4_keep_48 : decode cX4_keep 48 = .ok (.ireturn, 1) := by decide +kernel
set_option maxRecDepth 20000 in
theorem ggX4_goBack_X2_push : GoodIn wsX4_goBack wsX2_push := goodIn_r _ [13, 14, 15, 16, 17, 18, 19, 12, 20, 21, 22, 23, 24, 25, 26, 27, 28, 29, 30, 31, 32, 33, 34, 35, 36, 37, 55, 56, 57, 58, 59, 60, 61, 62, 63, 64, 65] (by decide +kernel) (by decide +kernel)
set_option maxRecDepth 20000 in
theorem gX4_goBack_X2_push : GoodIn wsX4_goBack (wsV RX4 49 RX2 yX2_push wsX2_push) := goodIn_app (goodIn_of _ (by decide +kernel)) ggX4_goBack_X2_push
set_option maxRecDepth 20000 in
theorem ggX4_goBack_X0_readFrom : GoodIn wsX4_goBack wsX0_readFrom := goodIn_r _ [41, 26, 27, 28, 29, 30, 31, 32, 33, 34, 35, 36, 37, 58, 59, 60, 61, 62, 63, 64, 65] (by decide +kernel) (by decide +kernel)
set_option maxRecDepth 20000 in
theorem gX4_goBack_X0_readFrom : GoodIn wsX4_goBack (wsV RX4 134 RX0 yX0_readFrom wsX0_readFrom) := goodIn_app (goodIn_of _ (by decide +kernel)) ggX4_goBack_X0_readFrom
set_option maxRecDepth 20000 in
theorem ggX4_goBack_X0_towers : GoodIn wsX4_goBack wsX0_towers := goodIn_r _ [45, 46, 47, 48, 24, 49, 31, 58, 59, 60, 61, 62, 63, 64, 65] (by decide +kernel) (by decide +kernel)
set_option maxRecDepth 20000 in
theorem gX4_goBack_X0_towers : GoodIn wsX4_goBack (wsV RX4 123 RX0 yX0_towers wsX0_towers) := goodIn_app (goodIn_of _ (by decide +kernel)) ggX4_goBack_X0_towers
theorem dX4_goBack_0 : decode cX4_goBack 0 = .ok (.iload_n 1, 1) := by decide +kernel
theorem dX4_goBack_1 : decode cX4_goBack 1 = .ok (.ifCond .lt 8, 3) := by decide +kernel
theorem dX4_goBack_4 : decode cX4_goBack 4 = .ok (.iload_n 1, 1) := by decide +kernel
theorem dX4_goBack_5 : decode cX4_goBack 5 = .ok (.iconst 2, 1) := by decide +kernel
theorem dX4_goBack_6 : decode cX4_goBack 6 = .ok (.if_icmp .lt 13, 3) := by decide +kernel
theorem dX4_goBack_9 : decode cX4_goBack 9 = .ok (.new 77, 3) := by decide +kernel
theorem dX4_goBack_12 : decode cX4_goBack 12 = .ok (.dup, 1) := by decide +kernel
theorem dX4_goBack_13 : decode cX4_goBack 13 = .ok (.ldc 126, 2) := by decide +kernel
theorem dX4_goBack_15 : decode cX4_goBack 15 = .ok (.invokespecial 81, 3) := by decide +kernel
theorem dX4_goBack_18 : decode cX4_goBack 18 = .ok (.athrow, 1) := by decide +kernel
theorem dX4_goBack_19 : decode cX4_goBack 19 = .ok (.aload_n 0, 1) := by decide +kernel
theorem dX4_goBack_20 : decode cX4_goBack 20 = .ok (.getfield 34, 3) := by decide +kernel
theorem dX4_goBack_23 : decode cX4_goBack 23 = .ok (.iload_n 1, 1) := by decide +kernel
theorem dX4_goBack_24 : decode cX4_goBack 24 = .ok (.baload, 1) := by decide +kernel
theorem dX4_goBack_25 : decode cX4_goBack 25 = .ok (.ifCond .ne 13, 3) := by decide +kernel
theorem dX4_goBack_28 : decode cX4_goBack 28 = .ok (.new 96, 3) := by decide +kernel
theorem dX4_goBack_31 : decode cX4_goBack 31 = .ok (.dup, 1) := by decide +kernel
theorem dX4_goBack_32 : decode cX4_goBack 32 = .ok (.ldc 132, 2) := by decide +kernel
theorem dX4_goBack_34 : decode cX4_goBack 34 = .ok (.invokespecial 100, 3) := by decide +kernel
theorem dX4_goBack_37 : decode cX4_goBack 37 = .ok (.athrow, 1) := by decide +kernel
theorem dX4_goBack_38 : decode cX4_goBack 38 = .ok (.aload_n 0, 1) := by decide +kernel
theorem dX4_goBack_39 : decode cX4_goBack 39 = .ok (.getfield 26, 3) := by decide +kernel
theorem dX4_goBack_42 : decode cX4_goBack 42 = .ok (.aload_n 0, 1) := by decide +kernel
theorem dX4_goBack_43 : decode cX4_goBack 43 = .ok (.getfield 10, 3) := by decide +kernel
theorem dX4_goBack_46 : decode cX4_goBack 46 = .ok (.invokevirtual 49, 3) := by decide +kernel
theorem dX4_goBack_49 : decode cX4_goBack 49 = .ok (.aload_n 0, 1) := by decide +kernel
theorem dX4_goBack_50 : decode cX4_goBack 50 = .ok (.getfield 10, 3) := by decide +kernel
theorem dX4_goBack_53 : decode cX4_goBack 53 = .ok (.aload_n 0, 1) := by decide +kernel
theorem dX4_goBack_54 : decode cX4_goBack 54 = .ok (.getfield 30, 3) := by decide +kernel
theorem dX4_goBack_57 : decode cX4_goBack 57 = .ok (.iload_n 1, 1) := by decide +kernel
theorem dX4_goBack_58 : decode cX4_goBack 58 = .ok (.bipush 114, 2) := by decide +kernel
theorem dX4_goBack_60 : decode cX4_goBack 60 = .ok (.imul, 1) := by decide +kernel
theorem dX4_goBack_61 : decode cX4_goBack 61 = .ok (.invokevirtual 134, 3) := by decide +kernel
theorem dX4_goBack_64 : decode cX4_goBack 64 = .ok (.aload_n 0, 1) := by decide +kernel
theorem dX4_goBack_65 : decode cX4_goBack 65 = .ok (.getfield 10, 3) := by decide +kernel
theorem dX4_goBack_68 : decode cX4_goBack 68 = .ok (.invokevirtual 123, 3) := by decide +kernel
theorem dX4_goBack_71 : decode cX4_goBack 71 = .ok (.ireturn, 1) := by decide +kernel
set_option maxRecDepth 20000 in
theorem ggX4_squareOf_X4_isSquare : GoodIn wsX4_squareOf wsX4_isSquare := goodIn_r _ [9] (by decide +kernel) (by decide +kernel)
set_option maxRecDepth 20000 in
theorem gX4_squareOf_X4_isSquare : GoodIn wsX4_squareOf (va_wsS RX4 38 yX4_isSquare wsX4_isSquare) := goodIn_app (goodIn_of _ (by decide +kernel)) ggX4_squareOf_X4_isSquare
set_option maxRecDepth 20000 in
theorem ggX4_squareOf_X0_isDark : GoodIn wsX4_squareOf wsX0_isDark := goodIn_r _ [14, 15, 16, 17, 18, 19, 20, 21, 22, 23, 24, 25, 26, 27, 28, 57, 58, 59, 60, 61, 62, 63, 64] (by decide +kernel) (by decide +kernel)
set_option maxRecDepth 20000 in
theorem gX4_squareOf_X0_isDark : GoodIn wsX4_squareOf (wsV RX4 148 RX0 yX0_isDark wsX0_isDark) := goodIn_app (goodIn_of _ (by decide +kernel)) ggX4_squareOf_X0_isDark
set_option maxRecDepth 20000 in
theorem ggX4_squareOf_X0_isDarkBySweep : GoodIn wsX4_squareOf wsX0_isDarkBySweep := goodIn_r _ [32, 15, 33, 34, 35, 36, 16, 17, 18, 19, 20, 21, 22, 23, 24, 25, 26, 27, 28, 57, 58, 59, 60, 61, 62, 63, 64] (by decide +kernel) (by decide +kernel)
set_option maxRecDepth 20000 in
theorem gX4_squareOf_X0_isDarkBySweep : GoodIn wsX4_squareOf (wsV RX4 152 RX0 yX0_isDarkBySweep wsX0_isDarkBySweep) := goodIn_app (goodIn_of _ (by decide +kernel)) ggX4_squareOf_X0_isDarkBySweep
set_option maxRecDepth 20000 in
theorem ggX4_squareOf_X0_towersShading : GoodIn wsX4_squareOf wsX0_towersShading := goodIn_r _ [40, 41, 42, 15, 16, 17, 18, 19, 20, 21, 22, 23, 24, 25, 26, 27, 28, 57, 58, 59, 60, 61, 62, 63, 64] (by decide +kernel) (by decide +kernel)
set_option maxRecDepth 20000 in
theorem gX4_squareOf_X0_towersShading : GoodIn wsX4_squareOf (wsV RX4 155 RX0 yX0_towersShading wsX0_towersShading) := goodIn_app (goodIn_of _ (by decide +kernel)) ggX4_squareOf_X0_towersShading
set_option maxRecDepth 20000 in
theorem ggX4_squareOf_X0_squaresShadedFrom : GoodIn wsX4_squareOf wsX0_squaresShadedFrom := goodIn_r _ [46, 41, 15, 16, 17, 18, 19, 20, 21, 22, 23, 24, 25, 26, 27, 28, 57, 58, 59, 60, 61, 62, 63, 64] (by decide +kernel) (by decide +kernel)
set_option maxRecDepth 20000 in
theorem gX4_squareOf_X0_squaresShadedFrom : GoodIn wsX4_squareOf (wsV RX4 159 RX0 yX0_squaresShadedFrom wsX0_squaresShadedFrom) := goodIn_app (goodIn_of _ (by decide +kernel)) ggX4_squareOf_X0_squaresShadedFrom
set_option maxRecDepth 20000 in
theorem ggX4_squareOf_X0_darkHourMask : GoodIn wsX4_squareOf wsX0_darkHourMask := goodIn_r _ [50, 51, 11, 12, 13, 14, 15, 16, 17, 18, 19, 20, 21, 22, 23, 24, 25, 26, 27, 28, 57, 58, 59, 60, 61, 62, 63, 64] (by decide +kernel) (by decide +kernel)
set_option maxRecDepth 20000 in
theorem gX4_squareOf_X0_darkHourMask : GoodIn wsX4_squareOf (wsV RX4 162 RX0 yX0_darkHourMask wsX0_darkHourMask) := goodIn_app (goodIn_of _ (by decide +kernel)) ggX4_squareOf_X0_darkHourMask
theorem dX4_squareOf_0 : decode cX4_squareOf 0 = .ok (.iload_n 1, 1) := by decide +kernel
theorem dX4_squareOf_1 : decode cX4_squareOf 1 = .ok (.invokestatic 38, 3) := by decide +kernel
theorem dX4_squareOf_4 : decode cX4_squareOf 4 = .ok (.ifCond .ne 13, 3) := by decide +kernel
theorem dX4_squareOf_7 : decode cX4_squareOf 7 = .ok (.new 42, 3) := by decide +kernel
theorem dX4_squareOf_10 : decode cX4_squareOf 10 = .ok (.dup, 1) := by decide +kernel
theorem dX4_squareOf_11 : decode cX4_squareOf 11 = .ok (.ldc 44, 2) := by decide +kernel
theorem dX4_squareOf_13 : decode cX4_squareOf 13 = .ok (.invokespecial 46, 3) := by decide +kernel
theorem dX4_squareOf_16 : decode cX4_squareOf 16 = .ok (.athrow, 1) := by decide +kernel
theorem dX4_squareOf_17 : decode cX4_squareOf 17 = .ok (.iload_n 2, 1) := by decide +kernel
theorem dX4_squareOf_18 : decode cX4_squareOf 18 = .ok (.tableswitch 162 0 7 #[46, 56, 66, 76, 100, 124, 144, 153], 46) := by decide +kernel
theorem dX4_squareOf_64 : decode cX4_squareOf 64 = .ok (.aload_n 0, 1) := by decide +kernel
theorem dX4_squareOf_65 : decode cX4_squareOf 65 = .ok (.getfield 10, 3) := by decide +kernel
theorem dX4_squareOf_68 : decode cX4_squareOf 68 = .ok (.getfield 64, 3) := by decide +kernel
theorem dX4_squareOf_71 : decode cX4_squareOf 71 = .ok (.iload_n 1, 1) := by decide +kernel
theorem dX4_squareOf_72 : decode cX4_squareOf 72 = .ok (.iaload, 1) := by decide +kernel
theorem dX4_squareOf_73 : decode cX4_squareOf 73 = .ok (.ireturn, 1) := by decide +kernel
theorem dX4_squareOf_74 : decode cX4_squareOf 74 = .ok (.aload_n 0, 1) := by decide +kernel
theorem dX4_squareOf_75 : decode cX4_squareOf 75 = .ok (.getfield 10, 3) := by decide +kernel
theorem dX4_squareOf_78 : decode cX4_squareOf 78 = .ok (.getfield 145, 3) := by decide +kernel
theorem dX4_squareOf_81 : decode cX4_squareOf 81 = .ok (.iload_n 1, 1) := by decide +kernel
theorem dX4_squareOf_82 : decode cX4_squareOf 82 = .ok (.iaload, 1) := by decide +kernel
theorem dX4_squareOf_83 : decode cX4_squareOf 83 = .ok (.ireturn, 1) := by decide +kernel
theorem dX4_squareOf_84 : decode cX4_squareOf 84 = .ok (.aload_n 0, 1) := by decide +kernel
theorem dX4_squareOf_85 : decode cX4_squareOf 85 = .ok (.getfield 10, 3) := by decide +kernel
theorem dX4_squareOf_88 : decode cX4_squareOf 88 = .ok (.getfield 82, 3) := by decide +kernel
theorem dX4_squareOf_91 : decode cX4_squareOf 91 = .ok (.iload_n 1, 1) := by decide +kernel
theorem dX4_squareOf_92 : decode cX4_squareOf 92 = .ok (.iaload, 1) := by decide +kernel
theorem dX4_squareOf_93 : decode cX4_squareOf 93 = .ok (.ireturn, 1) := by decide +kernel
theorem dX4_squareOf_94 : decode cX4_squareOf 94 = .ok (.aload_n 0, 1) := by decide +kernel
theorem dX4_squareOf_95 : decode cX4_squareOf 95 = .ok (.getfield 10, 3) := by decide +kernel
theorem dX4_squareOf_98 : decode cX4_squareOf 98 = .ok (.iload_n 1, 1) := by decide +kernel
theorem dX4_squareOf_99 : decode cX4_squareOf 99 = .ok (.aload_n 0, 1) := by decide +kernel
theorem dX4_squareOf_100 : decode cX4_squareOf 100 = .ok (.getfield 10, 3) := by decide +kernel
theorem dX4_squareOf_103 : decode cX4_squareOf 103 = .ok (.getfield 87, 3) := by decide +kernel
theorem dX4_squareOf_106 : decode cX4_squareOf 106 = .ok (.invokevirtual 148, 3) := by decide +kernel
theorem dX4_squareOf_109 : decode cX4_squareOf 109 = .ok (.ifCond .eq 7, 3) := by decide +kernel
theorem dX4_squareOf_112 : decode cX4_squareOf 112 = .ok (.iconst 1, 1) := by decide +kernel
theorem dX4_squareOf_113 : decode cX4_squareOf 113 = .ok (.goto 4, 3) := by decide +kernel
theorem dX4_squareOf_116 : decode cX4_squareOf 116 = .ok (.iconst 0, 1) := by decide +kernel
theorem dX4_squareOf_117 : decode cX4_squareOf 117 = .ok (.ireturn, 1) := by decide +kernel
theorem dX4_squareOf_118 : decode cX4_squareOf 118 = .ok (.aload_n 0, 1) := by decide +kernel
theorem dX4_squareOf_119 : decode cX4_squareOf 119 = .ok (.getfield 10, 3) := by decide +kernel
theorem dX4_squareOf_122 : decode cX4_squareOf 122 = .ok (.iload_n 1, 1) := by decide +kernel
theorem dX4_squareOf_123 : decode cX4_squareOf 123 = .ok (.aload_n 0, 1) := by decide +kernel
theorem dX4_squareOf_124 : decode cX4_squareOf 124 = .ok (.getfield 10, 3) := by decide +kernel
theorem dX4_squareOf_127 : decode cX4_squareOf 127 = .ok (.getfield 87, 3) := by decide +kernel
theorem dX4_squareOf_130 : decode cX4_squareOf 130 = .ok (.invokevirtual 152, 3) := by decide +kernel
theorem dX4_squareOf_133 : decode cX4_squareOf 133 = .ok (.ifCond .eq 7, 3) := by decide +kernel
theorem dX4_squareOf_136 : decode cX4_squareOf 136 = .ok (.iconst 1, 1) := by decide +kernel
theorem dX4_squareOf_137 : decode cX4_squareOf 137 = .ok (.goto 4, 3) := by decide +kernel
theorem dX4_squareOf_140 : decode cX4_squareOf 140 = .ok (.iconst 0, 1) := by decide +kernel
theorem dX4_squareOf_141 : decode cX4_squareOf 141 = .ok (.ireturn, 1) := by decide +kernel
theorem dX4_squareOf_142 : decode cX4_squareOf 142 = .ok (.aload_n 0, 1) := by decide +kernel
theorem dX4_squareOf_143 : decode cX4_squareOf 143 = .ok (.getfield 10, 3) := by decide +kernel
theorem dX4_squareOf_146 : decode cX4_squareOf 146 = .ok (.iload_n 1, 1) := by decide +kernel
theorem dX4_squareOf_147 : decode cX4_squareOf 147 = .ok (.iconst 0, 1) := by decide +kernel
theorem dX4_squareOf_148 : decode cX4_squareOf 148 = .ok (.invokevirtual 155, 3) := by decide +kernel
theorem dX4_squareOf_151 : decode cX4_squareOf 151 = .ok (.aload_n 0, 1) := by decide +kernel
theorem dX4_squareOf_152 : decode cX4_squareOf 152 = .ok (.getfield 10, 3) := by decide +kernel
theorem dX4_squareOf_155 : decode cX4_squareOf 155 = .ok (.iload_n 1, 1) := by decide +kernel
theorem dX4_squareOf_156 : decode cX4_squareOf 156 = .ok (.iconst 1, 1) := by decide +kernel
theorem dX4_squareOf_157 : decode cX4_squareOf 157 = .ok (.invokevirtual 155, 3) := by decide +kernel
theorem dX4_squareOf_160 : decode cX4_squareOf 160 = .ok (.iadd, 1) := by decide +kernel
theorem dX4_squareOf_161 : decode cX4_squareOf 161 = .ok (.ireturn, 1) := by decide +kernel
theorem dX4_squareOf_162 : decode cX4_squareOf 162 = .ok (.aload_n 0, 1) := by decide +kernel
theorem dX4_squareOf_163 : decode cX4_squareOf 163 = .ok (.getfield 10, 3) := by decide +kernel
theorem dX4_squareOf_166 : decode cX4_squareOf 166 = .ok (.iload_n 1, 1) := by decide +kernel
theorem dX4_squareOf_167 : decode cX4_squareOf 167 = .ok (.invokevirtual 159, 3) := by decide +kernel
theorem dX4_squareOf_170 : decode cX4_squareOf 170 = .ok (.ireturn, 1) := by decide +kernel
theorem dX4_squareOf_171 : decode cX4_squareOf 171 = .ok (.aload_n 0, 1) := by decide +kernel
theorem dX4_squareOf_172 : decode cX4_squareOf 172 = .ok (.getfield 10, 3) := by decide +kernel
theorem dX4_squareOf_175 : decode cX4_squareOf 175 = .ok (.iload_n 1, 1) := by decide +kernel
theorem dX4_squareOf_176 : decode cX4_squareOf 176 = .ok (.invokevirtual 162, 3) := by decide +kernel
theorem dX4_squareOf_179 : decode cX4_squareOf 179 = .ok (.ireturn, 1) := by decide +kernel
theorem dX4_squareOf_180 : decode cX4_squareOf 180 = .ok (.new 77, 3) := by decide +kernel
theorem dX4_squareOf_183 : decode cX4_squareOf 183 = .ok (.dup, 1) := by decide +kernel
theorem dX4_squareOf_184 : decode cX4_squareOf 184 = .ok (.ldc 165, 2) := by decide +kernel
theorem dX4_squareOf_186 : decode cX4_squareOf 186 = .ok (.invokespecial 81, 3) := by decide +kernel
theorem dX4_squareOf_189 : decode cX4_squareOf 189 = .ok (.athrow, 1) := by decide +kernel
set_option maxRecDepth 20000 in
theorem ggX4_playerOf_X0_towersOf : GoodIn wsX4_playerOf wsX0_towersOf := goodIn_r _ [10, 11, 57, 58, 59, 60, 61, 62, 63, 64] (by decide +kernel) (by decide +kernel)
set_option maxRecDepth 20000 in
theorem gX4_playerOf_X0_towersOf : GoodIn wsX4_playerOf (wsV RX4 172 RX0 yX0_towersOf wsX0_towersOf) := goodIn_app (goodIn_of _ (by decide +kernel)) ggX4_playerOf_X0_towersOf
set_option maxRecDepth 20000 in
theorem ggX4_playerOf_X0_heightsOf : GoodIn wsX4_playerOf wsX0_heightsOf := goodIn_r _ [15, 11, 16, 57, 58, 59, 60, 61, 62, 63, 64] (by decide +kernel) (by decide +kernel)
set_option maxRecDepth 20000 in
theorem gX4_playerOf_X0_heightsOf : GoodIn wsX4_playerOf (wsV RX4 175 RX0 yX0_heightsOf wsX0_heightsOf) := goodIn_app (goodIn_of _ (by decide +kernel)) ggX4_playerOf_X0_heightsOf
set_option maxRecDepth 20000 in
theorem ggX4_playerOf_X0_darkTowersOf : GoodIn wsX4_playerOf wsX0_darkTowersOf := goodIn_r _ [20, 11, 21, 22, 23, 24, 9, 25, 16, 26, 27, 28, 29, 30, 31, 32, 33, 34, 35, 36, 37, 38, 57, 58, 59, 60, 61, 62, 63, 64] (by decide +kernel) (by decide +kernel)
set_option maxRecDepth 20000 in
theorem gX4_playerOf_X0_darkTowersOf : GoodIn wsX4_playerOf (wsV RX4 178 RX0 yX0_darkTowersOf wsX0_darkTowersOf) := goodIn_app (goodIn_of _ (by decide +kernel)) ggX4_playerOf_X0_darkTowersOf
set_option maxRecDepth 20000 in
theorem ggX4_playerOf_X0_payNow : GoodIn wsX4_playerOf wsX0_payNow := goodIn_r _ [42, 11, 21, 43, 22, 23, 24, 9, 25, 16, 26, 27, 28, 29, 30, 31, 32, 33, 34, 35, 36, 37, 38, 57, 58, 59, 60, 61, 62, 63, 64] (by decide +kernel) (by decide +kernel)
set_option maxRecDepth 20000 in
theorem gX4_playerOf_X0_payNow : GoodIn wsX4_playerOf (wsV RX4 74 RX0 yX0_payNow wsX0_payNow) := goodIn_app (goodIn_of _ (by decide +kernel)) ggX4_playerOf_X0_payNow
set_option maxRecDepth 20000 in
theorem ggX4_playerOf_X0_rivalsShadedBy : GoodIn wsX4_playerOf wsX0_rivalsShadedBy := goodIn_r _ [47, 11, 48, 49, 50, 9, 51, 21, 16, 26, 27, 28, 29, 30, 31, 32, 33, 34, 35, 36, 37, 38, 57, 58, 59, 60, 61, 62, 63, 64] (by decide +kernel) (by decide +kernel)
set_option maxRecDepth 20000 in
theorem gX4_playerOf_X0_rivalsShadedBy : GoodIn wsX4_playerOf (wsV RX4 181 RX0 yX0_rivalsShadedBy wsX0_rivalsShadedBy) := goodIn_app (goodIn_of _ (by decide +kernel)) ggX4_playerOf_X0_rivalsShadedBy
theorem dX4_playerOf_0 : decode cX4_playerOf 0 = .ok (.iload_n 1, 1) := by decide +kernel
theorem dX4_playerOf_1 : decode cX4_playerOf 1 = .ok (.ifCond .lt 8, 3) := by decide +kernel
theorem dX4_playerOf_4 : decode cX4_playerOf 4 = .ok (.iload_n 1, 1) := by decide +kernel
theorem dX4_playerOf_5 : decode cX4_playerOf 5 = .ok (.iconst 2, 1) := by decide +kernel
theorem dX4_playerOf_6 : decode cX4_playerOf 6 = .ok (.if_icmp .lt 13, 3) := by decide +kernel
theorem dX4_playerOf_9 : decode cX4_playerOf 9 = .ok (.new 42, 3) := by decide +kernel
theorem dX4_playerOf_12 : decode cX4_playerOf 12 = .ok (.dup, 1) := by decide +kernel
theorem dX4_playerOf_13 : decode cX4_playerOf 13 = .ok (.ldc 167, 2) := by decide +kernel
theorem dX4_playerOf_15 : decode cX4_playerOf 15 = .ok (.invokespecial 46, 3) := by decide +kernel
theorem dX4_playerOf_18 : decode cX4_playerOf 18 = .ok (.athrow, 1) := by decide +kernel
theorem dX4_playerOf_19 : decode cX4_playerOf 19 = .ok (.iload_n 2, 1) := by decide +kernel
theorem dX4_playerOf_20 : decode cX4_playerOf 20 = .ok (.tableswitch 95 0 5 #[40, 50, 59, 68, 77, 86], 40) := by decide +kernel
theorem dX4_playerOf_60 : decode cX4_playerOf 60 = .ok (.aload_n 0, 1) := by decide +kernel
theorem dX4_playerOf_61 : decode cX4_playerOf 61 = .ok (.getfield 10, 3) := by decide +kernel
theorem dX4_playerOf_64 : decode cX4_playerOf 64 = .ok (.getfield 169, 3) := by decide +kernel
theorem dX4_playerOf_67 : decode cX4_playerOf 67 = .ok (.iload_n 1, 1) := by decide +kernel
theorem dX4_playerOf_68 : decode cX4_playerOf 68 = .ok (.iaload, 1) := by decide +kernel
theorem dX4_playerOf_69 : decode cX4_playerOf 69 = .ok (.ireturn, 1) := by decide +kernel
theorem dX4_playerOf_70 : decode cX4_playerOf 70 = .ok (.aload_n 0, 1) := by decide +kernel
theorem dX4_playerOf_71 : decode cX4_playerOf 71 = .ok (.getfield 10, 3) := by decide +kernel
theorem dX4_playerOf_74 : decode cX4_playerOf 74 = .ok (.iload_n 1, 1) := by decide +kernel
theorem dX4_playerOf_75 : decode cX4_playerOf 75 = .ok (.invokevirtual 172, 3) := by decide +kernel
theorem dX4_playerOf_78 : decode cX4_playerOf 78 = .ok (.ireturn, 1) := by decide +kernel
theorem dX4_playerOf_79 : decode cX4_playerOf 79 = .ok (.aload_n 0, 1) := by decide +kernel
theorem dX4_playerOf_80 : decode cX4_playerOf 80 = .ok (.getfield 10, 3) := by decide +kernel
theorem dX4_playerOf_83 : decode cX4_playerOf 83 = .ok (.iload_n 1, 1) := by decide +kernel
theorem dX4_playerOf_84 : decode cX4_playerOf 84 = .ok (.invokevirtual 175, 3) := by decide +kernel
theorem dX4_playerOf_87 : decode cX4_playerOf 87 = .ok (.ireturn, 1) := by decide +kernel
theorem dX4_playerOf_88 : decode cX4_playerOf 88 = .ok (.aload_n 0, 1) := by decide +kernel
theorem dX4_playerOf_89 : decode cX4_playerOf 89 = .ok (.getfield 10, 3) := by decide +kernel
theorem dX4_playerOf_92 : decode cX4_playerOf 92 = .ok (.iload_n 1, 1) := by decide +kernel
theorem dX4_playerOf_93 : decode cX4_playerOf 93 = .ok (.invokevirtual 178, 3) := by decide +kernel
theorem dX4_playerOf_96 : decode cX4_playerOf 96 = .ok (.ireturn, 1) := by decide +kernel
theorem dX4_playerOf_97 : decode cX4_playerOf 97 = .ok (.aload_n 0, 1) := by decide +kernel
theorem dX4_playerOf_98 : decode cX4_playerOf 98 = .ok (.getfield 10, 3) := by decide +kernel
theorem dX4_playerOf_101 : decode cX4_playerOf 101 = .ok (.iload_n 1, 1) := by decide +kernel
theorem dX4_playerOf_102 : decode cX4_playerOf 102 = .ok (.invokevirtual 74, 3) := by decide +kernel
theorem dX4_playerOf_105 : decode cX4_playerOf 105 = .ok (.ireturn, 1) := by decide +kernel
theorem dX4_playerOf_106 : decode cX4_playerOf 106 = .ok (.aload_n 0, 1) := by decide +kernel
theorem dX4_playerOf_107 : decode cX4_playerOf 107 = .ok (.getfield 10, 3) := by decide +kernel
theorem dX4_playerOf_110 : decode cX4_playerOf 110 = .ok (.iload_n 1, 1) := by decide +kernel
theorem dX4_playerOf_111 : decode cX4_playerOf 111 = .ok (.invokevirtual 181, 3) := by decide +kernel
theorem dX4_playerOf_114 : decode cX4_playerOf 114 = .ok (.ireturn, 1) := by decide +kernel
theorem dX4_playerOf_115 : decode cX4_playerOf 115 = .ok (.new 77, 3) := by decide +kernel
theorem dX4_playerOf_118 : decode cX4_playerOf 118 = .ok (.dup, 1) := by decide +kernel
theorem dX4_playerOf_119 : decode cX4_playerOf 119 = .ok (.ldc 184, 2) := by decide +kernel
theorem dX4_playerOf_121 : decode cX4_playerOf 121 = .ok (.invokespecial 81, 3) := by decide +kernel
theorem dX4_playerOf_124 : decode cX4_playerOf 124 = .ok (.athrow, 1) := by decide +kernel
set_option maxRecDepth 20000 in
theorem ggX4_count_X3_side : GoodIn wsX4_count wsX3_side := goodIn_r _ [8] (by decide +kernel) (by decide +kernel)
set_option maxRecDepth 20000 in
theorem gX4_count_X3_side : GoodIn wsX4_count (va_wsS RX4 186 yX3_side wsX3_side) := goodIn_app (goodIn_of _ (by decide +kernel)) ggX4_count_X3_side
set_option maxRecDepth 20000 in
theorem ggX4_count_X3_steepness : GoodIn wsX4_count wsX3_steepness := goodIn_r _ [11] (by decide +kernel) (by decide +kernel)
set_option maxRecDepth 20000 in
theorem gX4_count_X3_steepness : GoodIn wsX4_count (va_wsS RX4 191 yX3_steepness wsX3_steepness) := goodIn_app (goodIn_of _ (by decide +kernel)) ggX4_count_X3_steepness
set_option maxRecDepth 20000 in
theorem ggX4_count_X0_darkSquares : GoodIn wsX4_count wsX0_darkSquares := goodIn_r _ [16, 17, 18, 19, 15, 20, 21, 22, 6, 7, 8, 23, 10, 11, 24, 25, 26, 27, 28, 29, 49, 50, 51, 52, 53, 54, 55, 56] (by decide +kernel) (by decide +kernel)
set_option maxRecDepth 20000 in
theorem gX4_count_X0_darkSquares : GoodIn wsX4_count (wsV RX4 197 RX0 yX0_darkSquares wsX0_darkSquares) := goodIn_app (goodIn_of _ (by decide +kernel)) ggX4_count_X0_darkSquares
set_option maxRecDepth 20000 in
theorem ggX4_count_X0_towers : GoodIn wsX4_count wsX0_towers := goodIn_r _ [33, 34, 35, 36, 15, 37, 38, 49, 50, 51, 52, 53, 54, 55, 56] (by decide +kernel) (by decide +kernel)
set_option maxRecDepth 20000 in
theorem gX4_count_X0_towers : GoodIn wsX4_count (wsV RX4 123 RX0 yX0_towers wsX0_towers) := goodIn_app (goodIn_of _ (by decide +kernel)) ggX4_count_X0_towers
set_option maxRecDepth 20000 in
theorem ggX4_count_X0_crowdsTogether : GoodIn wsX4_count wsX0_crowdsTogether := goodIn_r _ [42, 43, 49, 50, 51, 52, 53, 54, 55, 56] (by decide +kernel) (by decide +kernel)
set_option maxRecDepth 20000 in
theorem gX4_count_X0_crowdsTogether : GoodIn wsX4_count (wsV RX4 200 RX0 yX0_crowdsTogether wsX0_crowdsTogether) := goodIn_app (goodIn_of _ (by decide +kernel)) ggX4_count_X0_crowdsTogether
theorem dX4_count_0 : decode cX4_count 0 = .ok (.iload_n 1, 1) := by decide +kernel
theorem dX4_count_1 : decode cX4_count 1 = .ok (.tableswitch 148 0 9 #[55, 63, 74, 85, 93, 101, 116, 124, 132, 140], 55) := by decide +kernel
theorem dX4_count_56 : decode cX4_count 56 = .ok (.aload_n 0, 1) := by decide +kernel
theorem dX4_count_57 : decode cX4_count 57 = .ok (.getfield 10, 3) := by decide +kernel
theorem dX4_count_60 : decode cX4_count 60 = .ok (.getfield 87, 3) := by decide +kernel
theorem dX4_count_63 : decode cX4_count 63 = .ok (.ireturn, 1) := by decide +kernel
theorem dX4_count_64 : decode cX4_count 64 = .ok (.aload_n 0, 1) := by decide +kernel
theorem dX4_count_65 : decode cX4_count 65 = .ok (.getfield 10, 3) := by decide +kernel
theorem dX4_count_68 : decode cX4_count 68 = .ok (.getfield 87, 3) := by decide +kernel
theorem dX4_count_71 : decode cX4_count 71 = .ok (.invokestatic 186, 3) := by decide +kernel
theorem dX4_count_74 : decode cX4_count 74 = .ok (.ireturn, 1) := by decide +kernel
theorem dX4_count_75 : decode cX4_count 75 = .ok (.aload_n 0, 1) := by decide +kernel
theorem dX4_count_76 : decode cX4_count 76 = .ok (.getfield 10, 3) := by decide +kernel
theorem dX4_count_79 : decode cX4_count 79 = .ok (.getfield 87, 3) := by decide +kernel
theorem dX4_count_82 : decode cX4_count 82 = .ok (.invokestatic 191, 3) := by decide +kernel
theorem dX4_count_85 : decode cX4_count 85 = .ok (.ireturn, 1) := by decide +kernel
theorem dX4_count_86 : decode cX4_count 86 = .ok (.aload_n 0, 1) := by decide +kernel
theorem dX4_count_87 : decode cX4_count 87 = .ok (.getfield 10, 3) := by decide +kernel
theorem dX4_count_90 : decode cX4_count 90 = .ok (.getfield 61, 3) := by decide +kernel
theorem dX4_count_93 : decode cX4_count 93 = .ok (.ireturn, 1) := by decide +kernel
theorem dX4_count_94 : decode cX4_count 94 = .ok (.aload_n 0, 1) := by decide +kernel
theorem dX4_count_95 : decode cX4_count 95 = .ok (.getfield 10, 3) := by decide +kernel
theorem dX4_count_98 : decode cX4_count 98 = .ok (.getfield 194, 3) := by decide +kernel
theorem dX4_count_101 : decode cX4_count 101 = .ok (.ireturn, 1) := by decide +kernel
theorem dX4_count_102 : decode cX4_count 102 = .ok (.aload_n 0, 1) := by decide +kernel
theorem dX4_count_103 : decode cX4_count 103 = .ok (.getfield 10, 3) := by decide +kernel
theorem dX4_count_106 : decode cX4_count 106 = .ok (.aload_n 0, 1) := by decide +kernel
theorem dX4_count_107 : decode cX4_count 107 = .ok (.getfield 10, 3) := by decide +kernel
theorem dX4_count_110 : decode cX4_count 110 = .ok (.getfield 87, 3) := by decide +kernel
theorem dX4_count_113 : decode cX4_count 113 = .ok (.invokevirtual 197, 3) := by decide +kernel
theorem dX4_count_116 : decode cX4_count 116 = .ok (.ireturn, 1) := by decide +kernel
theorem dX4_count_117 : decode cX4_count 117 = .ok (.aload_n 0, 1) := by decide +kernel
theorem dX4_count_118 : decode cX4_count 118 = .ok (.getfield 10, 3) := by decide +kernel
theorem dX4_count_121 : decode cX4_count 121 = .ok (.invokevirtual 123, 3) := by decide +kernel
theorem dX4_count_124 : decode cX4_count 124 = .ok (.ireturn, 1) := by decide +kernel
theorem dX4_count_125 : decode cX4_count 125 = .ok (.aload_n 0, 1) := by decide +kernel
theorem dX4_count_126 : decode cX4_count 126 = .ok (.getfield 10, 3) := by decide +kernel
theorem dX4_count_129 : decode cX4_count 129 = .ok (.invokevirtual 200, 3) := by decide +kernel
theorem dX4_count_132 : decode cX4_count 132 = .ok (.ireturn, 1) := by decide +kernel
theorem dX4_count_133 : decode cX4_count 133 = .ok (.aload_n 0, 1) := by decide +kernel
theorem dX4_count_134 : decode cX4_count 134 = .ok (.getfield 10, 3) := by decide +kernel
theorem dX4_count_137 : decode cX4_count 137 = .ok (.getfield 57, 3) := by decide +kernel
theorem dX4_count_140 : decode cX4_count 140 = .ok (.ireturn, 1) := by decide +kernel
theorem dX4_count_141 : decode cX4_count 141 = .ok (.aload_n 0, 1) := by decide +kernel
theorem dX4_count_142 : decode cX4_count 142 = .ok (.getfield 26, 3) := by decide +kernel
theorem dX4_count_145 : decode cX4_count 145 = .ok (.getfield 137, 3) := by decide +kernel
theorem dX4_count_148 : decode cX4_count 148 = .ok (.ireturn, 1) := by decide +kernel
theorem dX4_count_149 : decode cX4_count 149 = .ok (.new 77, 3) := by decide +kernel
theorem dX4_count_152 : decode cX4_count 152 = .ok (.dup, 1) := by decide +kernel
theorem dX4_count_153 : decode cX4_count 153 = .ok (.ldc 203, 2) := by decide +kernel
theorem dX4_count_155 : decode cX4_count 155 = .ok (.invokespecial 81, 3) := by decide +kernel
theorem dX4_count_158 : decode cX4_count 158 = .ok (.athrow, 1) := by decide +kernel
set_option maxRecDepth 20000 in
theorem ggX4_whyNot_X4_isSquare : GoodIn wsX4_whyNot wsX4_isSquare := goodIn_r _ [7] (by decide +kernel) (by decide +kernel)
set_option maxRecDepth 20000 in
theorem gX4_whyNot_X4_isSquare : GoodIn wsX4_whyNot (va_wsS RX4 38 yX4_isSquare wsX4_isSquare) := goodIn_app (goodIn_of _ (by decide +kernel)) ggX4_whyNot_X4_isSquare
set_option maxRecDepth 20000 in
theorem ggX4_whyNot_X0_refusalReason : GoodIn wsX4_whyNot wsX0_refusalReason := goodIn_r _ [12, 13, 14, 15, 16, 17, 18, 19, 11, 20, 21, 22, 23, 24, 25, 26, 27, 28, 29, 30, 31, 32, 33, 39, 40, 41, 42, 43, 44, 45, 46] (by decide +kernel) (by decide +kernel)
set_option maxRecDepth 20000 in
theorem gX4_whyNot_X0_refusalReason : GoodIn wsX4_whyNot (wsV RX4 53 RX0 yX0_refusalReason wsX0_refusalReason) := goodIn_app (goodIn_of _ (by decide +kernel)) ggX4_whyNot_X0_refusalReason
theorem dX4_whyNot_0 : decode cX4_whyNot 0 = .ok (.iload_n 1, 1) := by decide +kernel
theorem dX4_whyNot_1 : decode cX4_whyNot 1 = .ok (.invokestatic 38, 3) := by decide +kernel
theorem dX4_whyNot_4 : decode cX4_whyNot 4 = .ok (.ifCond .ne 13, 3) := by decide +kernel
theorem dX4_whyNot_7 : decode cX4_whyNot 7 = .ok (.new 42, 3) := by decide +kernel
theorem dX4_whyNot_10 : decode cX4_whyNot 10 = .ok (.dup, 1) := by decide +kernel
theorem dX4_whyNot_11 : decode cX4_whyNot 11 = .ok (.ldc 44, 2) := by decide +kernel
theorem dX4_whyNot_13 : decode cX4_whyNot 13 = .ok (.invokespecial 46, 3) := by decide +kernel
theorem dX4_whyNot_16 : decode cX4_whyNot 16 = .ok (.athrow, 1) := by decide +kernel
theorem dX4_whyNot_17 : decode cX4_whyNot 17 = .ok (.aload_n 0, 1) := by decide +kernel
theorem dX4_whyNot_18 : decode cX4_whyNot 18 = .ok (.getfield 10, 3) := by decide +kernel
theorem dX4_whyNot_21 : decode cX4_whyNot 21 = .ok (.iload_n 1, 1) := by decide +kernel
theorem dX4_whyNot_22 : decode cX4_whyNot 22 = .ok (.invokevirtual 53, 3) := by decide +kernel
theorem dX4_whyNot_25 : decode cX4_whyNot 25 = .ok (.ireturn, 1) := by decide +kernel
set_option maxRecDepth 20000 in
theorem ggX4_ifRaised_X4_isSquare : GoodIn wsX4_ifRaised wsX4_isSquare := goodIn_r _ [7] (by decide +kernel) (by decide +kernel)
set_option maxRecDepth 20000 in
theorem gX4_ifRaised_X4_isSquare : GoodIn wsX4_ifRaised (va_wsS RX4 38 yX4_isSquare wsX4_isSquare) := goodIn_app (goodIn_of _ (by decide +kernel)) ggX4_ifRaised_X4_isSquare
set_option maxRecDepth 20000 in
theorem ggX4_ifRaised_X0_worthOfRaising : GoodIn wsX4_ifRaised wsX0_worthOfRaising := goodIn_r _ [12, 13, 14, 15, 16, 17, 18, 11, 19, 20, 21, 22, 23, 24, 25, 26, 27, 28, 29, 30, 31, 32, 33, 34, 35, 36, 37, 38, 39, 40, 41, 42, 43, 44, 45, 46, 52, 53, 54, 55, 56, 57, 58, 59] (by decide +kernel) (by decide +kernel)
set_option maxRecDepth 20000 in
theorem gX4_ifRaised_X0_worthOfRaising : GoodIn wsX4_ifRaised (wsV RX4 205 RX0 yX0_worthOfRaising wsX0_worthOfRaising) := goodIn_app (goodIn_of _ (by decide +kernel)) ggX4_ifRaised_X0_worthOfRaising
theorem dX4_ifRaised_0 : decode cX4_ifRaised 0 = .ok (.iload_n 1, 1) := by decide +kernel
theorem dX4_ifRaised_1 : decode cX4_ifRaised 1 = .ok (.invokestatic 38, 3) := by decide +kernel
theorem dX4_ifRaised_4 : decode cX4_ifRaised 4 = .ok (.ifCond .ne 13, 3) := by decide +kernel
theorem dX4_ifRaised_7 : decode cX4_ifRaised 7 = .ok (.new 42, 3) := by decide +kernel
theorem dX4_ifRaised_10 : decode cX4_ifRaised 10 = .ok (.dup, 1) := by decide +kernel
theorem dX4_ifRaised_11 : decode cX4_ifRaised 11 = .ok (.ldc 44, 2) := by decide +kernel
theorem dX4_ifRaised_13 : decode cX4_ifRaised 13 = .ok (.invokespecial 46, 3) := by decide +kernel
theorem dX4_ifRaised_16 : decode cX4_ifRaised 16 = .ok (.athrow, 1) := by decide +kernel
theorem dX4_ifRaised_17 : decode cX4_ifRaised 17 = .ok (.aload_n 0, 1) := by decide +kernel
theorem dX4_ifRaised_18 : decode cX4_ifRaised 18 = .ok (.getfield 10, 3) := by decide +kernel
theorem dX4_ifRaised_21 : decode cX4_ifRaised 21 = .ok (.iload_n 1, 1) := by decide +kernel
theorem dX4_ifRaised_22 : decode cX4_ifRaised 22 = .ok (.invokevirtual 205, 3) := by decide +kernel
theorem dX4_ifRaised_25 : decode cX4_ifRaised 25 = .ok (.ireturn, 1) := by decide +kernel
set_option maxRecDepth 20000 in
theorem ggX4_bestSquare_X0_worthOfRaising : GoodIn wsX4_bestSquare wsX0_worthOfRaising := goodIn_r _ [6, 7, 8, 9, 10, 11, 12, 5, 13, 14, 15, 16, 17, 18, 19, 20, 21, 22, 23, 24, 25, 26, 27, 28, 29, 30, 31, 32, 33, 34, 35, 36, 37, 38, 39, 40, 46, 47, 48, 49, 50, 51, 52, 53] (by decide +kernel) (by decide +kernel)
set_option maxRecDepth 20000 in
theorem gX4_bestSquare_X0_worthOfRaising : GoodIn wsX4_bestSquare (wsV RX4 205 RX0 yX0_worthOfRaising wsX0_worthOfRaising) := goodIn_app (goodIn_of _ (by decide +kernel)) ggX4_bestSquare_X0_worthOfRaising
theorem dX4_bestSquare_0 : decode cX4_bestSquare 0 = .ok (.iconst (-1), 1) := by decide +kernel
theorem dX4_bestSquare_1 : decode cX4_bestSquare 1 = .ok (.istore_n 1, 1) := by decide +kernel
theorem dX4_bestSquare_2 : decode cX4_bestSquare 2 = .ok (.sipush (-999), 3) := by decide +kernel
theorem dX4_bestSquare_5 : decode cX4_bestSquare 5 = .ok (.istore_n 2, 1) := by decide +kernel
theorem dX4_bestSquare_6 : decode cX4_bestSquare 6 = .ok (.iconst 0, 1) := by decide +kernel
theorem dX4_bestSquare_7 : decode cX4_bestSquare 7 = .ok (.istore_n 3, 1) := by decide +kernel
theorem dX4_bestSquare_8 : decode cX4_bestSquare 8 = .ok (.iload_n 3, 1) := by decide +kernel
theorem dX4_bestSquare_9 : decode cX4_bestSquare 9 = .ok (.bipush 36, 2) := by decide +kernel
theorem dX4_bestSquare_11 : decode cX4_bestSquare 11 = .ok (.if_icmp .ge 30, 3) := by decide +kernel
theorem dX4_bestSquare_14 : decode cX4_bestSquare 14 = .ok (.aload_n 0, 1) := by decide +kernel
theorem dX4_bestSquare_15 : decode cX4_bestSquare 15 = .ok (.getfield 10, 3) := by decide +kernel
theorem dX4_bestSquare_18 : decode cX4_bestSquare 18 = .ok (.iload_n 3, 1) := by decide +kernel
theorem dX4_bestSquare_19 : decode cX4_bestSquare 19 = .ok (.invokevirtual 205, 3) := by decide +kernel
theorem dX4_bestSquare_22 : decode cX4_bestSquare 22 = .ok (.istore 4, 2) := by decide +kernel
theorem dX4_bestSquare_24 : decode cX4_bestSquare 24 = .ok (.iload 4, 2) := by decide +kernel
theorem dX4_bestSquare_26 : decode cX4_bestSquare 26 = .ok (.iload_n 2, 1) := by decide +kernel
theorem dX4_bestSquare_27 : decode cX4_bestSquare 27 = .ok (.if_icmp .le 8, 3) := by decide +kernel
theorem dX4_bestSquare_30 : decode cX4_bestSquare 30 = .ok (.iload_n 3, 1) := by decide +kernel
theorem dX4_bestSquare_31 : decode cX4_bestSquare 31 = .ok (.istore_n 1, 1) := by decide +kernel
theorem dX4_bestSquare_32 : decode cX4_bestSquare 32 = .ok (.iload 4, 2) := by decide +kernel
theorem dX4_bestSquare_34 : decode cX4_bestSquare 34 = .ok (.istore_n 2, 1) := by decide +kernel
theorem dX4_bestSquare_35 : decode cX4_bestSquare 35 = .ok (.iinc 3 1, 3) := by decide +kernel
theorem dX4_bestSquare_38 : decode cX4_bestSquare 38 = .ok (.goto (-30), 3) := by decide +kernel
theorem dX4_bestSquare_41 : decode cX4_bestSquare 41 = .ok (.iload_n 1, 1) := by decide +kernel
theorem dX4_bestSquare_42 : decode cX4_bestSquare 42 = .ok (.ireturn, 1) := by decide +kernel
set_option maxRecDepth 20000 in
theorem ggX4_needed_X4_isSquare : GoodIn wsX4_needed wsX4_isSquare := goodIn_r _ [7] (by decide +kernel) (by decide +kernel)
set_option maxRecDepth 20000 in
theorem gX4_needed_X4_isSquare : GoodIn wsX4_needed (va_wsS RX4 38 yX4_isSquare wsX4_isSquare) := goodIn_app (goodIn_of _ (by decide +kernel)) ggX4_needed_X4_isSquare
set_option maxRecDepth 20000 in
theorem ggX4_needed_X3_side : GoodIn wsX4_needed wsX3_side := goodIn_r _ [11] (by decide +kernel) (by decide +kernel)
set_option maxRecDepth 20000 in
theorem gX4_needed_X3_side : GoodIn wsX4_needed (va_wsS RX4 186 yX3_side wsX3_side) := goodIn_app (goodIn_of _ (by decide +kernel)) ggX4_needed_X3_side
set_option maxRecDepth 20000 in
theorem ggX4_needed_X3_distanceTowardSun : GoodIn wsX4_needed wsX3_distanceTowardSun := goodIn_r _ [14, 15, 16, 10, 17, 18, 19, 20] (by decide +kernel) (by decide +kernel)
set_option maxRecDepth 20000 in
theorem gX4_needed_X3_distanceTowardSun : GoodIn wsX4_needed (va_wsS RX4 208 yX3_distanceTowardSun wsX3_distanceTowardSun) := goodIn_app (goodIn_of _ (by decide +kernel)) ggX4_needed_X3_distanceTowardSun
set_option maxRecDepth 20000 in
theorem ggX4_needed_X3_steepness : GoodIn wsX4_needed wsX3_steepness := goodIn_r _ [23] (by decide +kernel) (by decide +kernel)
set_option maxRecDepth 20000 in
theorem gX4_needed_X3_steepness : GoodIn wsX4_needed (va_wsS RX4 191 yX3_steepness wsX3_steepness) := goodIn_app (goodIn_of _ (by decide +kernel)) ggX4_needed_X3_steepness
theorem dX4_needed_0 : decode cX4_needed 0 = .ok (.iload_n 1, 1) := by decide +kernel
theorem dX4_needed_1 : decode cX4_needed 1 = .ok (.invokestatic 38, 3) := by decide +kernel
theorem dX4_needed_4 : decode cX4_needed 4 = .ok (.ifCond .eq 10, 3) := by decide +kernel
theorem dX4_needed_7 : decode cX4_needed 7 = .ok (.iload_n 2, 1) := by decide +kernel
theorem dX4_needed_8 : decode cX4_needed 8 = .ok (.invokestatic 38, 3) := by decide +kernel
theorem dX4_needed_11 : decode cX4_needed 11 = .ok (.ifCond .ne 13, 3) := by decide +kernel
theorem dX4_needed_14 : decode cX4_needed 14 = .ok (.new 42, 3) := by decide +kernel
theorem dX4_needed_17 : decode cX4_needed 17 = .ok (.dup, 1) := by decide +kernel
theorem dX4_needed_18 : decode cX4_needed 18 = .ok (.ldc 44, 2) := by decide +kernel
theorem dX4_needed_20 : decode cX4_needed 20 = .ok (.invokespecial 46, 3) := by decide +kernel
theorem dX4_needed_23 : decode cX4_needed 23 = .ok (.athrow, 1) := by decide +kernel
theorem dX4_needed_24 : decode cX4_needed 24 = .ok (.aload_n 0, 1) := by decide +kernel
theorem dX4_needed_25 : decode cX4_needed 25 = .ok (.getfield 10, 3) := by decide +kernel
theorem dX4_needed_28 : decode cX4_needed 28 = .ok (.getfield 87, 3) := by decide +kernel
theorem dX4_needed_31 : decode cX4_needed 31 = .ok (.invokestatic 186, 3) := by decide +kernel
theorem dX4_needed_34 : decode cX4_needed 34 = .ok (.iload_n 2, 1) := by decide +kernel
theorem dX4_needed_35 : decode cX4_needed 35 = .ok (.iload_n 1, 1) := by decide +kernel
theorem dX4_needed_36 : decode cX4_needed 36 = .ok (.invokestatic 208, 3) := by decide +kernel
theorem dX4_needed_39 : decode cX4_needed 39 = .ok (.istore_n 3, 1) := by decide +kernel
theorem dX4_needed_40 : decode cX4_needed 40 = .ok (.iload_n 3, 1) := by decide +kernel
theorem dX4_needed_41 : decode cX4_needed 41 = .ok (.ifCond .ne 5, 3) := by decide +kernel
theorem dX4_needed_44 : decode cX4_needed 44 = .ok (.iconst (-1), 1) := by decide +kernel
theorem dX4_needed_45 : decode cX4_needed 45 = .ok (.ireturn, 1) := by decide +kernel
theorem dX4_needed_46 : decode cX4_needed 46 = .ok (.aload_n 0, 1) := by decide +kernel
theorem dX4_needed_47 : decode cX4_needed 47 = .ok (.getfield 10, 3) := by decide +kernel
theorem dX4_needed_50 : decode cX4_needed 50 = .ok (.getfield 64, 3) := by decide +kernel
theorem dX4_needed_53 : decode cX4_needed 53 = .ok (.iload_n 2, 1) := by decide +kernel
theorem dX4_needed_54 : decode cX4_needed 54 = .ok (.iaload, 1) := by decide +kernel
theorem dX4_needed_55 : decode cX4_needed 55 = .ok (.iload_n 3, 1) := by decide +kernel
theorem dX4_needed_56 : decode cX4_needed 56 = .ok (.aload_n 0, 1) := by decide +kernel
theorem dX4_needed_57 : decode cX4_needed 57 = .ok (.getfield 10, 3) := by decide +kernel
theorem dX4_needed_60 : decode cX4_needed 60 = .ok (.getfield 87, 3) := by decide +kernel
theorem dX4_needed_63 : decode cX4_needed 63 = .ok (.invokestatic 191, 3) := by decide +kernel
theorem dX4_needed_66 : decode cX4_needed 66 = .ok (.imul, 1) := by decide +kernel
theorem dX4_needed_67 : decode cX4_needed 67 = .ok (.iadd, 1) := by decide +kernel
theorem dX4_needed_68 : decode cX4_needed 68 = .ok (.iconst 1, 1) := by decide +kernel
theorem dX4_needed_69 : decode cX4_needed 69 = .ok (.iadd, 1) := by decide +kernel
theorem dX4_needed_70 : decode cX4_needed 70 = .ok (.istore 4, 2) := by decide +kernel
theorem dX4_needed_72 : decode cX4_needed 72 = .ok (.iload 4, 2) := by decide +kernel
theorem dX4_needed_74 : decode cX4_needed 74 = .ok (.bipush 9, 2) := by decide +kernel
theorem dX4_needed_76 : decode cX4_needed 76 = .ok (.if_icmp .le 7, 3) := by decide +kernel
theorem dX4_needed_79 : decode cX4_needed 79 = .ok (.iconst (-1), 1) := by decide +kernel
theorem dX4_needed_80 : decode cX4_needed 80 = .ok (.goto 5, 3) := by decide +kernel
theorem dX4_needed_83 : decode cX4_needed 83 = .ok (.iload 4, 2) := by decide +kernel
theorem dX4_needed_85 : decode cX4_needed 85 = .ok (.ireturn, 1) := by decide +kernel
set_option maxRecDepth 20000 in
theorem ggX4_darkestHour_X0_darkSquares : GoodIn wsX4_darkestHour wsX0_darkSquares := goodIn_r _ [6, 7, 8, 9, 5, 10, 11, 12, 13, 14, 15, 16, 17, 18, 19, 20, 21, 22, 23, 24, 30, 31, 32, 33, 34, 35, 36, 37] (by decide +kernel) (by decide +kernel)
set_option maxRecDepth 20000 in
theorem gX4_darkestHour_X0_darkSquares : GoodIn wsX4_darkestHour (wsV RX4 197 RX0 yX0_darkSquares wsX0_darkSquares) := goodIn_app (goodIn_of _ (by decide +kernel)) ggX4_darkestHour_X0_darkSquares
theorem dX4_darkestHour_0 : decode cX4_darkestHour 0 = .ok (.iconst 0, 1) := by decide +kernel
theorem dX4_darkestHour_1 : decode cX4_darkestHour 1 = .ok (.istore_n 1, 1) := by decide +kernel
theorem dX4_darkestHour_2 : decode cX4_darkestHour 2 = .ok (.aload_n 0, 1) := by decide +kernel
theorem dX4_darkestHour_3 : decode cX4_darkestHour 3 = .ok (.getfield 10, 3) := by decide +kernel
theorem dX4_darkestHour_6 : decode cX4_darkestHour 6 = .ok (.iconst 0, 1) := by decide +kernel
theorem dX4_darkestHour_7 : decode cX4_darkestHour 7 = .ok (.invokevirtual 197, 3) := by decide +kernel
theorem dX4_darkestHour_10 : decode cX4_darkestHour 10 = .ok (.istore_n 2, 1) := by decide +kernel
theorem dX4_darkestHour_11 : decode cX4_darkestHour 11 = .ok (.iconst 1, 1) := by decide +kernel
theorem dX4_darkestHour_12 : decode cX4_darkestHour 12 = .ok (.istore_n 3, 1) := by decide +kernel
theorem dX4_darkestHour_13 : decode cX4_darkestHour 13 = .ok (.iload_n 3, 1) := by decide +kernel
theorem dX4_darkestHour_14 : decode cX4_darkestHour 14 = .ok (.bipush 12, 2) := by decide +kernel
theorem dX4_darkestHour_16 : decode cX4_darkestHour 16 = .ok (.if_icmp .ge 30, 3) := by decide +kernel
theorem dX4_darkestHour_19 : decode cX4_darkestHour 19 = .ok (.aload_n 0, 1) := by decide +kernel
theorem dX4_darkestHour_20 : decode cX4_darkestHour 20 = .ok (.getfield 10, 3) := by decide +kernel
theorem dX4_darkestHour_23 : decode cX4_darkestHour 23 = .ok (.iload_n 3, 1) := by decide +kernel
theorem dX4_darkestHour_24 : decode cX4_darkestHour 24 = .ok (.invokevirtual 197, 3) := by decide +kernel
theorem dX4_darkestHour_27 : decode cX4_darkestHour 27 = .ok (.istore 4, 2) := by decide +kernel
theorem dX4_darkestHour_29 : decode cX4_darkestHour 29 = .ok (.iload 4, 2) := by decide +kernel
theorem dX4_darkestHour_31 : decode cX4_darkestHour 31 = .ok (.iload_n 2, 1) := by decide +kernel
theorem dX4_darkestHour_32 : decode cX4_darkestHour 32 = .ok (.if_icmp .le 8, 3) := by decide +kernel
theorem dX4_darkestHour_35 : decode cX4_darkestHour 35 = .ok (.iload_n 3, 1) := by decide +kernel
theorem dX4_darkestHour_36 : decode cX4_darkestHour 36 = .ok (.istore_n 1, 1) := by decide +kernel
theorem dX4_darkestHour_37 : decode cX4_darkestHour 37 = .ok (.iload 4, 2) := by decide +kernel
theorem dX4_darkestHour_39 : decode cX4_darkestHour 39 = .ok (.istore_n 2, 1) := by decide +kernel
theorem dX4_darkestHour_40 : decode cX4_darkestHour 40 = .ok (.iinc 3 1, 3) := by decide +kernel
theorem dX4_darkestHour_43 : decode cX4_darkestHour 43 = .ok (.goto (-30), 3) := by decide +kernel
theorem dX4_darkestHour_46 : decode cX4_darkestHour 46 = .ok (.iload_n 1, 1) := by decide +kernel
theorem dX4_darkestHour_47 : decode cX4_darkestHour 47 = .ok (.ireturn, 1) := by decide +kernel
set_option maxRecDepth 20000 in
theorem ggX4_darkShare_X0_darkSquares : GoodIn wsX4_darkShare wsX0_darkSquares := goodIn_r _ [7, 8, 9, 10, 6, 11, 12, 13, 14, 15, 16, 17, 18, 19, 20, 21, 22, 23, 24, 25, 31, 32, 33, 34, 35, 36, 37, 38] (by decide +kernel) (by decide +kernel)
set_option maxRecDepth 20000 in
theorem gX4_darkShare_X0_darkSquares : GoodIn wsX4_darkShare (wsV RX4 197 RX0 yX0_darkSquares wsX0_darkSquares) := goodIn_app (goodIn_of _ (by decide +kernel)) ggX4_darkShare_X0_darkSquares
theorem dX4_darkShare_0 : decode cX4_darkShare 0 = .ok (.aload_n 0, 1) := by decide +kernel
theorem dX4_darkShare_1 : decode cX4_darkShare 1 = .ok (.getfield 10, 3) := by decide +kernel
theorem dX4_darkShare_4 : decode cX4_darkShare 4 = .ok (.aload_n 0, 1) := by decide +kernel
theorem dX4_darkShare_5 : decode cX4_darkShare 5 = .ok (.getfield 10, 3) := by decide +kernel
theorem dX4_darkShare_8 : decode cX4_darkShare 8 = .ok (.getfield 87, 3) := by decide +kernel
theorem dX4_darkShare_11 : decode cX4_darkShare 11 = .ok (.invokevirtual 197, 3) := by decide +kernel
theorem dX4_darkShare_14 : decode cX4_darkShare 14 = .ok (.i2d, 1) := by decide +kernel
theorem dX4_darkShare_15 : decode cX4_darkShare 15 = .ok (.ldc2_w 212, 3) := by decide +kernel
theorem dX4_darkShare_18 : decode cX4_darkShare 18 = .ok (.ddiv, 1) := by decide +kernel
theorem dX4_darkShare_19 : decode cX4_darkShare 19 = .ok (.dreturn, 1) := by decide +kernel
theorem dX4_isSquare_0 : decode cX4_isSquare 0 = .ok (.iload_n 0, 1) := by decide +kernel
theorem dX4_isSquare_1 : decode cX4_isSquare 1 = .ok (.ifCond .lt 13, 3) := by decide +kernel
theorem dX4_isSquare_4 : decode cX4_isSquare 4 = .ok (.iload_n 0, 1) := by decide +kernel
theorem dX4_isSquare_5 : decode cX4_isSquare 5 = .ok (.bipush 36, 2) := by decide +kernel
theorem dX4_isSquare_7 : decode cX4_isSquare 7 = .ok (.if_icmp .ge 7, 3) := by decide +kernel
theorem dX4_isSquare_10 : decode cX4_isSquare 10 = .ok (.iconst 1, 1) := by decide +kernel
theorem dX4_isSquare_11 : decode cX4_isSquare 11 = .ok (.goto 4, 3) := by decide +kernel
theorem dX4_isSquare_14 : decode cX4_isSquare 14 = .ok (.iconst 0, 1) := by decide +kernel
theorem dX4_isSquare_15 : decode cX4_isSquare 15 = .ok (.ireturn, 1) := by decide +kernel
set_option maxRecDepth 20000 in
theorem ggX4_putEntry_X1_square : GoodIn wsX4_putEntry wsX1_square := goodIn_r _ [7, 8, 37, 38] (by decide +kernel) (by decide +kernel)
set_option maxRecDepth 20000 in
theorem gX4_putEntry_X1_square : GoodIn wsX4_putEntry (wsV RX4 269 RX1 yX1_square wsX1_square) := goodIn_app (goodIn_of _ (by decide +kernel)) ggX4_putEntry_X1_square
set_option maxRecDepth 20000 in
theorem ggX4_putEntry_X1_mark : GoodIn wsX4_putEntry wsX1_mark := goodIn_r _ [12, 8, 37, 38] (by decide +kernel) (by decide +kernel)
set_option maxRecDepth 20000 in
theorem gX4_putEntry_X1_mark : GoodIn wsX4_putEntry (wsV RX4 272 RX1 yX1_mark wsX1_mark) := goodIn_app (goodIn_of _ (by decide +kernel)) ggX4_putEntry_X1_mark
set_option maxRecDepth 20000 in
theorem ggX4_putEntry_X1_number : GoodIn wsX4_putEntry wsX1_number := goodIn_r _ [16, 8, 37, 38] (by decide +kernel) (by decide +kernel)
set_option maxRecDepth 20000 in
theorem gX4_putEntry_X1_number : GoodIn wsX4_putEntry (wsV RX4 275 RX1 yX1_number wsX1_number) := goodIn_app (goodIn_of _ (by decide +kernel)) ggX4_putEntry_X1_number
set_option maxRecDepth 20000 in
theorem ggX4_putEntry_X0_putTower : GoodIn wsX4_putEntry wsX0_putTower := goodIn_r _ [21, 22, 23, 29, 30, 31, 32, 33, 34, 35, 36] (by decide +kernel) (by decide +kernel)
set_option maxRecDepth 20000 in
theorem gX4_putEntry_X0_putTower : GoodIn wsX4_putEntry (wsV RX4 67 RX0 yX0_putTower wsX0_putTower) := goodIn_app (goodIn_of _ (by decide +kernel)) ggX4_putEntry_X0_putTower
theorem dX4_putEntry_0 : decode cX4_putEntry 0 = .ok (.aload_n 0, 1) := by decide +kernel
theorem dX4_putEntry_1 : decode cX4_putEntry 1 = .ok (.getfield 19, 3) := by decide +kernel
theorem dX4_putEntry_4 : decode cX4_putEntry 4 = .ok (.iload_n 1, 1) := by decide +kernel
theorem dX4_putEntry_5 : decode cX4_putEntry 5 = .ok (.invokevirtual 269, 3) := by decide +kernel
theorem dX4_putEntry_8 : decode cX4_putEntry 8 = .ok (.istore_n 2, 1) := by decide +kernel
theorem dX4_putEntry_9 : decode cX4_putEntry 9 = .ok (.aload_n 0, 1) := by decide +kernel
theorem dX4_putEntry_10 : decode cX4_putEntry 10 = .ok (.getfield 19, 3) := by decide +kernel
theorem dX4_putEntry_13 : decode cX4_putEntry 13 = .ok (.iload_n 1, 1) := by decide +kernel
theorem dX4_putEntry_14 : decode cX4_putEntry 14 = .ok (.invokevirtual 272, 3) := by decide +kernel
theorem dX4_putEntry_17 : decode cX4_putEntry 17 = .ok (.istore_n 3, 1) := by decide +kernel
theorem dX4_putEntry_18 : decode cX4_putEntry 18 = .ok (.aload_n 0, 1) := by decide +kernel
theorem dX4_putEntry_19 : decode cX4_putEntry 19 = .ok (.getfield 19, 3) := by decide +kernel
theorem dX4_putEntry_22 : decode cX4_putEntry 22 = .ok (.iload_n 1, 1) := by decide +kernel
theorem dX4_putEntry_23 : decode cX4_putEntry 23 = .ok (.invokevirtual 275, 3) := by decide +kernel
theorem dX4_putEntry_26 : decode cX4_putEntry 26 = .ok (.istore 4, 2) := by decide +kernel
theorem dX4_putEntry_28 : decode cX4_putEntry 28 = .ok (.iload_n 3, 1) := by decide +kernel
theorem dX4_putEntry_29 : decode cX4_putEntry 29 = .ok (.bipush 61, 2) := by decide +kernel
theorem dX4_putEntry_31 : decode cX4_putEntry 31 = .ok (.if_icmp .ne 17, 3) := by decide +kernel
theorem dX4_putEntry_34 : decode cX4_putEntry 34 = .ok (.aload_n 0, 1) := by decide +kernel
theorem dX4_putEntry_35 : decode cX4_putEntry 35 = .ok (.getfield 10, 3) := by decide +kernel
theorem dX4_putEntry_38 : decode cX4_putEntry 38 = .ok (.getfield 82, 3) := by decide +kernel
theorem dX4_putEntry_41 : decode cX4_putEntry 41 = .ok (.iload_n 2, 1) := by decide +kernel
theorem dX4_putEntry_42 : decode cX4_putEntry 42 = .ok (.iload 4, 2) := by decide +kernel
theorem dX4_putEntry_44 : decode cX4_putEntry 44 = .ok (.iastore, 1) := by decide +kernel
theorem dX4_putEntry_45 : decode cX4_putEntry 45 = .ok (.goto 24, 3) := by decide +kernel
theorem dX4_putEntry_48 : decode cX4_putEntry 48 = .ok (.aload_n 0, 1) := by decide +kernel
theorem dX4_putEntry_49 : decode cX4_putEntry 49 = .ok (.getfield 10, 3) := by decide +kernel
theorem dX4_putEntry_52 : decode cX4_putEntry 52 = .ok (.iload_n 2, 1) := by decide +kernel
theorem dX4_putEntry_53 : decode cX4_putEntry 53 = .ok (.iload_n 3, 1) := by decide +kernel
theorem dX4_putEntry_54 : decode cX4_putEntry 54 = .ok (.bipush 43, 2) := by decide +kernel
theorem dX4_putEntry_56 : decode cX4_putEntry 56 = .ok (.if_icmp .ne 7, 3) := by decide +kernel
theorem dX4_putEntry_59 : decode cX4_putEntry 59 = .ok (.iconst 0, 1) := by decide +kernel
theorem dX4_putEntry_60 : decode cX4_putEntry 60 = .ok (.goto 4, 3) := by decide +kernel
theorem dX4_putEntry_63 : decode cX4_putEntry 63 = .ok (.iconst 1, 1) := by decide +kernel
theorem dX4_putEntry_64 : decode cX4_putEntry 64 = .ok (.iload 4, 2) := by decide +kernel
theorem dX4_putEntry_66 : decode cX4_putEntry 66 = .ok (.invokevirtual 67, 3) := by decide +kernel
theorem dX4_putEntry_69 : decode cX4_putEntry 69 = .ok (.return_, 1) := by decide +kernel
theorem dJ9_max_7cf53_0 : decode cJ9_max_7cf53 0 = .ok (.iload_n 0, 1) := by decide +kernel
theorem dJ9_max_7cf53_1 : decode cJ9_max_7cf53 1 = .ok (.iload_n 1, 1) := by decide +kernel
theorem dJ9_max_7cf53_2 : decode cJ9_max_7cf53 2 = .ok (.if_icmp .lt 7, 3) := by decide +kernel
theorem dJ9_max_7cf53_5 : decode cJ9_max_7cf53 5 = .ok (.iload_n 0, 1) := by decide +kernel
theorem dJ9_max_7cf53_6 : decode cJ9_max_7cf53 6 = .ok (.goto 4, 3) := by decide +kernel
theorem dJ9_max_7cf53_9 : decode cJ9_max_7cf53 9 = .ok (.iload_n 1, 1) := by decide +kernel
theorem dJ9_max_7cf53_10 : decode cJ9_max_7cf53 10 = .ok (.ireturn, 1) := by decide +kernel
