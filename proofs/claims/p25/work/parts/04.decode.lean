theorem dX0_init_0 : decode cX0_init 0 = .ok (.aload_n 0, 1) := by decide +kernel
theorem dX0_init_1 : decode cX0_init 1 = .ok (.invokespecial 3, 3) := by decide +kernel
theorem dX0_init_4 : decode cX0_init 4 = .ok (.aload_n 0, 1) := by decide +kernel
theorem dX0_init_5 : decode cX0_init 5 = .ok (.bipush 36, 2) := by decide +kernel
theorem dX0_init_7 : decode cX0_init 7 = .ok (.newarray .int, 2) := by decide +kernel
theorem dX0_init_9 : decode cX0_init 9 = .ok (.putfield 9, 3) := by decide +kernel
theorem dX0_init_12 : decode cX0_init 12 = .ok (.aload_n 0, 1) := by decide +kernel
theorem dX0_init_13 : decode cX0_init 13 = .ok (.bipush 36, 2) := by decide +kernel
theorem dX0_init_15 : decode cX0_init 15 = .ok (.newarray .int, 2) := by decide +kernel
theorem dX0_init_17 : decode cX0_init 17 = .ok (.putfield 15, 3) := by decide +kernel
theorem dX0_init_20 : decode cX0_init 20 = .ok (.aload_n 0, 1) := by decide +kernel
theorem dX0_init_21 : decode cX0_init 21 = .ok (.bipush 36, 2) := by decide +kernel
theorem dX0_init_23 : decode cX0_init 23 = .ok (.newarray .int, 2) := by decide +kernel
theorem dX0_init_25 : decode cX0_init 25 = .ok (.putfield 18, 3) := by decide +kernel
theorem dX0_init_28 : decode cX0_init 28 = .ok (.aload_n 0, 1) := by decide +kernel
theorem dX0_init_29 : decode cX0_init 29 = .ok (.iconst 2, 1) := by decide +kernel
theorem dX0_init_30 : decode cX0_init 30 = .ok (.newarray .int, 2) := by decide +kernel
theorem dX0_init_32 : decode cX0_init 32 = .ok (.putfield 21, 3) := by decide +kernel
theorem dX0_init_35 : decode cX0_init 35 = .ok (.iconst 0, 1) := by decide +kernel
theorem dX0_init_36 : decode cX0_init 36 = .ok (.istore_n 1, 1) := by decide +kernel
theorem dX0_init_37 : decode cX0_init 37 = .ok (.iload_n 1, 1) := by decide +kernel
theorem dX0_init_38 : decode cX0_init 38 = .ok (.bipush 36, 2) := by decide +kernel
theorem dX0_init_40 : decode cX0_init 40 = .ok (.if_icmp .ge 23, 3) := by decide +kernel
theorem dX0_init_43 : decode cX0_init 43 = .ok (.aload_n 0, 1) := by decide +kernel
theorem dX0_init_44 : decode cX0_init 44 = .ok (.getfield 15, 3) := by decide +kernel
theorem dX0_init_47 : decode cX0_init 47 = .ok (.iload_n 1, 1) := by decide +kernel
theorem dX0_init_48 : decode cX0_init 48 = .ok (.iconst (-1), 1) := by decide +kernel
theorem dX0_init_49 : decode cX0_init 49 = .ok (.iastore, 1) := by decide +kernel
theorem dX0_init_50 : decode cX0_init 50 = .ok (.aload_n 0, 1) := by decide +kernel
theorem dX0_init_51 : decode cX0_init 51 = .ok (.getfield 18, 3) := by decide +kernel
theorem dX0_init_54 : decode cX0_init 54 = .ok (.iload_n 1, 1) := by decide +kernel
theorem dX0_init_55 : decode cX0_init 55 = .ok (.iconst 1, 1) := by decide +kernel
theorem dX0_init_56 : decode cX0_init 56 = .ok (.iastore, 1) := by decide +kernel
theorem dX0_init_57 : decode cX0_init 57 = .ok (.iinc 1 1, 3) := by decide +kernel
theorem dX0_init_60 : decode cX0_init 60 = .ok (.goto (-23), 3) := by decide +kernel
theorem dX0_init_63 : decode cX0_init 63 = .ok (.return_, 1) := by decide +kernel
theorem dX0_writeTo_0 : decode cX0_writeTo 0 = .ok (.aload_n 0, 1) := by decide +kernel
theorem dX0_writeTo_1 : decode cX0_writeTo 1 = .ok (.getfield 9, 3) := by decide +kernel
theorem dX0_writeTo_4 : decode cX0_writeTo 4 = .ok (.iconst 0, 1) := by decide +kernel
theorem dX0_writeTo_5 : decode cX0_writeTo 5 = .ok (.aload_n 1, 1) := by decide +kernel
theorem dX0_writeTo_6 : decode cX0_writeTo 6 = .ok (.iload_n 2, 1) := by decide +kernel
theorem dX0_writeTo_7 : decode cX0_writeTo 7 = .ok (.bipush 36, 2) := by decide +kernel
theorem dX0_writeTo_9 : decode cX0_writeTo 9 = .ok (.invokestatic 24, 3) := by decide +kernel
theorem dX0_writeTo_12 : decode cX0_writeTo 12 = .ok (.aload_n 0, 1) := by decide +kernel
theorem dX0_writeTo_13 : decode cX0_writeTo 13 = .ok (.getfield 15, 3) := by decide +kernel
theorem dX0_writeTo_16 : decode cX0_writeTo 16 = .ok (.iconst 0, 1) := by decide +kernel
theorem dX0_writeTo_17 : decode cX0_writeTo 17 = .ok (.aload_n 1, 1) := by decide +kernel
theorem dX0_writeTo_18 : decode cX0_writeTo 18 = .ok (.iload_n 2, 1) := by decide +kernel
theorem dX0_writeTo_19 : decode cX0_writeTo 19 = .ok (.bipush 36, 2) := by decide +kernel
theorem dX0_writeTo_21 : decode cX0_writeTo 21 = .ok (.iadd, 1) := by decide +kernel
theorem dX0_writeTo_22 : decode cX0_writeTo 22 = .ok (.bipush 36, 2) := by decide +kernel
theorem dX0_writeTo_24 : decode cX0_writeTo 24 = .ok (.invokestatic 24, 3) := by decide +kernel
theorem dX0_writeTo_27 : decode cX0_writeTo 27 = .ok (.aload_n 0, 1) := by decide +kernel
theorem dX0_writeTo_28 : decode cX0_writeTo 28 = .ok (.getfield 18, 3) := by decide +kernel
theorem dX0_writeTo_31 : decode cX0_writeTo 31 = .ok (.iconst 0, 1) := by decide +kernel
theorem dX0_writeTo_32 : decode cX0_writeTo 32 = .ok (.aload_n 1, 1) := by decide +kernel
theorem dX0_writeTo_33 : decode cX0_writeTo 33 = .ok (.iload_n 2, 1) := by decide +kernel
theorem dX0_writeTo_34 : decode cX0_writeTo 34 = .ok (.bipush 72, 2) := by decide +kernel
theorem dX0_writeTo_36 : decode cX0_writeTo 36 = .ok (.iadd, 1) := by decide +kernel
theorem dX0_writeTo_37 : decode cX0_writeTo 37 = .ok (.bipush 36, 2) := by decide +kernel
theorem dX0_writeTo_39 : decode cX0_writeTo 39 = .ok (.invokestatic 24, 3) := by decide +kernel
theorem dX0_writeTo_42 : decode cX0_writeTo 42 = .ok (.aload_n 0, 1) := by decide +kernel
theorem dX0_writeTo_43 : decode cX0_writeTo 43 = .ok (.getfield 21, 3) := by decide +kernel
theorem dX0_writeTo_46 : decode cX0_writeTo 46 = .ok (.iconst 0, 1) := by decide +kernel
theorem dX0_writeTo_47 : decode cX0_writeTo 47 = .ok (.aload_n 1, 1) := by decide +kernel
theorem dX0_writeTo_48 : decode cX0_writeTo 48 = .ok (.iload_n 2, 1) := by decide +kernel
theorem dX0_writeTo_49 : decode cX0_writeTo 49 = .ok (.bipush 108, 2) := by decide +kernel
theorem dX0_writeTo_51 : decode cX0_writeTo 51 = .ok (.iadd, 1) := by decide +kernel
theorem dX0_writeTo_52 : decode cX0_writeTo 52 = .ok (.iconst 2, 1) := by decide +kernel
theorem dX0_writeTo_53 : decode cX0_writeTo 53 = .ok (.invokestatic 24, 3) := by decide +kernel
theorem dX0_writeTo_56 : decode cX0_writeTo 56 = .ok (.iload_n 2, 1) := by decide +kernel
theorem dX0_writeTo_57 : decode cX0_writeTo 57 = .ok (.bipush 108, 2) := by decide +kernel
theorem dX0_writeTo_59 : decode cX0_writeTo 59 = .ok (.iadd, 1) := by decide +kernel
theorem dX0_writeTo_60 : decode cX0_writeTo 60 = .ok (.iconst 2, 1) := by decide +kernel
theorem dX0_writeTo_61 : decode cX0_writeTo 61 = .ok (.iadd, 1) := by decide +kernel
theorem dX0_writeTo_62 : decode cX0_writeTo 62 = .ok (.istore_n 3, 1) := by decide +kernel
theorem dX0_writeTo_63 : decode cX0_writeTo 63 = .ok (.aload_n 1, 1) := by decide +kernel
theorem dX0_writeTo_64 : decode cX0_writeTo 64 = .ok (.iload_n 3, 1) := by decide +kernel
theorem dX0_writeTo_65 : decode cX0_writeTo 65 = .ok (.aload_n 0, 1) := by decide +kernel
theorem dX0_writeTo_66 : decode cX0_writeTo 66 = .ok (.getfield 30, 3) := by decide +kernel
theorem dX0_writeTo_69 : decode cX0_writeTo 69 = .ok (.iastore, 1) := by decide +kernel
theorem dX0_writeTo_70 : decode cX0_writeTo 70 = .ok (.aload_n 1, 1) := by decide +kernel
theorem dX0_writeTo_71 : decode cX0_writeTo 71 = .ok (.iload_n 3, 1) := by decide +kernel
theorem dX0_writeTo_72 : decode cX0_writeTo 72 = .ok (.iconst 1, 1) := by decide +kernel
theorem dX0_writeTo_73 : decode cX0_writeTo 73 = .ok (.iadd, 1) := by decide +kernel
theorem dX0_writeTo_74 : decode cX0_writeTo 74 = .ok (.aload_n 0, 1) := by decide +kernel
theorem dX0_writeTo_75 : decode cX0_writeTo 75 = .ok (.getfield 34, 3) := by decide +kernel
theorem dX0_writeTo_78 : decode cX0_writeTo 78 = .ok (.iastore, 1) := by decide +kernel
theorem dX0_writeTo_79 : decode cX0_writeTo 79 = .ok (.aload_n 1, 1) := by decide +kernel
theorem dX0_writeTo_80 : decode cX0_writeTo 80 = .ok (.iload_n 3, 1) := by decide +kernel
theorem dX0_writeTo_81 : decode cX0_writeTo 81 = .ok (.iconst 2, 1) := by decide +kernel
theorem dX0_writeTo_82 : decode cX0_writeTo 82 = .ok (.iadd, 1) := by decide +kernel
theorem dX0_writeTo_83 : decode cX0_writeTo 83 = .ok (.aload_n 0, 1) := by decide +kernel
theorem dX0_writeTo_84 : decode cX0_writeTo 84 = .ok (.getfield 37, 3) := by decide +kernel
theorem dX0_writeTo_87 : decode cX0_writeTo 87 = .ok (.iastore, 1) := by decide +kernel
theorem dX0_writeTo_88 : decode cX0_writeTo 88 = .ok (.aload_n 1, 1) := by decide +kernel
theorem dX0_writeTo_89 : decode cX0_writeTo 89 = .ok (.iload_n 3, 1) := by decide +kernel
theorem dX0_writeTo_90 : decode cX0_writeTo 90 = .ok (.iconst 3, 1) := by decide +kernel
theorem dX0_writeTo_91 : decode cX0_writeTo 91 = .ok (.iadd, 1) := by decide +kernel
theorem dX0_writeTo_92 : decode cX0_writeTo 92 = .ok (.aload_n 0, 1) := by decide +kernel
theorem dX0_writeTo_93 : decode cX0_writeTo 93 = .ok (.getfield 40, 3) := by decide +kernel
theorem dX0_writeTo_96 : decode cX0_writeTo 96 = .ok (.iastore, 1) := by decide +kernel
theorem dX0_writeTo_97 : decode cX0_writeTo 97 = .ok (.return_, 1) := by decide +kernel
theorem dX0_readFrom_0 : decode cX0_readFrom 0 = .ok (.aload_n 1, 1) := by decide +kernel
theorem dX0_readFrom_1 : decode cX0_readFrom 1 = .ok (.iload_n 2, 1) := by decide +kernel
theorem dX0_readFrom_2 : decode cX0_readFrom 2 = .ok (.aload_n 0, 1) := by decide +kernel
theorem dX0_readFrom_3 : decode cX0_readFrom 3 = .ok (.getfield 9, 3) := by decide +kernel
theorem dX0_readFrom_6 : decode cX0_readFrom 6 = .ok (.iconst 0, 1) := by decide +kernel
theorem dX0_readFrom_7 : decode cX0_readFrom 7 = .ok (.bipush 36, 2) := by decide +kernel
theorem dX0_readFrom_9 : decode cX0_readFrom 9 = .ok (.invokestatic 24, 3) := by decide +kernel
theorem dX0_readFrom_12 : decode cX0_readFrom 12 = .ok (.aload_n 1, 1) := by decide +kernel
theorem dX0_readFrom_13 : decode cX0_readFrom 13 = .ok (.iload_n 2, 1) := by decide +kernel
theorem dX0_readFrom_14 : decode cX0_readFrom 14 = .ok (.bipush 36, 2) := by decide +kernel
theorem dX0_readFrom_16 : decode cX0_readFrom 16 = .ok (.iadd, 1) := by decide +kernel
theorem dX0_readFrom_17 : decode cX0_readFrom 17 = .ok (.aload_n 0, 1) := by decide +kernel
theorem dX0_readFrom_18 : decode cX0_readFrom 18 = .ok (.getfield 15, 3) := by decide +kernel
theorem dX0_readFrom_21 : decode cX0_readFrom 21 = .ok (.iconst 0, 1) := by decide +kernel
theorem dX0_readFrom_22 : decode cX0_readFrom 22 = .ok (.bipush 36, 2) := by decide +kernel
theorem dX0_readFrom_24 : decode cX0_readFrom 24 = .ok (.invokestatic 24, 3) := by decide +kernel
theorem dX0_readFrom_27 : decode cX0_readFrom 27 = .ok (.aload_n 1, 1) := by decide +kernel
theorem dX0_readFrom_28 : decode cX0_readFrom 28 = .ok (.iload_n 2, 1) := by decide +kernel
theorem dX0_readFrom_29 : decode cX0_readFrom 29 = .ok (.bipush 72, 2) := by decide +kernel
theorem dX0_readFrom_31 : decode cX0_readFrom 31 = .ok (.iadd, 1) := by decide +kernel
theorem dX0_readFrom_32 : decode cX0_readFrom 32 = .ok (.aload_n 0, 1) := by decide +kernel
theorem dX0_readFrom_33 : decode cX0_readFrom 33 = .ok (.getfield 18, 3) := by decide +kernel
theorem dX0_readFrom_36 : decode cX0_readFrom 36 = .ok (.iconst 0, 1) := by decide +kernel
theorem dX0_readFrom_37 : decode cX0_readFrom 37 = .ok (.bipush 36, 2) := by decide +kernel
theorem dX0_readFrom_39 : decode cX0_readFrom 39 = .ok (.invokestatic 24, 3) := by decide +kernel
theorem dX0_readFrom_42 : decode cX0_readFrom 42 = .ok (.aload_n 1, 1) := by decide +kernel
theorem dX0_readFrom_43 : decode cX0_readFrom 43 = .ok (.iload_n 2, 1) := by decide +kernel
theorem dX0_readFrom_44 : decode cX0_readFrom 44 = .ok (.bipush 108, 2) := by decide +kernel
theorem dX0_readFrom_46 : decode cX0_readFrom 46 = .ok (.iadd, 1) := by decide +kernel
theorem dX0_readFrom_47 : decode cX0_readFrom 47 = .ok (.aload_n 0, 1) := by decide +kernel
theorem dX0_readFrom_48 : decode cX0_readFrom 48 = .ok (.getfield 21, 3) := by decide +kernel
theorem dX0_readFrom_51 : decode cX0_readFrom 51 = .ok (.iconst 0, 1) := by decide +kernel
theorem dX0_readFrom_52 : decode cX0_readFrom 52 = .ok (.iconst 2, 1) := by decide +kernel
theorem dX0_readFrom_53 : decode cX0_readFrom 53 = .ok (.invokestatic 24, 3) := by decide +kernel
theorem dX0_readFrom_56 : decode cX0_readFrom 56 = .ok (.iload_n 2, 1) := by decide +kernel
theorem dX0_readFrom_57 : decode cX0_readFrom 57 = .ok (.bipush 108, 2) := by decide +kernel
theorem dX0_readFrom_59 : decode cX0_readFrom 59 = .ok (.iadd, 1) := by decide +kernel
theorem dX0_readFrom_60 : decode cX0_readFrom 60 = .ok (.iconst 2, 1) := by decide +kernel
theorem dX0_readFrom_61 : decode cX0_readFrom 61 = .ok (.iadd, 1) := by decide +kernel
theorem dX0_readFrom_62 : decode cX0_readFrom 62 = .ok (.istore_n 3, 1) := by decide +kernel
theorem dX0_readFrom_63 : decode cX0_readFrom 63 = .ok (.aload_n 0, 1) := by decide +kernel
theorem dX0_readFrom_64 : decode cX0_readFrom 64 = .ok (.aload_n 1, 1) := by decide +kernel
theorem dX0_readFrom_65 : decode cX0_readFrom 65 = .ok (.iload_n 3, 1) := by decide +kernel
theorem dX0_readFrom_66 : decode cX0_readFrom 66 = .ok (.iaload, 1) := by decide +kernel
theorem dX0_readFrom_67 : decode cX0_readFrom 67 = .ok (.putfield 30, 3) := by decide +kernel
theorem dX0_readFrom_70 : decode cX0_readFrom 70 = .ok (.aload_n 0, 1) := by decide +kernel
theorem dX0_readFrom_71 : decode cX0_readFrom 71 = .ok (.aload_n 1, 1) := by decide +kernel
theorem dX0_readFrom_72 : decode cX0_readFrom 72 = .ok (.iload_n 3, 1) := by decide +kernel
theorem dX0_readFrom_73 : decode cX0_readFrom 73 = .ok (.iconst 1, 1) := by decide +kernel
theorem dX0_readFrom_74 : decode cX0_readFrom 74 = .ok (.iadd, 1) := by decide +kernel
theorem dX0_readFrom_75 : decode cX0_readFrom 75 = .ok (.iaload, 1) := by decide +kernel
theorem dX0_readFrom_76 : decode cX0_readFrom 76 = .ok (.putfield 34, 3) := by decide +kernel
theorem dX0_readFrom_79 : decode cX0_readFrom 79 = .ok (.aload_n 0, 1) := by decide +kernel
theorem dX0_readFrom_80 : decode cX0_readFrom 80 = .ok (.aload_n 1, 1) := by decide +kernel
theorem dX0_readFrom_81 : decode cX0_readFrom 81 = .ok (.iload_n 3, 1) := by decide +kernel
theorem dX0_readFrom_82 : decode cX0_readFrom 82 = .ok (.iconst 2, 1) := by decide +kernel
theorem dX0_readFrom_83 : decode cX0_readFrom 83 = .ok (.iadd, 1) := by decide +kernel
theorem dX0_readFrom_84 : decode cX0_readFrom 84 = .ok (.iaload, 1) := by decide +kernel
theorem dX0_readFrom_85 : decode cX0_readFrom 85 = .ok (.putfield 37, 3) := by decide +kernel
theorem dX0_readFrom_88 : decode cX0_readFrom 88 = .ok (.aload_n 0, 1) := by decide +kernel
theorem dX0_readFrom_89 : decode cX0_readFrom 89 = .ok (.aload_n 1, 1) := by decide +kernel
theorem dX0_readFrom_90 : decode cX0_readFrom 90 = .ok (.iload_n 3, 1) := by decide +kernel
theorem dX0_readFrom_91 : decode cX0_readFrom 91 = .ok (.iconst 3, 1) := by decide +kernel
theorem dX0_readFrom_92 : decode cX0_readFrom 92 = .ok (.iadd, 1) := by decide +kernel
theorem dX0_readFrom_93 : decode cX0_readFrom 93 = .ok (.iaload, 1) := by decide +kernel
theorem dX0_readFrom_94 : decode cX0_readFrom 94 = .ok (.putfield 40, 3) := by decide +kernel
theorem dX0_readFrom_97 : decode cX0_readFrom 97 = .ok (.return_, 1) := by decide +kernel
theorem dX0_putTower_0 : decode cX0_putTower 0 = .ok (.aload_n 0, 1) := by decide +kernel
theorem dX0_putTower_1 : decode cX0_putTower 1 = .ok (.getfield 15, 3) := by decide +kernel
theorem dX0_putTower_4 : decode cX0_putTower 4 = .ok (.iload_n 1, 1) := by decide +kernel
theorem dX0_putTower_5 : decode cX0_putTower 5 = .ok (.iload_n 2, 1) := by decide +kernel
theorem dX0_putTower_6 : decode cX0_putTower 6 = .ok (.iastore, 1) := by decide +kernel
theorem dX0_putTower_7 : decode cX0_putTower 7 = .ok (.aload_n 0, 1) := by decide +kernel
theorem dX0_putTower_8 : decode cX0_putTower 8 = .ok (.getfield 9, 3) := by decide +kernel
theorem dX0_putTower_11 : decode cX0_putTower 11 = .ok (.iload_n 1, 1) := by decide +kernel
theorem dX0_putTower_12 : decode cX0_putTower 12 = .ok (.iload_n 3, 1) := by decide +kernel
theorem dX0_putTower_13 : decode cX0_putTower 13 = .ok (.iastore, 1) := by decide +kernel
theorem dX0_putTower_14 : decode cX0_putTower 14 = .ok (.return_, 1) := by decide +kernel
set_option maxRecDepth 20000 in
theorem ggX0_endTurn_X0_payNow : GoodIn wsX0_endTurn wsX0_payNow := goodIn_r _ [9, 10, 2, 11, 12, 13, 14, 8, 15, 16, 17, 18, 19, 20, 21, 22, 23, 24, 25, 26, 27, 28, 29, 30, 31, 32, 33, 34, 35, 36, 37] (by decide +kernel) (by decide +kernel)
set_option maxRecDepth 20000 in
theorem gX0_endTurn_X0_payNow : GoodIn wsX0_endTurn (wsV RX0 43 RX0 yX0_payNow wsX0_payNow) := goodIn_app (goodIn_of _ (by decide +kernel)) ggX0_endTurn_X0_payNow
theorem dX0_endTurn_0 : decode cX0_endTurn 0 = .ok (.iconst 0, 1) := by decide +kernel
theorem dX0_endTurn_1 : decode cX0_endTurn 1 = .ok (.istore_n 1, 1) := by decide +kernel
theorem dX0_endTurn_2 : decode cX0_endTurn 2 = .ok (.iload_n 1, 1) := by decide +kernel
theorem dX0_endTurn_3 : decode cX0_endTurn 3 = .ok (.iconst 2, 1) := by decide +kernel
theorem dX0_endTurn_4 : decode cX0_endTurn 4 = .ok (.if_icmp .ge 23, 3) := by decide +kernel
theorem dX0_endTurn_7 : decode cX0_endTurn 7 = .ok (.aload_n 0, 1) := by decide +kernel
theorem dX0_endTurn_8 : decode cX0_endTurn 8 = .ok (.getfield 21, 3) := by decide +kernel
theorem dX0_endTurn_11 : decode cX0_endTurn 11 = .ok (.iload_n 1, 1) := by decide +kernel
theorem dX0_endTurn_12 : decode cX0_endTurn 12 = .ok (.dup2, 1) := by decide +kernel
theorem dX0_endTurn_13 : decode cX0_endTurn 13 = .ok (.iaload, 1) := by decide +kernel
theorem dX0_endTurn_14 : decode cX0_endTurn 14 = .ok (.aload_n 0, 1) := by decide +kernel
theorem dX0_endTurn_15 : decode cX0_endTurn 15 = .ok (.iload_n 1, 1) := by decide +kernel
theorem dX0_endTurn_16 : decode cX0_endTurn 16 = .ok (.invokevirtual 43, 3) := by decide +kernel
theorem dX0_endTurn_19 : decode cX0_endTurn 19 = .ok (.iadd, 1) := by decide +kernel
theorem dX0_endTurn_20 : decode cX0_endTurn 20 = .ok (.iastore, 1) := by decide +kernel
theorem dX0_endTurn_21 : decode cX0_endTurn 21 = .ok (.iinc 1 1, 3) := by decide +kernel
theorem dX0_endTurn_24 : decode cX0_endTurn 24 = .ok (.goto (-22), 3) := by decide +kernel
theorem dX0_endTurn_27 : decode cX0_endTurn 27 = .ok (.aload_n 0, 1) := by decide +kernel
theorem dX0_endTurn_28 : decode cX0_endTurn 28 = .ok (.aload_n 0, 1) := by decide +kernel
theorem dX0_endTurn_29 : decode cX0_endTurn 29 = .ok (.getfield 30, 3) := by decide +kernel
theorem dX0_endTurn_32 : decode cX0_endTurn 32 = .ok (.iconst 1, 1) := by decide +kernel
theorem dX0_endTurn_33 : decode cX0_endTurn 33 = .ok (.iadd, 1) := by decide +kernel
theorem dX0_endTurn_34 : decode cX0_endTurn 34 = .ok (.bipush 12, 2) := by decide +kernel
theorem dX0_endTurn_36 : decode cX0_endTurn 36 = .ok (.irem, 1) := by decide +kernel
theorem dX0_endTurn_37 : decode cX0_endTurn 37 = .ok (.putfield 30, 3) := by decide +kernel
theorem dX0_endTurn_40 : decode cX0_endTurn 40 = .ok (.aload_n 0, 1) := by decide +kernel
theorem dX0_endTurn_41 : decode cX0_endTurn 41 = .ok (.iconst 1, 1) := by decide +kernel
theorem dX0_endTurn_42 : decode cX0_endTurn 42 = .ok (.aload_n 0, 1) := by decide +kernel
theorem dX0_endTurn_43 : decode cX0_endTurn 43 = .ok (.getfield 34, 3) := by decide +kernel
theorem dX0_endTurn_46 : decode cX0_endTurn 46 = .ok (.isub, 1) := by decide +kernel
theorem dX0_endTurn_47 : decode cX0_endTurn 47 = .ok (.putfield 34, 3) := by decide +kernel
theorem dX0_endTurn_50 : decode cX0_endTurn 50 = .ok (.aload_n 0, 1) := by decide +kernel
theorem dX0_endTurn_51 : decode cX0_endTurn 51 = .ok (.dup, 1) := by decide +kernel
theorem dX0_endTurn_52 : decode cX0_endTurn 52 = .ok (.getfield 37, 3) := by decide +kernel
theorem dX0_endTurn_55 : decode cX0_endTurn 55 = .ok (.iconst 1, 1) := by decide +kernel
theorem dX0_endTurn_56 : decode cX0_endTurn 56 = .ok (.iadd, 1) := by decide +kernel
theorem dX0_endTurn_57 : decode cX0_endTurn 57 = .ok (.putfield 37, 3) := by decide +kernel
theorem dX0_endTurn_60 : decode cX0_endTurn 60 = .ok (.return_, 1) := by decide +kernel
set_option maxRecDepth 20000 in
theorem ggX0_refusalReason_X0_isDark : GoodIn wsX0_refusalReason wsX0_isDark := goodIn_r _ [9, 3, 10, 11, 12, 13, 14, 15, 16, 17, 18, 19, 20, 21, 22, 23, 24, 25, 26, 27, 28, 29, 30] (by decide +kernel) (by decide +kernel)
set_option maxRecDepth 20000 in
theorem gX0_refusalReason_X0_isDark : GoodIn wsX0_refusalReason (wsV RX0 47 RX0 yX0_isDark wsX0_isDark) := goodIn_app (goodIn_of _ (by decide +kernel)) ggX0_refusalReason_X0_isDark
theorem dX0_refusalReason_0 : decode cX0_refusalReason 0 = .ok (.aload_n 0, 1) := by decide +kernel
theorem dX0_refusalReason_1 : decode cX0_refusalReason 1 = .ok (.getfield 15, 3) := by decide +kernel
theorem dX0_refusalReason_4 : decode cX0_refusalReason 4 = .ok (.iload_n 1, 1) := by decide +kernel
theorem dX0_refusalReason_5 : decode cX0_refusalReason 5 = .ok (.iaload, 1) := by decide +kernel
theorem dX0_refusalReason_6 : decode cX0_refusalReason 6 = .ok (.iconst 1, 1) := by decide +kernel
theorem dX0_refusalReason_7 : decode cX0_refusalReason 7 = .ok (.aload_n 0, 1) := by decide +kernel
theorem dX0_refusalReason_8 : decode cX0_refusalReason 8 = .ok (.getfield 34, 3) := by decide +kernel
theorem dX0_refusalReason_11 : decode cX0_refusalReason 11 = .ok (.isub, 1) := by decide +kernel
theorem dX0_refusalReason_12 : decode cX0_refusalReason 12 = .ok (.if_icmp .ne 5, 3) := by decide +kernel
theorem dX0_refusalReason_15 : decode cX0_refusalReason 15 = .ok (.iconst 1, 1) := by decide +kernel
theorem dX0_refusalReason_16 : decode cX0_refusalReason 16 = .ok (.ireturn, 1) := by decide +kernel
theorem dX0_refusalReason_17 : decode cX0_refusalReason 17 = .ok (.aload_n 0, 1) := by decide +kernel
theorem dX0_refusalReason_18 : decode cX0_refusalReason 18 = .ok (.getfield 9, 3) := by decide +kernel
theorem dX0_refusalReason_21 : decode cX0_refusalReason 21 = .ok (.iload_n 1, 1) := by decide +kernel
theorem dX0_refusalReason_22 : decode cX0_refusalReason 22 = .ok (.iaload, 1) := by decide +kernel
theorem dX0_refusalReason_23 : decode cX0_refusalReason 23 = .ok (.bipush 9, 2) := by decide +kernel
theorem dX0_refusalReason_25 : decode cX0_refusalReason 25 = .ok (.if_icmp .ne 5, 3) := by decide +kernel
theorem dX0_refusalReason_28 : decode cX0_refusalReason 28 = .ok (.iconst 2, 1) := by decide +kernel
theorem dX0_refusalReason_29 : decode cX0_refusalReason 29 = .ok (.ireturn, 1) := by decide +kernel
theorem dX0_refusalReason_30 : decode cX0_refusalReason 30 = .ok (.aload_n 0, 1) := by decide +kernel
theorem dX0_refusalReason_31 : decode cX0_refusalReason 31 = .ok (.iload_n 1, 1) := by decide +kernel
theorem dX0_refusalReason_32 : decode cX0_refusalReason 32 = .ok (.aload_n 0, 1) := by decide +kernel
theorem dX0_refusalReason_33 : decode cX0_refusalReason 33 = .ok (.getfield 30, 3) := by decide +kernel
theorem dX0_refusalReason_36 : decode cX0_refusalReason 36 = .ok (.invokevirtual 47, 3) := by decide +kernel
theorem dX0_refusalReason_39 : decode cX0_refusalReason 39 = .ok (.ifCond .eq 7, 3) := by decide +kernel
theorem dX0_refusalReason_42 : decode cX0_refusalReason 42 = .ok (.iconst 3, 1) := by decide +kernel
theorem dX0_refusalReason_43 : decode cX0_refusalReason 43 = .ok (.goto 4, 3) := by decide +kernel
theorem dX0_refusalReason_46 : decode cX0_refusalReason 46 = .ok (.iconst 0, 1) := by decide +kernel
theorem dX0_refusalReason_47 : decode cX0_refusalReason 47 = .ok (.ireturn, 1) := by decide +kernel
set_option maxRecDepth 20000 in
theorem ggX0_worthOfRaising_X0_refusalReason : GoodIn wsX0_worthOfRaising wsX0_refusalReason := goodIn_r _ [8, 1, 3, 2, 9, 10, 11, 12, 7, 13, 14, 15, 16, 17, 18, 19, 20, 21, 22, 23, 24, 25, 26, 36, 37, 38, 39, 40, 41, 42, 43] (by decide +kernel) (by decide +kernel)
set_option maxRecDepth 20000 in
theorem gX0_worthOfRaising_X0_refusalReason : GoodIn wsX0_worthOfRaising (wsV RX0 51 RX0 yX0_refusalReason wsX0_refusalReason) := goodIn_app (goodIn_of _ (by decide +kernel)) ggX0_worthOfRaising_X0_refusalReason
set_option maxRecDepth 20000 in
theorem ggX0_worthOfRaising_X0_putTower : GoodIn wsX0_worthOfRaising wsX0_putTower := goodIn_r _ [30, 1, 2, 36, 37, 38, 39, 40, 41, 42, 43] (by decide +kernel) (by decide +kernel)
set_option maxRecDepth 20000 in
theorem gX0_worthOfRaising_X0_putTower : GoodIn wsX0_worthOfRaising (wsV RX0 54 RX0 yX0_putTower wsX0_putTower) := goodIn_app (goodIn_of _ (by decide +kernel)) ggX0_worthOfRaising_X0_putTower
set_option maxRecDepth 20000 in
theorem ggX0_worthOfRaising_X0_payNow : GoodIn wsX0_worthOfRaising wsX0_payNow := goodIn_r _ [34, 1, 9, 35, 10, 11, 12, 7, 13, 2, 14, 15, 16, 17, 18, 19, 20, 21, 22, 23, 24, 25, 26, 36, 37, 38, 39, 40, 41, 42, 43] (by decide +kernel) (by decide +kernel)
set_option maxRecDepth 20000 in
theorem gX0_worthOfRaising_X0_payNow : GoodIn wsX0_worthOfRaising (wsV RX0 43 RX0 yX0_payNow wsX0_payNow) := goodIn_app (goodIn_of _ (by decide +kernel)) ggX0_worthOfRaising_X0_payNow
theorem dX0_worthOfRaising_0 : decode cX0_worthOfRaising 0 = .ok (.aload_n 0, 1) := by decide +kernel
theorem dX0_worthOfRaising_1 : decode cX0_worthOfRaising 1 = .ok (.iload_n 1, 1) := by decide +kernel
theorem dX0_worthOfRaising_2 : decode cX0_worthOfRaising 2 = .ok (.invokevirtual 51, 3) := by decide +kernel
theorem dX0_worthOfRaising_5 : decode cX0_worthOfRaising 5 = .ok (.ifCond .eq 7, 3) := by decide +kernel
theorem dX0_worthOfRaising_8 : decode cX0_worthOfRaising 8 = .ok (.sipush (-999), 3) := by decide +kernel
theorem dX0_worthOfRaising_11 : decode cX0_worthOfRaising 11 = .ok (.ireturn, 1) := by decide +kernel
theorem dX0_worthOfRaising_12 : decode cX0_worthOfRaising 12 = .ok (.aload_n 0, 1) := by decide +kernel
theorem dX0_worthOfRaising_13 : decode cX0_worthOfRaising 13 = .ok (.getfield 15, 3) := by decide +kernel
theorem dX0_worthOfRaising_16 : decode cX0_worthOfRaising 16 = .ok (.iload_n 1, 1) := by decide +kernel
theorem dX0_worthOfRaising_17 : decode cX0_worthOfRaising 17 = .ok (.iaload, 1) := by decide +kernel
theorem dX0_worthOfRaising_18 : decode cX0_worthOfRaising 18 = .ok (.istore_n 2, 1) := by decide +kernel
theorem dX0_worthOfRaising_19 : decode cX0_worthOfRaising 19 = .ok (.aload_n 0, 1) := by decide +kernel
theorem dX0_worthOfRaising_20 : decode cX0_worthOfRaising 20 = .ok (.getfield 9, 3) := by decide +kernel
theorem dX0_worthOfRaising_23 : decode cX0_worthOfRaising 23 = .ok (.iload_n 1, 1) := by decide +kernel
theorem dX0_worthOfRaising_24 : decode cX0_worthOfRaising 24 = .ok (.iaload, 1) := by decide +kernel
theorem dX0_worthOfRaising_25 : decode cX0_worthOfRaising 25 = .ok (.istore_n 3, 1) := by decide +kernel
theorem dX0_worthOfRaising_26 : decode cX0_worthOfRaising 26 = .ok (.aload_n 0, 1) := by decide +kernel
theorem dX0_worthOfRaising_27 : decode cX0_worthOfRaising 27 = .ok (.iload_n 1, 1) := by decide +kernel
theorem dX0_worthOfRaising_28 : decode cX0_worthOfRaising 28 = .ok (.aload_n 0, 1) := by decide +kernel
theorem dX0_worthOfRaising_29 : decode cX0_worthOfRaising 29 = .ok (.getfield 34, 3) := by decide +kernel
theorem dX0_worthOfRaising_32 : decode cX0_worthOfRaising 32 = .ok (.iload_n 3, 1) := by decide +kernel
theorem dX0_worthOfRaising_33 : decode cX0_worthOfRaising 33 = .ok (.iconst 1, 1) := by decide +kernel
theorem dX0_worthOfRaising_34 : decode cX0_worthOfRaising 34 = .ok (.iadd, 1) := by decide +kernel
theorem dX0_worthOfRaising_35 : decode cX0_worthOfRaising 35 = .ok (.invokevirtual 54, 3) := by decide +kernel
theorem dX0_worthOfRaising_38 : decode cX0_worthOfRaising 38 = .ok (.aload_n 0, 1) := by decide +kernel
theorem dX0_worthOfRaising_39 : decode cX0_worthOfRaising 39 = .ok (.aload_n 0, 1) := by decide +kernel
theorem dX0_worthOfRaising_40 : decode cX0_worthOfRaising 40 = .ok (.getfield 34, 3) := by decide +kernel
theorem dX0_worthOfRaising_43 : decode cX0_worthOfRaising 43 = .ok (.invokevirtual 43, 3) := by decide +kernel
theorem dX0_worthOfRaising_46 : decode cX0_worthOfRaising 46 = .ok (.aload_n 0, 1) := by decide +kernel
theorem dX0_worthOfRaising_47 : decode cX0_worthOfRaising 47 = .ok (.iconst 1, 1) := by decide +kernel
theorem dX0_worthOfRaising_48 : decode cX0_worthOfRaising 48 = .ok (.aload_n 0, 1) := by decide +kernel
theorem dX0_worthOfRaising_49 : decode cX0_worthOfRaising 49 = .ok (.getfield 34, 3) := by decide +kernel
theorem dX0_worthOfRaising_52 : decode cX0_worthOfRaising 52 = .ok (.isub, 1) := by decide +kernel
theorem dX0_worthOfRaising_53 : decode cX0_worthOfRaising 53 = .ok (.invokevirtual 43, 3) := by decide +kernel
theorem dX0_worthOfRaising_56 : decode cX0_worthOfRaising 56 = .ok (.isub, 1) := by decide +kernel
theorem dX0_worthOfRaising_57 : decode cX0_worthOfRaising 57 = .ok (.istore 4, 2) := by decide +kernel
theorem dX0_worthOfRaising_59 : decode cX0_worthOfRaising 59 = .ok (.aload_n 0, 1) := by decide +kernel
theorem dX0_worthOfRaising_60 : decode cX0_worthOfRaising 60 = .ok (.iload_n 1, 1) := by decide +kernel
theorem dX0_worthOfRaising_61 : decode cX0_worthOfRaising 61 = .ok (.iload_n 2, 1) := by decide +kernel
theorem dX0_worthOfRaising_62 : decode cX0_worthOfRaising 62 = .ok (.iload_n 3, 1) := by decide +kernel
theorem dX0_worthOfRaising_63 : decode cX0_worthOfRaising 63 = .ok (.invokevirtual 54, 3) := by decide +kernel
theorem dX0_worthOfRaising_66 : decode cX0_worthOfRaising 66 = .ok (.iload 4, 2) := by decide +kernel
theorem dX0_worthOfRaising_68 : decode cX0_worthOfRaising 68 = .ok (.ireturn, 1) := by decide +kernel
set_option maxRecDepth 20000 in
theorem ggX0_isDark_X3_side : GoodIn wsX0_isDark wsX3_side := goodIn_r _ [5] (by decide +kernel) (by decide +kernel)
set_option maxRecDepth 20000 in
theorem gX0_isDark_X3_side : GoodIn wsX0_isDark (va_wsS RX0 58 yX3_side wsX3_side) := goodIn_app (goodIn_of _ (by decide +kernel)) ggX0_isDark_X3_side
set_option maxRecDepth 20000 in
theorem ggX0_isDark_X3_steepness : GoodIn wsX0_isDark wsX3_steepness := goodIn_r _ [8] (by decide +kernel) (by decide +kernel)
set_option maxRecDepth 20000 in
theorem gX0_isDark_X3_steepness : GoodIn wsX0_isDark (va_wsS RX0 63 yX3_steepness wsX3_steepness) := goodIn_app (goodIn_of _ (by decide +kernel)) ggX0_isDark_X3_steepness
set_option maxRecDepth 20000 in
theorem ggX0_isDark_X3_stepTowardSun : GoodIn wsX0_isDark wsX3_stepTowardSun := goodIn_r _ [11] (by decide +kernel) (by decide +kernel)
set_option maxRecDepth 20000 in
theorem gX0_isDark_X3_stepTowardSun : GoodIn wsX0_isDark (va_wsS RX0 66 yX3_stepTowardSun wsX3_stepTowardSun) := goodIn_app (goodIn_of _ (by decide +kernel)) ggX0_isDark_X3_stepTowardSun
set_option maxRecDepth 20000 in
theorem ggX0_isDark_X3_squaresTowardSun : GoodIn wsX0_isDark wsX3_squaresTowardSun := goodIn_r _ [14] (by decide +kernel) (by decide +kernel)
set_option maxRecDepth 20000 in
theorem gX0_isDark_X3_squaresTowardSun : GoodIn wsX0_isDark (va_wsS RX0 69 yX3_squaresTowardSun wsX3_squaresTowardSun) := goodIn_app (goodIn_of _ (by decide +kernel)) ggX0_isDark_X3_squaresTowardSun
theorem dX0_isDark_0 : decode cX0_isDark 0 = .ok (.iload_n 2, 1) := by decide +kernel
theorem dX0_isDark_1 : decode cX0_isDark 1 = .ok (.invokestatic 58, 3) := by decide +kernel
theorem dX0_isDark_4 : decode cX0_isDark 4 = .ok (.istore_n 3, 1) := by decide +kernel
theorem dX0_isDark_5 : decode cX0_isDark 5 = .ok (.iload_n 2, 1) := by decide +kernel
theorem dX0_isDark_6 : decode cX0_isDark 6 = .ok (.invokestatic 63, 3) := by decide +kernel
theorem dX0_isDark_9 : decode cX0_isDark 9 = .ok (.istore 4, 2) := by decide +kernel
theorem dX0_isDark_11 : decode cX0_isDark 11 = .ok (.iload_n 3, 1) := by decide +kernel
theorem dX0_isDark_12 : decode cX0_isDark 12 = .ok (.invokestatic 66, 3) := by decide +kernel
theorem dX0_isDark_15 : decode cX0_isDark 15 = .ok (.istore 5, 2) := by decide +kernel
theorem dX0_isDark_17 : decode cX0_isDark 17 = .ok (.iload_n 3, 1) := by decide +kernel
theorem dX0_isDark_18 : decode cX0_isDark 18 = .ok (.iload_n 1, 1) := by decide +kernel
theorem dX0_isDark_19 : decode cX0_isDark 19 = .ok (.invokestatic 69, 3) := by decide +kernel
theorem dX0_isDark_22 : decode cX0_isDark 22 = .ok (.istore 6, 2) := by decide +kernel
theorem dX0_isDark_24 : decode cX0_isDark 24 = .ok (.iconst 1, 1) := by decide +kernel
theorem dX0_isDark_25 : decode cX0_isDark 25 = .ok (.istore 7, 2) := by decide +kernel
theorem dX0_isDark_27 : decode cX0_isDark 27 = .ok (.iload 7, 2) := by decide +kernel
theorem dX0_isDark_29 : decode cX0_isDark 29 = .ok (.iload 6, 2) := by decide +kernel
theorem dX0_isDark_31 : decode cX0_isDark 31 = .ok (.if_icmp .gt 38, 3) := by decide +kernel
theorem dX0_isDark_34 : decode cX0_isDark 34 = .ok (.aload_n 0, 1) := by decide +kernel
theorem dX0_isDark_35 : decode cX0_isDark 35 = .ok (.getfield 9, 3) := by decide +kernel
theorem dX0_isDark_38 : decode cX0_isDark 38 = .ok (.iload_n 1, 1) := by decide +kernel
theorem dX0_isDark_39 : decode cX0_isDark 39 = .ok (.iload 7, 2) := by decide +kernel
theorem dX0_isDark_41 : decode cX0_isDark 41 = .ok (.iload 5, 2) := by decide +kernel
theorem dX0_isDark_43 : decode cX0_isDark 43 = .ok (.imul, 1) := by decide +kernel
theorem dX0_isDark_44 : decode cX0_isDark 44 = .ok (.iadd, 1) := by decide +kernel
theorem dX0_isDark_45 : decode cX0_isDark 45 = .ok (.iaload, 1) := by decide +kernel
theorem dX0_isDark_46 : decode cX0_isDark 46 = .ok (.iload 7, 2) := by decide +kernel
theorem dX0_isDark_48 : decode cX0_isDark 48 = .ok (.iload 4, 2) := by decide +kernel
theorem dX0_isDark_50 : decode cX0_isDark 50 = .ok (.imul, 1) := by decide +kernel
theorem dX0_isDark_51 : decode cX0_isDark 51 = .ok (.isub, 1) := by decide +kernel
theorem dX0_isDark_52 : decode cX0_isDark 52 = .ok (.aload_n 0, 1) := by decide +kernel
theorem dX0_isDark_53 : decode cX0_isDark 53 = .ok (.getfield 9, 3) := by decide +kernel
theorem dX0_isDark_56 : decode cX0_isDark 56 = .ok (.iload_n 1, 1) := by decide +kernel
theorem dX0_isDark_57 : decode cX0_isDark 57 = .ok (.iaload, 1) := by decide +kernel
theorem dX0_isDark_58 : decode cX0_isDark 58 = .ok (.if_icmp .le 5, 3) := by decide +kernel
theorem dX0_isDark_61 : decode cX0_isDark 61 = .ok (.iconst 1, 1) := by decide +kernel
theorem dX0_isDark_62 : decode cX0_isDark 62 = .ok (.ireturn, 1) := by decide +kernel
theorem dX0_isDark_63 : decode cX0_isDark 63 = .ok (.iinc 7 1, 3) := by decide +kernel
theorem dX0_isDark_66 : decode cX0_isDark 66 = .ok (.goto (-39), 3) := by decide +kernel
theorem dX0_isDark_69 : decode cX0_isDark 69 = .ok (.iconst 0, 1) := by decide +kernel
theorem dX0_isDark_70 : decode cX0_isDark 70 = .ok (.ireturn, 1) := by decide +kernel
set_option maxRecDepth 20000 in
theorem ggX0_isDarkBySweep_X3_side : GoodIn wsX0_isDarkBySweep wsX3_side := goodIn_r _ [9] (by decide +kernel) (by decide +kernel)
set_option maxRecDepth 20000 in
theorem gX0_isDarkBySweep_X3_side : GoodIn wsX0_isDarkBySweep (va_wsS RX0 58 yX3_side wsX3_side) := goodIn_app (goodIn_of _ (by decide +kernel)) ggX0_isDarkBySweep_X3_side
set_option maxRecDepth 20000 in
theorem ggX0_isDarkBySweep_X3_steepness : GoodIn wsX0_isDarkBySweep wsX3_steepness := goodIn_r _ [12] (by decide +kernel) (by decide +kernel)
set_option maxRecDepth 20000 in
theorem gX0_isDarkBySweep_X3_steepness : GoodIn wsX0_isDarkBySweep (va_wsS RX0 63 yX3_steepness wsX3_steepness) := goodIn_app (goodIn_of _ (by decide +kernel)) ggX0_isDarkBySweep_X3_steepness
set_option maxRecDepth 20000 in
theorem ggX0_isDarkBySweep_X3_stepTowardSun : GoodIn wsX0_isDarkBySweep wsX3_stepTowardSun := goodIn_r _ [15] (by decide +kernel) (by decide +kernel)
set_option maxRecDepth 20000 in
theorem gX0_isDarkBySweep_X3_stepTowardSun : GoodIn wsX0_isDarkBySweep (va_wsS RX0 66 yX3_stepTowardSun wsX3_stepTowardSun) := goodIn_app (goodIn_of _ (by decide +kernel)) ggX0_isDarkBySweep_X3_stepTowardSun
set_option maxRecDepth 20000 in
theorem ggX0_isDarkBySweep_X3_squaresTowardSun : GoodIn wsX0_isDarkBySweep wsX3_squaresTowardSun := goodIn_r _ [18] (by decide +kernel) (by decide +kernel)
set_option maxRecDepth 20000 in
theorem gX0_isDarkBySweep_X3_squaresTowardSun : GoodIn wsX0_isDarkBySweep (va_wsS RX0 69 yX3_squaresTowardSun wsX3_squaresTowardSun) := goodIn_app (goodIn_of _ (by decide +kernel)) ggX0_isDarkBySweep_X3_squaresTowardSun
theorem dX0_isDarkBySweep_0 : decode cX0_isDarkBySweep 0 = .ok (.iload_n 2, 1) := by decide +kernel
theorem dX0_isDarkBySweep_1 : decode cX0_isDarkBySweep 1 = .ok (.invokestatic 58, 3) := by decide +kernel
theorem dX0_isDarkBySweep_4 : decode cX0_isDarkBySweep 4 = .ok (.istore_n 3, 1) := by decide +kernel
theorem dX0_isDarkBySweep_5 : decode cX0_isDarkBySweep 5 = .ok (.iload_n 2, 1) := by decide +kernel
theorem dX0_isDarkBySweep_6 : decode cX0_isDarkBySweep 6 = .ok (.invokestatic 63, 3) := by decide +kernel
theorem dX0_isDarkBySweep_9 : decode cX0_isDarkBySweep 9 = .ok (.istore 4, 2) := by decide +kernel
theorem dX0_isDarkBySweep_11 : decode cX0_isDarkBySweep 11 = .ok (.iload_n 3, 1) := by decide +kernel
theorem dX0_isDarkBySweep_12 : decode cX0_isDarkBySweep 12 = .ok (.invokestatic 66, 3) := by decide +kernel
theorem dX0_isDarkBySweep_15 : decode cX0_isDarkBySweep 15 = .ok (.istore 5, 2) := by decide +kernel
theorem dX0_isDarkBySweep_17 : decode cX0_isDarkBySweep 17 = .ok (.iconst 0, 1) := by decide +kernel
theorem dX0_isDarkBySweep_18 : decode cX0_isDarkBySweep 18 = .ok (.istore 6, 2) := by decide +kernel
theorem dX0_isDarkBySweep_20 : decode cX0_isDarkBySweep 20 = .ok (.iload_n 3, 1) := by decide +kernel
theorem dX0_isDarkBySweep_21 : decode cX0_isDarkBySweep 21 = .ok (.iload_n 1, 1) := by decide +kernel
theorem dX0_isDarkBySweep_22 : decode cX0_isDarkBySweep 22 = .ok (.invokestatic 69, 3) := by decide +kernel
theorem dX0_isDarkBySweep_25 : decode cX0_isDarkBySweep 25 = .ok (.istore 7, 2) := by decide +kernel
theorem dX0_isDarkBySweep_27 : decode cX0_isDarkBySweep 27 = .ok (.iload 7, 2) := by decide +kernel
theorem dX0_isDarkBySweep_29 : decode cX0_isDarkBySweep 29 = .ok (.iconst 1, 1) := by decide +kernel
theorem dX0_isDarkBySweep_30 : decode cX0_isDarkBySweep 30 = .ok (.if_icmp .lt 31, 3) := by decide +kernel
theorem dX0_isDarkBySweep_33 : decode cX0_isDarkBySweep 33 = .ok (.iload 6, 2) := by decide +kernel
theorem dX0_isDarkBySweep_35 : decode cX0_isDarkBySweep 35 = .ok (.aload_n 0, 1) := by decide +kernel
theorem dX0_isDarkBySweep_36 : decode cX0_isDarkBySweep 36 = .ok (.getfield 9, 3) := by decide +kernel
theorem dX0_isDarkBySweep_39 : decode cX0_isDarkBySweep 39 = .ok (.iload_n 1, 1) := by decide +kernel
theorem dX0_isDarkBySweep_40 : decode cX0_isDarkBySweep 40 = .ok (.iload 7, 2) := by decide +kernel
theorem dX0_isDarkBySweep_42 : decode cX0_isDarkBySweep 42 = .ok (.iload 5, 2) := by decide +kernel
theorem dX0_isDarkBySweep_44 : decode cX0_isDarkBySweep 44 = .ok (.imul, 1) := by decide +kernel
theorem dX0_isDarkBySweep_45 : decode cX0_isDarkBySweep 45 = .ok (.iadd, 1) := by decide +kernel
theorem dX0_isDarkBySweep_46 : decode cX0_isDarkBySweep 46 = .ok (.iaload, 1) := by decide +kernel
theorem dX0_isDarkBySweep_47 : decode cX0_isDarkBySweep 47 = .ok (.invokestatic 73, 3) := by decide +kernel
theorem dX0_isDarkBySweep_50 : decode cX0_isDarkBySweep 50 = .ok (.iload 4, 2) := by decide +kernel
theorem dX0_isDarkBySweep_52 : decode cX0_isDarkBySweep 52 = .ok (.isub, 1) := by decide +kernel
theorem dX0_isDarkBySweep_53 : decode cX0_isDarkBySweep 53 = .ok (.istore 6, 2) := by decide +kernel
theorem dX0_isDarkBySweep_55 : decode cX0_isDarkBySweep 55 = .ok (.iinc 7 (-1), 3) := by decide +kernel
theorem dX0_isDarkBySweep_58 : decode cX0_isDarkBySweep 58 = .ok (.goto (-31), 3) := by decide +kernel
theorem dX0_isDarkBySweep_61 : decode cX0_isDarkBySweep 61 = .ok (.iload 6, 2) := by decide +kernel
theorem dX0_isDarkBySweep_63 : decode cX0_isDarkBySweep 63 = .ok (.aload_n 0, 1) := by decide +kernel
theorem dX0_isDarkBySweep_64 : decode cX0_isDarkBySweep 64 = .ok (.getfield 9, 3) := by decide +kernel
theorem dX0_isDarkBySweep_67 : decode cX0_isDarkBySweep 67 = .ok (.iload_n 1, 1) := by decide +kernel
theorem dX0_isDarkBySweep_68 : decode cX0_isDarkBySweep 68 = .ok (.iaload, 1) := by decide +kernel
theorem dX0_isDarkBySweep_69 : decode cX0_isDarkBySweep 69 = .ok (.if_icmp .le 7, 3) := by decide +kernel
theorem dX0_isDarkBySweep_72 : decode cX0_isDarkBySweep 72 = .ok (.iconst 1, 1) := by decide +kernel
theorem dX0_isDarkBySweep_73 : decode cX0_isDarkBySweep 73 = .ok (.goto 4, 3) := by decide +kernel
theorem dX0_isDarkBySweep_76 : decode cX0_isDarkBySweep 76 = .ok (.iconst 0, 1) := by decide +kernel
theorem dX0_isDarkBySweep_77 : decode cX0_isDarkBySweep 77 = .ok (.ireturn, 1) := by decide +kernel
set_option maxRecDepth 20000 in
theorem ggX0_towersShading_X3_side : GoodIn wsX0_towersShading wsX3_side := goodIn_r _ [7] (by decide +kernel) (by decide +kernel)
set_option maxRecDepth 20000 in
theorem gX0_towersShading_X3_side : GoodIn wsX0_towersShading (va_wsS RX0 58 yX3_side wsX3_side) := goodIn_app (goodIn_of _ (by decide +kernel)) ggX0_towersShading_X3_side
set_option maxRecDepth 20000 in
theorem ggX0_towersShading_X3_steepness : GoodIn wsX0_towersShading wsX3_steepness := goodIn_r _ [10] (by decide +kernel) (by decide +kernel)
set_option maxRecDepth 20000 in
theorem gX0_towersShading_X3_steepness : GoodIn wsX0_towersShading (va_wsS RX0 63 yX3_steepness wsX3_steepness) := goodIn_app (goodIn_of _ (by decide +kernel)) ggX0_towersShading_X3_steepness
set_option maxRecDepth 20000 in
theorem ggX0_towersShading_X3_stepTowardSun : GoodIn wsX0_towersShading wsX3_stepTowardSun := goodIn_r _ [13] (by decide +kernel) (by decide +kernel)
set_option maxRecDepth 20000 in
theorem gX0_towersShading_X3_stepTowardSun : GoodIn wsX0_towersShading (va_wsS RX0 66 yX3_stepTowardSun wsX3_stepTowardSun) := goodIn_app (goodIn_of _ (by decide +kernel)) ggX0_towersShading_X3_stepTowardSun
set_option maxRecDepth 20000 in
theorem ggX0_towersShading_X3_squaresTowardSun : GoodIn wsX0_towersShading wsX3_squaresTowardSun := goodIn_r _ [16] (by decide +kernel) (by decide +kernel)
set_option maxRecDepth 20000 in
theorem gX0_towersShading_X3_squaresTowardSun : GoodIn wsX0_towersShading (va_wsS RX0 69 yX3_squaresTowardSun wsX3_squaresTowardSun) := goodIn_app (goodIn_of _ (by decide +kernel)) ggX0_towersShading_X3_squaresTowardSun
theorem dX0_towersShading_0 : decode cX0_towersShading 0 = .ok (.aload_n 0, 1) := by decide +kernel
theorem dX0_towersShading_1 : decode cX0_towersShading 1 = .ok (.getfield 30, 3) := by decide +kernel
theorem dX0_towersShading_4 : decode cX0_towersShading 4 = .ok (.invokestatic 58, 3) := by decide +kernel
theorem dX0_towersShading_7 : decode cX0_towersShading 7 = .ok (.istore_n 3, 1) := by decide +kernel
theorem dX0_towersShading_8 : decode cX0_towersShading 8 = .ok (.aload_n 0, 1) := by decide +kernel
theorem dX0_towersShading_9 : decode cX0_towersShading 9 = .ok (.getfield 30, 3) := by decide +kernel
theorem dX0_towersShading_12 : decode cX0_towersShading 12 = .ok (.invokestatic 63, 3) := by decide +kernel
theorem dX0_towersShading_15 : decode cX0_towersShading 15 = .ok (.istore 4, 2) := by decide +kernel
theorem dX0_towersShading_17 : decode cX0_towersShading 17 = .ok (.iload_n 3, 1) := by decide +kernel
theorem dX0_towersShading_18 : decode cX0_towersShading 18 = .ok (.invokestatic 66, 3) := by decide +kernel
theorem dX0_towersShading_21 : decode cX0_towersShading 21 = .ok (.istore 5, 2) := by decide +kernel
theorem dX0_towersShading_23 : decode cX0_towersShading 23 = .ok (.iload_n 3, 1) := by decide +kernel
theorem dX0_towersShading_24 : decode cX0_towersShading 24 = .ok (.iload_n 1, 1) := by decide +kernel
theorem dX0_towersShading_25 : decode cX0_towersShading 25 = .ok (.invokestatic 69, 3) := by decide +kernel
theorem dX0_towersShading_28 : decode cX0_towersShading 28 = .ok (.istore 6, 2) := by decide +kernel
theorem dX0_towersShading_30 : decode cX0_towersShading 30 = .ok (.iconst 0, 1) := by decide +kernel
theorem dX0_towersShading_31 : decode cX0_towersShading 31 = .ok (.istore 7, 2) := by decide +kernel
theorem dX0_towersShading_33 : decode cX0_towersShading 33 = .ok (.iconst 1, 1) := by decide +kernel
theorem dX0_towersShading_34 : decode cX0_towersShading 34 = .ok (.istore 8, 2) := by decide +kernel
theorem dX0_towersShading_36 : decode cX0_towersShading 36 = .ok (.iload 8, 2) := by decide +kernel
theorem dX0_towersShading_38 : decode cX0_towersShading 38 = .ok (.iload 6, 2) := by decide +kernel
theorem dX0_towersShading_40 : decode cX0_towersShading 40 = .ok (.if_icmp .gt 54, 3) := by decide +kernel
theorem dX0_towersShading_43 : decode cX0_towersShading 43 = .ok (.iload_n 1, 1) := by decide +kernel
theorem dX0_towersShading_44 : decode cX0_towersShading 44 = .ok (.iload 8, 2) := by decide +kernel
theorem dX0_towersShading_46 : decode cX0_towersShading 46 = .ok (.iload 5, 2) := by decide +kernel
theorem dX0_towersShading_48 : decode cX0_towersShading 48 = .ok (.imul, 1) := by decide +kernel
theorem dX0_towersShading_49 : decode cX0_towersShading 49 = .ok (.iadd, 1) := by decide +kernel
theorem dX0_towersShading_50 : decode cX0_towersShading 50 = .ok (.istore 9, 2) := by decide +kernel
theorem dX0_towersShading_52 : decode cX0_towersShading 52 = .ok (.aload_n 0, 1) := by decide +kernel
theorem dX0_towersShading_53 : decode cX0_towersShading 53 = .ok (.getfield 15, 3) := by decide +kernel
theorem dX0_towersShading_56 : decode cX0_towersShading 56 = .ok (.iload 9, 2) := by decide +kernel
theorem dX0_towersShading_58 : decode cX0_towersShading 58 = .ok (.iaload, 1) := by decide +kernel
theorem dX0_towersShading_59 : decode cX0_towersShading 59 = .ok (.iload_n 2, 1) := by decide +kernel
theorem dX0_towersShading_60 : decode cX0_towersShading 60 = .ok (.if_icmp .ne 28, 3) := by decide +kernel
theorem dX0_towersShading_63 : decode cX0_towersShading 63 = .ok (.aload_n 0, 1) := by decide +kernel
theorem dX0_towersShading_64 : decode cX0_towersShading 64 = .ok (.getfield 9, 3) := by decide +kernel
theorem dX0_towersShading_67 : decode cX0_towersShading 67 = .ok (.iload 9, 2) := by decide +kernel
theorem dX0_towersShading_69 : decode cX0_towersShading 69 = .ok (.iaload, 1) := by decide +kernel
theorem dX0_towersShading_70 : decode cX0_towersShading 70 = .ok (.iload 8, 2) := by decide +kernel
theorem dX0_towersShading_72 : decode cX0_towersShading 72 = .ok (.iload 4, 2) := by decide +kernel
theorem dX0_towersShading_74 : decode cX0_towersShading 74 = .ok (.imul, 1) := by decide +kernel
theorem dX0_towersShading_75 : decode cX0_towersShading 75 = .ok (.isub, 1) := by decide +kernel
theorem dX0_towersShading_76 : decode cX0_towersShading 76 = .ok (.aload_n 0, 1) := by decide +kernel
theorem dX0_towersShading_77 : decode cX0_towersShading 77 = .ok (.getfield 9, 3) := by decide +kernel
theorem dX0_towersShading_80 : decode cX0_towersShading 80 = .ok (.iload_n 1, 1) := by decide +kernel
theorem dX0_towersShading_81 : decode cX0_towersShading 81 = .ok (.iaload, 1) := by decide +kernel
theorem dX0_towersShading_82 : decode cX0_towersShading 82 = .ok (.if_icmp .le 6, 3) := by decide +kernel
theorem dX0_towersShading_85 : decode cX0_towersShading 85 = .ok (.iinc 7 1, 3) := by decide +kernel
theorem dX0_towersShading_88 : decode cX0_towersShading 88 = .ok (.iinc 8 1, 3) := by decide +kernel
theorem dX0_towersShading_91 : decode cX0_towersShading 91 = .ok (.goto (-55), 3) := by decide +kernel
theorem dX0_towersShading_94 : decode cX0_towersShading 94 = .ok (.iload 7, 2) := by decide +kernel
theorem dX0_towersShading_96 : decode cX0_towersShading 96 = .ok (.ireturn, 1) := by decide +kernel
set_option maxRecDepth 20000 in
theorem ggX0_squaresShadedFrom_X3_side : GoodIn wsX0_squaresShadedFrom wsX3_side := goodIn_r _ [6] (by decide +kernel) (by decide +kernel)
set_option maxRecDepth 20000 in
theorem gX0_squaresShadedFrom_X3_side : GoodIn wsX0_squaresShadedFrom (va_wsS RX0 58 yX3_side wsX3_side) := goodIn_app (goodIn_of _ (by decide +kernel)) ggX0_squaresShadedFrom_X3_side
set_option maxRecDepth 20000 in
theorem ggX0_squaresShadedFrom_X3_steepness : GoodIn wsX0_squaresShadedFrom wsX3_steepness := goodIn_r _ [9] (by decide +kernel) (by decide +kernel)
set_option maxRecDepth 20000 in
theorem gX0_squaresShadedFrom_X3_steepness : GoodIn wsX0_squaresShadedFrom (va_wsS RX0 63 yX3_steepness wsX3_steepness) := goodIn_app (goodIn_of _ (by decide +kernel)) ggX0_squaresShadedFrom_X3_steepness
set_option maxRecDepth 20000 in
theorem ggX0_squaresShadedFrom_X3_stepTowardSun : GoodIn wsX0_squaresShadedFrom wsX3_stepTowardSun := goodIn_r _ [12] (by decide +kernel) (by decide +kernel)
set_option maxRecDepth 20000 in
theorem gX0_squaresShadedFrom_X3_stepTowardSun : GoodIn wsX0_squaresShadedFrom (va_wsS RX0 66 yX3_stepTowardSun wsX3_stepTowardSun) := goodIn_app (goodIn_of _ (by decide +kernel)) ggX0_squaresShadedFrom_X3_stepTowardSun
set_option maxRecDepth 20000 in
theorem ggX0_squaresShadedFrom_X3_squaresTowardSun : GoodIn wsX0_squaresShadedFrom wsX3_squaresTowardSun := goodIn_r _ [15] (by decide +kernel) (by decide +kernel)
set_option maxRecDepth 20000 in
theorem gX0_squaresShadedFrom_X3_squaresTowardSun : GoodIn wsX0_squaresShadedFrom (va_wsS RX0 69 yX3_squaresTowardSun wsX3_squaresTowardSun) := goodIn_app (goodIn_of _ (by decide +kernel)) ggX0_squaresShadedFrom_X3_squaresTowardSun
theorem dX0_squaresShadedFrom_0 : decode cX0_squaresShadedFrom 0 = .ok (.aload_n 0, 1) := by decide +kernel
theorem dX0_squaresShadedFrom_1 : decode cX0_squaresShadedFrom 1 = .ok (.getfield 30, 3) := by decide +kernel
theorem dX0_squaresShadedFrom_4 : decode cX0_squaresShadedFrom 4 = .ok (.invokestatic 58, 3) := by decide +kernel
theorem dX0_squaresShadedFrom_7 : decode cX0_squaresShadedFrom 7 = .ok (.istore_n 2, 1) := by decide +kernel
theorem dX0_squaresShadedFrom_8 : decode cX0_squaresShadedFrom 8 = .ok (.aload_n 0, 1) := by decide +kernel
theorem dX0_squaresShadedFrom_9 : decode cX0_squaresShadedFrom 9 = .ok (.getfield 30, 3) := by decide +kernel
theorem dX0_squaresShadedFrom_12 : decode cX0_squaresShadedFrom 12 = .ok (.invokestatic 63, 3) := by decide +kernel
theorem dX0_squaresShadedFrom_15 : decode cX0_squaresShadedFrom 15 = .ok (.istore_n 3, 1) := by decide +kernel
theorem dX0_squaresShadedFrom_16 : decode cX0_squaresShadedFrom 16 = .ok (.iload_n 2, 1) := by decide +kernel
theorem dX0_squaresShadedFrom_17 : decode cX0_squaresShadedFrom 17 = .ok (.invokestatic 66, 3) := by decide +kernel
theorem dX0_squaresShadedFrom_20 : decode cX0_squaresShadedFrom 20 = .ok (.istore 4, 2) := by decide +kernel
theorem dX0_squaresShadedFrom_22 : decode cX0_squaresShadedFrom 22 = .ok (.iconst 5, 1) := by decide +kernel
theorem dX0_squaresShadedFrom_23 : decode cX0_squaresShadedFrom 23 = .ok (.iload_n 2, 1) := by decide +kernel
theorem dX0_squaresShadedFrom_24 : decode cX0_squaresShadedFrom 24 = .ok (.iload_n 1, 1) := by decide +kernel
theorem dX0_squaresShadedFrom_25 : decode cX0_squaresShadedFrom 25 = .ok (.invokestatic 69, 3) := by decide +kernel
theorem dX0_squaresShadedFrom_28 : decode cX0_squaresShadedFrom 28 = .ok (.isub, 1) := by decide +kernel
theorem dX0_squaresShadedFrom_29 : decode cX0_squaresShadedFrom 29 = .ok (.istore 5, 2) := by decide +kernel
theorem dX0_squaresShadedFrom_31 : decode cX0_squaresShadedFrom 31 = .ok (.iconst 0, 1) := by decide +kernel
theorem dX0_squaresShadedFrom_32 : decode cX0_squaresShadedFrom 32 = .ok (.istore 6, 2) := by decide +kernel
theorem dX0_squaresShadedFrom_34 : decode cX0_squaresShadedFrom 34 = .ok (.iconst 1, 1) := by decide +kernel
theorem dX0_squaresShadedFrom_35 : decode cX0_squaresShadedFrom 35 = .ok (.istore 7, 2) := by decide +kernel
theorem dX0_squaresShadedFrom_37 : decode cX0_squaresShadedFrom 37 = .ok (.iload 7, 2) := by decide +kernel
theorem dX0_squaresShadedFrom_39 : decode cX0_squaresShadedFrom 39 = .ok (.iload 5, 2) := by decide +kernel
theorem dX0_squaresShadedFrom_41 : decode cX0_squaresShadedFrom 41 = .ok (.if_icmp .gt 38, 3) := by decide +kernel
theorem dX0_squaresShadedFrom_44 : decode cX0_squaresShadedFrom 44 = .ok (.aload_n 0, 1) := by decide +kernel
theorem dX0_squaresShadedFrom_45 : decode cX0_squaresShadedFrom 45 = .ok (.getfield 9, 3) := by decide +kernel
theorem dX0_squaresShadedFrom_48 : decode cX0_squaresShadedFrom 48 = .ok (.iload_n 1, 1) := by decide +kernel
theorem dX0_squaresShadedFrom_49 : decode cX0_squaresShadedFrom 49 = .ok (.iaload, 1) := by decide +kernel
theorem dX0_squaresShadedFrom_50 : decode cX0_squaresShadedFrom 50 = .ok (.iload 7, 2) := by decide +kernel
theorem dX0_squaresShadedFrom_52 : decode cX0_squaresShadedFrom 52 = .ok (.iload_n 3, 1) := by decide +kernel
theorem dX0_squaresShadedFrom_53 : decode cX0_squaresShadedFrom 53 = .ok (.imul, 1) := by decide +kernel
theorem dX0_squaresShadedFrom_54 : decode cX0_squaresShadedFrom 54 = .ok (.isub, 1) := by decide +kernel
theorem dX0_squaresShadedFrom_55 : decode cX0_squaresShadedFrom 55 = .ok (.aload_n 0, 1) := by decide +kernel
theorem dX0_squaresShadedFrom_56 : decode cX0_squaresShadedFrom 56 = .ok (.getfield 9, 3) := by decide +kernel
theorem dX0_squaresShadedFrom_59 : decode cX0_squaresShadedFrom 59 = .ok (.iload_n 1, 1) := by decide +kernel
theorem dX0_squaresShadedFrom_60 : decode cX0_squaresShadedFrom 60 = .ok (.iload 7, 2) := by decide +kernel
theorem dX0_squaresShadedFrom_62 : decode cX0_squaresShadedFrom 62 = .ok (.iload 4, 2) := by decide +kernel
theorem dX0_squaresShadedFrom_64 : decode cX0_squaresShadedFrom 64 = .ok (.imul, 1) := by decide +kernel
theorem dX0_squaresShadedFrom_65 : decode cX0_squaresShadedFrom 65 = .ok (.isub, 1) := by decide +kernel
theorem dX0_squaresShadedFrom_66 : decode cX0_squaresShadedFrom 66 = .ok (.iaload, 1) := by decide +kernel
theorem dX0_squaresShadedFrom_67 : decode cX0_squaresShadedFrom 67 = .ok (.if_icmp .le 6, 3) := by decide +kernel
theorem dX0_squaresShadedFrom_70 : decode cX0_squaresShadedFrom 70 = .ok (.iinc 6 1, 3) := by decide +kernel
theorem dX0_squaresShadedFrom_73 : decode cX0_squaresShadedFrom 73 = .ok (.iinc 7 1, 3) := by decide +kernel
theorem dX0_squaresShadedFrom_76 : decode cX0_squaresShadedFrom 76 = .ok (.goto (-39), 3) := by decide +kernel
theorem dX0_squaresShadedFrom_79 : decode cX0_squaresShadedFrom 79 = .ok (.iload 6, 2) := by decide +kernel
theorem dX0_squaresShadedFrom_81 : decode cX0_squaresShadedFrom 81 = .ok (.ireturn, 1) := by decide +kernel
set_option maxRecDepth 20000 in
theorem ggX0_darkHourMask_X0_isDark : GoodIn wsX0_darkHourMask wsX0_isDark := goodIn_r _ [5, 6, 7, 8, 9, 10, 11, 12, 13, 14, 15, 16, 17, 18, 19, 20, 21, 22, 23, 24, 25, 26, 27] (by decide +kernel) (by decide +kernel)
set_option maxRecDepth 20000 in
theorem gX0_darkHourMask_X0_isDark : GoodIn wsX0_darkHourMask (wsV RX0 47 RX0 yX0_isDark wsX0_isDark) := goodIn_app (goodIn_of _ (by decide +kernel)) ggX0_darkHourMask_X0_isDark
theorem dX0_darkHourMask_0 : decode cX0_darkHourMask 0 = .ok (.iconst 0, 1) := by decide +kernel
theorem dX0_darkHourMask_1 : decode cX0_darkHourMask 1 = .ok (.istore_n 2, 1) := by decide +kernel
theorem dX0_darkHourMask_2 : decode cX0_darkHourMask 2 = .ok (.iconst 0, 1) := by decide +kernel
theorem dX0_darkHourMask_3 : decode cX0_darkHourMask 3 = .ok (.istore_n 3, 1) := by decide +kernel
theorem dX0_darkHourMask_4 : decode cX0_darkHourMask 4 = .ok (.iload_n 3, 1) := by decide +kernel
theorem dX0_darkHourMask_5 : decode cX0_darkHourMask 5 = .ok (.bipush 12, 2) := by decide +kernel
theorem dX0_darkHourMask_7 : decode cX0_darkHourMask 7 = .ok (.if_icmp .ge 24, 3) := by decide +kernel
theorem dX0_darkHourMask_10 : decode cX0_darkHourMask 10 = .ok (.aload_n 0, 1) := by decide +kernel
theorem dX0_darkHourMask_11 : decode cX0_darkHourMask 11 = .ok (.iload_n 1, 1) := by decide +kernel
theorem dX0_darkHourMask_12 : decode cX0_darkHourMask 12 = .ok (.iload_n 3, 1) := by decide +kernel
theorem dX0_darkHourMask_13 : decode cX0_darkHourMask 13 = .ok (.invokevirtual 47, 3) := by decide +kernel
theorem dX0_darkHourMask_16 : decode cX0_darkHourMask 16 = .ok (.ifCond .eq 9, 3) := by decide +kernel
theorem dX0_darkHourMask_19 : decode cX0_darkHourMask 19 = .ok (.iload_n 2, 1) := by decide +kernel
theorem dX0_darkHourMask_20 : decode cX0_darkHourMask 20 = .ok (.iconst 1, 1) := by decide +kernel
theorem dX0_darkHourMask_21 : decode cX0_darkHourMask 21 = .ok (.iload_n 3, 1) := by decide +kernel
theorem dX0_darkHourMask_22 : decode cX0_darkHourMask 22 = .ok (.ishl, 1) := by decide +kernel
theorem dX0_darkHourMask_23 : decode cX0_darkHourMask 23 = .ok (.ior, 1) := by decide +kernel
theorem dX0_darkHourMask_24 : decode cX0_darkHourMask 24 = .ok (.istore_n 2, 1) := by decide +kernel
theorem dX0_darkHourMask_25 : decode cX0_darkHourMask 25 = .ok (.iinc 3 1, 3) := by decide +kernel
theorem dX0_darkHourMask_28 : decode cX0_darkHourMask 28 = .ok (.goto (-24), 3) := by decide +kernel
theorem dX0_darkHourMask_31 : decode cX0_darkHourMask 31 = .ok (.iload_n 2, 1) := by decide +kernel
theorem dX0_darkHourMask_32 : decode cX0_darkHourMask 32 = .ok (.ireturn, 1) := by decide +kernel
set_option maxRecDepth 20000 in
theorem ggX0_darkSquares_X0_isDark : GoodIn wsX0_darkSquares wsX0_isDark := goodIn_r _ [5, 6, 7, 8, 9, 10, 11, 12, 13, 14, 15, 16, 17, 18, 19, 20, 21, 22, 23, 24, 25, 26, 27] (by decide +kernel) (by decide +kernel)
set_option maxRecDepth 20000 in
theorem gX0_darkSquares_X0_isDark : GoodIn wsX0_darkSquares (wsV RX0 47 RX0 yX0_isDark wsX0_isDark) := goodIn_app (goodIn_of _ (by decide +kernel)) ggX0_darkSquares_X0_isDark
theorem dX0_darkSquares_0 : decode cX0_darkSquares 0 = .ok (.iconst 0, 1) := by decide +kernel
theorem dX0_darkSquares_1 : decode cX0_darkSquares 1 = .ok (.istore_n 2, 1) := by decide +kernel
theorem dX0_darkSquares_2 : decode cX0_darkSquares 2 = .ok (.iconst 0, 1) := by decide +kernel
theorem dX0_darkSquares_3 : decode cX0_darkSquares 3 = .ok (.istore_n 3, 1) := by decide +kernel
theorem dX0_darkSquares_4 : decode cX0_darkSquares 4 = .ok (.iload_n 3, 1) := by decide +kernel
theorem dX0_darkSquares_5 : decode cX0_darkSquares 5 = .ok (.bipush 36, 2) := by decide +kernel
theorem dX0_darkSquares_7 : decode cX0_darkSquares 7 = .ok (.if_icmp .ge 21, 3) := by decide +kernel
theorem dX0_darkSquares_10 : decode cX0_darkSquares 10 = .ok (.aload_n 0, 1) := by decide +kernel
theorem dX0_darkSquares_11 : decode cX0_darkSquares 11 = .ok (.iload_n 3, 1) := by decide +kernel
theorem dX0_darkSquares_12 : decode cX0_darkSquares 12 = .ok (.iload_n 1, 1) := by decide +kernel
theorem dX0_darkSquares_13 : decode cX0_darkSquares 13 = .ok (.invokevirtual 47, 3) := by decide +kernel
theorem dX0_darkSquares_16 : decode cX0_darkSquares 16 = .ok (.ifCond .eq 6, 3) := by decide +kernel
theorem dX0_darkSquares_19 : decode cX0_darkSquares 19 = .ok (.iinc 2 1, 3) := by decide +kernel
theorem dX0_darkSquares_22 : decode cX0_darkSquares 22 = .ok (.iinc 3 1, 3) := by decide +kernel
theorem dX0_darkSquares_25 : decode cX0_darkSquares 25 = .ok (.goto (-21), 3) := by decide +kernel
theorem dX0_darkSquares_28 : decode cX0_darkSquares 28 = .ok (.iload_n 2, 1) := by decide +kernel
theorem dX0_darkSquares_29 : decode cX0_darkSquares 29 = .ok (.ireturn, 1) := by decide +kernel
set_option maxRecDepth 20000 in
theorem ggX0_towers_X0_towersOf : GoodIn wsX0_towers wsX0_towersOf := goodIn_r _ [5, 6, 7, 8, 9, 10, 11, 12, 13, 14] (by decide +kernel) (by decide +kernel)
set_option maxRecDepth 20000 in
theorem gX0_towers_X0_towersOf : GoodIn wsX0_towers (wsV RX0 78 RX0 yX0_towersOf wsX0_towersOf) := goodIn_app (goodIn_of _ (by decide +kernel)) ggX0_towers_X0_towersOf
theorem dX0_towers_0 : decode cX0_towers 0 = .ok (.aload_n 0, 1) := by decide +kernel
theorem dX0_towers_1 : decode cX0_towers 1 = .ok (.iconst 0, 1) := by decide +kernel
theorem dX0_towers_2 : decode cX0_towers 2 = .ok (.invokevirtual 78, 3) := by decide +kernel
theorem dX0_towers_5 : decode cX0_towers 5 = .ok (.aload_n 0, 1) := by decide +kernel
theorem dX0_towers_6 : decode cX0_towers 6 = .ok (.iconst 1, 1) := by decide +kernel
theorem dX0_towers_7 : decode cX0_towers 7 = .ok (.invokevirtual 78, 3) := by decide +kernel
theorem dX0_towers_10 : decode cX0_towers 10 = .ok (.iadd, 1) := by decide +kernel
theorem dX0_towers_11 : decode cX0_towers 11 = .ok (.ireturn, 1) := by decide +kernel
theorem dX0_towersOf_0 : decode cX0_towersOf 0 = .ok (.iconst 0, 1) := by decide +kernel
theorem dX0_towersOf_1 : decode cX0_towersOf 1 = .ok (.istore_n 2, 1) := by decide +kernel
theorem dX0_towersOf_2 : decode cX0_towersOf 2 = .ok (.iconst 0, 1) := by decide +kernel
theorem dX0_towersOf_3 : decode cX0_towersOf 3 = .ok (.istore_n 3, 1) := by decide +kernel
theorem dX0_towersOf_4 : decode cX0_towersOf 4 = .ok (.iload_n 3, 1) := by decide +kernel
theorem dX0_towersOf_5 : decode cX0_towersOf 5 = .ok (.bipush 36, 2) := by decide +kernel
theorem dX0_towersOf_7 : decode cX0_towersOf 7 = .ok (.if_icmp .ge 22, 3) := by decide +kernel
theorem dX0_towersOf_10 : decode cX0_towersOf 10 = .ok (.aload_n 0, 1) := by decide +kernel
theorem dX0_towersOf_11 : decode cX0_towersOf 11 = .ok (.getfield 15, 3) := by decide +kernel
theorem dX0_towersOf_14 : decode cX0_towersOf 14 = .ok (.iload_n 3, 1) := by decide +kernel
theorem dX0_towersOf_15 : decode cX0_towersOf 15 = .ok (.iaload, 1) := by decide +kernel
theorem dX0_towersOf_16 : decode cX0_towersOf 16 = .ok (.iload_n 1, 1) := by decide +kernel
theorem dX0_towersOf_17 : decode cX0_towersOf 17 = .ok (.if_icmp .ne 6, 3) := by decide +kernel
theorem dX0_towersOf_20 : decode cX0_towersOf 20 = .ok (.iinc 2 1, 3) := by decide +kernel
theorem dX0_towersOf_23 : decode cX0_towersOf 23 = .ok (.iinc 3 1, 3) := by decide +kernel
theorem dX0_towersOf_26 : decode cX0_towersOf 26 = .ok (.goto (-22), 3) := by decide +kernel
theorem dX0_towersOf_29 : decode cX0_towersOf 29 = .ok (.iload_n 2, 1) := by decide +kernel
theorem dX0_towersOf_30 : decode cX0_towersOf 30 = .ok (.ireturn, 1) := by decide +kernel
theorem dX0_heightsOf_0 : decode cX0_heightsOf 0 = .ok (.iconst 0, 1) := by decide +kernel
theorem dX0_heightsOf_1 : decode cX0_heightsOf 1 = .ok (.istore_n 2, 1) := by decide +kernel
theorem dX0_heightsOf_2 : decode cX0_heightsOf 2 = .ok (.iconst 0, 1) := by decide +kernel
theorem dX0_heightsOf_3 : decode cX0_heightsOf 3 = .ok (.istore_n 3, 1) := by decide +kernel
theorem dX0_heightsOf_4 : decode cX0_heightsOf 4 = .ok (.iload_n 3, 1) := by decide +kernel
theorem dX0_heightsOf_5 : decode cX0_heightsOf 5 = .ok (.bipush 36, 2) := by decide +kernel
theorem dX0_heightsOf_7 : decode cX0_heightsOf 7 = .ok (.if_icmp .ge 28, 3) := by decide +kernel
theorem dX0_heightsOf_10 : decode cX0_heightsOf 10 = .ok (.aload_n 0, 1) := by decide +kernel
theorem dX0_heightsOf_11 : decode cX0_heightsOf 11 = .ok (.getfield 15, 3) := by decide +kernel
theorem dX0_heightsOf_14 : decode cX0_heightsOf 14 = .ok (.iload_n 3, 1) := by decide +kernel
theorem dX0_heightsOf_15 : decode cX0_heightsOf 15 = .ok (.iaload, 1) := by decide +kernel
theorem dX0_heightsOf_16 : decode cX0_heightsOf 16 = .ok (.iload_n 1, 1) := by decide +kernel
theorem dX0_heightsOf_17 : decode cX0_heightsOf 17 = .ok (.if_icmp .ne 12, 3) := by decide +kernel
theorem dX0_heightsOf_20 : decode cX0_heightsOf 20 = .ok (.iload_n 2, 1) := by decide +kernel
theorem dX0_heightsOf_21 : decode cX0_heightsOf 21 = .ok (.aload_n 0, 1) := by decide +kernel
theorem dX0_heightsOf_22 : decode cX0_heightsOf 22 = .ok (.getfield 9, 3) := by decide +kernel
theorem dX0_heightsOf_25 : decode cX0_heightsOf 25 = .ok (.iload_n 3, 1) := by decide +kernel
theorem dX0_heightsOf_26 : decode cX0_heightsOf 26 = .ok (.iaload, 1) := by decide +kernel
theorem dX0_heightsOf_27 : decode cX0_heightsOf 27 = .ok (.iadd, 1) := by decide +kernel
theorem dX0_heightsOf_28 : decode cX0_heightsOf 28 = .ok (.istore_n 2, 1) := by decide +kernel
theorem dX0_heightsOf_29 : decode cX0_heightsOf 29 = .ok (.iinc 3 1, 3) := by decide +kernel
theorem dX0_heightsOf_32 : decode cX0_heightsOf 32 = .ok (.goto (-28), 3) := by decide +kernel
theorem dX0_heightsOf_35 : decode cX0_heightsOf 35 = .ok (.iload_n 2, 1) := by decide +kernel
theorem dX0_heightsOf_36 : decode cX0_heightsOf 36 = .ok (.ireturn, 1) := by decide +kernel
set_option maxRecDepth 20000 in
theorem ggX0_darkTowersOf_X0_isDark : GoodIn wsX0_darkTowersOf wsX0_isDark := goodIn_r _ [7, 8, 9, 10, 11, 12, 13, 14, 15, 16, 17, 18, 19, 20, 21, 22, 23, 24, 25, 26, 27, 28, 29] (by decide +kernel) (by decide +kernel)
set_option maxRecDepth 20000 in
theorem gX0_darkTowersOf_X0_isDark : GoodIn wsX0_darkTowersOf (wsV RX0 47 RX0 yX0_isDark wsX0_isDark) := goodIn_app (goodIn_of _ (by decide +kernel)) ggX0_darkTowersOf_X0_isDark
theorem dX0_darkTowersOf_0 : decode cX0_darkTowersOf 0 = .ok (.iconst 0, 1) := by decide +kernel
theorem dX0_darkTowersOf_1 : decode cX0_darkTowersOf 1 = .ok (.istore_n 2, 1) := by decide +kernel
theorem dX0_darkTowersOf_2 : decode cX0_darkTowersOf 2 = .ok (.iconst 0, 1) := by decide +kernel
theorem dX0_darkTowersOf_3 : decode cX0_darkTowersOf 3 = .ok (.istore_n 3, 1) := by decide +kernel
theorem dX0_darkTowersOf_4 : decode cX0_darkTowersOf 4 = .ok (.iload_n 3, 1) := by decide +kernel
theorem dX0_darkTowersOf_5 : decode cX0_darkTowersOf 5 = .ok (.bipush 36, 2) := by decide +kernel
theorem dX0_darkTowersOf_7 : decode cX0_darkTowersOf 7 = .ok (.if_icmp .ge 34, 3) := by decide +kernel
theorem dX0_darkTowersOf_10 : decode cX0_darkTowersOf 10 = .ok (.aload_n 0, 1) := by decide +kernel
theorem dX0_darkTowersOf_11 : decode cX0_darkTowersOf 11 = .ok (.getfield 15, 3) := by decide +kernel
theorem dX0_darkTowersOf_14 : decode cX0_darkTowersOf 14 = .ok (.iload_n 3, 1) := by decide +kernel
theorem dX0_darkTowersOf_15 : decode cX0_darkTowersOf 15 = .ok (.iaload, 1) := by decide +kernel
theorem dX0_darkTowersOf_16 : decode cX0_darkTowersOf 16 = .ok (.iload_n 1, 1) := by decide +kernel
theorem dX0_darkTowersOf_17 : decode cX0_darkTowersOf 17 = .ok (.if_icmp .ne 18, 3) := by decide +kernel
theorem dX0_darkTowersOf_20 : decode cX0_darkTowersOf 20 = .ok (.aload_n 0, 1) := by decide +kernel
theorem dX0_darkTowersOf_21 : decode cX0_darkTowersOf 21 = .ok (.iload_n 3, 1) := by decide +kernel
theorem dX0_darkTowersOf_22 : decode cX0_darkTowersOf 22 = .ok (.aload_n 0, 1) := by decide +kernel
theorem dX0_darkTowersOf_23 : decode cX0_darkTowersOf 23 = .ok (.getfield 30, 3) := by decide +kernel
theorem dX0_darkTowersOf_26 : decode cX0_darkTowersOf 26 = .ok (.invokevirtual 47, 3) := by decide +kernel
theorem dX0_darkTowersOf_29 : decode cX0_darkTowersOf 29 = .ok (.ifCond .eq 6, 3) := by decide +kernel
theorem dX0_darkTowersOf_32 : decode cX0_darkTowersOf 32 = .ok (.iinc 2 1, 3) := by decide +kernel
theorem dX0_darkTowersOf_35 : decode cX0_darkTowersOf 35 = .ok (.iinc 3 1, 3) := by decide +kernel
theorem dX0_darkTowersOf_38 : decode cX0_darkTowersOf 38 = .ok (.goto (-34), 3) := by decide +kernel
theorem dX0_darkTowersOf_41 : decode cX0_darkTowersOf 41 = .ok (.iload_n 2, 1) := by decide +kernel
theorem dX0_darkTowersOf_42 : decode cX0_darkTowersOf 42 = .ok (.ireturn, 1) := by decide +kernel
set_option maxRecDepth 20000 in
theorem ggX0_payNow_X0_isDark : GoodIn wsX0_payNow wsX0_isDark := goodIn_r _ [8, 9, 10, 11, 12, 13, 14, 15, 16, 17, 18, 19, 20, 21, 22, 23, 24, 25, 26, 27, 28, 29, 30] (by decide +kernel) (by decide +kernel)
set_option maxRecDepth 20000 in
theorem gX0_payNow_X0_isDark : GoodIn wsX0_payNow (wsV RX0 47 RX0 yX0_isDark wsX0_isDark) := goodIn_app (goodIn_of _ (by decide +kernel)) ggX0_payNow_X0_isDark
theorem dX0_payNow_0 : decode cX0_payNow 0 = .ok (.iconst 0, 1) := by decide +kernel
theorem dX0_payNow_1 : decode cX0_payNow 1 = .ok (.istore_n 2, 1) := by decide +kernel
theorem dX0_payNow_2 : decode cX0_payNow 2 = .ok (.iconst 0, 1) := by decide +kernel
theorem dX0_payNow_3 : decode cX0_payNow 3 = .ok (.istore_n 3, 1) := by decide +kernel
theorem dX0_payNow_4 : decode cX0_payNow 4 = .ok (.iload_n 3, 1) := by decide +kernel
theorem dX0_payNow_5 : decode cX0_payNow 5 = .ok (.bipush 36, 2) := by decide +kernel
theorem dX0_payNow_7 : decode cX0_payNow 7 = .ok (.if_icmp .ge 40, 3) := by decide +kernel
theorem dX0_payNow_10 : decode cX0_payNow 10 = .ok (.aload_n 0, 1) := by decide +kernel
theorem dX0_payNow_11 : decode cX0_payNow 11 = .ok (.getfield 15, 3) := by decide +kernel
theorem dX0_payNow_14 : decode cX0_payNow 14 = .ok (.iload_n 3, 1) := by decide +kernel
theorem dX0_payNow_15 : decode cX0_payNow 15 = .ok (.iaload, 1) := by decide +kernel
theorem dX0_payNow_16 : decode cX0_payNow 16 = .ok (.iload_n 1, 1) := by decide +kernel
theorem dX0_payNow_17 : decode cX0_payNow 17 = .ok (.if_icmp .ne 24, 3) := by decide +kernel
theorem dX0_payNow_20 : decode cX0_payNow 20 = .ok (.aload_n 0, 1) := by decide +kernel
theorem dX0_payNow_21 : decode cX0_payNow 21 = .ok (.iload_n 3, 1) := by decide +kernel
theorem dX0_payNow_22 : decode cX0_payNow 22 = .ok (.aload_n 0, 1) := by decide +kernel
theorem dX0_payNow_23 : decode cX0_payNow 23 = .ok (.getfield 30, 3) := by decide +kernel
theorem dX0_payNow_26 : decode cX0_payNow 26 = .ok (.invokevirtual 47, 3) := by decide +kernel
theorem dX0_payNow_29 : decode cX0_payNow 29 = .ok (.ifCond .ne 12, 3) := by decide +kernel
theorem dX0_payNow_32 : decode cX0_payNow 32 = .ok (.iload_n 2, 1) := by decide +kernel
theorem dX0_payNow_33 : decode cX0_payNow 33 = .ok (.aload_n 0, 1) := by decide +kernel
theorem dX0_payNow_34 : decode cX0_payNow 34 = .ok (.getfield 18, 3) := by decide +kernel
theorem dX0_payNow_37 : decode cX0_payNow 37 = .ok (.iload_n 3, 1) := by decide +kernel
theorem dX0_payNow_38 : decode cX0_payNow 38 = .ok (.iaload, 1) := by decide +kernel
theorem dX0_payNow_39 : decode cX0_payNow 39 = .ok (.iadd, 1) := by decide +kernel
theorem dX0_payNow_40 : decode cX0_payNow 40 = .ok (.istore_n 2, 1) := by decide +kernel
theorem dX0_payNow_41 : decode cX0_payNow 41 = .ok (.iinc 3 1, 3) := by decide +kernel
theorem dX0_payNow_44 : decode cX0_payNow 44 = .ok (.goto (-40), 3) := by decide +kernel
theorem dX0_payNow_47 : decode cX0_payNow 47 = .ok (.iload_n 2, 1) := by decide +kernel
theorem dX0_payNow_48 : decode cX0_payNow 48 = .ok (.ireturn, 1) := by decide +kernel
set_option maxRecDepth 20000 in
theorem ggX0_rivalsShadedBy_X0_towersShading : GoodIn wsX0_rivalsShadedBy wsX0_towersShading := goodIn_r _ [6, 7, 1, 8, 9, 10, 11, 12, 13, 14, 15, 16, 17, 18, 19, 20, 21, 22, 23, 24, 25, 26, 27, 28, 29] (by decide +kernel) (by decide +kernel)
set_option maxRecDepth 20000 in
theorem gX0_rivalsShadedBy_X0_towersShading : GoodIn wsX0_rivalsShadedBy (wsV RX0 81 RX0 yX0_towersShading wsX0_towersShading) := goodIn_app (goodIn_of _ (by decide +kernel)) ggX0_rivalsShadedBy_X0_towersShading
theorem dX0_rivalsShadedBy_0 : decode cX0_rivalsShadedBy 0 = .ok (.iconst 0, 1) := by decide +kernel
theorem dX0_rivalsShadedBy_1 : decode cX0_rivalsShadedBy 1 = .ok (.istore_n 2, 1) := by decide +kernel
theorem dX0_rivalsShadedBy_2 : decode cX0_rivalsShadedBy 2 = .ok (.iconst 0, 1) := by decide +kernel
theorem dX0_rivalsShadedBy_3 : decode cX0_rivalsShadedBy 3 = .ok (.istore_n 3, 1) := by decide +kernel
theorem dX0_rivalsShadedBy_4 : decode cX0_rivalsShadedBy 4 = .ok (.iload_n 3, 1) := by decide +kernel
theorem dX0_rivalsShadedBy_5 : decode cX0_rivalsShadedBy 5 = .ok (.bipush 36, 2) := by decide +kernel
theorem dX0_rivalsShadedBy_7 : decode cX0_rivalsShadedBy 7 = .ok (.if_icmp .ge 33, 3) := by decide +kernel
theorem dX0_rivalsShadedBy_10 : decode cX0_rivalsShadedBy 10 = .ok (.aload_n 0, 1) := by decide +kernel
theorem dX0_rivalsShadedBy_11 : decode cX0_rivalsShadedBy 11 = .ok (.getfield 15, 3) := by decide +kernel
theorem dX0_rivalsShadedBy_14 : decode cX0_rivalsShadedBy 14 = .ok (.iload_n 3, 1) := by decide +kernel
theorem dX0_rivalsShadedBy_15 : decode cX0_rivalsShadedBy 15 = .ok (.iaload, 1) := by decide +kernel
theorem dX0_rivalsShadedBy_16 : decode cX0_rivalsShadedBy 16 = .ok (.iconst 1, 1) := by decide +kernel
theorem dX0_rivalsShadedBy_17 : decode cX0_rivalsShadedBy 17 = .ok (.iload_n 1, 1) := by decide +kernel
theorem dX0_rivalsShadedBy_18 : decode cX0_rivalsShadedBy 18 = .ok (.isub, 1) := by decide +kernel
theorem dX0_rivalsShadedBy_19 : decode cX0_rivalsShadedBy 19 = .ok (.if_icmp .ne 15, 3) := by decide +kernel
theorem dX0_rivalsShadedBy_22 : decode cX0_rivalsShadedBy 22 = .ok (.aload_n 0, 1) := by decide +kernel
theorem dX0_rivalsShadedBy_23 : decode cX0_rivalsShadedBy 23 = .ok (.iload_n 3, 1) := by decide +kernel
theorem dX0_rivalsShadedBy_24 : decode cX0_rivalsShadedBy 24 = .ok (.iload_n 1, 1) := by decide +kernel
theorem dX0_rivalsShadedBy_25 : decode cX0_rivalsShadedBy 25 = .ok (.invokevirtual 81, 3) := by decide +kernel
theorem dX0_rivalsShadedBy_28 : decode cX0_rivalsShadedBy 28 = .ok (.ifCond .le 6, 3) := by decide +kernel
theorem dX0_rivalsShadedBy_31 : decode cX0_rivalsShadedBy 31 = .ok (.iinc 2 1, 3) := by decide +kernel
theorem dX0_rivalsShadedBy_34 : decode cX0_rivalsShadedBy 34 = .ok (.iinc 3 1, 3) := by decide +kernel
theorem dX0_rivalsShadedBy_37 : decode cX0_rivalsShadedBy 37 = .ok (.goto (-33), 3) := by decide +kernel
theorem dX0_rivalsShadedBy_40 : decode cX0_rivalsShadedBy 40 = .ok (.iload_n 2, 1) := by decide +kernel
theorem dX0_rivalsShadedBy_41 : decode cX0_rivalsShadedBy 41 = .ok (.ireturn, 1) := by decide +kernel
theorem dX0_crowdsTogether_0 : decode cX0_crowdsTogether 0 = .ok (.iconst 0, 1) := by decide +kernel
theorem dX0_crowdsTogether_1 : decode cX0_crowdsTogether 1 = .ok (.istore_n 1, 1) := by decide +kernel
theorem dX0_crowdsTogether_2 : decode cX0_crowdsTogether 2 = .ok (.iconst 0, 1) := by decide +kernel
theorem dX0_crowdsTogether_3 : decode cX0_crowdsTogether 3 = .ok (.istore_n 2, 1) := by decide +kernel
theorem dX0_crowdsTogether_4 : decode cX0_crowdsTogether 4 = .ok (.iload_n 2, 1) := by decide +kernel
theorem dX0_crowdsTogether_5 : decode cX0_crowdsTogether 5 = .ok (.bipush 36, 2) := by decide +kernel
theorem dX0_crowdsTogether_7 : decode cX0_crowdsTogether 7 = .ok (.if_icmp .ge 18, 3) := by decide +kernel
theorem dX0_crowdsTogether_10 : decode cX0_crowdsTogether 10 = .ok (.iload_n 1, 1) := by decide +kernel
theorem dX0_crowdsTogether_11 : decode cX0_crowdsTogether 11 = .ok (.aload_n 0, 1) := by decide +kernel
theorem dX0_crowdsTogether_12 : decode cX0_crowdsTogether 12 = .ok (.getfield 18, 3) := by decide +kernel
theorem dX0_crowdsTogether_15 : decode cX0_crowdsTogether 15 = .ok (.iload_n 2, 1) := by decide +kernel
theorem dX0_crowdsTogether_16 : decode cX0_crowdsTogether 16 = .ok (.iaload, 1) := by decide +kernel
theorem dX0_crowdsTogether_17 : decode cX0_crowdsTogether 17 = .ok (.iadd, 1) := by decide +kernel
theorem dX0_crowdsTogether_18 : decode cX0_crowdsTogether 18 = .ok (.istore_n 1, 1) := by decide +kernel
theorem dX0_crowdsTogether_19 : decode cX0_crowdsTogether 19 = .ok (.iinc 2 1, 3) := by decide +kernel
theorem dX0_crowdsTogether_22 : decode cX0_crowdsTogether 22 = .ok (.goto (-18), 3) := by decide +kernel
theorem dX0_crowdsTogether_25 : decode cX0_crowdsTogether 25 = .ok (.iload_n 1, 1) := by decide +kernel
theorem dX0_crowdsTogether_26 : decode cX0_crowdsTogether 26 = .ok (.ireturn, 1) := by decide +kernel
theorem dX1_init_0 : decode cX1_init 0 = .ok (.aload_n 0, 1) := by decide +kernel
theorem dX1_init_1 : decode cX1_init 1 = .ok (.invokespecial 3, 3) := by decide +kernel
theorem dX1_init_4 : decode cX1_init 4 = .ok (.aload_n 0, 1) := by decide +kernel
theorem dX1_init_5 : decode cX1_init 5 = .ok (.bipush 60, 2) := by decide +kernel
theorem dX1_init_7 : decode cX1_init 7 = .ok (.newarray .int, 2) := by decide +kernel
theorem dX1_init_9 : decode cX1_init 9 = .ok (.putfield 11, 3) := by decide +kernel
theorem dX1_init_12 : decode cX1_init 12 = .ok (.return_, 1) := by decide +kernel
theorem dX1_isFull_0 : decode cX1_isFull 0 = .ok (.aload_n 0, 1) := by decide +kernel
theorem dX1_isFull_1 : decode cX1_isFull 1 = .ok (.getfield 15, 3) := by decide +kernel
theorem dX1_isFull_4 : decode cX1_isFull 4 = .ok (.bipush 60, 2) := by decide +kernel
theorem dX1_isFull_6 : decode cX1_isFull 6 = .ok (.if_icmp .lt 7, 3) := by decide +kernel
theorem dX1_isFull_9 : decode cX1_isFull 9 = .ok (.iconst 1, 1) := by decide +kernel
theorem dX1_isFull_10 : decode cX1_isFull 10 = .ok (.goto 4, 3) := by decide +kernel
theorem dX1_isFull_13 : decode cX1_isFull 13 = .ok (.iconst 0, 1) := by decide +kernel
theorem dX1_isFull_14 : decode cX1_isFull 14 = .ok (.ireturn, 1) := by decide +kernel
theorem dX1_add_0 : decode cX1_add 0 = .ok (.aload_n 0, 1) := by decide +kernel
theorem dX1_add_1 : decode cX1_add 1 = .ok (.getfield 11, 3) := by decide +kernel
theorem dX1_add_4 : decode cX1_add 4 = .ok (.aload_n 0, 1) := by decide +kernel
theorem dX1_add_5 : decode cX1_add 5 = .ok (.getfield 15, 3) := by decide +kernel
theorem dX1_add_8 : decode cX1_add 8 = .ok (.iload_n 1, 1) := by decide +kernel
theorem dX1_add_9 : decode cX1_add 9 = .ok (.iastore, 1) := by decide +kernel
theorem dX1_add_10 : decode cX1_add 10 = .ok (.aload_n 0, 1) := by decide +kernel
theorem dX1_add_11 : decode cX1_add 11 = .ok (.dup, 1) := by decide +kernel
theorem dX1_add_12 : decode cX1_add 12 = .ok (.getfield 15, 3) := by decide +kernel
theorem dX1_add_15 : decode cX1_add 15 = .ok (.iconst 1, 1) := by decide +kernel
theorem dX1_add_16 : decode cX1_add 16 = .ok (.iadd, 1) := by decide +kernel
theorem dX1_add_17 : decode cX1_add 17 = .ok (.putfield 15, 3) := by decide +kernel
theorem dX1_add_20 : decode cX1_add 20 = .ok (.return_, 1) := by decide +kernel
set_option maxRecDepth 20000 in
theorem ggX1_errorIndex_X1_fits : GoodIn wsX1_errorIndex wsX1_fits := goodIn_r _ [6, 7, 8, 9, 5, 10, 11, 12] (by decide +kernel) (by decide +kernel)
set_option maxRecDepth 20000 in
theorem gX1_errorIndex_X1_fits : GoodIn wsX1_errorIndex (wsV RX1 19 RX1 yX1_fits wsX1_fits) := goodIn_app (goodIn_of _ (by decide +kernel)) ggX1_errorIndex_X1_fits
theorem dX1_errorIndex_0 : decode cX1_errorIndex 0 = .ok (.iconst 0, 1) := by decide +kernel
theorem dX1_errorIndex_1 : decode cX1_errorIndex 1 = .ok (.istore_n 1, 1) := by decide +kernel
theorem dX1_errorIndex_2 : decode cX1_errorIndex 2 = .ok (.iload_n 1, 1) := by decide +kernel
theorem dX1_errorIndex_3 : decode cX1_errorIndex 3 = .ok (.aload_n 0, 1) := by decide +kernel
theorem dX1_errorIndex_4 : decode cX1_errorIndex 4 = .ok (.getfield 15, 3) := by decide +kernel
theorem dX1_errorIndex_7 : decode cX1_errorIndex 7 = .ok (.if_icmp .ge 19, 3) := by decide +kernel
theorem dX1_errorIndex_10 : decode cX1_errorIndex 10 = .ok (.aload_n 0, 1) := by decide +kernel
theorem dX1_errorIndex_11 : decode cX1_errorIndex 11 = .ok (.iload_n 1, 1) := by decide +kernel
theorem dX1_errorIndex_12 : decode cX1_errorIndex 12 = .ok (.invokevirtual 19, 3) := by decide +kernel
theorem dX1_errorIndex_15 : decode cX1_errorIndex 15 = .ok (.ifCond .ne 5, 3) := by decide +kernel
theorem dX1_errorIndex_18 : decode cX1_errorIndex 18 = .ok (.iload_n 1, 1) := by decide +kernel
theorem dX1_errorIndex_19 : decode cX1_errorIndex 19 = .ok (.ireturn, 1) := by decide +kernel
theorem dX1_errorIndex_20 : decode cX1_errorIndex 20 = .ok (.iinc 1 1, 3) := by decide +kernel
theorem dX1_errorIndex_23 : decode cX1_errorIndex 23 = .ok (.goto (-21), 3) := by decide +kernel
theorem dX1_errorIndex_26 : decode cX1_errorIndex 26 = .ok (.aload_n 0, 1) := by decide +kernel
theorem dX1_errorIndex_27 : decode cX1_errorIndex 27 = .ok (.getfield 15, 3) := by decide +kernel
theorem dX1_errorIndex_30 : decode cX1_errorIndex 30 = .ok (.ireturn, 1) := by decide +kernel
set_option maxRecDepth 20000 in
theorem ggX1_isWhole_X1_errorIndex : GoodIn wsX1_isWhole wsX1_errorIndex := goodIn_r _ [6, 1, 7, 8, 9, 5, 10, 11, 12, 13, 14, 15, 16] (by decide +kernel) (by decide +kernel)
set_option maxRecDepth 20000 in
theorem gX1_isWhole_X1_errorIndex : GoodIn wsX1_isWhole (wsV RX1 23 RX1 yX1_errorIndex wsX1_errorIndex) := goodIn_app (goodIn_of _ (by decide +kernel)) ggX1_isWhole_X1_errorIndex
theorem dX1_isWhole_0 : decode cX1_isWhole 0 = .ok (.aload_n 0, 1) := by decide +kernel
theorem dX1_isWhole_1 : decode cX1_isWhole 1 = .ok (.getfield 15, 3) := by decide +kernel
theorem dX1_isWhole_4 : decode cX1_isWhole 4 = .ok (.iconst 5, 1) := by decide +kernel
theorem dX1_isWhole_5 : decode cX1_isWhole 5 = .ok (.irem, 1) := by decide +kernel
theorem dX1_isWhole_6 : decode cX1_isWhole 6 = .ok (.iconst 4, 1) := by decide +kernel
theorem dX1_isWhole_7 : decode cX1_isWhole 7 = .ok (.if_icmp .ne 18, 3) := by decide +kernel
theorem dX1_isWhole_10 : decode cX1_isWhole 10 = .ok (.aload_n 0, 1) := by decide +kernel
theorem dX1_isWhole_11 : decode cX1_isWhole 11 = .ok (.invokevirtual 23, 3) := by decide +kernel
theorem dX1_isWhole_14 : decode cX1_isWhole 14 = .ok (.aload_n 0, 1) := by decide +kernel
theorem dX1_isWhole_15 : decode cX1_isWhole 15 = .ok (.getfield 15, 3) := by decide +kernel
theorem dX1_isWhole_18 : decode cX1_isWhole 18 = .ok (.if_icmp .ne 7, 3) := by decide +kernel
theorem dX1_isWhole_21 : decode cX1_isWhole 21 = .ok (.iconst 1, 1) := by decide +kernel
theorem dX1_isWhole_22 : decode cX1_isWhole 22 = .ok (.goto 4, 3) := by decide +kernel
theorem dX1_isWhole_25 : decode cX1_isWhole 25 = .ok (.iconst 0, 1) := by decide +kernel
theorem dX1_isWhole_26 : decode cX1_isWhole 26 = .ok (.ireturn, 1) := by decide +kernel
theorem dX1_entries_0 : decode cX1_entries 0 = .ok (.aload_n 0, 1) := by decide +kernel
theorem dX1_entries_1 : decode cX1_entries 1 = .ok (.getfield 15, 3) := by decide +kernel
theorem dX1_entries_4 : decode cX1_entries 4 = .ok (.iconst 1, 1) := by decide +kernel
theorem dX1_entries_5 : decode cX1_entries 5 = .ok (.iadd, 1) := by decide +kernel
theorem dX1_entries_6 : decode cX1_entries 6 = .ok (.iconst 5, 1) := by decide +kernel
theorem dX1_entries_7 : decode cX1_entries 7 = .ok (.idiv, 1) := by decide +kernel
theorem dX1_entries_8 : decode cX1_entries 8 = .ok (.ireturn, 1) := by decide +kernel
theorem dX1_square_0 : decode cX1_square 0 = .ok (.iload_n 1, 1) := by decide +kernel
theorem dX1_square_1 : decode cX1_square 1 = .ok (.iconst 5, 1) := by decide +kernel
theorem dX1_square_2 : decode cX1_square 2 = .ok (.imul, 1) := by decide +kernel
theorem dX1_square_3 : decode cX1_square 3 = .ok (.istore_n 2, 1) := by decide +kernel
theorem dX1_square_4 : decode cX1_square 4 = .ok (.aload_n 0, 1) := by decide +kernel
theorem dX1_square_5 : decode cX1_square 5 = .ok (.getfield 11, 3) := by decide +kernel
theorem dX1_square_8 : decode cX1_square 8 = .ok (.iload_n 2, 1) := by decide +kernel
theorem dX1_square_9 : decode cX1_square 9 = .ok (.iaload, 1) := by decide +kernel
theorem dX1_square_10 : decode cX1_square 10 = .ok (.bipush 97, 2) := by decide +kernel
theorem dX1_square_12 : decode cX1_square 12 = .ok (.isub, 1) := by decide +kernel
theorem dX1_square_13 : decode cX1_square 13 = .ok (.bipush 6, 2) := by decide +kernel
theorem dX1_square_15 : decode cX1_square 15 = .ok (.imul, 1) := by decide +kernel
theorem dX1_square_16 : decode cX1_square 16 = .ok (.aload_n 0, 1) := by decide +kernel
theorem dX1_square_17 : decode cX1_square 17 = .ok (.getfield 11, 3) := by decide +kernel
theorem dX1_square_20 : decode cX1_square 20 = .ok (.iload_n 2, 1) := by decide +kernel
theorem dX1_square_21 : decode cX1_square 21 = .ok (.iconst 1, 1) := by decide +kernel
theorem dX1_square_22 : decode cX1_square 22 = .ok (.iadd, 1) := by decide +kernel
theorem dX1_square_23 : decode cX1_square 23 = .ok (.iaload, 1) := by decide +kernel
theorem dX1_square_24 : decode cX1_square 24 = .ok (.iadd, 1) := by decide +kernel
theorem dX1_square_25 : decode cX1_square 25 = .ok (.bipush 49, 2) := by decide +kernel
theorem dX1_square_27 : decode cX1_square 27 = .ok (.isub, 1) := by decide +kernel
theorem dX1_square_28 : decode cX1_square 28 = .ok (.ireturn, 1) := by decide +kernel
theorem dX1_mark_0 : decode cX1_mark 0 = .ok (.aload_n 0, 1) := by decide +kernel
theorem dX1_mark_1 : decode cX1_mark 1 = .ok (.getfield 11, 3) := by decide +kernel
theorem dX1_mark_4 : decode cX1_mark 4 = .ok (.iload_n 1, 1) := by decide +kernel
theorem dX1_mark_5 : decode cX1_mark 5 = .ok (.iconst 5, 1) := by decide +kernel
theorem dX1_mark_6 : decode cX1_mark 6 = .ok (.imul, 1) := by decide +kernel
theorem dX1_mark_7 : decode cX1_mark 7 = .ok (.iconst 2, 1) := by decide +kernel
theorem dX1_mark_8 : decode cX1_mark 8 = .ok (.iadd, 1) := by decide +kernel
theorem dX1_mark_9 : decode cX1_mark 9 = .ok (.iaload, 1) := by decide +kernel
theorem dX1_mark_10 : decode cX1_mark 10 = .ok (.ireturn, 1) := by decide +kernel
theorem dX1_number_0 : decode cX1_number 0 = .ok (.aload_n 0, 1) := by decide +kernel
theorem dX1_number_1 : decode cX1_number 1 = .ok (.getfield 11, 3) := by decide +kernel
theorem dX1_number_4 : decode cX1_number 4 = .ok (.iload_n 1, 1) := by decide +kernel
theorem dX1_number_5 : decode cX1_number 5 = .ok (.iconst 5, 1) := by decide +kernel
theorem dX1_number_6 : decode cX1_number 6 = .ok (.imul, 1) := by decide +kernel
theorem dX1_number_7 : decode cX1_number 7 = .ok (.iconst 3, 1) := by decide +kernel
theorem dX1_number_8 : decode cX1_number 8 = .ok (.iadd, 1) := by decide +kernel
theorem dX1_number_9 : decode cX1_number 9 = .ok (.iaload, 1) := by decide +kernel
theorem dX1_number_10 : decode cX1_number 10 = .ok (.bipush 48, 2) := by decide +kernel
theorem dX1_number_12 : decode cX1_number 12 = .ok (.isub, 1) := by decide +kernel
theorem dX1_number_13 : decode cX1_number 13 = .ok (.ireturn, 1) := by decide +kernel
set_option maxRecDepth 20000 in
theorem ggX1_fits_X1_leastDigit : GoodIn wsX1_fits wsX1_leastDigit := goodIn_r _ [5] (by decide +kernel) (by decide +kernel)
set_option maxRecDepth 20000 in
theorem gX1_fits_X1_leastDigit : GoodIn wsX1_fits (va_wsS RX1 27 yX1_leastDigit wsX1_leastDigit) := goodIn_app (goodIn_of _ (by decide +kernel)) ggX1_fits_X1_leastDigit
theorem dX1_fits_0 : decode cX1_fits 0 = .ok (.aload_n 0, 1) := by decide +kernel
theorem dX1_fits_1 : decode cX1_fits 1 = .ok (.getfield 11, 3) := by decide +kernel
theorem dX1_fits_4 : decode cX1_fits 4 = .ok (.iload_n 1, 1) := by decide +kernel
theorem dX1_fits_5 : decode cX1_fits 5 = .ok (.iaload, 1) := by decide +kernel
theorem dX1_fits_6 : decode cX1_fits 6 = .ok (.istore_n 2, 1) := by decide +kernel
theorem dX1_fits_7 : decode cX1_fits 7 = .ok (.iload_n 1, 1) := by decide +kernel
theorem dX1_fits_8 : decode cX1_fits 8 = .ok (.iconst 5, 1) := by decide +kernel
theorem dX1_fits_9 : decode cX1_fits 9 = .ok (.irem, 1) := by decide +kernel
theorem dX1_fits_10 : decode cX1_fits 10 = .ok (.tableswitch 117 0 3 #[30, 48, 66, 90], 30) := by decide +kernel
theorem dX1_fits_40 : decode cX1_fits 40 = .ok (.iload_n 2, 1) := by decide +kernel
theorem dX1_fits_41 : decode cX1_fits 41 = .ok (.bipush 97, 2) := by decide +kernel
theorem dX1_fits_43 : decode cX1_fits 43 = .ok (.if_icmp .lt 13, 3) := by decide +kernel
theorem dX1_fits_46 : decode cX1_fits 46 = .ok (.iload_n 2, 1) := by decide +kernel
theorem dX1_fits_47 : decode cX1_fits 47 = .ok (.bipush 102, 2) := by decide +kernel
theorem dX1_fits_49 : decode cX1_fits 49 = .ok (.if_icmp .gt 7, 3) := by decide +kernel
theorem dX1_fits_52 : decode cX1_fits 52 = .ok (.iconst 1, 1) := by decide +kernel
theorem dX1_fits_53 : decode cX1_fits 53 = .ok (.goto 4, 3) := by decide +kernel
theorem dX1_fits_56 : decode cX1_fits 56 = .ok (.iconst 0, 1) := by decide +kernel
theorem dX1_fits_57 : decode cX1_fits 57 = .ok (.ireturn, 1) := by decide +kernel
theorem dX1_fits_58 : decode cX1_fits 58 = .ok (.iload_n 2, 1) := by decide +kernel
theorem dX1_fits_59 : decode cX1_fits 59 = .ok (.bipush 49, 2) := by decide +kernel
theorem dX1_fits_61 : decode cX1_fits 61 = .ok (.if_icmp .lt 13, 3) := by decide +kernel
theorem dX1_fits_64 : decode cX1_fits 64 = .ok (.iload_n 2, 1) := by decide +kernel
theorem dX1_fits_65 : decode cX1_fits 65 = .ok (.bipush 54, 2) := by decide +kernel
theorem dX1_fits_67 : decode cX1_fits 67 = .ok (.if_icmp .gt 7, 3) := by decide +kernel
theorem dX1_fits_70 : decode cX1_fits 70 = .ok (.iconst 1, 1) := by decide +kernel
theorem dX1_fits_71 : decode cX1_fits 71 = .ok (.goto 4, 3) := by decide +kernel
theorem dX1_fits_74 : decode cX1_fits 74 = .ok (.iconst 0, 1) := by decide +kernel
theorem dX1_fits_75 : decode cX1_fits 75 = .ok (.ireturn, 1) := by decide +kernel
theorem dX1_fits_76 : decode cX1_fits 76 = .ok (.iload_n 2, 1) := by decide +kernel
theorem dX1_fits_77 : decode cX1_fits 77 = .ok (.bipush 43, 2) := by decide +kernel
theorem dX1_fits_79 : decode cX1_fits 79 = .ok (.if_icmp .eq 15, 3) := by decide +kernel
theorem dX1_fits_82 : decode cX1_fits 82 = .ok (.iload_n 2, 1) := by decide +kernel
theorem dX1_fits_83 : decode cX1_fits 83 = .ok (.bipush 45, 2) := by decide +kernel
theorem dX1_fits_85 : decode cX1_fits 85 = .ok (.if_icmp .eq 9, 3) := by decide +kernel
theorem dX1_fits_88 : decode cX1_fits 88 = .ok (.iload_n 2, 1) := by decide +kernel
theorem dX1_fits_89 : decode cX1_fits 89 = .ok (.bipush 61, 2) := by decide +kernel
theorem dX1_fits_91 : decode cX1_fits 91 = .ok (.if_icmp .ne 7, 3) := by decide +kernel
theorem dX1_fits_94 : decode cX1_fits 94 = .ok (.iconst 1, 1) := by decide +kernel
theorem dX1_fits_95 : decode cX1_fits 95 = .ok (.goto 4, 3) := by decide +kernel
theorem dX1_fits_98 : decode cX1_fits 98 = .ok (.iconst 0, 1) := by decide +kernel
theorem dX1_fits_99 : decode cX1_fits 99 = .ok (.ireturn, 1) := by decide +kernel
theorem dX1_fits_100 : decode cX1_fits 100 = .ok (.iload_n 2, 1) := by decide +kernel
theorem dX1_fits_101 : decode cX1_fits 101 = .ok (.aload_n 0, 1) := by decide +kernel
theorem dX1_fits_102 : decode cX1_fits 102 = .ok (.getfield 11, 3) := by decide +kernel
theorem dX1_fits_105 : decode cX1_fits 105 = .ok (.iload_n 1, 1) := by decide +kernel
theorem dX1_fits_106 : decode cX1_fits 106 = .ok (.iconst 1, 1) := by decide +kernel
theorem dX1_fits_107 : decode cX1_fits 107 = .ok (.isub, 1) := by decide +kernel
theorem dX1_fits_108 : decode cX1_fits 108 = .ok (.iaload, 1) := by decide +kernel
theorem dX1_fits_109 : decode cX1_fits 109 = .ok (.invokestatic 27, 3) := by decide +kernel
theorem dX1_fits_112 : decode cX1_fits 112 = .ok (.if_icmp .lt 13, 3) := by decide +kernel
theorem dX1_fits_115 : decode cX1_fits 115 = .ok (.iload_n 2, 1) := by decide +kernel
theorem dX1_fits_116 : decode cX1_fits 116 = .ok (.bipush 57, 2) := by decide +kernel
theorem dX1_fits_118 : decode cX1_fits 118 = .ok (.if_icmp .gt 7, 3) := by decide +kernel
theorem dX1_fits_121 : decode cX1_fits 121 = .ok (.iconst 1, 1) := by decide +kernel
theorem dX1_fits_122 : decode cX1_fits 122 = .ok (.goto 4, 3) := by decide +kernel
theorem dX1_fits_125 : decode cX1_fits 125 = .ok (.iconst 0, 1) := by decide +kernel
theorem dX1_fits_126 : decode cX1_fits 126 = .ok (.ireturn, 1) := by decide +kernel
theorem dX1_fits_127 : decode cX1_fits 127 = .ok (.iload_n 2, 1) := by decide +kernel
theorem dX1_fits_128 : decode cX1_fits 128 = .ok (.bipush 59, 2) := by decide +kernel
theorem dX1_fits_130 : decode cX1_fits 130 = .ok (.if_icmp .ne 7, 3) := by decide +kernel
theorem dX1_fits_133 : decode cX1_fits 133 = .ok (.iconst 1, 1) := by decide +kernel
theorem dX1_fits_134 : decode cX1_fits 134 = .ok (.goto 4, 3) := by decide +kernel
theorem dX1_fits_137 : decode cX1_fits 137 = .ok (.iconst 0, 1) := by decide +kernel
theorem dX1_fits_138 : decode cX1_fits 138 = .ok (.ireturn, 1) := by decide +kernel
theorem dX1_leastDigit_0 : decode cX1_leastDigit 0 = .ok (.iload_n 0, 1) := by decide +kernel
theorem dX1_leastDigit_1 : decode cX1_leastDigit 1 = .ok (.bipush 61, 2) := by decide +kernel
theorem dX1_leastDigit_3 : decode cX1_leastDigit 3 = .ok (.if_icmp .ne 8, 3) := by decide +kernel
theorem dX1_leastDigit_6 : decode cX1_leastDigit 6 = .ok (.bipush 48, 2) := by decide +kernel
theorem dX1_leastDigit_8 : decode cX1_leastDigit 8 = .ok (.goto 5, 3) := by decide +kernel
theorem dX1_leastDigit_11 : decode cX1_leastDigit 11 = .ok (.bipush 49, 2) := by decide +kernel
theorem dX1_leastDigit_13 : decode cX1_leastDigit 13 = .ok (.ireturn, 1) := by decide +kernel
theorem dX2_init_0 : decode cX2_init 0 = .ok (.aload_n 0, 1) := by decide +kernel
theorem dX2_init_1 : decode cX2_init 1 = .ok (.invokespecial 1, 3) := by decide +kernel
theorem dX2_init_4 : decode cX2_init 4 = .ok (.aload_n 0, 1) := by decide +kernel
theorem dX2_init_5 : decode cX2_init 5 = .ok (.sipush 684, 3) := by decide +kernel
theorem dX2_init_8 : decode cX2_init 8 = .ok (.newarray .int, 2) := by decide +kernel
theorem dX2_init_10 : decode cX2_init 10 = .ok (.putfield 11, 3) := by decide +kernel
theorem dX2_init_13 : decode cX2_init 13 = .ok (.return_, 1) := by decide +kernel
set_option maxRecDepth 20000 in
theorem ggX2_push_X2_place : GoodIn wsX2_push wsX2_place := goodIn_r _ [8, 3, 26, 27, 28] (by decide +kernel) (by decide +kernel)
set_option maxRecDepth 20000 in
theorem gX2_push_X2_place : GoodIn wsX2_push (wsV RX2 19 RX2 yX2_place wsX2_place) := goodIn_app (goodIn_of _ (by decide +kernel)) ggX2_push_X2_place
set_option maxRecDepth 20000 in
theorem ggX2_push_X0_writeTo : GoodIn wsX2_push wsX0_writeTo := goodIn_r _ [13, 14, 15, 16, 17, 18, 19, 20, 21, 22, 23, 24, 25, 29, 30, 31, 32, 33, 34, 35, 36] (by decide +kernel) (by decide +kernel)
set_option maxRecDepth 20000 in
theorem gX2_push_X0_writeTo : GoodIn wsX2_push (wsV RX2 23 RX0 yX0_writeTo wsX0_writeTo) := goodIn_app (goodIn_of _ (by decide +kernel)) ggX2_push_X0_writeTo
theorem dX2_push_0 : decode cX2_push 0 = .ok (.aload_n 1, 1) := by decide +kernel
theorem dX2_push_1 : decode cX2_push 1 = .ok (.aload_n 0, 1) := by decide +kernel
theorem dX2_push_2 : decode cX2_push 2 = .ok (.getfield 11, 3) := by decide +kernel
theorem dX2_push_5 : decode cX2_push 5 = .ok (.aload_n 0, 1) := by decide +kernel
theorem dX2_push_6 : decode cX2_push 6 = .ok (.aload_n 0, 1) := by decide +kernel
theorem dX2_push_7 : decode cX2_push 7 = .ok (.getfield 15, 3) := by decide +kernel
theorem dX2_push_10 : decode cX2_push 10 = .ok (.invokevirtual 19, 3) := by decide +kernel
theorem dX2_push_13 : decode cX2_push 13 = .ok (.invokevirtual 23, 3) := by decide +kernel
theorem dX2_push_16 : decode cX2_push 16 = .ok (.aload_n 0, 1) := by decide +kernel
theorem dX2_push_17 : decode cX2_push 17 = .ok (.getfield 15, 3) := by decide +kernel
theorem dX2_push_20 : decode cX2_push 20 = .ok (.bipush 6, 2) := by decide +kernel
theorem dX2_push_22 : decode cX2_push 22 = .ok (.if_icmp .ge 16, 3) := by decide +kernel
theorem dX2_push_25 : decode cX2_push 25 = .ok (.aload_n 0, 1) := by decide +kernel
theorem dX2_push_26 : decode cX2_push 26 = .ok (.dup, 1) := by decide +kernel
theorem dX2_push_27 : decode cX2_push 27 = .ok (.getfield 15, 3) := by decide +kernel
theorem dX2_push_30 : decode cX2_push 30 = .ok (.iconst 1, 1) := by decide +kernel
theorem dX2_push_31 : decode cX2_push 31 = .ok (.iadd, 1) := by decide +kernel
theorem dX2_push_32 : decode cX2_push 32 = .ok (.putfield 15, 3) := by decide +kernel
theorem dX2_push_35 : decode cX2_push 35 = .ok (.goto 16, 3) := by decide +kernel
theorem dX2_push_38 : decode cX2_push 38 = .ok (.aload_n 0, 1) := by decide +kernel
theorem dX2_push_39 : decode cX2_push 39 = .ok (.aload_n 0, 1) := by decide +kernel
theorem dX2_push_40 : decode cX2_push 40 = .ok (.getfield 27, 3) := by decide +kernel
theorem dX2_push_43 : decode cX2_push 43 = .ok (.iconst 1, 1) := by decide +kernel
theorem dX2_push_44 : decode cX2_push 44 = .ok (.iadd, 1) := by decide +kernel
theorem dX2_push_45 : decode cX2_push 45 = .ok (.bipush 6, 2) := by decide +kernel
theorem dX2_push_47 : decode cX2_push 47 = .ok (.irem, 1) := by decide +kernel
theorem dX2_push_48 : decode cX2_push 48 = .ok (.putfield 27, 3) := by decide +kernel
theorem dX2_push_51 : decode cX2_push 51 = .ok (.return_, 1) := by decide +kernel
theorem dX2_place_0 : decode cX2_place 0 = .ok (.aload_n 0, 1) := by decide +kernel
theorem dX2_place_1 : decode cX2_place 1 = .ok (.getfield 27, 3) := by decide +kernel
theorem dX2_place_4 : decode cX2_place 4 = .ok (.iload_n 1, 1) := by decide +kernel
theorem dX2_place_5 : decode cX2_place 5 = .ok (.iadd, 1) := by decide +kernel
theorem dX2_place_6 : decode cX2_place 6 = .ok (.bipush 6, 2) := by decide +kernel
theorem dX2_place_8 : decode cX2_place 8 = .ok (.irem, 1) := by decide +kernel
theorem dX2_place_9 : decode cX2_place 9 = .ok (.bipush 114, 2) := by decide +kernel
theorem dX2_place_11 : decode cX2_place 11 = .ok (.imul, 1) := by decide +kernel
theorem dX2_place_12 : decode cX2_place 12 = .ok (.ireturn, 1) := by decide +kernel
theorem dX3_side_0 : decode cX3_side 0 = .ok (.iload_n 0, 1) := by decide +kernel
theorem dX3_side_1 : decode cX3_side 1 = .ok (.iconst 3, 1) := by decide +kernel
theorem dX3_side_2 : decode cX3_side 2 = .ok (.idiv, 1) := by decide +kernel
theorem dX3_side_3 : decode cX3_side 3 = .ok (.ireturn, 1) := by decide +kernel
theorem dX3_steepness_0 : decode cX3_steepness 0 = .ok (.iload_n 0, 1) := by decide +kernel
theorem dX3_steepness_1 : decode cX3_steepness 1 = .ok (.iconst 3, 1) := by decide +kernel
theorem dX3_steepness_2 : decode cX3_steepness 2 = .ok (.irem, 1) := by decide +kernel
theorem dX3_steepness_3 : decode cX3_steepness 3 = .ok (.lookupswitch 29 #[(0, 25), (1, 27)], 25) := by decide +kernel
theorem dX3_steepness_28 : decode cX3_steepness 28 = .ok (.iconst 1, 1) := by decide +kernel
theorem dX3_steepness_29 : decode cX3_steepness 29 = .ok (.ireturn, 1) := by decide +kernel
theorem dX3_steepness_30 : decode cX3_steepness 30 = .ok (.iconst 3, 1) := by decide +kernel
theorem dX3_steepness_31 : decode cX3_steepness 31 = .ok (.ireturn, 1) := by decide +kernel
theorem dX3_steepness_32 : decode cX3_steepness 32 = .ok (.iconst 2, 1) := by decide +kernel
theorem dX3_steepness_33 : decode cX3_steepness 33 = .ok (.ireturn, 1) := by decide +kernel
theorem dX3_stepTowardSun_0 : decode cX3_stepTowardSun 0 = .ok (.iload_n 0, 1) := by decide +kernel
theorem dX3_stepTowardSun_1 : decode cX3_stepTowardSun 1 = .ok (.tableswitch 34 0 2 #[27, 29, 32], 27) := by decide +kernel
theorem dX3_stepTowardSun_28 : decode cX3_stepTowardSun 28 = .ok (.iconst 1, 1) := by decide +kernel
theorem dX3_stepTowardSun_29 : decode cX3_stepTowardSun 29 = .ok (.ireturn, 1) := by decide +kernel
theorem dX3_stepTowardSun_30 : decode cX3_stepTowardSun 30 = .ok (.bipush 6, 2) := by decide +kernel
theorem dX3_stepTowardSun_32 : decode cX3_stepTowardSun 32 = .ok (.ireturn, 1) := by decide +kernel
theorem dX3_stepTowardSun_33 : decode cX3_stepTowardSun 33 = .ok (.iconst (-1), 1) := by decide +kernel
theorem dX3_stepTowardSun_34 : decode cX3_stepTowardSun 34 = .ok (.ireturn, 1) := by decide +kernel
theorem dX3_stepTowardSun_35 : decode cX3_stepTowardSun 35 = .ok (.bipush (-6), 2) := by decide +kernel
theorem dX3_stepTowardSun_37 : decode cX3_stepTowardSun 37 = .ok (.ireturn, 1) := by decide +kernel
theorem dX3_squaresTowardSun_0 : decode cX3_squaresTowardSun 0 = .ok (.iload_n 0, 1) := by decide +kernel
theorem dX3_squaresTowardSun_1 : decode cX3_squaresTowardSun 1 = .ok (.tableswitch 46 0 2 #[27, 34, 41], 27) := by decide +kernel
theorem dX3_squaresTowardSun_28 : decode cX3_squaresTowardSun 28 = .ok (.iconst 5, 1) := by decide +kernel
theorem dX3_squaresTowardSun_29 : decode cX3_squaresTowardSun 29 = .ok (.iload_n 1, 1) := by decide +kernel
theorem dX3_squaresTowardSun_30 : decode cX3_squaresTowardSun 30 = .ok (.bipush 6, 2) := by decide +kernel
theorem dX3_squaresTowardSun_32 : decode cX3_squaresTowardSun 32 = .ok (.irem, 1) := by decide +kernel
theorem dX3_squaresTowardSun_33 : decode cX3_squaresTowardSun 33 = .ok (.isub, 1) := by decide +kernel
theorem dX3_squaresTowardSun_34 : decode cX3_squaresTowardSun 34 = .ok (.ireturn, 1) := by decide +kernel
theorem dX3_squaresTowardSun_35 : decode cX3_squaresTowardSun 35 = .ok (.iconst 5, 1) := by decide +kernel
theorem dX3_squaresTowardSun_36 : decode cX3_squaresTowardSun 36 = .ok (.iload_n 1, 1) := by decide +kernel
theorem dX3_squaresTowardSun_37 : decode cX3_squaresTowardSun 37 = .ok (.bipush 6, 2) := by decide +kernel
theorem dX3_squaresTowardSun_39 : decode cX3_squaresTowardSun 39 = .ok (.idiv, 1) := by decide +kernel
theorem dX3_squaresTowardSun_40 : decode cX3_squaresTowardSun 40 = .ok (.isub, 1) := by decide +kernel
theorem dX3_squaresTowardSun_41 : decode cX3_squaresTowardSun 41 = .ok (.ireturn, 1) := by decide +kernel
theorem dX3_squaresTowardSun_42 : decode cX3_squaresTowardSun 42 = .ok (.iload_n 1, 1) := by decide +kernel
theorem dX3_squaresTowardSun_43 : decode cX3_squaresTowardSun 43 = .ok (.bipush 6, 2) := by decide +kernel
theorem dX3_squaresTowardSun_45 : decode cX3_squaresTowardSun 45 = .ok (.irem, 1) := by decide +kernel
theorem dX3_squaresTowardSun_46 : decode cX3_squaresTowardSun 46 = .ok (.ireturn, 1) := by decide +kernel
theorem dX3_squaresTowardSun_47 : decode cX3_squaresTowardSun 47 = .ok (.iload_n 1, 1) := by decide +kernel
theorem dX3_squaresTowardSun_48 : decode cX3_squaresTowardSun 48 = .ok (.bipush 6, 2) := by decide +kernel
theorem dX3_squaresTowardSun_50 : decode cX3_squaresTowardSun 50 = .ok (.idiv, 1) := by decide +kernel
theorem dX3_squaresTowardSun_51 : decode cX3_squaresTowardSun 51 = .ok (.ireturn, 1) := by decide +kernel
set_option maxRecDepth 20000 in
theorem ggX3_distanceTowardSun_X3_stepTowardSun : GoodIn wsX3_distanceTowardSun wsX3_stepTowardSun := goodIn_r _ [4] (by decide +kernel) (by decide +kernel)
set_option maxRecDepth 20000 in
theorem gX3_distanceTowardSun_X3_stepTowardSun : GoodIn wsX3_distanceTowardSun (va_wsS RX3 9 yX3_stepTowardSun wsX3_stepTowardSun) := goodIn_app (goodIn_of _ (by decide +kernel)) ggX3_distanceTowardSun_X3_stepTowardSun
set_option maxRecDepth 20000 in
theorem ggX3_distanceTowardSun_X3_squaresTowardSun : GoodIn wsX3_distanceTowardSun wsX3_squaresTowardSun := goodIn_r _ [7] (by decide +kernel) (by decide +kernel)
set_option maxRecDepth 20000 in
theorem gX3_distanceTowardSun_X3_squaresTowardSun : GoodIn wsX3_distanceTowardSun (va_wsS RX3 15 yX3_squaresTowardSun wsX3_squaresTowardSun) := goodIn_app (goodIn_of _ (by decide +kernel)) ggX3_distanceTowardSun_X3_squaresTowardSun
theorem dX3_distanceTowardSun_0 : decode cX3_distanceTowardSun 0 = .ok (.iload_n 0, 1) := by decide +kernel
theorem dX3_distanceTowardSun_1 : decode cX3_distanceTowardSun 1 = .ok (.invokestatic 9, 3) := by decide +kernel
theorem dX3_distanceTowardSun_4 : decode cX3_distanceTowardSun 4 = .ok (.istore_n 3, 1) := by decide +kernel
theorem dX3_distanceTowardSun_5 : decode cX3_distanceTowardSun 5 = .ok (.iload_n 0, 1) := by decide +kernel
theorem dX3_distanceTowardSun_6 : decode cX3_distanceTowardSun 6 = .ok (.iload_n 1, 1) := by decide +kernel
theorem dX3_distanceTowardSun_7 : decode cX3_distanceTowardSun 7 = .ok (.invokestatic 15, 3) := by decide +kernel
theorem dX3_distanceTowardSun_10 : decode cX3_distanceTowardSun 10 = .ok (.istore 4, 2) := by decide +kernel
theorem dX3_distanceTowardSun_12 : decode cX3_distanceTowardSun 12 = .ok (.iconst 1, 1) := by decide +kernel
theorem dX3_distanceTowardSun_13 : decode cX3_distanceTowardSun 13 = .ok (.istore 5, 2) := by decide +kernel
theorem dX3_distanceTowardSun_15 : decode cX3_distanceTowardSun 15 = .ok (.iload 5, 2) := by decide +kernel
theorem dX3_distanceTowardSun_17 : decode cX3_distanceTowardSun 17 = .ok (.iload 4, 2) := by decide +kernel
theorem dX3_distanceTowardSun_19 : decode cX3_distanceTowardSun 19 = .ok (.if_icmp .gt 22, 3) := by decide +kernel
theorem dX3_distanceTowardSun_22 : decode cX3_distanceTowardSun 22 = .ok (.iload_n 1, 1) := by decide +kernel
theorem dX3_distanceTowardSun_23 : decode cX3_distanceTowardSun 23 = .ok (.iload 5, 2) := by decide +kernel
theorem dX3_distanceTowardSun_25 : decode cX3_distanceTowardSun 25 = .ok (.iload_n 3, 1) := by decide +kernel
theorem dX3_distanceTowardSun_26 : decode cX3_distanceTowardSun 26 = .ok (.imul, 1) := by decide +kernel
theorem dX3_distanceTowardSun_27 : decode cX3_distanceTowardSun 27 = .ok (.iadd, 1) := by decide +kernel
theorem dX3_distanceTowardSun_28 : decode cX3_distanceTowardSun 28 = .ok (.iload_n 2, 1) := by decide +kernel
theorem dX3_distanceTowardSun_29 : decode cX3_distanceTowardSun 29 = .ok (.if_icmp .ne 6, 3) := by decide +kernel
theorem dX3_distanceTowardSun_32 : decode cX3_distanceTowardSun 32 = .ok (.iload 5, 2) := by decide +kernel
theorem dX3_distanceTowardSun_34 : decode cX3_distanceTowardSun 34 = .ok (.ireturn, 1) := by decide +kernel
theorem dX3_distanceTowardSun_35 : decode cX3_distanceTowardSun 35 = .ok (.iinc 5 1, 3) := by decide +kernel
theorem dX3_distanceTowardSun_38 : decode cX3_distanceTowardSun 38 = .ok (.goto (-23), 3) := by decide +kernel
theorem dX3_distanceTowardSun_41 : decode cX3_distanceTowardSun 41 = .ok (.iconst 0, 1) := by decide +kernel
theorem dX3_distanceTowardSun_42 : decode cX3_distanceTowardSun 42 = .ok (.ireturn, 1) := by decide +kernel
set_option maxRecDepth 20000 in
theorem ggX4_init_X0_init : GoodIn wsX4_init wsX0_init := goodIn_r _ [22, 23, 2, 3, 16, 24, 25, 26, 27, 36, 37, 38, 39, 40, 41, 42, 43] (by decide +kernel) (by decide +kernel)
set_option maxRecDepth 20000 in
theorem gX4_init_X0_init : GoodIn wsX4_init (wsX0_init) := ggX4_init_X0_init
set_option maxRecDepth 20000 in
theorem ggX4_init_X1_init : GoodIn wsX4_init wsX1_init := goodIn_r _ [29, 30, 2, 3, 16, 31, 49, 50] (by decide +kernel) (by decide +kernel)
set_option maxRecDepth 20000 in
theorem gX4_init_X1_init_n18 : GoodIn wsX4_init (wsX1_init) := ggX4_init_X1_init
set_option maxRecDepth 20000 in
theorem ggX4_init_X2_init : GoodIn wsX4_init wsX2_init := goodIn_r _ [33, 34, 2, 3, 16, 35, 51, 52, 53] (by decide +kernel) (by decide +kernel)
set_option maxRecDepth 20000 in
theorem gX4_init_X2_init_n25 : GoodIn wsX4_init (wsX2_init) := ggX4_init_X2_init
theorem dX4_init_0 : decode cX4_init 0 = .ok (.aload_n 0, 1) := by decide +kernel
theorem dX4_init_1 : decode cX4_init 1 = .ok (.invokespecial 1, 3) := by decide +kernel
theorem dX4_init_4 : decode cX4_init 4 = .ok (.aload_n 0, 1) := by decide +kernel
theorem dX4_init_5 : decode cX4_init 5 = .ok (.new 7, 3) := by decide +kernel
theorem dX4_init_8 : decode cX4_init 8 = .ok (.dup, 1) := by decide +kernel
theorem dX4_init_9 : decode cX4_init 9 = .ok (.invokespecial 9, 3) := by decide +kernel
theorem dX4_init_12 : decode cX4_init 12 = .ok (.putfield 10, 3) := by decide +kernel
theorem dX4_init_15 : decode cX4_init 15 = .ok (.aload_n 0, 1) := by decide +kernel
theorem dX4_init_16 : decode cX4_init 16 = .ok (.new 16, 3) := by decide +kernel
theorem dX4_init_19 : decode cX4_init 19 = .ok (.dup, 1) := by decide +kernel
theorem dX4_init_20 : decode cX4_init 20 = .ok (.invokespecial 18, 3) := by decide +kernel
theorem dX4_init_23 : decode cX4_init 23 = .ok (.putfield 19, 3) := by decide +kernel
theorem dX4_init_26 : decode cX4_init 26 = .ok (.aload_n 0, 1) := by decide +kernel
theorem dX4_init_27 : decode cX4_init 27 = .ok (.new 23, 3) := by decide +kernel
theorem dX4_init_30 : decode cX4_init 30 = .ok (.dup, 1) := by decide +kernel
theorem dX4_init_31 : decode cX4_init 31 = .ok (.invokespecial 25, 3) := by decide +kernel
theorem dX4_init_34 : decode cX4_init 34 = .ok (.putfield 26, 3) := by decide +kernel
theorem dX4_init_37 : decode cX4_init 37 = .ok (.aload_n 0, 1) := by decide +kernel
theorem dX4_init_38 : decode cX4_init 38 = .ok (.sipush 228, 3) := by decide +kernel
theorem dX4_init_41 : decode cX4_init 41 = .ok (.newarray .int, 2) := by decide +kernel
theorem dX4_init_43 : decode cX4_init 43 = .ok (.putfield 30, 3) := by decide +kernel
theorem dX4_init_46 : decode cX4_init 46 = .ok (.aload_n 0, 1) := by decide +kernel
theorem dX4_init_47 : decode cX4_init 47 = .ok (.iconst 2, 1) := by decide +kernel
theorem dX4_init_48 : decode cX4_init 48 = .ok (.newarray .boolean, 2) := by decide +kernel
theorem dX4_init_50 : decode cX4_init 50 = .ok (.putfield 34, 3) := by decide +kernel
theorem dX4_init_53 : decode cX4_init 53 = .ok (.return_, 1) := by decide +kernel
set_option maxRecDepth 20000 in
theorem ggX4_raise_X4_isSquare : GoodIn wsX4_raise wsX4_isSquare := goodIn_r _ [8] (by decide +kernel) (by decide +kernel)
set_option maxRecDepth 20000 in
theorem gX4_raise_X4_isSquare : GoodIn wsX4_raise (va_wsS RX4 38 yX4_isSquare wsX4_isSquare) := goodIn_app (goodIn_of _ (by decide +kernel)) ggX4_raise_X4_isSquare
set_option maxRecDepth 20000 in
theorem ggX4_raise_X2_push : GoodIn wsX4_raise wsX2_push := goodIn_r _ [13, 14, 15, 16, 17, 18, 19, 12, 20, 21, 22, 23, 24, 25, 26, 27, 28, 29, 30, 31, 32, 33, 34, 35, 36, 37, 84, 85, 86, 76, 77, 78, 79, 80, 81, 82, 83] (by decide +kernel) (by decide +kernel)
set_option maxRecDepth 20000 in
theorem gX4_raise_X2_push : GoodIn wsX4_raise (wsV RX4 49 RX2 yX2_push wsX2_push) := goodIn_app (goodIn_of _ (by decide +kernel)) ggX4_raise_X2_push
set_option maxRecDepth 20000 in
theorem ggX4_raise_X0_refusalReason : GoodIn wsX4_raise wsX0_refusalReason := goodIn_r _ [41, 31, 35, 26, 34, 42, 43, 44, 24, 45, 46, 47, 48, 49, 50, 51, 52, 53, 54, 55, 56, 57, 58, 76, 77, 78, 79, 80, 81, 82, 83] (by decide +kernel) (by decide +kernel)
set_option maxRecDepth 20000 in
theorem gX4_raise_X0_refusalReason : GoodIn wsX4_raise (wsV RX4 53 RX0 yX0_refusalReason wsX0_refusalReason) := goodIn_app (goodIn_of _ (by decide +kernel)) ggX4_raise_X0_refusalReason
set_option maxRecDepth 20000 in
theorem ggX4_raise_X0_putTower : GoodIn wsX4_raise wsX0_putTower := goodIn_r _ [62, 31, 26, 76, 77, 78, 79, 80, 81, 82, 83] (by decide +kernel) (by decide +kernel)
set_option maxRecDepth 20000 in
theorem gX4_raise_X0_putTower : GoodIn wsX4_raise (wsV RX4 67 RX0 yX0_putTower wsX0_putTower) := goodIn_app (goodIn_of _ (by decide +kernel)) ggX4_raise_X0_putTower
set_option maxRecDepth 20000 in
theorem ggX4_raise_X0_endTurn : GoodIn wsX4_raise wsX0_endTurn := goodIn_r _ [66, 33, 34, 35, 36, 67, 68, 69, 24, 70, 31, 32, 42, 43, 44, 45, 26, 46, 47, 48, 49, 50, 51, 52, 53, 54, 55, 56, 57, 58, 76, 77, 78, 79, 80, 81, 82, 83] (by decide +kernel) (by decide +kernel)
set_option maxRecDepth 20000 in
theorem gX4_raise_X0_endTurn : GoodIn wsX4_raise (wsV RX4 71 RX0 yX0_endTurn wsX0_endTurn) := goodIn_app (goodIn_of _ (by decide +kernel)) ggX4_raise_X0_endTurn
theorem dX4_raise_0 : decode cX4_raise 0 = .ok (.iload_n 1, 1) := by decide +kernel
theorem dX4_raise_1 : decode cX4_raise 1 = .ok (.invokestatic 38, 3) := by decide +kernel
theorem dX4_raise_4 : decode cX4_raise 4 = .ok (.ifCond .ne 13, 3) := by decide +kernel
theorem dX4_raise_7 : decode cX4_raise 7 = .ok (.new 42, 3) := by decide +kernel
theorem dX4_raise_10 : decode cX4_raise 10 = .ok (.dup, 1) := by decide +kernel
theorem dX4_raise_11 : decode cX4_raise 11 = .ok (.ldc 44, 2) := by decide +kernel
theorem dX4_raise_13 : decode cX4_raise 13 = .ok (.invokespecial 46, 3) := by decide +kernel
theorem dX4_raise_16 : decode cX4_raise 16 = .ok (.athrow, 1) := by decide +kernel
theorem dX4_raise_17 : decode cX4_raise 17 = .ok (.aload_n 0, 1) := by decide +kernel
theorem dX4_raise_18 : decode cX4_raise 18 = .ok (.getfield 26, 3) := by decide +kernel
theorem dX4_raise_21 : decode cX4_raise 21 = .ok (.aload_n 0, 1) := by decide +kernel
theorem dX4_raise_22 : decode cX4_raise 22 = .ok (.getfield 10, 3) := by decide +kernel
theorem dX4_raise_25 : decode cX4_raise 25 = .ok (.invokevirtual 49, 3) := by decide +kernel
theorem dX4_raise_28 : decode cX4_raise 28 = .ok (.aload_n 0, 1) := by decide +kernel
theorem dX4_raise_29 : decode cX4_raise 29 = .ok (.getfield 10, 3) := by decide +kernel
theorem dX4_raise_32 : decode cX4_raise 32 = .ok (.iload_n 1, 1) := by decide +kernel
theorem dX4_raise_33 : decode cX4_raise 33 = .ok (.invokevirtual 53, 3) := by decide +kernel
theorem dX4_raise_36 : decode cX4_raise 36 = .ok (.istore_n 2, 1) := by decide +kernel
theorem dX4_raise_37 : decode cX4_raise 37 = .ok (.iload_n 2, 1) := by decide +kernel
theorem dX4_raise_38 : decode cX4_raise 38 = .ok (.ifCond .eq 18, 3) := by decide +kernel
theorem dX4_raise_41 : decode cX4_raise 41 = .ok (.aload_n 0, 1) := by decide +kernel
theorem dX4_raise_42 : decode cX4_raise 42 = .ok (.getfield 10, 3) := by decide +kernel
theorem dX4_raise_45 : decode cX4_raise 45 = .ok (.dup, 1) := by decide +kernel
theorem dX4_raise_46 : decode cX4_raise 46 = .ok (.getfield 57, 3) := by decide +kernel
theorem dX4_raise_49 : decode cX4_raise 49 = .ok (.iconst 1, 1) := by decide +kernel
theorem dX4_raise_50 : decode cX4_raise 50 = .ok (.iadd, 1) := by decide +kernel
theorem dX4_raise_51 : decode cX4_raise 51 = .ok (.putfield 57, 3) := by decide +kernel
theorem dX4_raise_54 : decode cX4_raise 54 = .ok (.iload_n 2, 1) := by decide +kernel
theorem dX4_raise_55 : decode cX4_raise 55 = .ok (.ireturn, 1) := by decide +kernel
theorem dX4_raise_56 : decode cX4_raise 56 = .ok (.aload_n 0, 1) := by decide +kernel
theorem dX4_raise_57 : decode cX4_raise 57 = .ok (.getfield 10, 3) := by decide +kernel
theorem dX4_raise_60 : decode cX4_raise 60 = .ok (.iload_n 1, 1) := by decide +kernel
theorem dX4_raise_61 : decode cX4_raise 61 = .ok (.aload_n 0, 1) := by decide +kernel
theorem dX4_raise_62 : decode cX4_raise 62 = .ok (.getfield 10, 3) := by decide +kernel
theorem dX4_raise_65 : decode cX4_raise 65 = .ok (.getfield 61, 3) := by decide +kernel
theorem dX4_raise_68 : decode cX4_raise 68 = .ok (.aload_n 0, 1) := by decide +kernel
theorem dX4_raise_69 : decode cX4_raise 69 = .ok (.getfield 10, 3) := by decide +kernel
theorem dX4_raise_72 : decode cX4_raise 72 = .ok (.getfield 64, 3) := by decide +kernel
theorem dX4_raise_75 : decode cX4_raise 75 = .ok (.iload_n 1, 1) := by decide +kernel
theorem dX4_raise_76 : decode cX4_raise 76 = .ok (.iaload, 1) := by decide +kernel
theorem dX4_raise_77 : decode cX4_raise 77 = .ok (.iconst 1, 1) := by decide +kernel
theorem dX4_raise_78 : decode cX4_raise 78 = .ok (.iadd, 1) := by decide +kernel
theorem dX4_raise_79 : decode cX4_raise 79 = .ok (.invokevirtual 67, 3) := by decide +kernel
theorem dX4_raise_82 : decode cX4_raise 82 = .ok (.aload_n 0, 1) := by decide +kernel
theorem dX4_raise_83 : decode cX4_raise 83 = .ok (.getfield 10, 3) := by decide +kernel
theorem dX4_raise_86 : decode cX4_raise 86 = .ok (.invokevirtual 71, 3) := by decide +kernel
theorem dX4_raise_89 : decode cX4_raise 89 = .ok (.bipush 10, 2) := by decide +kernel
theorem dX4_raise_91 : decode cX4_raise 91 = .ok (.aload_n 0, 1) := by decide +kernel
theorem dX4_raise_92 : decode cX4_raise 92 = .ok (.getfield 10, 3) := by decide +kernel
theorem dX4_raise_95 : decode cX4_raise 95 = .ok (.getfield 64, 3) := by decide +kernel
theorem dX4_raise_98 : decode cX4_raise 98 = .ok (.iload_n 1, 1) := by decide +kernel
theorem dX4_raise_99 : decode cX4_raise 99 = .ok (.iaload, 1) := by decide +kernel
theorem dX4_raise_100 : decode cX4_raise 100 = .ok (.iadd, 1) := by decide +kernel
theorem dX4_raise_101 : decode cX4_raise 101 = .ok (.ireturn, 1) := by decide +kernel
set_option maxRecDepth 20000 in
theorem ggX4_rest_X2_push : GoodIn wsX4_rest wsX2_push := goodIn_r _ [7, 8, 9, 10, 11, 12, 13, 6, 14, 15, 16, 17, 18, 19, 20, 21, 22, 23, 24, 25, 26, 27, 28, 29, 30, 31, 71, 72, 73, 63, 64, 65, 66, 67, 68, 69, 70] (by decide +kernel) (by decide +kernel)
set_option maxRecDepth 20000 in
theorem gX4_rest_X2_push : GoodIn wsX4_rest (wsV RX4 49 RX2 yX2_push wsX2_push) := goodIn_app (goodIn_of _ (by decide +kernel)) ggX4_rest_X2_push
set_option maxRecDepth 20000 in
theorem ggX4_rest_X0_payNow : GoodIn wsX4_rest wsX0_payNow := goodIn_r _ [35, 25, 28, 26, 36, 37, 38, 18, 39, 20, 40, 41, 42, 43, 44, 45, 46, 47, 48, 49, 50, 51, 52, 63, 64, 65, 66, 67, 68, 69, 70] (by decide +kernel) (by decide +kernel)
set_option maxRecDepth 20000 in
theorem gX4_rest_X0_payNow : GoodIn wsX4_rest (wsV RX4 74 RX0 yX0_payNow wsX0_payNow) := goodIn_app (goodIn_of _ (by decide +kernel)) ggX4_rest_X0_payNow
set_option maxRecDepth 20000 in
theorem ggX4_rest_X0_endTurn : GoodIn wsX4_rest wsX0_endTurn := goodIn_r _ [56, 27, 28, 29, 30, 57, 33, 34, 18, 35, 25, 26, 36, 37, 38, 39, 20, 40, 41, 42, 43, 44, 45, 46, 47, 48, 49, 50, 51, 52, 63, 64, 65, 66, 67, 68, 69, 70] (by decide +kernel) (by decide +kernel)
set_option maxRecDepth 20000 in
theorem gX4_rest_X0_endTurn : GoodIn wsX4_rest (wsV RX4 71 RX0 yX0_endTurn wsX0_endTurn) := goodIn_app (goodIn_of _ (by decide +kernel)) ggX4_rest_X0_endTurn
theorem dX4_rest_0 : decode cX4_rest 0 = .ok (.aload_n 0, 1) := by decide +kernel
theorem dX4_rest_1 : decode cX4_rest 1 = .ok (.getfield 26, 3) := by decide +kernel
theorem dX4_rest_4 : decode cX4_rest 4 = .ok (.aload_n 0, 1) := by decide +kernel
theorem dX4_rest_5 : decode cX4_rest 5 = .ok (.getfield 10, 3) := by decide +kernel
theorem dX4_rest_8 : decode cX4_rest 8 = .ok (.invokevirtual 49, 3) := by decide +kernel
theorem dX4_rest_11 : decode cX4_rest 11 = .ok (.aload_n 0, 1) := by decide +kernel
theorem dX4_rest_12 : decode cX4_rest 12 = .ok (.getfield 10, 3) := by decide +kernel
theorem dX4_rest_15 : decode cX4_rest 15 = .ok (.aload_n 0, 1) := by decide +kernel
theorem dX4_rest_16 : decode cX4_rest 16 = .ok (.getfield 10, 3) := by decide +kernel
theorem dX4_rest_19 : decode cX4_rest 19 = .ok (.getfield 61, 3) := by decide +kernel
theorem dX4_rest_22 : decode cX4_rest 22 = .ok (.invokevirtual 74, 3) := by decide +kernel
theorem dX4_rest_25 : decode cX4_rest 25 = .ok (.istore_n 1, 1) := by decide +kernel
theorem dX4_rest_26 : decode cX4_rest 26 = .ok (.aload_n 0, 1) := by decide +kernel
theorem dX4_rest_27 : decode cX4_rest 27 = .ok (.getfield 10, 3) := by decide +kernel
theorem dX4_rest_30 : decode cX4_rest 30 = .ok (.invokevirtual 71, 3) := by decide +kernel
theorem dX4_rest_33 : decode cX4_rest 33 = .ok (.iload_n 1, 1) := by decide +kernel
theorem dX4_rest_34 : decode cX4_rest 34 = .ok (.ireturn, 1) := by decide +kernel
set_option maxRecDepth 20000 in
theorem ggX4_crowd_X4_isSquare : GoodIn wsX4_crowd wsX4_isSquare := goodIn_r _ [10] (by decide +kernel) (by decide +kernel)
set_option maxRecDepth 20000 in
theorem gX4_crowd_X4_isSquare : GoodIn wsX4_crowd (va_wsS RX4 38 yX4_isSquare wsX4_isSquare) := goodIn_app (goodIn_of _ (by decide +kernel)) ggX4_crowd_X4_isSquare
set_option maxRecDepth 20000 in
theorem ggX4_crowd_X2_push : GoodIn wsX4_crowd wsX2_push := goodIn_r _ [15, 16, 17, 18, 19, 20, 21, 14, 22, 23, 24, 25, 26, 27, 28, 29, 30, 31, 32, 33, 34, 35, 36, 37, 38, 39, 53, 54, 55, 45, 46, 47, 48, 49, 50, 51, 52] (by decide +kernel) (by decide +kernel)
set_option maxRecDepth 20000 in
theorem gX4_crowd_X2_push : GoodIn wsX4_crowd (wsV RX4 49 RX2 yX2_push wsX2_push) := goodIn_app (goodIn_of _ (by decide +kernel)) ggX4_crowd_X2_push
theorem dX4_crowd_0 : decode cX4_crowd 0 = .ok (.iload_n 1, 1) := by decide +kernel
theorem dX4_crowd_1 : decode cX4_crowd 1 = .ok (.invokestatic 38, 3) := by decide +kernel
theorem dX4_crowd_4 : decode cX4_crowd 4 = .ok (.ifCond .ne 13, 3) := by decide +kernel
theorem dX4_crowd_7 : decode cX4_crowd 7 = .ok (.new 42, 3) := by decide +kernel
theorem dX4_crowd_10 : decode cX4_crowd 10 = .ok (.dup, 1) := by decide +kernel
theorem dX4_crowd_11 : decode cX4_crowd 11 = .ok (.ldc 44, 2) := by decide +kernel
theorem dX4_crowd_13 : decode cX4_crowd 13 = .ok (.invokespecial 46, 3) := by decide +kernel
theorem dX4_crowd_16 : decode cX4_crowd 16 = .ok (.athrow, 1) := by decide +kernel
theorem dX4_crowd_17 : decode cX4_crowd 17 = .ok (.iload_n 2, 1) := by decide +kernel
theorem dX4_crowd_18 : decode cX4_crowd 18 = .ok (.ifCond .lt 9, 3) := by decide +kernel
theorem dX4_crowd_21 : decode cX4_crowd 21 = .ok (.iload_n 2, 1) := by decide +kernel
theorem dX4_crowd_22 : decode cX4_crowd 22 = .ok (.bipush 9, 2) := by decide +kernel
theorem dX4_crowd_24 : decode cX4_crowd 24 = .ok (.if_icmp .le 13, 3) := by decide +kernel
theorem dX4_crowd_27 : decode cX4_crowd 27 = .ok (.new 77, 3) := by decide +kernel
theorem dX4_crowd_30 : decode cX4_crowd 30 = .ok (.dup, 1) := by decide +kernel
theorem dX4_crowd_31 : decode cX4_crowd 31 = .ok (.ldc 79, 2) := by decide +kernel
theorem dX4_crowd_33 : decode cX4_crowd 33 = .ok (.invokespecial 81, 3) := by decide +kernel
theorem dX4_crowd_36 : decode cX4_crowd 36 = .ok (.athrow, 1) := by decide +kernel
theorem dX4_crowd_37 : decode cX4_crowd 37 = .ok (.aload_n 0, 1) := by decide +kernel
theorem dX4_crowd_38 : decode cX4_crowd 38 = .ok (.getfield 26, 3) := by decide +kernel
theorem dX4_crowd_41 : decode cX4_crowd 41 = .ok (.aload_n 0, 1) := by decide +kernel
theorem dX4_crowd_42 : decode cX4_crowd 42 = .ok (.getfield 10, 3) := by decide +kernel
theorem dX4_crowd_45 : decode cX4_crowd 45 = .ok (.invokevirtual 49, 3) := by decide +kernel
theorem dX4_crowd_48 : decode cX4_crowd 48 = .ok (.aload_n 0, 1) := by decide +kernel
theorem dX4_crowd_49 : decode cX4_crowd 49 = .ok (.getfield 10, 3) := by decide +kernel
theorem dX4_crowd_52 : decode cX4_crowd 52 = .ok (.getfield 82, 3) := by decide +kernel
theorem dX4_crowd_55 : decode cX4_crowd 55 = .ok (.iload_n 1, 1) := by decide +kernel
theorem dX4_crowd_56 : decode cX4_crowd 56 = .ok (.iaload, 1) := by decide +kernel
theorem dX4_crowd_57 : decode cX4_crowd 57 = .ok (.istore_n 3, 1) := by decide +kernel
theorem dX4_crowd_58 : decode cX4_crowd 58 = .ok (.aload_n 0, 1) := by decide +kernel
theorem dX4_crowd_59 : decode cX4_crowd 59 = .ok (.getfield 10, 3) := by decide +kernel
theorem dX4_crowd_62 : decode cX4_crowd 62 = .ok (.getfield 82, 3) := by decide +kernel
theorem dX4_crowd_65 : decode cX4_crowd 65 = .ok (.iload_n 1, 1) := by decide +kernel
theorem dX4_crowd_66 : decode cX4_crowd 66 = .ok (.iload_n 2, 1) := by decide +kernel
theorem dX4_crowd_67 : decode cX4_crowd 67 = .ok (.iastore, 1) := by decide +kernel
theorem dX4_crowd_68 : decode cX4_crowd 68 = .ok (.iload_n 3, 1) := by decide +kernel
theorem dX4_crowd_69 : decode cX4_crowd 69 = .ok (.ireturn, 1) := by decide +kernel
set_option maxRecDepth 20000 in
theorem ggX4_tear_X4_isSquare : GoodIn wsX4_tear wsX4_isSquare := goodIn_r _ [8] (by decide +kernel) (by decide +kernel)
set_option maxRecDepth 20000 in
theorem gX4_tear_X4_isSquare : GoodIn wsX4_tear (va_wsS RX4 38 yX4_isSquare wsX4_isSquare) := goodIn_app (goodIn_of _ (by decide +kernel)) ggX4_tear_X4_isSquare
set_option maxRecDepth 20000 in
theorem ggX4_tear_X2_push : GoodIn wsX4_tear wsX2_push := goodIn_r _ [13, 14, 15, 16, 17, 18, 19, 12, 20, 21, 22, 23, 24, 25, 26, 27, 28, 29, 30, 31, 32, 33, 34, 35, 36, 37, 55, 56, 57, 47, 48, 49, 50, 51, 52, 53, 54] (by decide +kernel) (by decide +kernel)
set_option maxRecDepth 20000 in
theorem gX4_tear_X2_push : GoodIn wsX4_tear (wsV RX4 49 RX2 yX2_push wsX2_push) := goodIn_app (goodIn_of _ (by decide +kernel)) ggX4_tear_X2_push
set_option maxRecDepth 20000 in
theorem ggX4_tear_X0_putTower : GoodIn wsX4_tear wsX0_putTower := goodIn_r _ [41, 31, 26, 47, 48, 49, 50, 51, 52, 53, 54] (by decide +kernel) (by decide +kernel)
set_option maxRecDepth 20000 in
theorem gX4_tear_X0_putTower : GoodIn wsX4_tear (wsV RX4 67 RX0 yX0_putTower wsX0_putTower) := goodIn_app (goodIn_of _ (by decide +kernel)) ggX4_tear_X0_putTower
theorem dX4_tear_0 : decode cX4_tear 0 = .ok (.iload_n 1, 1) := by decide +kernel
theorem dX4_tear_1 : decode cX4_tear 1 = .ok (.invokestatic 38, 3) := by decide +kernel
theorem dX4_tear_4 : decode cX4_tear 4 = .ok (.ifCond .ne 13, 3) := by decide +kernel
theorem dX4_tear_7 : decode cX4_tear 7 = .ok (.new 42, 3) := by decide +kernel
theorem dX4_tear_10 : decode cX4_tear 10 = .ok (.dup, 1) := by decide +kernel
theorem dX4_tear_11 : decode cX4_tear 11 = .ok (.ldc 44, 2) := by decide +kernel
theorem dX4_tear_13 : decode cX4_tear 13 = .ok (.invokespecial 46, 3) := by decide +kernel
theorem dX4_tear_16 : decode cX4_tear 16 = .ok (.athrow, 1) := by decide +kernel
theorem dX4_tear_17 : decode cX4_tear 17 = .ok (.aload_n 0, 1) := by decide +kernel
theorem dX4_tear_18 : decode cX4_tear 18 = .ok (.getfield 26, 3) := by decide +kernel
theorem dX4_tear_21 : decode cX4_tear 21 = .ok (.aload_n 0, 1) := by decide +kernel
theorem dX4_tear_22 : decode cX4_tear 22 = .ok (.getfield 10, 3) := by decide +kernel
theorem dX4_tear_25 : decode cX4_tear 25 = .ok (.invokevirtual 49, 3) := by decide +kernel
theorem dX4_tear_28 : decode cX4_tear 28 = .ok (.aload_n 0, 1) := by decide +kernel
theorem dX4_tear_29 : decode cX4_tear 29 = .ok (.getfield 10, 3) := by decide +kernel
theorem dX4_tear_32 : decode cX4_tear 32 = .ok (.getfield 64, 3) := by decide +kernel
theorem dX4_tear_35 : decode cX4_tear 35 = .ok (.iload_n 1, 1) := by decide +kernel
theorem dX4_tear_36 : decode cX4_tear 36 = .ok (.iaload, 1) := by decide +kernel
theorem dX4_tear_37 : decode cX4_tear 37 = .ok (.istore_n 2, 1) := by decide +kernel
theorem dX4_tear_38 : decode cX4_tear 38 = .ok (.aload_n 0, 1) := by decide +kernel
theorem dX4_tear_39 : decode cX4_tear 39 = .ok (.getfield 10, 3) := by decide +kernel
theorem dX4_tear_42 : decode cX4_tear 42 = .ok (.iload_n 1, 1) := by decide +kernel
theorem dX4_tear_43 : decode cX4_tear 43 = .ok (.iconst (-1), 1) := by decide +kernel
theorem dX4_tear_44 : decode cX4_tear 44 = .ok (.iconst 0, 1) := by decide +kernel
theorem dX4_tear_45 : decode cX4_tear 45 = .ok (.invokevirtual 67, 3) := by decide +kernel
theorem dX4_tear_48 : decode cX4_tear 48 = .ok (.iload_n 2, 1) := by decide +kernel
theorem dX4_tear_49 : decode cX4_tear 49 = .ok (.ireturn, 1) := by decide +kernel
set_option maxRecDepth 20000 in
theorem ggX4_hour_X2_push : GoodIn wsX4_hour wsX2_push := goodIn_r _ [9, 10, 11, 12, 13, 14, 15, 8, 16, 17, 18, 19, 20, 21, 22, 23, 24, 25, 26, 27, 28, 29, 30, 31, 32, 33, 47, 48, 49, 39, 40, 41, 42, 43, 44, 45, 46] (by decide +kernel) (by decide +kernel)
set_option maxRecDepth 20000 in
theorem gX4_hour_X2_push : GoodIn wsX4_hour (wsV RX4 49 RX2 yX2_push wsX2_push) := goodIn_app (goodIn_of _ (by decide +kernel)) ggX4_hour_X2_push
theorem dX4_hour_0 : decode cX4_hour 0 = .ok (.iload_n 1, 1) := by decide +kernel
theorem dX4_hour_1 : decode cX4_hour 1 = .ok (.ifCond .lt 9, 3) := by decide +kernel
theorem dX4_hour_4 : decode cX4_hour 4 = .ok (.iload_n 1, 1) := by decide +kernel
theorem dX4_hour_5 : decode cX4_hour 5 = .ok (.bipush 12, 2) := by decide +kernel
theorem dX4_hour_7 : decode cX4_hour 7 = .ok (.if_icmp .lt 13, 3) := by decide +kernel
theorem dX4_hour_10 : decode cX4_hour 10 = .ok (.new 77, 3) := by decide +kernel
theorem dX4_hour_13 : decode cX4_hour 13 = .ok (.dup, 1) := by decide +kernel
theorem dX4_hour_14 : decode cX4_hour 14 = .ok (.ldc 85, 2) := by decide +kernel
theorem dX4_hour_16 : decode cX4_hour 16 = .ok (.invokespecial 81, 3) := by decide +kernel
theorem dX4_hour_19 : decode cX4_hour 19 = .ok (.athrow, 1) := by decide +kernel
theorem dX4_hour_20 : decode cX4_hour 20 = .ok (.aload_n 0, 1) := by decide +kernel
theorem dX4_hour_21 : decode cX4_hour 21 = .ok (.getfield 26, 3) := by decide +kernel
theorem dX4_hour_24 : decode cX4_hour 24 = .ok (.aload_n 0, 1) := by decide +kernel
theorem dX4_hour_25 : decode cX4_hour 25 = .ok (.getfield 10, 3) := by decide +kernel
theorem dX4_hour_28 : decode cX4_hour 28 = .ok (.invokevirtual 49, 3) := by decide +kernel
theorem dX4_hour_31 : decode cX4_hour 31 = .ok (.aload_n 0, 1) := by decide +kernel
theorem dX4_hour_32 : decode cX4_hour 32 = .ok (.getfield 10, 3) := by decide +kernel
theorem dX4_hour_35 : decode cX4_hour 35 = .ok (.getfield 87, 3) := by decide +kernel
theorem dX4_hour_38 : decode cX4_hour 38 = .ok (.istore_n 2, 1) := by decide +kernel
theorem dX4_hour_39 : decode cX4_hour 39 = .ok (.aload_n 0, 1) := by decide +kernel
theorem dX4_hour_40 : decode cX4_hour 40 = .ok (.getfield 10, 3) := by decide +kernel
theorem dX4_hour_43 : decode cX4_hour 43 = .ok (.iload_n 1, 1) := by decide +kernel
theorem dX4_hour_44 : decode cX4_hour 44 = .ok (.putfield 87, 3) := by decide +kernel
theorem dX4_hour_47 : decode cX4_hour 47 = .ok (.iload_n 2, 1) := by decide +kernel
theorem dX4_hour_48 : decode cX4_hour 48 = .ok (.ireturn, 1) := by decide +kernel
set_option maxRecDepth 20000 in
theorem ggX4_append_X1_isFull : GoodIn wsX4_append wsX1_isFull := goodIn_r _ [10, 11, 22, 23] (by decide +kernel) (by decide +kernel)
set_option maxRecDepth 20000 in
theorem gX4_append_X1_isFull : GoodIn wsX4_append (wsV RX4 92 RX1 yX1_isFull wsX1_isFull) := goodIn_app (goodIn_of _ (by decide +kernel)) ggX4_append_X1_isFull
set_option maxRecDepth 20000 in
theorem ggX4_append_X1_add : GoodIn wsX4_append wsX1_add := goodIn_r _ [15, 16, 11, 22, 23] (by decide +kernel) (by decide +kernel)
set_option maxRecDepth 20000 in
theorem gX4_append_X1_add : GoodIn wsX4_append (wsV RX4 101 RX1 yX1_add wsX1_add) := goodIn_app (goodIn_of _ (by decide +kernel)) ggX4_append_X1_add
theorem dX4_append_0 : decode cX4_append 0 = .ok (.iload_n 1, 1) := by decide +kernel
theorem dX4_append_1 : decode cX4_append 1 = .ok (.bipush 33, 2) := by decide +kernel
theorem dX4_append_3 : decode cX4_append 3 = .ok (.if_icmp .lt 9, 3) := by decide +kernel
theorem dX4_append_6 : decode cX4_append 6 = .ok (.iload_n 1, 1) := by decide +kernel
theorem dX4_append_7 : decode cX4_append 7 = .ok (.bipush 126, 2) := by decide +kernel
theorem dX4_append_9 : decode cX4_append 9 = .ok (.if_icmp .le 13, 3) := by decide +kernel
theorem dX4_append_12 : decode cX4_append 12 = .ok (.new 77, 3) := by decide +kernel
theorem dX4_append_15 : decode cX4_append 15 = .ok (.dup, 1) := by decide +kernel
theorem dX4_append_16 : decode cX4_append 16 = .ok (.ldc 90, 2) := by decide +kernel
theorem dX4_append_18 : decode cX4_append 18 = .ok (.invokespecial 81, 3) := by decide +kernel
theorem dX4_append_21 : decode cX4_append 21 = .ok (.athrow, 1) := by decide +kernel
theorem dX4_append_22 : decode cX4_append 22 = .ok (.aload_n 0, 1) := by decide +kernel
theorem dX4_append_23 : decode cX4_append 23 = .ok (.getfield 19, 3) := by decide +kernel
theorem dX4_append_26 : decode cX4_append 26 = .ok (.invokevirtual 92, 3) := by decide +kernel
theorem dX4_append_29 : decode cX4_append 29 = .ok (.ifCond .eq 13, 3) := by decide +kernel
theorem dX4_append_32 : decode cX4_append 32 = .ok (.new 96, 3) := by decide +kernel
theorem dX4_append_35 : decode cX4_append 35 = .ok (.dup, 1) := by decide +kernel
theorem dX4_append_36 : decode cX4_append 36 = .ok (.ldc 98, 2) := by decide +kernel
theorem dX4_append_38 : decode cX4_append 38 = .ok (.invokespecial 100, 3) := by decide +kernel
theorem dX4_append_41 : decode cX4_append 41 = .ok (.athrow, 1) := by decide +kernel
theorem dX4_append_42 : decode cX4_append 42 = .ok (.aload_n 0, 1) := by decide +kernel
theorem dX4_append_43 : decode cX4_append 43 = .ok (.getfield 19, 3) := by decide +kernel
theorem dX4_append_46 : decode cX4_append 46 = .ok (.iload_n 1, 1) := by decide +kernel
theorem dX4_append_47 : decode cX4_append 47 = .ok (.invokevirtual 101, 3) := by decide +kernel
theorem dX4_append_50 : decode cX4_append 50 = .ok (.aload_n 0, 1) := by decide +kernel
theorem dX4_append_51 : decode cX4_append 51 = .ok (.getfield 19, 3) := by decide +kernel
theorem dX4_append_54 : decode cX4_append 54 = .ok (.getfield 105, 3) := by decide +kernel
theorem dX4_append_57 : decode cX4_append 57 = .ok (.ireturn, 1) := by decide +kernel
set_option maxRecDepth 20000 in
theorem ggX4_load_X1_isWhole : GoodIn wsX4_load wsX1_isWhole := goodIn_r _ [10, 11, 12, 13, 14, 9, 15, 16, 17, 18, 19, 20, 21, 22, 23, 91, 92] (by decide +kernel) (by decide +kernel)
set_option maxRecDepth 20000 in
theorem gX4_load_X1_isWhole : GoodIn wsX4_load (wsV RX4 112 RX1 yX1_isWhole wsX1_isWhole) := goodIn_app (goodIn_of _ (by decide +kernel)) ggX4_load_X1_isWhole
set_option maxRecDepth 20000 in
theorem ggX4_load_X2_push : GoodIn wsX4_load wsX2_push := goodIn_r _ [28, 29, 30, 31, 32, 33, 34, 27, 35, 36, 37, 38, 39, 40, 41, 42, 43, 44, 45, 46, 47, 48, 49, 50, 51, 52, 93, 94, 95, 96, 97, 98, 99, 100, 101, 102, 103] (by decide +kernel) (by decide +kernel)
set_option maxRecDepth 20000 in
theorem gX4_load_X2_push : GoodIn wsX4_load (wsV RX4 49 RX2 yX2_push wsX2_push) := goodIn_app (goodIn_of _ (by decide +kernel)) ggX4_load_X2_push
set_option maxRecDepth 20000 in
theorem ggX4_load_X1_entries : GoodIn wsX4_load wsX1_entries := goodIn_r _ [56, 11, 91, 92] (by decide +kernel) (by decide +kernel)
set_option maxRecDepth 20000 in
theorem gX4_load_X1_entries : GoodIn wsX4_load (wsV RX4 117 RX1 yX1_entries wsX1_entries) := goodIn_app (goodIn_of _ (by decide +kernel)) ggX4_load_X1_entries
set_option maxRecDepth 20000 in
theorem ggX4_load_X4_putEntry : GoodIn wsX4_load wsX4_putEntry := goodIn_r _ [61, 3, 5, 62, 63, 64, 9, 65, 20, 66, 67, 68, 69, 70, 71, 72, 73, 74, 75, 76, 39, 77, 46, 41, 86, 87, 88, 89, 90, 96, 97, 98, 99, 100, 101, 102, 103, 91, 92] (by decide +kernel) (by decide +kernel)
set_option maxRecDepth 20000 in
theorem gX4_load_X4_putEntry : GoodIn wsX4_load (wsV RX4 120 RX4 yX4_putEntry wsX4_putEntry) := goodIn_app (goodIn_of _ (by decide +kernel)) ggX4_load_X4_putEntry
set_option maxRecDepth 20000 in
theorem ggX4_load_X0_towers : GoodIn wsX4_load wsX0_towers := goodIn_r _ [81, 82, 83, 84, 39, 85, 46, 96, 97, 98, 99, 100, 101, 102, 103] (by decide +kernel) (by decide +kernel)
set_option maxRecDepth 20000 in
theorem gX4_load_X0_towers : GoodIn wsX4_load (wsV RX4 123 RX0 yX0_towers wsX0_towers) := goodIn_app (goodIn_of _ (by decide +kernel)) ggX4_load_X0_towers
theorem dX4_load_0 : decode cX4_load 0 = .ok (.aload_n 0, 1) := by decide +kernel
theorem dX4_load_1 : decode cX4_load 1 = .ok (.getfield 19, 3) := by decide +kernel
theorem dX4_load_4 : decode cX4_load 4 = .ok (.invokevirtual 112, 3) := by decide +kernel
theorem dX4_load_7 : decode cX4_load 7 = .ok (.ifCond .ne 13, 3) := by decide +kernel
theorem dX4_load_10 : decode cX4_load 10 = .ok (.new 77, 3) := by decide +kernel
theorem dX4_load_13 : decode cX4_load 13 = .ok (.dup, 1) := by decide +kernel
theorem dX4_load_14 : decode cX4_load 14 = .ok (.ldc 115, 2) := by decide +kernel
theorem dX4_load_16 : decode cX4_load 16 = .ok (.invokespecial 81, 3) := by decide +kernel
theorem dX4_load_19 : decode cX4_load 19 = .ok (.athrow, 1) := by decide +kernel
theorem dX4_load_20 : decode cX4_load 20 = .ok (.aload_n 0, 1) := by decide +kernel
theorem dX4_load_21 : decode cX4_load 21 = .ok (.getfield 26, 3) := by decide +kernel
theorem dX4_load_24 : decode cX4_load 24 = .ok (.aload_n 0, 1) := by decide +kernel
theorem dX4_load_25 : decode cX4_load 25 = .ok (.getfield 10, 3) := by decide +kernel
theorem dX4_load_28 : decode cX4_load 28 = .ok (.invokevirtual 49, 3) := by decide +kernel
theorem dX4_load_31 : decode cX4_load 31 = .ok (.aload_n 0, 1) := by decide +kernel
theorem dX4_load_32 : decode cX4_load 32 = .ok (.getfield 19, 3) := by decide +kernel
theorem dX4_load_35 : decode cX4_load 35 = .ok (.invokevirtual 117, 3) := by decide +kernel
theorem dX4_load_38 : decode cX4_load 38 = .ok (.istore_n 1, 1) := by decide +kernel
theorem dX4_load_39 : decode cX4_load 39 = .ok (.iconst 0, 1) := by decide +kernel
theorem dX4_load_40 : decode cX4_load 40 = .ok (.istore_n 2, 1) := by decide +kernel
theorem dX4_load_41 : decode cX4_load 41 = .ok (.iload_n 2, 1) := by decide +kernel
theorem dX4_load_42 : decode cX4_load 42 = .ok (.iload_n 1, 1) := by decide +kernel
theorem dX4_load_43 : decode cX4_load 43 = .ok (.if_icmp .ge 14, 3) := by decide +kernel
theorem dX4_load_46 : decode cX4_load 46 = .ok (.aload_n 0, 1) := by decide +kernel
theorem dX4_load_47 : decode cX4_load 47 = .ok (.iload_n 2, 1) := by decide +kernel
theorem dX4_load_48 : decode cX4_load 48 = .ok (.invokevirtual 120, 3) := by decide +kernel
theorem dX4_load_51 : decode cX4_load 51 = .ok (.iinc 2 1, 3) := by decide +kernel
theorem dX4_load_54 : decode cX4_load 54 = .ok (.goto (-13), 3) := by decide +kernel
theorem dX4_load_57 : decode cX4_load 57 = .ok (.aload_n 0, 1) := by decide +kernel
theorem dX4_load_58 : decode cX4_load 58 = .ok (.getfield 19, 3) := by decide +kernel
theorem dX4_load_61 : decode cX4_load 61 = .ok (.iconst 0, 1) := by decide +kernel
theorem dX4_load_62 : decode cX4_load 62 = .ok (.putfield 105, 3) := by decide +kernel
theorem dX4_load_65 : decode cX4_load 65 = .ok (.aload_n 0, 1) := by decide +kernel
theorem dX4_load_66 : decode cX4_load 66 = .ok (.getfield 10, 3) := by decide +kernel
theorem dX4_load_69 : decode cX4_load 69 = .ok (.invokevirtual 123, 3) := by decide +kernel
theorem dX4_load_72 : decode cX4_load 72 = .ok (.ireturn, 1) := by decide +kernel
set_option maxRecDepth 20000 in
theorem ggX4_keep_X0_writeTo : GoodIn wsX4_keep wsX0_writeTo := goodIn_r _ [10, 11, 12, 13, 14, 15, 16, 17, 18, 19, 20, 21, 22, 36, 37, 38, 39, 40, 41, 42, 43] (by decide +kernel) (by decide +kernel)
set_option maxRecDepth 20000 in
theorem gX4_keep_X0_writeTo : GoodIn wsX4_keep (wsV RX4 128 RX0 yX0_writeTo wsX0_writeTo) := goodIn_app (goodIn_of _ (by decide +kernel)) ggX4_keep_X0_writeTo
set_option maxRecDepth 20000 in
theorem ggX4_keep_X0_towers : GoodIn wsX4_keep wsX0_towers := goodIn_r _ [26, 27, 28, 29, 9, 30, 16, 36, 37, 38, 39, 40, 41, 42, 43] (by decide +kernel) (by decide +kernel)
set_option maxRecDepth 20000 in
theorem gX4_keep_X0_towers : GoodIn wsX4_keep (wsV RX4 123 RX0 yX0_towers wsX0_towers) := goodIn_app (goodIn_of _ (by decide +kernel)) ggX4_keep_X0_towers
theorem dX4_keep_0 : decode cX4_keep 0 = .ok (.iload_n 1, 1) := by decide +kernel
theorem dX4_keep_1 : decode cX4_keep 1 = .ok (.ifCond .lt 8, 3) := by decide +kernel
theorem dX4_keep_4 : decode cX4_keep 4 = .ok (.iload_n 1, 1) := by decide +kernel
theorem dX4_keep_5 : decode cX4_keep 5 = .ok (.iconst 2, 1) := by decide +kernel
theorem dX4_keep_6 : decode cX4_keep 6 = .ok (.if_icmp .lt 13, 3) := by decide +kernel
theorem dX4_keep_9 : decode cX4_keep 9 = .ok (.new 77, 3) := by decide +kernel
theorem dX4_keep_12 : decode cX4_keep 12 = .ok (.dup, 1) := by decide +kernel
theorem dX4_keep_13 : decode cX4_keep 13 = .ok (.ldc 126, 2) := by decide +kernel
theorem dX4_keep_15 : decode cX4_keep 15 = .ok (.invokespecial 81, 3) := by decide +kernel
theorem dX4_keep_18 : decode cX4_keep 18 = .ok (.athrow, 1) := by decide +kernel
theorem dX4_keep_19 : decode cX4_keep 19 = .ok (.aload_n 0, 1) := by decide +kernel
theorem dX4_keep_20 : decode cX4_keep 20 = .ok (.getfield 10, 3) := by decide +kernel
theorem dX4_keep_23 : decode cX4_keep 23 = .ok (.aload_n 0, 1) := by decide +kernel
theorem dX4_keep_24 : decode cX4_keep 24 = .ok (.getfield 30, 3) := by decide +kernel
theorem dX4_keep_27 : decode cX4_keep 27 = .ok (.iload_n 1, 1) := by decide +kernel
theorem dX4_keep_28 : decode cX4_keep 28 = .ok (.bipush 114, 2) := by decide +kernel
theorem dX4_keep_30 : decode cX4_keep 30 = .ok (.imul, 1) := by decide +kernel
theorem dX4_keep_31 : decode cX4_keep 31 = .ok (.invokevirtual 128, 3) := by decide +kernel
theorem dX4_keep_34 : decode cX4_keep 34 = .ok (.aload_n 0, 1) := by decide +kernel
theorem dX4_keep_35 : decode cX4_keep 35 = .ok (.getfield 34, 3) := by decide +kernel
theorem dX4_keep_38 : decode cX4_keep 38 = .ok (.iload_n 1, 1) := by decide +kernel
theorem dX4_keep_39 : decode cX4_keep 39 = .ok (.iconst 1, 1) := by decide +kernel
theorem dX4_keep_40 : decode cX4_keep 40 = .ok (.bastore, 1) := by decide +kernel
theorem dX4_keep_41 : decode cX4_keep 41 = .ok (.aload_n 0, 1) := by decide +kernel
theorem dX4_keep_42 : decode cX4_keep 42 = .ok (.getfield 10, 3) := by decide +kernel
theorem dX4_keep_45 : decode cX4_keep 45 = .ok (.invokevirtual 123, 3) := by decide +kernel
theorem dX4_keep_48 : decode cX4_keep 48 = .ok (.ireturn, 1) := by decide +kernel
set_option maxRecDepth 20000 in
theorem ggX4_goBack_X2_push : GoodIn wsX4_goBack wsX2_push := goodIn_r _ [13, 14, 15, 16, 17, 18, 19, 12, 20, 21, 22, 23, 24, 25, 26, 27, 28, 29, 30, 31, 32, 33, 34, 35, 36, 37, 55, 56, 57, 58, 59, 60, 61, 62, 63, 64, 65] (by decide +kernel) (by decide +kernel)
set_option maxRecDepth 20000 in
theorem gX4_goBack_X2_push : GoodIn wsX4_goBack (wsV RX4 49 RX2 yX2_push wsX2_push) := goodIn_app (goodIn_of _ (by decide +kernel)) ggX4_goBack_X2_push
set_option maxRecDepth 20000 in
theorem ggX4_goBack_X0_readFrom : GoodIn wsX4_goBack wsX0_readFrom := goodIn_r _ [41, 26, 27, 28, 29, 30, 31, 32, 33, 34, 35, 36, 37, 58, 59, 60, 61, 62, 63, 64, 65] (by decide +kernel) (by decide +kernel)
set_option maxRecDepth 20000 in
theorem gX4_goBack_X0_readFrom : GoodIn wsX4_goBack (wsV RX4 134 RX0 yX0_readFrom wsX0_readFrom) := goodIn_app (goodIn_of _ (by decide +kernel)) ggX4_goBack_X0_readFrom
set_option maxRecDepth 20000 in
theorem ggX4_goBack_X0_towers : GoodIn wsX4_goBack wsX0_towers := goodIn_r _ [45, 46, 47, 48, 24, 49, 31, 58, 59, 60, 61, 62, 63, 64, 65] (by decide +kernel) (by decide +kernel)
set_option maxRecDepth 20000 in
theorem gX4_goBack_X0_towers : GoodIn wsX4_goBack (wsV RX4 123 RX0 yX0_towers wsX0_towers) := goodIn_app (goodIn_of _ (by decide +kernel)) ggX4_goBack_X0_towers
theorem dX4_goBack_0 : decode cX4_goBack 0 = .ok (.iload_n 1, 1) := by decide +kernel
theorem dX4_goBack_1 : decode cX4_goBack 1 = .ok (.ifCond .lt 8, 3) := by decide +kernel
theorem dX4_goBack_4 : decode cX4_goBack 4 = .ok (.iload_n 1, 1) := by decide +kernel
theorem dX4_goBack_5 : decode cX4_goBack 5 = .ok (.iconst 2, 1) := by decide +kernel
theorem dX4_goBack_6 : decode cX4_goBack 6 = .ok (.if_icmp .lt 13, 3) := by decide +kernel
theorem dX4_goBack_9 : decode cX4_goBack 9 = .ok (.new 77, 3) := by decide +kernel
theorem dX4_goBack_12 : decode cX4_goBack 12 = .ok (.dup, 1) := by decide +kernel
theorem dX4_goBack_13 : decode cX4_goBack 13 = .ok (.ldc 126, 2) := by decide +kernel
theorem dX4_goBack_15 : decode cX4_goBack 15 = .ok (.invokespecial 81, 3) := by decide +kernel
theorem dX4_goBack_18 : decode cX4_goBack 18 = .ok (.athrow, 1) := by decide +kernel
theorem dX4_goBack_19 : decode cX4_goBack 19 = .ok (.aload_n 0, 1) := by decide +kernel
theorem dX4_goBack_20 : decode cX4_goBack 20 = .ok (.getfield 34, 3) := by decide +kernel
theorem dX4_goBack_23 : decode cX4_goBack 23 = .ok (.iload_n 1, 1) := by decide +kernel
theorem dX4_goBack_24 : decode cX4_goBack 24 = .ok (.baload, 1) := by decide +kernel
theorem dX4_goBack_25 : decode cX4_goBack 25 = .ok (.ifCond .ne 13, 3) := by decide +kernel
theorem dX4_goBack_28 : decode cX4_goBack 28 = .ok (.new 96, 3) := by decide +kernel
theorem dX4_goBack_31 : decode cX4_goBack 31 = .ok (.dup, 1) := by decide +kernel
theorem dX4_goBack_32 : decode cX4_goBack 32 = .ok (.ldc 132, 2) := by decide +kernel
theorem dX4_goBack_34 : decode cX4_goBack 34 = .ok (.invokespecial 100, 3) := by decide +kernel
theorem dX4_goBack_37 : decode cX4_goBack 37 = .ok (.athrow, 1) := by decide +kernel
theorem dX4_goBack_38 : decode cX4_goBack 38 = .ok (.aload_n 0, 1) := by decide +kernel
theorem dX4_goBack_39 : decode cX4_goBack 39 = .ok (.getfield 26, 3) := by decide +kernel
theorem dX4_goBack_42 : decode cX4_goBack 42 = .ok (.aload_n 0, 1) := by decide +kernel
theorem dX4_goBack_43 : decode cX4_goBack 43 = .ok (.getfield 10, 3) := by decide +kernel
theorem dX4_goBack_46 : decode cX4_goBack 46 = .ok (.invokevirtual 49, 3) := by decide +kernel
theorem dX4_goBack_49 : decode cX4_goBack 49 = .ok (.aload_n 0, 1) := by decide +kernel
theorem dX4_goBack_50 : decode cX4_goBack 50 = .ok (.getfield 10, 3) := by decide +kernel
theorem dX4_goBack_53 : decode cX4_goBack 53 = .ok (.aload_n 0, 1) := by decide +kernel
theorem dX4_goBack_54 : decode cX4_goBack 54 = .ok (.getfield 30, 3) := by decide +kernel
theorem dX4_goBack_57 : decode cX4_goBack 57 = .ok (.iload_n 1, 1) := by decide +kernel
theorem dX4_goBack_58 : decode cX4_goBack 58 = .ok (.bipush 114, 2) := by decide +kernel
theorem dX4_goBack_60 : decode cX4_goBack 60 = .ok (.imul, 1) := by decide +kernel
theorem dX4_goBack_61 : decode cX4_goBack 61 = .ok (.invokevirtual 134, 3) := by decide +kernel
theorem dX4_goBack_64 : decode cX4_goBack 64 = .ok (.aload_n 0, 1) := by decide +kernel
theorem dX4_goBack_65 : decode cX4_goBack 65 = .ok (.getfield 10, 3) := by decide +kernel
theorem dX4_goBack_68 : decode cX4_goBack 68 = .ok (.invokevirtual 123, 3) := by decide +kernel
theorem dX4_goBack_71 : decode cX4_goBack 71 = .ok (.ireturn, 1) := by decide +kernel
set_option maxRecDepth 20000 in
theorem ggX4_squareOf_X4_isSquare : GoodIn wsX4_squareOf wsX4_isSquare := goodIn_r _ [9] (by decide +kernel) (by decide +kernel)
set_option maxRecDepth 20000 in
theorem gX4_squareOf_X4_isSquare : GoodIn wsX4_squareOf (va_wsS RX4 38 yX4_isSquare wsX4_isSquare) := goodIn_app (goodIn_of _ (by decide +kernel)) ggX4_squareOf_X4_isSquare
set_option maxRecDepth 20000 in
theorem ggX4_squareOf_X0_isDark : GoodIn wsX4_squareOf wsX0_isDark := goodIn_r _ [14, 15, 16, 17, 18, 19, 20, 21, 22, 23, 24, 25, 26, 27, 28, 57, 58, 59, 60, 61, 62, 63, 64] (by decide +kernel) (by decide +kernel)
set_option maxRecDepth 20000 in
theorem gX4_squareOf_X0_isDark : GoodIn wsX4_squareOf (wsV RX4 148 RX0 yX0_isDark wsX0_isDark) := goodIn_app (goodIn_of _ (by decide +kernel)) ggX4_squareOf_X0_isDark
set_option maxRecDepth 20000 in
theorem ggX4_squareOf_X0_isDarkBySweep : GoodIn wsX4_squareOf wsX0_isDarkBySweep := goodIn_r _ [32, 15, 33, 34, 35, 36, 16, 17, 18, 19, 20, 21, 22, 23, 24, 25, 26, 27, 28, 57, 58, 59, 60, 61, 62, 63, 64] (by decide +kernel) (by decide +kernel)
set_option maxRecDepth 20000 in
theorem gX4_squareOf_X0_isDarkBySweep : GoodIn wsX4_squareOf (wsV RX4 152 RX0 yX0_isDarkBySweep wsX0_isDarkBySweep) := goodIn_app (goodIn_of _ (by decide +kernel)) ggX4_squareOf_X0_isDarkBySweep
set_option maxRecDepth 20000 in
theorem ggX4_squareOf_X0_towersShading : GoodIn wsX4_squareOf wsX0_towersShading := goodIn_r _ [40, 41, 42, 15, 16, 17, 18, 19, 20, 21, 22, 23, 24, 25, 26, 27, 28, 57, 58, 59, 60, 61, 62, 63, 64] (by decide +kernel) (by decide +kernel)
set_option maxRecDepth 20000 in
theorem gX4_squareOf_X0_towersShading : GoodIn wsX4_squareOf (wsV RX4 155 RX0 yX0_towersShading wsX0_towersShading) := goodIn_app (goodIn_of _ (by decide +kernel)) ggX4_squareOf_X0_towersShading
set_option maxRecDepth 20000 in
theorem ggX4_squareOf_X0_squaresShadedFrom : GoodIn wsX4_squareOf wsX0_squaresShadedFrom := goodIn_r _ [46, 41, 15, 16, 17, 18, 19, 20, 21, 22, 23, 24, 25, 26, 27, 28, 57, 58, 59, 60, 61, 62, 63, 64] (by decide +kernel) (by decide +kernel)
set_option maxRecDepth 20000 in
theorem gX4_squareOf_X0_squaresShadedFrom : GoodIn wsX4_squareOf (wsV RX4 159 RX0 yX0_squaresShadedFrom wsX0_squaresShadedFrom) := goodIn_app (goodIn_of _ (by decide +kernel)) ggX4_squareOf_X0_squaresShadedFrom
set_option maxRecDepth 20000 in
theorem ggX4_squareOf_X0_darkHourMask : GoodIn wsX4_squareOf wsX0_darkHourMask := goodIn_r _ [50, 51, 11, 12, 13, 14, 15, 16, 17, 18, 19, 20, 21, 22, 23, 24, 25, 26, 27, 28, 57, 58, 59, 60, 61, 62, 63, 64] (by decide +kernel) (by decide +kernel)
set_option maxRecDepth 20000 in
theorem gX4_squareOf_X0_darkHourMask : GoodIn wsX4_squareOf (wsV RX4 162 RX0 yX0_darkHourMask wsX0_darkHourMask) := goodIn_app (goodIn_of _ (by decide +kernel)) ggX4_squareOf_X0_darkHourMask
theorem dX4_squareOf_0 : decode cX4_squareOf 0 = .ok (.iload_n 1, 1) := by decide +kernel
theorem dX4_squareOf_1 : decode cX4_squareOf 1 = .ok (.invokestatic 38, 3) := by decide +kernel
theorem dX4_squareOf_4 : decode cX4_squareOf 4 = .ok (.ifCond .ne 13, 3) := by decide +kernel
theorem dX4_squareOf_7 : decode cX4_squareOf 7 = .ok (.new 42, 3) := by decide +kernel
theorem dX4_squareOf_10 : decode cX4_squareOf 10 = .ok (.dup, 1) := by decide +kernel
theorem dX4_squareOf_11 : decode cX4_squareOf 11 = .ok (.ldc 44, 2) := by decide +kernel
theorem dX4_squareOf_13 : decode cX4_squareOf 13 = .ok (.invokespecial 46, 3) := by decide +kernel
theorem dX4_squareOf_16 : decode cX4_squareOf 16 = .ok (.athrow, 1) := by decide +kernel
theorem dX4_squareOf_17 : decode cX4_squareOf 17 = .ok (.iload_n 2, 1) := by decide +kernel
theorem dX4_squareOf_18 : decode cX4_squareOf 18 = .ok (.tableswitch 162 0 7 #[46, 56, 66, 76, 100, 124, 144, 153], 46) := by decide +kernel
theorem dX4_squareOf_64 : decode cX4_squareOf 64 = .ok (.aload_n 0, 1) := by decide +kernel
theorem dX4_squareOf_65 : decode cX4_squareOf 65 = .ok (.getfield 10, 3) := by decide +kernel
theorem dX4_squareOf_68 : decode cX4_squareOf 68 = .ok (.getfield 64, 3) := by decide +kernel
theorem dX4_squareOf_71 : decode cX4_squareOf 71 = .ok (.iload_n 1, 1) := by decide +kernel
theorem dX4_squareOf_72 : decode cX4_squareOf 72 = .ok (.iaload, 1) := by decide +kernel
theorem dX4_squareOf_73 : decode cX4_squareOf 73 = .ok (.ireturn, 1) := by decide +kernel
theorem dX4_squareOf_74 : decode cX4_squareOf 74 = .ok (.aload_n 0, 1) := by decide +kernel
theorem dX4_squareOf_75 : decode cX4_squareOf 75 = .ok (.getfield 10, 3) := by decide +kernel
theorem dX4_squareOf_78 : decode cX4_squareOf 78 = .ok (.getfield 145, 3) := by decide +kernel
theorem dX4_squareOf_81 : decode cX4_squareOf 81 = .ok (.iload_n 1, 1) := by decide +kernel
theorem dX4_squareOf_82 : decode cX4_squareOf 82 = .ok (.iaload, 1) := by decide +kernel
theorem dX4_squareOf_83 : decode cX4_squareOf 83 = .ok (.ireturn, 1) := by decide +kernel
theorem dX4_squareOf_84 : decode cX4_squareOf 84 = .ok (.aload_n 0, 1) := by decide +kernel
theorem dX4_squareOf_85 : decode cX4_squareOf 85 = .ok (.getfield 10, 3) := by decide +kernel
theorem dX4_squareOf_88 : decode cX4_squareOf 88 = .ok (.getfield 82, 3) := by decide +kernel
theorem dX4_squareOf_91 : decode cX4_squareOf 91 = .ok (.iload_n 1, 1) := by decide +kernel
theorem dX4_squareOf_92 : decode cX4_squareOf 92 = .ok (.iaload, 1) := by decide +kernel
theorem dX4_squareOf_93 : decode cX4_squareOf 93 = .ok (.ireturn, 1) := by decide +kernel
theorem dX4_squareOf_94 : decode cX4_squareOf 94 = .ok (.aload_n 0, 1) := by decide +kernel
theorem dX4_squareOf_95 : decode cX4_squareOf 95 = .ok (.getfield 10, 3) := by decide +kernel
theorem dX4_squareOf_98 : decode cX4_squareOf 98 = .ok (.iload_n 1, 1) := by decide +kernel
theorem dX4_squareOf_99 : decode cX4_squareOf 99 = .ok (.aload_n 0, 1) := by decide +kernel
theorem dX4_squareOf_100 : decode cX4_squareOf 100 = .ok (.getfield 10, 3) := by decide +kernel
theorem dX4_squareOf_103 : decode cX4_squareOf 103 = .ok (.getfield 87, 3) := by decide +kernel
theorem dX4_squareOf_106 : decode cX4_squareOf 106 = .ok (.invokevirtual 148, 3) := by decide +kernel
theorem dX4_squareOf_109 : decode cX4_squareOf 109 = .ok (.ifCond .eq 7, 3) := by decide +kernel
theorem dX4_squareOf_112 : decode cX4_squareOf 112 = .ok (.iconst 1, 1) := by decide +kernel
theorem dX4_squareOf_113 : decode cX4_squareOf 113 = .ok (.goto 4, 3) := by decide +kernel
theorem dX4_squareOf_116 : decode cX4_squareOf 116 = .ok (.iconst 0, 1) := by decide +kernel
theorem dX4_squareOf_117 : decode cX4_squareOf 117 = .ok (.ireturn, 1) := by decide +kernel
theorem dX4_squareOf_118 : decode cX4_squareOf 118 = .ok (.aload_n 0, 1) := by decide +kernel
theorem dX4_squareOf_119 : decode cX4_squareOf 119 = .ok (.getfield 10, 3) := by decide +kernel
theorem dX4_squareOf_122 : decode cX4_squareOf 122 = .ok (.iload_n 1, 1) := by decide +kernel
theorem dX4_squareOf_123 : decode cX4_squareOf 123 = .ok (.aload_n 0, 1) := by decide +kernel
theorem dX4_squareOf_124 : decode cX4_squareOf 124 = .ok (.getfield 10, 3) := by decide +kernel
theorem dX4_squareOf_127 : decode cX4_squareOf 127 = .ok (.getfield 87, 3) := by decide +kernel
theorem dX4_squareOf_130 : decode cX4_squareOf 130 = .ok (.invokevirtual 152, 3) := by decide +kernel
theorem dX4_squareOf_133 : decode cX4_squareOf 133 = .ok (.ifCond .eq 7, 3) := by decide +kernel
theorem dX4_squareOf_136 : decode cX4_squareOf 136 = .ok (.iconst 1, 1) := by decide +kernel
theorem dX4_squareOf_137 : decode cX4_squareOf 137 = .ok (.goto 4, 3) := by decide +kernel
theorem dX4_squareOf_140 : decode cX4_squareOf 140 = .ok (.iconst 0, 1) := by decide +kernel
theorem dX4_squareOf_141 : decode cX4_squareOf 141 = .ok (.ireturn, 1) := by decide +kernel
theorem dX4_squareOf_142 : decode cX4_squareOf 142 = .ok (.aload_n 0, 1) := by decide +kernel
theorem dX4_squareOf_143 : decode cX4_squareOf 143 = .ok (.getfield 10, 3) := by decide +kernel
theorem dX4_squareOf_146 : decode cX4_squareOf 146 = .ok (.iload_n 1, 1) := by decide +kernel
theorem dX4_squareOf_147 : decode cX4_squareOf 147 = .ok (.iconst 0, 1) := by decide +kernel
theorem dX4_squareOf_148 : decode cX4_squareOf 148 = .ok (.invokevirtual 155, 3) := by decide +kernel
theorem dX4_squareOf_151 : decode cX4_squareOf 151 = .ok (.aload_n 0, 1) := by decide +kernel
theorem dX4_squareOf_152 : decode cX4_squareOf 152 = .ok (.getfield 10, 3) := by decide +kernel
theorem dX4_squareOf_155 : decode cX4_squareOf 155 = .ok (.iload_n 1, 1) := by decide +kernel
theorem dX4_squareOf_156 : decode cX4_squareOf 156 = .ok (.iconst 1, 1) := by decide +kernel
theorem dX4_squareOf_157 : decode cX4_squareOf 157 = .ok (.invokevirtual 155, 3) := by decide +kernel
theorem dX4_squareOf_160 : decode cX4_squareOf 160 = .ok (.iadd, 1) := by decide +kernel
theorem dX4_squareOf_161 : decode cX4_squareOf 161 = .ok (.ireturn, 1) := by decide +kernel
theorem dX4_squareOf_162 : decode cX4_squareOf 162 = .ok (.aload_n 0, 1) := by decide +kernel
theorem dX4_squareOf_163 : decode cX4_squareOf 163 = .ok (.getfield 10, 3) := by decide +kernel
theorem dX4_squareOf_166 : decode cX4_squareOf 166 = .ok (.iload_n 1, 1) := by decide +kernel
theorem dX4_squareOf_167 : decode cX4_squareOf 167 = .ok (.invokevirtual 159, 3) := by decide +kernel
theorem dX4_squareOf_170 : decode cX4_squareOf 170 = .ok (.ireturn, 1) := by decide +kernel
theorem dX4_squareOf_171 : decode cX4_squareOf 171 = .ok (.aload_n 0, 1) := by decide +kernel
theorem dX4_squareOf_172 : decode cX4_squareOf 172 = .ok (.getfield 10, 3) := by decide +kernel
theorem dX4_squareOf_175 : decode cX4_squareOf 175 = .ok (.iload_n 1, 1) := by decide +kernel
theorem dX4_squareOf_176 : decode cX4_squareOf 176 = .ok (.invokevirtual 162, 3) := by decide +kernel
theorem dX4_squareOf_179 : decode cX4_squareOf 179 = .ok (.ireturn, 1) := by decide +kernel
theorem dX4_squareOf_180 : decode cX4_squareOf 180 = .ok (.new 77, 3) := by decide +kernel
theorem dX4_squareOf_183 : decode cX4_squareOf 183 = .ok (.dup, 1) := by decide +kernel
theorem dX4_squareOf_184 : decode cX4_squareOf 184 = .ok (.ldc 165, 2) := by decide +kernel
theorem dX4_squareOf_186 : decode cX4_squareOf 186 = .ok (.invokespecial 81, 3) := by decide +kernel
theorem dX4_squareOf_189 : decode cX4_squareOf 189 = .ok (.athrow, 1) := by decide +kernel
set_option maxRecDepth 20000 in
theorem ggX4_playerOf_X0_towersOf : GoodIn wsX4_playerOf wsX0_towersOf := goodIn_r _ [10, 11, 57, 58, 59, 60, 61, 62, 63, 64] (by decide +kernel) (by decide +kernel)
set_option maxRecDepth 20000 in
theorem gX4_playerOf_X0_towersOf : GoodIn wsX4_playerOf (wsV RX4 172 RX0 yX0_towersOf wsX0_towersOf) := goodIn_app (goodIn_of _ (by decide +kernel)) ggX4_playerOf_X0_towersOf
set_option maxRecDepth 20000 in
theorem ggX4_playerOf_X0_heightsOf : GoodIn wsX4_playerOf wsX0_heightsOf := goodIn_r _ [15, 11, 16, 57, 58, 59, 60, 61, 62, 63, 64] (by decide +kernel) (by decide +kernel)
set_option maxRecDepth 20000 in
theorem gX4_playerOf_X0_heightsOf : GoodIn wsX4_playerOf (wsV RX4 175 RX0 yX0_heightsOf wsX0_heightsOf) := goodIn_app (goodIn_of _ (by decide +kernel)) ggX4_playerOf_X0_heightsOf
set_option maxRecDepth 20000 in
theorem ggX4_playerOf_X0_darkTowersOf : GoodIn wsX4_playerOf wsX0_darkTowersOf := goodIn_r _ [20, 11, 21, 22, 23, 24, 9, 25, 16, 26, 27, 28, 29, 30, 31, 32, 33, 34, 35, 36, 37, 38, 57, 58, 59, 60, 61, 62, 63, 64] (by decide +kernel) (by decide +kernel)
set_option maxRecDepth 20000 in
theorem gX4_playerOf_X0_darkTowersOf : GoodIn wsX4_playerOf (wsV RX4 178 RX0 yX0_darkTowersOf wsX0_darkTowersOf) := goodIn_app (goodIn_of _ (by decide +kernel)) ggX4_playerOf_X0_darkTowersOf
set_option maxRecDepth 20000 in
theorem ggX4_playerOf_X0_payNow : GoodIn wsX4_playerOf wsX0_payNow := goodIn_r _ [42, 11, 21, 43, 22, 23, 24, 9, 25, 16, 26, 27, 28, 29, 30, 31, 32, 33, 34, 35, 36, 37, 38, 57, 58, 59, 60, 61, 62, 63, 64] (by decide +kernel) (by decide +kernel)
set_option maxRecDepth 20000 in
theorem gX4_playerOf_X0_payNow : GoodIn wsX4_playerOf (wsV RX4 74 RX0 yX0_payNow wsX0_payNow) := goodIn_app (goodIn_of _ (by decide +kernel)) ggX4_playerOf_X0_payNow
set_option maxRecDepth 20000 in
theorem ggX4_playerOf_X0_rivalsShadedBy : GoodIn wsX4_playerOf wsX0_rivalsShadedBy := goodIn_r _ [47, 11, 48, 49, 50, 9, 51, 21, 16, 26, 27, 28, 29, 30, 31, 32, 33, 34, 35, 36, 37, 38, 57, 58, 59, 60, 61, 62, 63, 64] (by decide +kernel) (by decide +kernel)
set_option maxRecDepth 20000 in
theorem gX4_playerOf_X0_rivalsShadedBy : GoodIn wsX4_playerOf (wsV RX4 181 RX0 yX0_rivalsShadedBy wsX0_rivalsShadedBy) := goodIn_app (goodIn_of _ (by decide +kernel)) ggX4_playerOf_X0_rivalsShadedBy
theorem dX4_playerOf_0 : decode cX4_playerOf 0 = .ok (.iload_n 1, 1) := by decide +kernel
theorem dX4_playerOf_1 : decode cX4_playerOf 1 = .ok (.ifCond .lt 8, 3) := by decide +kernel
theorem dX4_playerOf_4 : decode cX4_playerOf 4 = .ok (.iload_n 1, 1) := by decide +kernel
theorem dX4_playerOf_5 : decode cX4_playerOf 5 = .ok (.iconst 2, 1) := by decide +kernel
theorem dX4_playerOf_6 : decode cX4_playerOf 6 = .ok (.if_icmp .lt 13, 3) := by decide +kernel
theorem dX4_playerOf_9 : decode cX4_playerOf 9 = .ok (.new 42, 3) := by decide +kernel
theorem dX4_playerOf_12 : decode cX4_playerOf 12 = .ok (.dup, 1) := by decide +kernel
theorem dX4_playerOf_13 : decode cX4_playerOf 13 = .ok (.ldc 167, 2) := by decide +kernel
theorem dX4_playerOf_15 : decode cX4_playerOf 15 = .ok (.invokespecial 46, 3) := by decide +kernel
theorem dX4_playerOf_18 : decode cX4_playerOf 18 = .ok (.athrow, 1) := by decide +kernel
theorem dX4_playerOf_19 : decode cX4_playerOf 19 = .ok (.iload_n 2, 1) := by decide +kernel
theorem dX4_playerOf_20 : decode cX4_playerOf 20 = .ok (.tableswitch 95 0 5 #[40, 50, 59, 68, 77, 86], 40) := by decide +kernel
theorem dX4_playerOf_60 : decode cX4_playerOf 60 = .ok (.aload_n 0, 1) := by decide +kernel
theorem dX4_playerOf_61 : decode cX4_playerOf 61 = .ok (.getfield 10, 3) := by decide +kernel
theorem dX4_playerOf_64 : decode cX4_playerOf 64 = .ok (.getfield 169, 3) := by decide +kernel
theorem dX4_playerOf_67 : decode cX4_playerOf 67 = .ok (.iload_n 1, 1) := by decide +kernel
theorem dX4_playerOf_68 : decode cX4_playerOf 68 = .ok (.iaload, 1) := by decide +kernel
theorem dX4_playerOf_69 : decode cX4_playerOf 69 = .ok (.ireturn, 1) := by decide +kernel
theorem dX4_playerOf_70 : decode cX4_playerOf 70 = .ok (.aload_n 0, 1) := by decide +kernel
theorem dX4_playerOf_71 : decode cX4_playerOf 71 = .ok (.getfield 10, 3) := by decide +kernel
theorem dX4_playerOf_74 : decode cX4_playerOf 74 = .ok (.iload_n 1, 1) := by decide +kernel
theorem dX4_playerOf_75 : decode cX4_playerOf 75 = .ok (.invokevirtual 172, 3) := by decide +kernel
theorem dX4_playerOf_78 : decode cX4_playerOf 78 = .ok (.ireturn, 1) := by decide +kernel
theorem dX4_playerOf_79 : decode cX4_playerOf 79 = .ok (.aload_n 0, 1) := by decide +kernel
theorem dX4_playerOf_80 : decode cX4_playerOf 80 = .ok (.getfield 10, 3) := by decide +kernel
theorem dX4_playerOf_83 : decode cX4_playerOf 83 = .ok (.iload_n 1, 1) := by decide +kernel
theorem dX4_playerOf_84 : decode cX4_playerOf 84 = .ok (.invokevirtual 175, 3) := by decide +kernel
theorem dX4_playerOf_87 : decode cX4_playerOf 87 = .ok (.ireturn, 1) := by decide +kernel
theorem dX4_playerOf_88 : decode cX4_playerOf 88 = .ok (.aload_n 0, 1) := by decide +kernel
theorem dX4_playerOf_89 : decode cX4_playerOf 89 = .ok (.getfield 10, 3) := by decide +kernel
theorem dX4_playerOf_92 : decode cX4_playerOf 92 = .ok (.iload_n 1, 1) := by decide +kernel
theorem dX4_playerOf_93 : decode cX4_playerOf 93 = .ok (.invokevirtual 178, 3) := by decide +kernel
theorem dX4_playerOf_96 : decode cX4_playerOf 96 = .ok (.ireturn, 1) := by decide +kernel
theorem dX4_playerOf_97 : decode cX4_playerOf 97 = .ok (.aload_n 0, 1) := by decide +kernel
theorem dX4_playerOf_98 : decode cX4_playerOf 98 = .ok (.getfield 10, 3) := by decide +kernel
theorem dX4_playerOf_101 : decode cX4_playerOf 101 = .ok (.iload_n 1, 1) := by decide +kernel
theorem dX4_playerOf_102 : decode cX4_playerOf 102 = .ok (.invokevirtual 74, 3) := by decide +kernel
theorem dX4_playerOf_105 : decode cX4_playerOf 105 = .ok (.ireturn, 1) := by decide +kernel
theorem dX4_playerOf_106 : decode cX4_playerOf 106 = .ok (.aload_n 0, 1) := by decide +kernel
theorem dX4_playerOf_107 : decode cX4_playerOf 107 = .ok (.getfield 10, 3) := by decide +kernel
theorem dX4_playerOf_110 : decode cX4_playerOf 110 = .ok (.iload_n 1, 1) := by decide +kernel
theorem dX4_playerOf_111 : decode cX4_playerOf 111 = .ok (.invokevirtual 181, 3) := by decide +kernel
theorem dX4_playerOf_114 : decode cX4_playerOf 114 = .ok (.ireturn, 1) := by decide +kernel
theorem dX4_playerOf_115 : decode cX4_playerOf 115 = .ok (.new 77, 3) := by decide +kernel
theorem dX4_playerOf_118 : decode cX4_playerOf 118 = .ok (.dup, 1) := by decide +kernel
theorem dX4_playerOf_119 : decode cX4_playerOf 119 = .ok (.ldc 184, 2) := by decide +kernel
theorem dX4_playerOf_121 : decode cX4_playerOf 121 = .ok (.invokespecial 81, 3) := by decide +kernel
theorem dX4_playerOf_124 : decode cX4_playerOf 124 = .ok (.athrow, 1) := by decide +kernel
set_option maxRecDepth 20000 in
theorem ggX4_count_X3_side : GoodIn wsX4_count wsX3_side := goodIn_r _ [8] (by decide +kernel) (by decide +kernel)
set_option maxRecDepth 20000 in
theorem gX4_count_X3_side : GoodIn wsX4_count (va_wsS RX4 186 yX3_side wsX3_side) := goodIn_app (goodIn_of _ (by decide +kernel)) ggX4_count_X3_side
set_option maxRecDepth 20000 in
theorem ggX4_count_X3_steepness : GoodIn wsX4_count wsX3_steepness := goodIn_r _ [11] (by decide +kernel) (by decide +kernel)
set_option maxRecDepth 20000 in
theorem gX4_count_X3_steepness : GoodIn wsX4_count (va_wsS RX4 191 yX3_steepness wsX3_steepness) := goodIn_app (goodIn_of _ (by decide +kernel)) ggX4_count_X3_steepness
set_option maxRecDepth 20000 in
theorem ggX4_count_X0_darkSquares : GoodIn wsX4_count wsX0_darkSquares := goodIn_r _ [16, 17, 18, 19, 15, 20, 21, 22, 6, 7, 8, 23, 10, 11, 24, 25, 26, 27, 28, 29, 49, 50, 51, 52, 53, 54, 55, 56] (by decide +kernel) (by decide +kernel)
set_option maxRecDepth 20000 in
theorem gX4_count_X0_darkSquares : GoodIn wsX4_count (wsV RX4 197 RX0 yX0_darkSquares wsX0_darkSquares) := goodIn_app (goodIn_of _ (by decide +kernel)) ggX4_count_X0_darkSquares
set_option maxRecDepth 20000 in
theorem ggX4_count_X0_towers : GoodIn wsX4_count wsX0_towers := goodIn_r _ [33, 34, 35, 36, 15, 37, 38, 49, 50, 51, 52, 53, 54, 55, 56] (by decide +kernel) (by decide +kernel)
set_option maxRecDepth 20000 in
theorem gX4_count_X0_towers : GoodIn wsX4_count (wsV RX4 123 RX0 yX0_towers wsX0_towers) := goodIn_app (goodIn_of _ (by decide +kernel)) ggX4_count_X0_towers
set_option maxRecDepth 20000 in
theorem ggX4_count_X0_crowdsTogether : GoodIn wsX4_count wsX0_crowdsTogether := goodIn_r _ [42, 43, 49, 50, 51, 52, 53, 54, 55, 56] (by decide +kernel) (by decide +kernel)
set_option maxRecDepth 20000 in
theorem gX4_count_X0_crowdsTogether : GoodIn wsX4_count (wsV RX4 200 RX0 yX0_crowdsTogether wsX0_crowdsTogether) := goodIn_app (goodIn_of _ (by decide +kernel)) ggX4_count_X0_crowdsTogether
theorem dX4_count_0 : decode cX4_count 0 = .ok (.iload_n 1, 1) := by decide +kernel
theorem dX4_count_1 : decode cX4_count 1 = .ok (.tableswitch 148 0 9 #[55, 63, 74, 85, 93, 101, 116, 124, 132, 140], 55) := by decide +kernel
theorem dX4_count_56 : decode cX4_count 56 = .ok (.aload_n 0, 1) := by decide +kernel
theorem dX4_count_57 : decode cX4_count 57 = .ok (.getfield 10, 3) := by decide +kernel
theorem dX4_count_60 : decode cX4_count 60 = .ok (.getfield 87, 3) := by decide +kernel
theorem dX4_count_63 : decode cX4_count 63 = .ok (.ireturn, 1) := by decide +kernel
theorem dX4_count_64 : decode cX4_count 64 = .ok (.aload_n 0, 1) := by decide +kernel
theorem dX4_count_65 : decode cX4_count 65 = .ok (.getfield 10, 3) := by decide +kernel
theorem dX4_count_68 : decode cX4_count 68 = .ok (.getfield 87, 3) := by decide +kernel
theorem dX4_count_71 : decode cX4_count 71 = .ok (.invokestatic 186, 3) := by decide +kernel
theorem dX4_count_74 : decode cX4_count 74 = .ok (.ireturn, 1) := by decide +kernel
theorem dX4_count_75 : decode cX4_count 75 = .ok (.aload_n 0, 1) := by decide +kernel
theorem dX4_count_76 : decode cX4_count 76 = .ok (.getfield 10, 3) := by decide +kernel
theorem dX4_count_79 : decode cX4_count 79 = .ok (.getfield 87, 3) := by decide +kernel
theorem dX4_count_82 : decode cX4_count 82 = .ok (.invokestatic 191, 3) := by decide +kernel
theorem dX4_count_85 : decode cX4_count 85 = .ok (.ireturn, 1) := by decide +kernel
theorem dX4_count_86 : decode cX4_count 86 = .ok (.aload_n 0, 1) := by decide +kernel
theorem dX4_count_87 : decode cX4_count 87 = .ok (.getfield 10, 3) := by decide +kernel
theorem dX4_count_90 : decode cX4_count 90 = .ok (.getfield 61, 3) := by decide +kernel
theorem dX4_count_93 : decode cX4_count 93 = .ok (.ireturn, 1) := by decide +kernel
theorem dX4_count_94 : decode cX4_count 94 = .ok (.aload_n 0, 1) := by decide +kernel
theorem dX4_count_95 : decode cX4_count 95 = .ok (.getfield 10, 3) := by decide +kernel
theorem dX4_count_98 : decode cX4_count 98 = .ok (.getfield 194, 3) := by decide +kernel
theorem dX4_count_101 : decode cX4_count 101 = .ok (.ireturn, 1) := by decide +kernel
theorem dX4_count_102 : decode cX4_count 102 = .ok (.aload_n 0, 1) := by decide +kernel
theorem dX4_count_103 : decode cX4_count 103 = .ok (.getfield 10, 3) := by decide +kernel
theorem dX4_count_106 : decode cX4_count 106 = .ok (.aload_n 0, 1) := by decide +kernel
theorem dX4_count_107 : decode cX4_count 107 = .ok (.getfield 10, 3) := by decide +kernel
theorem dX4_count_110 : decode cX4_count 110 = .ok (.getfield 87, 3) := by decide +kernel
theorem dX4_count_113 : decode cX4_count 113 = .ok (.invokevirtual 197, 3) := by decide +kernel
theorem dX4_count_116 : decode cX4_count 116 = .ok (.ireturn, 1) := by decide +kernel
theorem dX4_count_117 : decode cX4_count 117 = .ok (.aload_n 0, 1) := by decide +kernel
theorem dX4_count_118 : decode cX4_count 118 = .ok (.getfield 10, 3) := by decide +kernel
theorem dX4_count_121 : decode cX4_count 121 = .ok (.invokevirtual 123, 3) := by decide +kernel
theorem dX4_count_124 : decode cX4_count 124 = .ok (.ireturn, 1) := by decide +kernel
theorem dX4_count_125 : decode cX4_count 125 = .ok (.aload_n 0, 1) := by decide +kernel
theorem dX4_count_126 : decode cX4_count 126 = .ok (.getfield 10, 3) := by decide +kernel
theorem dX4_count_129 : decode cX4_count 129 = .ok (.invokevirtual 200, 3) := by decide +kernel
theorem dX4_count_132 : decode cX4_count 132 = .ok (.ireturn, 1) := by decide +kernel
theorem dX4_count_133 : decode cX4_count 133 = .ok (.aload_n 0, 1) := by decide +kernel
theorem dX4_count_134 : decode cX4_count 134 = .ok (.getfield 10, 3) := by decide +kernel
theorem dX4_count_137 : decode cX4_count 137 = .ok (.getfield 57, 3) := by decide +kernel
theorem dX4_count_140 : decode cX4_count 140 = .ok (.ireturn, 1) := by decide +kernel
theorem dX4_count_141 : decode cX4_count 141 = .ok (.aload_n 0, 1) := by decide +kernel
theorem dX4_count_142 : decode cX4_count 142 = .ok (.getfield 26, 3) := by decide +kernel
theorem dX4_count_145 : decode cX4_count 145 = .ok (.getfield 137, 3) := by decide +kernel
theorem dX4_count_148 : decode cX4_count 148 = .ok (.ireturn, 1) := by decide +kernel
theorem dX4_count_149 : decode cX4_count 149 = .ok (.new 77, 3) := by decide +kernel
theorem dX4_count_152 : decode cX4_count 152 = .ok (.dup, 1) := by decide +kernel
theorem dX4_count_153 : decode cX4_count 153 = .ok (.ldc 203, 2) := by decide +kernel
theorem dX4_count_155 : decode cX4_count 155 = .ok (.invokespecial 81, 3) := by decide +kernel
theorem dX4_count_158 : decode cX4_count 158 = .ok (.athrow, 1) := by decide +kernel
set_option maxRecDepth 20000 in
theorem ggX4_whyNot_X4_isSquare : GoodIn wsX4_whyNot wsX4_isSquare := goodIn_r _ [7] (by decide +kernel) (by decide +kernel)
set_option maxRecDepth 20000 in
theorem gX4_whyNot_X4_isSquare : GoodIn wsX4_whyNot (va_wsS RX4 38 yX4_isSquare wsX4_isSquare) := goodIn_app (goodIn_of _ (by decide +kernel)) ggX4_whyNot_X4_isSquare
set_option maxRecDepth 20000 in
theorem ggX4_whyNot_X0_refusalReason : GoodIn wsX4_whyNot wsX0_refusalReason := goodIn_r _ [12, 13, 14, 15, 16, 17, 18, 19, 11, 20, 21, 22, 23, 24, 25, 26, 27, 28, 29, 30, 31, 32, 33, 39, 40, 41, 42, 43, 44, 45, 46] (by decide +kernel) (by decide +kernel)
set_option maxRecDepth 20000 in
theorem gX4_whyNot_X0_refusalReason : GoodIn wsX4_whyNot (wsV RX4 53 RX0 yX0_refusalReason wsX0_refusalReason) := goodIn_app (goodIn_of _ (by decide +kernel)) ggX4_whyNot_X0_refusalReason
theorem dX4_whyNot_0 : decode cX4_whyNot 0 = .ok (.iload_n 1, 1) := by decide +kernel
theorem dX4_whyNot_1 : decode cX4_whyNot 1 = .ok (.invokestatic 38, 3) := by decide +kernel
theorem dX4_whyNot_4 : decode cX4_whyNot 4 = .ok (.ifCond .ne 13, 3) := by decide +kernel
theorem dX4_whyNot_7 : decode cX4_whyNot 7 = .ok (.new 42, 3) := by decide +kernel
theorem dX4_whyNot_10 : decode cX4_whyNot 10 = .ok (.dup, 1) := by decide +kernel
theorem dX4_whyNot_11 : decode cX4_whyNot 11 = .ok (.ldc 44, 2) := by decide +kernel
theorem dX4_whyNot_13 : decode cX4_whyNot 13 = .ok (.invokespecial 46, 3) := by decide +kernel
theorem dX4_whyNot_16 : decode cX4_whyNot 16 = .ok (.athrow, 1) := by decide +kernel
theorem dX4_whyNot_17 : decode cX4_whyNot 17 = .ok (.aload_n 0, 1) := by decide +kernel
theorem dX4_whyNot_18 : decode cX4_whyNot 18 = .ok (.getfield 10, 3) := by decide +kernel
theorem dX4_whyNot_21 : decode cX4_whyNot 21 = .ok (.iload_n 1, 1) := by decide +kernel
theorem dX4_whyNot_22 : decode cX4_whyNot 22 = .ok (.invokevirtual 53, 3) := by decide +kernel
theorem dX4_whyNot_25 : decode cX4_whyNot 25 = .ok (.ireturn, 1) := by decide +kernel
set_option maxRecDepth 20000 in
theorem ggX4_ifRaised_X4_isSquare : GoodIn wsX4_ifRaised wsX4_isSquare := goodIn_r _ [7] (by decide +kernel) (by decide +kernel)
set_option maxRecDepth 20000 in
theorem gX4_ifRaised_X4_isSquare : GoodIn wsX4_ifRaised (va_wsS RX4 38 yX4_isSquare wsX4_isSquare) := goodIn_app (goodIn_of _ (by decide +kernel)) ggX4_ifRaised_X4_isSquare
set_option maxRecDepth 20000 in
theorem ggX4_ifRaised_X0_worthOfRaising : GoodIn wsX4_ifRaised wsX0_worthOfRaising := goodIn_r _ [12, 13, 14, 15, 16, 17, 18, 11, 19, 20, 21, 22, 23, 24, 25, 26, 27, 28, 29, 30, 31, 32, 33, 34, 35, 36, 37, 38, 39, 40, 41, 42, 43, 44, 45, 46, 52, 53, 54, 55, 56, 57, 58, 59] (by decide +kernel) (by decide +kernel)
set_option maxRecDepth 20000 in
theorem gX4_ifRaised_X0_worthOfRaising : GoodIn wsX4_ifRaised (wsV RX4 205 RX0 yX0_worthOfRaising wsX0_worthOfRaising) := goodIn_app (goodIn_of _ (by decide +kernel)) ggX4_ifRaised_X0_worthOfRaising
theorem dX4_ifRaised_0 : decode cX4_ifRaised 0 = .ok (.iload_n 1, 1) := by decide +kernel
theorem dX4_ifRaised_1 : decode cX4_ifRaised 1 = .ok (.invokestatic 38, 3) := by decide +kernel
theorem dX4_ifRaised_4 : decode cX4_ifRaised 4 = .ok (.ifCond .ne 13, 3) := by decide +kernel
theorem dX4_ifRaised_7 : decode cX4_ifRaised 7 = .ok (.new 42, 3) := by decide +kernel
theorem dX4_ifRaised_10 : decode cX4_ifRaised 10 = .ok (.dup, 1) := by decide +kernel
theorem dX4_ifRaised_11 : decode cX4_ifRaised 11 = .ok (.ldc 44, 2) := by decide +kernel
theorem dX4_ifRaised_13 : decode cX4_ifRaised 13 = .ok (.invokespecial 46, 3) := by decide +kernel
theorem dX4_ifRaised_16 : decode cX4_ifRaised 16 = .ok (.athrow, 1) := by decide +kernel
theorem dX4_ifRaised_17 : decode cX4_ifRaised 17 = .ok (.aload_n 0, 1) := by decide +kernel
theorem dX4_ifRaised_18 : decode cX4_ifRaised 18 = .ok (.getfield 10, 3) := by decide +kernel
theorem dX4_ifRaised_21 : decode cX4_ifRaised 21 = .ok (.iload_n 1, 1) := by decide +kernel
theorem dX4_ifRaised_22 : decode cX4_ifRaised 22 = .ok (.invokevirtual 205, 3) := by decide +kernel
theorem dX4_ifRaised_25 : decode cX4_ifRaised 25 = .ok (.ireturn, 1) := by decide +kernel
set_option maxRecDepth 20000 in
theorem ggX4_bestSquare_X0_worthOfRaising : GoodIn wsX4_bestSquare wsX0_worthOfRaising := goodIn_r _ [6, 7, 8, 9, 10, 11, 12, 5, 13, 14, 15, 16, 17, 18, 19, 20, 21, 22, 23, 24, 25, 26, 27, 28, 29, 30, 31, 32, 33, 34, 35, 36, 37, 38, 39, 40, 46, 47, 48, 49, 50, 51, 52, 53] (by decide +kernel) (by decide +kernel)
set_option maxRecDepth 20000 in
theorem gX4_bestSquare_X0_worthOfRaising : GoodIn wsX4_bestSquare (wsV RX4 205 RX0 yX0_worthOfRaising wsX0_worthOfRaising) := goodIn_app (goodIn_of _ (by decide +kernel)) ggX4_bestSquare_X0_worthOfRaising
theorem dX4_bestSquare_0 : decode cX4_bestSquare 0 = .ok (.iconst (-1), 1) := by decide +kernel
theorem dX4_bestSquare_1 : decode cX4_bestSquare 1 = .ok (.istore_n 1, 1) := by decide +kernel
theorem dX4_bestSquare_2 : decode cX4_bestSquare 2 = .ok (.sipush (-999), 3) := by decide +kernel
theorem dX4_bestSquare_5 : decode cX4_bestSquare 5 = .ok (.istore_n 2, 1) := by decide +kernel
theorem dX4_bestSquare_6 : decode cX4_bestSquare 6 = .ok (.iconst 0, 1) := by decide +kernel
theorem dX4_bestSquare_7 : decode cX4_bestSquare 7 = .ok (.istore_n 3, 1) := by decide +kernel
theorem dX4_bestSquare_8 : decode cX4_bestSquare 8 = .ok (.iload_n 3, 1) := by decide +kernel
theorem dX4_bestSquare_9 : decode cX4_bestSquare 9 = .ok (.bipush 36, 2) := by decide +kernel
theorem dX4_bestSquare_11 : decode cX4_bestSquare 11 = .ok (.if_icmp .ge 30, 3) := by decide +kernel
theorem dX4_bestSquare_14 : decode cX4_bestSquare 14 = .ok (.aload_n 0, 1) := by decide +kernel
theorem dX4_bestSquare_15 : decode cX4_bestSquare 15 = .ok (.getfield 10, 3) := by decide +kernel
theorem dX4_bestSquare_18 : decode cX4_bestSquare 18 = .ok (.iload_n 3, 1) := by decide +kernel
theorem dX4_bestSquare_19 : decode cX4_bestSquare 19 = .ok (.invokevirtual 205, 3) := by decide +kernel
theorem dX4_bestSquare_22 : decode cX4_bestSquare 22 = .ok (.istore 4, 2) := by decide +kernel
theorem dX4_bestSquare_24 : decode cX4_bestSquare 24 = .ok (.iload 4, 2) := by decide +kernel
theorem dX4_bestSquare_26 : decode cX4_bestSquare 26 = .ok (.iload_n 2, 1) := by decide +kernel
theorem dX4_bestSquare_27 : decode cX4_bestSquare 27 = .ok (.if_icmp .le 8, 3) := by decide +kernel
theorem dX4_bestSquare_30 : decode cX4_bestSquare 30 = .ok (.iload_n 3, 1) := by decide +kernel
theorem dX4_bestSquare_31 : decode cX4_bestSquare 31 = .ok (.istore_n 1, 1) := by decide +kernel
theorem dX4_bestSquare_32 : decode cX4_bestSquare 32 = .ok (.iload 4, 2) := by decide +kernel
theorem dX4_bestSquare_34 : decode cX4_bestSquare 34 = .ok (.istore_n 2, 1) := by decide +kernel
theorem dX4_bestSquare_35 : decode cX4_bestSquare 35 = .ok (.iinc 3 1, 3) := by decide +kernel
theorem dX4_bestSquare_38 : decode cX4_bestSquare 38 = .ok (.goto (-30), 3) := by decide +kernel
theorem dX4_bestSquare_41 : decode cX4_bestSquare 41 = .ok (.iload_n 1, 1) := by decide +kernel
theorem dX4_bestSquare_42 : decode cX4_bestSquare 42 = .ok (.ireturn, 1) := by decide +kernel
set_option maxRecDepth 20000 in
theorem ggX4_needed_X4_isSquare : GoodIn wsX4_needed wsX4_isSquare := goodIn_r _ [7] (by decide +kernel) (by decide +kernel)
set_option maxRecDepth 20000 in
theorem gX4_needed_X4_isSquare : GoodIn wsX4_needed (va_wsS RX4 38 yX4_isSquare wsX4_isSquare) := goodIn_app (goodIn_of _ (by decide +kernel)) ggX4_needed_X4_isSquare
set_option maxRecDepth 20000 in
theorem ggX4_needed_X3_side : GoodIn wsX4_needed wsX3_side := goodIn_r _ [11] (by decide +kernel) (by decide +kernel)
set_option maxRecDepth 20000 in
theorem gX4_needed_X3_side : GoodIn wsX4_needed (va_wsS RX4 186 yX3_side wsX3_side) := goodIn_app (goodIn_of _ (by decide +kernel)) ggX4_needed_X3_side
set_option maxRecDepth 20000 in
theorem ggX4_needed_X3_distanceTowardSun : GoodIn wsX4_needed wsX3_distanceTowardSun := goodIn_r _ [14, 15, 16, 10, 17, 18, 19, 20] (by decide +kernel) (by decide +kernel)
set_option maxRecDepth 20000 in
theorem gX4_needed_X3_distanceTowardSun : GoodIn wsX4_needed (va_wsS RX4 208 yX3_distanceTowardSun wsX3_distanceTowardSun) := goodIn_app (goodIn_of _ (by decide +kernel)) ggX4_needed_X3_distanceTowardSun
set_option maxRecDepth 20000 in
theorem ggX4_needed_X3_steepness : GoodIn wsX4_needed wsX3_steepness := goodIn_r _ [23] (by decide +kernel) (by decide +kernel)
set_option maxRecDepth 20000 in
theorem gX4_needed_X3_steepness : GoodIn wsX4_needed (va_wsS RX4 191 yX3_steepness wsX3_steepness) := goodIn_app (goodIn_of _ (by decide +kernel)) ggX4_needed_X3_steepness
theorem dX4_needed_0 : decode cX4_needed 0 = .ok (.iload_n 1, 1) := by decide +kernel
theorem dX4_needed_1 : decode cX4_needed 1 = .ok (.invokestatic 38, 3) := by decide +kernel
theorem dX4_needed_4 : decode cX4_needed 4 = .ok (.ifCond .eq 10, 3) := by decide +kernel
theorem dX4_needed_7 : decode cX4_needed 7 = .ok (.iload_n 2, 1) := by decide +kernel
theorem dX4_needed_8 : decode cX4_needed 8 = .ok (.invokestatic 38, 3) := by decide +kernel
theorem dX4_needed_11 : decode cX4_needed 11 = .ok (.ifCond .ne 13, 3) := by decide +kernel
theorem dX4_needed_14 : decode cX4_needed 14 = .ok (.new 42, 3) := by decide +kernel
theorem dX4_needed_17 : decode cX4_needed 17 = .ok (.dup, 1) := by decide +kernel
theorem dX4_needed_18 : decode cX4_needed 18 = .ok (.ldc 44, 2) := by decide +kernel
theorem dX4_needed_20 : decode cX4_needed 20 = .ok (.invokespecial 46, 3) := by decide +kernel
theorem dX4_needed_23 : decode cX4_needed 23 = .ok (.athrow, 1) := by decide +kernel
theorem dX4_needed_24 : decode cX4_needed 24 = .ok (.aload_n 0, 1) := by decide +kernel
theorem dX4_needed_25 : decode cX4_needed 25 = .ok (.getfield 10, 3) := by decide +kernel
theorem dX4_needed_28 : decode cX4_needed 28 = .ok (.getfield 87, 3) := by decide +kernel
theorem dX4_needed_31 : decode cX4_needed 31 = .ok (.invokestatic 186, 3) := by decide +kernel
theorem dX4_needed_34 : decode cX4_needed 34 = .ok (.iload_n 2, 1) := by decide +kernel
theorem dX4_needed_35 : decode cX4_needed 35 = .ok (.iload_n 1, 1) := by decide +kernel
theorem dX4_needed_36 : decode cX4_needed 36 = .ok (.invokestatic 208, 3) := by decide +kernel
theorem dX4_needed_39 : decode cX4_needed 39 = .ok (.istore_n 3, 1) := by decide +kernel
theorem dX4_needed_40 : decode cX4_needed 40 = .ok (.iload_n 3, 1) := by decide +kernel
theorem dX4_needed_41 : decode cX4_needed 41 = .ok (.ifCond .ne 5, 3) := by decide +kernel
theorem dX4_needed_44 : decode cX4_needed 44 = .ok (.iconst (-1), 1) := by decide +kernel
theorem dX4_needed_45 : decode cX4_needed 45 = .ok (.ireturn, 1) := by decide +kernel
theorem dX4_needed_46 : decode cX4_needed 46 = .ok (.aload_n 0, 1) := by decide +kernel
theorem dX4_needed_47 : decode cX4_needed 47 = .ok (.getfield 10, 3) := by decide +kernel
theorem dX4_needed_50 : decode cX4_needed 50 = .ok (.getfield 64, 3) := by decide +kernel
theorem dX4_needed_53 : decode cX4_needed 53 = .ok (.iload_n 2, 1) := by decide +kernel
theorem dX4_needed_54 : decode cX4_needed 54 = .ok (.iaload, 1) := by decide +kernel
theorem dX4_needed_55 : decode cX4_needed 55 = .ok (.iload_n 3, 1) := by decide +kernel
theorem dX4_needed_56 : decode cX4_needed 56 = .ok (.aload_n 0, 1) := by decide +kernel
theorem dX4_needed_57 : decode cX4_needed 57 = .ok (.getfield 10, 3) := by decide +kernel
theorem dX4_needed_60 : decode cX4_needed 60 = .ok (.getfield 87, 3) := by decide +kernel
theorem dX4_needed_63 : decode cX4_needed 63 = .ok (.invokestatic 191, 3) := by decide +kernel
theorem dX4_needed_66 : decode cX4_needed 66 = .ok (.imul, 1) := by decide +kernel
theorem dX4_needed_67 : decode cX4_needed 67 = .ok (.iadd, 1) := by decide +kernel
theorem dX4_needed_68 : decode cX4_needed 68 = .ok (.iconst 1, 1) := by decide +kernel
theorem dX4_needed_69 : decode cX4_needed 69 = .ok (.iadd, 1) := by decide +kernel
theorem dX4_needed_70 : decode cX4_needed 70 = .ok (.istore 4, 2) := by decide +kernel
theorem dX4_needed_72 : decode cX4_needed 72 = .ok (.iload 4, 2) := by decide +kernel
theorem dX4_needed_74 : decode cX4_needed 74 = .ok (.bipush 9, 2) := by decide +kernel
theorem dX4_needed_76 : decode cX4_needed 76 = .ok (.if_icmp .le 7, 3) := by decide +kernel
theorem dX4_needed_79 : decode cX4_needed 79 = .ok (.iconst (-1), 1) := by decide +kernel
theorem dX4_needed_80 : decode cX4_needed 80 = .ok (.goto 5, 3) := by decide +kernel
theorem dX4_needed_83 : decode cX4_needed 83 = .ok (.iload 4, 2) := by decide +kernel
theorem dX4_needed_85 : decode cX4_needed 85 = .ok (.ireturn, 1) := by decide +kernel
set_option maxRecDepth 20000 in
theorem ggX4_darkestHour_X0_darkSquares : GoodIn wsX4_darkestHour wsX0_darkSquares := goodIn_r _ [6, 7, 8, 9, 5, 10, 11, 12, 13, 14, 15, 16, 17, 18, 19, 20, 21, 22, 23, 24, 30, 31, 32, 33, 34, 35, 36, 37] (by decide +kernel) (by decide +kernel)
set_option maxRecDepth 20000 in
theorem gX4_darkestHour_X0_darkSquares : GoodIn wsX4_darkestHour (wsV RX4 197 RX0 yX0_darkSquares wsX0_darkSquares) := goodIn_app (goodIn_of _ (by decide +kernel)) ggX4_darkestHour_X0_darkSquares
theorem dX4_darkestHour_0 : decode cX4_darkestHour 0 = .ok (.iconst 0, 1) := by decide +kernel
theorem dX4_darkestHour_1 : decode cX4_darkestHour 1 = .ok (.istore_n 1, 1) := by decide +kernel
theorem dX4_darkestHour_2 : decode cX4_darkestHour 2 = .ok (.aload_n 0, 1) := by decide +kernel
theorem dX4_darkestHour_3 : decode cX4_darkestHour 3 = .ok (.getfield 10, 3) := by decide +kernel
theorem dX4_darkestHour_6 : decode cX4_darkestHour 6 = .ok (.iconst 0, 1) := by decide +kernel
theorem dX4_darkestHour_7 : decode cX4_darkestHour 7 = .ok (.invokevirtual 197, 3) := by decide +kernel
theorem dX4_darkestHour_10 : decode cX4_darkestHour 10 = .ok (.istore_n 2, 1) := by decide +kernel
theorem dX4_darkestHour_11 : decode cX4_darkestHour 11 = .ok (.iconst 1, 1) := by decide +kernel
theorem dX4_darkestHour_12 : decode cX4_darkestHour 12 = .ok (.istore_n 3, 1) := by decide +kernel
theorem dX4_darkestHour_13 : decode cX4_darkestHour 13 = .ok (.iload_n 3, 1) := by decide +kernel
theorem dX4_darkestHour_14 : decode cX4_darkestHour 14 = .ok (.bipush 12, 2) := by decide +kernel
theorem dX4_darkestHour_16 : decode cX4_darkestHour 16 = .ok (.if_icmp .ge 30, 3) := by decide +kernel
theorem dX4_darkestHour_19 : decode cX4_darkestHour 19 = .ok (.aload_n 0, 1) := by decide +kernel
theorem dX4_darkestHour_20 : decode cX4_darkestHour 20 = .ok (.getfield 10, 3) := by decide +kernel
theorem dX4_darkestHour_23 : decode cX4_darkestHour 23 = .ok (.iload_n 3, 1) := by decide +kernel
theorem dX4_darkestHour_24 : decode cX4_darkestHour 24 = .ok (.invokevirtual 197, 3) := by decide +kernel
theorem dX4_darkestHour_27 : decode cX4_darkestHour 27 = .ok (.istore 4, 2) := by decide +kernel
theorem dX4_darkestHour_29 : decode cX4_darkestHour 29 = .ok (.iload 4, 2) := by decide +kernel
theorem dX4_darkestHour_31 : decode cX4_darkestHour 31 = .ok (.iload_n 2, 1) := by decide +kernel
theorem dX4_darkestHour_32 : decode cX4_darkestHour 32 = .ok (.if_icmp .le 8, 3) := by decide +kernel
theorem dX4_darkestHour_35 : decode cX4_darkestHour 35 = .ok (.iload_n 3, 1) := by decide +kernel
theorem dX4_darkestHour_36 : decode cX4_darkestHour 36 = .ok (.istore_n 1, 1) := by decide +kernel
theorem dX4_darkestHour_37 : decode cX4_darkestHour 37 = .ok (.iload 4, 2) := by decide +kernel
theorem dX4_darkestHour_39 : decode cX4_darkestHour 39 = .ok (.istore_n 2, 1) := by decide +kernel
theorem dX4_darkestHour_40 : decode cX4_darkestHour 40 = .ok (.iinc 3 1, 3) := by decide +kernel
theorem dX4_darkestHour_43 : decode cX4_darkestHour 43 = .ok (.goto (-30), 3) := by decide +kernel
theorem dX4_darkestHour_46 : decode cX4_darkestHour 46 = .ok (.iload_n 1, 1) := by decide +kernel
theorem dX4_darkestHour_47 : decode cX4_darkestHour 47 = .ok (.ireturn, 1) := by decide +kernel
set_option maxRecDepth 20000 in
theorem ggX4_darkShare_X0_darkSquares : GoodIn wsX4_darkShare wsX0_darkSquares := goodIn_r _ [7, 8, 9, 10, 6, 11, 12, 13, 14, 15, 16, 17, 18, 19, 20, 21, 22, 23, 24, 25, 31, 32, 33, 34, 35, 36, 37, 38] (by decide +kernel) (by decide +kernel)
set_option maxRecDepth 20000 in
theorem gX4_darkShare_X0_darkSquares : GoodIn wsX4_darkShare (wsV RX4 197 RX0 yX0_darkSquares wsX0_darkSquares) := goodIn_app (goodIn_of _ (by decide +kernel)) ggX4_darkShare_X0_darkSquares
theorem dX4_darkShare_0 : decode cX4_darkShare 0 = .ok (.aload_n 0, 1) := by decide +kernel
theorem dX4_darkShare_1 : decode cX4_darkShare 1 = .ok (.getfield 10, 3) := by decide +kernel
theorem dX4_darkShare_4 : decode cX4_darkShare 4 = .ok (.aload_n 0, 1) := by decide +kernel
theorem dX4_darkShare_5 : decode cX4_darkShare 5 = .ok (.getfield 10, 3) := by decide +kernel
theorem dX4_darkShare_8 : decode cX4_darkShare 8 = .ok (.getfield 87, 3) := by decide +kernel
theorem dX4_darkShare_11 : decode cX4_darkShare 11 = .ok (.invokevirtual 197, 3) := by decide +kernel
theorem dX4_darkShare_14 : decode cX4_darkShare 14 = .ok (.i2d, 1) := by decide +kernel
theorem dX4_darkShare_15 : decode cX4_darkShare 15 = .ok (.ldc2_w 212, 3) := by decide +kernel
theorem dX4_darkShare_18 : decode cX4_darkShare 18 = .ok (.ddiv, 1) := by decide +kernel
theorem dX4_darkShare_19 : decode cX4_darkShare 19 = .ok (.dreturn, 1) := by decide +kernel
theorem dX4_isSquare_0 : decode cX4_isSquare 0 = .ok (.iload_n 0, 1) := by decide +kernel
theorem dX4_isSquare_1 : decode cX4_isSquare 1 = .ok (.ifCond .lt 13, 3) := by decide +kernel
theorem dX4_isSquare_4 : decode cX4_isSquare 4 = .ok (.iload_n 0, 1) := by decide +kernel
theorem dX4_isSquare_5 : decode cX4_isSquare 5 = .ok (.bipush 36, 2) := by decide +kernel
theorem dX4_isSquare_7 : decode cX4_isSquare 7 = .ok (.if_icmp .ge 7, 3) := by decide +kernel
theorem dX4_isSquare_10 : decode cX4_isSquare 10 = .ok (.iconst 1, 1) := by decide +kernel
theorem dX4_isSquare_11 : decode cX4_isSquare 11 = .ok (.goto 4, 3) := by decide +kernel
theorem dX4_isSquare_14 : decode cX4_isSquare 14 = .ok (.iconst 0, 1) := by decide +kernel
theorem dX4_isSquare_15 : decode cX4_isSquare 15 = .ok (.ireturn, 1) := by decide +kernel
set_option maxRecDepth 20000 in
theorem ggX4_putEntry_X1_square : GoodIn wsX4_putEntry wsX1_square := goodIn_r _ [7, 8, 37, 38] (by decide +kernel) (by decide +kernel)
set_option maxRecDepth 20000 in
theorem gX4_putEntry_X1_square : GoodIn wsX4_putEntry (wsV RX4 269 RX1 yX1_square wsX1_square) := goodIn_app (goodIn_of _ (by decide +kernel)) ggX4_putEntry_X1_square
set_option maxRecDepth 20000 in
theorem ggX4_putEntry_X1_mark : GoodIn wsX4_putEntry wsX1_mark := goodIn_r _ [12, 8, 37, 38] (by decide +kernel) (by decide +kernel)
set_option maxRecDepth 20000 in
theorem gX4_putEntry_X1_mark : GoodIn wsX4_putEntry (wsV RX4 272 RX1 yX1_mark wsX1_mark) := goodIn_app (goodIn_of _ (by decide +kernel)) ggX4_putEntry_X1_mark
set_option maxRecDepth 20000 in
theorem ggX4_putEntry_X1_number : GoodIn wsX4_putEntry wsX1_number := goodIn_r _ [16, 8, 37, 38] (by decide +kernel) (by decide +kernel)
set_option maxRecDepth 20000 in
theorem gX4_putEntry_X1_number : GoodIn wsX4_putEntry (wsV RX4 275 RX1 yX1_number wsX1_number) := goodIn_app (goodIn_of _ (by decide +kernel)) ggX4_putEntry_X1_number
set_option maxRecDepth 20000 in
theorem ggX4_putEntry_X0_putTower : GoodIn wsX4_putEntry wsX0_putTower := goodIn_r _ [21, 22, 23, 29, 30, 31, 32, 33, 34, 35, 36] (by decide +kernel) (by decide +kernel)
set_option maxRecDepth 20000 in
theorem gX4_putEntry_X0_putTower : GoodIn wsX4_putEntry (wsV RX4 67 RX0 yX0_putTower wsX0_putTower) := goodIn_app (goodIn_of _ (by decide +kernel)) ggX4_putEntry_X0_putTower
theorem dX4_putEntry_0 : decode cX4_putEntry 0 = .ok (.aload_n 0, 1) := by decide +kernel
theorem dX4_putEntry_1 : decode cX4_putEntry 1 = .ok (.getfield 19, 3) := by decide +kernel
theorem dX4_putEntry_4 : decode cX4_putEntry 4 = .ok (.iload_n 1, 1) := by decide +kernel
theorem dX4_putEntry_5 : decode cX4_putEntry 5 = .ok (.invokevirtual 269, 3) := by decide +kernel
theorem dX4_putEntry_8 : decode cX4_putEntry 8 = .ok (.istore_n 2, 1) := by decide +kernel
theorem dX4_putEntry_9 : decode cX4_putEntry 9 = .ok (.aload_n 0, 1) := by decide +kernel
theorem dX4_putEntry_10 : decode cX4_putEntry 10 = .ok (.getfield 19, 3) := by decide +kernel
theorem dX4_putEntry_13 : decode cX4_putEntry 13 = .ok (.iload_n 1, 1) := by decide +kernel
theorem dX4_putEntry_14 : decode cX4_putEntry 14 = .ok (.invokevirtual 272, 3) := by decide +kernel
theorem dX4_putEntry_17 : decode cX4_putEntry 17 = .ok (.istore_n 3, 1) := by decide +kernel
theorem dX4_putEntry_18 : decode cX4_putEntry 18 = .ok (.aload_n 0, 1) := by decide +kernel
theorem dX4_putEntry_19 : decode cX4_putEntry 19 = .ok (.getfield 19, 3) := by decide +kernel
theorem dX4_putEntry_22 : decode cX4_putEntry 22 = .ok (.iload_n 1, 1) := by decide +kernel
theorem dX4_putEntry_23 : decode cX4_putEntry 23 = .ok (.invokevirtual 275, 3) := by decide +kernel
theorem dX4_putEntry_26 : decode cX4_putEntry 26 = .ok (.istore 4, 2) := by decide +kernel
theorem dX4_putEntry_28 : decode cX4_putEntry 28 = .ok (.iload_n 3, 1) := by decide +kernel
theorem dX4_putEntry_29 : decode cX4_putEntry 29 = .ok (.bipush 61, 2) := by decide +kernel
theorem dX4_putEntry_31 : decode cX4_putEntry 31 = .ok (.if_icmp .ne 17, 3) := by decide +kernel
theorem dX4_putEntry_34 : decode cX4_putEntry 34 = .ok (.aload_n 0, 1) := by decide +kernel
theorem dX4_putEntry_35 : decode cX4_putEntry 35 = .ok (.getfield 10, 3) := by decide +kernel
theorem dX4_putEntry_38 : decode cX4_putEntry 38 = .ok (.getfield 82, 3) := by decide +kernel
theorem dX4_putEntry_41 : decode cX4_putEntry 41 = .ok (.iload_n 2, 1) := by decide +kernel
theorem dX4_putEntry_42 : decode cX4_putEntry 42 = .ok (.iload 4, 2) := by decide +kernel
theorem dX4_putEntry_44 : decode cX4_putEntry 44 = .ok (.iastore, 1) := by decide +kernel
theorem dX4_putEntry_45 : decode cX4_putEntry 45 = .ok (.goto 24, 3) := by decide +kernel
theorem dX4_putEntry_48 : decode cX4_putEntry 48 = .ok (.aload_n 0, 1) := by decide +kernel
theorem dX4_putEntry_49 : decode cX4_putEntry 49 = .ok (.getfield 10, 3) := by decide +kernel
theorem dX4_putEntry_52 : decode cX4_putEntry 52 = .ok (.iload_n 2, 1) := by decide +kernel
theorem dX4_putEntry_53 : decode cX4_putEntry 53 = .ok (.iload_n 3, 1) := by decide +kernel
theorem dX4_putEntry_54 : decode cX4_putEntry 54 = .ok (.bipush 43, 2) := by decide +kernel
theorem dX4_putEntry_56 : decode cX4_putEntry 56 = .ok (.if_icmp .ne 7, 3) := by decide +kernel
theorem dX4_putEntry_59 : decode cX4_putEntry 59 = .ok (.iconst 0, 1) := by decide +kernel
theorem dX4_putEntry_60 : decode cX4_putEntry 60 = .ok (.goto 4, 3) := by decide +kernel
theorem dX4_putEntry_63 : decode cX4_putEntry 63 = .ok (.iconst 1, 1) := by decide +kernel
theorem dX4_putEntry_64 : decode cX4_putEntry 64 = .ok (.iload 4, 2) := by decide +kernel
theorem dX4_putEntry_66 : decode cX4_putEntry 66 = .ok (.invokevirtual 67, 3) := by decide +kernel
theorem dX4_putEntry_69 : decode cX4_putEntry 69 = .ok (.return_, 1) := by decide +kernel
theorem dJ9_max_7cf53_0 : decode cJ9_max_7cf53 0 = .ok (.iload_n 0, 1) := by decide +kernel
theorem dJ9_max_7cf53_1 : decode cJ9_max_7cf53 1 = .ok (.iload_n 1, 1) := by decide +kernel
theorem dJ9_max_7cf53_2 : decode cJ9_max_7cf53 2 = .ok (.if_icmp .lt 7, 3) := by decide +kernel
theorem dJ9_max_7cf53_5 : decode cJ9_max_7cf53 5 = .ok (.iload_n 0, 1) := by decide +kernel
theorem dJ9_max_7cf53_6 : decode cJ9_max_7cf53 6 = .ok (.goto 4, 3) := by decide +kernel
theorem dJ9_max_7cf53_9 : decode cJ9_max_7cf53 9 = .ok (.iload_n 1, 1) := by decide +kernel
theorem dJ9_max_7cf53_10 : decode cJ9_max_7cf53 10 = .ok (.ireturn, 1) := by decide +kernel
theorem dL_cell_0 : decode cL_cell 0 = .ok (.iload_n 1, 1) := by decide +kernel
theorem dL_cell_1 : decode cL_cell 1 = .ok (.aload_n 0, 1) := by decide +kernel
theorem dL_cell_2 : decode cL_cell 2 = .ok (.arraylength, 1) := by decide +kernel
theorem dL_cell_3 : decode cL_cell 3 = .ok (.if_icmp .ge 9, 3) := by decide +kernel
theorem dL_cell_6 : decode cL_cell 6 = .ok (.aload_n 0, 1) := by decide +kernel
theorem dL_cell_7 : decode cL_cell 7 = .ok (.iload_n 1, 1) := by decide +kernel
theorem dL_cell_8 : decode cL_cell 8 = .ok (.iaload, 1) := by decide +kernel
theorem dL_cell_9 : decode cL_cell 9 = .ok (.goto 15, 3) := by decide +kernel
theorem dL_cell_12 : decode cL_cell 12 = .ok (.sipush 7919, 3) := by decide +kernel
theorem dL_cell_15 : decode cL_cell 15 = .ok (.iload_n 1, 1) := by decide +kernel
theorem dL_cell_16 : decode cL_cell 16 = .ok (.iconst 3, 1) := by decide +kernel
theorem dL_cell_17 : decode cL_cell 17 = .ok (.iadd, 1) := by decide +kernel
theorem dL_cell_18 : decode cL_cell 18 = .ok (.imul, 1) := by decide +kernel
theorem dL_cell_19 : decode cL_cell 19 = .ok (.iload_n 1, 1) := by decide +kernel
theorem dL_cell_20 : decode cL_cell 20 = .ok (.bipush 11, 2) := by decide +kernel
theorem dL_cell_22 : decode cL_cell 22 = .ok (.iadd, 1) := by decide +kernel
theorem dL_cell_23 : decode cL_cell 23 = .ok (.imul, 1) := by decide +kernel
theorem dL_cell_24 : decode cL_cell 24 = .ok (.ireturn, 1) := by decide +kernel
theorem dL_low_0 : decode cL_low 0 = .ok (.iload_n 0, 1) := by decide +kernel
theorem dL_low_1 : decode cL_low 1 = .ok (.ldc 7, 2) := by decide +kernel
theorem dL_low_3 : decode cL_low 3 = .ok (.iand, 1) := by decide +kernel
theorem dL_low_4 : decode cL_low 4 = .ok (.iload_n 1, 1) := by decide +kernel
theorem dL_low_5 : decode cL_low 5 = .ok (.irem, 1) := by decide +kernel
theorem dL_low_6 : decode cL_low 6 = .ok (.ireturn, 1) := by decide +kernel
set_option maxRecDepth 20000 in
theorem ggL_isField_X4_count : GoodIn wsL_isField wsX4_count := goodIn_ca (goodIn_r _ [6, 7, 8, 9, 10, 11, 12, 13, 14, 15, 16, 17, 18, 19, 20, 21, 22, 23, 24, 25, 26, 27, 28, 29, 30, 31, 32, 33, 34, 35, 36, 37, 38, 39, 40, 41, 42, 43, 44, 45, 46, 47, 48, 49, 117, 118, 119, 120, 121, 122, 123, 124, 125, 126, 127, 128, 129, 130, 131, 132] (by decide +kernel) (by decide +kernel)) (goodIn_sub (fun _ h => List.mem_cons_of_mem _ (List.mem_append_left _ (List.mem_append_right _ h))) (by decide +kernel))
set_option maxRecDepth 20000 in
theorem gL_isField_X4_count : GoodIn wsL_isField (wsV RL 8 RX4 yX4_count wsX4_count) := goodIn_app (goodIn_of _ (by decide +kernel)) ggL_isField_X4_count
set_option maxRecDepth 20000 in
theorem ggL_isField_X4_squareOf : GoodIn wsL_isField wsX4_squareOf := goodIn_ca (goodIn_ca (goodIn_r _ [53, 54, 55, 7, 8, 9, 56, 57, 5, 58, 59, 24, 25, 21, 26, 27, 28, 12, 13, 14, 29, 16, 17, 30, 31, 32, 33, 34, 35, 60, 61, 62, 63, 64, 65, 66, 67, 68, 69, 70, 71, 72, 44, 73, 74, 75, 76, 77, 78, 79, 80, 23, 117, 118, 119, 120, 121, 122, 123, 124, 125, 126, 127, 128, 129] (by decide +kernel) (by decide +kernel)) (goodIn_sub (fun _ h => List.mem_cons_of_mem _ (List.mem_append_right _ h)) (by decide +kernel))) (goodIn_sub (fun _ h => List.mem_cons_of_mem _ (List.mem_append_left _ (List.mem_append_right _ h))) (by decide +kernel))
set_option maxRecDepth 20000 in
theorem gL_isField_X4_squareOf : GoodIn wsL_isField (wsV RL 14 RX4 yX4_squareOf wsX4_squareOf) := goodIn_app (goodIn_of _ (by decide +kernel)) ggL_isField_X4_squareOf
set_option maxRecDepth 20000 in
theorem ggL_isField_X4_whyNot : GoodIn wsL_isField wsX4_whyNot := goodIn_ca (goodIn_r _ [84, 54, 55, 9, 56, 57, 5, 58, 85, 86, 87, 21, 88, 44, 89, 27, 72, 23, 24, 25, 26, 28, 12, 13, 14, 29, 16, 17, 30, 31, 32, 33, 34, 35, 117, 118, 119, 120, 121, 122, 123, 124, 125, 126, 127, 128, 129] (by decide +kernel) (by decide +kernel)) (goodIn_sub (fun _ h => List.mem_cons_of_mem _ (List.mem_append_right _ h)) (by decide +kernel))
set_option maxRecDepth 20000 in
theorem gL_isField_X4_whyNot : GoodIn wsL_isField (wsV RL 18 RX4 yX4_whyNot wsX4_whyNot) := goodIn_app (goodIn_of _ (by decide +kernel)) ggL_isField_X4_whyNot
set_option maxRecDepth 20000 in
theorem ggL_isField_X4_darkShare : GoodIn wsL_isField wsX4_darkShare := goodIn_r _ [93, 9, 94, 18, 19, 20, 21, 22, 23, 24, 25, 26, 27, 28, 12, 13, 14, 29, 16, 17, 30, 31, 32, 33, 34, 35, 117, 118, 119, 120, 121, 122, 123, 124, 125, 126, 127, 128, 129] (by decide +kernel) (by decide +kernel)
set_option maxRecDepth 20000 in
theorem gL_isField_X4_darkShare : GoodIn wsL_isField (wsV RL 21 RX4 yX4_darkShare wsX4_darkShare) := goodIn_app (goodIn_of _ (by decide +kernel)) ggL_isField_X4_darkShare
set_option maxRecDepth 20000 in
theorem ggL_isField_X4_playerOf : GoodIn wsL_isField wsX4_playerOf := goodIn_ca (goodIn_ca (goodIn_r _ [98, 54, 55, 7, 8, 9, 99, 41, 42, 21, 43, 44, 100, 101, 102, 103, 27, 104, 105, 106, 107, 72, 23, 24, 25, 26, 28, 12, 13, 14, 29, 16, 17, 30, 31, 32, 33, 34, 35, 108, 109, 110, 111, 49, 112, 113, 114, 115, 116, 69, 70, 71, 117, 118, 119, 120, 121, 122, 123, 124, 125, 126, 127, 128, 129] (by decide +kernel) (by decide +kernel)) (goodIn_sub (fun _ h => List.mem_cons_of_mem _ (List.mem_append_right _ h)) (by decide +kernel))) (goodIn_sub (fun _ h => List.mem_cons_of_mem _ (List.mem_append_left _ (List.mem_append_right _ h))) (by decide +kernel))
set_option maxRecDepth 20000 in
theorem gL_isField_X4_playerOf : GoodIn wsL_isField (wsV RL 27 RX4 yX4_playerOf wsX4_playerOf) := goodIn_app (goodIn_of _ (by decide +kernel)) ggL_isField_X4_playerOf
theorem dL_isField_0 : decode cL_isField 0 = .ok (.aload_n 0, 1) := by decide +kernel
theorem dL_isField_1 : decode cL_isField 1 = .ok (.iconst 0, 1) := by decide +kernel
theorem dL_isField_2 : decode cL_isField 2 = .ok (.invokevirtual 8, 3) := by decide +kernel
theorem dL_isField_5 : decode cL_isField 5 = .ok (.istore_n 1, 1) := by decide +kernel
theorem dL_isField_6 : decode cL_isField 6 = .ok (.iconst 0, 1) := by decide +kernel
theorem dL_isField_7 : decode cL_isField 7 = .ok (.istore_n 2, 1) := by decide +kernel
theorem dL_isField_8 : decode cL_isField 8 = .ok (.iconst 0, 1) := by decide +kernel
theorem dL_isField_9 : decode cL_isField 9 = .ok (.istore_n 3, 1) := by decide +kernel
theorem dL_isField_10 : decode cL_isField 10 = .ok (.iconst 0, 1) := by decide +kernel
theorem dL_isField_11 : decode cL_isField 11 = .ok (.istore 4, 2) := by decide +kernel
theorem dL_isField_13 : decode cL_isField 13 = .ok (.iconst 0, 1) := by decide +kernel
theorem dL_isField_14 : decode cL_isField 14 = .ok (.istore 5, 2) := by decide +kernel
theorem dL_isField_16 : decode cL_isField 16 = .ok (.iconst 0, 1) := by decide +kernel
theorem dL_isField_17 : decode cL_isField 17 = .ok (.istore 6, 2) := by decide +kernel
theorem dL_isField_19 : decode cL_isField 19 = .ok (.iload_n 1, 1) := by decide +kernel
theorem dL_isField_20 : decode cL_isField 20 = .ok (.iconst 3, 1) := by decide +kernel
theorem dL_isField_21 : decode cL_isField 21 = .ok (.irem, 1) := by decide +kernel
theorem dL_isField_22 : decode cL_isField 22 = .ok (.ifCond .ne 7, 3) := by decide +kernel
theorem dL_isField_25 : decode cL_isField 25 = .ok (.iconst 1, 1) := by decide +kernel
theorem dL_isField_26 : decode cL_isField 26 = .ok (.goto 15, 3) := by decide +kernel
theorem dL_isField_29 : decode cL_isField 29 = .ok (.iload_n 1, 1) := by decide +kernel
theorem dL_isField_30 : decode cL_isField 30 = .ok (.iconst 3, 1) := by decide +kernel
theorem dL_isField_31 : decode cL_isField 31 = .ok (.irem, 1) := by decide +kernel
theorem dL_isField_32 : decode cL_isField 32 = .ok (.iconst 1, 1) := by decide +kernel
theorem dL_isField_33 : decode cL_isField 33 = .ok (.if_icmp .ne 7, 3) := by decide +kernel
theorem dL_isField_36 : decode cL_isField 36 = .ok (.iconst 3, 1) := by decide +kernel
theorem dL_isField_37 : decode cL_isField 37 = .ok (.goto 4, 3) := by decide +kernel
theorem dL_isField_40 : decode cL_isField 40 = .ok (.iconst 2, 1) := by decide +kernel
theorem dL_isField_41 : decode cL_isField 41 = .ok (.istore 7, 2) := by decide +kernel
theorem dL_isField_43 : decode cL_isField 43 = .ok (.iconst 0, 1) := by decide +kernel
theorem dL_isField_44 : decode cL_isField 44 = .ok (.istore 8, 2) := by decide +kernel
theorem dL_isField_46 : decode cL_isField 46 = .ok (.iload 8, 2) := by decide +kernel
theorem dL_isField_48 : decode cL_isField 48 = .ok (.bipush 36, 2) := by decide +kernel
theorem dL_isField_50 : decode cL_isField 50 = .ok (.if_icmp .ge 285, 3) := by decide +kernel
theorem dL_isField_53 : decode cL_isField 53 = .ok (.aload_n 0, 1) := by decide +kernel
theorem dL_isField_54 : decode cL_isField 54 = .ok (.iload 8, 2) := by decide +kernel
theorem dL_isField_56 : decode cL_isField 56 = .ok (.iconst 0, 1) := by decide +kernel
theorem dL_isField_57 : decode cL_isField 57 = .ok (.invokevirtual 14, 3) := by decide +kernel
theorem dL_isField_60 : decode cL_isField 60 = .ok (.istore 9, 2) := by decide +kernel
theorem dL_isField_62 : decode cL_isField 62 = .ok (.aload_n 0, 1) := by decide +kernel
theorem dL_isField_63 : decode cL_isField 63 = .ok (.iload 8, 2) := by decide +kernel
theorem dL_isField_65 : decode cL_isField 65 = .ok (.iconst 1, 1) := by decide +kernel
theorem dL_isField_66 : decode cL_isField 66 = .ok (.invokevirtual 14, 3) := by decide +kernel
theorem dL_isField_69 : decode cL_isField 69 = .ok (.istore 10, 2) := by decide +kernel
theorem dL_isField_71 : decode cL_isField 71 = .ok (.aload_n 0, 1) := by decide +kernel
theorem dL_isField_72 : decode cL_isField 72 = .ok (.iload 8, 2) := by decide +kernel
theorem dL_isField_74 : decode cL_isField 74 = .ok (.iconst 3, 1) := by decide +kernel
theorem dL_isField_75 : decode cL_isField 75 = .ok (.invokevirtual 14, 3) := by decide +kernel
theorem dL_isField_78 : decode cL_isField 78 = .ok (.istore 11, 2) := by decide +kernel
theorem dL_isField_80 : decode cL_isField 80 = .ok (.aload_n 0, 1) := by decide +kernel
theorem dL_isField_81 : decode cL_isField 81 = .ok (.iload 8, 2) := by decide +kernel
theorem dL_isField_83 : decode cL_isField 83 = .ok (.iconst 5, 1) := by decide +kernel
theorem dL_isField_84 : decode cL_isField 84 = .ok (.invokevirtual 14, 3) := by decide +kernel
theorem dL_isField_87 : decode cL_isField 87 = .ok (.istore 12, 2) := by decide +kernel
theorem dL_isField_89 : decode cL_isField 89 = .ok (.iload 9, 2) := by decide +kernel
theorem dL_isField_91 : decode cL_isField 91 = .ok (.ifCond .lt 120, 3) := by decide +kernel
theorem dL_isField_94 : decode cL_isField 94 = .ok (.iload 9, 2) := by decide +kernel
theorem dL_isField_96 : decode cL_isField 96 = .ok (.bipush 10, 2) := by decide +kernel
theorem dL_isField_98 : decode cL_isField 98 = .ok (.if_icmp .ge 113, 3) := by decide +kernel
theorem dL_isField_101 : decode cL_isField 101 = .ok (.iload 10, 2) := by decide +kernel
theorem dL_isField_103 : decode cL_isField 103 = .ok (.iconst (-1), 1) := by decide +kernel
theorem dL_isField_104 : decode cL_isField 104 = .ok (.if_icmp .ne 7, 3) := by decide +kernel
theorem dL_isField_107 : decode cL_isField 107 = .ok (.iconst 1, 1) := by decide +kernel
theorem dL_isField_108 : decode cL_isField 108 = .ok (.goto 4, 3) := by decide +kernel
theorem dL_isField_111 : decode cL_isField 111 = .ok (.iconst 0, 1) := by decide +kernel
theorem dL_isField_112 : decode cL_isField 112 = .ok (.iload 9, 2) := by decide +kernel
theorem dL_isField_114 : decode cL_isField 114 = .ok (.ifCond .ne 7, 3) := by decide +kernel
theorem dL_isField_117 : decode cL_isField 117 = .ok (.iconst 1, 1) := by decide +kernel
theorem dL_isField_118 : decode cL_isField 118 = .ok (.goto 4, 3) := by decide +kernel
theorem dL_isField_121 : decode cL_isField 121 = .ok (.iconst 0, 1) := by decide +kernel
theorem dL_isField_122 : decode cL_isField 122 = .ok (.if_icmp .ne 89, 3) := by decide +kernel
theorem dL_isField_125 : decode cL_isField 125 = .ok (.iload 10, 2) := by decide +kernel
theorem dL_isField_127 : decode cL_isField 127 = .ok (.iconst 2, 1) := by decide +kernel
theorem dL_isField_128 : decode cL_isField 128 = .ok (.if_icmp .ge 83, 3) := by decide +kernel
theorem dL_isField_131 : decode cL_isField 131 = .ok (.iload 11, 2) := by decide +kernel
theorem dL_isField_133 : decode cL_isField 133 = .ok (.aload_n 0, 1) := by decide +kernel
theorem dL_isField_134 : decode cL_isField 134 = .ok (.iload 8, 2) := by decide +kernel
theorem dL_isField_136 : decode cL_isField 136 = .ok (.iconst 4, 1) := by decide +kernel
theorem dL_isField_137 : decode cL_isField 137 = .ok (.invokevirtual 14, 3) := by decide +kernel
theorem dL_isField_140 : decode cL_isField 140 = .ok (.if_icmp .ne 71, 3) := by decide +kernel
theorem dL_isField_143 : decode cL_isField 143 = .ok (.iload 12, 2) := by decide +kernel
theorem dL_isField_145 : decode cL_isField 145 = .ok (.ifCond .le 7, 3) := by decide +kernel
theorem dL_isField_148 : decode cL_isField 148 = .ok (.iconst 1, 1) := by decide +kernel
theorem dL_isField_149 : decode cL_isField 149 = .ok (.goto 4, 3) := by decide +kernel
theorem dL_isField_152 : decode cL_isField 152 = .ok (.iconst 0, 1) := by decide +kernel
theorem dL_isField_153 : decode cL_isField 153 = .ok (.iload 11, 2) := by decide +kernel
theorem dL_isField_155 : decode cL_isField 155 = .ok (.iconst 1, 1) := by decide +kernel
theorem dL_isField_156 : decode cL_isField 156 = .ok (.if_icmp .ne 7, 3) := by decide +kernel
theorem dL_isField_159 : decode cL_isField 159 = .ok (.iconst 1, 1) := by decide +kernel
theorem dL_isField_160 : decode cL_isField 160 = .ok (.goto 4, 3) := by decide +kernel
theorem dL_isField_163 : decode cL_isField 163 = .ok (.iconst 0, 1) := by decide +kernel
theorem dL_isField_164 : decode cL_isField 164 = .ok (.if_icmp .ne 47, 3) := by decide +kernel
theorem dL_isField_167 : decode cL_isField 167 = .ok (.iload 12, 2) := by decide +kernel
theorem dL_isField_169 : decode cL_isField 169 = .ok (.bipush 6, 2) := by decide +kernel
theorem dL_isField_171 : decode cL_isField 171 = .ok (.if_icmp .ge 40, 3) := by decide +kernel
theorem dL_isField_174 : decode cL_isField 174 = .ok (.aload_n 0, 1) := by decide +kernel
theorem dL_isField_175 : decode cL_isField 175 = .ok (.iload 8, 2) := by decide +kernel
theorem dL_isField_177 : decode cL_isField 177 = .ok (.bipush 7, 2) := by decide +kernel
theorem dL_isField_179 : decode cL_isField 179 = .ok (.invokevirtual 14, 3) := by decide +kernel
theorem dL_isField_182 : decode cL_isField 182 = .ok (.iload_n 1, 1) := by decide +kernel
theorem dL_isField_183 : decode cL_isField 183 = .ok (.ishr, 1) := by decide +kernel
theorem dL_isField_184 : decode cL_isField 184 = .ok (.iconst 1, 1) := by decide +kernel
theorem dL_isField_185 : decode cL_isField 185 = .ok (.iand, 1) := by decide +kernel
theorem dL_isField_186 : decode cL_isField 186 = .ok (.iload 11, 2) := by decide +kernel
theorem dL_isField_188 : decode cL_isField 188 = .ok (.if_icmp .ne 23, 3) := by decide +kernel
theorem dL_isField_191 : decode cL_isField 191 = .ok (.iload 9, 2) := by decide +kernel
theorem dL_isField_193 : decode cL_isField 193 = .ok (.ifCond .gt 14, 3) := by decide +kernel
theorem dL_isField_196 : decode cL_isField 196 = .ok (.aload_n 0, 1) := by decide +kernel
theorem dL_isField_197 : decode cL_isField 197 = .ok (.iload 8, 2) := by decide +kernel
theorem dL_isField_199 : decode cL_isField 199 = .ok (.bipush 6, 2) := by decide +kernel
theorem dL_isField_201 : decode cL_isField 201 = .ok (.invokevirtual 14, 3) := by decide +kernel
theorem dL_isField_204 : decode cL_isField 204 = .ok (.ifCond .ne 7, 3) := by decide +kernel
theorem dL_isField_207 : decode cL_isField 207 = .ok (.iconst 1, 1) := by decide +kernel
theorem dL_isField_208 : decode cL_isField 208 = .ok (.goto 4, 3) := by decide +kernel
theorem dL_isField_211 : decode cL_isField 211 = .ok (.iconst 0, 1) := by decide +kernel
theorem dL_isField_212 : decode cL_isField 212 = .ok (.istore 13, 2) := by decide +kernel
theorem dL_isField_214 : decode cL_isField 214 = .ok (.aload_n 0, 1) := by decide +kernel
theorem dL_isField_215 : decode cL_isField 215 = .ok (.iconst 3, 1) := by decide +kernel
theorem dL_isField_216 : decode cL_isField 216 = .ok (.invokevirtual 8, 3) := by decide +kernel
theorem dL_isField_219 : decode cL_isField 219 = .ok (.istore 14, 2) := by decide +kernel
theorem dL_isField_221 : decode cL_isField 221 = .ok (.iload 10, 2) := by decide +kernel
theorem dL_isField_223 : decode cL_isField 223 = .ok (.ifCond .lt 14, 3) := by decide +kernel
theorem dL_isField_226 : decode cL_isField 226 = .ok (.iload 10, 2) := by decide +kernel
theorem dL_isField_228 : decode cL_isField 228 = .ok (.iload 14, 2) := by decide +kernel
theorem dL_isField_230 : decode cL_isField 230 = .ok (.if_icmp .eq 7, 3) := by decide +kernel
theorem dL_isField_233 : decode cL_isField 233 = .ok (.iconst 1, 1) := by decide +kernel
theorem dL_isField_234 : decode cL_isField 234 = .ok (.goto 25, 3) := by decide +kernel
theorem dL_isField_237 : decode cL_isField 237 = .ok (.iload 9, 2) := by decide +kernel
theorem dL_isField_239 : decode cL_isField 239 = .ok (.bipush 9, 2) := by decide +kernel
theorem dL_isField_241 : decode cL_isField 241 = .ok (.if_icmp .ne 7, 3) := by decide +kernel
theorem dL_isField_244 : decode cL_isField 244 = .ok (.iconst 2, 1) := by decide +kernel
theorem dL_isField_245 : decode cL_isField 245 = .ok (.goto 14, 3) := by decide +kernel
theorem dL_isField_248 : decode cL_isField 248 = .ok (.iload 11, 2) := by decide +kernel
theorem dL_isField_250 : decode cL_isField 250 = .ok (.iconst 1, 1) := by decide +kernel
theorem dL_isField_251 : decode cL_isField 251 = .ok (.if_icmp .ne 7, 3) := by decide +kernel
theorem dL_isField_254 : decode cL_isField 254 = .ok (.iconst 3, 1) := by decide +kernel
theorem dL_isField_255 : decode cL_isField 255 = .ok (.goto 4, 3) := by decide +kernel
theorem dL_isField_258 : decode cL_isField 258 = .ok (.iconst 0, 1) := by decide +kernel
theorem dL_isField_259 : decode cL_isField 259 = .ok (.istore 15, 2) := by decide +kernel
theorem dL_isField_261 : decode cL_isField 261 = .ok (.iload 13, 2) := by decide +kernel
theorem dL_isField_263 : decode cL_isField 263 = .ok (.ifCond .eq 14, 3) := by decide +kernel
theorem dL_isField_266 : decode cL_isField 266 = .ok (.aload_n 0, 1) := by decide +kernel
theorem dL_isField_267 : decode cL_isField 267 = .ok (.iload 8, 2) := by decide +kernel
theorem dL_isField_269 : decode cL_isField 269 = .ok (.invokevirtual 18, 3) := by decide +kernel
theorem dL_isField_272 : decode cL_isField 272 = .ok (.iload 15, 2) := by decide +kernel
theorem dL_isField_274 : decode cL_isField 274 = .ok (.if_icmp .eq 5, 3) := by decide +kernel
theorem dL_isField_277 : decode cL_isField 277 = .ok (.iconst 0, 1) := by decide +kernel
theorem dL_isField_278 : decode cL_isField 278 = .ok (.ireturn, 1) := by decide +kernel
theorem dL_isField_279 : decode cL_isField 279 = .ok (.iload_n 2, 1) := by decide +kernel
theorem dL_isField_280 : decode cL_isField 280 = .ok (.iload 11, 2) := by decide +kernel
theorem dL_isField_282 : decode cL_isField 282 = .ok (.iadd, 1) := by decide +kernel
theorem dL_isField_283 : decode cL_isField 283 = .ok (.istore_n 2, 1) := by decide +kernel
theorem dL_isField_284 : decode cL_isField 284 = .ok (.iload_n 3, 1) := by decide +kernel
theorem dL_isField_285 : decode cL_isField 285 = .ok (.iload 12, 2) := by decide +kernel
theorem dL_isField_287 : decode cL_isField 287 = .ok (.iadd, 1) := by decide +kernel
theorem dL_isField_288 : decode cL_isField 288 = .ok (.istore_n 3, 1) := by decide +kernel
theorem dL_isField_289 : decode cL_isField 289 = .ok (.iload 4, 2) := by decide +kernel
theorem dL_isField_291 : decode cL_isField 291 = .ok (.aload_n 0, 1) := by decide +kernel
theorem dL_isField_292 : decode cL_isField 292 = .ok (.iload 8, 2) := by decide +kernel
theorem dL_isField_294 : decode cL_isField 294 = .ok (.bipush 6, 2) := by decide +kernel
theorem dL_isField_296 : decode cL_isField 296 = .ok (.invokevirtual 14, 3) := by decide +kernel
theorem dL_isField_299 : decode cL_isField 299 = .ok (.iadd, 1) := by decide +kernel
theorem dL_isField_300 : decode cL_isField 300 = .ok (.istore 4, 2) := by decide +kernel
theorem dL_isField_302 : decode cL_isField 302 = .ok (.iload 5, 2) := by decide +kernel
theorem dL_isField_304 : decode cL_isField 304 = .ok (.iload 9, 2) := by decide +kernel
theorem dL_isField_306 : decode cL_isField 306 = .ok (.ifCond .le 7, 3) := by decide +kernel
theorem dL_isField_309 : decode cL_isField 309 = .ok (.iconst 1, 1) := by decide +kernel
theorem dL_isField_310 : decode cL_isField 310 = .ok (.goto 4, 3) := by decide +kernel
theorem dL_isField_313 : decode cL_isField 313 = .ok (.iconst 0, 1) := by decide +kernel
theorem dL_isField_314 : decode cL_isField 314 = .ok (.iadd, 1) := by decide +kernel
theorem dL_isField_315 : decode cL_isField 315 = .ok (.istore 5, 2) := by decide +kernel
theorem dL_isField_317 : decode cL_isField 317 = .ok (.iload 6, 2) := by decide +kernel
theorem dL_isField_319 : decode cL_isField 319 = .ok (.aload_n 0, 1) := by decide +kernel
theorem dL_isField_320 : decode cL_isField 320 = .ok (.iload 8, 2) := by decide +kernel
theorem dL_isField_322 : decode cL_isField 322 = .ok (.iconst 2, 1) := by decide +kernel
theorem dL_isField_323 : decode cL_isField 323 = .ok (.invokevirtual 14, 3) := by decide +kernel
theorem dL_isField_326 : decode cL_isField 326 = .ok (.iadd, 1) := by decide +kernel
theorem dL_isField_327 : decode cL_isField 327 = .ok (.istore 6, 2) := by decide +kernel
theorem dL_isField_329 : decode cL_isField 329 = .ok (.iinc 8 1, 3) := by decide +kernel
theorem dL_isField_332 : decode cL_isField 332 = .ok (.goto (-286), 3) := by decide +kernel
theorem dL_isField_335 : decode cL_isField 335 = .ok (.aload_n 0, 1) := by decide +kernel
theorem dL_isField_336 : decode cL_isField 336 = .ok (.iconst 1, 1) := by decide +kernel
theorem dL_isField_337 : decode cL_isField 337 = .ok (.invokevirtual 8, 3) := by decide +kernel
theorem dL_isField_340 : decode cL_isField 340 = .ok (.iload_n 1, 1) := by decide +kernel
theorem dL_isField_341 : decode cL_isField 341 = .ok (.iconst 3, 1) := by decide +kernel
theorem dL_isField_342 : decode cL_isField 342 = .ok (.idiv, 1) := by decide +kernel
theorem dL_isField_343 : decode cL_isField 343 = .ok (.if_icmp .ne 86, 3) := by decide +kernel
theorem dL_isField_346 : decode cL_isField 346 = .ok (.aload_n 0, 1) := by decide +kernel
theorem dL_isField_347 : decode cL_isField 347 = .ok (.iconst 2, 1) := by decide +kernel
theorem dL_isField_348 : decode cL_isField 348 = .ok (.invokevirtual 8, 3) := by decide +kernel
theorem dL_isField_351 : decode cL_isField 351 = .ok (.iload 7, 2) := by decide +kernel
theorem dL_isField_353 : decode cL_isField 353 = .ok (.if_icmp .ne 76, 3) := by decide +kernel
theorem dL_isField_356 : decode cL_isField 356 = .ok (.aload_n 0, 1) := by decide +kernel
theorem dL_isField_357 : decode cL_isField 357 = .ok (.iconst 5, 1) := by decide +kernel
theorem dL_isField_358 : decode cL_isField 358 = .ok (.invokevirtual 8, 3) := by decide +kernel
theorem dL_isField_361 : decode cL_isField 361 = .ok (.iload_n 2, 1) := by decide +kernel
theorem dL_isField_362 : decode cL_isField 362 = .ok (.if_icmp .ne 67, 3) := by decide +kernel
theorem dL_isField_365 : decode cL_isField 365 = .ok (.iload_n 3, 1) := by decide +kernel
theorem dL_isField_366 : decode cL_isField 366 = .ok (.iload 4, 2) := by decide +kernel
theorem dL_isField_368 : decode cL_isField 368 = .ok (.if_icmp .ne 61, 3) := by decide +kernel
theorem dL_isField_371 : decode cL_isField 371 = .ok (.aload_n 0, 1) := by decide +kernel
theorem dL_isField_372 : decode cL_isField 372 = .ok (.bipush 6, 2) := by decide +kernel
theorem dL_isField_374 : decode cL_isField 374 = .ok (.invokevirtual 8, 3) := by decide +kernel
theorem dL_isField_377 : decode cL_isField 377 = .ok (.iload 5, 2) := by decide +kernel
theorem dL_isField_379 : decode cL_isField 379 = .ok (.if_icmp .ne 50, 3) := by decide +kernel
theorem dL_isField_382 : decode cL_isField 382 = .ok (.aload_n 0, 1) := by decide +kernel
theorem dL_isField_383 : decode cL_isField 383 = .ok (.bipush 7, 2) := by decide +kernel
theorem dL_isField_385 : decode cL_isField 385 = .ok (.invokevirtual 8, 3) := by decide +kernel
theorem dL_isField_388 : decode cL_isField 388 = .ok (.iload 6, 2) := by decide +kernel
theorem dL_isField_390 : decode cL_isField 390 = .ok (.if_icmp .ne 39, 3) := by decide +kernel
theorem dL_isField_393 : decode cL_isField 393 = .ok (.aload_n 0, 1) := by decide +kernel
theorem dL_isField_394 : decode cL_isField 394 = .ok (.invokevirtual 21, 3) := by decide +kernel
theorem dL_isField_397 : decode cL_isField 397 = .ok (.iload_n 2, 1) := by decide +kernel
theorem dL_isField_398 : decode cL_isField 398 = .ok (.i2d, 1) := by decide +kernel
theorem dL_isField_399 : decode cL_isField 399 = .ok (.ldc2_w 25, 3) := by decide +kernel
theorem dL_isField_402 : decode cL_isField 402 = .ok (.ddiv, 1) := by decide +kernel
theorem dL_isField_403 : decode cL_isField 403 = .ok (.dcmp .l, 1) := by decide +kernel
theorem dL_isField_404 : decode cL_isField 404 = .ok (.ifCond .ne 25, 3) := by decide +kernel
theorem dL_isField_407 : decode cL_isField 407 = .ok (.aload_n 0, 1) := by decide +kernel
theorem dL_isField_408 : decode cL_isField 408 = .ok (.iconst 0, 1) := by decide +kernel
theorem dL_isField_409 : decode cL_isField 409 = .ok (.iconst 1, 1) := by decide +kernel
theorem dL_isField_410 : decode cL_isField 410 = .ok (.invokevirtual 27, 3) := by decide +kernel
theorem dL_isField_413 : decode cL_isField 413 = .ok (.aload_n 0, 1) := by decide +kernel
theorem dL_isField_414 : decode cL_isField 414 = .ok (.iconst 1, 1) := by decide +kernel
theorem dL_isField_415 : decode cL_isField 415 = .ok (.iconst 1, 1) := by decide +kernel
theorem dL_isField_416 : decode cL_isField 416 = .ok (.invokevirtual 27, 3) := by decide +kernel
theorem dL_isField_419 : decode cL_isField 419 = .ok (.iadd, 1) := by decide +kernel
theorem dL_isField_420 : decode cL_isField 420 = .ok (.iload 5, 2) := by decide +kernel
theorem dL_isField_422 : decode cL_isField 422 = .ok (.if_icmp .ne 7, 3) := by decide +kernel
theorem dL_isField_425 : decode cL_isField 425 = .ok (.iconst 1, 1) := by decide +kernel
theorem dL_isField_426 : decode cL_isField 426 = .ok (.goto 4, 3) := by decide +kernel
theorem dL_isField_429 : decode cL_isField 429 = .ok (.iconst 0, 1) := by decide +kernel
theorem dL_isField_430 : decode cL_isField 430 = .ok (.ireturn, 1) := by decide +kernel
set_option maxRecDepth 20000 in
theorem ggL_arePlayers_X4_squareOf : GoodIn wsL_arePlayers wsX4_squareOf := goodIn_ca (goodIn_ca (goodIn_r _ [5, 6, 7, 8, 9, 10, 11, 12, 4, 13, 14, 15, 16, 17, 18, 19, 20, 21, 22, 23, 24, 25, 26, 27, 28, 29, 30, 31, 32, 33, 34, 35, 36, 37, 38, 39, 40, 41, 42, 43, 44, 45, 46, 47, 48, 49, 50, 51, 52, 53, 54, 55, 82, 83, 84, 85, 86, 87, 88, 89, 90, 91, 92, 93, 94] (by decide +kernel) (by decide +kernel)) (goodIn_sub (fun _ h => List.mem_cons_of_mem _ (List.mem_append_left _ (List.mem_append_right _ h))) (by decide +kernel))) (goodIn_sub (fun _ h => List.mem_cons_of_mem _ (List.mem_append_right _ h)) (by decide +kernel))
set_option maxRecDepth 20000 in
theorem gL_arePlayers_X4_squareOf : GoodIn wsL_arePlayers (wsV RL 14 RX4 yX4_squareOf wsX4_squareOf) := goodIn_app (goodIn_of _ (by decide +kernel)) ggL_arePlayers_X4_squareOf
set_option maxRecDepth 20000 in
theorem ggL_arePlayers_X4_playerOf : GoodIn wsL_arePlayers wsX4_playerOf := goodIn_ca (goodIn_ca (goodIn_r _ [59, 6, 7, 8, 9, 10, 60, 61, 62, 17, 63, 46, 64, 65, 66, 67, 19, 68, 69, 70, 71, 45, 55, 15, 16, 18, 20, 21, 22, 23, 24, 25, 26, 27, 28, 29, 30, 31, 32, 72, 73, 74, 75, 76, 77, 78, 79, 80, 81, 42, 43, 44, 82, 83, 84, 85, 86, 87, 88, 89, 90, 91, 92, 93, 94] (by decide +kernel) (by decide +kernel)) (goodIn_sub (fun _ h => List.mem_cons_of_mem _ (List.mem_append_left _ (List.mem_append_right _ h))) (by decide +kernel))) (goodIn_sub (fun _ h => List.mem_cons_of_mem _ (List.mem_append_right _ h)) (by decide +kernel))
set_option maxRecDepth 20000 in
theorem gL_arePlayers_X4_playerOf : GoodIn wsL_arePlayers (wsV RL 27 RX4 yX4_playerOf wsX4_playerOf) := goodIn_app (goodIn_of _ (by decide +kernel)) ggL_arePlayers_X4_playerOf
theorem dL_arePlayers_0 : decode cL_arePlayers 0 = .ok (.iconst 0, 1) := by decide +kernel
theorem dL_arePlayers_1 : decode cL_arePlayers 1 = .ok (.istore_n 1, 1) := by decide +kernel
theorem dL_arePlayers_2 : decode cL_arePlayers 2 = .ok (.iload_n 1, 1) := by decide +kernel
theorem dL_arePlayers_3 : decode cL_arePlayers 3 = .ok (.iconst 2, 1) := by decide +kernel
theorem dL_arePlayers_4 : decode cL_arePlayers 4 = .ok (.if_icmp .ge 244, 3) := by decide +kernel
theorem dL_arePlayers_7 : decode cL_arePlayers 7 = .ok (.iconst 0, 1) := by decide +kernel
theorem dL_arePlayers_8 : decode cL_arePlayers 8 = .ok (.istore_n 2, 1) := by decide +kernel
theorem dL_arePlayers_9 : decode cL_arePlayers 9 = .ok (.iconst 0, 1) := by decide +kernel
theorem dL_arePlayers_10 : decode cL_arePlayers 10 = .ok (.istore_n 3, 1) := by decide +kernel
theorem dL_arePlayers_11 : decode cL_arePlayers 11 = .ok (.iconst 0, 1) := by decide +kernel
theorem dL_arePlayers_12 : decode cL_arePlayers 12 = .ok (.istore 4, 2) := by decide +kernel
theorem dL_arePlayers_14 : decode cL_arePlayers 14 = .ok (.iconst 0, 1) := by decide +kernel
theorem dL_arePlayers_15 : decode cL_arePlayers 15 = .ok (.istore 5, 2) := by decide +kernel
theorem dL_arePlayers_17 : decode cL_arePlayers 17 = .ok (.iconst 0, 1) := by decide +kernel
theorem dL_arePlayers_18 : decode cL_arePlayers 18 = .ok (.istore 6, 2) := by decide +kernel
theorem dL_arePlayers_20 : decode cL_arePlayers 20 = .ok (.iconst 0, 1) := by decide +kernel
theorem dL_arePlayers_21 : decode cL_arePlayers 21 = .ok (.istore 7, 2) := by decide +kernel
theorem dL_arePlayers_23 : decode cL_arePlayers 23 = .ok (.iload 7, 2) := by decide +kernel
theorem dL_arePlayers_25 : decode cL_arePlayers 25 = .ok (.bipush 36, 2) := by decide +kernel
theorem dL_arePlayers_27 : decode cL_arePlayers 27 = .ok (.if_icmp .ge 151, 3) := by decide +kernel
theorem dL_arePlayers_30 : decode cL_arePlayers 30 = .ok (.aload_n 0, 1) := by decide +kernel
theorem dL_arePlayers_31 : decode cL_arePlayers 31 = .ok (.iload 7, 2) := by decide +kernel
theorem dL_arePlayers_33 : decode cL_arePlayers 33 = .ok (.iconst 1, 1) := by decide +kernel
theorem dL_arePlayers_34 : decode cL_arePlayers 34 = .ok (.invokevirtual 14, 3) := by decide +kernel
theorem dL_arePlayers_37 : decode cL_arePlayers 37 = .ok (.iload_n 1, 1) := by decide +kernel
theorem dL_arePlayers_38 : decode cL_arePlayers 38 = .ok (.if_icmp .ne 7, 3) := by decide +kernel
theorem dL_arePlayers_41 : decode cL_arePlayers 41 = .ok (.iconst 1, 1) := by decide +kernel
theorem dL_arePlayers_42 : decode cL_arePlayers 42 = .ok (.goto 4, 3) := by decide +kernel
theorem dL_arePlayers_45 : decode cL_arePlayers 45 = .ok (.iconst 0, 1) := by decide +kernel
theorem dL_arePlayers_46 : decode cL_arePlayers 46 = .ok (.istore 8, 2) := by decide +kernel
theorem dL_arePlayers_48 : decode cL_arePlayers 48 = .ok (.aload_n 0, 1) := by decide +kernel
theorem dL_arePlayers_49 : decode cL_arePlayers 49 = .ok (.iload 7, 2) := by decide +kernel
theorem dL_arePlayers_51 : decode cL_arePlayers 51 = .ok (.iconst 3, 1) := by decide +kernel
theorem dL_arePlayers_52 : decode cL_arePlayers 52 = .ok (.invokevirtual 14, 3) := by decide +kernel
theorem dL_arePlayers_55 : decode cL_arePlayers 55 = .ok (.iconst 1, 1) := by decide +kernel
theorem dL_arePlayers_56 : decode cL_arePlayers 56 = .ok (.if_icmp .ne 7, 3) := by decide +kernel
theorem dL_arePlayers_59 : decode cL_arePlayers 59 = .ok (.iconst 1, 1) := by decide +kernel
theorem dL_arePlayers_60 : decode cL_arePlayers 60 = .ok (.goto 4, 3) := by decide +kernel
theorem dL_arePlayers_63 : decode cL_arePlayers 63 = .ok (.iconst 0, 1) := by decide +kernel
theorem dL_arePlayers_64 : decode cL_arePlayers 64 = .ok (.istore 9, 2) := by decide +kernel
theorem dL_arePlayers_66 : decode cL_arePlayers 66 = .ok (.iload_n 2, 1) := by decide +kernel
theorem dL_arePlayers_67 : decode cL_arePlayers 67 = .ok (.iload 8, 2) := by decide +kernel
theorem dL_arePlayers_69 : decode cL_arePlayers 69 = .ok (.ifCond .eq 7, 3) := by decide +kernel
theorem dL_arePlayers_72 : decode cL_arePlayers 72 = .ok (.iconst 1, 1) := by decide +kernel
theorem dL_arePlayers_73 : decode cL_arePlayers 73 = .ok (.goto 4, 3) := by decide +kernel
theorem dL_arePlayers_76 : decode cL_arePlayers 76 = .ok (.iconst 0, 1) := by decide +kernel
theorem dL_arePlayers_77 : decode cL_arePlayers 77 = .ok (.iadd, 1) := by decide +kernel
theorem dL_arePlayers_78 : decode cL_arePlayers 78 = .ok (.istore_n 2, 1) := by decide +kernel
theorem dL_arePlayers_79 : decode cL_arePlayers 79 = .ok (.iload_n 3, 1) := by decide +kernel
theorem dL_arePlayers_80 : decode cL_arePlayers 80 = .ok (.iload 8, 2) := by decide +kernel
theorem dL_arePlayers_82 : decode cL_arePlayers 82 = .ok (.ifCond .eq 13, 3) := by decide +kernel
theorem dL_arePlayers_85 : decode cL_arePlayers 85 = .ok (.aload_n 0, 1) := by decide +kernel
theorem dL_arePlayers_86 : decode cL_arePlayers 86 = .ok (.iload 7, 2) := by decide +kernel
theorem dL_arePlayers_88 : decode cL_arePlayers 88 = .ok (.iconst 0, 1) := by decide +kernel
theorem dL_arePlayers_89 : decode cL_arePlayers 89 = .ok (.invokevirtual 14, 3) := by decide +kernel
theorem dL_arePlayers_92 : decode cL_arePlayers 92 = .ok (.goto 4, 3) := by decide +kernel
theorem dL_arePlayers_95 : decode cL_arePlayers 95 = .ok (.iconst 0, 1) := by decide +kernel
theorem dL_arePlayers_96 : decode cL_arePlayers 96 = .ok (.iadd, 1) := by decide +kernel
theorem dL_arePlayers_97 : decode cL_arePlayers 97 = .ok (.istore_n 3, 1) := by decide +kernel
theorem dL_arePlayers_98 : decode cL_arePlayers 98 = .ok (.iload 4, 2) := by decide +kernel
theorem dL_arePlayers_100 : decode cL_arePlayers 100 = .ok (.iload 8, 2) := by decide +kernel
theorem dL_arePlayers_102 : decode cL_arePlayers 102 = .ok (.ifCond .eq 12, 3) := by decide +kernel
theorem dL_arePlayers_105 : decode cL_arePlayers 105 = .ok (.iload 9, 2) := by decide +kernel
theorem dL_arePlayers_107 : decode cL_arePlayers 107 = .ok (.ifCond .eq 7, 3) := by decide +kernel
theorem dL_arePlayers_110 : decode cL_arePlayers 110 = .ok (.iconst 1, 1) := by decide +kernel
theorem dL_arePlayers_111 : decode cL_arePlayers 111 = .ok (.goto 4, 3) := by decide +kernel
theorem dL_arePlayers_114 : decode cL_arePlayers 114 = .ok (.iconst 0, 1) := by decide +kernel
theorem dL_arePlayers_115 : decode cL_arePlayers 115 = .ok (.iadd, 1) := by decide +kernel
theorem dL_arePlayers_116 : decode cL_arePlayers 116 = .ok (.istore 4, 2) := by decide +kernel
theorem dL_arePlayers_118 : decode cL_arePlayers 118 = .ok (.iload 5, 2) := by decide +kernel
theorem dL_arePlayers_120 : decode cL_arePlayers 120 = .ok (.iload 8, 2) := by decide +kernel
theorem dL_arePlayers_122 : decode cL_arePlayers 122 = .ok (.ifCond .eq 18, 3) := by decide +kernel
theorem dL_arePlayers_125 : decode cL_arePlayers 125 = .ok (.iload 9, 2) := by decide +kernel
theorem dL_arePlayers_127 : decode cL_arePlayers 127 = .ok (.ifCond .ne 13, 3) := by decide +kernel
theorem dL_arePlayers_130 : decode cL_arePlayers 130 = .ok (.aload_n 0, 1) := by decide +kernel
theorem dL_arePlayers_131 : decode cL_arePlayers 131 = .ok (.iload 7, 2) := by decide +kernel
theorem dL_arePlayers_133 : decode cL_arePlayers 133 = .ok (.iconst 2, 1) := by decide +kernel
theorem dL_arePlayers_134 : decode cL_arePlayers 134 = .ok (.invokevirtual 14, 3) := by decide +kernel
theorem dL_arePlayers_137 : decode cL_arePlayers 137 = .ok (.goto 4, 3) := by decide +kernel
theorem dL_arePlayers_140 : decode cL_arePlayers 140 = .ok (.iconst 0, 1) := by decide +kernel
theorem dL_arePlayers_141 : decode cL_arePlayers 141 = .ok (.iadd, 1) := by decide +kernel
theorem dL_arePlayers_142 : decode cL_arePlayers 142 = .ok (.istore 5, 2) := by decide +kernel
theorem dL_arePlayers_144 : decode cL_arePlayers 144 = .ok (.iload 6, 2) := by decide +kernel
theorem dL_arePlayers_146 : decode cL_arePlayers 146 = .ok (.aload_n 0, 1) := by decide +kernel
theorem dL_arePlayers_147 : decode cL_arePlayers 147 = .ok (.iload 7, 2) := by decide +kernel
theorem dL_arePlayers_149 : decode cL_arePlayers 149 = .ok (.iconst 1, 1) := by decide +kernel
theorem dL_arePlayers_150 : decode cL_arePlayers 150 = .ok (.invokevirtual 14, 3) := by decide +kernel
theorem dL_arePlayers_153 : decode cL_arePlayers 153 = .ok (.iconst 1, 1) := by decide +kernel
theorem dL_arePlayers_154 : decode cL_arePlayers 154 = .ok (.iload_n 1, 1) := by decide +kernel
theorem dL_arePlayers_155 : decode cL_arePlayers 155 = .ok (.isub, 1) := by decide +kernel
theorem dL_arePlayers_156 : decode cL_arePlayers 156 = .ok (.if_icmp .ne 12, 3) := by decide +kernel
theorem dL_arePlayers_159 : decode cL_arePlayers 159 = .ok (.iload 9, 2) := by decide +kernel
theorem dL_arePlayers_161 : decode cL_arePlayers 161 = .ok (.ifCond .eq 7, 3) := by decide +kernel
theorem dL_arePlayers_164 : decode cL_arePlayers 164 = .ok (.iconst 1, 1) := by decide +kernel
theorem dL_arePlayers_165 : decode cL_arePlayers 165 = .ok (.goto 4, 3) := by decide +kernel
theorem dL_arePlayers_168 : decode cL_arePlayers 168 = .ok (.iconst 0, 1) := by decide +kernel
theorem dL_arePlayers_169 : decode cL_arePlayers 169 = .ok (.iadd, 1) := by decide +kernel
theorem dL_arePlayers_170 : decode cL_arePlayers 170 = .ok (.istore 6, 2) := by decide +kernel
theorem dL_arePlayers_172 : decode cL_arePlayers 172 = .ok (.iinc 7 1, 3) := by decide +kernel
theorem dL_arePlayers_175 : decode cL_arePlayers 175 = .ok (.goto (-152), 3) := by decide +kernel
theorem dL_arePlayers_178 : decode cL_arePlayers 178 = .ok (.aload_n 0, 1) := by decide +kernel
theorem dL_arePlayers_179 : decode cL_arePlayers 179 = .ok (.iload_n 1, 1) := by decide +kernel
theorem dL_arePlayers_180 : decode cL_arePlayers 180 = .ok (.iconst 1, 1) := by decide +kernel
theorem dL_arePlayers_181 : decode cL_arePlayers 181 = .ok (.invokevirtual 27, 3) := by decide +kernel
theorem dL_arePlayers_184 : decode cL_arePlayers 184 = .ok (.iload_n 2, 1) := by decide +kernel
theorem dL_arePlayers_185 : decode cL_arePlayers 185 = .ok (.if_icmp .ne 55, 3) := by decide +kernel
theorem dL_arePlayers_188 : decode cL_arePlayers 188 = .ok (.aload_n 0, 1) := by decide +kernel
theorem dL_arePlayers_189 : decode cL_arePlayers 189 = .ok (.iload_n 1, 1) := by decide +kernel
theorem dL_arePlayers_190 : decode cL_arePlayers 190 = .ok (.iconst 2, 1) := by decide +kernel
theorem dL_arePlayers_191 : decode cL_arePlayers 191 = .ok (.invokevirtual 27, 3) := by decide +kernel
theorem dL_arePlayers_194 : decode cL_arePlayers 194 = .ok (.iload_n 3, 1) := by decide +kernel
theorem dL_arePlayers_195 : decode cL_arePlayers 195 = .ok (.if_icmp .ne 45, 3) := by decide +kernel
theorem dL_arePlayers_198 : decode cL_arePlayers 198 = .ok (.aload_n 0, 1) := by decide +kernel
theorem dL_arePlayers_199 : decode cL_arePlayers 199 = .ok (.iload_n 1, 1) := by decide +kernel
theorem dL_arePlayers_200 : decode cL_arePlayers 200 = .ok (.iconst 3, 1) := by decide +kernel
theorem dL_arePlayers_201 : decode cL_arePlayers 201 = .ok (.invokevirtual 27, 3) := by decide +kernel
theorem dL_arePlayers_204 : decode cL_arePlayers 204 = .ok (.iload 4, 2) := by decide +kernel
theorem dL_arePlayers_206 : decode cL_arePlayers 206 = .ok (.if_icmp .ne 34, 3) := by decide +kernel
theorem dL_arePlayers_209 : decode cL_arePlayers 209 = .ok (.aload_n 0, 1) := by decide +kernel
theorem dL_arePlayers_210 : decode cL_arePlayers 210 = .ok (.iload_n 1, 1) := by decide +kernel
theorem dL_arePlayers_211 : decode cL_arePlayers 211 = .ok (.iconst 4, 1) := by decide +kernel
theorem dL_arePlayers_212 : decode cL_arePlayers 212 = .ok (.invokevirtual 27, 3) := by decide +kernel
theorem dL_arePlayers_215 : decode cL_arePlayers 215 = .ok (.iload 5, 2) := by decide +kernel
theorem dL_arePlayers_217 : decode cL_arePlayers 217 = .ok (.if_icmp .ne 23, 3) := by decide +kernel
theorem dL_arePlayers_220 : decode cL_arePlayers 220 = .ok (.aload_n 0, 1) := by decide +kernel
theorem dL_arePlayers_221 : decode cL_arePlayers 221 = .ok (.iload_n 1, 1) := by decide +kernel
theorem dL_arePlayers_222 : decode cL_arePlayers 222 = .ok (.iconst 5, 1) := by decide +kernel
theorem dL_arePlayers_223 : decode cL_arePlayers 223 = .ok (.invokevirtual 27, 3) := by decide +kernel
theorem dL_arePlayers_226 : decode cL_arePlayers 226 = .ok (.iload 6, 2) := by decide +kernel
theorem dL_arePlayers_228 : decode cL_arePlayers 228 = .ok (.if_icmp .gt 12, 3) := by decide +kernel
theorem dL_arePlayers_231 : decode cL_arePlayers 231 = .ok (.aload_n 0, 1) := by decide +kernel
theorem dL_arePlayers_232 : decode cL_arePlayers 232 = .ok (.iload_n 1, 1) := by decide +kernel
theorem dL_arePlayers_233 : decode cL_arePlayers 233 = .ok (.iconst 5, 1) := by decide +kernel
theorem dL_arePlayers_234 : decode cL_arePlayers 234 = .ok (.invokevirtual 27, 3) := by decide +kernel
theorem dL_arePlayers_237 : decode cL_arePlayers 237 = .ok (.ifCond .ge 5, 3) := by decide +kernel
theorem dL_arePlayers_240 : decode cL_arePlayers 240 = .ok (.iconst 0, 1) := by decide +kernel
theorem dL_arePlayers_241 : decode cL_arePlayers 241 = .ok (.ireturn, 1) := by decide +kernel
theorem dL_arePlayers_242 : decode cL_arePlayers 242 = .ok (.iinc 1 1, 3) := by decide +kernel
theorem dL_arePlayers_245 : decode cL_arePlayers 245 = .ok (.goto (-243), 3) := by decide +kernel
theorem dL_arePlayers_248 : decode cL_arePlayers 248 = .ok (.iconst 1, 1) := by decide +kernel
theorem dL_arePlayers_249 : decode cL_arePlayers 249 = .ok (.ireturn, 1) := by decide +kernel
set_option maxRecDepth 20000 in
theorem ggL_isTurn_X4_count : GoodIn wsL_isTurn wsX4_count := goodIn_ca (goodIn_r _ [5, 6, 7, 8, 9, 10, 11, 12, 13, 14, 15, 16, 17, 18, 19, 20, 21, 22, 23, 24, 25, 26, 27, 28, 29, 30, 31, 32, 33, 34, 35, 36, 37, 38, 39, 40, 41, 42, 43, 44, 45, 46, 47, 48, 165, 166, 167, 168, 169, 170, 171, 172, 173, 174, 175, 176, 177, 178, 179, 180] (by decide +kernel) (by decide +kernel)) (goodIn_sub (fun _ h => List.mem_cons_of_mem _ (List.mem_append_left _ (List.mem_append_right _ h))) (by decide +kernel))
set_option maxRecDepth 20000 in
theorem gL_isTurn_X4_count : GoodIn wsL_isTurn (wsV RL 8 RX4 yX4_count wsX4_count) := goodIn_app (goodIn_of _ (by decide +kernel)) ggL_isTurn_X4_count
set_option maxRecDepth 20000 in
theorem ggL_isTurn_X4_playerOf : GoodIn wsL_isTurn wsX4_playerOf := goodIn_ca (goodIn_ca (goodIn_r _ [52, 53, 54, 6, 7, 8, 55, 40, 41, 20, 42, 43, 56, 57, 58, 59, 26, 60, 61, 62, 63, 64, 22, 23, 24, 25, 27, 11, 12, 13, 28, 15, 16, 29, 30, 31, 32, 33, 34, 65, 66, 67, 68, 48, 69, 70, 71, 72, 73, 74, 75, 76, 165, 166, 167, 168, 169, 170, 171, 172, 173, 174, 175, 176, 177] (by decide +kernel) (by decide +kernel)) (goodIn_sub (fun _ h => List.mem_cons_of_mem _ (List.mem_append_right _ h)) (by decide +kernel))) (goodIn_sub (fun _ h => List.mem_cons_of_mem _ (List.mem_append_left _ (List.mem_append_right _ h))) (by decide +kernel))
set_option maxRecDepth 20000 in
theorem gL_isTurn_X4_playerOf : GoodIn wsL_isTurn (wsV RL 27 RX4 yX4_playerOf wsX4_playerOf) := goodIn_app (goodIn_of _ (by decide +kernel)) ggL_isTurn_X4_playerOf
set_option maxRecDepth 20000 in
theorem ggL_isTurn_X4_whyNot : GoodIn wsL_isTurn wsX4_whyNot := goodIn_ca (goodIn_r _ [80, 53, 54, 8, 81, 82, 4, 83, 84, 85, 86, 20, 87, 43, 88, 26, 64, 22, 23, 24, 25, 27, 11, 12, 13, 28, 15, 16, 29, 30, 31, 32, 33, 34, 165, 166, 167, 168, 169, 170, 171, 172, 173, 174, 175, 176, 177] (by decide +kernel) (by decide +kernel)) (goodIn_sub (fun _ h => List.mem_cons_of_mem _ (List.mem_append_right _ h)) (by decide +kernel))
set_option maxRecDepth 20000 in
theorem gL_isTurn_X4_whyNot : GoodIn wsL_isTurn (wsV RL 18 RX4 yX4_whyNot wsX4_whyNot) := goodIn_app (goodIn_of _ (by decide +kernel)) ggL_isTurn_X4_whyNot
set_option maxRecDepth 20000 in
theorem ggL_isTurn_X4_squareOf : GoodIn wsL_isTurn wsX4_squareOf := goodIn_ca (goodIn_ca (goodIn_r _ [92, 53, 54, 6, 7, 8, 81, 82, 4, 83, 93, 23, 24, 20, 25, 26, 27, 11, 12, 13, 28, 15, 16, 29, 30, 31, 32, 33, 34, 94, 95, 96, 97, 98, 99, 100, 101, 102, 74, 75, 76, 64, 43, 103, 104, 105, 106, 107, 108, 109, 110, 22, 165, 166, 167, 168, 169, 170, 171, 172, 173, 174, 175, 176, 177] (by decide +kernel) (by decide +kernel)) (goodIn_sub (fun _ h => List.mem_cons_of_mem _ (List.mem_append_right _ h)) (by decide +kernel))) (goodIn_sub (fun _ h => List.mem_cons_of_mem _ (List.mem_append_left _ (List.mem_append_right _ h))) (by decide +kernel))
set_option maxRecDepth 20000 in
theorem gL_isTurn_X4_squareOf : GoodIn wsL_isTurn (wsV RL 14 RX4 yX4_squareOf wsX4_squareOf) := goodIn_app (goodIn_of _ (by decide +kernel)) ggL_isTurn_X4_squareOf
set_option maxRecDepth 20000 in
theorem ggL_isTurn_X4_ifRaised : GoodIn wsL_isTurn wsX4_ifRaised := goodIn_ca (goodIn_r _ [114, 53, 54, 8, 81, 82, 4, 83, 115, 116, 117, 20, 118, 43, 26, 88, 119, 85, 86, 87, 64, 22, 23, 24, 25, 27, 11, 12, 13, 28, 15, 16, 29, 30, 31, 32, 33, 34, 120, 121, 122, 123, 124, 66, 67, 68, 48, 165, 166, 167, 168, 169, 170, 171, 172, 173, 174, 175, 176, 177] (by decide +kernel) (by decide +kernel)) (goodIn_sub (fun _ h => List.mem_cons_of_mem _ (List.mem_append_right _ h)) (by decide +kernel))
set_option maxRecDepth 20000 in
theorem gL_isTurn_X4_ifRaised : GoodIn wsL_isTurn (wsV RL 30 RX4 yX4_ifRaised wsX4_ifRaised) := goodIn_app (goodIn_of _ (by decide +kernel)) ggL_isTurn_X4_ifRaised
set_option maxRecDepth 20000 in
theorem ggL_isTurn_X4_rest : GoodIn wsL_isTurn wsX4_rest := goodIn_r _ [128, 9, 8, 129, 130, 131, 132, 133, 134, 135, 136, 137, 138, 139, 140, 141, 142, 143, 20, 144, 26, 145, 146, 147, 148, 43, 48, 149, 64, 88, 150, 151, 65, 66, 67, 68, 22, 23, 24, 25, 27, 11, 12, 13, 28, 15, 16, 29, 30, 31, 32, 33, 34, 152, 153, 154, 155, 124, 165, 166, 167, 168, 169, 170, 171, 172, 173, 174, 175, 176, 177, 178, 179, 180] (by decide +kernel) (by decide +kernel)
set_option maxRecDepth 20000 in
theorem gL_isTurn_X4_rest : GoodIn wsL_isTurn (wsV RL 33 RX4 yX4_rest wsX4_rest) := goodIn_app (goodIn_of _ (by decide +kernel)) ggL_isTurn_X4_rest
set_option maxRecDepth 20000 in
theorem ggL_isTurn_X4_raise : GoodIn wsL_isTurn wsX4_raise := goodIn_ca (goodIn_r _ [159, 53, 54, 9, 8, 81, 82, 4, 83, 129, 130, 131, 132, 133, 134, 135, 136, 137, 138, 139, 140, 141, 142, 143, 20, 144, 26, 145, 146, 147, 148, 43, 48, 149, 64, 88, 150, 151, 84, 85, 86, 87, 22, 23, 24, 25, 27, 11, 12, 13, 28, 15, 16, 29, 30, 31, 32, 33, 34, 160, 121, 122, 123, 152, 153, 154, 155, 124, 66, 67, 68, 165, 166, 167, 168, 169, 170, 171, 172, 173, 174, 175, 176, 177, 178, 179, 180] (by decide +kernel) (by decide +kernel)) (goodIn_sub (fun _ h => List.mem_cons_of_mem _ (List.mem_append_right _ h)) (by decide +kernel))
set_option maxRecDepth 20000 in
theorem gL_isTurn_X4_raise : GoodIn wsL_isTurn (wsV RL 37 RX4 yX4_raise wsX4_raise) := goodIn_app (goodIn_of _ (by decide +kernel)) ggL_isTurn_X4_raise
set_option maxRecDepth 20000 in
theorem ggL_isTurn_X4_hour : GoodIn wsL_isTurn wsX4_hour := goodIn_ca (goodIn_r _ [164, 6, 7, 9, 8, 129, 130, 131, 132, 133, 134, 135, 136, 137, 138, 139, 140, 141, 142, 143, 20, 144, 26, 145, 146, 147, 148, 43, 48, 149, 64, 88, 150, 151, 165, 166, 167, 168, 169, 170, 171, 172, 173, 174, 175, 176, 177, 178, 179, 180] (by decide +kernel) (by decide +kernel)) (goodIn_sub (fun _ h => List.mem_cons_of_mem _ (List.mem_append_left _ (List.mem_append_right _ h))) (by decide +kernel))
set_option maxRecDepth 20000 in
theorem gL_isTurn_X4_hour : GoodIn wsL_isTurn (wsV RL 40 RX4 yX4_hour wsX4_hour) := goodIn_app (goodIn_of _ (by decide +kernel)) ggL_isTurn_X4_hour
theorem dL_isTurn_0 : decode cL_isTurn 0 = .ok (.aload_n 0, 1) := by decide +kernel
theorem dL_isTurn_1 : decode cL_isTurn 1 = .ok (.iconst 3, 1) := by decide +kernel
theorem dL_isTurn_2 : decode cL_isTurn 2 = .ok (.invokevirtual 8, 3) := by decide +kernel
theorem dL_isTurn_5 : decode cL_isTurn 5 = .ok (.istore_n 3, 1) := by decide +kernel
theorem dL_isTurn_6 : decode cL_isTurn 6 = .ok (.aload_n 0, 1) := by decide +kernel
theorem dL_isTurn_7 : decode cL_isTurn 7 = .ok (.iconst 0, 1) := by decide +kernel
theorem dL_isTurn_8 : decode cL_isTurn 8 = .ok (.invokevirtual 8, 3) := by decide +kernel
theorem dL_isTurn_11 : decode cL_isTurn 11 = .ok (.istore 4, 2) := by decide +kernel
theorem dL_isTurn_13 : decode cL_isTurn 13 = .ok (.aload_n 0, 1) := by decide +kernel
theorem dL_isTurn_14 : decode cL_isTurn 14 = .ok (.iconst 4, 1) := by decide +kernel
theorem dL_isTurn_15 : decode cL_isTurn 15 = .ok (.invokevirtual 8, 3) := by decide +kernel
theorem dL_isTurn_18 : decode cL_isTurn 18 = .ok (.istore 5, 2) := by decide +kernel
theorem dL_isTurn_20 : decode cL_isTurn 20 = .ok (.aload_n 0, 1) := by decide +kernel
theorem dL_isTurn_21 : decode cL_isTurn 21 = .ok (.bipush 8, 2) := by decide +kernel
theorem dL_isTurn_23 : decode cL_isTurn 23 = .ok (.invokevirtual 8, 3) := by decide +kernel
theorem dL_isTurn_26 : decode cL_isTurn 26 = .ok (.istore 6, 2) := by decide +kernel
theorem dL_isTurn_28 : decode cL_isTurn 28 = .ok (.aload_n 0, 1) := by decide +kernel
theorem dL_isTurn_29 : decode cL_isTurn 29 = .ok (.iconst 0, 1) := by decide +kernel
theorem dL_isTurn_30 : decode cL_isTurn 30 = .ok (.iconst 0, 1) := by decide +kernel
theorem dL_isTurn_31 : decode cL_isTurn 31 = .ok (.invokevirtual 27, 3) := by decide +kernel
theorem dL_isTurn_34 : decode cL_isTurn 34 = .ok (.istore 7, 2) := by decide +kernel
theorem dL_isTurn_36 : decode cL_isTurn 36 = .ok (.aload_n 0, 1) := by decide +kernel
theorem dL_isTurn_37 : decode cL_isTurn 37 = .ok (.iconst 1, 1) := by decide +kernel
theorem dL_isTurn_38 : decode cL_isTurn 38 = .ok (.iconst 0, 1) := by decide +kernel
theorem dL_isTurn_39 : decode cL_isTurn 39 = .ok (.invokevirtual 27, 3) := by decide +kernel
theorem dL_isTurn_42 : decode cL_isTurn 42 = .ok (.istore 8, 2) := by decide +kernel
theorem dL_isTurn_44 : decode cL_isTurn 44 = .ok (.aload_n 0, 1) := by decide +kernel
theorem dL_isTurn_45 : decode cL_isTurn 45 = .ok (.iload_n 1, 1) := by decide +kernel
theorem dL_isTurn_46 : decode cL_isTurn 46 = .ok (.invokevirtual 18, 3) := by decide +kernel
theorem dL_isTurn_49 : decode cL_isTurn 49 = .ok (.istore 9, 2) := by decide +kernel
theorem dL_isTurn_51 : decode cL_isTurn 51 = .ok (.aload_n 0, 1) := by decide +kernel
theorem dL_isTurn_52 : decode cL_isTurn 52 = .ok (.iload_n 1, 1) := by decide +kernel
theorem dL_isTurn_53 : decode cL_isTurn 53 = .ok (.iconst 0, 1) := by decide +kernel
theorem dL_isTurn_54 : decode cL_isTurn 54 = .ok (.invokevirtual 14, 3) := by decide +kernel
theorem dL_isTurn_57 : decode cL_isTurn 57 = .ok (.istore 10, 2) := by decide +kernel
theorem dL_isTurn_59 : decode cL_isTurn 59 = .ok (.aload_n 0, 1) := by decide +kernel
theorem dL_isTurn_60 : decode cL_isTurn 60 = .ok (.iload_n 1, 1) := by decide +kernel
theorem dL_isTurn_61 : decode cL_isTurn 61 = .ok (.invokevirtual 30, 3) := by decide +kernel
theorem dL_isTurn_64 : decode cL_isTurn 64 = .ok (.istore 11, 2) := by decide +kernel
theorem dL_isTurn_66 : decode cL_isTurn 66 = .ok (.aload_n 0, 1) := by decide +kernel
theorem dL_isTurn_67 : decode cL_isTurn 67 = .ok (.iload_n 3, 1) := by decide +kernel
theorem dL_isTurn_68 : decode cL_isTurn 68 = .ok (.iconst 4, 1) := by decide +kernel
theorem dL_isTurn_69 : decode cL_isTurn 69 = .ok (.invokevirtual 27, 3) := by decide +kernel
theorem dL_isTurn_72 : decode cL_isTurn 72 = .ok (.istore 12, 2) := by decide +kernel
theorem dL_isTurn_74 : decode cL_isTurn 74 = .ok (.aload_n 0, 1) := by decide +kernel
theorem dL_isTurn_75 : decode cL_isTurn 75 = .ok (.iconst 1, 1) := by decide +kernel
theorem dL_isTurn_76 : decode cL_isTurn 76 = .ok (.iload_n 3, 1) := by decide +kernel
theorem dL_isTurn_77 : decode cL_isTurn 77 = .ok (.isub, 1) := by decide +kernel
theorem dL_isTurn_78 : decode cL_isTurn 78 = .ok (.iconst 4, 1) := by decide +kernel
theorem dL_isTurn_79 : decode cL_isTurn 79 = .ok (.invokevirtual 27, 3) := by decide +kernel
theorem dL_isTurn_82 : decode cL_isTurn 82 = .ok (.istore 13, 2) := by decide +kernel
theorem dL_isTurn_84 : decode cL_isTurn 84 = .ok (.iload_n 2, 1) := by decide +kernel
theorem dL_isTurn_85 : decode cL_isTurn 85 = .ok (.ifCond .eq 115, 3) := by decide +kernel
theorem dL_isTurn_88 : decode cL_isTurn 88 = .ok (.aload_n 0, 1) := by decide +kernel
theorem dL_isTurn_89 : decode cL_isTurn 89 = .ok (.invokevirtual 33, 3) := by decide +kernel
theorem dL_isTurn_92 : decode cL_isTurn 92 = .ok (.iload 12, 2) := by decide +kernel
theorem dL_isTurn_94 : decode cL_isTurn 94 = .ok (.if_icmp .ne 104, 3) := by decide +kernel
theorem dL_isTurn_97 : decode cL_isTurn 97 = .ok (.aload_n 0, 1) := by decide +kernel
theorem dL_isTurn_98 : decode cL_isTurn 98 = .ok (.iload_n 3, 1) := by decide +kernel
theorem dL_isTurn_99 : decode cL_isTurn 99 = .ok (.iconst 0, 1) := by decide +kernel
theorem dL_isTurn_100 : decode cL_isTurn 100 = .ok (.invokevirtual 27, 3) := by decide +kernel
theorem dL_isTurn_103 : decode cL_isTurn 103 = .ok (.iload_n 3, 1) := by decide +kernel
theorem dL_isTurn_104 : decode cL_isTurn 104 = .ok (.ifCond .ne 8, 3) := by decide +kernel
theorem dL_isTurn_107 : decode cL_isTurn 107 = .ok (.iload 7, 2) := by decide +kernel
theorem dL_isTurn_109 : decode cL_isTurn 109 = .ok (.goto 5, 3) := by decide +kernel
theorem dL_isTurn_112 : decode cL_isTurn 112 = .ok (.iload 8, 2) := by decide +kernel
theorem dL_isTurn_114 : decode cL_isTurn 114 = .ok (.iload 12, 2) := by decide +kernel
theorem dL_isTurn_116 : decode cL_isTurn 116 = .ok (.iadd, 1) := by decide +kernel
theorem dL_isTurn_117 : decode cL_isTurn 117 = .ok (.if_icmp .ne 81, 3) := by decide +kernel
theorem dL_isTurn_120 : decode cL_isTurn 120 = .ok (.aload_n 0, 1) := by decide +kernel
theorem dL_isTurn_121 : decode cL_isTurn 121 = .ok (.iconst 1, 1) := by decide +kernel
theorem dL_isTurn_122 : decode cL_isTurn 122 = .ok (.iload_n 3, 1) := by decide +kernel
theorem dL_isTurn_123 : decode cL_isTurn 123 = .ok (.isub, 1) := by decide +kernel
theorem dL_isTurn_124 : decode cL_isTurn 124 = .ok (.iconst 0, 1) := by decide +kernel
theorem dL_isTurn_125 : decode cL_isTurn 125 = .ok (.invokevirtual 27, 3) := by decide +kernel
theorem dL_isTurn_128 : decode cL_isTurn 128 = .ok (.iload_n 3, 1) := by decide +kernel
theorem dL_isTurn_129 : decode cL_isTurn 129 = .ok (.ifCond .ne 8, 3) := by decide +kernel
theorem dL_isTurn_132 : decode cL_isTurn 132 = .ok (.iload 8, 2) := by decide +kernel
theorem dL_isTurn_134 : decode cL_isTurn 134 = .ok (.goto 5, 3) := by decide +kernel
theorem dL_isTurn_137 : decode cL_isTurn 137 = .ok (.iload 7, 2) := by decide +kernel
theorem dL_isTurn_139 : decode cL_isTurn 139 = .ok (.iload 13, 2) := by decide +kernel
theorem dL_isTurn_141 : decode cL_isTurn 141 = .ok (.iadd, 1) := by decide +kernel
theorem dL_isTurn_142 : decode cL_isTurn 142 = .ok (.if_icmp .ne 56, 3) := by decide +kernel
theorem dL_isTurn_145 : decode cL_isTurn 145 = .ok (.aload_n 0, 1) := by decide +kernel
theorem dL_isTurn_146 : decode cL_isTurn 146 = .ok (.iconst 0, 1) := by decide +kernel
theorem dL_isTurn_147 : decode cL_isTurn 147 = .ok (.invokevirtual 8, 3) := by decide +kernel
theorem dL_isTurn_150 : decode cL_isTurn 150 = .ok (.iload 4, 2) := by decide +kernel
theorem dL_isTurn_152 : decode cL_isTurn 152 = .ok (.iconst 1, 1) := by decide +kernel
theorem dL_isTurn_153 : decode cL_isTurn 153 = .ok (.iadd, 1) := by decide +kernel
theorem dL_isTurn_154 : decode cL_isTurn 154 = .ok (.bipush 12, 2) := by decide +kernel
theorem dL_isTurn_156 : decode cL_isTurn 156 = .ok (.irem, 1) := by decide +kernel
theorem dL_isTurn_157 : decode cL_isTurn 157 = .ok (.if_icmp .ne 41, 3) := by decide +kernel
theorem dL_isTurn_160 : decode cL_isTurn 160 = .ok (.aload_n 0, 1) := by decide +kernel
theorem dL_isTurn_161 : decode cL_isTurn 161 = .ok (.iconst 3, 1) := by decide +kernel
theorem dL_isTurn_162 : decode cL_isTurn 162 = .ok (.invokevirtual 8, 3) := by decide +kernel
theorem dL_isTurn_165 : decode cL_isTurn 165 = .ok (.iconst 1, 1) := by decide +kernel
theorem dL_isTurn_166 : decode cL_isTurn 166 = .ok (.iload_n 3, 1) := by decide +kernel
theorem dL_isTurn_167 : decode cL_isTurn 167 = .ok (.isub, 1) := by decide +kernel
theorem dL_isTurn_168 : decode cL_isTurn 168 = .ok (.if_icmp .ne 30, 3) := by decide +kernel
theorem dL_isTurn_171 : decode cL_isTurn 171 = .ok (.aload_n 0, 1) := by decide +kernel
theorem dL_isTurn_172 : decode cL_isTurn 172 = .ok (.iconst 4, 1) := by decide +kernel
theorem dL_isTurn_173 : decode cL_isTurn 173 = .ok (.invokevirtual 8, 3) := by decide +kernel
theorem dL_isTurn_176 : decode cL_isTurn 176 = .ok (.iload 5, 2) := by decide +kernel
theorem dL_isTurn_178 : decode cL_isTurn 178 = .ok (.iconst 1, 1) := by decide +kernel
theorem dL_isTurn_179 : decode cL_isTurn 179 = .ok (.iadd, 1) := by decide +kernel
theorem dL_isTurn_180 : decode cL_isTurn 180 = .ok (.if_icmp .ne 18, 3) := by decide +kernel
theorem dL_isTurn_183 : decode cL_isTurn 183 = .ok (.aload_n 0, 1) := by decide +kernel
theorem dL_isTurn_184 : decode cL_isTurn 184 = .ok (.bipush 8, 2) := by decide +kernel
theorem dL_isTurn_186 : decode cL_isTurn 186 = .ok (.invokevirtual 8, 3) := by decide +kernel
theorem dL_isTurn_189 : decode cL_isTurn 189 = .ok (.iload 6, 2) := by decide +kernel
theorem dL_isTurn_191 : decode cL_isTurn 191 = .ok (.if_icmp .ne 7, 3) := by decide +kernel
theorem dL_isTurn_194 : decode cL_isTurn 194 = .ok (.iconst 1, 1) := by decide +kernel
theorem dL_isTurn_195 : decode cL_isTurn 195 = .ok (.goto 4, 3) := by decide +kernel
theorem dL_isTurn_198 : decode cL_isTurn 198 = .ok (.iconst 0, 1) := by decide +kernel
theorem dL_isTurn_199 : decode cL_isTurn 199 = .ok (.ireturn, 1) := by decide +kernel
theorem dL_isTurn_200 : decode cL_isTurn 200 = .ok (.aload_n 0, 1) := by decide +kernel
theorem dL_isTurn_201 : decode cL_isTurn 201 = .ok (.iload_n 1, 1) := by decide +kernel
theorem dL_isTurn_202 : decode cL_isTurn 202 = .ok (.invokevirtual 37, 3) := by decide +kernel
theorem dL_isTurn_205 : decode cL_isTurn 205 = .ok (.istore 14, 2) := by decide +kernel
theorem dL_isTurn_207 : decode cL_isTurn 207 = .ok (.iload 9, 2) := by decide +kernel
theorem dL_isTurn_209 : decode cL_isTurn 209 = .ok (.ifCond .le 88, 3) := by decide +kernel
theorem dL_isTurn_212 : decode cL_isTurn 212 = .ok (.iload 14, 2) := by decide +kernel
theorem dL_isTurn_214 : decode cL_isTurn 214 = .ok (.iload 9, 2) := by decide +kernel
theorem dL_isTurn_216 : decode cL_isTurn 216 = .ok (.if_icmp .ne 79, 3) := by decide +kernel
theorem dL_isTurn_219 : decode cL_isTurn 219 = .ok (.iload 11, 2) := by decide +kernel
theorem dL_isTurn_221 : decode cL_isTurn 221 = .ok (.sipush (-999), 3) := by decide +kernel
theorem dL_isTurn_224 : decode cL_isTurn 224 = .ok (.if_icmp .ne 71, 3) := by decide +kernel
theorem dL_isTurn_227 : decode cL_isTurn 227 = .ok (.aload_n 0, 1) := by decide +kernel
theorem dL_isTurn_228 : decode cL_isTurn 228 = .ok (.bipush 8, 2) := by decide +kernel
theorem dL_isTurn_230 : decode cL_isTurn 230 = .ok (.invokevirtual 8, 3) := by decide +kernel
theorem dL_isTurn_233 : decode cL_isTurn 233 = .ok (.iload 6, 2) := by decide +kernel
theorem dL_isTurn_235 : decode cL_isTurn 235 = .ok (.iconst 1, 1) := by decide +kernel
theorem dL_isTurn_236 : decode cL_isTurn 236 = .ok (.iadd, 1) := by decide +kernel
theorem dL_isTurn_237 : decode cL_isTurn 237 = .ok (.if_icmp .ne 58, 3) := by decide +kernel
theorem dL_isTurn_240 : decode cL_isTurn 240 = .ok (.aload_n 0, 1) := by decide +kernel
theorem dL_isTurn_241 : decode cL_isTurn 241 = .ok (.iconst 4, 1) := by decide +kernel
theorem dL_isTurn_242 : decode cL_isTurn 242 = .ok (.invokevirtual 8, 3) := by decide +kernel
theorem dL_isTurn_245 : decode cL_isTurn 245 = .ok (.iload 5, 2) := by decide +kernel
theorem dL_isTurn_247 : decode cL_isTurn 247 = .ok (.if_icmp .ne 48, 3) := by decide +kernel
theorem dL_isTurn_250 : decode cL_isTurn 250 = .ok (.aload_n 0, 1) := by decide +kernel
theorem dL_isTurn_251 : decode cL_isTurn 251 = .ok (.iconst 0, 1) := by decide +kernel
theorem dL_isTurn_252 : decode cL_isTurn 252 = .ok (.invokevirtual 8, 3) := by decide +kernel
theorem dL_isTurn_255 : decode cL_isTurn 255 = .ok (.iload 4, 2) := by decide +kernel
theorem dL_isTurn_257 : decode cL_isTurn 257 = .ok (.if_icmp .ne 38, 3) := by decide +kernel
theorem dL_isTurn_260 : decode cL_isTurn 260 = .ok (.aload_n 0, 1) := by decide +kernel
theorem dL_isTurn_261 : decode cL_isTurn 261 = .ok (.iconst 3, 1) := by decide +kernel
theorem dL_isTurn_262 : decode cL_isTurn 262 = .ok (.invokevirtual 8, 3) := by decide +kernel
theorem dL_isTurn_265 : decode cL_isTurn 265 = .ok (.iload_n 3, 1) := by decide +kernel
theorem dL_isTurn_266 : decode cL_isTurn 266 = .ok (.if_icmp .ne 29, 3) := by decide +kernel
theorem dL_isTurn_269 : decode cL_isTurn 269 = .ok (.aload_n 0, 1) := by decide +kernel
theorem dL_isTurn_270 : decode cL_isTurn 270 = .ok (.iconst 0, 1) := by decide +kernel
theorem dL_isTurn_271 : decode cL_isTurn 271 = .ok (.iconst 0, 1) := by decide +kernel
theorem dL_isTurn_272 : decode cL_isTurn 272 = .ok (.invokevirtual 27, 3) := by decide +kernel
theorem dL_isTurn_275 : decode cL_isTurn 275 = .ok (.iload 7, 2) := by decide +kernel
theorem dL_isTurn_277 : decode cL_isTurn 277 = .ok (.if_icmp .ne 18, 3) := by decide +kernel
theorem dL_isTurn_280 : decode cL_isTurn 280 = .ok (.aload_n 0, 1) := by decide +kernel
theorem dL_isTurn_281 : decode cL_isTurn 281 = .ok (.iconst 1, 1) := by decide +kernel
theorem dL_isTurn_282 : decode cL_isTurn 282 = .ok (.iconst 0, 1) := by decide +kernel
theorem dL_isTurn_283 : decode cL_isTurn 283 = .ok (.invokevirtual 27, 3) := by decide +kernel
theorem dL_isTurn_286 : decode cL_isTurn 286 = .ok (.iload 8, 2) := by decide +kernel
theorem dL_isTurn_288 : decode cL_isTurn 288 = .ok (.if_icmp .ne 7, 3) := by decide +kernel
theorem dL_isTurn_291 : decode cL_isTurn 291 = .ok (.iconst 1, 1) := by decide +kernel
theorem dL_isTurn_292 : decode cL_isTurn 292 = .ok (.goto 4, 3) := by decide +kernel
theorem dL_isTurn_295 : decode cL_isTurn 295 = .ok (.iconst 0, 1) := by decide +kernel
theorem dL_isTurn_296 : decode cL_isTurn 296 = .ok (.ireturn, 1) := by decide +kernel
theorem dL_isTurn_297 : decode cL_isTurn 297 = .ok (.aload_n 0, 1) := by decide +kernel
theorem dL_isTurn_298 : decode cL_isTurn 298 = .ok (.iload_n 3, 1) := by decide +kernel
theorem dL_isTurn_299 : decode cL_isTurn 299 = .ok (.iconst 0, 1) := by decide +kernel
theorem dL_isTurn_300 : decode cL_isTurn 300 = .ok (.invokevirtual 27, 3) := by decide +kernel
theorem dL_isTurn_303 : decode cL_isTurn 303 = .ok (.iload_n 3, 1) := by decide +kernel
theorem dL_isTurn_304 : decode cL_isTurn 304 = .ok (.ifCond .ne 8, 3) := by decide +kernel
theorem dL_isTurn_307 : decode cL_isTurn 307 = .ok (.iload 7, 2) := by decide +kernel
theorem dL_isTurn_309 : decode cL_isTurn 309 = .ok (.goto 5, 3) := by decide +kernel
theorem dL_isTurn_312 : decode cL_isTurn 312 = .ok (.iload 8, 2) := by decide +kernel
theorem dL_isTurn_314 : decode cL_isTurn 314 = .ok (.isub, 1) := by decide +kernel
theorem dL_isTurn_315 : decode cL_isTurn 315 = .ok (.istore 15, 2) := by decide +kernel
theorem dL_isTurn_317 : decode cL_isTurn 317 = .ok (.aload_n 0, 1) := by decide +kernel
theorem dL_isTurn_318 : decode cL_isTurn 318 = .ok (.iconst 1, 1) := by decide +kernel
theorem dL_isTurn_319 : decode cL_isTurn 319 = .ok (.iload_n 3, 1) := by decide +kernel
theorem dL_isTurn_320 : decode cL_isTurn 320 = .ok (.isub, 1) := by decide +kernel
theorem dL_isTurn_321 : decode cL_isTurn 321 = .ok (.iconst 0, 1) := by decide +kernel
theorem dL_isTurn_322 : decode cL_isTurn 322 = .ok (.invokevirtual 27, 3) := by decide +kernel
theorem dL_isTurn_325 : decode cL_isTurn 325 = .ok (.iload_n 3, 1) := by decide +kernel
theorem dL_isTurn_326 : decode cL_isTurn 326 = .ok (.ifCond .ne 8, 3) := by decide +kernel
theorem dL_isTurn_329 : decode cL_isTurn 329 = .ok (.iload 8, 2) := by decide +kernel
theorem dL_isTurn_331 : decode cL_isTurn 331 = .ok (.goto 5, 3) := by decide +kernel
theorem dL_isTurn_334 : decode cL_isTurn 334 = .ok (.iload 7, 2) := by decide +kernel
theorem dL_isTurn_336 : decode cL_isTurn 336 = .ok (.isub, 1) := by decide +kernel
theorem dL_isTurn_337 : decode cL_isTurn 337 = .ok (.istore 16, 2) := by decide +kernel
theorem dL_isTurn_339 : decode cL_isTurn 339 = .ok (.aload_n 0, 1) := by decide +kernel
theorem dL_isTurn_340 : decode cL_isTurn 340 = .ok (.aload_n 0, 1) := by decide +kernel
theorem dL_isTurn_341 : decode cL_isTurn 341 = .ok (.iconst 0, 1) := by decide +kernel
theorem dL_isTurn_342 : decode cL_isTurn 342 = .ok (.invokevirtual 8, 3) := by decide +kernel
theorem dL_isTurn_345 : decode cL_isTurn 345 = .ok (.bipush 11, 2) := by decide +kernel
theorem dL_isTurn_347 : decode cL_isTurn 347 = .ok (.iadd, 1) := by decide +kernel
theorem dL_isTurn_348 : decode cL_isTurn 348 = .ok (.bipush 12, 2) := by decide +kernel
theorem dL_isTurn_350 : decode cL_isTurn 350 = .ok (.irem, 1) := by decide +kernel
theorem dL_isTurn_351 : decode cL_isTurn 351 = .ok (.invokevirtual 40, 3) := by decide +kernel
theorem dL_isTurn_354 : decode cL_isTurn 354 = .ok (.istore 17, 2) := by decide +kernel
theorem dL_isTurn_356 : decode cL_isTurn 356 = .ok (.aload_n 0, 1) := by decide +kernel
theorem dL_isTurn_357 : decode cL_isTurn 357 = .ok (.iload_n 3, 1) := by decide +kernel
theorem dL_isTurn_358 : decode cL_isTurn 358 = .ok (.iconst 4, 1) := by decide +kernel
theorem dL_isTurn_359 : decode cL_isTurn 359 = .ok (.invokevirtual 27, 3) := by decide +kernel
theorem dL_isTurn_362 : decode cL_isTurn 362 = .ok (.iload 15, 2) := by decide +kernel
theorem dL_isTurn_364 : decode cL_isTurn 364 = .ok (.if_icmp .ne 43, 3) := by decide +kernel
theorem dL_isTurn_367 : decode cL_isTurn 367 = .ok (.aload_n 0, 1) := by decide +kernel
theorem dL_isTurn_368 : decode cL_isTurn 368 = .ok (.iconst 1, 1) := by decide +kernel
theorem dL_isTurn_369 : decode cL_isTurn 369 = .ok (.iload_n 3, 1) := by decide +kernel
theorem dL_isTurn_370 : decode cL_isTurn 370 = .ok (.isub, 1) := by decide +kernel
theorem dL_isTurn_371 : decode cL_isTurn 371 = .ok (.iconst 4, 1) := by decide +kernel
theorem dL_isTurn_372 : decode cL_isTurn 372 = .ok (.invokevirtual 27, 3) := by decide +kernel
theorem dL_isTurn_375 : decode cL_isTurn 375 = .ok (.iload 16, 2) := by decide +kernel
theorem dL_isTurn_377 : decode cL_isTurn 377 = .ok (.if_icmp .ne 30, 3) := by decide +kernel
theorem dL_isTurn_380 : decode cL_isTurn 380 = .ok (.iload 17, 2) := by decide +kernel
theorem dL_isTurn_382 : decode cL_isTurn 382 = .ok (.iload 4, 2) := by decide +kernel
theorem dL_isTurn_384 : decode cL_isTurn 384 = .ok (.iconst 1, 1) := by decide +kernel
theorem dL_isTurn_385 : decode cL_isTurn 385 = .ok (.iadd, 1) := by decide +kernel
theorem dL_isTurn_386 : decode cL_isTurn 386 = .ok (.bipush 12, 2) := by decide +kernel
theorem dL_isTurn_388 : decode cL_isTurn 388 = .ok (.irem, 1) := by decide +kernel
theorem dL_isTurn_389 : decode cL_isTurn 389 = .ok (.if_icmp .ne 18, 3) := by decide +kernel
theorem dL_isTurn_392 : decode cL_isTurn 392 = .ok (.aload_n 0, 1) := by decide +kernel
theorem dL_isTurn_393 : decode cL_isTurn 393 = .ok (.iload 17, 2) := by decide +kernel
theorem dL_isTurn_395 : decode cL_isTurn 395 = .ok (.invokevirtual 40, 3) := by decide +kernel
theorem dL_isTurn_398 : decode cL_isTurn 398 = .ok (.iload 4, 2) := by decide +kernel
theorem dL_isTurn_400 : decode cL_isTurn 400 = .ok (.if_icmp .ne 7, 3) := by decide +kernel
theorem dL_isTurn_403 : decode cL_isTurn 403 = .ok (.iconst 1, 1) := by decide +kernel
theorem dL_isTurn_404 : decode cL_isTurn 404 = .ok (.goto 4, 3) := by decide +kernel
theorem dL_isTurn_407 : decode cL_isTurn 407 = .ok (.iconst 0, 1) := by decide +kernel
theorem dL_isTurn_408 : decode cL_isTurn 408 = .ok (.istore 18, 2) := by decide +kernel
theorem dL_isTurn_410 : decode cL_isTurn 410 = .ok (.iload 18, 2) := by decide +kernel
theorem dL_isTurn_412 : decode cL_isTurn 412 = .ok (.ifCond .eq 83, 3) := by decide +kernel
theorem dL_isTurn_415 : decode cL_isTurn 415 = .ok (.iload 14, 2) := by decide +kernel
theorem dL_isTurn_417 : decode cL_isTurn 417 = .ok (.bipush 11, 2) := by decide +kernel
theorem dL_isTurn_419 : decode cL_isTurn 419 = .ok (.iload 10, 2) := by decide +kernel
theorem dL_isTurn_421 : decode cL_isTurn 421 = .ok (.iadd, 1) := by decide +kernel
theorem dL_isTurn_422 : decode cL_isTurn 422 = .ok (.if_icmp .ne 73, 3) := by decide +kernel
theorem dL_isTurn_425 : decode cL_isTurn 425 = .ok (.aload_n 0, 1) := by decide +kernel
theorem dL_isTurn_426 : decode cL_isTurn 426 = .ok (.iload_n 1, 1) := by decide +kernel
theorem dL_isTurn_427 : decode cL_isTurn 427 = .ok (.iconst 0, 1) := by decide +kernel
theorem dL_isTurn_428 : decode cL_isTurn 428 = .ok (.invokevirtual 14, 3) := by decide +kernel
theorem dL_isTurn_431 : decode cL_isTurn 431 = .ok (.iload 10, 2) := by decide +kernel
theorem dL_isTurn_433 : decode cL_isTurn 433 = .ok (.iconst 1, 1) := by decide +kernel
theorem dL_isTurn_434 : decode cL_isTurn 434 = .ok (.iadd, 1) := by decide +kernel
theorem dL_isTurn_435 : decode cL_isTurn 435 = .ok (.if_icmp .ne 60, 3) := by decide +kernel
theorem dL_isTurn_438 : decode cL_isTurn 438 = .ok (.aload_n 0, 1) := by decide +kernel
theorem dL_isTurn_439 : decode cL_isTurn 439 = .ok (.iload_n 1, 1) := by decide +kernel
theorem dL_isTurn_440 : decode cL_isTurn 440 = .ok (.iconst 1, 1) := by decide +kernel
theorem dL_isTurn_441 : decode cL_isTurn 441 = .ok (.invokevirtual 14, 3) := by decide +kernel
theorem dL_isTurn_444 : decode cL_isTurn 444 = .ok (.iload_n 3, 1) := by decide +kernel
theorem dL_isTurn_445 : decode cL_isTurn 445 = .ok (.if_icmp .ne 50, 3) := by decide +kernel
theorem dL_isTurn_448 : decode cL_isTurn 448 = .ok (.iload 15, 2) := by decide +kernel
theorem dL_isTurn_450 : decode cL_isTurn 450 = .ok (.iload 16, 2) := by decide +kernel
theorem dL_isTurn_452 : decode cL_isTurn 452 = .ok (.isub, 1) := by decide +kernel
theorem dL_isTurn_453 : decode cL_isTurn 453 = .ok (.iload 11, 2) := by decide +kernel
theorem dL_isTurn_455 : decode cL_isTurn 455 = .ok (.if_icmp .ne 40, 3) := by decide +kernel
theorem dL_isTurn_458 : decode cL_isTurn 458 = .ok (.aload_n 0, 1) := by decide +kernel
theorem dL_isTurn_459 : decode cL_isTurn 459 = .ok (.iconst 4, 1) := by decide +kernel
theorem dL_isTurn_460 : decode cL_isTurn 460 = .ok (.invokevirtual 8, 3) := by decide +kernel
theorem dL_isTurn_463 : decode cL_isTurn 463 = .ok (.iload 5, 2) := by decide +kernel
theorem dL_isTurn_465 : decode cL_isTurn 465 = .ok (.iconst 1, 1) := by decide +kernel
theorem dL_isTurn_466 : decode cL_isTurn 466 = .ok (.iadd, 1) := by decide +kernel
theorem dL_isTurn_467 : decode cL_isTurn 467 = .ok (.if_icmp .ne 28, 3) := by decide +kernel
theorem dL_isTurn_470 : decode cL_isTurn 470 = .ok (.aload_n 0, 1) := by decide +kernel
theorem dL_isTurn_471 : decode cL_isTurn 471 = .ok (.iconst 3, 1) := by decide +kernel
theorem dL_isTurn_472 : decode cL_isTurn 472 = .ok (.invokevirtual 8, 3) := by decide +kernel
theorem dL_isTurn_475 : decode cL_isTurn 475 = .ok (.iconst 1, 1) := by decide +kernel
theorem dL_isTurn_476 : decode cL_isTurn 476 = .ok (.iload_n 3, 1) := by decide +kernel
theorem dL_isTurn_477 : decode cL_isTurn 477 = .ok (.isub, 1) := by decide +kernel
theorem dL_isTurn_478 : decode cL_isTurn 478 = .ok (.if_icmp .ne 17, 3) := by decide +kernel
theorem dL_isTurn_481 : decode cL_isTurn 481 = .ok (.aload_n 0, 1) := by decide +kernel
theorem dL_isTurn_482 : decode cL_isTurn 482 = .ok (.iconst 0, 1) := by decide +kernel
theorem dL_isTurn_483 : decode cL_isTurn 483 = .ok (.invokevirtual 8, 3) := by decide +kernel
theorem dL_isTurn_486 : decode cL_isTurn 486 = .ok (.iload 17, 2) := by decide +kernel
theorem dL_isTurn_488 : decode cL_isTurn 488 = .ok (.if_icmp .ne 7, 3) := by decide +kernel
theorem dL_isTurn_491 : decode cL_isTurn 491 = .ok (.iconst 1, 1) := by decide +kernel
theorem dL_isTurn_492 : decode cL_isTurn 492 = .ok (.goto 4, 3) := by decide +kernel
theorem dL_isTurn_495 : decode cL_isTurn 495 = .ok (.iconst 0, 1) := by decide +kernel
theorem dL_isTurn_496 : decode cL_isTurn 496 = .ok (.ireturn, 1) := by decide +kernel
set_option maxRecDepth 20000 in
theorem ggL_isBest_X4_bestSquare : GoodIn wsL_isBest wsX4_bestSquare := goodIn_r _ [5, 6, 7, 8, 9, 10, 11, 12, 13, 14, 15, 16, 17, 18, 19, 20, 21, 22, 23, 24, 25, 26, 27, 28, 29, 30, 31, 32, 33, 34, 35, 36, 37, 38, 39, 40, 41, 42, 43, 44, 45, 141, 142, 143, 144, 145, 146, 147, 148, 149, 150, 151, 152, 153] (by decide +kernel) (by decide +kernel)
set_option maxRecDepth 20000 in
theorem gL_isBest_X4_bestSquare : GoodIn wsL_isBest (wsV RL 43 RX4 yX4_bestSquare wsX4_bestSquare) := goodIn_app (goodIn_of _ (by decide +kernel)) ggL_isBest_X4_bestSquare
set_option maxRecDepth 20000 in
theorem ggL_isBest_X4_ifRaised : GoodIn wsL_isBest wsX4_ifRaised := goodIn_ca (goodIn_r _ [49, 50, 51, 6, 52, 53, 4, 54, 7, 8, 9, 10, 11, 12, 13, 14, 15, 16, 17, 18, 19, 20, 21, 22, 23, 24, 25, 26, 27, 28, 29, 30, 31, 32, 33, 34, 35, 36, 37, 38, 39, 40, 41, 42, 43, 44, 45, 141, 142, 143, 144, 145, 146, 147, 148, 149, 150, 151, 152, 153] (by decide +kernel) (by decide +kernel)) (goodIn_sub (fun _ h => List.mem_cons_of_mem _ (List.mem_append_left _ (List.mem_append_right _ h))) (by decide +kernel))
set_option maxRecDepth 20000 in
theorem gL_isBest_X4_ifRaised : GoodIn wsL_isBest (wsV RL 30 RX4 yX4_ifRaised wsX4_ifRaised) := goodIn_app (goodIn_of _ (by decide +kernel)) ggL_isBest_X4_ifRaised
set_option maxRecDepth 20000 in
theorem ggL_isBest_X4_whyNot : GoodIn wsL_isBest wsX4_whyNot := goodIn_ca (goodIn_r _ [58, 50, 51, 6, 52, 53, 4, 54, 59, 16, 17, 10, 18, 12, 14, 13, 19, 20, 21, 22, 23, 24, 25, 26, 27, 28, 29, 30, 31, 32, 33, 34, 35, 36, 141, 142, 143, 144, 145, 146, 147, 148, 149, 150, 151, 152, 153] (by decide +kernel) (by decide +kernel)) (goodIn_sub (fun _ h => List.mem_cons_of_mem _ (List.mem_append_left _ (List.mem_append_right _ h))) (by decide +kernel))
set_option maxRecDepth 20000 in
theorem gL_isBest_X4_whyNot : GoodIn wsL_isBest (wsV RL 18 RX4 yX4_whyNot wsX4_whyNot) := goodIn_app (goodIn_of _ (by decide +kernel)) ggL_isBest_X4_whyNot
set_option maxRecDepth 20000 in
theorem ggL_isBest_X4_count : GoodIn wsL_isBest wsX4_count := goodIn_ca (goodIn_r _ [63, 64, 65, 6, 66, 67, 25, 26, 27, 68, 29, 30, 69, 70, 71, 10, 72, 20, 21, 22, 23, 13, 24, 28, 31, 32, 33, 34, 35, 36, 73, 74, 75, 76, 77, 78, 79, 80, 12, 81, 82, 83, 84, 45, 141, 142, 143, 144, 145, 146, 147, 148, 149, 150, 151, 152, 153, 154, 155, 156] (by decide +kernel) (by decide +kernel)) (goodIn_sub (fun _ h => List.mem_cons_of_mem _ (List.mem_append_right _ h)) (by decide +kernel))
set_option maxRecDepth 20000 in
theorem gL_isBest_X4_count : GoodIn wsL_isBest (wsV RL 8 RX4 yX4_count wsX4_count) := goodIn_app (goodIn_of _ (by decide +kernel)) ggL_isBest_X4_count
set_option maxRecDepth 20000 in
theorem ggL_isBest_X4_hour : GoodIn wsL_isBest wsX4_hour := goodIn_ca (goodIn_r _ [88, 64, 65, 66, 6, 89, 90, 91, 92, 93, 94, 95, 96, 97, 98, 99, 100, 101, 102, 103, 10, 104, 13, 105, 106, 107, 108, 12, 45, 109, 19, 14, 110, 111, 141, 142, 143, 144, 145, 146, 147, 148, 149, 150, 151, 152, 153, 154, 155, 156] (by decide +kernel) (by decide +kernel)) (goodIn_sub (fun _ h => List.mem_cons_of_mem _ (List.mem_append_right _ h)) (by decide +kernel))
set_option maxRecDepth 20000 in
theorem gL_isBest_X4_hour : GoodIn wsL_isBest (wsV RL 40 RX4 yX4_hour wsX4_hour) := goodIn_app (goodIn_of _ (by decide +kernel)) ggL_isBest_X4_hour
set_option maxRecDepth 20000 in
theorem ggL_isBest_X4_squareOf : GoodIn wsL_isBest wsX4_squareOf := goodIn_ca (goodIn_ca (goodIn_r _ [115, 50, 51, 64, 65, 6, 52, 53, 4, 54, 116, 21, 22, 10, 23, 13, 24, 25, 26, 27, 28, 29, 30, 31, 32, 33, 34, 35, 36, 117, 118, 119, 120, 121, 122, 123, 124, 125, 126, 127, 128, 19, 12, 129, 130, 131, 132, 133, 134, 135, 136, 20, 141, 142, 143, 144, 145, 146, 147, 148, 149, 150, 151, 152, 153] (by decide +kernel) (by decide +kernel)) (goodIn_sub (fun _ h => List.mem_cons_of_mem _ (List.mem_append_left _ (List.mem_append_right _ h))) (by decide +kernel))) (goodIn_sub (fun _ h => List.mem_cons_of_mem _ (List.mem_append_right _ h)) (by decide +kernel))
set_option maxRecDepth 20000 in
theorem gL_isBest_X4_squareOf : GoodIn wsL_isBest (wsV RL 14 RX4 yX4_squareOf wsX4_squareOf) := goodIn_app (goodIn_of _ (by decide +kernel)) ggL_isBest_X4_squareOf
set_option maxRecDepth 20000 in
theorem ggL_isBest_X4_darkestHour : GoodIn wsL_isBest wsX4_darkestHour := goodIn_r _ [140, 6, 69, 70, 71, 10, 72, 20, 21, 22, 23, 13, 24, 25, 26, 27, 28, 29, 30, 31, 32, 33, 34, 35, 36, 141, 142, 143, 144, 145, 146, 147, 148, 149, 150, 151, 152, 153] (by decide +kernel) (by decide +kernel)
set_option maxRecDepth 20000 in
theorem gL_isBest_X4_darkestHour : GoodIn wsL_isBest (wsV RL 46 RX4 yX4_darkestHour wsX4_darkestHour) := goodIn_app (goodIn_of _ (by decide +kernel)) ggL_isBest_X4_darkestHour
theorem dL_isBest_0 : decode cL_isBest 0 = .ok (.aload_n 0, 1) := by decide +kernel
theorem dL_isBest_1 : decode cL_isBest 1 = .ok (.invokevirtual 43, 3) := by decide +kernel
theorem dL_isBest_4 : decode cL_isBest 4 = .ok (.istore_n 1, 1) := by decide +kernel
theorem dL_isBest_5 : decode cL_isBest 5 = .ok (.iconst (-1), 1) := by decide +kernel
theorem dL_isBest_6 : decode cL_isBest 6 = .ok (.istore_n 2, 1) := by decide +kernel
theorem dL_isBest_7 : decode cL_isBest 7 = .ok (.sipush (-999), 3) := by decide +kernel
theorem dL_isBest_10 : decode cL_isBest 10 = .ok (.istore_n 3, 1) := by decide +kernel
theorem dL_isBest_11 : decode cL_isBest 11 = .ok (.iconst 0, 1) := by decide +kernel
theorem dL_isBest_12 : decode cL_isBest 12 = .ok (.istore 4, 2) := by decide +kernel
theorem dL_isBest_14 : decode cL_isBest 14 = .ok (.iload 4, 2) := by decide +kernel
theorem dL_isBest_16 : decode cL_isBest 16 = .ok (.bipush 36, 2) := by decide +kernel
theorem dL_isBest_18 : decode cL_isBest 18 = .ok (.if_icmp .ge 75, 3) := by decide +kernel
theorem dL_isBest_21 : decode cL_isBest 21 = .ok (.aload_n 0, 1) := by decide +kernel
theorem dL_isBest_22 : decode cL_isBest 22 = .ok (.iload 4, 2) := by decide +kernel
theorem dL_isBest_24 : decode cL_isBest 24 = .ok (.invokevirtual 30, 3) := by decide +kernel
theorem dL_isBest_27 : decode cL_isBest 27 = .ok (.istore 5, 2) := by decide +kernel
theorem dL_isBest_29 : decode cL_isBest 29 = .ok (.iload 5, 2) := by decide +kernel
theorem dL_isBest_31 : decode cL_isBest 31 = .ok (.sipush (-999), 3) := by decide +kernel
theorem dL_isBest_34 : decode cL_isBest 34 = .ok (.if_icmp .ne 7, 3) := by decide +kernel
theorem dL_isBest_37 : decode cL_isBest 37 = .ok (.iconst 1, 1) := by decide +kernel
theorem dL_isBest_38 : decode cL_isBest 38 = .ok (.goto 4, 3) := by decide +kernel
theorem dL_isBest_41 : decode cL_isBest 41 = .ok (.iconst 0, 1) := by decide +kernel
theorem dL_isBest_42 : decode cL_isBest 42 = .ok (.aload_n 0, 1) := by decide +kernel
theorem dL_isBest_43 : decode cL_isBest 43 = .ok (.iload 4, 2) := by decide +kernel
theorem dL_isBest_45 : decode cL_isBest 45 = .ok (.invokevirtual 18, 3) := by decide +kernel
theorem dL_isBest_48 : decode cL_isBest 48 = .ok (.ifCond .le 7, 3) := by decide +kernel
theorem dL_isBest_51 : decode cL_isBest 51 = .ok (.iconst 1, 1) := by decide +kernel
theorem dL_isBest_52 : decode cL_isBest 52 = .ok (.goto 4, 3) := by decide +kernel
theorem dL_isBest_55 : decode cL_isBest 55 = .ok (.iconst 0, 1) := by decide +kernel
theorem dL_isBest_56 : decode cL_isBest 56 = .ok (.if_icmp .eq 5, 3) := by decide +kernel
theorem dL_isBest_59 : decode cL_isBest 59 = .ok (.iconst 0, 1) := by decide +kernel
theorem dL_isBest_60 : decode cL_isBest 60 = .ok (.ireturn, 1) := by decide +kernel
theorem dL_isBest_61 : decode cL_isBest 61 = .ok (.iload 5, 2) := by decide +kernel
theorem dL_isBest_63 : decode cL_isBest 63 = .ok (.iload_n 3, 1) := by decide +kernel
theorem dL_isBest_64 : decode cL_isBest 64 = .ok (.if_icmp .le 8, 3) := by decide +kernel
theorem dL_isBest_67 : decode cL_isBest 67 = .ok (.iload 4, 2) := by decide +kernel
theorem dL_isBest_69 : decode cL_isBest 69 = .ok (.goto 4, 3) := by decide +kernel
theorem dL_isBest_72 : decode cL_isBest 72 = .ok (.iload_n 2, 1) := by decide +kernel
theorem dL_isBest_73 : decode cL_isBest 73 = .ok (.istore_n 2, 1) := by decide +kernel
theorem dL_isBest_74 : decode cL_isBest 74 = .ok (.iload 5, 2) := by decide +kernel
theorem dL_isBest_76 : decode cL_isBest 76 = .ok (.iload_n 3, 1) := by decide +kernel
theorem dL_isBest_77 : decode cL_isBest 77 = .ok (.if_icmp .le 8, 3) := by decide +kernel
theorem dL_isBest_80 : decode cL_isBest 80 = .ok (.iload 5, 2) := by decide +kernel
theorem dL_isBest_82 : decode cL_isBest 82 = .ok (.goto 4, 3) := by decide +kernel
theorem dL_isBest_85 : decode cL_isBest 85 = .ok (.iload_n 3, 1) := by decide +kernel
theorem dL_isBest_86 : decode cL_isBest 86 = .ok (.istore_n 3, 1) := by decide +kernel
theorem dL_isBest_87 : decode cL_isBest 87 = .ok (.iinc 4 1, 3) := by decide +kernel
theorem dL_isBest_90 : decode cL_isBest 90 = .ok (.goto (-76), 3) := by decide +kernel
theorem dL_isBest_93 : decode cL_isBest 93 = .ok (.iconst 0, 1) := by decide +kernel
theorem dL_isBest_94 : decode cL_isBest 94 = .ok (.istore 4, 2) := by decide +kernel
theorem dL_isBest_96 : decode cL_isBest 96 = .ok (.iconst 0, 1) := by decide +kernel
theorem dL_isBest_97 : decode cL_isBest 97 = .ok (.istore 5, 2) := by decide +kernel
theorem dL_isBest_99 : decode cL_isBest 99 = .ok (.aload_n 0, 1) := by decide +kernel
theorem dL_isBest_100 : decode cL_isBest 100 = .ok (.iconst 0, 1) := by decide +kernel
theorem dL_isBest_101 : decode cL_isBest 101 = .ok (.invokevirtual 8, 3) := by decide +kernel
theorem dL_isBest_104 : decode cL_isBest 104 = .ok (.istore 6, 2) := by decide +kernel
theorem dL_isBest_106 : decode cL_isBest 106 = .ok (.iconst 0, 1) := by decide +kernel
theorem dL_isBest_107 : decode cL_isBest 107 = .ok (.istore 7, 2) := by decide +kernel
theorem dL_isBest_109 : decode cL_isBest 109 = .ok (.iload 7, 2) := by decide +kernel
theorem dL_isBest_111 : decode cL_isBest 111 = .ok (.bipush 12, 2) := by decide +kernel
theorem dL_isBest_113 : decode cL_isBest 113 = .ok (.if_icmp .ge 102, 3) := by decide +kernel
theorem dL_isBest_116 : decode cL_isBest 116 = .ok (.aload_n 0, 1) := by decide +kernel
theorem dL_isBest_117 : decode cL_isBest 117 = .ok (.iload 7, 2) := by decide +kernel
theorem dL_isBest_119 : decode cL_isBest 119 = .ok (.invokevirtual 40, 3) := by decide +kernel
theorem dL_isBest_122 : decode cL_isBest 122 = .ok (.istore 8, 2) := by decide +kernel
theorem dL_isBest_124 : decode cL_isBest 124 = .ok (.aload_n 0, 1) := by decide +kernel
theorem dL_isBest_125 : decode cL_isBest 125 = .ok (.iconst 5, 1) := by decide +kernel
theorem dL_isBest_126 : decode cL_isBest 126 = .ok (.invokevirtual 8, 3) := by decide +kernel
theorem dL_isBest_129 : decode cL_isBest 129 = .ok (.istore 9, 2) := by decide +kernel
theorem dL_isBest_131 : decode cL_isBest 131 = .ok (.iload 9, 2) := by decide +kernel
theorem dL_isBest_133 : decode cL_isBest 133 = .ok (.iload 4, 2) := by decide +kernel
theorem dL_isBest_135 : decode cL_isBest 135 = .ok (.if_icmp .le 8, 3) := by decide +kernel
theorem dL_isBest_138 : decode cL_isBest 138 = .ok (.iload 7, 2) := by decide +kernel
theorem dL_isBest_140 : decode cL_isBest 140 = .ok (.goto 5, 3) := by decide +kernel
theorem dL_isBest_143 : decode cL_isBest 143 = .ok (.iload 5, 2) := by decide +kernel
theorem dL_isBest_145 : decode cL_isBest 145 = .ok (.istore 5, 2) := by decide +kernel
theorem dL_isBest_147 : decode cL_isBest 147 = .ok (.iload 9, 2) := by decide +kernel
theorem dL_isBest_149 : decode cL_isBest 149 = .ok (.iload 4, 2) := by decide +kernel
theorem dL_isBest_151 : decode cL_isBest 151 = .ok (.if_icmp .le 8, 3) := by decide +kernel
theorem dL_isBest_154 : decode cL_isBest 154 = .ok (.iload 9, 2) := by decide +kernel
theorem dL_isBest_156 : decode cL_isBest 156 = .ok (.goto 5, 3) := by decide +kernel
theorem dL_isBest_159 : decode cL_isBest 159 = .ok (.iload 4, 2) := by decide +kernel
theorem dL_isBest_161 : decode cL_isBest 161 = .ok (.istore 4, 2) := by decide +kernel
theorem dL_isBest_163 : decode cL_isBest 163 = .ok (.iconst 0, 1) := by decide +kernel
theorem dL_isBest_164 : decode cL_isBest 164 = .ok (.istore 10, 2) := by decide +kernel
theorem dL_isBest_166 : decode cL_isBest 166 = .ok (.iload 10, 2) := by decide +kernel
theorem dL_isBest_168 : decode cL_isBest 168 = .ok (.bipush 36, 2) := by decide +kernel
theorem dL_isBest_170 : decode cL_isBest 170 = .ok (.if_icmp .ge 39, 3) := by decide +kernel
theorem dL_isBest_173 : decode cL_isBest 173 = .ok (.iload 8, 2) := by decide +kernel
theorem dL_isBest_175 : decode cL_isBest 175 = .ok (.ifCond .lt 34, 3) := by decide +kernel
theorem dL_isBest_178 : decode cL_isBest 178 = .ok (.aload_n 0, 1) := by decide +kernel
theorem dL_isBest_179 : decode cL_isBest 179 = .ok (.iload 10, 2) := by decide +kernel
theorem dL_isBest_181 : decode cL_isBest 181 = .ok (.bipush 7, 2) := by decide +kernel
theorem dL_isBest_183 : decode cL_isBest 183 = .ok (.invokevirtual 14, 3) := by decide +kernel
theorem dL_isBest_186 : decode cL_isBest 186 = .ok (.iload 7, 2) := by decide +kernel
theorem dL_isBest_188 : decode cL_isBest 188 = .ok (.ishr, 1) := by decide +kernel
theorem dL_isBest_189 : decode cL_isBest 189 = .ok (.iconst 1, 1) := by decide +kernel
theorem dL_isBest_190 : decode cL_isBest 190 = .ok (.iand, 1) := by decide +kernel
theorem dL_isBest_191 : decode cL_isBest 191 = .ok (.aload_n 0, 1) := by decide +kernel
theorem dL_isBest_192 : decode cL_isBest 192 = .ok (.iload 10, 2) := by decide +kernel
theorem dL_isBest_194 : decode cL_isBest 194 = .ok (.iconst 3, 1) := by decide +kernel
theorem dL_isBest_195 : decode cL_isBest 195 = .ok (.invokevirtual 14, 3) := by decide +kernel
theorem dL_isBest_198 : decode cL_isBest 198 = .ok (.if_icmp .eq 5, 3) := by decide +kernel
theorem dL_isBest_201 : decode cL_isBest 201 = .ok (.iconst 0, 1) := by decide +kernel
theorem dL_isBest_202 : decode cL_isBest 202 = .ok (.ireturn, 1) := by decide +kernel
theorem dL_isBest_203 : decode cL_isBest 203 = .ok (.iinc 10 5, 3) := by decide +kernel
theorem dL_isBest_206 : decode cL_isBest 206 = .ok (.goto (-40), 3) := by decide +kernel
theorem dL_isBest_209 : decode cL_isBest 209 = .ok (.iinc 7 1, 3) := by decide +kernel
theorem dL_isBest_212 : decode cL_isBest 212 = .ok (.goto (-103), 3) := by decide +kernel
theorem dL_isBest_215 : decode cL_isBest 215 = .ok (.iload_n 1, 1) := by decide +kernel
theorem dL_isBest_216 : decode cL_isBest 216 = .ok (.iload_n 2, 1) := by decide +kernel
theorem dL_isBest_217 : decode cL_isBest 217 = .ok (.if_icmp .ne 27, 3) := by decide +kernel
theorem dL_isBest_220 : decode cL_isBest 220 = .ok (.aload_n 0, 1) := by decide +kernel
theorem dL_isBest_221 : decode cL_isBest 221 = .ok (.invokevirtual 46, 3) := by decide +kernel
theorem dL_isBest_224 : decode cL_isBest 224 = .ok (.iload 5, 2) := by decide +kernel
theorem dL_isBest_226 : decode cL_isBest 226 = .ok (.if_icmp .ne 18, 3) := by decide +kernel
theorem dL_isBest_229 : decode cL_isBest 229 = .ok (.aload_n 0, 1) := by decide +kernel
theorem dL_isBest_230 : decode cL_isBest 230 = .ok (.iload 6, 2) := by decide +kernel
theorem dL_isBest_232 : decode cL_isBest 232 = .ok (.invokevirtual 40, 3) := by decide +kernel
theorem dL_isBest_235 : decode cL_isBest 235 = .ok (.bipush 11, 2) := by decide +kernel
theorem dL_isBest_237 : decode cL_isBest 237 = .ok (.if_icmp .ne 7, 3) := by decide +kernel
theorem dL_isBest_240 : decode cL_isBest 240 = .ok (.iconst 1, 1) := by decide +kernel
theorem dL_isBest_241 : decode cL_isBest 241 = .ok (.goto 4, 3) := by decide +kernel
theorem dL_isBest_244 : decode cL_isBest 244 = .ok (.iconst 0, 1) := by decide +kernel
theorem dL_isBest_245 : decode cL_isBest 245 = .ok (.ireturn, 1) := by decide +kernel
set_option maxRecDepth 20000 in
theorem ggL_isNeeded_X4_needed : GoodIn wsL_isNeeded wsX4_needed := goodIn_ca (goodIn_r _ [5, 6, 7, 8, 9, 10, 4, 11, 12, 13, 14, 15, 16, 17, 18, 19, 20, 21, 22, 23, 24, 25, 26, 27, 193, 194, 195, 196, 197, 198, 199, 200, 201, 202, 203, 204, 205] (by decide +kernel) (by decide +kernel)) (goodIn_sub (fun _ h => List.mem_cons_of_mem _ (List.mem_append_left _ (List.mem_append_left _ (List.mem_append_right _ h)))) (by decide +kernel))
set_option maxRecDepth 20000 in
theorem gL_isNeeded_X4_needed : GoodIn wsL_isNeeded (wsV RL 49 RX4 yX4_needed wsX4_needed) := goodIn_app (goodIn_of _ (by decide +kernel)) ggL_isNeeded_X4_needed
set_option maxRecDepth 20000 in
theorem ggL_isNeeded_X4_count : GoodIn wsL_isNeeded wsX4_count := goodIn_ca (goodIn_r _ [31, 32, 33, 8, 34, 12, 13, 14, 15, 25, 26, 27, 35, 36, 37, 38, 39, 40, 41, 42, 43, 44, 45, 46, 47, 20, 21, 48, 23, 24, 49, 50, 51, 52, 53, 54, 55, 56, 57, 58, 59, 60, 61, 62, 193, 194, 195, 196, 197, 198, 199, 200, 201, 202, 203, 204, 205, 206, 207, 208] (by decide +kernel) (by decide +kernel)) (goodIn_sub (fun _ h => List.mem_cons_of_mem _ (List.mem_append_left _ (List.mem_append_right _ h))) (by decide +kernel))
set_option maxRecDepth 20000 in
theorem gL_isNeeded_X4_count : GoodIn wsL_isNeeded (wsV RL 8 RX4 yX4_count wsX4_count) := goodIn_app (goodIn_of _ (by decide +kernel)) ggL_isNeeded_X4_count
set_option maxRecDepth 20000 in
theorem ggL_isNeeded_X4_squareOf : GoodIn wsL_isNeeded wsX4_squareOf := goodIn_ca (goodIn_ca (goodIn_r _ [66, 6, 7, 32, 33, 8, 9, 10, 4, 11, 67, 41, 42, 38, 43, 44, 45, 13, 14, 15, 46, 26, 27, 47, 20, 21, 48, 23, 24, 68, 69, 70, 71, 72, 73, 74, 75, 76, 77, 78, 79, 80, 57, 81, 82, 83, 84, 85, 86, 87, 88, 40, 193, 194, 195, 196, 197, 198, 199, 200, 201, 202, 203, 204, 205] (by decide +kernel) (by decide +kernel)) (goodIn_sub (fun _ h => List.mem_cons_of_mem _ (List.mem_append_left _ (List.mem_append_left _ (List.mem_append_right _ h)))) (by decide +kernel))) (goodIn_sub (fun _ h => List.mem_cons_of_mem _ (List.mem_append_left _ (List.mem_append_right _ h))) (by decide +kernel))
set_option maxRecDepth 20000 in
theorem gL_isNeeded_X4_squareOf : GoodIn wsL_isNeeded (wsV RL 14 RX4 yX4_squareOf wsX4_squareOf) := goodIn_app (goodIn_of _ (by decide +kernel)) ggL_isNeeded_X4_squareOf
set_option maxRecDepth 20000 in
theorem ggL_isNeeded_X4_keep : GoodIn wsL_isNeeded wsX4_keep := goodIn_ca (goodIn_r _ [92, 32, 33, 8, 93, 94, 95, 96, 97, 38, 98, 44, 99, 100, 101, 102, 57, 62, 103, 80, 104, 105, 106, 49, 50, 51, 52, 53, 54, 55, 56, 193, 194, 195, 196, 197, 198, 199, 200, 201, 202, 203, 204, 205] (by decide +kernel) (by decide +kernel)) (goodIn_sub (fun _ h => List.mem_cons_of_mem _ (List.mem_append_left _ (List.mem_append_right _ h))) (by decide +kernel))
set_option maxRecDepth 20000 in
theorem gL_isNeeded_X4_keep : GoodIn wsL_isNeeded (wsV RL 52 RX4 yX4_keep wsX4_keep) := goodIn_app (goodIn_of _ (by decide +kernel)) ggL_isNeeded_X4_keep
set_option maxRecDepth 20000 in
theorem ggL_isNeeded_X4_tear : GoodIn wsL_isNeeded wsX4_tear := goodIn_ca (goodIn_r _ [110, 6, 7, 34, 8, 9, 10, 4, 11, 111, 112, 113, 114, 115, 116, 117, 118, 119, 120, 121, 122, 123, 96, 97, 38, 98, 44, 99, 100, 101, 102, 57, 62, 103, 80, 104, 105, 106, 124, 125, 126, 127, 193, 194, 195, 196, 197, 198, 199, 200, 201, 202, 203, 204, 205, 206, 207, 208] (by decide +kernel) (by decide +kernel)) (goodIn_sub (fun _ h => List.mem_cons_of_mem _ (List.mem_append_left _ (List.mem_append_left _ (List.mem_append_right _ h)))) (by decide +kernel))
set_option maxRecDepth 20000 in
theorem gL_isNeeded_X4_tear : GoodIn wsL_isNeeded (wsV RL 55 RX4 yX4_tear wsX4_tear) := goodIn_app (goodIn_of _ (by decide +kernel)) ggL_isNeeded_X4_tear
set_option maxRecDepth 20000 in
theorem ggL_isNeeded_X4_append : GoodIn wsL_isNeeded wsX4_append := goodIn_ca (goodIn_ca (goodIn_r _ [131, 32, 33, 132, 133, 134, 135, 136, 137, 138, 139, 140, 141, 142, 143, 144, 145, 193, 194, 195, 196, 197, 209, 210] (by decide +kernel) (by decide +kernel)) (goodIn_sub (fun _ h => List.mem_cons_of_mem _ (List.mem_append_left _ (List.mem_append_right _ h))) (by decide +kernel))) (goodIn_sub (fun _ h => List.mem_cons_of_mem _ (List.mem_append_right _ h)) (by decide +kernel))
set_option maxRecDepth 20000 in
theorem gL_isNeeded_X4_append : GoodIn wsL_isNeeded (wsV RL 58 RX4 yX4_append wsX4_append) := goodIn_app (goodIn_of _ (by decide +kernel)) ggL_isNeeded_X4_append
set_option maxRecDepth 20000 in
theorem ggL_isNeeded_X4_load : GoodIn wsL_isNeeded wsX4_load := goodIn_ca (goodIn_r _ [149, 32, 33, 134, 34, 8, 150, 151, 152, 138, 153, 140, 154, 155, 156, 157, 158, 159, 160, 161, 145, 162, 163, 164, 111, 112, 113, 114, 115, 116, 117, 118, 119, 120, 121, 122, 123, 96, 97, 38, 98, 44, 99, 100, 101, 102, 57, 62, 103, 80, 104, 105, 106, 165, 166, 167, 168, 169, 170, 171, 4, 172, 173, 174, 175, 176, 177, 178, 179, 180, 181, 182, 183, 184, 124, 125, 126, 127, 49, 50, 51, 52, 53, 54, 55, 56, 193, 194, 195, 196, 197, 209, 210, 206, 207, 208, 198, 199, 200, 201, 202, 203, 204, 205] (by decide +kernel) (by decide +kernel)) (goodIn_sub (fun _ h => List.mem_cons_of_mem _ (List.mem_append_left _ (List.mem_append_right _ h))) (by decide +kernel))
set_option maxRecDepth 20000 in
theorem gL_isNeeded_X4_load : GoodIn wsL_isNeeded (wsV RL 61 RX4 yX4_load wsX4_load) := goodIn_app (goodIn_of _ (by decide +kernel)) ggL_isNeeded_X4_load
set_option maxRecDepth 20000 in
theorem ggL_isNeeded_X4_goBack : GoodIn wsL_isNeeded wsX4_goBack := goodIn_ca (goodIn_ca (goodIn_r _ [188, 32, 33, 132, 133, 94, 34, 8, 93, 111, 112, 113, 114, 115, 116, 117, 118, 119, 120, 121, 122, 123, 96, 97, 38, 98, 44, 99, 100, 101, 102, 57, 62, 103, 80, 104, 105, 106, 189, 190, 191, 192, 49, 50, 51, 52, 53, 54, 55, 56, 193, 194, 195, 196, 197, 206, 207, 208, 198, 199, 200, 201, 202, 203, 204, 205] (by decide +kernel) (by decide +kernel)) (goodIn_sub (fun _ h => List.mem_cons_of_mem _ (List.mem_append_left _ (List.mem_append_right _ h))) (by decide +kernel))) (goodIn_sub (fun _ h => List.mem_cons_of_mem _ (List.mem_append_right _ h)) (by decide +kernel))
set_option maxRecDepth 20000 in
theorem gL_isNeeded_X4_goBack : GoodIn wsL_isNeeded (wsV RL 64 RX4 yX4_goBack wsX4_goBack) := goodIn_app (goodIn_of _ (by decide +kernel)) ggL_isNeeded_X4_goBack
theorem dL_isNeeded_0 : decode cL_isNeeded 0 = .ok (.aload_n 0, 1) := by decide +kernel
theorem dL_isNeeded_1 : decode cL_isNeeded 1 = .ok (.iload_n 1, 1) := by decide +kernel
theorem dL_isNeeded_2 : decode cL_isNeeded 2 = .ok (.iload_n 2, 1) := by decide +kernel
theorem dL_isNeeded_3 : decode cL_isNeeded 3 = .ok (.invokevirtual 49, 3) := by decide +kernel
theorem dL_isNeeded_6 : decode cL_isNeeded 6 = .ok (.istore_n 3, 1) := by decide +kernel
theorem dL_isNeeded_7 : decode cL_isNeeded 7 = .ok (.aload_n 0, 1) := by decide +kernel
theorem dL_isNeeded_8 : decode cL_isNeeded 8 = .ok (.iconst 1, 1) := by decide +kernel
theorem dL_isNeeded_9 : decode cL_isNeeded 9 = .ok (.invokevirtual 8, 3) := by decide +kernel
theorem dL_isNeeded_12 : decode cL_isNeeded 12 = .ok (.istore 4, 2) := by decide +kernel
theorem dL_isNeeded_14 : decode cL_isNeeded 14 = .ok (.iload_n 1, 1) := by decide +kernel
theorem dL_isNeeded_15 : decode cL_isNeeded 15 = .ok (.bipush 6, 2) := by decide +kernel
theorem dL_isNeeded_17 : decode cL_isNeeded 17 = .ok (.idiv, 1) := by decide +kernel
theorem dL_isNeeded_18 : decode cL_isNeeded 18 = .ok (.iload_n 2, 1) := by decide +kernel
theorem dL_isNeeded_19 : decode cL_isNeeded 19 = .ok (.bipush 6, 2) := by decide +kernel
theorem dL_isNeeded_21 : decode cL_isNeeded 21 = .ok (.idiv, 1) := by decide +kernel
theorem dL_isNeeded_22 : decode cL_isNeeded 22 = .ok (.isub, 1) := by decide +kernel
theorem dL_isNeeded_23 : decode cL_isNeeded 23 = .ok (.istore 5, 2) := by decide +kernel
theorem dL_isNeeded_25 : decode cL_isNeeded 25 = .ok (.iload_n 1, 1) := by decide +kernel
theorem dL_isNeeded_26 : decode cL_isNeeded 26 = .ok (.bipush 6, 2) := by decide +kernel
theorem dL_isNeeded_28 : decode cL_isNeeded 28 = .ok (.irem, 1) := by decide +kernel
theorem dL_isNeeded_29 : decode cL_isNeeded 29 = .ok (.iload_n 2, 1) := by decide +kernel
theorem dL_isNeeded_30 : decode cL_isNeeded 30 = .ok (.bipush 6, 2) := by decide +kernel
theorem dL_isNeeded_32 : decode cL_isNeeded 32 = .ok (.irem, 1) := by decide +kernel
theorem dL_isNeeded_33 : decode cL_isNeeded 33 = .ok (.isub, 1) := by decide +kernel
theorem dL_isNeeded_34 : decode cL_isNeeded 34 = .ok (.istore 6, 2) := by decide +kernel
theorem dL_isNeeded_36 : decode cL_isNeeded 36 = .ok (.iload 4, 2) := by decide +kernel
theorem dL_isNeeded_38 : decode cL_isNeeded 38 = .ok (.ifCond .ne 13, 3) := by decide +kernel
theorem dL_isNeeded_41 : decode cL_isNeeded 41 = .ok (.iload 5, 2) := by decide +kernel
theorem dL_isNeeded_43 : decode cL_isNeeded 43 = .ok (.ifCond .ne 8, 3) := by decide +kernel
theorem dL_isNeeded_46 : decode cL_isNeeded 46 = .ok (.iload 6, 2) := by decide +kernel
theorem dL_isNeeded_48 : decode cL_isNeeded 48 = .ok (.goto 54, 3) := by decide +kernel
theorem dL_isNeeded_51 : decode cL_isNeeded 51 = .ok (.iload 4, 2) := by decide +kernel
theorem dL_isNeeded_53 : decode cL_isNeeded 53 = .ok (.iconst 1, 1) := by decide +kernel
theorem dL_isNeeded_54 : decode cL_isNeeded 54 = .ok (.if_icmp .ne 13, 3) := by decide +kernel
theorem dL_isNeeded_57 : decode cL_isNeeded 57 = .ok (.iload 6, 2) := by decide +kernel
theorem dL_isNeeded_59 : decode cL_isNeeded 59 = .ok (.ifCond .ne 8, 3) := by decide +kernel
theorem dL_isNeeded_62 : decode cL_isNeeded 62 = .ok (.iload 5, 2) := by decide +kernel
theorem dL_isNeeded_64 : decode cL_isNeeded 64 = .ok (.goto 38, 3) := by decide +kernel
theorem dL_isNeeded_67 : decode cL_isNeeded 67 = .ok (.iload 4, 2) := by decide +kernel
theorem dL_isNeeded_69 : decode cL_isNeeded 69 = .ok (.iconst 2, 1) := by decide +kernel
theorem dL_isNeeded_70 : decode cL_isNeeded 70 = .ok (.if_icmp .ne 14, 3) := by decide +kernel
theorem dL_isNeeded_73 : decode cL_isNeeded 73 = .ok (.iload 5, 2) := by decide +kernel
theorem dL_isNeeded_75 : decode cL_isNeeded 75 = .ok (.ifCond .ne 9, 3) := by decide +kernel
theorem dL_isNeeded_78 : decode cL_isNeeded 78 = .ok (.iload 6, 2) := by decide +kernel
theorem dL_isNeeded_80 : decode cL_isNeeded 80 = .ok (.ineg, 1) := by decide +kernel
theorem dL_isNeeded_81 : decode cL_isNeeded 81 = .ok (.goto 21, 3) := by decide +kernel
theorem dL_isNeeded_84 : decode cL_isNeeded 84 = .ok (.iload 4, 2) := by decide +kernel
theorem dL_isNeeded_86 : decode cL_isNeeded 86 = .ok (.iconst 3, 1) := by decide +kernel
theorem dL_isNeeded_87 : decode cL_isNeeded 87 = .ok (.if_icmp .ne 14, 3) := by decide +kernel
theorem dL_isNeeded_90 : decode cL_isNeeded 90 = .ok (.iload 6, 2) := by decide +kernel
theorem dL_isNeeded_92 : decode cL_isNeeded 92 = .ok (.ifCond .ne 9, 3) := by decide +kernel
theorem dL_isNeeded_95 : decode cL_isNeeded 95 = .ok (.iload 5, 2) := by decide +kernel
theorem dL_isNeeded_97 : decode cL_isNeeded 97 = .ok (.ineg, 1) := by decide +kernel
theorem dL_isNeeded_98 : decode cL_isNeeded 98 = .ok (.goto 4, 3) := by decide +kernel
theorem dL_isNeeded_101 : decode cL_isNeeded 101 = .ok (.iconst 0, 1) := by decide +kernel
theorem dL_isNeeded_102 : decode cL_isNeeded 102 = .ok (.istore 7, 2) := by decide +kernel
theorem dL_isNeeded_104 : decode cL_isNeeded 104 = .ok (.iload 7, 2) := by decide +kernel
theorem dL_isNeeded_106 : decode cL_isNeeded 106 = .ok (.ifCond .gt 8, 3) := by decide +kernel
theorem dL_isNeeded_109 : decode cL_isNeeded 109 = .ok (.bipush 99, 2) := by decide +kernel
theorem dL_isNeeded_111 : decode cL_isNeeded 111 = .ok (.goto 20, 3) := by decide +kernel
theorem dL_isNeeded_114 : decode cL_isNeeded 114 = .ok (.aload_n 0, 1) := by decide +kernel
theorem dL_isNeeded_115 : decode cL_isNeeded 115 = .ok (.iload_n 2, 1) := by decide +kernel
theorem dL_isNeeded_116 : decode cL_isNeeded 116 = .ok (.iconst 0, 1) := by decide +kernel
theorem dL_isNeeded_117 : decode cL_isNeeded 117 = .ok (.invokevirtual 14, 3) := by decide +kernel
theorem dL_isNeeded_120 : decode cL_isNeeded 120 = .ok (.iload 7, 2) := by decide +kernel
theorem dL_isNeeded_122 : decode cL_isNeeded 122 = .ok (.aload_n 0, 1) := by decide +kernel
theorem dL_isNeeded_123 : decode cL_isNeeded 123 = .ok (.iconst 2, 1) := by decide +kernel
theorem dL_isNeeded_124 : decode cL_isNeeded 124 = .ok (.invokevirtual 8, 3) := by decide +kernel
theorem dL_isNeeded_127 : decode cL_isNeeded 127 = .ok (.imul, 1) := by decide +kernel
theorem dL_isNeeded_128 : decode cL_isNeeded 128 = .ok (.iadd, 1) := by decide +kernel
theorem dL_isNeeded_129 : decode cL_isNeeded 129 = .ok (.iconst 1, 1) := by decide +kernel
theorem dL_isNeeded_130 : decode cL_isNeeded 130 = .ok (.iadd, 1) := by decide +kernel
theorem dL_isNeeded_131 : decode cL_isNeeded 131 = .ok (.istore 8, 2) := by decide +kernel
theorem dL_isNeeded_133 : decode cL_isNeeded 133 = .ok (.iload 8, 2) := by decide +kernel
theorem dL_isNeeded_135 : decode cL_isNeeded 135 = .ok (.bipush 9, 2) := by decide +kernel
theorem dL_isNeeded_137 : decode cL_isNeeded 137 = .ok (.if_icmp .le 14, 3) := by decide +kernel
theorem dL_isNeeded_140 : decode cL_isNeeded 140 = .ok (.iload_n 3, 1) := by decide +kernel
theorem dL_isNeeded_141 : decode cL_isNeeded 141 = .ok (.iconst (-1), 1) := by decide +kernel
theorem dL_isNeeded_142 : decode cL_isNeeded 142 = .ok (.if_icmp .ne 7, 3) := by decide +kernel
theorem dL_isNeeded_145 : decode cL_isNeeded 145 = .ok (.iconst 1, 1) := by decide +kernel
theorem dL_isNeeded_146 : decode cL_isNeeded 146 = .ok (.goto 4, 3) := by decide +kernel
theorem dL_isNeeded_149 : decode cL_isNeeded 149 = .ok (.iconst 0, 1) := by decide +kernel
theorem dL_isNeeded_150 : decode cL_isNeeded 150 = .ok (.ireturn, 1) := by decide +kernel
theorem dL_isNeeded_151 : decode cL_isNeeded 151 = .ok (.iload_n 3, 1) := by decide +kernel
theorem dL_isNeeded_152 : decode cL_isNeeded 152 = .ok (.iload 8, 2) := by decide +kernel
theorem dL_isNeeded_154 : decode cL_isNeeded 154 = .ok (.if_icmp .eq 5, 3) := by decide +kernel
theorem dL_isNeeded_157 : decode cL_isNeeded 157 = .ok (.iconst 0, 1) := by decide +kernel
theorem dL_isNeeded_158 : decode cL_isNeeded 158 = .ok (.ireturn, 1) := by decide +kernel
theorem dL_isNeeded_159 : decode cL_isNeeded 159 = .ok (.iconst 1, 1) := by decide +kernel
theorem dL_isNeeded_160 : decode cL_isNeeded 160 = .ok (.istore 9, 2) := by decide +kernel
theorem dL_isNeeded_162 : decode cL_isNeeded 162 = .ok (.aload_n 0, 1) := by decide +kernel
theorem dL_isNeeded_163 : decode cL_isNeeded 163 = .ok (.iconst 0, 1) := by decide +kernel
theorem dL_isNeeded_164 : decode cL_isNeeded 164 = .ok (.invokevirtual 52, 3) := by decide +kernel
theorem dL_isNeeded_167 : decode cL_isNeeded 167 = .ok (.istore 10, 2) := by decide +kernel
theorem dL_isNeeded_169 : decode cL_isNeeded 169 = .ok (.aload_n 0, 1) := by decide +kernel
theorem dL_isNeeded_170 : decode cL_isNeeded 170 = .ok (.iload_n 1, 1) := by decide +kernel
theorem dL_isNeeded_171 : decode cL_isNeeded 171 = .ok (.invokevirtual 55, 3) := by decide +kernel
theorem dL_isNeeded_174 : decode cL_isNeeded 174 = .ok (.istore 11, 2) := by decide +kernel
theorem dL_isNeeded_176 : decode cL_isNeeded 176 = .ok (.aload_n 0, 1) := by decide +kernel
theorem dL_isNeeded_177 : decode cL_isNeeded 177 = .ok (.iload_n 2, 1) := by decide +kernel
theorem dL_isNeeded_178 : decode cL_isNeeded 178 = .ok (.iconst 5, 1) := by decide +kernel
theorem dL_isNeeded_179 : decode cL_isNeeded 179 = .ok (.invokevirtual 14, 3) := by decide +kernel
theorem dL_isNeeded_182 : decode cL_isNeeded 182 = .ok (.istore 12, 2) := by decide +kernel
theorem dL_isNeeded_184 : decode cL_isNeeded 184 = .ok (.iload_n 3, 1) := by decide +kernel
theorem dL_isNeeded_185 : decode cL_isNeeded 185 = .ok (.iconst 1, 1) := by decide +kernel
theorem dL_isNeeded_186 : decode cL_isNeeded 186 = .ok (.isub, 1) := by decide +kernel
theorem dL_isNeeded_187 : decode cL_isNeeded 187 = .ok (.istore 13, 2) := by decide +kernel
theorem dL_isNeeded_189 : decode cL_isNeeded 189 = .ok (.iload 13, 2) := by decide +kernel
theorem dL_isNeeded_191 : decode cL_isNeeded 191 = .ok (.iload_n 3, 1) := by decide +kernel
theorem dL_isNeeded_192 : decode cL_isNeeded 192 = .ok (.if_icmp .gt 122, 3) := by decide +kernel
theorem dL_isNeeded_195 : decode cL_isNeeded 195 = .ok (.iload 9, 2) := by decide +kernel
theorem dL_isNeeded_197 : decode cL_isNeeded 197 = .ok (.ifCond .eq 117, 3) := by decide +kernel
theorem dL_isNeeded_200 : decode cL_isNeeded 200 = .ok (.iload 13, 2) := by decide +kernel
theorem dL_isNeeded_202 : decode cL_isNeeded 202 = .ok (.ifCond .le 71, 3) := by decide +kernel
theorem dL_isNeeded_205 : decode cL_isNeeded 205 = .ok (.aload_n 0, 1) := by decide +kernel
theorem dL_isNeeded_206 : decode cL_isNeeded 206 = .ok (.bipush 97, 2) := by decide +kernel
theorem dL_isNeeded_208 : decode cL_isNeeded 208 = .ok (.iload_n 1, 1) := by decide +kernel
theorem dL_isNeeded_209 : decode cL_isNeeded 209 = .ok (.bipush 6, 2) := by decide +kernel
theorem dL_isNeeded_211 : decode cL_isNeeded 211 = .ok (.idiv, 1) := by decide +kernel
theorem dL_isNeeded_212 : decode cL_isNeeded 212 = .ok (.iadd, 1) := by decide +kernel
theorem dL_isNeeded_213 : decode cL_isNeeded 213 = .ok (.invokevirtual 58, 3) := by decide +kernel
theorem dL_isNeeded_216 : decode cL_isNeeded 216 = .ok (.iconst 1, 1) := by decide +kernel
theorem dL_isNeeded_217 : decode cL_isNeeded 217 = .ok (.if_icmp .ne 53, 3) := by decide +kernel
theorem dL_isNeeded_220 : decode cL_isNeeded 220 = .ok (.aload_n 0, 1) := by decide +kernel
theorem dL_isNeeded_221 : decode cL_isNeeded 221 = .ok (.bipush 49, 2) := by decide +kernel
theorem dL_isNeeded_223 : decode cL_isNeeded 223 = .ok (.iload_n 1, 1) := by decide +kernel
theorem dL_isNeeded_224 : decode cL_isNeeded 224 = .ok (.bipush 6, 2) := by decide +kernel
theorem dL_isNeeded_226 : decode cL_isNeeded 226 = .ok (.irem, 1) := by decide +kernel
theorem dL_isNeeded_227 : decode cL_isNeeded 227 = .ok (.iadd, 1) := by decide +kernel
theorem dL_isNeeded_228 : decode cL_isNeeded 228 = .ok (.invokevirtual 58, 3) := by decide +kernel
theorem dL_isNeeded_231 : decode cL_isNeeded 231 = .ok (.iconst 2, 1) := by decide +kernel
theorem dL_isNeeded_232 : decode cL_isNeeded 232 = .ok (.if_icmp .ne 38, 3) := by decide +kernel
theorem dL_isNeeded_235 : decode cL_isNeeded 235 = .ok (.aload_n 0, 1) := by decide +kernel
theorem dL_isNeeded_236 : decode cL_isNeeded 236 = .ok (.bipush 43, 2) := by decide +kernel
theorem dL_isNeeded_238 : decode cL_isNeeded 238 = .ok (.invokevirtual 58, 3) := by decide +kernel
theorem dL_isNeeded_241 : decode cL_isNeeded 241 = .ok (.iconst 3, 1) := by decide +kernel
theorem dL_isNeeded_242 : decode cL_isNeeded 242 = .ok (.if_icmp .ne 28, 3) := by decide +kernel
theorem dL_isNeeded_245 : decode cL_isNeeded 245 = .ok (.aload_n 0, 1) := by decide +kernel
theorem dL_isNeeded_246 : decode cL_isNeeded 246 = .ok (.bipush 48, 2) := by decide +kernel
theorem dL_isNeeded_248 : decode cL_isNeeded 248 = .ok (.iload 13, 2) := by decide +kernel
theorem dL_isNeeded_250 : decode cL_isNeeded 250 = .ok (.iadd, 1) := by decide +kernel
theorem dL_isNeeded_251 : decode cL_isNeeded 251 = .ok (.invokevirtual 58, 3) := by decide +kernel
theorem dL_isNeeded_254 : decode cL_isNeeded 254 = .ok (.iconst 4, 1) := by decide +kernel
theorem dL_isNeeded_255 : decode cL_isNeeded 255 = .ok (.if_icmp .ne 15, 3) := by decide +kernel
theorem dL_isNeeded_258 : decode cL_isNeeded 258 = .ok (.aload_n 0, 1) := by decide +kernel
theorem dL_isNeeded_259 : decode cL_isNeeded 259 = .ok (.invokevirtual 61, 3) := by decide +kernel
theorem dL_isNeeded_262 : decode cL_isNeeded 262 = .ok (.iconst 1, 1) := by decide +kernel
theorem dL_isNeeded_263 : decode cL_isNeeded 263 = .ok (.if_icmp .lt 7, 3) := by decide +kernel
theorem dL_isNeeded_266 : decode cL_isNeeded 266 = .ok (.iconst 1, 1) := by decide +kernel
theorem dL_isNeeded_267 : decode cL_isNeeded 267 = .ok (.goto 4, 3) := by decide +kernel
theorem dL_isNeeded_270 : decode cL_isNeeded 270 = .ok (.iconst 0, 1) := by decide +kernel
theorem dL_isNeeded_271 : decode cL_isNeeded 271 = .ok (.istore 9, 2) := by decide +kernel
theorem dL_isNeeded_273 : decode cL_isNeeded 273 = .ok (.iload 9, 2) := by decide +kernel
theorem dL_isNeeded_275 : decode cL_isNeeded 275 = .ok (.ifCond .eq 30, 3) := by decide +kernel
theorem dL_isNeeded_278 : decode cL_isNeeded 278 = .ok (.aload_n 0, 1) := by decide +kernel
theorem dL_isNeeded_279 : decode cL_isNeeded 279 = .ok (.iload_n 2, 1) := by decide +kernel
theorem dL_isNeeded_280 : decode cL_isNeeded 280 = .ok (.iconst 5, 1) := by decide +kernel
theorem dL_isNeeded_281 : decode cL_isNeeded 281 = .ok (.invokevirtual 14, 3) := by decide +kernel
theorem dL_isNeeded_284 : decode cL_isNeeded 284 = .ok (.iload 12, 2) := by decide +kernel
theorem dL_isNeeded_286 : decode cL_isNeeded 286 = .ok (.iload 13, 2) := by decide +kernel
theorem dL_isNeeded_288 : decode cL_isNeeded 288 = .ok (.iload_n 3, 1) := by decide +kernel
theorem dL_isNeeded_289 : decode cL_isNeeded 289 = .ok (.if_icmp .ne 7, 3) := by decide +kernel
theorem dL_isNeeded_292 : decode cL_isNeeded 292 = .ok (.iconst 1, 1) := by decide +kernel
theorem dL_isNeeded_293 : decode cL_isNeeded 293 = .ok (.goto 4, 3) := by decide +kernel
theorem dL_isNeeded_296 : decode cL_isNeeded 296 = .ok (.iconst 0, 1) := by decide +kernel
theorem dL_isNeeded_297 : decode cL_isNeeded 297 = .ok (.iadd, 1) := by decide +kernel
theorem dL_isNeeded_298 : decode cL_isNeeded 298 = .ok (.if_icmp .ne 7, 3) := by decide +kernel
theorem dL_isNeeded_301 : decode cL_isNeeded 301 = .ok (.iconst 1, 1) := by decide +kernel
theorem dL_isNeeded_302 : decode cL_isNeeded 302 = .ok (.goto 4, 3) := by decide +kernel
theorem dL_isNeeded_305 : decode cL_isNeeded 305 = .ok (.iconst 0, 1) := by decide +kernel
theorem dL_isNeeded_306 : decode cL_isNeeded 306 = .ok (.istore 9, 2) := by decide +kernel
theorem dL_isNeeded_308 : decode cL_isNeeded 308 = .ok (.iinc 13 1, 3) := by decide +kernel
theorem dL_isNeeded_311 : decode cL_isNeeded 311 = .ok (.goto (-122), 3) := by decide +kernel
theorem dL_isNeeded_314 : decode cL_isNeeded 314 = .ok (.iload 9, 2) := by decide +kernel
theorem dL_isNeeded_316 : decode cL_isNeeded 316 = .ok (.ifCond .eq 22, 3) := by decide +kernel
theorem dL_isNeeded_319 : decode cL_isNeeded 319 = .ok (.iload 11, 2) := by decide +kernel
theorem dL_isNeeded_321 : decode cL_isNeeded 321 = .ok (.ifCond .lt 17, 3) := by decide +kernel
theorem dL_isNeeded_324 : decode cL_isNeeded 324 = .ok (.aload_n 0, 1) := by decide +kernel
theorem dL_isNeeded_325 : decode cL_isNeeded 325 = .ok (.iconst 0, 1) := by decide +kernel
theorem dL_isNeeded_326 : decode cL_isNeeded 326 = .ok (.invokevirtual 64, 3) := by decide +kernel
theorem dL_isNeeded_329 : decode cL_isNeeded 329 = .ok (.iload 10, 2) := by decide +kernel
theorem dL_isNeeded_331 : decode cL_isNeeded 331 = .ok (.if_icmp .ne 7, 3) := by decide +kernel
theorem dL_isNeeded_334 : decode cL_isNeeded 334 = .ok (.iconst 1, 1) := by decide +kernel
theorem dL_isNeeded_335 : decode cL_isNeeded 335 = .ok (.goto 4, 3) := by decide +kernel
theorem dL_isNeeded_338 : decode cL_isNeeded 338 = .ok (.iconst 0, 1) := by decide +kernel
theorem dL_isNeeded_339 : decode cL_isNeeded 339 = .ok (.ireturn, 1) := by decide +kernel
set_option maxRecDepth 20000 in
theorem ggL_does_L_low : GoodIn wsL_does wsL_low := goodIn_r _ [4, 5] (by decide +kernel) (by decide +kernel)
set_option maxRecDepth 20000 in
theorem gL_does_L_low : GoodIn wsL_does (va_wsS RL 67 yL_low wsL_low) := goodIn_app (goodIn_of _ (by decide +kernel)) ggL_does_L_low
set_option maxRecDepth 20000 in
theorem ggL_does_X4_squareOf : GoodIn wsL_does wsX4_squareOf := goodIn_ca (goodIn_ca (goodIn_r _ [10, 11, 12, 13, 14, 15, 16, 17, 9, 18, 19, 20, 21, 22, 23, 24, 25, 26, 27, 28, 29, 30, 31, 32, 33, 34, 35, 36, 37, 38, 39, 40, 41, 42, 43, 44, 45, 46, 47, 48, 49, 50, 51, 52, 53, 54, 55, 56, 57, 58, 59, 60, 269, 270, 271, 272, 273, 274, 275, 276, 277, 278, 279, 280, 281] (by decide +kernel) (by decide +kernel)) (goodIn_sub (fun _ h => List.mem_cons_of_mem _ (List.mem_append_left _ (List.mem_append_left _ (List.mem_append_right _ h)))) (by decide +kernel))) (goodIn_sub (fun _ h => List.mem_cons_of_mem _ (List.mem_append_left _ (List.mem_append_right _ h))) (by decide +kernel))
set_option maxRecDepth 20000 in
theorem gL_does_X4_squareOf : GoodIn wsL_does (wsV RL 14 RX4 yX4_squareOf wsX4_squareOf) := goodIn_app (goodIn_of _ (by decide +kernel)) ggL_does_X4_squareOf
set_option maxRecDepth 20000 in
theorem ggL_does_X4_tear : GoodIn wsL_does wsX4_tear := goodIn_ca (goodIn_r _ [64, 11, 12, 65, 15, 16, 17, 9, 18, 66, 67, 68, 69, 70, 71, 72, 73, 74, 75, 76, 77, 78, 79, 80, 22, 81, 24, 82, 83, 84, 85, 51, 86, 87, 50, 88, 89, 90, 91, 92, 93, 94, 269, 270, 271, 272, 273, 274, 275, 276, 277, 278, 279, 280, 281, 282, 283, 284] (by decide +kernel) (by decide +kernel)) (goodIn_sub (fun _ h => List.mem_cons_of_mem _ (List.mem_append_left _ (List.mem_append_left _ (List.mem_append_right _ h)))) (by decide +kernel))
set_option maxRecDepth 20000 in
theorem gL_does_X4_tear : GoodIn wsL_does (wsV RL 55 RX4 yX4_tear wsX4_tear) := goodIn_app (goodIn_of _ (by decide +kernel)) ggL_does_X4_tear
set_option maxRecDepth 20000 in
theorem ggL_does_X4_crowd : GoodIn wsL_does wsX4_crowd := goodIn_ca (goodIn_ca (goodIn_r _ [98, 11, 12, 13, 14, 65, 15, 16, 17, 9, 18, 66, 67, 68, 69, 70, 71, 72, 73, 74, 75, 76, 77, 78, 79, 80, 22, 81, 24, 82, 83, 84, 85, 51, 86, 87, 50, 88, 89, 90, 269, 270, 271, 272, 273, 274, 275, 276, 277, 278, 279, 280, 281, 282, 283, 284] (by decide +kernel) (by decide +kernel)) (goodIn_sub (fun _ h => List.mem_cons_of_mem _ (List.mem_append_left _ (List.mem_append_left _ (List.mem_append_right _ h)))) (by decide +kernel))) (goodIn_sub (fun _ h => List.mem_cons_of_mem _ (List.mem_append_left _ (List.mem_append_right _ h))) (by decide +kernel))
set_option maxRecDepth 20000 in
theorem gL_does_X4_crowd : GoodIn wsL_does (wsV RL 72 RX4 yX4_crowd wsX4_crowd) := goodIn_app (goodIn_of _ (by decide +kernel)) ggL_does_X4_crowd
set_option maxRecDepth 20000 in
theorem ggL_does_X4_count : GoodIn wsL_does wsX4_count := goodIn_ca (goodIn_r _ [102, 13, 14, 15, 65, 103, 26, 27, 28, 104, 30, 31, 105, 106, 107, 22, 108, 60, 20, 21, 23, 24, 25, 29, 32, 33, 34, 35, 36, 37, 109, 110, 111, 112, 113, 114, 115, 116, 51, 117, 118, 119, 120, 86, 269, 270, 271, 272, 273, 274, 275, 276, 277, 278, 279, 280, 281, 282, 283, 284] (by decide +kernel) (by decide +kernel)) (goodIn_sub (fun _ h => List.mem_cons_of_mem _ (List.mem_append_left _ (List.mem_append_right _ h))) (by decide +kernel))
set_option maxRecDepth 20000 in
theorem gL_does_X4_count : GoodIn wsL_does (wsV RL 8 RX4 yX4_count wsX4_count) := goodIn_app (goodIn_of _ (by decide +kernel)) ggL_does_X4_count
set_option maxRecDepth 20000 in
theorem ggL_does_X4_hour : GoodIn wsL_does wsX4_hour := goodIn_ca (goodIn_r _ [124, 13, 14, 65, 15, 66, 67, 68, 69, 70, 71, 72, 73, 74, 75, 76, 77, 78, 79, 80, 22, 81, 24, 82, 83, 84, 85, 51, 86, 87, 50, 88, 89, 90, 269, 270, 271, 272, 273, 274, 275, 276, 277, 278, 279, 280, 281, 282, 283, 284] (by decide +kernel) (by decide +kernel)) (goodIn_sub (fun _ h => List.mem_cons_of_mem _ (List.mem_append_left _ (List.mem_append_right _ h))) (by decide +kernel))
set_option maxRecDepth 20000 in
theorem gL_does_X4_hour : GoodIn wsL_does (wsV RL 40 RX4 yX4_hour wsX4_hour) := goodIn_app (goodIn_of _ (by decide +kernel)) ggL_does_X4_hour
set_option maxRecDepth 20000 in
theorem ggL_does_L_isTurn : GoodIn wsL_does wsL_isTurn := goodIn_ca (goodIn_ca (goodIn_r _ [127, 99, 100, 101, 9, 102, 13, 14, 15, 65, 103, 26, 27, 28, 104, 30, 31, 105, 106, 107, 22, 108, 60, 20, 21, 23, 24, 25, 29, 32, 33, 34, 35, 36, 37, 109, 110, 111, 112, 113, 114, 115, 116, 51, 117, 118, 119, 120, 86, 128, 129, 130, 131, 11, 12, 132, 133, 134, 135, 136, 137, 138, 139, 140, 50, 141, 142, 143, 144, 145, 146, 147, 148, 149, 47, 48, 49, 150, 151, 152, 153, 16, 17, 18, 154, 155, 156, 157, 88, 6, 7, 8, 10, 19, 38, 39, 40, 41, 42, 43, 44, 45, 46, 52, 53, 54, 55, 56, 57, 58, 59, 158, 159, 160, 161, 162, 163, 164, 165, 166, 167, 92, 93, 94, 168, 169, 170, 171, 172, 66, 67, 68, 69, 70, 71, 72, 73, 74, 75, 76, 77, 78, 79, 80, 81, 82, 83, 84, 85, 87, 89, 90, 173, 174, 175, 176, 177, 178, 179, 180, 91, 121, 122, 123, 124, 269, 270, 271, 272, 273, 274, 275, 276, 277, 278, 279, 280, 281, 282, 283, 284] (by decide +kernel) (by decide +kernel)) (goodIn_sub (fun _ h => List.mem_cons_of_mem _ (List.mem_append_left _ (List.mem_append_right _ h))) (by decide +kernel))) (goodIn_sub (fun _ h => List.mem_cons_of_mem _ (List.mem_append_left _ (List.mem_append_left _ (List.mem_append_right _ h)))) (by decide +kernel))
set_option maxRecDepth 20000 in
theorem gL_does_L_isTurn : GoodIn wsL_does (va_wsS RL 75 yL_isTurn wsL_isTurn) := goodIn_app (goodIn_of _ (by decide +kernel)) ggL_does_L_isTurn
set_option maxRecDepth 20000 in
theorem ggL_does_L_isNeeded : GoodIn wsL_does wsL_isNeeded := goodIn_ca (goodIn_ca (goodIn_ca (goodIn_r _ [183, 184, 185, 186, 9, 187, 11, 12, 15, 16, 17, 18, 103, 26, 27, 28, 188, 189, 190, 191, 33, 34, 192, 36, 37, 104, 30, 31, 99, 100, 101, 102, 13, 14, 65, 105, 106, 107, 22, 108, 60, 20, 21, 23, 24, 25, 29, 32, 35, 109, 110, 111, 112, 113, 114, 115, 116, 51, 117, 118, 119, 120, 86, 6, 7, 8, 10, 19, 38, 39, 40, 41, 42, 43, 44, 45, 46, 47, 48, 49, 50, 52, 53, 54, 55, 56, 57, 58, 59, 193, 194, 195, 196, 197, 198, 199, 79, 80, 81, 82, 83, 84, 85, 87, 88, 89, 90, 61, 62, 63, 64, 66, 67, 68, 69, 70, 71, 72, 73, 74, 75, 76, 77, 78, 91, 92, 93, 94, 200, 201, 202, 203, 204, 205, 206, 207, 208, 209, 210, 211, 212, 213, 214, 215, 216, 217, 218, 219, 220, 221, 222, 223, 224, 225, 226, 227, 228, 229, 230, 231, 232, 233, 234, 235, 236, 237, 238, 239, 240, 241, 242, 243, 244, 245, 246, 247, 248, 249, 250, 251, 252, 253, 254, 255, 256, 257, 258, 259, 260, 261, 262, 263, 264, 269, 270, 271, 272, 273, 274, 275, 276, 277, 278, 279, 280, 281, 282, 283, 284, 285, 286] (by decide +kernel) (by decide +kernel)) (goodIn_sub (fun _ h => List.mem_cons_of_mem _ (List.mem_append_left _ (List.mem_append_left _ (List.mem_append_right _ h)))) (by decide +kernel))) (goodIn_sub (fun _ h => List.mem_cons_of_mem _ (List.mem_append_left _ (List.mem_append_right _ h))) (by decide +kernel))) (goodIn_sub (fun _ h => List.mem_cons_of_mem _ (List.mem_append_right _ h)) (by decide +kernel))
set_option maxRecDepth 20000 in
theorem gL_does_L_isNeeded : GoodIn wsL_does (va_wsS RL 79 yL_isNeeded wsL_isNeeded) := goodIn_app (goodIn_of _ (by decide +kernel)) ggL_does_L_isNeeded
set_option maxRecDepth 20000 in
theorem ggL_does_X4_bestSquare : GoodIn wsL_does wsX4_bestSquare := goodIn_r _ [268, 15, 162, 163, 164, 22, 165, 51, 24, 88, 166, 155, 156, 157, 50, 60, 20, 21, 23, 25, 26, 27, 28, 29, 30, 31, 32, 33, 34, 35, 36, 37, 167, 92, 93, 94, 168, 142, 143, 144, 86, 269, 270, 271, 272, 273, 274, 275, 276, 277, 278, 279, 280, 281] (by decide +kernel) (by decide +kernel)
set_option maxRecDepth 20000 in
theorem gL_does_X4_bestSquare : GoodIn wsL_does (wsV RL 43 RX4 yX4_bestSquare wsX4_bestSquare) := goodIn_app (goodIn_of _ (by decide +kernel)) ggL_does_X4_bestSquare
theorem dL_does_0 : decode cL_does 0 = .ok (.iload_n 1, 1) := by decide +kernel
theorem dL_does_1 : decode cL_does 1 = .ok (.iconst 4, 1) := by decide +kernel
theorem dL_does_2 : decode cL_does 2 = .ok (.ishr, 1) := by decide +kernel
theorem dL_does_3 : decode cL_does 3 = .ok (.bipush 36, 2) := by decide +kernel
theorem dL_does_5 : decode cL_does 5 = .ok (.invokestatic 67, 3) := by decide +kernel
theorem dL_does_8 : decode cL_does 8 = .ok (.istore_n 3, 1) := by decide +kernel
theorem dL_does_9 : decode cL_does 9 = .ok (.iload_n 1, 1) := by decide +kernel
theorem dL_does_10 : decode cL_does 10 = .ok (.bipush 14, 2) := by decide +kernel
theorem dL_does_12 : decode cL_does 12 = .ok (.invokestatic 67, 3) := by decide +kernel
theorem dL_does_15 : decode cL_does 15 = .ok (.tableswitch 215 0 6 #[41, 81, 126, 168, 175, 187, 187], 41) := by decide +kernel
theorem dL_does_56 : decode cL_does 56 = .ok (.aload_n 0, 1) := by decide +kernel
theorem dL_does_57 : decode cL_does 57 = .ok (.iload_n 3, 1) := by decide +kernel
theorem dL_does_58 : decode cL_does 58 = .ok (.iconst 0, 1) := by decide +kernel
theorem dL_does_59 : decode cL_does 59 = .ok (.invokevirtual 14, 3) := by decide +kernel
theorem dL_does_62 : decode cL_does 62 = .ok (.istore 4, 2) := by decide +kernel
theorem dL_does_64 : decode cL_does 64 = .ok (.iload_n 2, 1) := by decide +kernel
theorem dL_does_65 : decode cL_does 65 = .ok (.iconst 1, 1) := by decide +kernel
theorem dL_does_66 : decode cL_does 66 = .ok (.iand, 1) := by decide +kernel
theorem dL_does_67 : decode cL_does 67 = .ok (.ifCond .eq 23, 3) := by decide +kernel
theorem dL_does_70 : decode cL_does 70 = .ok (.aload_n 0, 1) := by decide +kernel
theorem dL_does_71 : decode cL_does 71 = .ok (.iload_n 3, 1) := by decide +kernel
theorem dL_does_72 : decode cL_does 72 = .ok (.invokevirtual 55, 3) := by decide +kernel
theorem dL_does_75 : decode cL_does 75 = .ok (.iload 4, 2) := by decide +kernel
theorem dL_does_77 : decode cL_does 77 = .ok (.if_icmp .ne 17, 3) := by decide +kernel
theorem dL_does_80 : decode cL_does 80 = .ok (.aload_n 0, 1) := by decide +kernel
theorem dL_does_81 : decode cL_does 81 = .ok (.iload_n 3, 1) := by decide +kernel
theorem dL_does_82 : decode cL_does 82 = .ok (.iconst 1, 1) := by decide +kernel
theorem dL_does_83 : decode cL_does 83 = .ok (.invokevirtual 14, 3) := by decide +kernel
theorem dL_does_86 : decode cL_does 86 = .ok (.iconst (-1), 1) := by decide +kernel
theorem dL_does_87 : decode cL_does 87 = .ok (.if_icmp .ne 7, 3) := by decide +kernel
theorem dL_does_90 : decode cL_does 90 = .ok (.iconst 1, 1) := by decide +kernel
theorem dL_does_91 : decode cL_does 91 = .ok (.goto 4, 3) := by decide +kernel
theorem dL_does_94 : decode cL_does 94 = .ok (.iconst 0, 1) := by decide +kernel
theorem dL_does_95 : decode cL_does 95 = .ok (.ireturn, 1) := by decide +kernel
theorem dL_does_96 : decode cL_does 96 = .ok (.aload_n 0, 1) := by decide +kernel
theorem dL_does_97 : decode cL_does 97 = .ok (.iload_n 3, 1) := by decide +kernel
theorem dL_does_98 : decode cL_does 98 = .ok (.iconst 2, 1) := by decide +kernel
theorem dL_does_99 : decode cL_does 99 = .ok (.invokevirtual 14, 3) := by decide +kernel
theorem dL_does_102 : decode cL_does 102 = .ok (.istore 5, 2) := by decide +kernel
theorem dL_does_104 : decode cL_does 104 = .ok (.aload_n 0, 1) := by decide +kernel
theorem dL_does_105 : decode cL_does 105 = .ok (.iload_n 3, 1) := by decide +kernel
theorem dL_does_106 : decode cL_does 106 = .ok (.iload_n 2, 1) := by decide +kernel
theorem dL_does_107 : decode cL_does 107 = .ok (.bipush 10, 2) := by decide +kernel
theorem dL_does_109 : decode cL_does 109 = .ok (.invokestatic 67, 3) := by decide +kernel
theorem dL_does_112 : decode cL_does 112 = .ok (.invokevirtual 72, 3) := by decide +kernel
theorem dL_does_115 : decode cL_does 115 = .ok (.iload 5, 2) := by decide +kernel
theorem dL_does_117 : decode cL_does 117 = .ok (.if_icmp .ne 22, 3) := by decide +kernel
theorem dL_does_120 : decode cL_does 120 = .ok (.aload_n 0, 1) := by decide +kernel
theorem dL_does_121 : decode cL_does 121 = .ok (.iload_n 3, 1) := by decide +kernel
theorem dL_does_122 : decode cL_does 122 = .ok (.iconst 2, 1) := by decide +kernel
theorem dL_does_123 : decode cL_does 123 = .ok (.invokevirtual 14, 3) := by decide +kernel
theorem dL_does_126 : decode cL_does 126 = .ok (.iload_n 2, 1) := by decide +kernel
theorem dL_does_127 : decode cL_does 127 = .ok (.bipush 10, 2) := by decide +kernel
theorem dL_does_129 : decode cL_does 129 = .ok (.invokestatic 67, 3) := by decide +kernel
theorem dL_does_132 : decode cL_does 132 = .ok (.if_icmp .ne 7, 3) := by decide +kernel
theorem dL_does_135 : decode cL_does 135 = .ok (.iconst 1, 1) := by decide +kernel
theorem dL_does_136 : decode cL_does 136 = .ok (.goto 4, 3) := by decide +kernel
theorem dL_does_139 : decode cL_does 139 = .ok (.iconst 0, 1) := by decide +kernel
theorem dL_does_140 : decode cL_does 140 = .ok (.ireturn, 1) := by decide +kernel
theorem dL_does_141 : decode cL_does 141 = .ok (.aload_n 0, 1) := by decide +kernel
theorem dL_does_142 : decode cL_does 142 = .ok (.iconst 0, 1) := by decide +kernel
theorem dL_does_143 : decode cL_does 143 = .ok (.invokevirtual 8, 3) := by decide +kernel
theorem dL_does_146 : decode cL_does 146 = .ok (.istore 6, 2) := by decide +kernel
theorem dL_does_148 : decode cL_does 148 = .ok (.aload_n 0, 1) := by decide +kernel
theorem dL_does_149 : decode cL_does 149 = .ok (.iload_n 2, 1) := by decide +kernel
theorem dL_does_150 : decode cL_does 150 = .ok (.bipush 12, 2) := by decide +kernel
theorem dL_does_152 : decode cL_does 152 = .ok (.invokestatic 67, 3) := by decide +kernel
theorem dL_does_155 : decode cL_does 155 = .ok (.invokevirtual 40, 3) := by decide +kernel
theorem dL_does_158 : decode cL_does 158 = .ok (.iload 6, 2) := by decide +kernel
theorem dL_does_160 : decode cL_does 160 = .ok (.if_icmp .ne 21, 3) := by decide +kernel
theorem dL_does_163 : decode cL_does 163 = .ok (.aload_n 0, 1) := by decide +kernel
theorem dL_does_164 : decode cL_does 164 = .ok (.iconst 0, 1) := by decide +kernel
theorem dL_does_165 : decode cL_does 165 = .ok (.invokevirtual 8, 3) := by decide +kernel
theorem dL_does_168 : decode cL_does 168 = .ok (.iload_n 2, 1) := by decide +kernel
theorem dL_does_169 : decode cL_does 169 = .ok (.bipush 12, 2) := by decide +kernel
theorem dL_does_171 : decode cL_does 171 = .ok (.invokestatic 67, 3) := by decide +kernel
theorem dL_does_174 : decode cL_does 174 = .ok (.if_icmp .ne 7, 3) := by decide +kernel
theorem dL_does_177 : decode cL_does 177 = .ok (.iconst 1, 1) := by decide +kernel
theorem dL_does_178 : decode cL_does 178 = .ok (.goto 4, 3) := by decide +kernel
theorem dL_does_181 : decode cL_does 181 = .ok (.iconst 0, 1) := by decide +kernel
theorem dL_does_182 : decode cL_does 182 = .ok (.ireturn, 1) := by decide +kernel
theorem dL_does_183 : decode cL_does 183 = .ok (.aload_n 0, 1) := by decide +kernel
theorem dL_does_184 : decode cL_does 184 = .ok (.iload_n 3, 1) := by decide +kernel
theorem dL_does_185 : decode cL_does 185 = .ok (.iconst 1, 1) := by decide +kernel
theorem dL_does_186 : decode cL_does 186 = .ok (.invokestatic 75, 3) := by decide +kernel
theorem dL_does_189 : decode cL_does 189 = .ok (.ireturn, 1) := by decide +kernel
theorem dL_does_190 : decode cL_does 190 = .ok (.aload_n 0, 1) := by decide +kernel
theorem dL_does_191 : decode cL_does 191 = .ok (.iload_n 2, 1) := by decide +kernel
theorem dL_does_192 : decode cL_does 192 = .ok (.bipush 36, 2) := by decide +kernel
theorem dL_does_194 : decode cL_does 194 = .ok (.invokestatic 67, 3) := by decide +kernel
theorem dL_does_197 : decode cL_does 197 = .ok (.iload_n 3, 1) := by decide +kernel
theorem dL_does_198 : decode cL_does 198 = .ok (.invokestatic 79, 3) := by decide +kernel
theorem dL_does_201 : decode cL_does 201 = .ok (.ireturn, 1) := by decide +kernel
theorem dL_does_202 : decode cL_does 202 = .ok (.aload_n 0, 1) := by decide +kernel
theorem dL_does_203 : decode cL_does 203 = .ok (.invokevirtual 43, 3) := by decide +kernel
theorem dL_does_206 : decode cL_does 206 = .ok (.istore 7, 2) := by decide +kernel
theorem dL_does_208 : decode cL_does 208 = .ok (.iload 7, 2) := by decide +kernel
theorem dL_does_210 : decode cL_does 210 = .ok (.iconst (-1), 1) := by decide +kernel
theorem dL_does_211 : decode cL_does 211 = .ok (.if_icmp .eq 13, 3) := by decide +kernel
theorem dL_does_214 : decode cL_does 214 = .ok (.aload_n 0, 1) := by decide +kernel
theorem dL_does_215 : decode cL_does 215 = .ok (.iload 7, 2) := by decide +kernel
theorem dL_does_217 : decode cL_does 217 = .ok (.iconst 0, 1) := by decide +kernel
theorem dL_does_218 : decode cL_does 218 = .ok (.invokestatic 75, 3) := by decide +kernel
theorem dL_does_221 : decode cL_does 221 = .ok (.ifCond .eq 7, 3) := by decide +kernel
theorem dL_does_224 : decode cL_does 224 = .ok (.iconst 1, 1) := by decide +kernel
theorem dL_does_225 : decode cL_does 225 = .ok (.goto 4, 3) := by decide +kernel
theorem dL_does_228 : decode cL_does 228 = .ok (.iconst 0, 1) := by decide +kernel
theorem dL_does_229 : decode cL_does 229 = .ok (.ireturn, 1) := by decide +kernel
theorem dL_does_230 : decode cL_does 230 = .ok (.aload_n 0, 1) := by decide +kernel
theorem dL_does_231 : decode cL_does 231 = .ok (.iload_n 3, 1) := by decide +kernel
theorem dL_does_232 : decode cL_does 232 = .ok (.iconst 0, 1) := by decide +kernel
theorem dL_does_233 : decode cL_does 233 = .ok (.invokestatic 75, 3) := by decide +kernel
theorem dL_does_236 : decode cL_does 236 = .ok (.ireturn, 1) := by decide +kernel
set_option maxRecDepth 20000 in
theorem ggL_law_X4_init : GoodIn wsL_law wsX4_init := goodIn_r _ [5, 6, 7, 8, 9, 10, 11, 12, 13, 14, 15, 16, 17, 18, 19, 20, 21, 22, 23, 24, 25, 26, 27, 28, 29, 30, 31, 32, 33, 34, 35, 36, 37, 38, 39, 40, 324, 325, 326, 327, 328, 329, 330, 331, 319, 320, 321, 322, 323, 332, 333, 334, 335, 336] (by decide +kernel) (by decide +kernel)
set_option maxRecDepth 20000 in
theorem gL_law_X4_init : GoodIn wsL_law (wsX4_init) := ggL_law_X4_init
set_option maxRecDepth 20000 in
theorem ggL_law_L_isField : GoodIn wsL_law wsL_isField := goodIn_ca (goodIn_ca (goodIn_r _ [44, 45, 46, 47, 48, 2, 49, 50, 51, 12, 20, 52, 53, 54, 55, 56, 57, 58, 59, 60, 61, 11, 62, 63, 64, 65, 66, 29, 67, 68, 69, 70, 71, 72, 73, 74, 75, 76, 77, 78, 79, 80, 81, 82, 30, 83, 84, 85, 86, 31, 87, 88, 89, 90, 91, 92, 93, 94, 95, 96, 97, 98, 99, 100, 101, 102, 103, 104, 105, 106, 107, 108, 109, 110, 111, 112, 113, 114, 115, 116, 117, 118, 119, 120, 121, 122, 123, 124, 125, 126, 127, 128, 129, 130, 131, 132, 133, 134, 135, 136, 137, 138, 139, 140, 141, 142, 143, 144, 145, 146, 147, 148, 149, 150, 151, 152, 153, 319, 320, 321, 322, 323, 324, 325, 326, 327, 328, 329, 330, 331, 334, 335, 336] (by decide +kernel) (by decide +kernel)) (goodIn_sub (fun _ h => List.mem_append_left _ (List.mem_append_left _ (List.mem_append_right _ h))) (by decide +kernel))) (goodIn_sub (fun _ h => List.mem_append_left _ (List.mem_append_right _ h)) (by decide +kernel))
set_option maxRecDepth 20000 in
theorem gL_law_L_isField : GoodIn wsL_law (va_wsS RL 84 yL_isField wsL_isField) := goodIn_app (goodIn_of _ (by decide +kernel)) ggL_law_L_isField
set_option maxRecDepth 20000 in
theorem ggL_law_X4_count : GoodIn wsL_law wsX4_count := goodIn_ca (goodIn_r _ [49, 50, 51, 12, 20, 52, 53, 54, 55, 56, 57, 58, 59, 60, 61, 11, 62, 63, 64, 65, 66, 29, 67, 68, 69, 70, 71, 72, 73, 74, 75, 76, 77, 78, 79, 80, 81, 82, 30, 83, 84, 85, 86, 31, 319, 320, 321, 322, 323, 324, 325, 326, 327, 328, 329, 330, 331, 334, 335, 336] (by decide +kernel) (by decide +kernel)) (goodIn_sub (fun _ h => List.mem_append_left _ (List.mem_append_left _ (List.mem_append_right _ h))) (by decide +kernel))
set_option maxRecDepth 20000 in
theorem gL_law_X4_count : GoodIn wsL_law (wsV RL 8 RX4 yX4_count wsX4_count) := goodIn_app (goodIn_of _ (by decide +kernel)) ggL_law_X4_count
set_option maxRecDepth 20000 in
theorem ggL_law_X4_bestSquare : GoodIn wsL_law wsX4_bestSquare := goodIn_r _ [157, 12, 158, 159, 160, 11, 161, 30, 29, 126, 162, 123, 124, 125, 109, 63, 64, 65, 66, 67, 53, 54, 55, 68, 57, 58, 69, 70, 71, 72, 73, 74, 163, 164, 165, 166, 167, 146, 147, 148, 31, 319, 320, 321, 322, 323, 324, 325, 326, 327, 328, 329, 330, 331] (by decide +kernel) (by decide +kernel)
set_option maxRecDepth 20000 in
theorem gL_law_X4_bestSquare : GoodIn wsL_law (wsV RL 43 RX4 yX4_bestSquare wsX4_bestSquare) := goodIn_app (goodIn_of _ (by decide +kernel)) ggL_law_X4_bestSquare
set_option maxRecDepth 20000 in
theorem ggL_law_X4_darkestHour : GoodIn wsL_law wsX4_darkestHour := goodIn_r _ [171, 12, 59, 60, 61, 11, 62, 63, 64, 65, 66, 29, 67, 53, 54, 55, 68, 57, 58, 69, 70, 71, 72, 73, 74, 319, 320, 321, 322, 323, 324, 325, 326, 327, 328, 329, 330, 331] (by decide +kernel) (by decide +kernel)
set_option maxRecDepth 20000 in
theorem gL_law_X4_darkestHour : GoodIn wsL_law (wsV RL 46 RX4 yX4_darkestHour wsX4_darkestHour) := goodIn_app (goodIn_of _ (by decide +kernel)) ggL_law_X4_darkestHour
set_option maxRecDepth 20000 in
theorem ggL_law_L_cell : GoodIn wsL_law wsL_cell := goodIn_r _ [174] (by decide +kernel) (by decide +kernel)
set_option maxRecDepth 20000 in
theorem gL_law_L_cell : GoodIn wsL_law (va_wsS RL 88 yL_cell wsL_cell) := goodIn_app (goodIn_of _ (by decide +kernel)) ggL_law_L_cell
set_option maxRecDepth 20000 in
theorem ggL_law_L_does : GoodIn wsL_law wsL_does := goodIn_ca (goodIn_ca (goodIn_ca (goodIn_r _ [177, 178, 179, 43, 180, 181, 87, 88, 89, 2, 90, 91, 92, 50, 51, 12, 93, 94, 95, 96, 64, 65, 11, 66, 29, 67, 53, 54, 55, 68, 57, 58, 69, 70, 71, 72, 73, 74, 97, 98, 99, 100, 101, 102, 103, 104, 105, 106, 107, 108, 109, 30, 110, 111, 112, 113, 114, 115, 116, 117, 63, 182, 183, 184, 185, 20, 186, 187, 188, 19, 189, 40, 190, 191, 192, 193, 194, 195, 196, 197, 198, 199, 200, 201, 202, 203, 31, 32, 126, 204, 205, 206, 164, 165, 166, 207, 208, 209, 210, 46, 47, 48, 49, 52, 56, 59, 60, 61, 62, 75, 76, 77, 78, 79, 80, 81, 82, 83, 84, 85, 86, 211, 212, 213, 214, 215, 216, 217, 132, 133, 134, 135, 136, 137, 138, 139, 140, 141, 142, 143, 144, 145, 146, 147, 148, 149, 150, 151, 152, 153, 118, 119, 120, 121, 122, 123, 124, 125, 218, 219, 220, 221, 158, 159, 160, 161, 162, 163, 167, 222, 223, 224, 225, 226, 227, 228, 229, 230, 231, 232, 233, 234, 235, 236, 237, 238, 239, 240, 241, 242, 243, 244, 245, 246, 247, 248, 249, 22, 24, 250, 251, 252, 253, 254, 255, 256, 16, 257, 258, 259, 15, 260, 261, 262, 263, 264, 265, 36, 266, 267, 268, 269, 270, 271, 272, 273, 274, 275, 276, 277, 278, 279, 280, 281, 282, 283, 284, 285, 286, 287, 288, 289, 290, 291, 292, 293, 294, 295, 296, 297, 298, 299, 300, 301, 302, 303, 304, 305, 306, 307, 308, 309, 310, 311, 312, 154, 155, 156, 157, 319, 320, 321, 322, 323, 324, 325, 326, 327, 328, 329, 330, 331, 334, 335, 336, 332, 333] (by decide +kernel) (by decide +kernel)) (goodIn_sub (fun _ h => List.mem_append_left _ (List.mem_append_right _ h)) (by decide +kernel))) (goodIn_sub (fun _ h => List.mem_append_left _ (List.mem_append_left _ (List.mem_append_right _ h))) (by decide +kernel))) (goodIn_sub (fun _ h => List.mem_append_right _ h) (by decide +kernel))
set_option maxRecDepth 20000 in
theorem gL_law_L_does : GoodIn wsL_law (va_wsS RL 92 yL_does wsL_does) := goodIn_app (goodIn_of _ (by decide +kernel)) ggL_law_L_does
set_option maxRecDepth 20000 in
theorem ggL_law_L_arePlayers : GoodIn wsL_law wsL_arePlayers := goodIn_ca (goodIn_ca (goodIn_r _ [315, 87, 88, 89, 2, 90, 91, 92, 50, 51, 12, 93, 94, 95, 96, 64, 65, 11, 66, 29, 67, 53, 54, 55, 68, 57, 58, 69, 70, 71, 72, 73, 74, 97, 98, 99, 100, 101, 102, 103, 104, 105, 106, 107, 108, 109, 30, 110, 111, 112, 113, 114, 115, 116, 117, 63, 132, 133, 134, 135, 136, 80, 81, 82, 137, 138, 139, 140, 141, 142, 143, 144, 145, 146, 147, 148, 31, 149, 150, 151, 152, 153, 319, 320, 321, 322, 323, 324, 325, 326, 327, 328, 329, 330, 331] (by decide +kernel) (by decide +kernel)) (goodIn_sub (fun _ h => List.mem_append_left _ (List.mem_append_right _ h)) (by decide +kernel))) (goodIn_sub (fun _ h => List.mem_append_left _ (List.mem_append_left _ (List.mem_append_right _ h))) (by decide +kernel))
set_option maxRecDepth 20000 in
theorem gL_law_L_arePlayers : GoodIn wsL_law (va_wsS RL 95 yL_arePlayers wsL_arePlayers) := goodIn_app (goodIn_of _ (by decide +kernel)) ggL_law_L_arePlayers
set_option maxRecDepth 20000 in
theorem ggL_law_L_isBest : GoodIn wsL_law wsL_isBest := goodIn_ca (goodIn_ca (goodIn_r _ [318, 154, 155, 156, 2, 157, 12, 158, 159, 160, 11, 161, 30, 29, 126, 162, 123, 124, 125, 109, 63, 64, 65, 66, 67, 53, 54, 55, 68, 57, 58, 69, 70, 71, 72, 73, 74, 163, 164, 165, 166, 167, 146, 147, 148, 31, 218, 219, 220, 221, 91, 92, 93, 94, 95, 118, 119, 120, 121, 122, 46, 47, 48, 49, 50, 51, 20, 52, 56, 59, 60, 61, 62, 75, 76, 77, 78, 79, 80, 81, 82, 83, 84, 85, 86, 211, 212, 213, 214, 186, 187, 188, 19, 189, 40, 190, 191, 192, 193, 194, 195, 196, 197, 198, 199, 200, 201, 202, 203, 32, 204, 205, 87, 88, 89, 90, 96, 97, 98, 99, 100, 101, 102, 103, 104, 105, 106, 107, 108, 110, 111, 112, 113, 114, 115, 116, 117, 168, 169, 170, 171, 319, 320, 321, 322, 323, 324, 325, 326, 327, 328, 329, 330, 331, 334, 335, 336] (by decide +kernel) (by decide +kernel)) (goodIn_sub (fun _ h => List.mem_append_left _ (List.mem_append_right _ h)) (by decide +kernel))) (goodIn_sub (fun _ h => List.mem_append_left _ (List.mem_append_left _ (List.mem_append_right _ h))) (by decide +kernel))
set_option maxRecDepth 20000 in
theorem gL_law_L_isBest : GoodIn wsL_law (va_wsS RL 98 yL_isBest wsL_isBest) := goodIn_app (goodIn_of _ (by decide +kernel)) ggL_law_L_isBest
theorem dL_law_0 : decode cL_law 0 = .ok (.new 9, 3) := by decide +kernel
theorem dL_law_3 : decode cL_law 3 = .ok (.dup, 1) := by decide +kernel
theorem dL_law_4 : decode cL_law 4 = .ok (.invokespecial 83, 3) := by decide +kernel
theorem dL_law_7 : decode cL_law 7 = .ok (.astore_n 1, 1) := by decide +kernel
theorem dL_law_8 : decode cL_law 8 = .ok (.aload_n 1, 1) := by decide +kernel
theorem dL_law_9 : decode cL_law 9 = .ok (.invokestatic 84, 3) := by decide +kernel
theorem dL_law_12 : decode cL_law 12 = .ok (.ifCond .eq 37, 3) := by decide +kernel
theorem dL_law_15 : decode cL_law 15 = .ok (.aload_n 1, 1) := by decide +kernel
theorem dL_law_16 : decode cL_law 16 = .ok (.bipush 7, 2) := by decide +kernel
theorem dL_law_18 : decode cL_law 18 = .ok (.invokevirtual 8, 3) := by decide +kernel
theorem dL_law_21 : decode cL_law 21 = .ok (.bipush 36, 2) := by decide +kernel
theorem dL_law_23 : decode cL_law 23 = .ok (.if_icmp .ne 26, 3) := by decide +kernel
theorem dL_law_26 : decode cL_law 26 = .ok (.aload_n 1, 1) := by decide +kernel
theorem dL_law_27 : decode cL_law 27 = .ok (.invokevirtual 43, 3) := by decide +kernel
theorem dL_law_30 : decode cL_law 30 = .ok (.ifCond .ne 19, 3) := by decide +kernel
theorem dL_law_33 : decode cL_law 33 = .ok (.aload_n 1, 1) := by decide +kernel
theorem dL_law_34 : decode cL_law 34 = .ok (.invokevirtual 46, 3) := by decide +kernel
theorem dL_law_37 : decode cL_law 37 = .ok (.ifCond .ne 12, 3) := by decide +kernel
theorem dL_law_40 : decode cL_law 40 = .ok (.aload_n 1, 1) := by decide +kernel
theorem dL_law_41 : decode cL_law 41 = .ok (.bipush 9, 2) := by decide +kernel
theorem dL_law_43 : decode cL_law 43 = .ok (.invokevirtual 8, 3) := by decide +kernel
theorem dL_law_46 : decode cL_law 46 = .ok (.ifCond .eq 5, 3) := by decide +kernel
theorem dL_law_49 : decode cL_law 49 = .ok (.iconst 0, 1) := by decide +kernel
theorem dL_law_50 : decode cL_law 50 = .ok (.ireturn, 1) := by decide +kernel
theorem dL_law_51 : decode cL_law 51 = .ok (.iconst 0, 1) := by decide +kernel
theorem dL_law_52 : decode cL_law 52 = .ok (.istore_n 2, 1) := by decide +kernel
theorem dL_law_53 : decode cL_law 53 = .ok (.iload_n 2, 1) := by decide +kernel
theorem dL_law_54 : decode cL_law 54 = .ok (.bipush 120, 2) := by decide +kernel
theorem dL_law_56 : decode cL_law 56 = .ok (.if_icmp .ge 79, 3) := by decide +kernel
theorem dL_law_59 : decode cL_law 59 = .ok (.aload_n 1, 1) := by decide +kernel
theorem dL_law_60 : decode cL_law 60 = .ok (.aload_n 0, 1) := by decide +kernel
theorem dL_law_61 : decode cL_law 61 = .ok (.iconst 2, 1) := by decide +kernel
theorem dL_law_62 : decode cL_law 62 = .ok (.iload_n 2, 1) := by decide +kernel
theorem dL_law_63 : decode cL_law 63 = .ok (.imul, 1) := by decide +kernel
theorem dL_law_64 : decode cL_law 64 = .ok (.invokestatic 88, 3) := by decide +kernel
theorem dL_law_67 : decode cL_law 67 = .ok (.aload_n 0, 1) := by decide +kernel
theorem dL_law_68 : decode cL_law 68 = .ok (.iconst 2, 1) := by decide +kernel
theorem dL_law_69 : decode cL_law 69 = .ok (.iload_n 2, 1) := by decide +kernel
theorem dL_law_70 : decode cL_law 70 = .ok (.imul, 1) := by decide +kernel
theorem dL_law_71 : decode cL_law 71 = .ok (.iconst 1, 1) := by decide +kernel
theorem dL_law_72 : decode cL_law 72 = .ok (.iadd, 1) := by decide +kernel
theorem dL_law_73 : decode cL_law 73 = .ok (.invokestatic 88, 3) := by decide +kernel
theorem dL_law_76 : decode cL_law 76 = .ok (.invokestatic 92, 3) := by decide +kernel
theorem dL_law_79 : decode cL_law 79 = .ok (.ifCond .eq 48, 3) := by decide +kernel
theorem dL_law_82 : decode cL_law 82 = .ok (.iload_n 2, 1) := by decide +kernel
theorem dL_law_83 : decode cL_law 83 = .ok (.iconst 3, 1) := by decide +kernel
theorem dL_law_84 : decode cL_law 84 = .ok (.irem, 1) := by decide +kernel
theorem dL_law_85 : decode cL_law 85 = .ok (.iconst 1, 1) := by decide +kernel
theorem dL_law_86 : decode cL_law 86 = .ok (.if_icmp .ne 10, 3) := by decide +kernel
theorem dL_law_89 : decode cL_law 89 = .ok (.aload_n 1, 1) := by decide +kernel
theorem dL_law_90 : decode cL_law 90 = .ok (.invokestatic 84, 3) := by decide +kernel
theorem dL_law_93 : decode cL_law 93 = .ok (.ifCond .eq 34, 3) := by decide +kernel
theorem dL_law_96 : decode cL_law 96 = .ok (.iload_n 2, 1) := by decide +kernel
theorem dL_law_97 : decode cL_law 97 = .ok (.bipush 8, 2) := by decide +kernel
theorem dL_law_99 : decode cL_law 99 = .ok (.irem, 1) := by decide +kernel
theorem dL_law_100 : decode cL_law 100 = .ok (.iconst 5, 1) := by decide +kernel
theorem dL_law_101 : decode cL_law 101 = .ok (.if_icmp .ne 10, 3) := by decide +kernel
theorem dL_law_104 : decode cL_law 104 = .ok (.aload_n 1, 1) := by decide +kernel
theorem dL_law_105 : decode cL_law 105 = .ok (.invokestatic 95, 3) := by decide +kernel
theorem dL_law_108 : decode cL_law 108 = .ok (.ifCond .eq 19, 3) := by decide +kernel
theorem dL_law_111 : decode cL_law 111 = .ok (.iload_n 2, 1) := by decide +kernel
theorem dL_law_112 : decode cL_law 112 = .ok (.bipush 25, 2) := by decide +kernel
theorem dL_law_114 : decode cL_law 114 = .ok (.irem, 1) := by decide +kernel
theorem dL_law_115 : decode cL_law 115 = .ok (.bipush 16, 2) := by decide +kernel
theorem dL_law_117 : decode cL_law 117 = .ok (.if_icmp .ne 12, 3) := by decide +kernel
theorem dL_law_120 : decode cL_law 120 = .ok (.aload_n 1, 1) := by decide +kernel
theorem dL_law_121 : decode cL_law 121 = .ok (.invokestatic 98, 3) := by decide +kernel
theorem dL_law_124 : decode cL_law 124 = .ok (.ifCond .ne 5, 3) := by decide +kernel
theorem dL_law_127 : decode cL_law 127 = .ok (.iconst 0, 1) := by decide +kernel
theorem dL_law_128 : decode cL_law 128 = .ok (.ireturn, 1) := by decide +kernel
theorem dL_law_129 : decode cL_law 129 = .ok (.iinc 2 1, 3) := by decide +kernel
theorem dL_law_132 : decode cL_law 132 = .ok (.goto (-79), 3) := by decide +kernel
theorem dL_law_135 : decode cL_law 135 = .ok (.iconst 1, 1) := by decide +kernel
theorem dL_law_136 : decode cL_law 136 = .ok (.ireturn, 1) := by decide +kernel
abbrev vwCl : List vw_C := [(RX0, TX0, 8), (RX1, TX1, 2), (RX2, TX2, 3), (RX4, TX4, 5)]
