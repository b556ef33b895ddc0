theorem dX0_init_0 : decode cX0_init 0 = .ok (.aload_n 0, 1) := by decide +kernel
theorem dX0_init_1 : decode cX0_init 1 = .ok (.invokespecial 3, 3) := by decide +kernel
theorem dX0_init_4 : decode cX0_init 4 = .ok (.aload_n 0, 1) := by decide +kernel
theorem dX0_init_5 : decode cX0_init 5 = .ok (.bipush 36, 2) := by decide +kernel
theorem dX0_init_7 : decode cX0_init 7 = .ok (.newarray .int, 2) := by decide +kernel
theorem dX0_init_9 : decode cX0_init 9 = .ok (.putfield 9, 3) := by decide +kernel
theorem dX0_init_12 : decode cX0_init 12 = .ok (.aload_n 0, 1) := by decide +kernel
theorem dX0_init_13 : decode cX0_init 13 = .ok (.bipush 36, 2) := by decide +kernel
theorem dX0_init_15 : decode cX0_init 15 = .ok (.newarray .int, 2) := by decide +kernel
theorem dX0_init_17 : decode cX0_init 17 = .ok (.putfield 15, 3) := by decide +kernel
theorem dX0_init_20 : decode cX0_init 20 = .ok (.aload_n 0, 1) := by decide +kernel
theorem dX0_init_21 : decode cX0_init 21 = .ok (.bipush 36, 2) := by decide +kernel
theorem dX0_init_23 : decode cX0_init 23 = .ok (.newarray .int, 2) := by decide +kernel
theorem dX0_init_25 : decode cX0_init 25 = .ok (.putfield 18, 3) := by decide +kernel
theorem dX0_init_28 : decode cX0_init 28 = .ok (.aload_n 0, 1) := by decide +kernel
theorem dX0_init_29 : decode cX0_init 29 = .ok (.iconst 2, 1) := by decide +kernel
theorem dX0_init_30 : decode cX0_init 30 = .ok (.newarray .int, 2) := by decide +kernel
theorem dX0_init_32 : decode cX0_init 32 = .ok (.putfield 21, 3) := by decide +kernel
theorem dX0_init_35 : decode cX0_init 35 = .ok (.iconst 0, 1) := by decide +kernel
theorem dX0_init_36 : decode cX0_init 36 = .ok (.istore_n 1, 1) := by decide +kernel
theorem dX0_init_37 : decode cX0_init 37 = .ok (.iload_n 1, 1) := by decide +kernel
theorem dX0_init_38 : decode cX0_init 38 = .ok (.bipush 36, 2) := by decide +kernel
theorem dX0_init_40 : decode cX0_init 40 = .ok (.if_icmp .ge 23, 3) := by decide +kernel
theorem dX0_init_43 : decode cX0_init 43 = .ok (.aload_n 0, 1) := by decide +kernel
theorem dX0_init_44 : decode cX0_init 44 = .ok (.getfield 15, 3) := by decide +kernel
theorem dX0_init_47 : decode cX0_init 47 = .ok (.iload_n 1, 1) := by decide +kernel
theorem dX0_init_48 : decode cX0_init 48 = .ok (.iconst (-1), 1) := by decide +kernel
theorem dX0_init_49 : decode cX0_init 49 = .ok (.iastore, 1) := by decide +kernel
theorem dX0_init_50 : decode cX0_init 50 = .ok (.aload_n 0, 1) := by decide +kernel
theorem dX0_init_51 : decode cX0_init 51 = .ok (.getfield 18, 3) := by decide +kernel
theorem dX0_init_54 : decode cX0_init 54 = .ok (.iload_n 1, 1) := by decide +kernel
theorem dX0_init_55 : decode cX0_init 55 = .ok (.iconst 1, 1) := by decide +kernel
theorem dX0_init_56 : decode cX0_init 56 = .ok (.iastore, 1) := by decide +kernel
theorem dX0_init_57 : decode cX0_init 57 = .ok (.iinc 1 1, 3) := by decide +kernel
theorem dX0_init_60 : decode cX0_init 60 = .ok (.goto (-23), 3) := by decide +kernel
theorem dX0_init_63 : decode cX0_init 63 = .ok (.return_, 1) := by decide +kernel
theorem dX0_writeTo_0 : decode cX0_writeTo 0 = .ok (.aload_n 0, 1) := by decide +kernel
theorem dX0_writeTo_1 : decode cX0_writeTo 1 = .ok (.getfield 9, 3) := by decide +kernel
theorem dX0_writeTo_4 : decode cX0_writeTo 4 = .ok (.iconst 0, 1) := by decide +kernel
theorem dX0_writeTo_5 : decode cX0_writeTo 5 = .ok (.aload_n 1, 1) := by decide +kernel
theorem dX0_writeTo_6 : decode cX0_writeTo 6 = .ok (.iload_n 2, 1) := by decide +kernel
theorem dX0_writeTo_7 : decode cX0_writeTo 7 = .ok (.bipush 36, 2) := by decide +kernel
theorem dX0_writeTo_9 : decode cX0_writeTo 9 = .ok (.invokestatic 24, 3) := by decide +kernel
theorem dX0_writeTo_12 : decode cX0_writeTo 12 = .ok (.aload_n 0, 1) := by decide +kernel
theorem dX0_writeTo_13 : decode cX0_writeTo 13 = .ok (.getfield 15, 3) := by decide +kernel
theorem dX0_writeTo_16 : decode cX0_writeTo 16 = .ok (.iconst 0, 1) := by decide +kernel
theorem dX0_writeTo_17 : decode cX0_writeTo 17 = .ok (.aload_n 1, 1) := by decide +kernel
theorem dX0_writeTo_18 : decode cX0_writeTo 18 = .ok (.iload_n 2, 1) := by decide +kernel
theorem dX0_writeTo_19 : decode cX0_writeTo 19 = .ok (.bipush 36, 2) := by decide +kernel
theorem dX0_writeTo_21 : decode cX0_writeTo 21 = .ok (.iadd, 1) := by decide +kernel
theorem dX0_writeTo_22 : decode cX0_writeTo 22 = .ok (.bipush 36, 2) := by decide +kernel
theorem dX0_writeTo_24 : decode cX0_writeTo 24 = .ok (.invokestatic 24, 3) := by decide +kernel
theorem dX0_writeTo_27 : decode cX0_writeTo 27 = .ok (.aload_n 0, 1) := by decide +kernel
theorem dX0_writeTo_28 : decode cX0_writeTo 28 = .ok (.getfield 18, 3) := by decide +kernel
theorem dX0_writeTo_31 : decode cX0_writeTo 31 = .ok (.iconst 0, 1) := by decide +kernel
theorem dX0_writeTo_32 : decode cX0_writeTo 32 = .ok (.aload_n 1, 1) := by decide +kernel
theorem dX0_writeTo_33 : decode cX0_writeTo 33 = .ok (.iload_n 2, 1) := by decide +kernel
theorem dX0_writeTo_34 : decode cX0_writeTo 34 = .ok (.bipush 72, 2) := by decide +kernel
theorem dX0_writeTo_36 : decode cX0_writeTo 36 = .ok (.iadd, 1) := by decide +kernel
theorem dX0_writeTo_37 : decode cX0_writeTo 37 = .ok (.bipush 36, 2) := by decide +kernel
theorem dX0_writeTo_39 : decode cX0_writeTo 39 = .ok (.invokestatic 24, 3) := by decide +kernel
theorem dX0_writeTo_42 : decode cX0_writeTo 42 = .ok (.aload_n 0, 1) := by decide +kernel
theorem dX0_writeTo_43 : decode cX0_writeTo 43 = .ok (.getfield 21, 3) := by decide +kernel
theorem dX0_writeTo_46 : decode cX0_writeTo 46 = .ok (.iconst 0, 1) := by decide +kernel
theorem dX0_writeTo_47 : decode cX0_writeTo 47 = .ok (.aload_n 1, 1) := by decide +kernel
theorem dX0_writeTo_48 : decode cX0_writeTo 48 = .ok (.iload_n 2, 1) := by decide +kernel
theorem dX0_writeTo_49 : decode cX0_writeTo 49 = .ok (.bipush 108, 2) := by decide +kernel
theorem dX0_writeTo_51 : decode cX0_writeTo 51 = .ok (.iadd, 1) := by decide +kernel
theorem dX0_writeTo_52 : decode cX0_writeTo 52 = .ok (.iconst 2, 1) := by decide +kernel
theorem dX0_writeTo_53 : decode cX0_writeTo 53 = .ok (.invokestatic 24, 3) := by decide +kernel
theorem dX0_writeTo_56 : decode cX0_writeTo 56 = .ok (.iload_n 2, 1) := by decide +kernel
theorem dX0_writeTo_57 : decode cX0_writeTo 57 = .ok (.bipush 108, 2) := by decide +kernel
theorem dX0_writeTo_59 : decode cX0_writeTo 59 = .ok (.iadd, 1) := by decide +kernel
theorem dX0_writeTo_60 : decode cX0_writeTo 60 = .ok (.iconst 2, 1) := by decide +kernel
theorem dX0_writeTo_61 : decode cX0_writeTo 61 = .ok (.iadd, 1) := by decide +kernel
theorem dX0_writeTo_62 : decode cX0_writeTo 62 = .ok (.istore_n 3, 1) := by decide +kernel
theorem dX0_writeTo_63 : decode cX0_writeTo 63 = .ok (.aload_n 1, 1) := by decide +kernel
theorem dX0_writeTo_64 : decode cX0_writeTo 64 = .ok (.iload_n 3, 1) := by decide +kernel
theorem dX0_writeTo_65 : decode cX0_writeTo 65 = .ok (.aload_n 0, 1) := by decide +kernel
theorem dX0_writeTo_66 : decode cX0_writeTo 66 = .ok (.getfield 30, 3) := by decide +kernel
theorem dX0_writeTo_69 : decode cX0_writeTo 69 = .ok (.iastore, 1) := by decide +kernel
theorem dX0_writeTo_70 : decode cX0_writeTo 70 = .ok (.aload_n 1, 1) := by decide +kernel
theorem dX0_writeTo_71 : decode cX0_writeTo 71 = .ok (.iload_n 3, 1) := by decide +kernel
theorem dX0_writeTo_72 : decode cX0_writeTo 72 = .ok (.iconst 1, 1) := by decide +kernel
theorem dX0_writeTo_73 : decode cX0_writeTo 73 = .ok (.iadd, 1) := by decide +kernel
theorem dX0_writeTo_74 : decode cX0_writeTo 74 = .ok (.aload_n 0, 1) := by decide +kernel
theorem dX0_writeTo_75 : decode cX0_writeTo 75 = .ok (.getfield 34, 3) := by decide +kernel
theorem dX0_writeTo_78 : decode cX0_writeTo 78 = .ok (.iastore, 1) := by decide +kernel
theorem dX0_writeTo_79 : decode cX0_writeTo 79 = .ok (.aload_n 1, 1) := by decide +kernel
theorem dX0_writeTo_80 : decode cX0_writeTo 80 = .ok (.iload_n 3, 1) := by decide +kernel
theorem dX0_writeTo_81 : decode cX0_writeTo 81 = .ok (.iconst 2, 1) := by decide +kernel
theorem dX0_writeTo_82 : decode cX0_writeTo 82 = .ok (.iadd, 1) := by decide +kernel
theorem dX0_writeTo_83 : decode cX0_writeTo 83 = .ok (.aload_n 0, 1) := by decide +kernel
theorem dX0_writeTo_84 : decode cX0_writeTo 84 = .ok (.getfield 37, 3) := by decide +kernel
theorem dX0_writeTo_87 : decode cX0_writeTo 87 = .ok (.iastore, 1) := by decide +kernel
theorem dX0_writeTo_88 : decode cX0_writeTo 88 = .ok (.aload_n 1, 1) := by decide +kernel
theorem dX0_writeTo_89 : decode cX0_writeTo 89 = .ok (.iload_n 3, 1) := by decide +kernel
theorem dX0_writeTo_90 : decode cX0_writeTo 90 = .ok (.iconst 3, 1) := by decide +kernel
theorem dX0_writeTo_91 : decode cX0_writeTo 91 = .ok (.iadd, 1) := by decide +kernel
theorem dX0_writeTo_92 : decode cX0_writeTo 92 = .ok (.aload_n 0, 1) := by decide +kernel
theorem dX0_writeTo_93 : decode cX0_writeTo 93 = .ok (.getfield 40, 3) := by decide +kernel
theorem dX0_writeTo_96 : decode cX0_writeTo 96 = .ok (.iastore, 1) := by decide +kernel
theorem dX0_writeTo_97 : decode cX0_writeTo 97 = .ok (.return_, 1) := by decide +kernel
theorem dX0_readFrom_0 : decode cX0_readFrom 0 = .ok (.aload_n 1, 1) := by decide +kernel
theorem dX0_readFrom_1 : decode cX0_readFrom 1 = .ok (.iload_n 2, 1) := by decide +kernel
theorem dX0_readFrom_2 : decode cX0_readFrom 2 = .ok (.aload_n 0, 1) := by decide +kernel
theorem dX0_readFrom_3 : decode cX0_readFrom 3 = .ok (.getfield 9, 3) := by decide +kernel
theorem dX0_readFrom_6 : decode cX0_readFrom 6 = .ok (.iconst 0, 1) := by decide +kernel
theorem dX0_readFrom_7 : decode cX0_readFrom 7 = .ok (.bipush 36, 2) := by decide +kernel
theorem dX0_readFrom_9 : decode cX0_readFrom 9 = .ok (.invokestatic 24, 3) := by decide +kernel
theorem dX0_readFrom_12 : decode cX0_readFrom 12 = .ok (.aload_n 1, 1) := by decide +kernel
theorem dX0_readFrom_13 : decode cX0_readFrom 13 = .ok (.iload_n 2, 1) := by decide +kernel
theorem dX0_readFrom_14 : decode cX0_readFrom 14 = .ok (.bipush 36, 2) := by decide +kernel
theorem dX0_readFrom_16 : decode cX0_readFrom 16 = .ok (.iadd, 1) := by decide +kernel
theorem dX0_readFrom_17 : decode cX0_readFrom 17 = .ok (.aload_n 0, 1) := by decide +kernel
theorem dX0_readFrom_18 : decode cX0_readFrom 18 = .ok (.getfield 15, 3) := by decide +kernel
theorem dX0_readFrom_21 : decode cX0_readFrom 21 = .ok (.iconst 0, 1) := by decide +kernel
theorem dX0_readFrom_22 : decode cX0_readFrom 22 = .ok (.bipush 36, 2) := by decide +kernel
theorem dX0_readFrom_24 : decode cX0_readFrom 24 = .ok (.invokestatic 24, 3) := by decide +kernel
theorem dX0_readFrom_27 : decode cX0_readFrom 27 = .ok (.aload_n 1, 1) := by decide +kernel
theorem dX0_readFrom_28 : decode cX0_readFrom 28 = .ok (.iload_n 2, 1) := by decide +kernel
theorem dX0_readFrom_29 : decode cX0_readFrom 29 = .ok (.bipush 72, 2) := by decide +kernel
theorem dX0_readFrom_31 : decode cX0_readFrom 31 = .ok (.iadd, 1) := by decide +kernel
theorem dX0_readFrom_32 : decode cX0_readFrom 32 = .ok (.aload_n 0, 1) := by decide +kernel
theorem dX0_readFrom_33 : decode cX0_readFrom 33 = .ok (.getfield 18, 3) := by decide +kernel
theorem dX0_readFrom_36 : decode cX0_readFrom 36 = .ok (.iconst 0, 1) := by decide +kernel
theorem dX0_readFrom_37 : decode cX0_readFrom 37 = .ok (.bipush 36, 2) := by decide +kernel
theorem dX0_readFrom_39 : decode cX0_readFrom 39 = .ok (.invokestatic 24, 3) := by decide +kernel
theorem dX0_readFrom_42 : decode cX0_readFrom 42 = .ok (.aload_n 1, 1) := by decide +kernel
theorem dX0_readFrom_43 : decode cX0_readFrom 43 = .ok (.iload_n 2, 1) := by decide +kernel
theorem dX0_readFrom_44 : decode cX0_readFrom 44 = .ok (.bipush 108, 2) := by decide +kernel
theorem dX0_readFrom_46 : decode cX0_readFrom 46 = .ok (.iadd, 1) := by decide +kernel
theorem dX0_readFrom_47 : decode cX0_readFrom 47 = .ok (.aload_n 0, 1) := by decide +kernel
theorem dX0_readFrom_48 : decode cX0_readFrom 48 = .ok (.getfield 21, 3) := by decide +kernel
theorem dX0_readFrom_51 : decode cX0_readFrom 51 = .ok (.iconst 0, 1) := by decide +kernel
theorem dX0_readFrom_52 : decode cX0_readFrom 52 = .ok (.iconst 2, 1) := by decide +kernel
theorem dX0_readFrom_53 : decode cX0_readFrom 53 = .ok (.invokestatic 24, 3) := by decide +kernel
theorem dX0_readFrom_56 : decode cX0_readFrom 56 = .ok (.iload_n 2, 1) := by decide +kernel
theorem dX0_readFrom_57 : decode cX0_readFrom 57 = .ok (.bipush 108, 2) := by decide +kernel
theorem dX0_readFrom_59 : decode cX0_readFrom 59 = .ok (.iadd, 1) := by decide +kernel
theorem dX0_readFrom_60 : decode cX0_readFrom 60 = .ok (.iconst 2, 1) := by decide +kernel
theorem dX0_readFrom_61 : decode cX0_readFrom 61 = .ok (.iadd, 1) := by decide +kernel
theorem dX0_readFrom_62 : decode cX0_readFrom 62 = .ok (.istore_n 3, 1) := by decide +kernel
theorem dX0_readFrom_63 : decode cX0_readFrom 63 = .ok (.aload_n 0, 1) := by decide +kernel
theorem dX0_readFrom_64 : decode cX0_readFrom 64 = .ok (.aload_n 1, 1) := by decide +kernel
theorem dX0_readFrom_65 : decode cX0_readFrom 65 = .ok (.iload_n 3, 1) := by decide +kernel
theorem dX0_readFrom_66 : decode cX0_readFrom 66 = .ok (.iaload, 1) := by decide +kernel
theorem dX0_readFrom_67 : decode cX0_readFrom 67 = .ok (.putfield 30, 3) := by decide +kernel
theorem dX0_readFrom_70 : decode cX0_readFrom 70 = .ok (.aload_n 0, 1) := by decide +kernel
theorem dX0_readFrom_71 : decode cX0_readFrom 71 = .ok (.aload_n 1, 1) := by decide +kernel
theorem dX0_readFrom_72 : decode cX0_readFrom 72 = .ok (.iload_n 3, 1) := by decide +kernel
theorem dX0_readFrom_73 : decode cX0_readFrom 73 = .ok (.iconst 1, 1) := by decide +kernel
theorem dX0_readFrom_74 : decode cX0_readFrom 74 = .ok (.iadd, 1) := by decide +kernel
theorem dX0_readFrom_75 : decode cX0_readFrom 75 = .ok (.iaload, 1) := by decide +kernel
theorem dX0_readFrom_76 : decode cX0_readFrom 76 = .ok (.putfield 34, 3) := by decide +kernel
theorem dX0_readFrom_79 : decode cX0_readFrom 79 = .ok (.aload_n 0, 1) := by decide +kernel
theorem dX0_readFrom_80 : decode cX0_readFrom 80 = .ok (.aload_n 1, 1) := by decide +kernel
theorem dX0_readFrom_81 : decode cX0_readFrom 81 = .ok (.iload_n 3, 1) := by decide +kernel
theorem dX0_readFrom_82 : decode cX0_readFrom 82 = .ok (.iconst 2, 1) := by decide +kernel
theorem dX0_readFrom_83 : decode cX0_readFrom 83 = .ok (.iadd, 1) := by decide +kernel
theorem dX0_readFrom_84 : decode cX0_readFrom 84 = .ok (.iaload, 1) := by decide +kernel
theorem dX0_readFrom_85 : decode cX0_readFrom 85 = .ok (.putfield 37, 3) := by decide +kernel
theorem dX0_readFrom_88 : decode cX0_readFrom 88 = .ok (.aload_n 0, 1) := by decide +kernel
theorem dX0_readFrom_89 : decode cX0_readFrom 89 = .ok (.aload_n 1, 1) := by decide +kernel
theorem dX0_readFrom_90 : decode cX0_readFrom 90 = .ok (.iload_n 3, 1) := by decide +kernel
theorem dX0_readFrom_91 : decode cX0_readFrom 91 = .ok (.iconst 3, 1) := by decide +kernel
theorem dX0_readFrom_92 : decode cX0_readFrom 92 = .ok (.iadd, 1) := by decide +kernel
theorem dX0_readFrom_93 : decode cX0_readFrom 93 = .ok (.iaload, 1) := by decide +kernel
theorem dX0_readFrom_94 : decode cX0_readFrom 94 = .ok (.putfield 40, 3) := by decide +kernel
theorem dX0_readFrom_97 : decode cX0_readFrom 97 = .ok (.return_, 1) := by decide +kernel
theorem dX0_putTower_0 : decode cX0_putTower 0 = .ok (.aload_n 0, 1) := by decide +kernel
theorem dX0_putTower_1 : decode cX0_putTower 1 = .ok (.getfield 15, 3) := by decide +kernel
theorem dX0_putTower_4 : decode cX0_putTower 4 = .ok (.iload_n 1, 1) := by decide +kernel
theorem dX0_putTower_5 : decode cX0_putTower 5 = .ok (.iload_n 2, 1) := by decide +kernel
theorem dX0_putTower_6 : decode cX0_putTower 6 = .ok (.iastore, 1) := by decide +kernel
theorem dX0_putTower_7 : decode cX0_putTower 7 = .ok (.aload_n 0, 1) := by decide +kernel
theorem dX0_putTower_8 : decode cX0_putTower 8 = .ok (.getfield 9, 3) := by decide +kernel
theorem dX0_putTower_11 : decode cX0_putTower 11 = .ok (.iload_n 1, 1) := by decide +kernel
theorem dX0_putTower_12 : decode cX0_putTower 12 = .ok (.iload_n 3, 1) := by decide +kernel
theorem dX0_putTower_13 : decode cX0_putTower 13 = .ok (.iastore, 1) := by decide +kernel
theorem dX0_putTower_14 : decode cX0_putTower 14 = .ok (.return_, 1) := by decide +kernel
set_option maxRecDepth 20000 in
theorem ggX0_endTurn_X0_payNow : GoodIn wsX0_endTurn wsX0_payNow := goodIn_r _ [9, 10, 2, 11, 12, 13, 14, 8, 15, 16, 17, 18, 19, 20, 21, 22, 23, 24, 25, 26, 27, 28, 29, 30, 31, 32, 33, 34, 35, 36, 37] (by decide +kernel) (by decide +kernel)
set_option maxRecDepth 20000 in
theorem gX0_endTurn_X0_payNow : GoodIn wsX0_endTurn (wsV RX0 43 RX0 yX0_payNow wsX0_payNow) := goodIn_app (goodIn_of _ (by decide +kernel)) ggX0_endTurn_X0_payNow
theorem dX0_endTurn_0 : decode cX0_endTurn 0 = .ok (.iconst 0, 1) := by decide +kernel
theorem dX0_endTurn_1 : decode cX0_endTurn 1 = .ok (.istore_n 1, 1) := by decide +kernel
theorem dX0_endTurn_2 : decode cX0_endTurn 2 = .ok (.iload_n 1, 1) := by decide +kernel
theorem dX0_endTurn_3 : decode cX0_endTurn 3 = .ok (.iconst 2, 1) := by decide +kernel
theorem dX0_endTurn_4 : decode cX0_endTurn 4 = .ok (.if_icmp .ge 23, 3) := by decide +kernel
theorem dX0_endTurn_7 : decode cX0_endTurn 7 = .ok (.aload_n 0, 1) := by decide +kernel
theorem dX0_endTurn_8 : decode cX0_endTurn 8 = .ok (.getfield 21, 3) := by decide +kernel
theorem dX0_endTurn_11 : decode cX0_endTurn 11 = .ok (.iload_n 1, 1) := by decide +kernel
theorem dX0_endTurn_12 : decode cX0_endTurn 12 = .ok (.dup2, 1) := by decide +kernel
theorem dX0_endTurn_13 : decode cX0_endTurn 13 = .ok (.iaload, 1) := by decide +kernel
theorem dX0_endTurn_14 : decode cX0_endTurn 14 = .ok (.aload_n 0, 1) := by decide +kernel
theorem dX0_endTurn_15 : decode cX0_endTurn 15 = .ok (.iload_n 1, 1) := by decide +kernel
theorem dX0_endTurn_16 : decode cX0_endTurn 16 = .ok (.invokevirtual 43, 3) := by decide +kernel
theorem dX0_endTurn_19 : decode cX0_endTurn 19 = .ok (.iadd, 1) := by decide +kernel
theorem dX0_endTurn_20 : decode cX0_endTurn 20 = .ok (.iastore, 1) := by decide +kernel
theorem dX0_endTurn_21 : decode cX0_endTurn 21 = .ok (.iinc 1 1, 3) := by decide +kernel
theorem dX0_endTurn_24 : decode cX0_endTurn 24 = .ok (.goto (-22), 3) := by decide +kernel
theorem dX0_endTurn_27 : decode cX0_endTurn 27 = .ok (.aload_n 0, 1) := by decide +kernel
theorem dX0_endTurn_28 : decode cX0_endTurn 28 = .ok (.aload_n 0, 1) := by decide +kernel
theorem dX0_endTurn_29 : decode cX0_endTurn 29 = .ok (.getfield 30, 3) := by decide +kernel
theorem dX0_endTurn_32 : decode cX0_endTurn 32 = .ok (.iconst 1, 1) := by decide +kernel
theorem dX0_endTurn_33 : decode cX0_endTurn 33 = .ok (.iadd, 1) := by decide +kernel
theorem dX0_endTurn_34 : decode cX0_endTurn 34 = .ok (.bipush 12, 2) := by decide +kernel
theorem dX0_endTurn_36 : decode cX0_endTurn 36 = .ok (.irem, 1) := by decide +kernel
theorem dX0_endTurn_37 : decode cX0_endTurn 37 = .ok (.putfield 30, 3) := by decide +kernel
theorem dX0_endTurn_40 : decode cX0_endTurn 40 = .ok (.aload_n 0, 1) := by decide +kernel
theorem dX0_endTurn_41 : decode cX0_endTurn 41 = .ok (.iconst 1, 1) := by decide +kernel
theorem dX0_endTurn_42 : decode cX0_endTurn 42 = .ok (.aload_n 0, 1) := by decide +kernel
theorem dX0_endTurn_43 : decode cX0_endTurn 43 = .ok (.getfield 34, 3) := by decide +kernel
theorem dX0_endTurn_46 : decode cX0_endTurn 46 = .ok (.isub, 1) := by decide +kernel
theorem dX0_endTurn_47 : decode cX0_endTurn 47 = .ok (.putfield 34, 3) := by decide +kernel
theorem dX0_endTurn_50 : decode cX0_endTurn 50 = .ok (.aload_n 0, 1) := by decide +kernel
theorem dX0_endTurn_51 : decode cX0_endTurn 51 = .ok (.dup, 1) := by decide +kernel
theorem dX0_endTurn_52 : decode cX0_endTurn 52 = .ok (.getfield 37, 3) := by decide +kernel
theorem dX0_endTurn_55 : decode cX0_endTurn 55 = .ok (.iconst 1, 1) := by decide +kernel
theorem dX0_endTurn_56 : decode cX0_endTurn 56 = .ok (.iadd, 1) := by decide +kernel
theorem dX0_endTurn_57 : decode cX0_endTurn 57 = .ok (.putfield 37, 3) := by decide +kernel
theorem dX0_endTurn_60 : decode cX0_endTurn 60 = .ok (.return_, 1) := by decide +kernel
set_option maxRecDepth 20000 in
theorem ggX0_refusalReason_X0_isDark : GoodIn wsX0_refusalReason wsX0_isDark := goodIn_r _ [9, 3, 10, 11, 12, 13, 14, 15, 16, 17, 18, 19, 20, 21, 22, 23, 24, 25, 26, 27, 28, 29, 30] (by decide +kernel) (by decide +kernel)
set_option maxRecDepth 20000 in
theorem gX0_refusalReason_X0_isDark : GoodIn wsX0_refusalReason (wsV RX0 47 RX0 yX0_isDark wsX0_isDark) := goodIn_app (goodIn_of _ (by decide +kernel)) ggX0_refusalReason_X0_isDark
theorem dX0_refusalReason_0 : decode cX0_refusalReason 0 = .ok (.aload_n 0, 1) := by decide +kernel
theorem dX0_refusalReason_1 : decode cX0_refusalReason 1 = .ok (.getfield 15, 3) := by decide +kernel
theorem dX0_refusalReason_4 : decode cX0_refusalReason 4 = .ok (.iload_n 1, 1) := by decide +kernel
theorem dX0_refusalReason_5 : decode cX0_refusalReason 5 = .ok (.iaload, 1) := by decide +kernel
theorem dX0_refusalReason_6 : decode cX0_refusalReason 6 = .ok (.iconst 1, 1) := by decide +kernel
theorem dX0_refusalReason_7 : decode cX0_refusalReason 7 = .ok (.aload_n 0, 1) := by decide +kernel
theorem dX0_refusalReason_8 : decode cX0_refusalReason 8 = .ok (.getfield 34, 3) := by decide +kernel
theorem dX0_refusalReason_11 : decode cX0_refusalReason 11 = .ok (.isub, 1) := by decide +kernel
theorem dX0_refusalReason_12 : decode cX0_refusalReason 12 = .ok (.if_icmp .ne 5, 3) := by decide +kernel
theorem dX0_refusalReason_15 : decode cX0_refusalReason 15 = .ok (.iconst 1, 1) := by decide +kernel
theorem dX0_refusalReason_16 : decode cX0_refusalReason 16 = .ok (.ireturn, 1) := by decide +kernel
theorem dX0_refusalReason_17 : decode cX0_refusalReason 17 = .ok (.aload_n 0, 1) := by decide +kernel
theorem dX0_refusalReason_18 : decode cX0_refusalReason 18 = .ok (.getfield 9, 3) := by decide +kernel
theorem dX0_refusalReason_21 : decode cX0_refusalReason 21 = .ok (.iload_n 1, 1) := by decide +kernel
theorem dX0_refusalReason_22 : decode cX0_refusalReason 22 = .ok (.iaload, 1) := by decide +kernel
theorem dX0_refusalReason_23 : decode cX0_refusalReason 23 = .ok (.bipush 9, 2) := by decide +kernel
theorem dX0_refusalReason_25 : decode cX0_refusalReason 25 = .ok (.if_icmp .ne 5, 3) := by decide +kernel
theorem dX0_refusalReason_28 : decode cX0_refusalReason 28 = .ok (.iconst 2, 1) := by decide +kernel
theorem dX0_refusalReason_29 : decode cX0_refusalReason 29 = .ok (.ireturn, 1) := by decide +kernel
theorem dX0_refusalReason_30 : decode cX0_refusalReason 30 = .ok (.aload_n 0, 1) := by decide +kernel
theorem dX0_refusalReason_31 : decode cX0_refusalReason 31 = .ok (.iload_n 1, 1) := by decide +kernel
theorem dX0_refusalReason_32 : decode cX0_refusalReason 32 = .ok (.aload_n 0, 1) := by decide +kernel
theorem dX0_refusalReason_33 : decode cX0_refusalReason 33 = .ok (.getfield 30, 3) := by decide +kernel
theorem dX0_refusalReason_36 : decode cX0_refusalReason 36 = .ok (.invokevirtual 47, 3) := by decide +kernel
theorem dX0_refusalReason_39 : decode cX0_refusalReason 39 = .ok (.ifCond .eq 7, 3) := by decide +kernel
theorem dX0_refusalReason_42 : decode cX0_refusalReason 42 = .ok (.iconst 3, 1) := by decide +kernel
theorem dX0_refusalReason_43 : decode cX0_refusalReason 43 = .ok (.goto 4, 3) := by decide +kernel
theorem dX0_refusalReason_46 : decode cX0_refusalReason 46 = .ok (.iconst 0, 1) := by decide +kernel
theorem dX0_refusalReason_47 : decode cX0_refusalReason 47 = .ok (.ireturn, 1) := by decide +kernel
set_option maxRecDepth 20000 in
theorem ggX0_worthOfRaising_X0_refusalReason : GoodIn wsX0_worthOfRaising wsX0_refusalReason := goodIn_r _ [8, 1, 3, 2, 9, 10, 11, 12, 7, 13, 14, 15, 16, 17, 18, 19, 20, 21, 22, 23, 24, 25, 26, 36, 37, 38, 39, 40, 41, 42, 43] (by decide +kernel) (by decide +kernel)
set_option maxRecDepth 20000 in
theorem gX0_worthOfRaising_X0_refusalReason : GoodIn wsX0_worthOfRaising (wsV RX0 51 RX0 yX0_refusalReason wsX0_refusalReason) := goodIn_app (goodIn_of _ (by decide +kernel)) ggX0_worthOfRaising_X0_refusalReason
set_option maxRecDepth 20000 in
theorem ggX0_worthOfRaising_X0_putTower : GoodIn wsX0_worthOfRaising wsX0_putTower := goodIn_r _ [30, 1, 2, 36, 37, 38, 39, 40, 41, 42, 43] (by decide +kernel) (by decide +kernel)
set_option maxRecDepth 20000 in
theorem gX0_worthOfRaising_X0_putTower : GoodIn wsX0_worthOfRaising (wsV RX0 54 RX0 yX0_putTower wsX0_putTower) := goodIn_app (goodIn_of _ (by decide +kernel)) ggX0_worthOfRaising_X0_putTower
set_option maxRecDepth 20000 in
theorem ggX0_worthOfRaising_X0_payNow : GoodIn wsX0_worthOfRaising wsX0_payNow := goodIn_r _ [34, 1, 9, 35, 10, 11, 12, 7, 13, 2, 14, 15, 16, 17, 18, 19, 20, 21, 22, 23, 24, 25, 26, 36, 37, 38, 39, 40, 41, 42, 43] (by decide +kernel) (by decide +kernel)
set_option maxRecDepth 20000 in
theorem gX0_worthOfRaising_X0_payNow : GoodIn wsX0_worthOfRaising (wsV RX0 43 RX0 yX0_payNow wsX0_payNow) := goodIn_app (goodIn_of _ (by decide +kernel)) ggX0_worthOfRaising_X0_payNow
theorem dX0_worthOfRaising_0 : decode cX0_worthOfRaising 0 = .ok (.aload_n 0, 1) := by decide +kernel
theorem dX0_worthOfRaising_1 : decode cX0_worthOfRaising 1 = .ok (.iload_n 1, 1) := by decide +kernel
theorem dX0_worthOfRaising_2 : decode cX0_worthOfRaising 2 = .ok (.invokevirtual 51, 3) := by decide +kernel
theorem dX0_worthOfRaising_5 : decode cX0_worthOfRaising 5 = .ok (.ifCond .eq 7, 3) := by decide +kernel
theorem dX0_worthOfRaising_8 : decode cX0_worthOfRaising 8 = .ok (.sipush (-999), 3) := by decide +kernel
theorem dX0_worthOfRaising_11 : decode cX0_worthOfRaising 11 = .ok (.ireturn, 1) := by decide +kernel
theorem dX0_worthOfRaising_12 : decode cX0_worthOfRaising 12 = .ok (.aload_n 0, 1) := by decide +kernel
theorem dX0_worthOfRaising_13 : decode cX0_worthOfRaising 13 = .ok (.getfield 15, 3) := by decide +kernel
theorem dX0_worthOfRaising_16 : decode cX0_worthOfRaising 16 = .ok (.iload_n 1, 1) := by decide +kernel
theorem dX0_worthOfRaising_17 : decode cX0_worthOfRaising 17 = .ok (.iaload, 1) := by decide +kernel
theorem dX0_worthOfRaising_18 : decode cX0_worthOfRaising 18 = .ok (.istore_n 2, 1) := by decide +kernel
theorem dX0_worthOfRaising_19 : decode cX0_worthOfRaising 19 = .ok (.aload_n 0, 1) := by decide +kernel
theorem dX0_worthOfRaising_20 : decode cX0_worthOfRaising 20 = .ok (.getfield 9, 3) := by decide +kernel
theorem dX0_worthOfRaising_23 : decode cX0_worthOfRaising 23 = .ok (.iload_n 1, 1) := by decide +kernel
theorem dX0_worthOfRaising_24 : decode cX0_worthOfRaising 24 = .ok (.iaload, 1) := by decide +kernel
theorem dX0_worthOfRaising_25 : decode cX0_worthOfRaising 25 = .ok (.istore_n 3, 1) := by decide +kernel
theorem dX0_worthOfRaising_26 : decode cX0_worthOfRaising 26 = .ok (.aload_n 0, 1) := by decide +kernel
theorem dX0_worthOfRaising_27 : decode cX0_worthOfRaising 27 = .ok (.iload_n 1, 1) := by decide +kernel
theorem dX0_worthOfRaising_28 : decode cX0_worthOfRaising 28 = .ok (.aload_n 0, 1) := by decide +kernel
theorem dX0_worthOfRaising_29 : decode cX0_worthOfRaising 29 = .ok (.getfield 34, 3) := by decide +kernel
theorem dX0_worthOfRaising_32 : decode cX0_worthOfRaising 32 = .ok (.iload_n 3, 1) := by decide +kernel
theorem dX0_worthOfRaising_33 : decode cX0_worthOfRaising 33 = .ok (.iconst 1, 1) := by decide +kernel
theorem dX0_worthOfRaising_34 : decode cX0_worthOfRaising 34 = .ok (.iadd, 1) := by decide +kernel
theorem dX0_worthOfRaising_35 : decode cX0_worthOfRaising 35 = .ok (.invokevirtual 54, 3) := by decide +kernel
theorem dX0_worthOfRaising_38 : decode cX0_worthOfRaising 38 = .ok (.aload_n 0, 1) := by decide +kernel
theorem dX0_worthOfRaising_39 : decode cX0_worthOfRaising 39 = .ok (.aload_n 0, 1) := by decide +kernel
theorem dX0_worthOfRaising_40 : decode cX0_worthOfRaising 40 = .ok (.getfield 34, 3) := by decide +kernel
theorem dX0_worthOfRaising_43 : decode cX0_worthOfRaising 43 = .ok (.invokevirtual 43, 3) := by decide +kernel
theorem dX0_worthOfRaising_46 : decode cX0_worthOfRaising 46 = .ok (.aload_n 0, 1) := by decide +kernel
theorem dX0_worthOfRaising_47 : decode cX0_worthOfRaising 47 = .ok (.iconst 1, 1) := by decide +kernel
theorem dX0_worthOfRaising_48 : decode cX0_worthOfRaising 48 = .ok (.aload_n 0, 1) := by decide +kernel
theorem dX0_worthOfRaising_49 : decode cX0_worthOfRaising 49 = .ok (.getfield 34, 3) := by decide +kernel
theorem dX0_worthOfRaising_52 : decode cX0_worthOfRaising 52 = .ok (.isub, 1) := by decide +kernel
theorem dX0_worthOfRaising_53 : decode cX0_worthOfRaising 53 = .ok (.invokevirtual 43, 3) := by decide +kernel
theorem dX0_worthOfRaising_56 : decode cX0_worthOfRaising 56 = .ok (.isub, 1) := by decide +kernel
theorem dX0_worthOfRaising_57 : decode cX0_worthOfRaising 57 = .ok (.istore 4, 2) := by decide +kernel
theorem dX0_worthOfRaising_59 : decode cX0_worthOfRaising 59 = .ok (.aload_n 0, 1) := by decide +kernel
theorem dX0_worthOfRaising_60 : decode cX0_worthOfRaising 60 = .ok (.iload_n 1, 1) := by decide +kernel
theorem dX0_worthOfRaising_61 : decode cX0_worthOfRaising 61 = .ok (.iload_n 2, 1) := by decide +kernel
theorem dX0_worthOfRaising_62 : decode cX0_worthOfRaising 62 = .ok (.iload_n 3, 1) := by decide +kernel
theorem dX0_worthOfRaising_63 : decode cX0_worthOfRaising 63 = .ok (.invokevirtual 54, 3) := by decide +kernel
theorem dX0_worthOfRaising_66 : decode cX0_worthOfRaising 66 = .ok (.iload 4, 2) := by decide +kernel
theorem dX0_worthOfRaising_68 : decode cX0_worthOfRaising 68 = .ok (.ireturn, 1) := by decide +kernel
set_option maxRecDepth 20000 in
theorem ggX0_isDark_X3_side : GoodIn wsX0_isDark wsX3_side := goodIn_r _ [5] (by decide +kernel) (by decide +kernel)
set_option maxRecDepth 20000 in
theorem gX0_isDark_X3_side : GoodIn wsX0_isDark (va_wsS RX0 58 yX3_side wsX3_side) := goodIn_app (goodIn_of _ (by decide +kernel)) ggX0_isDark_X3_side
set_option maxRecDepth 20000 in
theorem ggX0_isDark_X3_steepness : GoodIn wsX0_isDark wsX3_steepness := goodIn_r _ [8] (by decide +kernel) (by decide +kernel)
set_option maxRecDepth 20000 in
theorem gX0_isDark_X3_steepness : GoodIn wsX0_isDark (va_wsS RX0 63 yX3_steepness wsX3_steepness) := goodIn_app (goodIn_of _ (by decide +kernel)) ggX0_isDark_X3_steepness
set_option maxRecDepth 20000 in
theorem ggX0_isDark_X3_stepTowardSun : GoodIn wsX0_isDark wsX3_stepTowardSun := goodIn_r _ [11] (by decide +kernel) (by decide +kernel)
set_option maxRecDepth 20000 in
theorem gX0_isDark_X3_stepTowardSun : GoodIn wsX0_isDark (va_wsS RX0 66 yX3_stepTowardSun wsX3_stepTowardSun) := goodIn_app (goodIn_of _ (by decide +kernel)) ggX0_isDark_X3_stepTowardSun
set_option maxRecDepth 20000 in
theorem ggX0_isDark_X3_squaresTowardSun : GoodIn wsX0_isDark wsX3_squaresTowardSun := goodIn_r _ [14] (by decide +kernel) (by decide +kernel)
set_option maxRecDepth 20000 in
theorem gX0_isDark_X3_squaresTowardSun : GoodIn wsX0_isDark (va_wsS RX0 69 yX3_squaresTowardSun wsX3_squaresTowardSun) := goodIn_app (goodIn_of _ (by decide +kernel)) ggX0_isDark_X3_squaresTowardSun
theorem dX0_isDark_0 : decode cX0_isDark 0 = .ok (.iload_n 2, 1) := by decide +kernel
theorem dX0_isDark_1 : decode cX0_isDark 1 = .ok (.invokestatic 58, 3) := by decide +kernel
theorem dX0_isDark_4 : decode cX0_isDark 4 = .ok (.istore_n 3, 1) := by decide +kernel
theorem dX0_isDark_5 : decode cX0_isDark 5 = .ok (.iload_n 2, 1) := by decide +kernel
theorem dX0_isDark_6 : decode cX0_isDark 6 = .ok (.invokestatic 63, 3) := by decide +kernel
theorem dX0_isDark_9 : decode cX0_isDark 9 = .ok (.istore 4, 2) := by decide +kernel
theorem dX0_isDark_11 : decode cX0_isDark 11 = .ok (.iload_n 3, 1) := by decide +kernel
theorem dX0_isDark_12 : decode cX0_isDark 12 = .ok (.invokestatic 66, 3) := by decide +kernel
theorem dX0_isDark_15 : decode cX0_isDark 15 = .ok (.istore 5, 2) := by decide +kernel
theorem dX0_isDark_17 : decode cX0_isDark 17 = .ok (.iload_n 3, 1) := by decide +kernel
theorem dX0_isDark_18 : decode cX0_isDark 18 = .ok (.iload_n 1, 1) := by decide +kernel
theorem dX0_isDark_19 : decode cX0_isDark 19 = .ok (.invokestatic 69, 3) := by decide +kernel
theorem dX0_isDark_22 : decode cX0_isDark 22 = .ok (.istore 6, 2) := by decide +kernel
theorem dX0_isDark_24 : decode cX0_isDark 24 = .ok (.iconst 1, 1) := by decide +kernel
theorem dX0_isDark_25 : decode cX0_isDark 25 = .ok (.istore 7, 2) := by decide +kernel
theorem dX0_isDark_27 : decode cX0_isDark 27 = .ok (.iload 7, 2) := by decide +kernel
theorem dX0_isDark_29 : decode cX0_isDark 29 = .ok (.iload 6, 2) := by decide +kernel
theorem dX0_isDark_31 : decode cX0_isDark 31 = .ok (.if_icmp .gt 38, 3) := by decide +kernel
theorem dX0_isDark_34 : decode cX0_isDark 34 = .ok (.aload_n 0, 1) := by decide +kernel
theorem dX0_isDark_35 : decode cX0_isDark 35 = .ok (.getfield 9, 3) := by decide +kernel
theorem dX0_isDark_38 : decode cX0_isDark 38 = .ok (.iload_n 1, 1) := by decide +kernel
theorem dX0_isDark_39 : decode cX0_isDark 39 = .ok (.iload 7, 2) := by decide +kernel
theorem dX0_isDark_41 : decode cX0_isDark 41 = .ok (.iload 5, 2) := by decide +kernel
theorem dX0_isDark_43 : decode cX0_isDark 43 = .ok (.imul, 1) := by decide +kernel
theorem dX0_isDark_44 : decode cX0_isDark 44 = .ok (.iadd, 1) := by decide +kernel
theorem dX0_isDark_45 : decode cX0_isDark 45 = .ok (.iaload, 1) := by decide +kernel
theorem dX0_isDark_46 : decode cX0_isDark 46 = .ok (.iload 7, 2) := by decide +kernel
theorem dX0_isDark_48 : decode cX0_isDark 48 = .ok (.iload 4, 2) := by decide +kernel
theorem dX0_isDark_50 : decode cX0_isDark 50 = .ok (.imul, 1) := by decide +kernel
theorem dX0_isDark_51 : decode cX0_isDark 51 = .ok (.isub, 1) := by decide +kernel
theorem dX0_isDark_52 : decode cX0_isDark 52 = .ok (.aload_n 0, 1) := by decide +kernel
theorem dX0_isDark_53 : decode cX0_isDark 53 = .ok (.getfield 9, 3) := by decide +kernel
theorem dX0_isDark_56 : decode cX0_isDark 56 = .ok (.iload_n 1, 1) := by decide +kernel
theorem dX0_isDark_57 : decode cX0_isDark 57 = .ok (.iaload, 1) := by decide +kernel
theorem dX0_isDark_58 : decode cX0_isDark 58 = .ok (.if_icmp .le 5, 3) := by decide +kernel
theorem dX0_isDark_61 : decode cX0_isDark 61 = .ok (.iconst 1, 1) := by decide +kernel
theorem dX0_isDark_62 : decode cX0_isDark 62 = .ok (.ireturn, 1) := by decide +kernel
theorem dX0_isDark_63 : decode cX0_isDark 63 = .ok (.iinc 7 1, 3) := by decide +kernel
theorem dX0_isDark_66 : decode cX0_isDark 66 = .ok (.goto (-39), 3) := by decide +kernel
theorem dX0_isDark_69 : decode cX0_isDark 69 = .ok (.iconst 0, 1) := by decide +kernel
theorem dX0_isDark_70 : decode cX0_isDark 70 = .ok (.ireturn, 1) := by decide +kernel
set_option maxRecDepth 20000 in
theorem ggX0_isDarkBySweep_X3_side : GoodIn wsX0_isDarkBySweep wsX3_side := goodIn_r _ [9] (by decide +kernel) (by decide +kernel)
set_option maxRecDepth 20000 in
theorem gX0_isDarkBySweep_X3_side : GoodIn wsX0_isDarkBySweep (va_wsS RX0 58 yX3_side wsX3_side) := goodIn_app (goodIn_of _ (by decide +kernel)) ggX0_isDarkBySweep_X3_side
set_option maxRecDepth 20000 in
theorem ggX0_isDarkBySweep_X3_steepness : GoodIn wsX0_isDarkBySweep wsX3_steepness := goodIn_r _ [12] (by decide +kernel) (by decide +kernel)
set_option maxRecDepth 20000 in
theorem gX0_isDarkBySweep_X3_steepness : GoodIn wsX0_isDarkBySweep (va_wsS RX0 63 yX3_steepness wsX3_steepness) := goodIn_app (goodIn_of _ (by decide +kernel)) ggX0_isDarkBySweep_X3_steepness
set_option maxRecDepth 20000 in
theorem ggX0_isDarkBySweep_X3_stepTowardSun : GoodIn wsX0_isDarkBySweep wsX3_stepTowardSun := goodIn_r _ [15] (by decide +kernel) (by decide +kernel)
set_option maxRecDepth 20000 in
theorem gX0_isDarkBySweep_X3_stepTowardSun : GoodIn wsX0_isDarkBySweep (va_wsS RX0 66 yX3_stepTowardSun wsX3_stepTowardSun) := goodIn_app (goodIn_of _ (by decide +kernel)) ggX0_isDarkBySweep_X3_stepTowardSun
set_option maxRecDepth 20000 in
theorem ggX0_isDarkBySweep_X3_squaresTowardSun : GoodIn wsX0_isDarkBySweep wsX3_squaresTowardSun := goodIn_r _ [18] (by decide +kernel) (by decide +kernel)
set_option maxRecDepth 20000 in
theorem gX0_isDarkBySweep_X3_squaresTowardSun : GoodIn wsX0_isDarkBySweep (va_wsS RX0 69 yX3_squaresTowardSun wsX3_squaresTowardSun) := goodIn_app (goodIn_of _ (by decide +kernel)) ggX0_isDarkBySweep_X3_squaresTowardSun
theorem dX0_isDarkBySweep_0 : decode cX0_isDarkBySweep 0 = .ok (.iload_n 2, 1) := by decide +kernel
theorem dX0_isDarkBySweep_1 : decode cX0_isDarkBySweep 1 = .ok (.invokestatic 58, 3) := by decide +kernel
theorem dX0_isDarkBySweep_4 : decode cX0_isDarkBySweep 4 = .ok (.istore_n 3, 1) := by decide +kernel
theorem dX0_isDarkBySweep_5 : decode cX0_isDarkBySweep 5 = .ok (.iload_n 2, 1) := by decide +kernel
theorem dX0_isDarkBySweep_6 : decode cX0_isDarkBySweep 6 = .ok (.invokestatic 63, 3) := by decide +kernel
theorem dX0_isDarkBySweep_9 : decode cX0_isDarkBySweep 9 = .ok (.istore 4, 2) := by decide +kernel
theorem dX0_isDarkBySweep_11 : decode cX0_isDarkBySweep 11 = .ok (.iload_n 3, 1) := by decide +kernel
theorem dX0_isDarkBySweep_12 : decode cX0_isDarkBySweep 12 = .ok (.invokestatic 66, 3) := by decide +kernel
theorem dX0_isDarkBySweep_15 : decode cX0_isDarkBySweep 15 = .ok (.istore 5, 2) := by decide +kernel
theorem dX0_isDarkBySweep_17 : decode cX0_isDarkBySweep 17 = .ok (.iconst 0, 1) := by decide +kernel
theorem dX0_isDarkBySweep_18 : decode cX0_isDarkBySweep 18 = .ok (.istore 6, 2) := by decide +kernel
theorem dX0_isDarkBySweep_20 : decode cX0_isDarkBySweep 20 = .ok (.iload_n 3, 1) := by decide +kernel
theorem dX0_isDarkBySweep_21 : decode cX0_isDarkBySweep 21 = .ok (.iload_n 1, 1) := by decide +kernel
theorem dX0_isDarkBySweep_22 : decode cX0_isDarkBySweep 22 = .ok (.invokestatic 69, 3) := by decide +kernel
theorem dX0_isDarkBySweep_25 : decode cX0_isDarkBySweep 25 = .ok (.istore 7, 2) := by decide +kernel
theorem dX0_isDarkBySweep_27 : decode cX0_isDarkBySweep 27 = .ok (.iload 7, 2) := by decide +kernel
theorem dX0_isDarkBySweep_29 : decode cX0_isDarkBySweep 29 = .ok (.iconst 1, 1) := by decide +kernel
theorem dX0_isDarkBySweep_30 : decode cX0_isDarkBySweep 30 = .ok (.if_icmp .lt 31, 3) := by decide +kernel
theorem dX0_isDarkBySweep_33 : decode cX0_isDarkBySweep 33 = .ok (.iload 6, 2) := by decide +kernel
theorem dX0_isDarkBySweep_35 : decode cX0_isDarkBySweep 35 = .ok (.aload_n 0, 1) := by decide +kernel
theorem dX0_isDarkBySweep_36 : decode cX0_isDarkBySweep 36 = .ok (.getfield 9, 3) := by decide +kernel
theorem dX0_isDarkBySweep_39 : decode cX0_isDarkBySweep 39 = .ok (.iload_n 1, 1) := by decide +kernel
theorem dX0_isDarkBySweep_40 : decode cX0_isDarkBySweep 40 = .ok (.iload 7, 2) := by decide +kernel
theorem dX0_isDarkBySweep_42 : decode cX0_isDarkBySweep 42 = .ok (.iload 5, 2) := by decide +kernel
theorem dX0_isDarkBySweep_44 : decode cX0_isDarkBySweep 44 = .ok (.imul, 1) := by decide +kernel
theorem dX0_isDarkBySweep_45 : decode cX0_isDarkBySweep 45 = .ok (.iadd, 1) := by decide +kernel
theorem dX0_isDarkBySweep_46 : decode cX0_isDarkBySweep 46 = .ok (.iaload, 1) := by decide +kernel
theorem dX0_isDarkBySweep_47 : decode cX0_isDarkBySweep 47 = .ok (.invokestatic 73, 3) := by decide +kernel
theorem dX0_isDarkBySweep_50 : decode cX0_isDarkBySweep 50 = .ok (.iload 4, 2) := by decide +kernel
theorem dX0_isDarkBySweep_52 : decode cX0_isDarkBySweep 52 = .ok (.isub, 1) := by decide +kernel
theorem dX0_isDarkBySweep_53 : decode cX0_isDarkBySweep 53 = .ok (.istore 6, 2) := by decide +kernel
theorem dX0_isDarkBySweep_55 : decode cX0_isDarkBySweep 55 = .ok (.iinc 7 (-1), 3) := by decide +kernel
theorem dX0_isDarkBySweep_58 : decode cX0_isDarkBySweep 58 = .ok (.goto (-31), 3) := by decide +kernel
theorem dX0_isDarkBySweep_61 : decode cX0_isDarkBySweep 61 = .ok (.iload 6, 2) := by decide +kernel
theorem dX0_isDarkBySweep_63 : decode cX0_isDarkBySweep 63 = .ok (.aload_n 0, 1) := by decide +kernel
theorem dX0_isDarkBySweep_64 : decode cX0_isDarkBySweep 64 = .ok (.getfield 9, 3) := by decide +kernel
theorem dX0_isDarkBySweep_67 : decode cX0_isDarkBySweep 67 = .ok (.iload_n 1, 1) := by decide +kernel
theorem dX0_isDarkBySweep_68 : decode cX0_isDarkBySweep 68 = .ok (.iaload, 1) := by decide +kernel
theorem dX0_isDarkBySweep_69 : decode cX0_isDarkBySweep 69 = .ok (.if_icmp .le 7, 3) := by decide +kernel
theorem dX0_isDarkBySweep_72 : decode cX0_isDarkBySweep 72 = .ok (.iconst 1, 1) := by decide +kernel
theorem dX0_isDarkBySweep_73 : decode cX0_isDarkBySweep 73 = .ok (.goto 4, 3) := by decide +kernel
theorem dX0_isDarkBySweep_76 : decode cX0_isDarkBySweep 76 = .ok (.iconst 0, 1) := by decide +kernel
theorem dX0_isDarkBySweep_77 : decode cX0_isDarkBySweep 77 = .ok (.ireturn, 1) := by decide +kernel
set_option maxRecDepth 20000 in
theorem ggX0_towersShading_X3_side : GoodIn wsX0_towersShading wsX3_side := goodIn_r _ [7] (by decide +kernel) (by decide +kernel)
set_option maxRecDepth 20000 in
theorem gX0_towersShading_X3_side : GoodIn wsX0_towersShading (va_wsS RX0 58 yX3_side wsX3_side) := goodIn_app (goodIn_of _ (by decide +kernel)) ggX0_towersShading_X3_side
set_option maxRecDepth 20000 in
theorem ggX0_towersShading_X3_steepness : GoodIn wsX0_towersShading wsX3_steepness := goodIn_r _ [10] (by decide +kernel) (by decide +kernel)
set_option maxRecDepth 20000 in
theorem gX0_towersShading_X3_steepness : GoodIn wsX0_towersShading (va_wsS RX0 63 yX3_steepness wsX3_steepness) := goodIn_app (goodIn_of _ (by decide +kernel)) ggX0_towersShading_X3_steepness
set_option maxRecDepth 20000 in
theorem ggX0_towersShading_X3_stepTowardSun : GoodIn wsX0_towersShading wsX3_stepTowardSun := goodIn_r _ [13] (by decide +kernel) (by decide +kernel)
set_option maxRecDepth 20000 in
theorem gX0_towersShading_X3_stepTowardSun : GoodIn wsX0_towersShading (va_wsS RX0 66 yX3_stepTowardSun wsX3_stepTowardSun) := goodIn_app (goodIn_of _ (by decide +kernel)) ggX0_towersShading_X3_stepTowardSun
set_option maxRecDepth 20000 in
theorem ggX0_towersShading_X3_squaresTowardSun : GoodIn wsX0_towersShading wsX3_squaresTowardSun := goodIn_r _ [16] (by decide +kernel) (by decide +kernel)
set_option maxRecDepth 20000 in
theorem gX0_towersShading_X3_squaresTowardSun : GoodIn wsX0_towersShading (va_wsS RX0 69 yX3_squaresTowardSun wsX3_squaresTowardSun) := goodIn_app (goodIn_of _ (by decide +kernel)) ggX0_towersShading_X3_squaresTowardSun
theorem dX0_towersShading_0 : decode cX0_towersShading 0 = .ok (.aload_n 0, 1) := by decide +kernel
theorem dX0_towersShading_1 : decode cX0_towersShading 1 = .ok (.getfield 30, 3) := by decide +kernel
theorem dX0_towersShading_4 : decode cX0_towersShading 4 = .ok (.invokestatic 58, 3) := by decide +kernel
theorem dX0_towersShading_7 : decode cX0_towersShading 7 = .ok (.istore_n 3, 1) := by decide +kernel
theorem dX0_towersShading_8 : decode cX0_towersShading 8 = .ok (.aload_n 0, 1) := by decide +kernel
theorem dX0_towersShading_9 : decode cX0_towersShading 9 = .ok (.getfield 30, 3) := by decide +kernel
theorem dX0_towersShading_12 : decode cX0_towersShading 12 = .ok (.invokestatic 63, 3) := by decide +kernel
theorem dX0_towersShading_15 : decode cX0_towersShading 15 = .ok (.istore 4, 2) := by decide +kernel
theorem dX0_towersShading_17 : decode cX0_towersShading 17 = .ok (.iload_n 3, 1) := by decide +kernel
theorem dX0_towersShading_18 : decode cX0_towersShading 18 = .ok (.invokestatic 66, 3) := by decide +kernel
theorem dX0_towersShading_21 : decode cX0_towersShading 21 = .ok (.istore 5, 2) := by decide +kernel
theorem dX0_towersShading_23 : decode cX0_towersShading 23 = .ok (.iload_n 3, 1) := by decide +kernel
theorem dX0_towersShading_24 : decode cX0_towersShading 24 = .ok (.iload_n 1, 1) := by decide +kernel
theorem dX0_towersShading_25 : decode cX0_towersShading 25 = .ok (.invokestatic 69, 3) := by decide +kernel
theorem dX0_towersShading_28 : decode cX0_towersShading 28 = .ok (.istore 6, 2) := by decide +kernel
theorem dX0_towersShading_30 : decode cX0_towersShading 30 = .ok (.iconst 0, 1) := by decide +kernel
theorem dX0_towersShading_31 : decode cX0_towersShading 31 = .ok (.istore 7, 2) := by decide +kernel
theorem dX0_towersShading_33 : decode cX0_towersShading 33 = .ok (.iconst 1, 1) := by decide +kernel
theorem dX0_towersShading_34 : decode cX0_towersShading 34 = .ok (.istore 8, 2) := by decide +kernel
theorem dX0_towersShading_36 : decode cX0_towersShading 36 = .ok (.iload 8, 2) := by decide +kernel
theorem dX0_towersShading_38 : decode cX0_towersShading 38 = .ok (.iload 6, 2) := by decide +kernel
theorem dX0_towersShading_40 : decode cX0_towersShading 40 = .ok (.if_icmp .gt 54, 3) := by decide +kernel
theorem dX0_towersShading_43 : decode cX0_towersShading 43 = .ok (.iload_n 1, 1) := by decide +kernel
theorem dX0_towersShading_44 : decode cX0_towersShading 44 = .ok (.iload 8, 2) := by decide +kernel
theorem dX0_towersShading_46 : decode cX0_towersShading 46 = .ok (.iload 5, 2) := by decide +kernel
theorem dX0_towersShading_48 : decode cX0_towersShading 48 = .ok (.imul, 1) := by decide +kernel
theorem dX0_towersShading_49 : decode cX0_towersShading 49 = .ok (.iadd, 1) := by decide +kernel
theorem dX0_towersShading_50 : decode cX0_towersShading 50 = .ok (.istore 9, 2) := by decide +kernel
theorem dX0_towersShading_52 : decode cX0_towersShading 52 = .ok (.aload_n 0, 1) := by decide +kernel
theorem dX0_towersShading_53 : decode cX0_towersShading 53 = .ok (.getfield 15, 3) := by decide +kernel
theorem dX0_towersShading_56 : decode cX0_towersShading 56 = .ok (.iload 9, 2) := by decide +kernel
theorem dX0_towersShading_58 : decode cX0_towersShading 58 = .ok (.iaload, 1) := by decide +kernel
theorem dX0_towersShading_59 : decode cX0_towersShading 59 = .ok (.iload_n 2, 1) := by decide +kernel
theorem dX0_towersShading_60 : decode cX0_towersShading 60 = .ok (.if_icmp .ne 28, 3) := by decide +kernel
theorem dX0_towersShading_63 : decode cX0_towersShading 63 = .ok (.aload_n 0, 1) := by decide +kernel
theorem dX0_towersShading_64 : decode cX0_towersShading 64 = .ok (.getfield 9, 3) := by decide +kernel
theorem dX0_towersShading_67 : decode cX0_towersShading 67 = .ok (.iload 9, 2) := by decide +kernel
theorem dX0_towersShading_69 : decode cX0_towersShading 69 = .ok (.iaload, 1) := by decide +kernel
theorem dX0_towersShading_70 : decode cX0_towersShading 70 = .ok (.iload 8, 2) := by decide +kernel
theorem dX0_towersShading_72 : decode cX0_towersShading 72 = .ok (.iload 4, 2) := by decide +kernel
theorem dX0_towersShading_74 : decode cX0_towersShading 74 = .ok (.imul, 1) := by decide +kernel
theorem dX0_towersShading_75 : decode cX0_towersShading 75 = .ok (.isub, 1) := by decide +kernel
theorem dX0_towersShading_76 : decode cX0_towersShading 76 = .ok (.aload_n 0, 1) := by decide +kernel
theorem dX0_towersShading_77 : decode cX0_towersShading 77 = .ok (.getfield 9, 3) := by decide +kernel
theorem dX0_towersShading_80 : decode cX0_towersShading 80 = .ok (.iload_n 1, 1) := by decide +kernel
theorem dX0_towersShading_81 : decode cX0_towersShading 81 = .ok (.iaload, 1) := by decide +kernel
theorem dX0_towersShading_82 : decode cX0_towersShading 82 = .ok (.if_icmp .le 6, 3) := by decide +kernel
theorem dX0_towersShading_85 : decode cX0_towersShading 85 = .ok (.iinc 7 1, 3) := by decide +kernel
theorem dX0_towersShading_88 : decode cX0_towersShading 88 = .ok (.iinc 8 1, 3) := by decide +kernel
theorem dX0_towersShading_91 : decode cX0_towersShading 91 = .ok (.goto (-55), 3) := by decide +kernel
theorem dX0_towersShading_94 : decode cX0_towersShading 94 = .ok (.iload 7, 2) := by decide +kernel
theorem dX0_towersShading_96 : decode cX0_towersShading 96 = .ok (.ireturn, 1) := by decide +kernel
set_option maxRecDepth 20000 in
theorem ggX0_squaresShadedFrom_X3_side : GoodIn wsX0_squaresShadedFrom wsX3_side := goodIn_r _ [6] (by decide +kernel) (by decide +kernel)
set_option maxRecDepth 20000 in
theorem gX0_squaresShadedFrom_X3_side : GoodIn wsX0_squaresShadedFrom (va_wsS RX0 58 yX3_side wsX3_side) := goodIn_app (goodIn_of _ (by decide +kernel)) ggX0_squaresShadedFrom_X3_side
set_option maxRecDepth 20000 in
theorem ggX0_squaresShadedFrom_X3_steepness : GoodIn wsX0_squaresShadedFrom wsX3_steepness := goodIn_r _ [9] (by decide +kernel) (by decide +kernel)
set_option maxRecDepth 20000 in
theorem gX0_squaresShadedFrom_X3_steepness : GoodIn wsX0_squaresShadedFrom (va_wsS RX0 63 yX3_steepness wsX3_steepness) := goodIn_app (goodIn_of _ (by decide +kernel)) ggX0_squaresShadedFrom_X3_steepness
set_option maxRecDepth 20000 in
theorem ggX0_squaresShadedFrom_X3_stepTowardSun : GoodIn wsX0_squaresShadedFrom wsX3_stepTowardSun := goodIn_r _ [12] (by decide +kernel) (by decide +kernel)
set_option maxRecDepth 20000 in
theorem gX0_squaresShadedFrom_X3_stepTowardSun : GoodIn wsX0_squaresShadedFrom (va_wsS RX0 66 yX3_stepTowardSun wsX3_stepTowardSun) := goodIn_app (goodIn_of _ (by decide +kernel)) ggX0_squaresShadedFrom_X3_stepTowardSun
set_option maxRecDepth 20000 in
theorem ggX0_squaresShadedFrom_X3_squaresTowardSun : GoodIn wsX0_squaresShadedFrom wsX3_squaresTowardSun := goodIn_r _ [15] (by decide +kernel) (by decide +kernel)
set_option maxRecDepth 20000 in
theorem gX0_squaresShadedFrom_X3_squaresTowardSun : GoodIn wsX0_squaresShadedFrom (va_wsS RX0 69 yX3_squaresTowardSun wsX3_squaresTowardSun) := goodIn_app (goodIn_of _ (by decide +kernel)) ggX0_squaresShadedFrom_X3_squaresTowardSun
theorem dX0_squaresShadedFrom_0 : decode cX0_squaresShadedFrom 0 = .ok (.aload_n 0, 1) := by decide +kernel
theorem dX0_squaresShadedFrom_1 : decode cX0_squaresShadedFrom 1 = .ok (.getfield 30, 3) := by decide +kernel
theorem dX0_squaresShadedFrom_4 : decode cX0_squaresShadedFrom 4 = .ok (.invokestatic 58, 3) := by decide +kernel
theorem dX0_squaresShadedFrom_7 : decode cX0_squaresShadedFrom 7 = .ok (.istore_n 2, 1) := by decide +kernel
theorem dX0_squaresShadedFrom_8 : decode cX0_squaresShadedFrom 8 = .ok (.aload_n 0, 1) := by decide +kernel
theorem dX0_squaresShadedFrom_9 : decode cX0_squaresShadedFrom 9 = .ok (.getfield 30, 3) := by decide +kernel
theorem dX0_squaresShadedFrom_12 : decode cX0_squaresShadedFrom 12 = .ok (.invokestatic 63, 3) := by decide +kernel
theorem dX0_squaresShadedFrom_15 : decode cX0_squaresShadedFrom 15 = .ok (.istore_n 3, 1) := by decide +kernel
theorem dX0_squaresShadedFrom_16 : decode cX0_squaresShadedFrom 16 = .ok (.iload_n 2, 1) := by decide +kernel
theorem dX0_squaresShadedFrom_17 : decode cX0_squaresShadedFrom 17 = .ok (.invokestatic 66, 3) := by decide +kernel
theorem dX0_squaresShadedFrom_20 : decode cX0_squaresShadedFrom 20 = .ok (.istore 4, 2) := by decide +kernel
theorem dX0_squaresShadedFrom_22 : decode cX0_squaresShadedFrom 22 = .ok (.iconst 5, 1) := by decide +kernel
theorem dX0_squaresShadedFrom_23 : decode cX0_squaresShadedFrom 23 = .ok (.iload_n 2, 1) := by decide +kernel
theorem dX0_squaresShadedFrom_24 : decode cX0_squaresShadedFrom 24 = .ok (.iload_n 1, 1) := by decide +kernel
theorem dX0_squaresShadedFrom_25 : decode cX0_squaresShadedFrom 25 = .ok (.invokestatic 69, 3) := by decide +kernel
theorem dX0_squaresShadedFrom_28 : decode cX0_squaresShadedFrom 28 = .ok (.isub, 1) := by decide +kernel
theorem dX0_squaresShadedFrom_29 : decode cX0_squaresShadedFrom 29 = .ok (.istore 5, 2) := by decide +kernel
theorem dX0_squaresShadedFrom_31 : decode cX0_squaresShadedFrom 31 = .ok (.iconst 0, 1) := by decide +kernel
theorem dX0_squaresShadedFrom_32 : decode cX0_squaresShadedFrom 32 = .ok (.istore 6, 2) := by decide +kernel
theorem dX0_squaresShadedFrom_34 : decode cX0_squaresShadedFrom 34 = .ok (.iconst 1, 1) := by decide +kernel
theorem dX0_squaresShadedFrom_35 : decode cX0_squaresShadedFrom 35 = .ok (.istore 7, 2) := by decide +kernel
theorem dX0_squaresShadedFrom_37 : decode cX0_squaresShadedFrom 37 = .ok (.iload 7, 2) := by decide +kernel
theorem dX0_squaresShadedFrom_39 : decode cX0_squaresShadedFrom 39 = .ok (.iload 5, 2) := by decide +kernel
theorem dX0_squaresShadedFrom_41 : decode cX0_squaresShadedFrom 41 = .ok (.if_icmp .gt 38, 3) := by decide +kernel
theorem dX0_squaresShadedFrom_44 : decode cX0_squaresShadedFrom 44 = .ok (.aload_n 0, 1) := by decide +kernel
theorem dX0_squaresShadedFrom_45 : decode cX0_squaresShadedFrom 45 = .ok (.getfield 9, 3) := by decide +kernel
theorem dX0_squaresShadedFrom_48 : decode cX0_squaresShadedFrom 48 = .ok (.iload_n 1, 1) := by decide +kernel
theorem dX0_squaresShadedFrom_49 : decode cX0_squaresShadedFrom 49 = .ok (.iaload, 1) := by decide +kernel
theorem dX0_squaresShadedFrom_50 : decode cX0_squaresShadedFrom 50 = .ok (.iload 7, 2) := by decide +kernel
theorem dX0_squaresShadedFrom_52 : decode cX0_squaresShadedFrom 52 = .ok (.iload_n 3, 1) := by decide +kernel
theorem dX0_squaresShadedFrom_53 : decode cX0_squaresShadedFrom 53 = .ok (.imul, 1) := by decide +kernel
theorem dX0_squaresShadedFrom_54 : decode cX0_squaresShadedFrom 54 = .ok (.isub, 1) := by decide +kernel
theorem dX0_squaresShadedFrom_55 : decode cX0_squaresShadedFrom 55 = .ok (.aload_n 0, 1) := by decide +kernel
theorem dX0_squaresShadedFrom_56 : decode cX0_squaresShadedFrom 56 = .ok (.getfield 9, 3) := by decide +kernel
theorem dX0_squaresShadedFrom_59 : decode cX0_squaresShadedFrom 59 = .ok (.iload_n 1, 1) := by decide +kernel
theorem dX0_squaresShadedFrom_60 : decode cX0_squaresShadedFrom 60 = .ok (.iload 7, 2) := by decide +kernel
theorem dX0_squaresShadedFrom_62 : decode cX0_squaresShadedFrom 62 = .ok (.iload 4, 2) := by decide +kernel
theorem dX0_squaresShadedFrom_64 : decode cX0_squaresShadedFrom 64 = .ok (.imul, 1) := by decide +kernel
theorem dX0_squaresShadedFrom_65 : decode cX0_squaresShadedFrom 65 = .ok (.isub, 1) := by decide +kernel
theorem dX0_squaresShadedFrom_66 : decode cX0_squaresShadedFrom 66 = .ok (.iaload, 1) := by decide +kernel
theorem dX0_squaresShadedFrom_67 : decode cX0_squaresShadedFrom 67 = .ok (.if_icmp .le 6, 3) := by decide +kernel
theorem dX0_squaresShadedFrom_70 : decode cX0_squaresShadedFrom 70 = .ok (.iinc 6 1, 3) := by decide +kernel
theorem dX0_squaresShadedFrom_73 : decode cX0_squaresShadedFrom 73 = .ok (.iinc 7 1, 3) := by decide +kernel
theorem dX0_squaresShadedFrom_76 : decode cX0_squaresShadedFrom 76 = .ok (.goto (-39), 3) := by decide +kernel
theorem dX0_squaresShadedFrom_79 : decode cX0_squaresShadedFrom 79 = .ok (.iload 6, 2) := by decide +kernel
theorem dX0_squaresShadedFrom_81 : decode cX0_squaresShadedFrom 81 = .ok (.ireturn, 1) := by decide +kernel
set_option maxRecDepth 20000 in
theorem ggX0_darkHourMask_X0_isDark : GoodIn wsX0_darkHourMask wsX0_isDark := goodIn_r _ [5, 6, 7, 8, 9, 10, 11, 12, 13, 14, 15, 16, 17, 18, 19, 20, 21, 22, 23, 24, 25, 26, 27] (by decide +kernel) (by decide +kernel)
set_option maxRecDepth 20000 in
theorem gX0_darkHourMask_X0_isDark : GoodIn wsX0_darkHourMask (wsV RX0 47 RX0 yX0_isDark wsX0_isDark) := goodIn_app (goodIn_of _ (by decide +kernel)) ggX0_darkHourMask_X0_isDark
theorem dX0_darkHourMask_0 : decode cX0_darkHourMask 0 = .ok (.iconst 0, 1) := by decide +kernel
theorem dX0_darkHourMask_1 : decode cX0_darkHourMask 1 = .ok (.istore_n 2, 1) := by decide +kernel
theorem dX0_darkHourMask_2 : decode cX0_darkHourMask 2 = .ok (.iconst 0, 1) := by decide +kernel
theorem dX0_darkHourMask_3 : decode cX0_darkHourMask 3 = .ok (.istore_n 3, 1) := by decide +kernel
theorem dX0_darkHourMask_4 : decode cX0_darkHourMask 4 = .ok (.iload_n 3, 1) := by decide +kernel
theorem dX0_darkHourMask_5 : decode cX0_darkHourMask 5 = .ok (.bipush 12, 2) := by decide +kernel
theorem dX0_darkHourMask_7 : decode cX0_darkHourMask 7 = .ok (.if_icmp .ge 24, 3) := by decide +kernel
theorem dX0_darkHourMask_10 : decode cX0_darkHourMask 10 = .ok (.aload_n 0, 1) := by decide +kernel
theorem dX0_darkHourMask_11 : decode cX0_darkHourMask 11 = .ok (.iload_n 1, 1) := by decide +kernel
theorem dX0_darkHourMask_12 : decode cX0_darkHourMask 12 = .ok (.iload_n 3, 1) := by decide +kernel
theorem dX0_darkHourMask_13 : decode cX0_darkHourMask 13 = .ok (.invokevirtual 47, 3) := by decide +kernel
theorem dX0_darkHourMask_16 : decode cX0_darkHourMask 16 = .ok (.ifCond .eq 9, 3) := by decide +kernel
theorem dX0_darkHourMask_19 : decode cX0_darkHourMask 19 = .ok (.iload_n 2, 1) := by decide +kernel
theorem dX0_darkHourMask_20 : decode cX0_darkHourMask 20 = .ok (.iconst 1, 1) := by decide +kernel
theorem dX0_darkHourMask_21 : decode cX0_darkHourMask 21 = .ok (.iload_n 3, 1) := by decide +kernel
theorem dX0_darkHourMask_22 : decode cX0_darkHourMask 22 = .ok (.ishl, 1) := by decide +kernel
theorem dX0_darkHourMask_23 : decode cX0_darkHourMask 23 = .ok (.ior, 1) := by decide +kernel
theorem dX0_darkHourMask_24 : decode cX0_darkHourMask 24 = .ok (.istore_n 2, 1) := by decide +kernel
theorem dX0_darkHourMask_25 : decode cX0_darkHourMask 25 = .ok (.iinc 3 1, 3) := by decide +kernel
theorem dX0_darkHourMask_28 : decode cX0_darkHourMask 28 = .ok (.goto (-24), 3) := by decide +kernel
theorem dX0_darkHourMask_31 : decode cX0_darkHourMask 31 = .ok (.iload_n 2, 1) := by decide +kernel
theorem dX0_darkHourMask_32 : decode cX0_darkHourMask 32 = .ok (.ireturn, 1) := by decide +kernel
set_option maxRecDepth 20000 in
theorem ggX0_darkSquares_X0_isDark : GoodIn wsX0_darkSquares wsX0_isDark := goodIn_r _ [5, 6, 7, 8, 9, 10, 11, 12, 13, 14, 15, 16, 17, 18, 19, 20, 21, 22, 23, 24, 25, 26, 27] (by decide +kernel) (by decide +kernel)
set_option maxRecDepth 20000 in
theorem gX0_darkSquares_X0_isDark : GoodIn wsX0_darkSquares (wsV RX0 47 RX0 yX0_isDark wsX0_isDark) := goodIn_app (goodIn_of _ (by decide +kernel)) ggX0_darkSquares_X0_isDark
theorem dX0_darkSquares_0 : decode cX0_darkSquares 0 = .ok (.iconst 0, 1) := by decide +kernel
theorem dX0_darkSquares_1 : decode cX0_darkSquares 1 = .ok (.istore_n 2, 1) := by decide +kernel
theorem dX0_darkSquares_2 : decode cX0_darkSquares 2 = .ok (.iconst 0, 1) := by decide +kernel
theorem dX0_darkSquares_3 : decode cX0_darkSquares 3 = .ok (.istore_n 3, 1) := by decide +kernel
theorem dX0_darkSquares_4 : decode cX0_darkSquares 4 = .ok (.iload_n 3, 1) := by decide +kernel
theorem dX0_darkSquares_5 : decode cX0_darkSquares 5 = .ok (.bipush 36, 2) := by decide +kernel
theorem dX0_darkSquares_7 : decode cX0_darkSquares 7 = .ok (.if_icmp .ge 21, 3) := by decide +kernel
theorem dX0_darkSquares_10 : decode cX0_darkSquares 10 = .ok (.aload_n 0, 1) := by decide +kernel
theorem dX0_darkSquares_11 : decode cX0_darkSquares 11 = .ok (.iload_n 3, 1) := by decide +kernel
theorem dX0_darkSquares_12 : decode cX0_darkSquares 12 = .ok (.iload_n 1, 1) := by decide +kernel
theorem dX0_darkSquares_13 : decode cX0_darkSquares 13 = .ok (.invokevirtual 47, 3) := by decide +kernel
theorem dX0_darkSquares_16 : decode cX0_darkSquares 16 = .ok (.ifCond .eq 6, 3) := by decide +kernel
theorem dX0_darkSquares_19 : decode cX0_darkSquares 19 = .ok (.iinc 2 1, 3) := by decide +kernel
theorem dX0_darkSquares_22 : decode cX0_darkSquares 22 = .ok (.iinc 3 1, 3) := by decide +kernel
theorem dX0_darkSquares_25 : decode cX0_darkSquares 25 = .ok (.goto (-21), 3) := by decide +kernel
theorem dX0_darkSquares_28 : decode cX0_darkSquares 28 = .ok (.iload_n 2, 1) := by decide +kernel
theorem dX0_darkSquares_29 : decode cX0_darkSquares 29 = .ok (.ireturn, 1) := by decide +kernel
set_option maxRecDepth 20000 in
theorem ggX0_towers_X0_towersOf : GoodIn wsX0_towers wsX0_towersOf := goodIn_r _ [5, 6, 7, 8, 9, 10, 11, 12, 13, 14] (by decide +kernel) (by decide +kernel)
set_option maxRecDepth 20000 in
theorem gX0_towers_X0_towersOf : GoodIn wsX0_towers (wsV RX0 78 RX0 yX0_towersOf wsX0_towersOf) := goodIn_app (goodIn_of _ (by decide +kernel)) ggX0_towers_X0_towersOf
theorem dX0_towers_0 : decode cX0_towers 0 = .ok (.aload_n 0, 1) := by decide +kernel
theorem dX0_towers_1 : decode cX0_towers 1 = .ok (.iconst 0, 1) := by decide +kernel
theorem dX0_towers_2 : decode cX0_towers 2 = .ok (.invokevirtual 78, 3) := by decide +kernel
theorem dX0_towers_5 : decode cX0_towers 5 = .ok (.aload_n 0, 1) := by decide +kernel
theorem dX0_towers_6 : decode cX0_towers 6 = .ok (.iconst 1, 1) := by decide +kernel
theorem dX0_towers_7 : decode cX0_towers 7 = .ok (.invokevirtual 78, 3) := by decide +kernel
theorem dX0_towers_10 : decode cX0_towers 10 = .ok (.iadd, 1) := by decide +kernel
theorem dX0_towers_11 : decode cX0_towers 11 = .ok (.ireturn, 1) := by decide +kernel
theorem dX0_towersOf_0 : decode cX0_towersOf 0 = .ok (.iconst 0, 1) := by decide +kernel
theorem dX0_towersOf_1 : decode cX0_towersOf 1 = .ok (.istore_n 2, 1) := by decide +kernel
theorem dX0_towersOf_2 : decode cX0_towersOf 2 = .ok (.iconst 0, 1) := by decide +kernel
theorem dX0_towersOf_3 : decode cX0_towersOf 3 = .ok (.istore_n 3, 1) := by decide +kernel
theorem dX0_towersOf_4 : decode cX0_towersOf 4 = .ok (.iload_n 3, 1) := by decide +kernel
theorem dX0_towersOf_5 : decode cX0_towersOf 5 = .ok (.bipush 36, 2) := by decide +kernel
theorem dX0_towersOf_7 : decode cX0_towersOf 7 = .ok (.if_icmp .ge 22, 3) := by decide +kernel
theorem dX0_towersOf_10 : decode cX0_towersOf 10 = .ok (.aload_n 0, 1) := by decide +kernel
theorem dX0_towersOf_11 : decode cX0_towersOf 11 = .ok (.getfield 15, 3) := by decide +kernel
theorem dX0_towersOf_14 : decode cX0_towersOf 14 = .ok (.iload_n 3, 1) := by decide +kernel
theorem dX0_towersOf_15 : decode cX0_towersOf 15 = .ok (.iaload, 1) := by decide +kernel
theorem dX0_towersOf_16 : decode cX0_towersOf 16 = .ok (.iload_n 1, 1) := by decide +kernel
theorem dX0_towersOf_17 : decode cX0_towersOf 17 = .ok (.if_icmp .ne 6, 3) := by decide +kernel
theorem dX0_towersOf_20 : decode cX0_towersOf 20 = .ok (.iinc 2 1, 3) := by decide +kernel
theorem dX0_towersOf_23 : decode cX0_towersOf 23 = .ok (.iinc 3 1, 3) := by decide +kernel
theorem dX0_towersOf_26 : decode cX0_towersOf 26 = .ok (.goto (-22), 3) := by decide +kernel
theorem dX0_towersOf_29 : decode cX0_towersOf 29 = .ok (.iload_n 2, 1) := by decide +kernel
theorem dX0_towersOf_30 : decode cX0_towersOf 30 = .ok (.ireturn, 1) := by decide +kernel
theorem dX0_heightsOf_0 : decode cX0_heightsOf 0 = .ok (.iconst 0, 1) := by decide +kernel
theorem dX0_heightsOf_1 : decode cX0_heightsOf 1 = .ok (.istore_n 2, 1) := by decide +kernel
theorem dX0_heightsOf_2 : decode cX0_heightsOf 2 = .ok (.iconst 0, 1) := by decide +kernel
theorem dX0_heightsOf_3 : decode cX0_heightsOf 3 = .ok (.istore_n 3, 1) := by decide +kernel
theorem dX0_heightsOf_4 : decode cX0_heightsOf 4 = .ok (.iload_n 3, 1) := by decide +kernel
theorem dX0_heightsOf_5 : decode cX0_heightsOf 5 = .ok (.bipush 36, 2) := by decide +kernel
theorem dX0_heightsOf_7 : decode cX0_heightsOf 7 = .ok (.if_icmp .ge 28, 3) := by decide +kernel
theorem dX0_heightsOf_10 : decode cX0_heightsOf 10 = .ok (.aload_n 0, 1) := by decide +kernel
theorem dX0_heightsOf_11 : decode cX0_heightsOf 11 = .ok (.getfield 15, 3) := by decide +kernel
theorem dX0_heightsOf_14 : decode cX0_heightsOf 14 = .ok (.iload_n 3, 1) := by decide +kernel
theorem dX0_heightsOf_15 : decode cX0_heightsOf 15 = .ok (.iaload, 1) := by decide +kernel
theorem dX0_heightsOf_16 : decode cX0_heightsOf 16 = .ok (.iload_n 1, 1) := by decide +kernel
theorem dX0_heightsOf_17 : decode cX0_heightsOf 17 = .ok (.if_icmp .ne 12, 3) := by decide +kernel
theorem dX0_heightsOf_20 : decode cX0_heightsOf 20 = .ok (.iload_n 2, 1) := by decide +kernel
theorem dX0_heightsOf_21 : decode cX0_heightsOf 21 = .ok (.aload_n 0, 1) := by decide +kernel
theorem dX0_heightsOf_22 : decode cX0_heightsOf 22 = .ok (.getfield 9, 3) := by decide +kernel
theorem dX0_heightsOf_25 : decode cX0_heightsOf 25 = .ok (.iload_n 3, 1) := by decide +kernel
theorem dX0_heightsOf_26 : decode cX0_heightsOf 26 = .ok (.iaload, 1) := by decide +kernel
theorem dX0_heightsOf_27 : decode cX0_heightsOf 27 = .ok (.iadd, 1) := by decide +kernel
theorem dX0_heightsOf_28 : decode cX0_heightsOf 28 = .ok (.istore_n 2, 1) := by decide +kernel
theorem dX0_heightsOf_29 : decode cX0_heightsOf 29 = .ok (.iinc 3 1, 3) := by decide +kernel
theorem dX0_heightsOf_32 : decode cX0_heightsOf 32 = .ok (.goto (-28), 3) := by decide +kernel
theorem dX0_heightsOf_35 : decode cX0_heightsOf 35 = .ok (.iload_n 2, 1) := by decide +kernel
theorem dX0_heightsOf_36 : decode cX0_heightsOf 36 = .ok (.ireturn, 1) := by decide +kernel
set_option maxRecDepth 20000 in
theorem ggX0_darkTowersOf_X0_isDark : GoodIn wsX0_darkTowersOf wsX0_isDark := goodIn_r _ [7, 8, 9, 10, 11, 12, 13, 14, 15, 16, 17, 18, 19, 20, 21, 22, 23, 24, 25, 26, 27, 28, 29] (by decide +kernel) (by decide +kernel)
set_option maxRecDepth 20000 in
theorem gX0_darkTowersOf_X0_isDark : GoodIn wsX0_darkTowersOf (wsV RX0 47 RX0 yX0_isDark wsX0_isDark) := goodIn_app (goodIn_of _ (by decide +kernel)) ggX0_darkTowersOf_X0_isDark
theorem dX0_darkTowersOf_0 : decode cX0_darkTowersOf 0 = .ok (.iconst 0, 1) := by decide +kernel
theorem dX0_darkTowersOf_1 : decode cX0_darkTowersOf 1 = .ok (.istore_n 2, 1) := by decide +kernel
theorem dX0_darkTowersOf_2 : decode cX0_darkTowersOf 2 = .ok (.iconst 0, 1) := by decide +kernel
theorem dX0_darkTowersOf_3 : decode cX0_darkTowersOf 3 = .ok (.istore_n 3, 1) := by decide +kernel
theorem dX0_darkTowersOf_4 : decode cX0_darkTowersOf 4 = .ok (.iload_n 3, 1) := by decide +kernel
theorem dX0_darkTowersOf_5 : decode cX0_darkTowersOf 5 = .ok (.bipush 36, 2) := by decide +kernel
theorem dX0_darkTowersOf_7 : decode cX0_darkTowersOf 7 = .ok (.if_icmp .ge 34, 3) := by decide +kernel
theorem dX0_darkTowersOf_10 : decode cX0_darkTowersOf 10 = .ok (.aload_n 0, 1) := by decide +kernel
theorem dX0_darkTowersOf_11 : decode cX0_darkTowersOf 11 = .ok (.getfield 15, 3) := by decide +kernel
theorem dX0_darkTowersOf_14 : decode cX0_darkTowersOf 14 = .ok (.iload_n 3, 1) := by decide +kernel
theorem dX0_darkTowersOf_15 : decode cX0_darkTowersOf 15 = .ok (.iaload, 1) := by decide +kernel
theorem dX0_darkTowersOf_16 : decode cX0_darkTowersOf 16 = .ok (.iload_n 1, 1) := by decide +kernel
theorem dX0_darkTowersOf_17 : decode cX0_darkTowersOf 17 = .ok (.if_icmp .ne 18, 3) := by decide +kernel
theorem dX0_darkTowersOf_20 : decode cX0_darkTowersOf 20 = .ok (.aload_n 0, 1) := by decide +kernel
theorem dX0_darkTowersOf_21 : decode cX0_darkTowersOf 21 = .ok (.iload_n 3, 1) := by decide +kernel
theorem dX0_darkTowersOf_22 : decode cX0_darkTowersOf 22 = .ok (.aload_n 0, 1) := by decide +kernel
theorem dX0_darkTowersOf_23 : decode cX0_darkTowersOf 23 = .ok (.getfield 30, 3) := by decide +kernel
theorem dX0_darkTowersOf_26 : decode cX0_darkTowersOf 26 = .ok (.invokevirtual 47, 3) := by decide +kernel
theorem dX0_darkTowersOf_29 : decode cX0_darkTowersOf 29 = .ok (.ifCond .eq 6, 3) := by decide +kernel
theorem dX0_darkTowersOf_32 : decode cX0_darkTowersOf 32 = .ok (.iinc 2 1, 3) := by decide +kernel
theorem dX0_darkTowersOf_35 : decode cX0_darkTowersOf 35 = .ok (.iinc 3 1, 3) := by decide +kernel
theorem dX0_darkTowersOf_38 : decode cX0_darkTowersOf 38 = .ok (.goto (-34), 3) := by decide +kernel
theorem dX0_darkTowersOf_41 : decode cX0_darkTowersOf 41 = .ok (.iload_n 2, 1) := by decide +kernel
theorem dX0_darkTowersOf_42 : decode cX0_darkTowersOf 42 = .ok (.ireturn, 1) := by decide +kernel
set_option maxRecDepth 20000 in
theorem ggX0_payNow_X0_isDark : GoodIn wsX0_payNow wsX0_isDark := goodIn_r _ [8, 9, 10, 11, 12, 13, 14, 15, 16, 17, 18, 19, 20, 21, 22, 23, 24, 25, 26, 27, 28, 29, 30] (by decide +kernel) (by decide +kernel)
set_option maxRecDepth 20000 in
theorem gX0_payNow_X0_isDark : GoodIn wsX0_payNow (wsV RX0 47 RX0 yX0_isDark wsX0_isDark) := goodIn_app (goodIn_of _ (by decide +kernel)) ggX0_payNow_X0_isDark
theorem dX0_payNow_0 : decode cX0_payNow 0 = .ok (.iconst 0, 1) := by decide +kernel
theorem dX0_payNow_1 : decode cX0_payNow 1 = .ok (.istore_n 2, 1) := by decide +kernel
theorem dX0_payNow_2 : decode cX0_payNow 2 = .ok (.iconst 0, 1) := by decide +kernel
theorem dX0_payNow_3 : decode cX0_payNow 3 = .ok (.istore_n 3, 1) := by decide +kernel
theorem dX0_payNow_4 : decode cX0_payNow 4 = .ok (.iload_n 3, 1) := by decide +kernel
theorem dX0_payNow_5 : decode cX0_payNow 5 = .ok (.bipush 36, 2) := by decide +kernel
theorem dX0_payNow_7 : decode cX0_payNow 7 = .ok (.if_icmp .ge 40, 3) := by decide +kernel
theorem dX0_payNow_10 : decode cX0_payNow 10 = .ok (.aload_n 0, 1) := by decide +kernel
theorem dX0_payNow_11 : decode cX0_payNow 11 = .ok (.getfield 15, 3) := by decide +kernel
theorem dX0_payNow_14 : decode cX0_payNow 14 = .ok (.iload_n 3, 1) := by decide +kernel
theorem dX0_payNow_15 : decode cX0_payNow 15 = .ok (.iaload, 1) := by decide +kernel
theorem dX0_payNow_16 : decode cX0_payNow 16 = .ok (.iload_n 1, 1) := by decide +kernel
theorem dX0_payNow_17 : decode cX0_payNow 17 = .ok (.if_icmp .ne 24, 3) := by decide +kernel
theorem dX0_payNow_20 : decode cX0_payNow 20 = .ok (.aload_n 0, 1) := by decide +kernel
theorem dX0_payNow_21 : decode cX0_payNow 21 = .ok (.iload_n 3, 1) := by decide +kernel
theorem dX0_payNow_22 : decode cX0_payNow 22 = .ok (.aload_n 0, 1) := by decide +kernel
theorem dX0_payNow_23 : decode cX0_payNow 23 = .ok (.getfield 30, 3) := by decide +kernel
theorem dX0_payNow_26 : decode cX0_payNow 26 = .ok (.invokevirtual 47, 3) := by decide +kernel
theorem dX0_payNow_29 : decode cX0_payNow 29 = .ok (.ifCond .ne 12, 3) := by decide +kernel
theorem dX0_payNow_32 : decode cX0_payNow 32 = .ok (.iload_n 2, 1) := by decide +kernel
theorem dX0_payNow_33 : decode cX0_payNow 33 = .ok (.aload_n 0, 1) := by decide +kernel
theorem dX0_payNow_34 : decode cX0_payNow 34 = .ok (.getfield 18, 3) := by decide +kernel
theorem dX0_payNow_37 : decode cX0_payNow 37 = .ok (.iload_n 3, 1) := by decide +kernel
theorem dX0_payNow_38 : decode cX0_payNow 38 = .ok (.iaload, 1) := by decide +kernel
theorem dX0_payNow_39 : decode cX0_payNow 39 = .ok (.iadd, 1) := by decide +kernel
theorem dX0_payNow_40 : decode cX0_payNow 40 = .ok (.istore_n 2, 1) := by decide +kernel
theorem dX0_payNow_41 : decode cX0_payNow 41 = .ok (.iinc 3 1, 3) := by decide +kernel
theorem dX0_payNow_44 : decode cX0_payNow 44 = .ok (.goto (-40), 3) := by decide +kernel
theorem dX0_payNow_47 : decode cX0_payNow 47 = .ok (.iload_n 2, 1) := by decide +kernel
theorem dX0_payNow_48 : decode cX0_payNow 48 = .ok (.ireturn, 1) := by decide +kernel
set_option maxRecDepth 20000 in
theorem ggX0_rivalsShadedBy_X0_towersShading : GoodIn wsX0_rivalsShadedBy wsX0_towersShading := goodIn_r _ [6, 7, 1, 8, 9, 10, 11, 12, 13, 14, 15, 16, 17, 18, 19, 20, 21, 22, 23, 24, 25, 26, 27, 28, 29] (by decide +kernel) (by decide +kernel)
set_option maxRecDepth 20000 in
theorem gX0_rivalsShadedBy_X0_towersShading : GoodIn wsX0_rivalsShadedBy (wsV RX0 81 RX0 yX0_towersShading wsX0_towersShading) := goodIn_app (goodIn_of _ (by decide +kernel)) ggX0_rivalsShadedBy_X0_towersShading
theorem dX0_rivalsShadedBy_0 : decode cX0_rivalsShadedBy 0 = .ok (.iconst 0, 1) := by decide +kernel
theorem dX0_rivalsShadedBy_1 : decode cX0_rivalsShadedBy 1 = .ok (.istore_n 2, 1) := by decide +kernel
theorem dX0_rivalsShadedBy_2 : decode cX0_rivalsShadedBy 2 = .ok (.iconst 0, 1) := by decide +kernel
theorem dX0_rivalsShadedBy_3 : decode cX0_rivalsShadedBy 3 = .ok (.istore_n 3, 1) := by decide +kernel
theorem dX0_rivalsShadedBy_4 : decode cX0_rivalsShadedBy 4 = .ok (.iload_n 3, 1) := by decide +kernel
theorem dX0_rivalsShadedBy_5 : decode cX0_rivalsShadedBy 5 = .ok (.bipush 36, 2) := by decide +kernel
theorem dX0_rivalsShadedBy_7 : decode cX0_rivalsShadedBy 7 = .ok (.if_icmp .ge 33, 3) := by decide +kernel
theorem dX0_rivalsShadedBy_10 : decode cX0_rivalsShadedBy 10 = .ok (.aload_n 0, 1) := by decide +kernel
theorem dX0_rivalsShadedBy_11 : decode cX0_rivalsShadedBy 11 = .ok (.getfield 15, 3) := by decide +kernel
theorem dX0_rivalsShadedBy_14 : decode cX0_rivalsShadedBy 14 = .ok (.iload_n 3, 1) := by decide +kernel
theorem dX0_rivalsShadedBy_15 : decode cX0_rivalsShadedBy 15 = .ok (.iaload, 1) := by decide +kernel
theorem dX0_rivalsShadedBy_16 : decode cX0_rivalsShadedBy 16 = .ok (.iconst 1, 1) := by decide +kernel
theorem dX0_rivalsShadedBy_17 : decode cX0_rivalsShadedBy 17 = .ok (.iload_n 1, 1) := by decide +kernel
theorem dX0_rivalsShadedBy_18 : decode cX0_rivalsShadedBy 18 = .ok (.isub, 1) := by decide +kernel
theorem dX0_rivalsShadedBy_19 : decode cX0_rivalsShadedBy 19 = .ok (.if_icmp .ne 15, 3) := by decide +kernel
theorem dX0_rivalsShadedBy_22 : decode cX0_rivalsShadedBy 22 = .ok (.aload_n 0, 1) := by decide +kernel
theorem dX0_rivalsShadedBy_23 : decode cX0_rivalsShadedBy 23 = .ok (.iload_n 3, 1) := by decide +kernel
theorem dX0_rivalsShadedBy_24 : decode cX0_rivalsShadedBy 24 = .ok (.iload_n 1, 1) := by decide +kernel
theorem dX0_rivalsShadedBy_25 : decode cX0_rivalsShadedBy 25 = .ok (.invokevirtual 81, 3) := by decide +kernel
theorem dX0_rivalsShadedBy_28 : decode cX0_rivalsShadedBy 28 = .ok (.ifCond .le 6, 3) := by decide +kernel
theorem dX0_rivalsShadedBy_31 : decode cX0_rivalsShadedBy 31 = .ok (.iinc 2 1, 3) := by decide +kernel
theorem dX0_rivalsShadedBy_34 : decode cX0_rivalsShadedBy 34 = .ok (.iinc 3 1, 3) := by decide +kernel
theorem dX0_rivalsShadedBy_37 : decode cX0_rivalsShadedBy 37 = .ok (.goto (-33), 3) := by decide +kernel
theorem dX0_rivalsShadedBy_40 : decode cX0_rivalsShadedBy 40 = .ok (.iload_n 2, 1) := by decide +kernel
theorem dX0_rivalsShadedBy_41 : decode cX0_rivalsShadedBy 41 = .ok (.ireturn, 1) := by decide +kernel
theorem dX0_crowdsTogether_0 : decode cX0_crowdsTogether 0 = .ok (.iconst 0, 1) := by decide +kernel
theorem dX0_crowdsTogether_1 : decode cX0_crowdsTogether 1 = .ok (.istore_n 1, 1) := by decide +kernel
theorem dX0_crowdsTogether_2 : decode cX0_crowdsTogether 2 = .ok (.iconst 0, 1) := by decide +kernel
theorem dX0_crowdsTogether_3 : decode cX0_crowdsTogether 3 = .ok (.istore_n 2, 1) := by decide +kernel
theorem dX0_crowdsTogether_4 : decode cX0_crowdsTogether 4 = .ok (.iload_n 2, 1) := by decide +kernel
theorem dX0_crowdsTogether_5 : decode cX0_crowdsTogether 5 = .ok (.bipush 36, 2) := by decide +kernel
theorem dX0_crowdsTogether_7 : decode cX0_crowdsTogether 7 = .ok (.if_icmp .ge 18, 3) := by decide +kernel
theorem dX0_crowdsTogether_10 : decode cX0_crowdsTogether 10 = .ok (.iload_n 1, 1) := by decide +kernel
theorem dX0_crowdsTogether_11 : decode cX0_crowdsTogether 11 = .ok (.aload_n 0, 1) := by decide +kernel
theorem dX0_crowdsTogether_12 : decode cX0_crowdsTogether 12 = .ok (.getfield 18, 3) := by decide +kernel
theorem dX0_crowdsTogether_15 : decode cX0_crowdsTogether 15 = .ok (.iload_n 2, 1) := by decide +kernel
theorem dX0_crowdsTogether_16 : decode cX0_crowdsTogether 16 = .ok (.iaload, 1) := by decide +kernel
theorem dX0_crowdsTogether_17 : decode cX0_crowdsTogether 17 = .ok (.iadd, 1) := by decide +kernel
theorem dX0_crowdsTogether_18 : decode cX0_crowdsTogether 18 = .ok (.istore_n 1, 1) := by decide +kernel
theorem dX0_crowdsTogether_19 : decode cX0_crowdsTogether 19 = .ok (.iinc 2 1, 3) := by decide +kernel
theorem dX0_crowdsTogether_22 : decode cX0_crowdsTogether 22 = .ok (.goto (-18), 3) := by decide +kernel
theorem dX0_crowdsTogether_25 : decode cX0_crowdsTogether 25 = .ok (.iload_n 1, 1) := by decide +kernel
theorem dX0_crowdsTogether_26 : decode cX0_crowdsTogether 26 = .ok (.ireturn, 1) := by decide +kernel
theorem dX1_init_0 : decode cX1_init 0 = .ok (.aload_n 0, 1) := by decide +kernel
theorem dX1_init_1 : decode cX1_init 1 = .ok (.invokespecial 3, 3) := by decide +kernel
theorem dX1_init_4 : decode cX1_init 4 = .ok (.aload_n 0, 1) := by decide +kernel
theorem dX1_init_5 : decode cX1_init 5 = .ok (.bipush 60, 2) := by decide +kernel
theorem dX1_init_7 : decode cX1_init 7 = .ok (.newarray .int, 2) := by decide +kernel
theorem dX1_init_9 : decode cX1_init 9 = .ok (.putfield 11, 3) := by decide +kernel
theorem dX1_init_12 : decode cX1_init 12 = .ok (.return_, 1) := by decide +kernel
theorem dX1_isFull_0 : decode cX1_isFull 0 = .ok (.aload_n 0, 1) := by decide +kernel
theorem dX1_isFull_1 : decode cX1_isFull 1 = .ok (.getfield 15, 3) := by decide +kernel
theorem dX1_isFull_4 : decode cX1_isFull 4 = .ok (.bipush 60, 2) := by decide +kernel
theorem dX1_isFull_6 : decode cX1_isFull 6 = .ok (.if_icmp .lt 7, 3) := by decide +kernel
theorem dX1_isFull_9 : decode cX1_isFull 9 = .ok (.iconst 1, 1) := by decide +kernel
theorem dX1_isFull_10 : decode cX1_isFull 10 = .ok (.goto 4, 3) := by decide +kernel
theorem dX1_isFull_13 : decode cX1_isFull 13 = .ok (.iconst 0, 1) := by decide +kernel
theorem dX1_isFull_14 : decode cX1_isFull 14 = .ok (.ireturn, 1) := by decide +kernel
theorem dX1_add_0 : decode cX1_add 0 = .ok (.aload_n 0, 1) := by decide +kernel
theorem dX1_add_1 : decode cX1_add 1 = .ok (.getfield 11, 3) := by decide +kernel
theorem dX1_add_4 : decode cX1_add 4 = .ok (.aload_n 0, 1) := by decide +kernel
theorem dX1_add_5 : decode cX1_add 5 = .ok (.getfield 15, 3) := by decide +kernel
theorem dX1_add_8 : decode cX1_add 8 = .ok (.iload_n 1, 1) := by decide +kernel
theorem dX1_add_9 : decode cX1_add 9 = .ok (.iastore, 1) := by decide +kernel
theorem dX1_add_10 : decode cX1_add 10 = .ok (.aload_n 0, 1) := by decide +kernel
theorem dX1_add_11 : decode cX1_add 11 = .ok (.dup, 1) := by decide +kernel
theorem dX1_add_12 : decode cX1_add 12 = .ok (.getfield 15, 3) := by decide +kernel
theorem dX1_add_15 : decode cX1_add 15 = .ok (.iconst 1, 1) := by decide +kernel
theorem dX1_add_16 : decode cX1_add 16 = .ok (.iadd, 1) := by decide +kernel
theorem dX1_add_17 : decode cX1_add 17 = .ok (.putfield 15, 3) := by decide +kernel
theorem dX1_add_20 : decode cX1_add 20 = .ok (.return_, 1) := by decide +kernel
set_option maxRecDepth 20000 in
theorem ggX1_errorIndex_X1_fits : GoodIn wsX1_errorIndex wsX1_fits := goodIn_r _ [6, 7, 8, 9, 5, 10, 11, 12] (by decide +kernel) (by decide +kernel)
set_option maxRecDepth 20000 in
theorem gX1_errorIndex_X1_fits : GoodIn wsX1_errorIndex (wsV RX1 19 RX1 yX1_fits wsX1_fits) := goodIn_app (goodIn_of _ (by decide +kernel)) ggX1_errorIndex_X1_fits
theorem dX1_errorIndex_0 : decode cX1_errorIndex 0 = .ok (.iconst 0, 1) := by decide +kernel
theorem dX1_errorIndex_1 : decode cX1_errorIndex 1 = .ok (.istore_n 1, 1) := by decide +kernel
theorem dX1_errorIndex_2 : decode cX1_errorIndex 2 = .ok (.iload_n 1, 1) := by decide +kernel
theorem dX1_errorIndex_3 : decode cX1_errorIndex 3 = .ok (.aload_n 0, 1) := by decide +kernel
theorem dX1_errorIndex_4 : decode cX1_errorIndex 4 = .ok (.getfield 15, 3) := by decide +kernel
theorem dX1_errorIndex_7 : decode cX1_errorIndex 7 = .ok (.if_icmp .ge 19, 3) := by decide +kernel
theorem dX1_errorIndex_10 : decode cX1_errorIndex 10 = .ok (.aload_n 0, 1) := by decide +kernel
theorem dX1_errorIndex_11 : decode cX1_errorIndex 11 = .ok (.iload_n 1, 1) := by decide +kernel
theorem dX1_errorIndex_12 : decode cX1_errorIndex 12 = .ok (.invokevirtual 19, 3) := by decide +kernel
theorem dX1_errorIndex_15 : decode cX1_errorIndex 15 = .ok (.ifCond .ne 5, 3) := by decide +kernel
theorem dX1_errorIndex_18 : decode cX1_errorIndex 18 = .ok (.iload_n 1, 1) := by decide +kernel
theorem dX1_errorIndex_19 : decode cX1_errorIndex 19 = .ok (.ireturn, 1) := by decide +kernel
theorem dX1_errorIndex_20 : decode cX1_errorIndex 20 = .ok (.iinc 1 1, 3) := by decide +kernel
theorem dX1_errorIndex_23 : decode cX1_errorIndex 23 = .ok (.goto (-21), 3) := by decide +kernel
theorem dX1_errorIndex_26 : decode cX1_errorIndex 26 = .ok (.aload_n 0, 1) := by decide +kernel
theorem dX1_errorIndex_27 : decode cX1_errorIndex 27 = .ok (.getfield 15, 3) := by decide +kernel
theorem dX1_errorIndex_30 : decode cX1_errorIndex 30 = .ok (.ireturn, 1) := by decide +kernel
set_option maxRecDepth 20000 in
theorem ggX1_isWhole_X1_errorIndex : GoodIn wsX1_isWhole wsX1_errorIndex := goodIn_r _ [6, 1, 7, 8, 9, 5, 10, 11, 12, 13, 14, 15, 16] (by decide +kernel) (by decide +kernel)
set_option maxRecDepth 20000 in
theorem gX1_isWhole_X1_errorIndex : GoodIn wsX1_isWhole (wsV RX1 23 RX1 yX1_errorIndex wsX1_errorIndex) := goodIn_app (goodIn_of _ (by decide +kernel)) ggX1_isWhole_X1_errorIndex
theorem dX1_isWhole_0 : decode cX1_isWhole 0 = .ok (.aload_n 0, 1) := by decide +kernel
theorem dX1_isWhole_1 : decode cX1_isWhole 1 = .ok (.getfield 15, 3) := by decide +kernel
theorem dX1_isWhole_4 : decode cX1_isWhole 4 = .ok (.iconst 5, 1) := by decide +kernel
theorem dX1_isWhole_5 : decode cX1_isWhole 5 = .ok (.irem, 1) := by decide +kernel
theorem dX1_isWhole_6 : decode cX1_isWhole 6 = .ok (.iconst 4, 1) := by decide +kernel
theorem dX1_isWhole_7 : decode cX1_isWhole 7 = .ok (.if_icmp .ne 18, 3) := by decide +kernel
theorem dX1_isWhole_10 : decode cX1_isWhole 10 = .ok (.aload_n 0, 1) := by decide +kernel
theorem dX1_isWhole_11 : decode cX1_isWhole 11 = .ok (.invokevirtual 23, 3) := by decide +kernel
theorem dX1_isWhole_14 : decode cX1_isWhole 14 = .ok (.aload_n 0, 1) := by decide +kernel
theorem dX1_isWhole_15 : decode cX1_isWhole 15 = .ok (.getfield 15, 3) := by decide +kernel
theorem dX1_isWhole_18 : decode cX1_isWhole 18 = .ok (.if_icmp .ne 7, 3) := by decide +kernel
theorem dX1_isWhole_21 : decode cX1_isWhole 21 = .ok (.iconst 1, 1) := by decide +kernel
theorem dX1_isWhole_22 : decode cX1_isWhole 22 = .ok (.goto 4, 3) := by decide +kernel
theorem dX1_isWhole_25 : decode cX1_isWhole 25 = .ok (.iconst 0, 1) := by decide +kernel
theorem dX1_isWhole_26 : decode cX1_isWhole 26 = .ok (.ireturn, 1) := by decide +kernel
theorem dX1_entries_0 : decode cX1_entries 0 = .ok (.aload_n 0, 1) := by decide +kernel
theorem dX1_entries_1 : decode cX1_entries 1 = .ok (.getfield 15, 3) := by decide +kernel
theorem dX1_entries_4 : decode cX1_entries 4 = .ok (.iconst 1, 1) := by decide +kernel
theorem dX1_entries_5 : decode cX1_entries 5 = .ok (.iadd, 1) := by decide +kernel
theorem dX1_entries_6 : decode cX1_entries 6 = .ok (.iconst 5, 1) := by decide +kernel
theorem dX1_entries_7 : decode cX1_entries 7 = .ok (.idiv, 1) := by decide +kernel
theorem dX1_entries_8 : decode cX1_entries 8 = .ok (.ireturn, 1) := by decide +kernel
theorem dX1_square_0 : decode cX1_square 0 = .ok (.iload_n 1, 1) := by decide +kernel
theorem dX1_square_1 : decode cX1_square 1 = .ok (.iconst 5, 1) := by decide +kernel
theorem dX1_square_2 : decode cX1_square 2 = .ok (.imul, 1) := by decide +kernel
theorem dX1_square_3 : decode cX1_square 3 = .ok (.istore_n 2, 1) := by decide +kernel
theorem dX1_square_4 : decode cX1_square 4 = .ok (.aload_n 0, 1) := by decide +kernel
theorem dX1_square_5 : decode cX1_square 5 = .ok (.getfield 11, 3) := by decide +kernel
theorem dX1_square_8 : decode cX1_square 8 = .ok (.iload_n 2, 1) := by decide +kernel
theorem dX1_square_9 : decode cX1_square 9 = .ok (.iaload, 1) := by decide +kernel
theorem dX1_square_10 : decode cX1_square 10 = .ok (.bipush 97, 2) := by decide +kernel
theorem dX1_square_12 : decode cX1_square 12 = .ok (.isub, 1) := by decide +kernel
theorem dX1_square_13 : decode cX1_square 13 = .ok (.bipush 6, 2) := by decide +kernel
theorem dX1_square_15 : decode cX1_square 15 = .ok (.imul, 1) := by decide +kernel
theorem dX1_square_16 : decode cX1_square 16 = .ok (.aload_n 0, 1) := by decide +kernel
theorem dX1_square_17 : decode cX1_square 17 = .ok (.getfield 11, 3) := by decide +kernel
theorem dX1_square_20 : decode cX1_square 20 = .ok (.iload_n 2, 1) := by decide +kernel
theorem dX1_square_21 : decode cX1_square 21 = .ok (.iconst 1, 1) := by decide +kernel
theorem dX1_square_22 : decode cX1_square 22 = .ok (.iadd, 1) := by decide +kernel
theorem dX1_square_23 : decode cX1_square 23 = .ok (.iaload, 1) := by decide +kernel
theorem dX1_square_24 : decode cX1_square 24 = .ok (.iadd, 1) := by decide +kernel
theorem dX1_square_25 : decode cX1_square 25 = .ok (.bipush 49, 2) := by decide +kernel
theorem dX1_square_27 : decode cX1_square 27 = .ok (.isub, 1) := by decide +kernel
theorem dX1_square_28 : decode cX1_square 28 = .ok (.ireturn, 1) := by decide +kernel
theorem dX1_mark_0 : decode cX1_mark 0 = .ok (.aload_n 0, 1) := by decide +kernel
theorem dX1_mark_1 : decode cX1_mark 1 = .ok (.getfield 11, 3) := by decide +kernel
theorem dX1_mark_4 : decode cX1_mark 4 = .ok (.iload_n 1, 1) := by decide +kernel
theorem dX1_mark_5 : decode cX1_mark 5 = .ok (.iconst 5, 1) := by decide +kernel
theorem dX1_mark_6 : decode cX1_mark 6 = .ok (.imul, 1) := by decide +kernel
theorem dX1_mark_7 : decode cX1_mark 7 = .ok (.iconst 2, 1) := by decide +kernel
theorem dX1_mark_8 : decode cX1_mark 8 = .ok (.iadd, 1) := by decide +kernel
theorem dX1_mark_9 : decode cX1_mark 9 = .ok (.iaload, 1) := by decide +kernel
theorem dX1_mark_10 : decode cX1_mark 10 = .ok (.ireturn, 1) := by decide +kernel
theorem dX1_number_0 : decode cX1_number 0 = .ok (.aload_n 0, 1) := by decide +kernel
theorem dX1_number_1 : decode cX1_number 1 = .ok (.getfield 11, 3) := by decide +kernel
theorem dX1_number_4 : decode cX1_number 4 = .ok (.iload_n 1, 1) := by decide +kernel
theorem dX1_number_5 : decode cX1_number 5 = .ok (.iconst 5, 1) := by decide +kernel
theorem dX1_number_6 : decode cX1_number 6 = .ok (.imul, 1) := by decide +kernel
theorem dX1_number_7 : decode cX1_number 7 = .ok (.iconst 3, 1) := by decide +kernel
theorem dX1_number_8 : decode cX1_number 8 = .ok (.iadd, 1) := by decide +kernel
theorem dX1_number_9 : decode cX1_number 9 = .ok (.iaload, 1) := by decide +kernel
theorem dX1_number_10 : decode cX1_number 10 = .ok (.bipush 48, 2) := by decide +kernel
theorem dX1_number_12 : decode cX1_number 12 = .ok (.isub, 1) := by decide +kernel
theorem dX1_number_13 : decode cX1_number 13 = .ok (.ireturn, 1) := by decide +kernel
set_option maxRecDepth 20000 in
theorem ggX1_fits_X1_leastDigit : GoodIn wsX1_fits wsX1_leastDigit := goodIn_r _ [5] (by decide +kernel) (by decide +kernel)
set_option maxRecDepth 20000 in
theorem gX1_fits_X1_leastDigit : GoodIn wsX1_fits (va_wsS RX1 27 yX1_leastDigit wsX1_leastDigit) := goodIn_app (goodIn_of _ (by decide +kernel)) ggX1_fits_X1_leastDigit
theorem dX1_fits_0 : decode cX1_fits 0 = .ok (.aload_n 0, 1) := by decide +kernel
theorem dX1_fits_1 : decode cX1_fits 1 = .ok (.getfield 11, 3) := by decide +kernel
theorem dX1_fits_4 : decode cX1_fits 4 = .ok (.iload_n 1, 1) := by decide +kernel
theorem dX1_fits_5 : decode cX1_fits 5 = .ok (.iaload, 1) := by decide +kernel
theorem dX1_fits_6 : decode cX1_fits 6 = .ok (.istore_n 2, 1) := by decide +kernel
theorem dX1_fits_7 : decode cX1_fits 7 = .ok (.iload_n 1, 1) := by decide +kernel
theorem dX1_fits_8 : decode cX1_fits 8 = .ok (.iconst 5, 1) := by decide +kernel
theorem dX1_fits_9 : decode cX1_fits 9 = .ok (.irem, 1) := by decide +kernel
theorem dX1_fits_10 : decode cX1_fits 10 = .ok (.tableswitch 117 0 3 #[30, 48, 66, 90], 30) := by decide +kernel
theorem dX1_fits_40 : decode cX1_fits 40 = .ok (.iload_n 2, 1) := by decide +kernel
theorem dX1_fits_41 : decode cX1_fits 41 = .ok (.bipush 97, 2) := by decide +kernel
theorem dX1_fits_43 : decode cX1_fits 43 = .ok (.if_icmp .lt 13, 3) := by decide +kernel
theorem dX1_fits_46 : decode cX1_fits 46 = .ok (.iload_n 2, 1) := by decide +kernel
theorem dX1_fits_47 : decode cX1_fits 47 = .ok (.bipush 102, 2) := by decide +kernel
theorem dX1_fits_49 : decode cX1_fits 49 = .ok (.if_icmp .gt 7, 3) := by decide +kernel
theorem dX1_fits_52 : decode cX1_fits 52 = .ok (.iconst 1, 1) := by decide +kernel
theorem dX1_fits_53 : decode cX1_fits 53 = .ok (.goto 4, 3) := by decide +kernel
theorem dX1_fits_56 : decode cX1_fits 56 = .ok (.iconst 0, 1) := by decide +kernel
theorem dX1_fits_57 : decode cX1_fits 57 = .ok (.ireturn, 1) := by decide +kernel
theorem dX1_fits_58 : decode cX1_fits 58 = .ok (.iload_n 2, 1) := by decide +kernel
theorem dX1_fits_59 : decode cX1_fits 59 = .ok (.bipush 49, 2) := by decide +kernel
theorem dX1_fits_61 : decode cX1_fits 61 = .ok (.if_icmp .lt 13, 3) := by decide +kernel
theorem dX1_fits_64 : decode cX1_fits 64 = .ok (.iload_n 2, 1) := by decide +kernel
theorem dX1_fits_65 : decode cX1_fits 65 = .ok (.bipush 54, 2) := by decide +kernel
theorem dX1_fits_67 : decode cX1_fits 67 = .ok (.if_icmp .gt 7, 3) := by decide +kernel
theorem dX1_fits_70 : decode cX1_fits 70 = .ok (.iconst 1, 1) := by decide +kernel
theorem dX1_fits_71 : decode cX1_fits 71 = .ok (.goto 4, 3) := by decide +kernel
theorem dX1_fits_74 : decode cX1_fits 74 = .ok (.iconst 0, 1) := by decide +kernel
theorem dX1_fits_75 : decode cX1_fits 75 = .ok (.ireturn, 1) := by decide +kernel
theorem dX1_fits_76 : decode cX1_fits 76 = .ok (.iload_n 2, 1) := by decide +kernel
theorem dX1_fits_77 : decode cX1_fits 77 = .ok (.bipush 43, 2) := by decide +kernel
theorem dX1_fits_79 : decode cX1_fits 79 = .ok (.if_icmp .eq 15, 3) := by decide +kernel
theorem dX1_fits_82 : decode cX1_fits 82 = .ok (.iload_n 2, 1) := by decide +kernel
theorem dX1_fits_83 : decode cX1_fits 83 = .ok (.bipush 45, 2) := by decide +kernel
theorem dX1_fits_85 : decode cX1_fits 85 = .ok (.if_icmp .eq 9, 3) := by decide +kernel
theorem dX1_fits_88 : decode cX1_fits 88 = .ok (.iload_n 2, 1) := by decide +kernel
theorem dX1_fits_89 : decode cX1_fits 89 = .ok (.bipush 61, 2) := by decide +kernel
theorem dX1_fits_91 : decode cX1_fits 91 = .ok (.if_icmp .ne 7, 3) := by decide +kernel
theorem dX1_fits_94 : decode cX1_fits 94 = .ok (.iconst 1, 1) := by decide +kernel
theorem dX1_fits_95 : decode cX1_fits 95 = .ok (.goto 4, 3) := by decide +kernel
theorem dX1_fits_98 : decode cX1_fits 98 = .ok (.iconst 0, 1) := by decide +kernel
theorem dX1_fits_99 : decode cX1_fits 99 = .ok (.ireturn, 1) := by decide +kernel
theorem dX1_fits_100 : decode cX1_fits 100 = .ok (.iload_n 2, 1) := by decide +kernel
theorem dX1_fits_101 : decode cX1_fits 101 = .ok (.aload_n 0, 1) := by decide +kernel
theorem dX1_fits_102 : decode cX1_fits 102 = .ok (.getfield 11, 3) := by decide +kernel
theorem dX1_fits_105 : decode cX1_fits 105 = .ok (.iload_n 1, 1) := by decide +kernel
theorem dX1_fits_106 : decode cX1_fits 106 = .ok (.iconst 1, 1) := by decide +kernel
theorem dX1_fits_107 : decode cX1_fits 107 = .ok (.isub, 1) := by decide +kernel
theorem dX1_fits_108 : decode cX1_fits 108 = .ok (.iaload, 1) := by decide +kernel
theorem dX1_fits_109 : decode cX1_fits 109 = .ok (.invokestatic 27, 3) := by decide +kernel
theorem dX1_fits_112 : decode cX1_fits 112 = .ok (.if_icmp .lt 13, 3) := by decide +kernel
theorem dX1_fits_115 : decode cX1_fits 115 = .ok (.iload_n 2, 1) := by decide +kernel
theorem dX1_fits_116 : decode cX1_fits 116 = .ok (.bipush 57, 2) := by decide +kernel
theorem dX1_fits_118 : decode cX1_fits 118 = .ok (.if_icmp .gt 7, 3) := by decide +kernel
theorem dX1_fits_121 : decode cX1_fits 121 = .ok (.iconst 1, 1) := by decide +kernel
theorem dX1_fits_122 : decode cX1_fits 122 = .ok (.goto 4, 3) := by decide +kernel
theorem dX1_fits_125 : decode cX1_fits 125 = .ok (.iconst 0, 1) := by decide +kernel
theorem dX1_fits_126 : decode cX1_fits 126 = .ok (.ireturn, 1) := by decide +kernel
theorem dX1_fits_127 : decode cX1_fits 127 = .ok (.iload_n 2, 1) := by decide +kernel
theorem dX1_fits_128 : decode cX1_fits 128 = .ok (.bipush 59, 2) := by decide +kernel
theorem dX1_fits_130 : decode cX1_fits 130 = .ok (.if_icmp .ne 7, 3) := by decide +kernel
theorem dX1_fits_133 : decode cX1_fits 133 = .ok (.iconst 1, 1) := by decide +kernel
theorem dX1_fits_134 : decode cX1_fits 134 = .ok (.goto 4, 3) := by decide +kernel
theorem dX1_fits_137 : decode cX1_fits 137 = .ok (.iconst 0, 1) := by decide +kernel
theorem dX1_fits_138 : decode cX1_fits 138 = .ok (.ireturn, 1) := by decide +kernel
theorem dX1_leastDigit_0 : decode cX1_leastDigit 0 = .ok (.iload_n 0, 1) := by decide +kernel
theorem dX1_leastDigit_1 : decode cX1_leastDigit 1 = .ok (.bipush 61, 2) := by decide +kernel
theorem dX1_leastDigit_3 : decode cX1_leastDigit 3 = .ok (.if_icmp .ne 8, 3) := by decide +kernel
theorem dX1_leastDigit_6 : decode cX1_leastDigit 6 = .ok (.bipush 48, 2) := by decide +kernel
theorem dX1_leastDigit_8 : decode cX1_leastDigit 8 = .ok (.goto 5, 3) := by decide +kernel
theorem dX1_leastDigit_11 : decode cX1_leastDigit 11 = .ok (.bipush 49, 2) := by decide +kernel
theorem dX1_leastDigit_13 : decode cX1_leastDigit 13 = .ok (.ireturn, 1) := by decide +kernel
theorem dX2_init_0 : decode cX2_init 0 = .ok (.aload_n 0, 1) := by decide +kernel
theorem dX2_init_1 : decode cX2_init 1 = .ok (.invokespecial 1, 3) := by decide +kernel
theorem dX2_init_4 : decode cX2_init 4 = .ok (.aload_n 0, 1) := by decide +kernel
theorem dX2_init_5 : decode cX2_init 5 = .ok (.sipush 684, 3) := by decide +kernel
theorem dX2_init_8 : decode cX2_init 8 = .ok (.newarray .int, 2) := by decide +kernel
theorem dX2_init_10 : decode cX2_init 10 = .ok (.putfield 11, 3) := by decide +kernel
theorem dX2_init_13 : decode cX2_init 13 = .ok (.return_, 1) := by decide +kernel
set_option maxRecDepth 20000 in
theorem ggX2_push_X2_place : GoodIn wsX2_push wsX2_place := goodIn_r _ [8, 3, 26, 27, 28] (by decide +kernel) (by decide +kernel)
set_option maxRecDepth 20000 in
theorem gX2_push_X2_place : GoodIn wsX2_push (wsV RX2 19 RX2 yX2_place wsX2_place) := goodIn_app (goodIn_of _ (by decide +kernel)) ggX2_push_X2_place
set_option maxRecDepth 20000 in
theorem ggX2_push_X0_writeTo : GoodIn wsX2_push wsX0_writeTo := goodIn_r _ [13, 14, 15, 16, 17, 18, 19, 20, 21, 22, 23, 24, 25, 29, 30, 31, 32, 33, 34, 35, 36] (by decide +kernel) (by decide +kernel)
set_option maxRecDepth 20000 in
theorem gX2_push_X0_writeTo : GoodIn wsX2_push (wsV RX2 23 RX0 yX0_writeTo wsX0_writeTo) := goodIn_app (goodIn_of _ (by decide +kernel)) ggX2_push_X0_writeTo
theorem dX2_push_0 : decode cX2_push 0 = .ok (.aload_n 1, 1) := by decide +kernel
theorem dX2_push_1 : decode cX2_push 1 = .ok (.aload_n 0, 1) := by decide +kernel
theorem dX2_push_2 : decode cX2_push 2 = .ok (.getfield 11, 3) := by decide +kernel
theorem dX2_push_5 : decode cX2_push 5 = .ok (.aload_n 0, 1) := by decide +kernel
theorem dX2_push_6 : decode cX2_push 6 = .ok (.aload_n 0, 1) := by decide +kernel
theorem dX2_push_7 : decode cX2_push 7 = .ok (.getfield 15, 3) := by decide +kernel
theorem dX2_push_10 : decode cX2_push 10 = .ok (.invokevirtual 19, 3) := by decide +kernel
theorem dX2_push_13 : decode cX2_push 13 = .ok (.invokevirtual 23, 3) := by decide +kernel
theorem dX2_push_16 : decode cX2_push 16 = .ok (.aload_n 0, 1) := by decide +kernel
theorem dX2_push_17 : decode cX2_push 17 = .ok (.getfield 15, 3) := by decide +kernel
theorem dX2_push_20 : decode cX2_push 20 = .ok (.bipush 6, 2) := by decide +kernel
theorem dX2_push_22 : decode cX2_push 22 = .ok (.if_icmp .ge 16, 3) := by decide +kernel
theorem dX2_push_25 : decode cX2_push 25 = .ok (.aload_n 0, 1) := by decide +kernel
theorem dX2_push_26 : decode cX2_push 26 = .ok (.dup, 1) := by decide +kernel
theorem dX2_push_27 : decode cX2_push 27 = .ok (.getfield 15, 3) := by decide +kernel
theorem dX2_push_30 : decode cX2_push 30 = .ok (.iconst 1, 1) := by decide +kernel
theorem dX2_push_31 : decode cX2_push 31 = .ok (.iadd, 1) := by decide +kernel
theorem dX2_push_32 : decode cX2_push 32 = .ok (.putfield 15, 3) := by decide +kernel
theorem dX2_push_35 : decode cX2_push 35 = .ok (.goto 16, 3) := by decide +kernel
theorem dX2_push_38 : decode cX2_push 38 = .ok (.aload_n 0, 1) := by decide +kernel
theorem dX2_push_39 : decode cX2_push 39 = .ok (.aload_n 0, 1) := by decide +kernel
theorem dX2_push_40 : decode cX2_push 40 = .ok (.getfield 27, 3) := by decide +kernel
theorem dX2_push_43 : decode cX2_push 43 = .ok (.iconst 1, 1) := by decide +kernel
theorem dX2_push_44 : decode cX2_push 44 = .ok (.iadd, 1) := by decide +kernel
theorem dX2_push_45 : decode cX2_push 45 = .ok (.bipush 6, 2) := by decide +kernel
theorem dX2_push_47 : decode cX2_push 47 = .ok (.irem, 1) := by decide +kernel
theorem dX2_push_48 : decode cX2_push 48 = .ok (.putfield 27, 3) := by decide +kernel
theorem dX2_push_51 : decode cX2_push 51 = .ok (.return_, 1) := by decide +kernel
set_option maxRecDepth 20000 in
theorem ggX2_popInto_X2_place : GoodIn wsX2_popInto wsX2_place := goodIn_r _ [7, 8, 26, 27, 28] (by decide +kernel) (by decide +kernel)
set_option maxRecDepth 20000 in
theorem gX2_popInto_X2_place : GoodIn wsX2_popInto (wsV RX2 19 RX2 yX2_place wsX2_place) := goodIn_app (goodIn_of _ (by decide +kernel)) ggX2_popInto_X2_place
set_option maxRecDepth 20000 in
theorem ggX2_popInto_X0_readFrom : GoodIn wsX2_popInto wsX0_readFrom := goodIn_r _ [13, 14, 15, 16, 17, 18, 19, 20, 21, 22, 23, 24, 25, 29, 30, 31, 32, 33, 34, 35, 36] (by decide +kernel) (by decide +kernel)
set_option maxRecDepth 20000 in
theorem gX2_popInto_X0_readFrom : GoodIn wsX2_popInto (wsV RX2 30 RX0 yX0_readFrom wsX0_readFrom) := goodIn_app (goodIn_of _ (by decide +kernel)) ggX2_popInto_X0_readFrom
theorem dX2_popInto_0 : decode cX2_popInto 0 = .ok (.aload_n 0, 1) := by decide +kernel
theorem dX2_popInto_1 : decode cX2_popInto 1 = .ok (.dup, 1) := by decide +kernel
theorem dX2_popInto_2 : decode cX2_popInto 2 = .ok (.getfield 15, 3) := by decide +kernel
theorem dX2_popInto_5 : decode cX2_popInto 5 = .ok (.iconst 1, 1) := by decide +kernel
theorem dX2_popInto_6 : decode cX2_popInto 6 = .ok (.isub, 1) := by decide +kernel
theorem dX2_popInto_7 : decode cX2_popInto 7 = .ok (.putfield 15, 3) := by decide +kernel
theorem dX2_popInto_10 : decode cX2_popInto 10 = .ok (.aload_n 1, 1) := by decide +kernel
theorem dX2_popInto_11 : decode cX2_popInto 11 = .ok (.aload_n 0, 1) := by decide +kernel
theorem dX2_popInto_12 : decode cX2_popInto 12 = .ok (.getfield 11, 3) := by decide +kernel
theorem dX2_popInto_15 : decode cX2_popInto 15 = .ok (.aload_n 0, 1) := by decide +kernel
theorem dX2_popInto_16 : decode cX2_popInto 16 = .ok (.aload_n 0, 1) := by decide +kernel
theorem dX2_popInto_17 : decode cX2_popInto 17 = .ok (.getfield 15, 3) := by decide +kernel
theorem dX2_popInto_20 : decode cX2_popInto 20 = .ok (.invokevirtual 19, 3) := by decide +kernel
theorem dX2_popInto_23 : decode cX2_popInto 23 = .ok (.invokevirtual 30, 3) := by decide +kernel
theorem dX2_popInto_26 : decode cX2_popInto 26 = .ok (.return_, 1) := by decide +kernel
theorem dX2_place_0 : decode cX2_place 0 = .ok (.aload_n 0, 1) := by decide +kernel
theorem dX2_place_1 : decode cX2_place 1 = .ok (.getfield 27, 3) := by decide +kernel
theorem dX2_place_4 : decode cX2_place 4 = .ok (.iload_n 1, 1) := by decide +kernel
theorem dX2_place_5 : decode cX2_place 5 = .ok (.iadd, 1) := by decide +kernel
theorem dX2_place_6 : decode cX2_place 6 = .ok (.bipush 6, 2) := by decide +kernel
theorem dX2_place_8 : decode cX2_place 8 = .ok (.irem, 1) := by decide +kernel
theorem dX2_place_9 : decode cX2_place 9 = .ok (.bipush 114, 2) := by decide +kernel
theorem dX2_place_11 : decode cX2_place 11 = .ok (.imul, 1) := by decide +kernel
theorem dX2_place_12 : decode cX2_place 12 = .ok (.ireturn, 1) := by decide +kernel
theorem dX3_side_0 : decode cX3_side 0 = .ok (.iload_n 0, 1) := by decide +kernel
theorem dX3_side_1 : decode cX3_side 1 = .ok (.iconst 3, 1) := by decide +kernel
theorem dX3_side_2 : decode cX3_side 2 = .ok (.idiv, 1) := by decide +kernel
theorem dX3_side_3 : decode cX3_side 3 = .ok (.ireturn, 1) := by decide +kernel
theorem dX3_steepness_0 : decode cX3_steepness 0 = .ok (.iload_n 0, 1) := by decide +kernel
theorem dX3_steepness_1 : decode cX3_steepness 1 = .ok (.iconst 3, 1) := by decide +kernel
theorem dX3_steepness_2 : decode cX3_steepness 2 = .ok (.irem, 1) := by decide +kernel
theorem dX3_steepness_3 : decode cX3_steepness 3 = .ok (.lookupswitch 29 #[(0, 25), (1, 27)], 25) := by decide +kernel
theorem dX3_steepness_28 : decode cX3_steepness 28 = .ok (.iconst 1, 1) := by decide +kernel
theorem dX3_steepness_29 : decode cX3_steepness 29 = .ok (.ireturn, 1) := by decide +kernel
theorem dX3_steepness_30 : decode cX3_steepness 30 = .ok (.iconst 3, 1) := by decide +kernel
theorem dX3_steepness_31 : decode cX3_steepness 31 = .ok (.ireturn, 1) := by decide +kernel
theorem dX3_steepness_32 : decode cX3_steepness 32 = .ok (.iconst 2, 1) := by decide +kernel
theorem dX3_steepness_33 : decode cX3_steepness 33 = .ok (.ireturn, 1) := by decide +kernel
theorem dX3_stepTowardSun_0 : decode cX3_stepTowardSun 0 = .ok (.iload_n 0, 1) := by decide +kernel
theorem dX3_stepTowardSun_1 : decode cX3_stepTowardSun 1 = .ok (.tableswitch 34 0 2 #[27, 29, 32], 27) := by decide +kernel
theorem dX3_stepTowardSun_28 : decode cX3_stepTowardSun 28 = .ok (.iconst 1, 1) := by decide +kernel
theorem dX3_stepTowardSun_29 : decode cX3_stepTowardSun 29 = .ok (.ireturn, 1) := by decide +kernel
theorem dX3_stepTowardSun_30 : decode cX3_stepTowardSun 30 = .ok (.bipush 6, 2) := by decide +kernel
theorem dX3_stepTowardSun_32 : decode cX3_stepTowardSun 32 = .ok (.ireturn, 1) := by decide +kernel
theorem dX3_stepTowardSun_33 : decode cX3_stepTowardSun 33 = .ok (.iconst (-1), 1) := by decide +kernel
theorem dX3_stepTowardSun_34 : decode cX3_stepTowardSun 34 = .ok (.ireturn, 1) := by decide +kernel
theorem dX3_stepTowardSun_35 : decode cX3_stepTowardSun 35 = .ok (.bipush (-6), 2) := by decide +kernel
theorem dX3_stepTowardSun_37 : decode cX3_stepTowardSun 37 = .ok (.ireturn, 1) := by decide +kernel
theorem dX3_squaresTowardSun_0 : decode cX3_squaresTowardSun 0 = .ok (.iload_n 0, 1) := by decide +kernel
theorem dX3_squaresTowardSun_1 : decode cX3_squaresTowardSun 1 = .ok (.tableswitch 46 0 2 #[27, 34, 41], 27) := by decide +kernel
theorem dX3_squaresTowardSun_28 : decode cX3_squaresTowardSun 28 = .ok (.iconst 5, 1) := by decide +kernel
theorem dX3_squaresTowardSun_29 : decode cX3_squaresTowardSun 29 = .ok (.iload_n 1, 1) := by decide +kernel
theorem dX3_squaresTowardSun_30 : decode cX3_squaresTowardSun 30 = .ok (.bipush 6, 2) := by decide +kernel
theorem dX3_squaresTowardSun_32 : decode cX3_squaresTowardSun 32 = .ok (.irem, 1) := by decide +kernel
theorem dX3_squaresTowardSun_33 : decode cX3_squaresTowardSun 33 = .ok (.isub, 1) := by decide +kernel
theorem dX3_squaresTowardSun_34 : decode cX3_squaresTowardSun 34 = .ok (.ireturn, 1) := by decide +kernel
theorem dX3_squaresTowardSun_35 : decode cX3_squaresTowardSun 35 = .ok (.iconst 5, 1) := by decide +kernel
theorem dX3_squaresTowardSun_36 : decode cX3_squaresTowardSun 36 = .ok (.iload_n 1, 1) := by decide +kernel
theorem dX3_squaresTowardSun_37 : decode cX3_squaresTowardSun 37 = .ok (.bipush 6, 2) := by decide +kernel
theorem dX3_squaresTowardSun_39 : decode cX3_squaresTowardSun 39 = .ok (.idiv, 1) := by decide +kernel
theorem dX3_squaresTowardSun_40 : decode cX3_squaresTowardSun 40 = .ok (.isub, 1) := by decide +kernel
theorem dX3_squaresTowardSun_41 : decode cX3_squaresTowardSun 41 = .ok (.ireturn, 1) := by decide +kernel
theorem dX3_squaresTowardSun_42 : decode cX3_squaresTowardSun 42 = .ok (.iload_n 1, 1) := by decide +kernel
theorem dX3_squaresTowardSun_43 : decode cX3_squaresTowardSun 43 = .ok (.bipush 6, 2) := by decide +kernel
theorem dX3_squaresTowardSun_45 : decode cX3_squaresTowardSun 45 = .ok (.irem, 1) := by decide +kernel
theorem dX3_squaresTowardSun_46 : decode cX3_squaresTowardSun 46 = .ok (.ireturn, 1) := by decide +kernel
theorem dX3_squaresTowardSun_47 : decode cX3_squaresTowardSun 47 = .ok (.iload_n 1, 1) := by decide +kernel
theorem dX3_squaresTowardSun_48 : decode cX3_squaresTowardSun 48 = .ok (.bipush 6, 2) := by decide +kernel
theorem dX3_squaresTowardSun_50 : decode cX3_squaresTowardSun 50 = .ok (.idiv, 1) := by decide +kernel
theorem dX3_squaresTowardSun_51 : decode cX3_squaresTowardSun 51 = .ok (.ireturn, 1) := by decide +kernel
set_option maxRecDepth 20000 in
theorem ggX3_distanceTowardSun_X3_stepTowardSun : GoodIn wsX3_distanceTowardSun wsX3_stepTowardSun := goodIn_r _ [4] (by decide +kernel) (by decide +kernel)
set_option maxRecDepth 20000 in
theorem gX3_distanceTowardSun_X3_stepTowardSun : GoodIn wsX3_distanceTowardSun (va_wsS RX3 9 yX3_stepTowardSun wsX3_stepTowardSun) := goodIn_app (goodIn_of _ (by decide +kernel)) ggX3_distanceTowardSun_X3_stepTowardSun
set_option maxRecDepth 20000 in
theorem ggX3_distanceTowardSun_X3_squaresTowardSun : GoodIn wsX3_distanceTowardSun wsX3_squaresTowardSun := goodIn_r _ [7] (by decide +kernel) (by decide +kernel)
set_option maxRecDepth 20000 in
theorem gX3_distanceTowardSun_X3_squaresTowardSun : GoodIn wsX3_distanceTowardSun (va_wsS RX3 15 yX3_squaresTowardSun wsX3_squaresTowardSun) := goodIn_app (goodIn_of _ (by decide +kernel)) ggX3_distanceTowardSun_X3_squaresTowardSun
theorem dX3_distanceTowardSun_0 : decode cX3_distanceTowardSun 0 = .ok (.iload_n 0, 1) := by decide +kernel
theorem dX3_distanceTowardSun_1 : decode cX3_distanceTowardSun 1 = .ok (.invokestatic 9, 3) := by decide +kernel
theorem dX3_distanceTowardSun_4 : decode cX3_distanceTowardSun 4 = .ok (.istore_n 3, 1) := by decide +kernel
theorem dX3_distanceTowardSun_5 : decode cX3_distanceTowardSun 5 = .ok (.iload_n 0, 1) := by decide +kernel
theorem dX3_distanceTowardSun_6 : decode cX3_distanceTowardSun 6 = .ok (.iload_n 1, 1) := by decide +kernel
theorem dX3_distanceTowardSun_7 : decode cX3_distanceTowardSun 7 = .ok (.invokestatic 15, 3) := by decide +kernel
theorem dX3_distanceTowardSun_10 : decode cX3_distanceTowardSun 10 = .ok (.istore 4, 2) := by decide +kernel
theorem dX3_distanceTowardSun_12 : decode cX3_distanceTowardSun 12 = .ok (.iconst 1, 1) := by decide +kernel
theorem dX3_distanceTowardSun_13 : decode cX3_distanceTowardSun 13 = .ok (.istore 5, 2) := by decide +kernel
theorem dX3_distanceTowardSun_15 : decode cX3_distanceTowardSun 15 = .ok (.iload 5, 2) := by decide +kernel
theorem dX3_distanceTowardSun_17 : decode cX3_distanceTowardSun 17 = .ok (.iload 4, 2) := by decide +kernel
theorem dX3_distanceTowardSun_19 : decode cX3_distanceTowardSun 19 = .ok (.if_icmp .gt 22, 3) := by decide +kernel
theorem dX3_distanceTowardSun_22 : decode cX3_distanceTowardSun 22 = .ok (.iload_n 1, 1) := by decide +kernel
theorem dX3_distanceTowardSun_23 : decode cX3_distanceTowardSun 23 = .ok (.iload 5, 2) := by decide +kernel
theorem dX3_distanceTowardSun_25 : decode cX3_distanceTowardSun 25 = .ok (.iload_n 3, 1) := by decide +kernel
theorem dX3_distanceTowardSun_26 : decode cX3_distanceTowardSun 26 = .ok (.imul, 1) := by decide +kernel
theorem dX3_distanceTowardSun_27 : decode cX3_distanceTowardSun 27 = .ok (.iadd, 1) := by decide +kernel
theorem dX3_distanceTowardSun_28 : decode cX3_distanceTowardSun 28 = .ok (.iload_n 2, 1) := by decide +kernel
theorem dX3_distanceTowardSun_29 : decode cX3_distanceTowardSun 29 = .ok (.if_icmp .ne 6, 3) := by decide +kernel
theorem dX3_distanceTowardSun_32 : decode cX3_distanceTowardSun 32 = .ok (.iload 5, 2) := by decide +kernel
theorem dX3_distanceTowardSun_34 : decode cX3_distanceTowardSun 34 = .ok (.ireturn, 1) := by decide +kernel
theorem dX3_distanceTowardSun_35 : decode cX3_distanceTowardSun 35 = .ok (.iinc 5 1, 3) := by decide +kernel
theorem dX3_distanceTowardSun_38 : decode cX3_distanceTowardSun 38 = .ok (.goto (-23), 3) := by decide +kernel
theorem dX3_distanceTowardSun_41 : decode cX3_distanceTowardSun 41 = .ok (.iconst 0, 1) := by decide +kernel
theorem dX3_distanceTowardSun_42 : decode cX3_distanceTowardSun 42 = .ok (.ireturn, 1) := by decide +kernel
set_option maxRecDepth 20000 in
theorem ggX4_init_X0_init : GoodIn wsX4_init wsX0_init := goodIn_r _ [22, 23, 2, 3, 16, 24, 25, 26, 27, 36, 37, 38, 39, 40, 41, 42, 43] (by decide +kernel) (by decide +kernel)
set_option maxRecDepth 20000 in
theorem gX4_init_X0_init : GoodIn wsX4_init (wsX0_init) := ggX4_init_X0_init
set_option maxRecDepth 20000 in
theorem ggX4_init_X1_init : GoodIn wsX4_init wsX1_init := goodIn_r _ [29, 30, 2, 3, 16, 31, 49, 50] (by decide +kernel) (by decide +kernel)
set_option maxRecDepth 20000 in
theorem gX4_init_X1_init_n18 : GoodIn wsX4_init (wsX1_init) := ggX4_init_X1_init
set_option maxRecDepth 20000 in
theorem ggX4_init_X2_init : GoodIn wsX4_init wsX2_init := goodIn_r _ [33, 34, 2, 3, 16, 35, 51, 52, 53] (by decide +kernel) (by decide +kernel)
set_option maxRecDepth 20000 in
theorem gX4_init_X2_init_n25 : GoodIn wsX4_init (wsX2_init) := ggX4_init_X2_init
theorem dX4_init_0 : decode cX4_init 0 = .ok (.aload_n 0, 1) := by decide +kernel
theorem dX4_init_1 : decode cX4_init 1 = .ok (.invokespecial 1, 3) := by decide +kernel
theorem dX4_init_4 : decode cX4_init 4 = .ok (.aload_n 0, 1) := by decide +kernel
theorem dX4_init_5 : decode cX4_init 5 = .ok (.new 7, 3) := by decide +kernel
theorem dX4_init_8 : decode cX4_init 8 = .ok (.dup, 1) := by decide +kernel
theorem dX4_init_9 : decode cX4_init 9 = .ok (.invokespecial 9, 3) := by decide +kernel
theorem dX4_init_12 : decode cX4_init 12 = .ok (.putfield 10, 3) := by decide +kernel
theorem dX4_init_15 : decode cX4_init 15 = .ok (.aload_n 0, 1) := by decide +kernel
theorem dX4_init_16 : decode cX4_init 16 = .ok (.new 16, 3) := by decide +kernel
theorem dX4_init_19 : decode cX4_init 19 = .ok (.dup, 1) := by decide +kernel
theorem dX4_init_20 : decode cX4_init 20 = .ok (.invokespecial 18, 3) := by decide +kernel
theorem dX4_init_23 : decode cX4_init 23 = .ok (.putfield 19, 3) := by decide +kernel
theorem dX4_init_26 : decode cX4_init 26 = .ok (.aload_n 0, 1) := by decide +kernel
theorem dX4_init_27 : decode cX4_init 27 = .ok (.new 23, 3) := by decide +kernel
theorem dX4_init_30 : decode cX4_init 30 = .ok (.dup, 1) := by decide +kernel
theorem dX4_init_31 : decode cX4_init 31 = .ok (.invokespecial 25, 3) := by decide +kernel
theorem dX4_init_34 : decode cX4_init 34 = .ok (.putfield 26, 3) := by decide +kernel
theorem dX4_init_37 : decode cX4_init 37 = .ok (.aload_n 0, 1) := by decide +kernel
theorem dX4_init_38 : decode cX4_init 38 = .ok (.sipush 228, 3) := by decide +kernel
theorem dX4_init_41 : decode cX4_init 41 = .ok (.newarray .int, 2) := by decide +kernel
theorem dX4_init_43 : decode cX4_init 43 = .ok (.putfield 30, 3) := by decide +kernel
theorem dX4_init_46 : decode cX4_init 46 = .ok (.aload_n 0, 1) := by decide +kernel
theorem dX4_init_47 : decode cX4_init 47 = .ok (.iconst 2, 1) := by decide +kernel
theorem dX4_init_48 : decode cX4_init 48 = .ok (.newarray .boolean, 2) := by decide +kernel
theorem dX4_init_50 : decode cX4_init 50 = .ok (.putfield 34, 3) := by decide +kernel
theorem dX4_init_53 : decode cX4_init 53 = .ok (.return_, 1) := by decide +kernel
set_option maxRecDepth 20000 in
theorem ggX4_raise_X4_isSquare : GoodIn wsX4_raise wsX4_isSquare := goodIn_r _ [8] (by decide +kernel) (by decide +kernel)
set_option maxRecDepth 20000 in
theorem gX4_raise_X4_isSquare : GoodIn wsX4_raise (va_wsS RX4 38 yX4_isSquare wsX4_isSquare) := goodIn_app (goodIn_of _ (by decide +kernel)) ggX4_raise_X4_isSquare
set_option maxRecDepth 20000 in
theorem ggX4_raise_X2_push : GoodIn wsX4_raise wsX2_push := goodIn_r _ [13, 14, 15, 16, 17, 18, 19, 12, 20, 21, 22, 23, 24, 25, 26, 27, 28, 29, 30, 31, 32, 33, 34, 35, 36, 37, 84, 85, 86, 76, 77, 78, 79, 80, 81, 82, 83] (by decide +kernel) (by decide +kernel)
set_option maxRecDepth 20000 in
theorem gX4_raise_X2_push : GoodIn wsX4_raise (wsV RX4 49 RX2 yX2_push wsX2_push) := goodIn_app (goodIn_of _ (by decide +kernel)) ggX4_raise_X2_push
set_option maxRecDepth 20000 in
theorem ggX4_raise_X0_refusalReason : GoodIn wsX4_raise wsX0_refusalReason := goodIn_r _ [41, 31, 35, 26, 34, 42, 43, 44, 24, 45, 46, 47, 48, 49, 50, 51, 52, 53, 54, 55, 56, 57, 58, 76, 77, 78, 79, 80, 81, 82, 83] (by decide +kernel) (by decide +kernel)
set_option maxRecDepth 20000 in
theorem gX4_raise_X0_refusalReason : GoodIn wsX4_raise (wsV RX4 53 RX0 yX0_refusalReason wsX0_refusalReason) := goodIn_app (goodIn_of _ (by decide +kernel)) ggX4_raise_X0_refusalReason
set_option maxRecDepth 20000 in
theorem ggX4_raise_X0_putTower : GoodIn wsX4_raise wsX0_putTower := goodIn_r _ [62, 31, 26, 76, 77, 78, 79, 80, 81, 82, 83] (by decide +kernel) (by decide +kernel)
set_option maxRecDepth 20000 in
theorem gX4_raise_X0_putTower : GoodIn wsX4_raise (wsV RX4 67 RX0 yX0_putTower wsX0_putTower) := goodIn_app (goodIn_of _ (by decide +kernel)) ggX4_raise_X0_putTower
set_option maxRecDepth 20000 in
theorem ggX4_raise_X0_endTurn : GoodIn wsX4_raise wsX0_endTurn := goodIn_r _ [66, 33, 34, 35, 36, 67, 68, 69, 24, 70, 31, 32, 42, 43, 44, 45, 26, 46, 47, 48, 49, 50, 51, 52, 53, 54, 55, 56, 57, 58, 76, 77, 78, 79, 80, 81, 82, 83] (by decide +kernel) (by decide +kernel)
set_option maxRecDepth 20000 in
theorem gX4_raise_X0_endTurn : GoodIn wsX4_raise (wsV RX4 71 RX0 yX0_endTurn wsX0_endTurn) := goodIn_app (goodIn_of _ (by decide +kernel)) ggX4_raise_X0_endTurn
theorem dX4_raise_0 : decode cX4_raise 0 = .ok (.iload_n 1, 1) := by decide +kernel
theorem dX4_raise_1 : decode cX4_raise 1 = .ok (.invokestatic 38, 3) := by decide +kernel
theorem dX4_raise_4 : decode cX4_raise 4 = .ok (.ifCond .ne 13, 3) := by decide +kernel
theorem dX4_raise_7 : decode cX4_raise 7 = .ok (.new 42, 3) := by decide +kernel
theorem dX4_raise_10 : decode cX4_raise 10 = .ok (.dup, 1) := by decide +kernel
theorem dX4_raise_11 : decode cX4_raise 11 = .ok (.ldc 44, 2) := by decide +kernel
theorem dX4_raise_13 : decode cX4_raise 13 = .ok (.invokespecial 46, 3) := by decide +kernel
theorem dX4_raise_16 : decode cX4_raise 16 = .ok (.athrow, 1) := by decide +kernel
theorem dX4_raise_17 : decode cX4_raise 17 = .ok (.aload_n 0, 1) := by decide +kernel
theorem dX4_raise_18 : decode cX4_raise 18 = .ok (.getfield 26, 3) := by decide +kernel
theorem dX4_raise_21 : decode cX4_raise 21 = .ok (.aload_n 0, 1) := by decide +kernel
theorem dX4_raise_22 : decode cX4_raise 22 = .ok (.getfield 10, 3) := by decide +kernel
theorem dX4_raise_25 : decode cX4_raise 25 = .ok (.invokevirtual 49, 3) := by decide +kernel
theorem dX4_raise_28 : decode cX4_raise 28 = .ok (.aload_n 0, 1) := by decide +kernel
theorem dX4_raise_29 : decode cX4_raise 29 = .ok (.getfield 10, 3) := by decide +kernel
theorem dX4_raise_32 : decode cX4_raise 32 = .ok (.iload_n 1, 1) := by decide +kernel
theorem dX4_raise_33 : decode cX4_raise 33 = .ok (.invokevirtual 53, 3) := by decide +kernel
theorem dX4_raise_36 : decode cX4_raise 36 = .ok (.istore_n 2, 1) := by decide +kernel
theorem dX4_raise_37 : decode cX4_raise 37 = .ok (.iload_n 2, 1) := by decide +kernel
theorem dX4_raise_38 : decode cX4_raise 38 = .ok (.ifCond .eq 18, 3) := by decide +kernel
theorem dX4_raise_41 : decode cX4_raise 41 = .ok (.aload_n 0, 1) := by decide +kernel
theorem dX4_raise_42 : decode cX4_raise 42 = .ok (.getfield 10, 3) := by decide +kernel
theorem dX4_raise_45 : decode cX4_raise 45 = .ok (.dup, 1) := by decide +kernel
theorem dX4_raise_46 : decode cX4_raise 46 = .ok (.getfield 57, 3) := by decide +kernel
theorem dX4_raise_49 : decode cX4_raise 49 = .ok (.iconst 1, 1) := by decide +kernel
theorem dX4_raise_50 : decode cX4_raise 50 = .ok (.iadd, 1) := by decide +kernel
theorem dX4_raise_51 : decode cX4_raise 51 = .ok (.putfield 57, 3) := by decide +kernel
theorem dX4_raise_54 : decode cX4_raise 54 = .ok (.iload_n 2, 1) := by decide +kernel
theorem dX4_raise_55 : decode cX4_raise 55 = .ok (.ireturn, 1) := by decide +kernel
theorem dX4_raise_56 : decode cX4_raise 56 = .ok (.aload_n 0, 1) := by decide +kernel
theorem dX4_raise_57 : decode cX4_raise 57 = .ok (.getfield 10, 3) := by decide +kernel
theorem dX4_raise_60 : decode cX4_raise 60 = .ok (.iload_n 1, 1) := by decide +kernel
theorem dX4_raise_61 : decode cX4_raise 61 = .ok (.aload_n 0, 1) := by decide +kernel
theorem dX4_raise_62 : decode cX4_raise 62 = .ok (.getfield 10, 3) := by decide +kernel
theorem dX4_raise_65 : decode cX4_raise 65 = .ok (.getfield 61, 3) := by decide +kernel
theorem dX4_raise_68 : decode cX4_raise 68 = .ok (.aload_n 0, 1) := by decide +kernel
theorem dX4_raise_69 : decode cX4_raise 69 = .ok (.getfield 10, 3) := by decide +kernel
theorem dX4_raise_72 : decode cX4_raise 72 = .ok (.getfield 64, 3) := by decide +kernel
theorem dX4_raise_75 : decode cX4_raise 75 = .ok (.iload_n 1, 1) := by decide +kernel
theorem dX4_raise_76 : decode cX4_raise 76 = .ok (.iaload, 1) := by decide +kernel
theorem dX4_raise_77 : decode cX4_raise 77 = .ok (.iconst 1, 1) := by decide +kernel
theorem dX4_raise_78 : decode cX4_raise 78 = .ok (.iadd, 1) := by decide +kernel
theorem dX4_raise_79 : decode cX4_raise 79 = .ok (.invokevirtual 67, 3) := by decide +kernel
theorem dX4_raise_82 : decode cX4_raise 82 = .ok (.aload_n 0, 1) := by decide +kernel
theorem dX4_raise_83 : decode cX4_raise 83 = .ok (.getfield 10, 3) := by decide +kernel
theorem dX4_raise_86 : decode cX4_raise 86 = .ok (.invokevirtual 71, 3) := by decide +kernel
theorem dX4_raise_89 : decode cX4_raise 89 = .ok (.bipush 10, 2) := by decide +kernel
theorem dX4_raise_91 : decode cX4_raise 91 = .ok (.aload_n 0, 1) := by decide +kernel
theorem dX4_raise_92 : decode cX4_raise 92 = .ok (.getfield 10, 3) := by decide +kernel
theorem dX4_raise_95 : decode cX4_raise 95 = .ok (.getfield 64, 3) := by decide +kernel
theorem dX4_raise_98 : decode cX4_raise 98 = .ok (.iload_n 1, 1) := by decide +kernel
theorem dX4_raise_99 : decode cX4_raise 99 = .ok (.iaload, 1) := by decide +kernel
theorem dX4_raise_100 : decode cX4_raise 100 = .ok (.iadd, 1) := by decide +kernel
theorem dX4_raise_101 : decode cX4_raise 101 = .ok (.ireturn, 1) := by decide +kernel
set_option maxRecDepth 20000 in
theorem ggX4_rest_X2_push : GoodIn wsX4_rest wsX2_push := goodIn_r _ [7, 8, 9, 10, 11, 12, 13, 6, 14, 15, 16, 17, 18, 19, 20, 21, 22, 23, 24, 25, 26, 27, 28, 29, 30, 31, 71, 72, 73, 63, 64, 65, 66, 67, 68, 69, 70] (by decide +kernel) (by decide +kernel)
set_option maxRecDepth 20000 in
theorem gX4_rest_X2_push : GoodIn wsX4_rest (wsV RX4 49 RX2 yX2_push wsX2_push) := goodIn_app (goodIn_of _ (by decide +kernel)) ggX4_rest_X2_push
set_option maxRecDepth 20000 in
theorem ggX4_rest_X0_payNow : GoodIn wsX4_rest wsX0_payNow := goodIn_r _ [35, 25, 28, 26, 36, 37, 38, 18, 39, 20, 40, 41, 42, 43, 44, 45, 46, 47, 48, 49, 50, 51, 52, 63, 64, 65, 66, 67, 68, 69, 70] (by decide +kernel) (by decide +kernel)
set_option maxRecDepth 20000 in
theorem gX4_rest_X0_payNow : GoodIn wsX4_rest (wsV RX4 74 RX0 yX0_payNow wsX0_payNow) := goodIn_app (goodIn_of _ (by decide +kernel)) ggX4_rest_X0_payNow
set_option maxRecDepth 20000 in
theorem ggX4_rest_X0_endTurn : GoodIn wsX4_rest wsX0_endTurn := goodIn_r _ [56, 27, 28, 29, 30, 57, 33, 34, 18, 35, 25, 26, 36, 37, 38, 39, 20, 40, 41, 42, 43, 44, 45, 46, 47, 48, 49, 50, 51, 52, 63, 64, 65, 66, 67, 68, 69, 70] (by decide +kernel) (by decide +kernel)
set_option maxRecDepth 20000 in
theorem gX4_rest_X0_endTurn : GoodIn wsX4_rest (wsV RX4 71 RX0 yX0_endTurn wsX0_endTurn) := goodIn_app (goodIn_of _ (by decide +kernel)) ggX4_rest_X0_endTurn
theorem dX4_rest_0 : decode cX4_rest 0 = .ok (.aload_n 0, 1) := by decide +kernel
theorem dX4_rest_1 : decode cX4_rest 1 = .ok (.getfield 26, 3) := by decide +kernel
theorem dX4_rest_4 : decode cX4_rest 4 = .ok (.aload_n 0, 1) := by decide +kernel
theorem dX4_rest_5 : decode cX4_rest 5 = .ok (.getfield 10, 3) := by decide +kernel
theorem dX4_rest_8 : decode cX4_rest 8 = .ok (.invokevirtual 49, 3) := by decide +kernel
theorem dX4_rest_11 : decode cX4_rest 11 = .ok (.aload_n 0, 1) := by decide +kernel
theorem dX4_rest_12 : decode cX4_rest 12 = .ok (.getfield 10, 3) := by decide +kernel
theorem dX4_rest_15 : decode cX4_rest 15 = .ok (.aload_n 0, 1) := by decide +kernel
theorem dX4_rest_16 : decode cX4_rest 16 = .ok (.getfield 10, 3) := by decide +kernel
theorem dX4_rest_19 : decode cX4_rest 19 = .ok (.getfield 61, 3) := by decide +kernel
theorem dX4_rest_22 : decode cX4_rest 22 = .ok (.invokevirtual 74, 3) := by decide +kernel
theorem dX4_rest_25 : decode cX4_rest 25 = .ok (.istore_n 1, 1) := by decide +kernel
theorem dX4_rest_26 : decode cX4_rest 26 = .ok (.aload_n 0, 1) := by decide +kernel
theorem dX4_rest_27 : decode cX4_rest 27 = .ok (.getfield 10, 3) := by decide +kernel
theorem dX4_rest_30 : decode cX4_rest 30 = .ok (.invokevirtual 71, 3) := by decide +kernel
theorem dX4_rest_33 : decode cX4_rest 33 = .ok (.iload_n 1, 1) := by decide +kernel
theorem dX4_rest_34 : decode cX4_rest 34 = .ok (.ireturn, 1) := by decide +kernel
set_option maxRecDepth 20000 in
theorem ggX4_crowd_X4_isSquare : GoodIn wsX4_crowd wsX4_isSquare := goodIn_r _ [10] (by decide +kernel) (by decide +kernel)
set_option maxRecDepth 20000 in
theorem gX4_crowd_X4_isSquare : GoodIn wsX4_crowd (va_wsS RX4 38 yX4_isSquare wsX4_isSquare) := goodIn_app (goodIn_of _ (by decide +kernel)) ggX4_crowd_X4_isSquare
set_option maxRecDepth 20000 in
theorem ggX4_crowd_X2_push : GoodIn wsX4_crowd wsX2_push := goodIn_r _ [15, 16, 17, 18, 19, 20, 21, 14, 22, 23, 24, 25, 26, 27, 28, 29, 30, 31, 32, 33, 34, 35, 36, 37, 38, 39, 53, 54, 55, 45, 46, 47, 48, 49, 50, 51, 52] (by decide +kernel) (by decide +kernel)
set_option maxRecDepth 20000 in
theorem gX4_crowd_X2_push : GoodIn wsX4_crowd (wsV RX4 49 RX2 yX2_push wsX2_push) := goodIn_app (goodIn_of _ (by decide +kernel)) ggX4_crowd_X2_push
theorem dX4_crowd_0 : decode cX4_crowd 0 = .ok (.iload_n 1, 1) := by decide +kernel
theorem dX4_crowd_1 : decode cX4_crowd 1 = .ok (.invokestatic 38, 3) := by decide +kernel
theorem dX4_crowd_4 : decode cX4_crowd 4 = .ok (.ifCond .ne 13, 3) := by decide +kernel
theorem dX4_crowd_7 : decode cX4_crowd 7 = .ok (.new 42, 3) := by decide +kernel
theorem dX4_crowd_10 : decode cX4_crowd 10 = .ok (.dup, 1) := by decide +kernel
theorem dX4_crowd_11 : decode cX4_crowd 11 = .ok (.ldc 44, 2) := by decide +kernel
theorem dX4_crowd_13 : decode cX4_crowd 13 = .ok (.invokespecial 46, 3) := by decide +kernel
theorem dX4_crowd_16 : decode cX4_crowd 16 = .ok (.athrow, 1) := by decide +kernel
theorem dX4_crowd_17 : decode cX4_crowd 17 = .ok (.iload_n 2, 1) := by decide +kernel
theorem dX4_crowd_18 : decode cX4_crowd 18 = .ok (.ifCond .lt 9, 3) := by decide +kernel
theorem dX4_crowd_21 : decode cX4_crowd 21 = .ok (.iload_n 2, 1) := by decide +kernel
theorem dX4_crowd_22 : decode cX4_crowd 22 = .ok (.bipush 9, 2) := by decide +kernel
theorem dX4_crowd_24 : decode cX4_crowd 24 = .ok (.if_icmp .le 13, 3) := by decide +kernel
theorem dX4_crowd_27 : decode cX4_crowd 27 = .ok (.new 77, 3) := by decide +kernel
theorem dX4_crowd_30 : decode cX4_crowd 30 = .ok (.dup, 1) := by decide +kernel
theorem dX4_crowd_31 : decode cX4_crowd 31 = .ok (.ldc 79, 2) := by decide +kernel
theorem dX4_crowd_33 : decode cX4_crowd 33 = .ok (.invokespecial 81, 3) := by decide +kernel
theorem dX4_crowd_36 : decode cX4_crowd 36 = .ok (.athrow, 1) := by decide +kernel
theorem dX4_crowd_37 : decode cX4_crowd 37 = .ok (.aload_n 0, 1) := by decide +kernel
theorem dX4_crowd_38 : decode cX4_crowd 38 = .ok (.getfield 26, 3) := by decide +kernel
theorem dX4_crowd_41 : decode cX4_crowd 41 = .ok (.aload_n 0, 1) := by decide +kernel
theorem dX4_crowd_42 : decode cX4_crowd 42 = .ok (.getfield 10, 3) := by decide +kernel
theorem dX4_crowd_45 : decode cX4_crowd 45 = .ok (.invokevirtual 49, 3) := by decide +kernel
theorem dX4_crowd_48 : decode cX4_crowd 48 = .ok (.aload_n 0, 1) := by decide +kernel
theorem dX4_crowd_49 : decode cX4_crowd 49 = .ok (.getfield 10, 3) := by decide +kernel
theorem dX4_crowd_52 : decode cX4_crowd 52 = .ok (.getfield 82, 3) := by decide +kernel
theorem dX4_crowd_55 : decode cX4_crowd 55 = .ok (.iload_n 1, 1) := by decide +kernel
theorem dX4_crowd_56 : decode cX4_crowd 56 = .ok (.iaload, 1) := by decide +kernel
theorem dX4_crowd_57 : decode cX4_crowd 57 = .ok (.istore_n 3, 1) := by decide +kernel
theorem dX4_crowd_58 : decode cX4_crowd 58 = .ok (.aload_n 0, 1) := by decide +kernel
theorem dX4_crowd_59 : decode cX4_crowd 59 = .ok (.getfield 10, 3) := by decide +kernel
theorem dX4_crowd_62 : decode cX4_crowd 62 = .ok (.getfield 82, 3) := by decide +kernel
theorem dX4_crowd_65 : decode cX4_crowd 65 = .ok (.iload_n 1, 1) := by decide +kernel
theorem dX4_crowd_66 : decode cX4_crowd 66 = .ok (.iload_n 2, 1) := by decide +kernel
theorem dX4_crowd_67 : decode cX4_crowd 67 = .ok (.iastore, 1) := by decide +kernel
theorem dX4_crowd_68 : decode cX4_crowd 68 = .ok (.iload_n 3, 1) := by decide +kernel
theorem dX4_crowd_69 : decode cX4_crowd 69 = .ok (.ireturn, 1) := by decide +kernel
set_option maxRecDepth 20000 in
theorem ggX4_tear_X4_isSquare : GoodIn wsX4_tear wsX4_isSquare := goodIn_r _ [8] (by decide +kernel) (by decide +kernel)
set_option maxRecDepth 20000 in
theorem gX4_tear_X4_isSquare : GoodIn wsX4_tear (va_wsS RX4 38 yX4_isSquare wsX4_isSquare) := goodIn_app (goodIn_of _ (by decide +kernel)) ggX4_tear_X4_isSquare
set_option maxRecDepth 20000 in
theorem ggX4_tear_X2_push : GoodIn wsX4_tear wsX2_push := goodIn_r _ [13, 14, 15, 16, 17, 18, 19, 12, 20, 21, 22, 23, 24, 25, 26, 27, 28, 29, 30, 31, 32, 33, 34, 35, 36, 37, 55, 56, 57, 47, 48, 49, 50, 51, 52, 53, 54] (by decide +kernel) (by decide +kernel)
set_option maxRecDepth 20000 in
theorem gX4_tear_X2_push : GoodIn wsX4_tear (wsV RX4 49 RX2 yX2_push wsX2_push) := goodIn_app (goodIn_of _ (by decide +kernel)) ggX4_tear_X2_push
set_option maxRecDepth 20000 in
theorem ggX4_tear_X0_putTower : GoodIn wsX4_tear wsX0_putTower := goodIn_r _ [41, 31, 26, 47, 48, 49, 50, 51, 52, 53, 54] (by decide +kernel) (by decide +kernel)
set_option maxRecDepth 20000 in
theorem gX4_tear_X0_putTower : GoodIn wsX4_tear (wsV RX4 67 RX0 yX0_putTower wsX0_putTower) := goodIn_app (goodIn_of _ (by decide +kernel)) ggX4_tear_X0_putTower
theorem dX4_tear_0 : decode cX4_tear 0 = .ok (.iload_n 1, 1) := by decide +kernel
theorem dX4_tear_1 : decode cX4_tear 1 = .ok (.invokestatic 38, 3) := by decide +kernel
theorem dX4_tear_4 : decode cX4_tear 4 = .ok (.ifCond .ne 13, 3) := by decide +kernel
theorem dX4_tear_7 : decode cX4_tear 7 = .ok (.new 42, 3) := by decide +kernel
theorem dX4_tear_10 : decode cX4_tear 10 = .ok (.dup, 1) := by decide +kernel
theorem dX4_tear_11 : decode cX4_tear 11 = .ok (.ldc 44, 2) := by decide +kernel
theorem dX4_tear_13 : decode cX4_tear 13 = .ok (.invokespecial 46, 3) := by decide +kernel
theorem dX4_tear_16 : decode cX4_tear 16 = .ok (.athrow, 1) := by decide +kernel
theorem dX4_tear_17 : decode cX4_tear 17 = .ok (.aload_n 0, 1) := by decide +kernel
theorem dX4_tear_18 : decode cX4_tear 18 = .ok (.getfield 26, 3) := by decide +kernel
theorem dX4_tear_21 : decode cX4_tear 21 = .ok (.aload_n 0, 1) := by decide +kernel
theorem dX4_tear_22 : decode cX4_tear 22 = .ok (.getfield 10, 3) := by decide +kernel
theorem dX4_tear_25 : decode cX4_tear 25 = .ok (.invokevirtual 49, 3) := by decide +kernel
theorem dX4_tear_28 : decode cX4_tear 28 = .ok (.aload_n 0, 1) := by decide +kernel
theorem dX4_tear_29 : decode cX4_tear 29 = .ok (.getfield 10, 3) := by decide +kernel
theorem dX4_tear_32 : decode cX4_tear 32 = .ok (.getfield 64, 3) := by decide +kernel
theorem dX4_tear_35 : decode cX4_tear 35 = .ok (.iload_n 1, 1) := by decide +kernel
theorem dX4_tear_36 : decode cX4_tear 36 = .ok (.iaload, 1) := by decide +kernel
theorem dX4_tear_37 : decode cX4_tear 37 = .ok (.istore_n 2, 1) := by decide +kernel
theorem dX4_tear_38 : decode cX4_tear 38 = .ok (.aload_n 0, 1) := by decide +kernel
theorem dX4_tear_39 : decode cX4_tear 39 = .ok (.getfield 10, 3) := by decide +kernel
theorem dX4_tear_42 : decode cX4_tear 42 = .ok (.iload_n 1, 1) := by decide +kernel
theorem dX4_tear_43 : decode cX4_tear 43 = .ok (.iconst (-1), 1) := by decide +kernel
theorem dX4_tear_44 : decode cX4_tear 44 = .ok (.iconst 0, 1) := by decide +kernel
theorem dX4_tear_45 : decode cX4_tear 45 = .ok (.invokevirtual 67, 3) := by decide +kernel
theorem dX4_tear_48 : decode cX4_tear 48 = .ok (.iload_n 2, 1) := by decide +kernel
theorem dX4_tear_49 : decode cX4_tear 49 = .ok (.ireturn, 1) := by decide +kernel
set_option maxRecDepth 20000 in
theorem ggX4_hour_X2_push : GoodIn wsX4_hour wsX2_push := goodIn_r _ [9, 10, 11, 12, 13, 14, 15, 8, 16, 17, 18, 19, 20, 21, 22, 23, 24, 25, 26, 27, 28, 29, 30, 31, 32, 33, 47, 48, 49, 39, 40, 41, 42, 43, 44, 45, 46] (by decide +kernel) (by decide +kernel)
set_option maxRecDepth 20000 in
theorem gX4_hour_X2_push : GoodIn wsX4_hour (wsV RX4 49 RX2 yX2_push wsX2_push) := goodIn_app (goodIn_of _ (by decide +kernel)) ggX4_hour_X2_push
theorem dX4_hour_0 : decode cX4_hour 0 = .ok (.iload_n 1, 1) := by decide +kernel
theorem dX4_hour_1 : decode cX4_hour 1 = .ok (.ifCond .lt 9, 3) := by decide +kernel
theorem dX4_hour_4 : decode cX4_hour 4 = .ok (.iload_n 1, 1) := by decide +kernel
theorem dX4_hour_5 : decode cX4_hour 5 = .ok (.bipush 12, 2) := by decide +kernel
theorem dX4_hour_7 : decode cX4_hour 7 = .ok (.if_icmp .lt 13, 3) := by decide +kernel
theorem dX4_hour_10 : decode cX4_hour 10 = .ok (.new 77, 3) := by decide +kernel
theorem dX4_hour_13 : decode cX4_hour 13 = .ok (.dup, 1) := by decide +kernel
theorem dX4_hour_14 : decode cX4_hour 14 = .ok (.ldc 85, 2) := by decide +kernel
theorem dX4_hour_16 : decode cX4_hour 16 = .ok (.invokespecial 81, 3) := by decide +kernel
theorem dX4_hour_19 : decode cX4_hour 19 = .ok (.athrow, 1) := by decide +kernel
theorem dX4_hour_20 : decode cX4_hour 20 = .ok (.aload_n 0, 1) := by decide +kernel
theorem dX4_hour_21 : decode cX4_hour 21 = .ok (.getfield 26, 3) := by decide +kernel
theorem dX4_hour_24 : decode cX4_hour 24 = .ok (.aload_n 0, 1) := by decide +kernel
theorem dX4_hour_25 : decode cX4_hour 25 = .ok (.getfield 10, 3) := by decide +kernel
theorem dX4_hour_28 : decode cX4_hour 28 = .ok (.invokevirtual 49, 3) := by decide +kernel
theorem dX4_hour_31 : decode cX4_hour 31 = .ok (.aload_n 0, 1) := by decide +kernel
theorem dX4_hour_32 : decode cX4_hour 32 = .ok (.getfield 10, 3) := by decide +kernel
theorem dX4_hour_35 : decode cX4_hour 35 = .ok (.getfield 87, 3) := by decide +kernel
theorem dX4_hour_38 : decode cX4_hour 38 = .ok (.istore_n 2, 1) := by decide +kernel
theorem dX4_hour_39 : decode cX4_hour 39 = .ok (.aload_n 0, 1) := by decide +kernel
theorem dX4_hour_40 : decode cX4_hour 40 = .ok (.getfield 10, 3) := by decide +kernel
theorem dX4_hour_43 : decode cX4_hour 43 = .ok (.iload_n 1, 1) := by decide +kernel
theorem dX4_hour_44 : decode cX4_hour 44 = .ok (.putfield 87, 3) := by decide +kernel
theorem dX4_hour_47 : decode cX4_hour 47 = .ok (.iload_n 2, 1) := by decide +kernel
theorem dX4_hour_48 : decode cX4_hour 48 = .ok (.ireturn, 1) := by decide +kernel
set_option maxRecDepth 20000 in
theorem ggX4_append_X1_isFull : GoodIn wsX4_append wsX1_isFull := goodIn_r _ [10, 11, 22, 23] (by decide +kernel) (by decide +kernel)
set_option maxRecDepth 20000 in
theorem gX4_append_X1_isFull : GoodIn wsX4_append (wsV RX4 92 RX1 yX1_isFull wsX1_isFull) := goodIn_app (goodIn_of _ (by decide +kernel)) ggX4_append_X1_isFull
set_option maxRecDepth 20000 in
theorem ggX4_append_X1_add : GoodIn wsX4_append wsX1_add := goodIn_r _ [15, 16, 11, 22, 23] (by decide +kernel) (by decide +kernel)
set_option maxRecDepth 20000 in
theorem gX4_append_X1_add : GoodIn wsX4_append (wsV RX4 101 RX1 yX1_add wsX1_add) := goodIn_app (goodIn_of _ (by decide +kernel)) ggX4_append_X1_add
theorem dX4_append_0 : decode cX4_append 0 = .ok (.iload_n 1, 1) := by decide +kernel
theorem dX4_append_1 : decode cX4_append 1 = .ok (.bipush 33, 2) := by decide +kernel
theorem dX4_append_3 : decode cX4_append 3 = .ok (.if_icmp .lt 9, 3) := by decide +kernel
theorem dX4_append_6 : decode cX4_append 6 = .ok (.iload_n 1, 1) := by decide +kernel
theorem dX4_append_7 : decode cX4_append 7 = .ok (.bipush 126, 2) := by decide +kernel
theorem dX4_append_9 : decode cX4_append 9 = .ok (.if_icmp .le 13, 3) := by decide +kernel
theorem dX4_append_12 : decode cX4_append 12 = .ok (.new 77, 3) := by decide +kernel
theorem dX4_append_15 : decode cX4_append 15 = .ok (.dup, 1) := by decide +kernel
theorem dX4_append_16 : decode cX4_append 16 = .ok (.ldc 90, 2) := by decide +kernel
theorem dX4_append_18 : decode cX4_append 18 = .ok (.invokespecial 81, 3) := by decide +kernel
theorem dX4_append_21 : decode cX4_append 21 = .ok (.athrow, 1) := by decide +kernel
theorem dX4_append_22 : decode cX4_append 22 = .ok (.aload_n 0, 1) := by decide +kernel
theorem dX4_append_23 : decode cX4_append 23 = .ok (.getfield 19, 3) := by decide +kernel
theorem dX4_append_26 : decode cX4_append 26 = .ok (.invokevirtual 92, 3) := by decide +kernel
theorem dX4_append_29 : decode cX4_append 29 = .ok (.ifCond .eq 13, 3) := by decide +kernel
theorem dX4_append_32 : decode cX4_append 32 = .ok (.new 96, 3) := by decide +kernel
theorem dX4_append_35 : decode cX4_append 35 = .ok (.dup, 1) := by decide +kernel
theorem dX4_append_36 : decode cX4_append 36 = .ok (.ldc 98, 2) := by decide +kernel
theorem dX4_append_38 : decode cX4_append 38 = .ok (.invokespecial 100, 3) := by decide +kernel
theorem dX4_append_41 : decode cX4_append 41 = .ok (.athrow, 1) := by decide +kernel
theorem dX4_append_42 : decode cX4_append 42 = .ok (.aload_n 0, 1) := by decide +kernel
theorem dX4_append_43 : decode cX4_append 43 = .ok (.getfield 19, 3) := by decide +kernel
theorem dX4_append_46 : decode cX4_append 46 = .ok (.iload_n 1, 1) := by decide +kernel
theorem dX4_append_47 : decode cX4_append 47 = .ok (.invokevirtual 101, 3) := by decide +kernel
theorem dX4_append_50 : decode cX4_append 50 = .ok (.aload_n 0, 1) := by decide +kernel
theorem dX4_append_51 : decode cX4_append 51 = .ok (.getfield 19, 3) := by decide +kernel
theorem dX4_append_54 : decode cX4_append 54 = .ok (.getfield 105, 3) := by decide +kernel
theorem dX4_append_57 : decode cX4_append 57 = .ok (.ireturn, 1) := by decide +kernel
theorem dX4_clearBuffer_0 : decode cX4_clearBuffer 0 = .ok (.aload_n 0, 1) := by decide +kernel
theorem dX4_clearBuffer_1 : decode cX4_clearBuffer 1 = .ok (.getfield 19, 3) := by decide +kernel
theorem dX4_clearBuffer_4 : decode cX4_clearBuffer 4 = .ok (.getfield 105, 3) := by decide +kernel
theorem dX4_clearBuffer_7 : decode cX4_clearBuffer 7 = .ok (.istore_n 1, 1) := by decide +kernel
theorem dX4_clearBuffer_8 : decode cX4_clearBuffer 8 = .ok (.aload_n 0, 1) := by decide +kernel
theorem dX4_clearBuffer_9 : decode cX4_clearBuffer 9 = .ok (.getfield 19, 3) := by decide +kernel
theorem dX4_clearBuffer_12 : decode cX4_clearBuffer 12 = .ok (.iconst 0, 1) := by decide +kernel
theorem dX4_clearBuffer_13 : decode cX4_clearBuffer 13 = .ok (.putfield 105, 3) := by decide +kernel
theorem dX4_clearBuffer_16 : decode cX4_clearBuffer 16 = .ok (.iload_n 1, 1) := by decide +kernel
theorem dX4_clearBuffer_17 : decode cX4_clearBuffer 17 = .ok (.ireturn, 1) := by decide +kernel
set_option maxRecDepth 20000 in
theorem ggX4_firstError_X1_errorIndex : GoodIn wsX4_firstError wsX1_errorIndex := goodIn_r _ [6, 7, 8, 9, 10, 5, 11, 12, 13, 14, 15, 21, 22] (by decide +kernel) (by decide +kernel)
set_option maxRecDepth 20000 in
theorem gX4_firstError_X1_errorIndex : GoodIn wsX4_firstError (wsV RX4 108 RX1 yX1_errorIndex wsX1_errorIndex) := goodIn_app (goodIn_of _ (by decide +kernel)) ggX4_firstError_X1_errorIndex
theorem dX4_firstError_0 : decode cX4_firstError 0 = .ok (.aload_n 0, 1) := by decide +kernel
theorem dX4_firstError_1 : decode cX4_firstError 1 = .ok (.getfield 19, 3) := by decide +kernel
theorem dX4_firstError_4 : decode cX4_firstError 4 = .ok (.invokevirtual 108, 3) := by decide +kernel
theorem dX4_firstError_7 : decode cX4_firstError 7 = .ok (.ireturn, 1) := by decide +kernel
set_option maxRecDepth 20000 in
theorem ggX4_load_X1_isWhole : GoodIn wsX4_load wsX1_isWhole := goodIn_r _ [10, 11, 12, 13, 14, 9, 15, 16, 17, 18, 19, 20, 21, 22, 23, 91, 92] (by decide +kernel) (by decide +kernel)
set_option maxRecDepth 20000 in
theorem gX4_load_X1_isWhole : GoodIn wsX4_load (wsV RX4 112 RX1 yX1_isWhole wsX1_isWhole) := goodIn_app (goodIn_of _ (by decide +kernel)) ggX4_load_X1_isWhole
set_option maxRecDepth 20000 in
theorem ggX4_load_X2_push : GoodIn wsX4_load wsX2_push := goodIn_r _ [28, 29, 30, 31, 32, 33, 34, 27, 35, 36, 37, 38, 39, 40, 41, 42, 43, 44, 45, 46, 47, 48, 49, 50, 51, 52, 93, 94, 95, 96, 97, 98, 99, 100, 101, 102, 103] (by decide +kernel) (by decide +kernel)
set_option maxRecDepth 20000 in
theorem gX4_load_X2_push : GoodIn wsX4_load (wsV RX4 49 RX2 yX2_push wsX2_push) := goodIn_app (goodIn_of _ (by decide +kernel)) ggX4_load_X2_push
set_option maxRecDepth 20000 in
theorem ggX4_load_X1_entries : GoodIn wsX4_load wsX1_entries := goodIn_r _ [56, 11, 91, 92] (by decide +kernel) (by decide +kernel)
set_option maxRecDepth 20000 in
theorem gX4_load_X1_entries : GoodIn wsX4_load (wsV RX4 117 RX1 yX1_entries wsX1_entries) := goodIn_app (goodIn_of _ (by decide +kernel)) ggX4_load_X1_entries
set_option maxRecDepth 20000 in
theorem ggX4_load_X4_putEntry : GoodIn wsX4_load wsX4_putEntry := goodIn_r _ [61, 3, 5, 62, 63, 64, 9, 65, 20, 66, 67, 68, 69, 70, 71, 72, 73, 74, 75, 76, 39, 77, 46, 41, 86, 87, 88, 89, 90, 96, 97, 98, 99, 100, 101, 102, 103, 91, 92] (by decide +kernel) (by decide +kernel)
set_option maxRecDepth 20000 in
theorem gX4_load_X4_putEntry : GoodIn wsX4_load (wsV RX4 120 RX4 yX4_putEntry wsX4_putEntry) := goodIn_app (goodIn_of _ (by decide +kernel)) ggX4_load_X4_putEntry
set_option maxRecDepth 20000 in
theorem ggX4_load_X0_towers : GoodIn wsX4_load wsX0_towers := goodIn_r _ [81, 82, 83, 84, 39, 85, 46, 96, 97, 98, 99, 100, 101, 102, 103] (by decide +kernel) (by decide +kernel)
set_option maxRecDepth 20000 in
theorem gX4_load_X0_towers : GoodIn wsX4_load (wsV RX4 123 RX0 yX0_towers wsX0_towers) := goodIn_app (goodIn_of _ (by decide +kernel)) ggX4_load_X0_towers
theorem dX4_load_0 : decode cX4_load 0 = .ok (.aload_n 0, 1) := by decide +kernel
theorem dX4_load_1 : decode cX4_load 1 = .ok (.getfield 19, 3) := by decide +kernel
theorem dX4_load_4 : decode cX4_load 4 = .ok (.invokevirtual 112, 3) := by decide +kernel
theorem dX4_load_7 : decode cX4_load 7 = .ok (.ifCond .ne 13, 3) := by decide +kernel
theorem dX4_load_10 : decode cX4_load 10 = .ok (.new 77, 3) := by decide +kernel
theorem dX4_load_13 : decode cX4_load 13 = .ok (.dup, 1) := by decide +kernel
theorem dX4_load_14 : decode cX4_load 14 = .ok (.ldc 115, 2) := by decide +kernel
theorem dX4_load_16 : decode cX4_load 16 = .ok (.invokespecial 81, 3) := by decide +kernel
theorem dX4_load_19 : decode cX4_load 19 = .ok (.athrow, 1) := by decide +kernel
theorem dX4_load_20 : decode cX4_load 20 = .ok (.aload_n 0, 1) := by decide +kernel
theorem dX4_load_21 : decode cX4_load 21 = .ok (.getfield 26, 3) := by decide +kernel
theorem dX4_load_24 : decode cX4_load 24 = .ok (.aload_n 0, 1) := by decide +kernel
theorem dX4_load_25 : decode cX4_load 25 = .ok (.getfield 10, 3) := by decide +kernel
theorem dX4_load_28 : decode cX4_load 28 = .ok (.invokevirtual 49, 3) := by decide +kernel
theorem dX4_load_31 : decode cX4_load 31 = .ok (.aload_n 0, 1) := by decide +kernel
theorem dX4_load_32 : decode cX4_load 32 = .ok (.getfield 19, 3) := by decide +kernel
theorem dX4_load_35 : decode cX4_load 35 = .ok (.invokevirtual 117, 3) := by decide +kernel
theorem dX4_load_38 : decode cX4_load 38 = .ok (.istore_n 1, 1) := by decide +kernel
theorem dX4_load_39 : decode cX4_load 39 = .ok (.iconst 0, 1) := by decide +kernel
theorem dX4_load_40 : decode cX4_load 40 = .ok (.istore_n 2, 1) := by decide +kernel
theorem dX4_load_41 : decode cX4_load 41 = .ok (.iload_n 2, 1) := by decide +kernel
theorem dX4_load_42 : decode cX4_load 42 = .ok (.iload_n 1, 1) := by decide +kernel
theorem dX4_load_43 : decode cX4_load 43 = .ok (.if_icmp .ge 14, 3) := by decide +kernel
theorem dX4_load_46 : decode cX4_load 46 = .ok (.aload_n 0, 1) := by decide +kernel
theorem dX4_load_47 : decode cX4_load 47 = .ok (.iload_n 2, 1) := by decide +kernel
theorem dX4_load_48 : decode cX4_load 48 = .ok (.invokevirtual 120, 3) := by decide +kernel
theorem dX4_load_51 : decode cX4_load 51 = .ok (.iinc 2 1, 3) := by decide +kernel
theorem dX4_load_54 : decode cX4_load 54 = .ok (.goto (-13), 3) := by decide +kernel
theorem dX4_load_57 : decode cX4_load 57 = .ok (.aload_n 0, 1) := by decide +kernel
theorem dX4_load_58 : decode cX4_load 58 = .ok (.getfield 19, 3) := by decide +kernel
theorem dX4_load_61 : decode cX4_load 61 = .ok (.iconst 0, 1) := by decide +kernel
theorem dX4_load_62 : decode cX4_load 62 = .ok (.putfield 105, 3) := by decide +kernel
theorem dX4_load_65 : decode cX4_load 65 = .ok (.aload_n 0, 1) := by decide +kernel
theorem dX4_load_66 : decode cX4_load 66 = .ok (.getfield 10, 3) := by decide +kernel
theorem dX4_load_69 : decode cX4_load 69 = .ok (.invokevirtual 123, 3) := by decide +kernel
theorem dX4_load_72 : decode cX4_load 72 = .ok (.ireturn, 1) := by decide +kernel
set_option maxRecDepth 20000 in
theorem ggX4_keep_X0_writeTo : GoodIn wsX4_keep wsX0_writeTo := goodIn_r _ [10, 11, 12, 13, 14, 15, 16, 17, 18, 19, 20, 21, 22, 36, 37, 38, 39, 40, 41, 42, 43] (by decide +kernel) (by decide +kernel)
set_option maxRecDepth 20000 in
theorem gX4_keep_X0_writeTo : GoodIn wsX4_keep (wsV RX4 128 RX0 yX0_writeTo wsX0_writeTo) := goodIn_app (goodIn_of _ (by decide +kernel)) ggX4_keep_X0_writeTo
set_option maxRecDepth 20000 in
theorem ggX4_keep_X0_towers : GoodIn wsX4_keep wsX0_towers := goodIn_r _ [26, 27, 28, 29, 9, 30, 16, 36, 37, 38, 39, 40, 41, 42, 43] (by decide +kernel) (by decide +kernel)
set_option maxRecDepth 20000 in
theorem gX4_keep_X0_towers : GoodIn wsX4_keep (wsV RX4 123 RX0 yX0_towers wsX0_towers) := goodIn_app (goodIn_of _ (by decide +kernel)) ggX4_keep_X0_towers
theorem dX4_keep_0 : decode cX4_keep 0 = .ok (.iload_n 1, 1) := by decide +kernel
theorem dX4_keep_1 : decode cX4_keep 1 = .ok (.ifCond .lt 8, 3) := by decide +kernel
theorem dX4_keep_4 : decode cX4_keep 4 = .ok (.iload_n 1, 1) := by decide +kernel
theorem dX4_keep_5 : decode cX4_keep 5 = .ok (.iconst 2, 1) := by decide +kernel
theorem dX4_keep_6 : decode cX4_keep 6 = .ok (.if_icmp .lt 13, 3) := by decide +kernel
theorem dX4_keep_9 : decode cX4_keep 9 = .ok (.new 77, 3) := by decide +kernel
theorem dX4_keep_12 : decode cX4_keep 12 = .ok (.dup, 1) := by decide +kernel
theorem dX4_keep_13 : decode cX4_keep 13 = .ok (.ldc 126, 2) := by decide +kernel
theorem dX4_keep_15 : decode cX4_keep 15 = .ok (.invokespecial 81, 3) := by decide +kernel
theorem dX4_keep_18 : decode cX4_keep 18 = .ok (.athrow, 1) := by decide +kernel
theorem dX4_keep_19 : decode cX4_keep 19 = .ok (.aload_n 0, 1) := by decide +kernel
theorem dX4_keep_20 : decode cX4_keep 20 = .ok (.getfield 10, 3) := by decide +kernel
theorem dX4_keep_23 : decode cX4_keep 23 = .ok (.aload_n 0, 1) := by decide +kernel
theorem dX4_keep_24 : decode cX4_keep 24 = .ok (.getfield 30, 3) := by decide +kernel
theorem dX4_keep_27 : decode cX4_keep 27 = .ok (.iload_n 1, 1) := by decide +kernel
theorem dX4_keep_28 : decode cX4_keep 28 = .ok (.bipush 114, 2) := by decide +kernel
theorem dX4_keep_30 : decode cX4_keep 30 = .ok (.imul, 1) := by decide +kernel
theorem dX4_keep_31 : decode cX4_keep 31 = .ok (.invokevirtual 128, 3) := by decide +kernel
theorem dX4_keep_34 : decode cX4_keep 34 = .ok (.aload_n 0, 1) := by decide +kernel
theorem dX4_keep_35 : decode cX4_keep 35 = .ok (.getfield 34, 3) := by decide +kernel
theorem dX4_keep_38 : decode cX4_keep 38 = .ok (.iload_n 1, 1) := by decide +kernel
theorem dX4_keep_39 : decode cX4_keep 39 = .ok (.iconst 1, 1) := by decide +kernel
theorem dX4_keep_40 : decode cX4_keep 40 = .ok (.bastore, 1) := by decide +kernel
theorem dX4_keep_41 : decode cX4_keep 41 = .ok (.aload_n 0, 1) := by decide +kernel
theorem dX4_keep_42 : decode cX4_keep 42 = .ok (.getfield 10, 3) := by decide +kernel
theorem dX4_keep_45 : decode cX4_keep 45 = .ok (.invokevirtual 123, 3) := by decide +kernel
theorem dX4_keep_48 : decode cX4_keep 48 = .ok (.ireturn, 1) := by decide +kernel
set_option maxRecDepth 20000 in
theorem ggX4_goBack_X2_push : GoodIn wsX4_goBack wsX2_push := goodIn_r _ [13, 14, 15, 16, 17, 18, 19, 12, 20, 21, 22, 23, 24, 25, 26, 27, 28, 29, 30, 31, 32, 33, 34, 35, 36, 37, 55, 56, 57, 58, 59, 60, 61, 62, 63, 64, 65] (by decide +kernel) (by decide +kernel)
set_option maxRecDepth 20000 in
theorem gX4_goBack_X2_push : GoodIn wsX4_goBack (wsV RX4 49 RX2 yX2_push wsX2_push) := goodIn_app (goodIn_of _ (by decide +kernel)) ggX4_goBack_X2_push
set_option maxRecDepth 20000 in
theorem ggX4_goBack_X0_readFrom : GoodIn wsX4_goBack wsX0_readFrom := goodIn_r _ [41, 26, 27, 28, 29, 30, 31, 32, 33, 34, 35, 36, 37, 58, 59, 60, 61, 62, 63, 64, 65] (by decide +kernel) (by decide +kernel)
set_option maxRecDepth 20000 in
theorem gX4_goBack_X0_readFrom : GoodIn wsX4_goBack (wsV RX4 134 RX0 yX0_readFrom wsX0_readFrom) := goodIn_app (goodIn_of _ (by decide +kernel)) ggX4_goBack_X0_readFrom
set_option maxRecDepth 20000 in
theorem ggX4_goBack_X0_towers : GoodIn wsX4_goBack wsX0_towers := goodIn_r _ [45, 46, 47, 48, 24, 49, 31, 58, 59, 60, 61, 62, 63, 64, 65] (by decide +kernel) (by decide +kernel)
set_option maxRecDepth 20000 in
theorem gX4_goBack_X0_towers : GoodIn wsX4_goBack (wsV RX4 123 RX0 yX0_towers wsX0_towers) := goodIn_app (goodIn_of _ (by decide +kernel)) ggX4_goBack_X0_towers
theorem dX4_goBack_0 : decode cX4_goBack 0 = .ok (.iload_n 1, 1) := by decide +kernel
theorem dX4_goBack_1 : decode cX4_goBack 1 = .ok (.ifCond .lt 8, 3) := by decide +kernel
theorem dX4_goBack_4 : decode cX4_goBack 4 = .ok (.iload_n 1, 1) := by decide +kernel
theorem dX4_goBack_5 : decode cX4_goBack 5 = .ok (.iconst 2, 1) := by decide +kernel
theorem dX4_goBack_6 : decode cX4_goBack 6 = .ok (.if_icmp .lt 13, 3) := by decide +kernel
theorem dX4_goBack_9 : decode cX4_goBack 9 = .ok (.new 77, 3) := by decide +kernel
theorem dX4_goBack_12 : decode cX4_goBack 12 = .ok (.dup, 1) := by decide +kernel
theorem dX4_goBack_13 : decode cX4_goBack 13 = .ok (.ldc 126, 2) := by decide +kernel
theorem dX4_goBack_15 : decode cX4_goBack 15 = .ok (.invokespecial 81, 3) := by decide +kernel
theorem dX4_goBack_18 : decode cX4_goBack 18 = .ok (.athrow, 1) := by decide +kernel
theorem dX4_goBack_19 : decode cX4_goBack 19 = .ok (.aload_n 0, 1) := by decide +kernel
theorem dX4_goBack_20 : decode cX4_goBack 20 = .ok (.getfield 34, 3) := by decide +kernel
theorem dX4_goBack_23 : decode cX4_goBack 23 = .ok (.iload_n 1, 1) := by decide +kernel
theorem dX4_goBack_24 : decode cX4_goBack 24 = .ok (.baload, 1) := by decide +kernel
theorem dX4_goBack_25 : decode cX4_goBack 25 = .ok (.ifCond .ne 13, 3) := by decide +kernel
theorem dX4_goBack_28 : decode cX4_goBack 28 = .ok (.new 96, 3) := by decide +kernel
theorem dX4_goBack_31 : decode cX4_goBack 31 = .ok (.dup, 1) := by decide +kernel
theorem dX4_goBack_32 : decode cX4_goBack 32 = .ok (.ldc 132, 2) := by decide +kernel
theorem dX4_goBack_34 : decode cX4_goBack 34 = .ok (.invokespecial 100, 3) := by decide +kernel
theorem dX4_goBack_37 : decode cX4_goBack 37 = .ok (.athrow, 1) := by decide +kernel
theorem dX4_goBack_38 : decode cX4_goBack 38 = .ok (.aload_n 0, 1) := by decide +kernel
theorem dX4_goBack_39 : decode cX4_goBack 39 = .ok (.getfield 26, 3) := by decide +kernel
theorem dX4_goBack_42 : decode cX4_goBack 42 = .ok (.aload_n 0, 1) := by decide +kernel
theorem dX4_goBack_43 : decode cX4_goBack 43 = .ok (.getfield 10, 3) := by decide +kernel
theorem dX4_goBack_46 : decode cX4_goBack 46 = .ok (.invokevirtual 49, 3) := by decide +kernel
theorem dX4_goBack_49 : decode cX4_goBack 49 = .ok (.aload_n 0, 1) := by decide +kernel
theorem dX4_goBack_50 : decode cX4_goBack 50 = .ok (.getfield 10, 3) := by decide +kernel
theorem dX4_goBack_53 : decode cX4_goBack 53 = .ok (.aload_n 0, 1) := by decide +kernel
theorem dX4_goBack_54 : decode cX4_goBack 54 = .ok (.getfield 30, 3) := by decide +kernel
theorem dX4_goBack_57 : decode cX4_goBack 57 = .ok (.iload_n 1, 1) := by decide +kernel
theorem dX4_goBack_58 : decode cX4_goBack 58 = .ok (.bipush 114, 2) := by decide +kernel
theorem dX4_goBack_60 : decode cX4_goBack 60 = .ok (.imul, 1) := by decide +kernel
theorem dX4_goBack_61 : decode cX4_goBack 61 = .ok (.invokevirtual 134, 3) := by decide +kernel
theorem dX4_goBack_64 : decode cX4_goBack 64 = .ok (.aload_n 0, 1) := by decide +kernel
theorem dX4_goBack_65 : decode cX4_goBack 65 = .ok (.getfield 10, 3) := by decide +kernel
theorem dX4_goBack_68 : decode cX4_goBack 68 = .ok (.invokevirtual 123, 3) := by decide +kernel
theorem dX4_goBack_71 : decode cX4_goBack 71 = .ok (.ireturn, 1) := by decide +kernel
set_option maxRecDepth 20000 in
theorem ggX4_undo_X2_popInto : GoodIn wsX4_undo wsX2_popInto := goodIn_r _ [9, 10, 11, 12, 13, 14, 8, 15, 16, 17, 18, 19, 20, 21, 22, 23, 24, 25, 26, 27, 28, 29, 30, 31, 32, 33, 39, 40, 41, 42, 43, 44, 45, 46, 47, 48, 49] (by decide +kernel) (by decide +kernel)
set_option maxRecDepth 20000 in
theorem gX4_undo_X2_popInto : GoodIn wsX4_undo (wsV RX4 142 RX2 yX2_popInto wsX2_popInto) := goodIn_app (goodIn_of _ (by decide +kernel)) ggX4_undo_X2_popInto
theorem dX4_undo_0 : decode cX4_undo 0 = .ok (.aload_n 0, 1) := by decide +kernel
theorem dX4_undo_1 : decode cX4_undo 1 = .ok (.getfield 26, 3) := by decide +kernel
theorem dX4_undo_4 : decode cX4_undo 4 = .ok (.getfield 137, 3) := by decide +kernel
theorem dX4_undo_7 : decode cX4_undo 7 = .ok (.ifCond .ne 13, 3) := by decide +kernel
theorem dX4_undo_10 : decode cX4_undo 10 = .ok (.new 96, 3) := by decide +kernel
theorem dX4_undo_13 : decode cX4_undo 13 = .ok (.dup, 1) := by decide +kernel
theorem dX4_undo_14 : decode cX4_undo 14 = .ok (.ldc 140, 2) := by decide +kernel
theorem dX4_undo_16 : decode cX4_undo 16 = .ok (.invokespecial 100, 3) := by decide +kernel
theorem dX4_undo_19 : decode cX4_undo 19 = .ok (.athrow, 1) := by decide +kernel
theorem dX4_undo_20 : decode cX4_undo 20 = .ok (.aload_n 0, 1) := by decide +kernel
theorem dX4_undo_21 : decode cX4_undo 21 = .ok (.getfield 26, 3) := by decide +kernel
theorem dX4_undo_24 : decode cX4_undo 24 = .ok (.aload_n 0, 1) := by decide +kernel
theorem dX4_undo_25 : decode cX4_undo 25 = .ok (.getfield 10, 3) := by decide +kernel
theorem dX4_undo_28 : decode cX4_undo 28 = .ok (.invokevirtual 142, 3) := by decide +kernel
theorem dX4_undo_31 : decode cX4_undo 31 = .ok (.aload_n 0, 1) := by decide +kernel
theorem dX4_undo_32 : decode cX4_undo 32 = .ok (.getfield 26, 3) := by decide +kernel
theorem dX4_undo_35 : decode cX4_undo 35 = .ok (.getfield 137, 3) := by decide +kernel
theorem dX4_undo_38 : decode cX4_undo 38 = .ok (.ireturn, 1) := by decide +kernel
set_option maxRecDepth 20000 in
theorem ggX4_squareOf_X4_isSquare : GoodIn wsX4_squareOf wsX4_isSquare := goodIn_r _ [9] (by decide +kernel) (by decide +kernel)
set_option maxRecDepth 20000 in
theorem gX4_squareOf_X4_isSquare : GoodIn wsX4_squareOf (va_wsS RX4 38 yX4_isSquare wsX4_isSquare) := goodIn_app (goodIn_of _ (by decide +kernel)) ggX4_squareOf_X4_isSquare
set_option maxRecDepth 20000 in
theorem ggX4_squareOf_X0_isDark : GoodIn wsX4_squareOf wsX0_isDark := goodIn_r _ [14, 15, 16, 17, 18, 19, 20, 21, 22, 23, 24, 25, 26, 27, 28, 57, 58, 59, 60, 61, 62, 63, 64] (by decide +kernel) (by decide +kernel)
set_option maxRecDepth 20000 in
theorem gX4_squareOf_X0_isDark : GoodIn wsX4_squareOf (wsV RX4 148 RX0 yX0_isDark wsX0_isDark) := goodIn_app (goodIn_of _ (by decide +kernel)) ggX4_squareOf_X0_isDark
set_option maxRecDepth 20000 in
theorem ggX4_squareOf_X0_isDarkBySweep : GoodIn wsX4_squareOf wsX0_isDarkBySweep := goodIn_r _ [32, 15, 33, 34, 35, 36, 16, 17, 18, 19, 20, 21, 22, 23, 24, 25, 26, 27, 28, 57, 58, 59, 60, 61, 62, 63, 64] (by decide +kernel) (by decide +kernel)
set_option maxRecDepth 20000 in
theorem gX4_squareOf_X0_isDarkBySweep : GoodIn wsX4_squareOf (wsV RX4 152 RX0 yX0_isDarkBySweep wsX0_isDarkBySweep) := goodIn_app (goodIn_of _ (by decide +kernel)) ggX4_squareOf_X0_isDarkBySweep
set_option maxRecDepth 20000 in
theorem ggX4_squareOf_X0_towersShading : GoodIn wsX4_squareOf wsX0_towersShading := goodIn_r _ [40, 41, 42, 15, 16, 17, 18, 19, 20, 21, 22, 23, 24, 25, 26, 27, 28, 57, 58, 59, 60, 61, 62, 63, 64] (by decide +kernel) (by decide +kernel)
set_option maxRecDepth 20000 in
theorem gX4_squareOf_X0_towersShading : GoodIn wsX4_squareOf (wsV RX4 155 RX0 yX0_towersShading wsX0_towersShading) := goodIn_app (goodIn_of _ (by decide +kernel)) ggX4_squareOf_X0_towersShading
set_option maxRecDepth 20000 in
theorem ggX4_squareOf_X0_squaresShadedFrom : GoodIn wsX4_squareOf wsX0_squaresShadedFrom := goodIn_r _ [46, 41, 15, 16, 17, 18, 19, 20, 21, 22, 23, 24, 25, 26, 27, 28, 57, 58, 59, 60, 61, 62, 63, 64] (by decide +kernel) (by decide +kernel)
set_option maxRecDepth 20000 in
theorem gX4_squareOf_X0_squaresShadedFrom : GoodIn wsX4_squareOf (wsV RX4 159 RX0 yX0_squaresShadedFrom wsX0_squaresShadedFrom) := goodIn_app (goodIn_of _ (by decide +kernel)) ggX4_squareOf_X0_squaresShadedFrom
set_option maxRecDepth 20000 in
theorem ggX4_squareOf_X0_darkHourMask : GoodIn wsX4_squareOf wsX0_darkHourMask := goodIn_r _ [50, 51, 11, 12, 13, 14, 15, 16, 17, 18, 19, 20, 21, 22, 23, 24, 25, 26, 27, 28, 57, 58, 59, 60, 61, 62, 63, 64] (by decide +kernel) (by decide +kernel)
set_option maxRecDepth 20000 in
theorem gX4_squareOf_X0_darkHourMask : GoodIn wsX4_squareOf (wsV RX4 162 RX0 yX0_darkHourMask wsX0_darkHourMask) := goodIn_app (goodIn_of _ (by decide +kernel)) ggX4_squareOf_X0_darkHourMask
theorem dX4_squareOf_0 : decode cX4_squareOf 0 = .ok (.iload_n 1, 1) := by decide +kernel
theorem dX4_squareOf_1 : decode cX4_squareOf 1 = .ok (.invokestatic 38, 3) := by decide +kernel
theorem dX4_squareOf_4 : decode cX4_squareOf 4 = .ok (.ifCond .ne 13, 3) := by decide +kernel
theorem dX4_squareOf_7 : decode cX4_squareOf 7 = .ok (.new 42, 3) := by decide +kernel
theorem dX4_squareOf_10 : decode cX4_squareOf 10 = .ok (.dup, 1) := by decide +kernel
theorem dX4_squareOf_11 : decode cX4_squareOf 11 = .ok (.ldc 44, 2) := by decide +kernel
theorem dX4_squareOf_13 : decode cX4_squareOf 13 = .ok (.invokespecial 46, 3) := by decide +kernel
theorem dX4_squareOf_16 : decode cX4_squareOf 16 = .ok (.athrow, 1) := by decide +kernel
theorem dX4_squareOf_17 : decode cX4_squareOf 17 = .ok (.iload_n 2, 1) := by decide +kernel
theorem dX4_squareOf_18 : decode cX4_squareOf 18 = .ok (.tableswitch 162 0 7 #[46, 56, 66, 76, 100, 124, 144, 153], 46) := by decide +kernel
theorem dX4_squareOf_64 : decode cX4_squareOf 64 = .ok (.aload_n 0, 1) := by decide +kernel
theorem dX4_squareOf_65 : decode cX4_squareOf 65 = .ok (.getfield 10, 3) := by decide +kernel
theorem dX4_squareOf_68 : decode cX4_squareOf 68 = .ok (.getfield 64, 3) := by decide +kernel
theorem dX4_squareOf_71 : decode cX4_squareOf 71 = .ok (.iload_n 1, 1) := by decide +kernel
theorem dX4_squareOf_72 : decode cX4_squareOf 72 = .ok (.iaload, 1) := by decide +kernel
theorem dX4_squareOf_73 : decode cX4_squareOf 73 = .ok (.ireturn, 1) := by decide +kernel
theorem dX4_squareOf_74 : decode cX4_squareOf 74 = .ok (.aload_n 0, 1) := by decide +kernel
theorem dX4_squareOf_75 : decode cX4_squareOf 75 = .ok (.getfield 10, 3) := by decide +kernel
theorem dX4_squareOf_78 : decode cX4_squareOf 78 = .ok (.getfield 145, 3) := by decide +kernel
theorem dX4_squareOf_81 : decode cX4_squareOf 81 = .ok (.iload_n 1, 1) := by decide +kernel
theorem dX4_squareOf_82 : decode cX4_squareOf 82 = .ok (.iaload, 1) := by decide +kernel
theorem dX4_squareOf_83 : decode cX4_squareOf 83 = .ok (.ireturn, 1) := by decide +kernel
theorem dX4_squareOf_84 : decode cX4_squareOf 84 = .ok (.aload_n 0, 1) := by decide +kernel
theorem dX4_squareOf_85 : decode cX4_squareOf 85 = .ok (.getfield 10, 3) := by decide +kernel
theorem dX4_squareOf_88 : decode cX4_squareOf 88 = .ok (.getfield 82, 3) := by decide +kernel
theorem dX4_squareOf_91 : decode cX4_squareOf 91 = .ok (.iload_n 1, 1) := by decide +kernel
theorem dX4_squareOf_92 : decode cX4_squareOf 92 = .ok (.iaload, 1) := by decide +kernel
theorem dX4_squareOf_93 : decode cX4_squareOf 93 = .ok (.ireturn, 1) := by decide +kernel
theorem dX4_squareOf_94 : decode cX4_squareOf 94 = .ok (.aload_n 0, 1) := by decide +kernel
theorem dX4_squareOf_95 : decode cX4_squareOf 95 = .ok (.getfield 10, 3) := by decide +kernel
theorem dX4_squareOf_98 : decode cX4_squareOf 98 = .ok (.iload_n 1, 1) := by decide +kernel
theorem dX4_squareOf_99 : decode cX4_squareOf 99 = .ok (.aload_n 0, 1) := by decide +kernel
theorem dX4_squareOf_100 : decode cX4_squareOf 100 = .ok (.getfield 10, 3) := by decide +kernel
theorem dX4_squareOf_103 : decode cX4_squareOf 103 = .ok (.getfield 87, 3) := by decide +kernel
theorem dX4_squareOf_106 : decode cX4_squareOf 106 = .ok (.invokevirtual 148, 3) := by decide +kernel
theorem dX4_squareOf_109 : decode cX4_squareOf 109 = .ok (.ifCond .eq 7, 3) := by decide +kernel
theorem dX4_squareOf_112 : decode cX4_squareOf 112 = .ok (.iconst 1, 1) := by decide +kernel
theorem dX4_squareOf_113 : decode cX4_squareOf 113 = .ok (.goto 4, 3) := by decide +kernel
theorem dX4_squareOf_116 : decode cX4_squareOf 116 = .ok (.iconst 0, 1) := by decide +kernel
theorem dX4_squareOf_117 : decode cX4_squareOf 117 = .ok (.ireturn, 1) := by decide +kernel
theorem dX4_squareOf_118 : decode cX4_squareOf 118 = .ok (.aload_n 0, 1) := by decide +kernel
theorem dX4_squareOf_119 : decode cX4_squareOf 119 = .ok (.getfield 10, 3) := by decide +kernel
theorem dX4_squareOf_122 : decode cX4_squareOf 122 = .ok (.iload_n 1, 1) := by decide +kernel
theorem dX4_squareOf_123 : decode cX4_squareOf 123 = .ok (.aload_n 0, 1) := by decide +kernel
theorem dX4_squareOf_124 : decode cX4_squareOf 124 = .ok (.getfield 10, 3) := by decide +kernel
theorem dX4_squareOf_127 : decode cX4_squareOf 127 = .ok (.getfield 87, 3) := by decide +kernel
theorem dX4_squareOf_130 : decode cX4_squareOf 130 = .ok (.invokevirtual 152, 3) := by decide +kernel
theorem dX4_squareOf_133 : decode cX4_squareOf 133 = .ok (.ifCond .eq 7, 3) := by decide +kernel
theorem dX4_squareOf_136 : decode cX4_squareOf 136 = .ok (.iconst 1, 1) := by decide +kernel
theorem dX4_squareOf_137 : decode cX4_squareOf 137 = .ok (.goto 4, 3) := by decide +kernel
theorem dX4_squareOf_140 : decode cX4_squareOf 140 = .ok (.iconst 0, 1) := by decide +kernel
theorem dX4_squareOf_141 : decode cX4_squareOf 141 = .ok (.ireturn, 1) := by decide +kernel
theorem dX4_squareOf_142 : decode cX4_squareOf 142 = .ok (.aload_n 0, 1) := by decide +kernel
theorem dX4_squareOf_143 : decode cX4_squareOf 143 = .ok (.getfield 10, 3) := by decide +kernel
theorem dX4_squareOf_146 : decode cX4_squareOf 146 = .ok (.iload_n 1, 1) := by decide +kernel
theorem dX4_squareOf_147 : decode cX4_squareOf 147 = .ok (.iconst 0, 1) := by decide +kernel
theorem dX4_squareOf_148 : decode cX4_squareOf 148 = .ok (.invokevirtual 155, 3) := by decide +kernel
theorem dX4_squareOf_151 : decode cX4_squareOf 151 = .ok (.aload_n 0, 1) := by decide +kernel
theorem dX4_squareOf_152 : decode cX4_squareOf 152 = .ok (.getfield 10, 3) := by decide +kernel
theorem dX4_squareOf_155 : decode cX4_squareOf 155 = .ok (.iload_n 1, 1) := by decide +kernel
theorem dX4_squareOf_156 : decode cX4_squareOf 156 = .ok (.iconst 1, 1) := by decide +kernel
theorem dX4_squareOf_157 : decode cX4_squareOf 157 = .ok (.invokevirtual 155, 3) := by decide +kernel
theorem dX4_squareOf_160 : decode cX4_squareOf 160 = .ok (.iadd, 1) := by decide +kernel
theorem dX4_squareOf_161 : decode cX4_squareOf 161 = .ok (.ireturn, 1) := by decide +kernel
theorem dX4_squareOf_162 : decode cX4_squareOf 162 = .ok (.aload_n 0, 1) := by decide +kernel
theorem dX4_squareOf_163 : decode cX4_squareOf 163 = .ok (.getfield 10, 3) := by decide +kernel
theorem dX4_squareOf_166 : decode cX4_squareOf 166 = .ok (.iload_n 1, 1) := by decide +kernel
theorem dX4_squareOf_167 : decode cX4_squareOf 167 = .ok (.invokevirtual 159, 3) := by decide +kernel
theorem dX4_squareOf_170 : decode cX4_squareOf 170 = .ok (.ireturn, 1) := by decide +kernel
theorem dX4_squareOf_171 : decode cX4_squareOf 171 = .ok (.aload_n 0, 1) := by decide +kernel
theorem dX4_squareOf_172 : decode cX4_squareOf 172 = .ok (.getfield 10, 3) := by decide +kernel
theorem dX4_squareOf_175 : decode cX4_squareOf 175 = .ok (.iload_n 1, 1) := by decide +kernel
theorem dX4_squareOf_176 : decode cX4_squareOf 176 = .ok (.invokevirtual 162, 3) := by decide +kernel
theorem dX4_squareOf_179 : decode cX4_squareOf 179 = .ok (.ireturn, 1) := by decide +kernel
theorem dX4_squareOf_180 : decode cX4_squareOf 180 = .ok (.new 77, 3) := by decide +kernel
theorem dX4_squareOf_183 : decode cX4_squareOf 183 = .ok (.dup, 1) := by decide +kernel
theorem dX4_squareOf_184 : decode cX4_squareOf 184 = .ok (.ldc 165, 2) := by decide +kernel
theorem dX4_squareOf_186 : decode cX4_squareOf 186 = .ok (.invokespecial 81, 3) := by decide +kernel
theorem dX4_squareOf_189 : decode cX4_squareOf 189 = .ok (.athrow, 1) := by decide +kernel
set_option maxRecDepth 20000 in
theorem ggX4_playerOf_X0_towersOf : GoodIn wsX4_playerOf wsX0_towersOf := goodIn_r _ [10, 11, 57, 58, 59, 60, 61, 62, 63, 64] (by decide +kernel) (by decide +kernel)
set_option maxRecDepth 20000 in
theorem gX4_playerOf_X0_towersOf : GoodIn wsX4_playerOf (wsV RX4 172 RX0 yX0_towersOf wsX0_towersOf) := goodIn_app (goodIn_of _ (by decide +kernel)) ggX4_playerOf_X0_towersOf
set_option maxRecDepth 20000 in
theorem ggX4_playerOf_X0_heightsOf : GoodIn wsX4_playerOf wsX0_heightsOf := goodIn_r _ [15, 11, 16, 57, 58, 59, 60, 61, 62, 63, 64] (by decide +kernel) (by decide +kernel)
set_option maxRecDepth 20000 in
theorem gX4_playerOf_X0_heightsOf : GoodIn wsX4_playerOf (wsV RX4 175 RX0 yX0_heightsOf wsX0_heightsOf) := goodIn_app (goodIn_of _ (by decide +kernel)) ggX4_playerOf_X0_heightsOf
set_option maxRecDepth 20000 in
theorem ggX4_playerOf_X0_darkTowersOf : GoodIn wsX4_playerOf wsX0_darkTowersOf := goodIn_r _ [20, 11, 21, 22, 23, 24, 9, 25, 16, 26, 27, 28, 29, 30, 31, 32, 33, 34, 35, 36, 37, 38, 57, 58, 59, 60, 61, 62, 63, 64] (by decide +kernel) (by decide +kernel)
set_option maxRecDepth 20000 in
theorem gX4_playerOf_X0_darkTowersOf : GoodIn wsX4_playerOf (wsV RX4 178 RX0 yX0_darkTowersOf wsX0_darkTowersOf) := goodIn_app (goodIn_of _ (by decide +kernel)) ggX4_playerOf_X0_darkTowersOf
set_option maxRecDepth 20000 in
theorem ggX4_playerOf_X0_payNow : GoodIn wsX4_playerOf wsX0_payNow := goodIn_r _ [42, 11, 21, 43, 22, 23, 24, 9, 25, 16, 26, 27, 28, 29, 30, 31, 32, 33, 34, 35, 36, 37, 38, 57, 58, 59, 60, 61, 62, 63, 64] (by decide +kernel) (by decide +kernel)
set_option maxRecDepth 20000 in
theorem gX4_playerOf_X0_payNow : GoodIn wsX4_playerOf (wsV RX4 74 RX0 yX0_payNow wsX0_payNow) := goodIn_app (goodIn_of _ (by decide +kernel)) ggX4_playerOf_X0_payNow
set_option maxRecDepth 20000 in
theorem ggX4_playerOf_X0_rivalsShadedBy : GoodIn wsX4_playerOf wsX0_rivalsShadedBy := goodIn_r _ [47, 11, 48, 49, 50, 9, 51, 21, 16, 26, 27, 28, 29, 30, 31, 32, 33, 34, 35, 36, 37, 38, 57, 58, 59, 60, 61, 62, 63, 64] (by decide +kernel) (by decide +kernel)
set_option maxRecDepth 20000 in
theorem gX4_playerOf_X0_rivalsShadedBy : GoodIn wsX4_playerOf (wsV RX4 181 RX0 yX0_rivalsShadedBy wsX0_rivalsShadedBy) := goodIn_app (goodIn_of _ (by decide +kernel)) ggX4_playerOf_X0_rivalsShadedBy
theorem dX4_playerOf_0 : decode cX4_playerOf 0 = .ok (.iload_n 1, 1) := by decide +kernel
theorem dX4_playerOf_1 : decode cX4_playerOf 1 = .ok (.ifCond .lt 8, 3) := by decide +kernel
theorem dX4_playerOf_4 : decode cX4_playerOf 4 = .ok (.iload_n 1, 1) := by decide +kernel
theorem dX4_playerOf_5 : decode cX4_playerOf 5 = .ok (.iconst 2, 1) := by decide +kernel
theorem dX4_playerOf_6 : decode cX4_playerOf 6 = .ok (.if_icmp .lt 13, 3) := by decide +kernel
theorem dX4_playerOf_9 : decode cX4_playerOf 9 = .ok (.new 42, 3) := by decide +kernel
theorem dX4_playerOf_12 : decode cX4_playerOf 12 = .ok (.dup, 1) := by decide +kernel
theorem dX4_playerOf_13 : decode cX4_playerOf 13 = .ok (.ldc 167, 2) := by decide +kernel
theorem dX4_playerOf_15 : decode cX4_playerOf 15 = .ok (.invokespecial 46, 3) := by decide +kernel
theorem dX4_playerOf_18 : decode cX4_playerOf 18 = .ok (.athrow, 1) := by decide +kernel
theorem dX4_playerOf_19 : decode cX4_playerOf 19 = .ok (.iload_n 2, 1) := by decide +kernel
theorem dX4_playerOf_20 : decode cX4_playerOf 20 = .ok (.tableswitch 95 0 5 #[40, 50, 59, 68, 77, 86], 40) := by decide +kernel
theorem dX4_playerOf_60 : decode cX4_playerOf 60 = .ok (.aload_n 0, 1) := by decide +kernel
theorem dX4_playerOf_61 : decode cX4_playerOf 61 = .ok (.getfield 10, 3) := by decide +kernel
theorem dX4_playerOf_64 : decode cX4_playerOf 64 = .ok (.getfield 169, 3) := by decide +kernel
theorem dX4_playerOf_67 : decode cX4_playerOf 67 = .ok (.iload_n 1, 1) := by decide +kernel
theorem dX4_playerOf_68 : decode cX4_playerOf 68 = .ok (.iaload, 1) := by decide +kernel
theorem dX4_playerOf_69 : decode cX4_playerOf 69 = .ok (.ireturn, 1) := by decide +kernel
theorem dX4_playerOf_70 : decode cX4_playerOf 70 = .ok (.aload_n 0, 1) := by decide +kernel
theorem dX4_playerOf_71 : decode cX4_playerOf 71 = .ok (.getfield 10, 3) := by decide +kernel
theorem dX4_playerOf_74 : decode cX4_playerOf 74 = .ok (.iload_n 1, 1) := by decide +kernel
theorem dX4_playerOf_75 : decode cX4_playerOf 75 = .ok (.invokevirtual 172, 3) := by decide +kernel
theorem dX4_playerOf_78 : decode cX4_playerOf 78 = .ok (.ireturn, 1) := by decide +kernel
theorem dX4_playerOf_79 : decode cX4_playerOf 79 = .ok (.aload_n 0, 1) := by decide +kernel
theorem dX4_playerOf_80 : decode cX4_playerOf 80 = .ok (.getfield 10, 3) := by decide +kernel
theorem dX4_playerOf_83 : decode cX4_playerOf 83 = .ok (.iload_n 1, 1) := by decide +kernel
theorem dX4_playerOf_84 : decode cX4_playerOf 84 = .ok (.invokevirtual 175, 3) := by decide +kernel
theorem dX4_playerOf_87 : decode cX4_playerOf 87 = .ok (.ireturn, 1) := by decide +kernel
theorem dX4_playerOf_88 : decode cX4_playerOf 88 = .ok (.aload_n 0, 1) := by decide +kernel
theorem dX4_playerOf_89 : decode cX4_playerOf 89 = .ok (.getfield 10, 3) := by decide +kernel
theorem dX4_playerOf_92 : decode cX4_playerOf 92 = .ok (.iload_n 1, 1) := by decide +kernel
theorem dX4_playerOf_93 : decode cX4_playerOf 93 = .ok (.invokevirtual 178, 3) := by decide +kernel
theorem dX4_playerOf_96 : decode cX4_playerOf 96 = .ok (.ireturn, 1) := by decide +kernel
theorem dX4_playerOf_97 : decode cX4_playerOf 97 = .ok (.aload_n 0, 1) := by decide +kernel
theorem dX4_playerOf_98 : decode cX4_playerOf 98 = .ok (.getfield 10, 3) := by decide +kernel
theorem dX4_playerOf_101 : decode cX4_playerOf 101 = .ok (.iload_n 1, 1) := by decide +kernel
theorem dX4_playerOf_102 : decode cX4_playerOf 102 = .ok (.invokevirtual 74, 3) := by decide +kernel
theorem dX4_playerOf_105 : decode cX4_playerOf 105 = .ok (.ireturn, 1) := by decide +kernel
theorem dX4_playerOf_106 : decode cX4_playerOf 106 = .ok (.aload_n 0, 1) := by decide +kernel
theorem dX4_playerOf_107 : decode cX4_playerOf 107 = .ok (.getfield 10, 3) := by decide +kernel
theorem dX4_playerOf_110 : decode cX4_playerOf 110 = .ok (.iload_n 1, 1) := by decide +kernel
theorem dX4_playerOf_111 : decode cX4_playerOf 111 = .ok (.invokevirtual 181, 3) := by decide +kernel
theorem dX4_playerOf_114 : decode cX4_playerOf 114 = .ok (.ireturn, 1) := by decide +kernel
theorem dX4_playerOf_115 : decode cX4_playerOf 115 = .ok (.new 77, 3) := by decide +kernel
theorem dX4_playerOf_118 : decode cX4_playerOf 118 = .ok (.dup, 1) := by decide +kernel
theorem dX4_playerOf_119 : decode cX4_playerOf 119 = .ok (.ldc 184, 2) := by decide +kernel
theorem dX4_playerOf_121 : decode cX4_playerOf 121 = .ok (.invokespecial 81, 3) := by decide +kernel
theorem dX4_playerOf_124 : decode cX4_playerOf 124 = .ok (.athrow, 1) := by decide +kernel
set_option maxRecDepth 20000 in
theorem ggX4_count_X3_side : GoodIn wsX4_count wsX3_side := goodIn_r _ [8] (by decide +kernel) (by decide +kernel)
set_option maxRecDepth 20000 in
theorem gX4_count_X3_side : GoodIn wsX4_count (va_wsS RX4 186 yX3_side wsX3_side) := goodIn_app (goodIn_of _ (by decide +kernel)) ggX4_count_X3_side
set_option maxRecDepth 20000 in
theorem ggX4_count_X3_steepness : GoodIn wsX4_count wsX3_steepness := goodIn_r _ [11] (by decide +kernel) (by decide +kernel)
set_option maxRecDepth 20000 in
theorem gX4_count_X3_steepness : GoodIn wsX4_count (va_wsS RX4 191 yX3_steepness wsX3_steepness) := goodIn_app (goodIn_of _ (by decide +kernel)) ggX4_count_X3_steepness
set_option maxRecDepth 20000 in
theorem ggX4_count_X0_darkSquares : GoodIn wsX4_count wsX0_darkSquares := goodIn_r _ [16, 17, 18, 19, 15, 20, 21, 22, 6, 7, 8, 23, 10, 11, 24, 25, 26, 27, 28, 29, 49, 50, 51, 52, 53, 54, 55, 56] (by decide +kernel) (by decide +kernel)
set_option maxRecDepth 20000 in
theorem gX4_count_X0_darkSquares : GoodIn wsX4_count (wsV RX4 197 RX0 yX0_darkSquares wsX0_darkSquares) := goodIn_app (goodIn_of _ (by decide +kernel)) ggX4_count_X0_darkSquares
set_option maxRecDepth 20000 in
theorem ggX4_count_X0_towers : GoodIn wsX4_count wsX0_towers := goodIn_r _ [33, 34, 35, 36, 15, 37, 38, 49, 50, 51, 52, 53, 54, 55, 56] (by decide +kernel) (by decide +kernel)
set_option maxRecDepth 20000 in
theorem gX4_count_X0_towers : GoodIn wsX4_count (wsV RX4 123 RX0 yX0_towers wsX0_towers) := goodIn_app (goodIn_of _ (by decide +kernel)) ggX4_count_X0_towers
set_option maxRecDepth 20000 in
theorem ggX4_count_X0_crowdsTogether : GoodIn wsX4_count wsX0_crowdsTogether := goodIn_r _ [42, 43, 49, 50, 51, 52, 53, 54, 55, 56] (by decide +kernel) (by decide +kernel)
set_option maxRecDepth 20000 in
theorem gX4_count_X0_crowdsTogether : GoodIn wsX4_count (wsV RX4 200 RX0 yX0_crowdsTogether wsX0_crowdsTogether) := goodIn_app (goodIn_of _ (by decide +kernel)) ggX4_count_X0_crowdsTogether
theorem dX4_count_0 : decode cX4_count 0 = .ok (.iload_n 1, 1) := by decide +kernel
theorem dX4_count_1 : decode cX4_count 1 = .ok (.tableswitch 148 0 9 #[55, 63, 74, 85, 93, 101, 116, 124, 132, 140], 55) := by decide +kernel
theorem dX4_count_56 : decode cX4_count 56 = .ok (.aload_n 0, 1) := by decide +kernel
theorem dX4_count_57 : decode cX4_count 57 = .ok (.getfield 10, 3) := by decide +kernel
theorem dX4_count_60 : decode cX4_count 60 = .ok (.getfield 87, 3) := by decide +kernel
theorem dX4_count_63 : decode cX4_count 63 = .ok (.ireturn, 1) := by decide +kernel
theorem dX4_count_64 : decode cX4_count 64 = .ok (.aload_n 0, 1) := by decide +kernel
theorem dX4_count_65 : decode cX4_count 65 = .ok (.getfield 10, 3) := by decide +kernel
theorem dX4_count_68 : decode cX4_count 68 = .ok (.getfield 87, 3) := by decide +kernel
theorem dX4_count_71 : decode cX4_count 71 = .ok (.invokestatic 186, 3) := by decide +kernel
theorem dX4_count_74 : decode cX4_count 74 = .ok (.ireturn, 1) := by decide +kernel
theorem dX4_count_75 : decode cX4_count 75 = .ok (.aload_n 0, 1) := by decide +kernel
theorem dX4_count_76 : decode cX4_count 76 = .ok (.getfield 10, 3) := by decide +kernel
theorem dX4_count_79 : decode cX4_count 79 = .ok (.getfield 87, 3) := by decide +kernel
theorem dX4_count_82 : decode cX4_count 82 = .ok (.invokestatic 191, 3) := by decide +kernel
theorem dX4_count_85 : decode cX4_count 85 = .ok (.ireturn, 1) := by decide +kernel
theorem dX4_count_86 : decode cX4_count 86 = .ok (.aload_n 0, 1) := by decide +kernel
theorem dX4_count_87 : decode cX4_count 87 = .ok (.getfield 10, 3) := by decide +kernel
theorem dX4_count_90 : decode cX4_count 90 = .ok (.getfield 61, 3) := by decide +kernel
theorem dX4_count_93 : decode cX4_count 93 = .ok (.ireturn, 1) := by decide +kernel
theorem dX4_count_94 : decode cX4_count 94 = .ok (.aload_n 0, 1) := by decide +kernel
theorem dX4_count_95 : decode cX4_count 95 = .ok (.getfield 10, 3) := by decide +kernel
theorem dX4_count_98 : decode cX4_count 98 = .ok (.getfield 194, 3) := by decide +kernel
theorem dX4_count_101 : decode cX4_count 101 = .ok (.ireturn, 1) := by decide +kernel
theorem dX4_count_102 : decode cX4_count 102 = .ok (.aload_n 0, 1) := by decide +kernel
theorem dX4_count_103 : decode cX4_count 103 = .ok (.getfield 10, 3) := by decide +kernel
theorem dX4_count_106 : decode cX4_count 106 = .ok (.aload_n 0, 1) := by decide +kernel
theorem dX4_count_107 : decode cX4_count 107 = .ok (.getfield 10, 3) := by decide +kernel
theorem dX4_count_110 : decode cX4_count 110 = .ok (.getfield 87, 3) := by decide +kernel
theorem dX4_count_113 : decode cX4_count 113 = .ok (.invokevirtual 197, 3) := by decide +kernel
theorem dX4_count_116 : decode cX4_count 116 = .ok (.ireturn, 1) := by decide +kernel
theorem dX4_count_117 : decode cX4_count 117 = .ok (.aload_n 0, 1) := by decide +kernel
theorem dX4_count_118 : decode cX4_count 118 = .ok (.getfield 10, 3) := by decide +kernel
theorem dX4_count_121 : decode cX4_count 121 = .ok (.invokevirtual 123, 3) := by decide +kernel
theorem dX4_count_124 : decode cX4_count 124 = .ok (.ireturn, 1) := by decide +kernel
theorem dX4_count_125 : decode cX4_count 125 = .ok (.aload_n 0, 1) := by decide +kernel
theorem dX4_count_126 : decode cX4_count 126 = .ok (.getfield 10, 3) := by decide +kernel
theorem dX4_count_129 : decode cX4_count 129 = .ok (.invokevirtual 200, 3) := by decide +kernel
theorem dX4_count_132 : decode cX4_count 132 = .ok (.ireturn, 1) := by decide +kernel
theorem dX4_count_133 : decode cX4_count 133 = .ok (.aload_n 0, 1) := by decide +kernel
theorem dX4_count_134 : decode cX4_count 134 = .ok (.getfield 10, 3) := by decide +kernel
theorem dX4_count_137 : decode cX4_count 137 = .ok (.getfield 57, 3) := by decide +kernel
theorem dX4_count_140 : decode cX4_count 140 = .ok (.ireturn, 1) := by decide +kernel
theorem dX4_count_141 : decode cX4_count 141 = .ok (.aload_n 0, 1) := by decide +kernel
theorem dX4_count_142 : decode cX4_count 142 = .ok (.getfield 26, 3) := by decide +kernel
theorem dX4_count_145 : decode cX4_count 145 = .ok (.getfield 137, 3) := by decide +kernel
theorem dX4_count_148 : decode cX4_count 148 = .ok (.ireturn, 1) := by decide +kernel
theorem dX4_count_149 : decode cX4_count 149 = .ok (.new 77, 3) := by decide +kernel
theorem dX4_count_152 : decode cX4_count 152 = .ok (.dup, 1) := by decide +kernel
theorem dX4_count_153 : decode cX4_count 153 = .ok (.ldc 203, 2) := by decide +kernel
theorem dX4_count_155 : decode cX4_count 155 = .ok (.invokespecial 81, 3) := by decide +kernel
theorem dX4_count_158 : decode cX4_count 158 = .ok (.athrow, 1) := by decide +kernel
set_option maxRecDepth 20000 in
theorem ggX4_whyNot_X4_isSquare : GoodIn wsX4_whyNot wsX4_isSquare := goodIn_r _ [7] (by decide +kernel) (by decide +kernel)
set_option maxRecDepth 20000 in
theorem gX4_whyNot_X4_isSquare : GoodIn wsX4_whyNot (va_wsS RX4 38 yX4_isSquare wsX4_isSquare) := goodIn_app (goodIn_of _ (by decide +kernel)) ggX4_whyNot_X4_isSquare
set_option maxRecDepth 20000 in
theorem ggX4_whyNot_X0_refusalReason : GoodIn wsX4_whyNot wsX0_refusalReason := goodIn_r _ [12, 13, 14, 15, 16, 17, 18, 19, 11, 20, 21, 22, 23, 24, 25, 26, 27, 28, 29, 30, 31, 32, 33, 39, 40, 41, 42, 43, 44, 45, 46] (by decide +kernel) (by decide +kernel)
set_option maxRecDepth 20000 in
theorem gX4_whyNot_X0_refusalReason : GoodIn wsX4_whyNot (wsV RX4 53 RX0 yX0_refusalReason wsX0_refusalReason) := goodIn_app (goodIn_of _ (by decide +kernel)) ggX4_whyNot_X0_refusalReason
theorem dX4_whyNot_0 : decode cX4_whyNot 0 = .ok (.iload_n 1, 1) := by decide +kernel
theorem dX4_whyNot_1 : decode cX4_whyNot 1 = .ok (.invokestatic 38, 3) := by decide +kernel
theorem dX4_whyNot_4 : decode cX4_whyNot 4 = .ok (.ifCond .ne 13, 3) := by decide +kernel
theorem dX4_whyNot_7 : decode cX4_whyNot 7 = .ok (.new 42, 3) := by decide +kernel
theorem dX4_whyNot_10 : decode cX4_whyNot 10 = .ok (.dup, 1) := by decide +kernel
theorem dX4_whyNot_11 : decode cX4_whyNot 11 = .ok (.ldc 44, 2) := by decide +kernel
theorem dX4_whyNot_13 : decode cX4_whyNot 13 = .ok (.invokespecial 46, 3) := by decide +kernel
theorem dX4_whyNot_16 : decode cX4_whyNot 16 = .ok (.athrow, 1) := by decide +kernel
theorem dX4_whyNot_17 : decode cX4_whyNot 17 = .ok (.aload_n 0, 1) := by decide +kernel
theorem dX4_whyNot_18 : decode cX4_whyNot 18 = .ok (.getfield 10, 3) := by decide +kernel
theorem dX4_whyNot_21 : decode cX4_whyNot 21 = .ok (.iload_n 1, 1) := by decide +kernel
theorem dX4_whyNot_22 : decode cX4_whyNot 22 = .ok (.invokevirtual 53, 3) := by decide +kernel
theorem dX4_whyNot_25 : decode cX4_whyNot 25 = .ok (.ireturn, 1) := by decide +kernel
set_option maxRecDepth 20000 in
theorem ggX4_ifRaised_X4_isSquare : GoodIn wsX4_ifRaised wsX4_isSquare := goodIn_r _ [7] (by decide +kernel) (by decide +kernel)
set_option maxRecDepth 20000 in
theorem gX4_ifRaised_X4_isSquare : GoodIn wsX4_ifRaised (va_wsS RX4 38 yX4_isSquare wsX4_isSquare) := goodIn_app (goodIn_of _ (by decide +kernel)) ggX4_ifRaised_X4_isSquare
set_option maxRecDepth 20000 in
theorem ggX4_ifRaised_X0_worthOfRaising : GoodIn wsX4_ifRaised wsX0_worthOfRaising := goodIn_r _ [12, 13, 14, 15, 16, 17, 18, 11, 19, 20, 21, 22, 23, 24, 25, 26, 27, 28, 29, 30, 31, 32, 33, 34, 35, 36, 37, 38, 39, 40, 41, 42, 43, 44, 45, 46, 52, 53, 54, 55, 56, 57, 58, 59] (by decide +kernel) (by decide +kernel)
set_option maxRecDepth 20000 in
theorem gX4_ifRaised_X0_worthOfRaising : GoodIn wsX4_ifRaised (wsV RX4 205 RX0 yX0_worthOfRaising wsX0_worthOfRaising) := goodIn_app (goodIn_of _ (by decide +kernel)) ggX4_ifRaised_X0_worthOfRaising
theorem dX4_ifRaised_0 : decode cX4_ifRaised 0 = .ok (.iload_n 1, 1) := by decide +kernel
theorem dX4_ifRaised_1 : decode cX4_ifRaised 1 = .ok (.invokestatic 38, 3) := by decide +kernel
theorem dX4_ifRaised_4 : decode cX4_ifRaised 4 = .ok (.ifCond .ne 13, 3) := by decide +kernel
theorem dX4_ifRaised_7 : decode cX4_ifRaised 7 = .ok (.new 42, 3) := by decide +kernel
theorem dX4_ifRaised_10 : decode cX4_ifRaised 10 = .ok (.dup, 1) := by decide +kernel
theorem dX4_ifRaised_11 : decode cX4_ifRaised 11 = .ok (.ldc 44, 2) := by decide +kernel
theorem dX4_ifRaised_13 : decode cX4_ifRaised 13 = .ok (.invokespecial 46, 3) := by decide +kernel
theorem dX4_ifRaised_16 : decode cX4_ifRaised 16 = .ok (.athrow, 1) := by decide +kernel
theorem dX4_ifRaised_17 : decode cX4_ifRaised 17 = .ok (.aload_n 0, 1) := by decide +kernel
theorem dX4_ifRaised_18 : decode cX4_ifRaised 18 = .ok (.getfield 10, 3) := by decide +kernel
theorem dX4_ifRaised_21 : decode cX4_ifRaised 21 = .ok (.iload_n 1, 1) := by decide +kernel
theorem dX4_ifRaised_22 : decode cX4_ifRaised 22 = .ok (.invokevirtual 205, 3) := by decide +kernel
theorem dX4_ifRaised_25 : decode cX4_ifRaised 25 = .ok (.ireturn, 1) := by decide +kernel
set_option maxRecDepth 20000 in
theorem ggX4_bestSquare_X0_worthOfRaising : GoodIn wsX4_bestSquare wsX0_worthOfRaising := goodIn_r _ [6, 7, 8, 9, 10, 11, 12, 5, 13, 14, 15, 16, 17, 18, 19, 20, 21, 22, 23, 24, 25, 26, 27, 28, 29, 30, 31, 32, 33, 34, 35, 36, 37, 38, 39, 40, 46, 47, 48, 49, 50, 51, 52, 53] (by decide +kernel) (by decide +kernel)
set_option maxRecDepth 20000 in
theorem gX4_bestSquare_X0_worthOfRaising : GoodIn wsX4_bestSquare (wsV RX4 205 RX0 yX0_worthOfRaising wsX0_worthOfRaising) := goodIn_app (goodIn_of _ (by decide +kernel)) ggX4_bestSquare_X0_worthOfRaising
theorem dX4_bestSquare_0 : decode cX4_bestSquare 0 = .ok (.iconst (-1), 1) := by decide +kernel
theorem dX4_bestSquare_1 : decode cX4_bestSquare 1 = .ok (.istore_n 1, 1) := by decide +kernel
theorem dX4_bestSquare_2 : decode cX4_bestSquare 2 = .ok (.sipush (-999), 3) := by decide +kernel
theorem dX4_bestSquare_5 : decode cX4_bestSquare 5 = .ok (.istore_n 2, 1) := by decide +kernel
theorem dX4_bestSquare_6 : decode cX4_bestSquare 6 = .ok (.iconst 0, 1) := by decide +kernel
theorem dX4_bestSquare_7 : decode cX4_bestSquare 7 = .ok (.istore_n 3, 1) := by decide +kernel
theorem dX4_bestSquare_8 : decode cX4_bestSquare 8 = .ok (.iload_n 3, 1) := by decide +kernel
theorem dX4_bestSquare_9 : decode cX4_bestSquare 9 = .ok (.bipush 36, 2) := by decide +kernel
theorem dX4_bestSquare_11 : decode cX4_bestSquare 11 = .ok (.if_icmp .ge 30, 3) := by decide +kernel
theorem dX4_bestSquare_14 : decode cX4_bestSquare 14 = .ok (.aload_n 0, 1) := by decide +kernel
theorem dX4_bestSquare_15 : decode cX4_bestSquare 15 = .ok (.getfield 10, 3) := by decide +kernel
theorem dX4_bestSquare_18 : decode cX4_bestSquare 18 = .ok (.iload_n 3, 1) := by decide +kernel
theorem dX4_bestSquare_19 : decode cX4_bestSquare 19 = .ok (.invokevirtual 205, 3) := by decide +kernel
theorem dX4_bestSquare_22 : decode cX4_bestSquare 22 = .ok (.istore 4, 2) := by decide +kernel
theorem dX4_bestSquare_24 : decode cX4_bestSquare 24 = .ok (.iload 4, 2) := by decide +kernel
theorem dX4_bestSquare_26 : decode cX4_bestSquare 26 = .ok (.iload_n 2, 1) := by decide +kernel
theorem dX4_bestSquare_27 : decode cX4_bestSquare 27 = .ok (.if_icmp .le 8, 3) := by decide +kernel
theorem dX4_bestSquare_30 : decode cX4_bestSquare 30 = .ok (.iload_n 3, 1) := by decide +kernel
theorem dX4_bestSquare_31 : decode cX4_bestSquare 31 = .ok (.istore_n 1, 1) := by decide +kernel
theorem dX4_bestSquare_32 : decode cX4_bestSquare 32 = .ok (.iload 4, 2) := by decide +kernel
theorem dX4_bestSquare_34 : decode cX4_bestSquare 34 = .ok (.istore_n 2, 1) := by decide +kernel
theorem dX4_bestSquare_35 : decode cX4_bestSquare 35 = .ok (.iinc 3 1, 3) := by decide +kernel
theorem dX4_bestSquare_38 : decode cX4_bestSquare 38 = .ok (.goto (-30), 3) := by decide +kernel
theorem dX4_bestSquare_41 : decode cX4_bestSquare 41 = .ok (.iload_n 1, 1) := by decide +kernel
theorem dX4_bestSquare_42 : decode cX4_bestSquare 42 = .ok (.ireturn, 1) := by decide +kernel
set_option maxRecDepth 20000 in
theorem ggX4_needed_X4_isSquare : GoodIn wsX4_needed wsX4_isSquare := goodIn_r _ [7] (by decide +kernel) (by decide +kernel)
set_option maxRecDepth 20000 in
theorem gX4_needed_X4_isSquare : GoodIn wsX4_needed (va_wsS RX4 38 yX4_isSquare wsX4_isSquare) := goodIn_app (goodIn_of _ (by decide +kernel)) ggX4_needed_X4_isSquare
set_option maxRecDepth 20000 in
theorem ggX4_needed_X3_side : GoodIn wsX4_needed wsX3_side := goodIn_r _ [11] (by decide +kernel) (by decide +kernel)
set_option maxRecDepth 20000 in
theorem gX4_needed_X3_side : GoodIn wsX4_needed (va_wsS RX4 186 yX3_side wsX3_side) := goodIn_app (goodIn_of _ (by decide +kernel)) ggX4_needed_X3_side
set_option maxRecDepth 20000 in
theorem ggX4_needed_X3_distanceTowardSun : GoodIn wsX4_needed wsX3_distanceTowardSun := goodIn_r _ [14, 15, 16, 10, 17, 18, 19, 20] (by decide +kernel) (by decide +kernel)
set_option maxRecDepth 20000 in
theorem gX4_needed_X3_distanceTowardSun : GoodIn wsX4_needed (va_wsS RX4 208 yX3_distanceTowardSun wsX3_distanceTowardSun) := goodIn_app (goodIn_of _ (by decide +kernel)) ggX4_needed_X3_distanceTowardSun
set_option maxRecDepth 20000 in
theorem ggX4_needed_X3_steepness : GoodIn wsX4_needed wsX3_steepness := goodIn_r _ [23] (by decide +kernel) (by decide +kernel)
set_option maxRecDepth 20000 in
theorem gX4_needed_X3_steepness : GoodIn wsX4_needed (va_wsS RX4 191 yX3_steepness wsX3_steepness) := goodIn_app (goodIn_of _ (by decide +kernel)) ggX4_needed_X3_steepness
theorem dX4_needed_0 : decode cX4_needed 0 = .ok (.iload_n 1, 1) := by decide +kernel
theorem dX4_needed_1 : decode cX4_needed 1 = .ok (.invokestatic 38, 3) := by decide +kernel
theorem dX4_needed_4 : decode cX4_needed 4 = .ok (.ifCond .eq 10, 3) := by decide +kernel
theorem dX4_needed_7 : decode cX4_needed 7 = .ok (.iload_n 2, 1) := by decide +kernel
theorem dX4_needed_8 : decode cX4_needed 8 = .ok (.invokestatic 38, 3) := by decide +kernel
theorem dX4_needed_11 : decode cX4_needed 11 = .ok (.ifCond .ne 13, 3) := by decide +kernel
theorem dX4_needed_14 : decode cX4_needed 14 = .ok (.new 42, 3) := by decide +kernel
theorem dX4_needed_17 : decode cX4_needed 17 = .ok (.dup, 1) := by decide +kernel
theorem dX4_needed_18 : decode cX4_needed 18 = .ok (.ldc 44, 2) := by decide +kernel
theorem dX4_needed_20 : decode cX4_needed 20 = .ok (.invokespecial 46, 3) := by decide +kernel
theorem dX4_needed_23 : decode cX4_needed 23 = .ok (.athrow, 1) := by decide +kernel
theorem dX4_needed_24 : decode cX4_needed 24 = .ok (.aload_n 0, 1) := by decide +kernel
theorem dX4_needed_25 : decode cX4_needed 25 = .ok (.getfield 10, 3) := by decide +kernel
theorem dX4_needed_28 : decode cX4_needed 28 = .ok (.getfield 87, 3) := by decide +kernel
theorem dX4_needed_31 : decode cX4_needed 31 = .ok (.invokestatic 186, 3) := by decide +kernel
theorem dX4_needed_34 : decode cX4_needed 34 = .ok (.iload_n 2, 1) := by decide +kernel
theorem dX4_needed_35 : decode cX4_needed 35 = .ok (.iload_n 1, 1) := by decide +kernel
theorem dX4_needed_36 : decode cX4_needed 36 = .ok (.invokestatic 208, 3) := by decide +kernel
theorem dX4_needed_39 : decode cX4_needed 39 = .ok (.istore_n 3, 1) := by decide +kernel
theorem dX4_needed_40 : decode cX4_needed 40 = .ok (.iload_n 3, 1) := by decide +kernel
theorem dX4_needed_41 : decode cX4_needed 41 = .ok (.ifCond .ne 5, 3) := by decide +kernel
theorem dX4_needed_44 : decode cX4_needed 44 = .ok (.iconst (-1), 1) := by decide +kernel
theorem dX4_needed_45 : decode cX4_needed 45 = .ok (.ireturn, 1) := by decide +kernel
theorem dX4_needed_46 : decode cX4_needed 46 = .ok (.aload_n 0, 1) := by decide +kernel
theorem dX4_needed_47 : decode cX4_needed 47 = .ok (.getfield 10, 3) := by decide +kernel
theorem dX4_needed_50 : decode cX4_needed 50 = .ok (.getfield 64, 3) := by decide +kernel
theorem dX4_needed_53 : decode cX4_needed 53 = .ok (.iload_n 2, 1) := by decide +kernel
theorem dX4_needed_54 : decode cX4_needed 54 = .ok (.iaload, 1) := by decide +kernel
theorem dX4_needed_55 : decode cX4_needed 55 = .ok (.iload_n 3, 1) := by decide +kernel
theorem dX4_needed_56 : decode cX4_needed 56 = .ok (.aload_n 0, 1) := by decide +kernel
theorem dX4_needed_57 : decode cX4_needed 57 = .ok (.getfield 10, 3) := by decide +kernel
theorem dX4_needed_60 : decode cX4_needed 60 = .ok (.getfield 87, 3) := by decide +kernel
theorem dX4_needed_63 : decode cX4_needed 63 = .ok (.invokestatic 191, 3) := by decide +kernel
theorem dX4_needed_66 : decode cX4_needed 66 = .ok (.imul, 1) := by decide +kernel
theorem dX4_needed_67 : decode cX4_needed 67 = .ok (.iadd, 1) := by decide +kernel
theorem dX4_needed_68 : decode cX4_needed 68 = .ok (.iconst 1, 1) := by decide +kernel
theorem dX4_needed_69 : decode cX4_needed 69 = .ok (.iadd, 1) := by decide +kernel
theorem dX4_needed_70 : decode cX4_needed 70 = .ok (.istore 4, 2) := by decide +kernel
theorem dX4_needed_72 : decode cX4_needed 72 = .ok (.iload 4, 2) := by decide +kernel
theorem dX4_needed_74 : decode cX4_needed 74 = .ok (.bipush 9, 2) := by decide +kernel
theorem dX4_needed_76 : decode cX4_needed 76 = .ok (.if_icmp .le 7, 3) := by decide +kernel
theorem dX4_needed_79 : decode cX4_needed 79 = .ok (.iconst (-1), 1) := by decide +kernel
theorem dX4_needed_80 : decode cX4_needed 80 = .ok (.goto 5, 3) := by decide +kernel
theorem dX4_needed_83 : decode cX4_needed 83 = .ok (.iload 4, 2) := by decide +kernel
theorem dX4_needed_85 : decode cX4_needed 85 = .ok (.ireturn, 1) := by decide +kernel
set_option maxRecDepth 20000 in
theorem ggX4_darkestHour_X0_darkSquares : GoodIn wsX4_darkestHour wsX0_darkSquares := goodIn_r _ [6, 7, 8, 9, 5, 10, 11, 12, 13, 14, 15, 16, 17, 18, 19, 20, 21, 22, 23, 24, 30, 31, 32, 33, 34, 35, 36, 37] (by decide +kernel) (by decide +kernel)
set_option maxRecDepth 20000 in
theorem gX4_darkestHour_X0_darkSquares : GoodIn wsX4_darkestHour (wsV RX4 197 RX0 yX0_darkSquares wsX0_darkSquares) := goodIn_app (goodIn_of _ (by decide +kernel)) ggX4_darkestHour_X0_darkSquares
theorem dX4_darkestHour_0 : decode cX4_darkestHour 0 = .ok (.iconst 0, 1) := by decide +kernel
theorem dX4_darkestHour_1 : decode cX4_darkestHour 1 = .ok (.istore_n 1, 1) := by decide +kernel
theorem dX4_darkestHour_2 : decode cX4_darkestHour 2 = .ok (.aload_n 0, 1) := by decide +kernel
theorem dX4_darkestHour_3 : decode cX4_darkestHour 3 = .ok (.getfield 10, 3) := by decide +kernel
theorem dX4_darkestHour_6 : decode cX4_darkestHour 6 = .ok (.iconst 0, 1) := by decide +kernel
theorem dX4_darkestHour_7 : decode cX4_darkestHour 7 = .ok (.invokevirtual 197, 3) := by decide +kernel
theorem dX4_darkestHour_10 : decode cX4_darkestHour 10 = .ok (.istore_n 2, 1) := by decide +kernel
theorem dX4_darkestHour_11 : decode cX4_darkestHour 11 = .ok (.iconst 1, 1) := by decide +kernel
theorem dX4_darkestHour_12 : decode cX4_darkestHour 12 = .ok (.istore_n 3, 1) := by decide +kernel
theorem dX4_darkestHour_13 : decode cX4_darkestHour 13 = .ok (.iload_n 3, 1) := by decide +kernel
theorem dX4_darkestHour_14 : decode cX4_darkestHour 14 = .ok (.bipush 12, 2) := by decide +kernel
theorem dX4_darkestHour_16 : decode cX4_darkestHour 16 = .ok (.if_icmp .ge 30, 3) := by decide +kernel
theorem dX4_darkestHour_19 : decode cX4_darkestHour 19 = .ok (.aload_n 0, 1) := by decide +kernel
theorem dX4_darkestHour_20 : decode cX4_darkestHour 20 = .ok (.getfield 10, 3) := by decide +kernel
theorem dX4_darkestHour_23 : decode cX4_darkestHour 23 = .ok (.iload_n 3, 1) := by decide +kernel
theorem dX4_darkestHour_24 : decode cX4_darkestHour 24 = .ok (.invokevirtual 197, 3) := by decide +kernel
theorem dX4_darkestHour_27 : decode cX4_darkestHour 27 = .ok (.istore 4, 2) := by decide +kernel
theorem dX4_darkestHour_29 : decode cX4_darkestHour 29 = .ok (.iload 4, 2) := by decide +kernel
theorem dX4_darkestHour_31 : decode cX4_darkestHour 31 = .ok (.iload_n 2, 1) := by decide +kernel
theorem dX4_darkestHour_32 : decode cX4_darkestHour 32 = .ok (.if_icmp .le 8, 3) := by decide +kernel
theorem dX4_darkestHour_35 : decode cX4_darkestHour 35 = .ok (.iload_n 3, 1) := by decide +kernel
theorem dX4_darkestHour_36 : decode cX4_darkestHour 36 = .ok (.istore_n 1, 1) := by decide +kernel
theorem dX4_darkestHour_37 : decode cX4_darkestHour 37 = .ok (.iload 4, 2) := by decide +kernel
theorem dX4_darkestHour_39 : decode cX4_darkestHour 39 = .ok (.istore_n 2, 1) := by decide +kernel
theorem dX4_darkestHour_40 : decode cX4_darkestHour 40 = .ok (.iinc 3 1, 3) := by decide +kernel
theorem dX4_darkestHour_43 : decode cX4_darkestHour 43 = .ok (.goto (-30), 3) := by decide +kernel
theorem dX4_darkestHour_46 : decode cX4_darkestHour 46 = .ok (.iload_n 1, 1) := by decide +kernel
theorem dX4_darkestHour_47 : decode cX4_darkestHour 47 = .ok (.ireturn, 1) := by decide +kernel
set_option maxRecDepth 20000 in
theorem ggX4_darkShare_X0_darkSquares : GoodIn wsX4_darkShare wsX0_darkSquares := goodIn_r _ [7, 8, 9, 10, 6, 11, 12, 13, 14, 15, 16, 17, 18, 19, 20, 21, 22, 23, 24, 25, 31, 32, 33, 34, 35, 36, 37, 38] (by decide +kernel) (by decide +kernel)
set_option maxRecDepth 20000 in
theorem gX4_darkShare_X0_darkSquares : GoodIn wsX4_darkShare (wsV RX4 197 RX0 yX0_darkSquares wsX0_darkSquares) := goodIn_app (goodIn_of _ (by decide +kernel)) ggX4_darkShare_X0_darkSquares
theorem dX4_darkShare_0 : decode cX4_darkShare 0 = .ok (.aload_n 0, 1) := by decide +kernel
theorem dX4_darkShare_1 : decode cX4_darkShare 1 = .ok (.getfield 10, 3) := by decide +kernel
theorem dX4_darkShare_4 : decode cX4_darkShare 4 = .ok (.aload_n 0, 1) := by decide +kernel
theorem dX4_darkShare_5 : decode cX4_darkShare 5 = .ok (.getfield 10, 3) := by decide +kernel
theorem dX4_darkShare_8 : decode cX4_darkShare 8 = .ok (.getfield 87, 3) := by decide +kernel
theorem dX4_darkShare_11 : decode cX4_darkShare 11 = .ok (.invokevirtual 197, 3) := by decide +kernel
theorem dX4_darkShare_14 : decode cX4_darkShare 14 = .ok (.i2d, 1) := by decide +kernel
theorem dX4_darkShare_15 : decode cX4_darkShare 15 = .ok (.ldc2_w 212, 3) := by decide +kernel
theorem dX4_darkShare_18 : decode cX4_darkShare 18 = .ok (.ddiv, 1) := by decide +kernel
theorem dX4_darkShare_19 : decode cX4_darkShare 19 = .ok (.dreturn, 1) := by decide +kernel
set_option maxRecDepth 20000 in
theorem ggX4_digest_X4_count : GoodIn wsX4_digest wsX4_count := goodIn_ca (goodIn_r _ [8, 9, 10, 11, 12, 13, 14, 15, 16, 17, 18, 19, 20, 21, 22, 23, 24, 25, 26, 27, 28, 29, 30, 31, 32, 33, 34, 35, 36, 37, 38, 39, 40, 41, 42, 43, 44, 45, 46, 47, 48, 49, 50, 51, 169, 170, 171, 172, 173, 174, 175, 176, 177, 178, 179, 180, 181, 182, 183, 184] (by decide +kernel) (by decide +kernel)) (goodIn_sub (fun _ h => List.mem_cons_of_mem _ (List.mem_append_left _ (List.mem_append_right _ h))) (by decide +kernel))
set_option maxRecDepth 20000 in
theorem gX4_digest_X4_count : GoodIn wsX4_digest (wsV RX4 218 RX4 yX4_count wsX4_count) := goodIn_app (goodIn_of _ (by decide +kernel)) ggX4_digest_X4_count
set_option maxRecDepth 20000 in
theorem ggX4_digest_X4_digestSquares : GoodIn wsX4_digest wsX4_digestSquares := goodIn_ca (goodIn_ca (goodIn_r _ [55, 2, 56, 57, 58, 7, 59, 60, 61, 9, 10, 11, 62, 63, 64, 65, 26, 27, 23, 28, 29, 30, 14, 15, 16, 31, 18, 19, 32, 33, 34, 35, 36, 37, 66, 67, 68, 69, 70, 71, 72, 73, 74, 75, 76, 77, 78, 46, 79, 80, 81, 82, 83, 84, 85, 86, 25, 87, 88, 89, 90, 91, 92, 93, 94, 95, 96, 97, 98, 99, 100, 101, 102, 103, 104, 105, 106, 107, 108, 109, 110, 111, 112, 51, 169, 170, 171, 172, 173, 174, 175, 176, 177, 178, 179, 180, 181] (by decide +kernel) (by decide +kernel)) (goodIn_sub (fun _ h => List.mem_cons_of_mem _ (List.mem_append_right _ h)) (by decide +kernel))) (goodIn_sub (fun _ h => List.mem_cons_of_mem _ (List.mem_append_left _ (List.mem_append_right _ h))) (by decide +kernel))
set_option maxRecDepth 20000 in
theorem gX4_digest_X4_digestSquares : GoodIn wsX4_digest (wsV RX4 221 RX4 yX4_digestSquares wsX4_digestSquares) := goodIn_app (goodIn_of _ (by decide +kernel)) ggX4_digest_X4_digestSquares
set_option maxRecDepth 20000 in
theorem ggX4_digest_X4_digestPlayers : GoodIn wsX4_digest wsX4_digestPlayers := goodIn_ca (goodIn_ca (goodIn_r _ [116, 2, 117, 118, 119, 7, 120, 60, 61, 9, 10, 11, 121, 43, 44, 23, 45, 46, 122, 123, 124, 125, 29, 126, 127, 128, 129, 78, 25, 26, 27, 28, 30, 14, 15, 16, 31, 18, 19, 32, 33, 34, 35, 36, 37, 130, 110, 111, 112, 51, 131, 132, 133, 134, 135, 75, 76, 77, 169, 170, 171, 172, 173, 174, 175, 176, 177, 178, 179, 180, 181] (by decide +kernel) (by decide +kernel)) (goodIn_sub (fun _ h => List.mem_cons_of_mem _ (List.mem_append_right _ h)) (by decide +kernel))) (goodIn_sub (fun _ h => List.mem_cons_of_mem _ (List.mem_append_left _ (List.mem_append_right _ h))) (by decide +kernel))
set_option maxRecDepth 20000 in
theorem gX4_digest_X4_digestPlayers : GoodIn wsX4_digest (wsV RX4 225 RX4 yX4_digestPlayers wsX4_digestPlayers) := goodIn_app (goodIn_of _ (by decide +kernel)) ggX4_digest_X4_digestPlayers
set_option maxRecDepth 20000 in
theorem ggX4_digest_X4_bestSquare : GoodIn wsX4_digest wsX4_bestSquare := goodIn_r _ [139, 11, 100, 101, 102, 23, 103, 46, 29, 95, 104, 92, 93, 94, 78, 25, 26, 27, 28, 30, 14, 15, 16, 31, 18, 19, 32, 33, 34, 35, 36, 37, 105, 106, 107, 108, 109, 110, 111, 112, 51, 169, 170, 171, 172, 173, 174, 175, 176, 177, 178, 179, 180, 181] (by decide +kernel) (by decide +kernel)
set_option maxRecDepth 20000 in
theorem gX4_digest_X4_bestSquare : GoodIn wsX4_digest (wsV RX4 228 RX4 yX4_bestSquare wsX4_bestSquare) := goodIn_app (goodIn_of _ (by decide +kernel)) ggX4_digest_X4_bestSquare
set_option maxRecDepth 20000 in
theorem ggX4_digest_X4_needed : GoodIn wsX4_digest wsX4_needed := goodIn_ca (goodIn_r _ [143, 60, 61, 11, 62, 63, 7, 64, 13, 14, 15, 16, 144, 145, 146, 147, 33, 34, 148, 36, 37, 17, 18, 19, 169, 170, 171, 172, 173, 174, 175, 176, 177, 178, 179, 180, 181] (by decide +kernel) (by decide +kernel)) (goodIn_sub (fun _ h => List.mem_cons_of_mem _ (List.mem_append_right _ h)) (by decide +kernel))
set_option maxRecDepth 20000 in
theorem gX4_digest_X4_needed : GoodIn wsX4_digest (wsV RX4 231 RX4 yX4_needed wsX4_needed) := goodIn_app (goodIn_of _ (by decide +kernel)) ggX4_digest_X4_needed
set_option maxRecDepth 20000 in
theorem ggX4_digest_X4_darkestHour : GoodIn wsX4_digest wsX4_darkestHour := goodIn_r _ [152, 11, 20, 21, 22, 23, 24, 25, 26, 27, 28, 29, 30, 14, 15, 16, 31, 18, 19, 32, 33, 34, 35, 36, 37, 169, 170, 171, 172, 173, 174, 175, 176, 177, 178, 179, 180, 181] (by decide +kernel) (by decide +kernel)
set_option maxRecDepth 20000 in
theorem gX4_digest_X4_darkestHour : GoodIn wsX4_digest (wsV RX4 234 RX4 yX4_darkestHour wsX4_darkestHour) := goodIn_app (goodIn_of _ (by decide +kernel)) ggX4_digest_X4_darkestHour
set_option maxRecDepth 20000 in
theorem ggX4_digest_X4_darkShare : GoodIn wsX4_digest wsX4_darkShare := goodIn_r _ [156, 11, 157, 20, 21, 22, 23, 24, 25, 26, 27, 28, 29, 30, 14, 15, 16, 31, 18, 19, 32, 33, 34, 35, 36, 37, 169, 170, 171, 172, 173, 174, 175, 176, 177, 178, 179, 180, 181] (by decide +kernel) (by decide +kernel)
set_option maxRecDepth 20000 in
theorem gX4_digest_X4_darkShare : GoodIn wsX4_digest (wsV RX4 237 RX4 yX4_darkShare wsX4_darkShare) := goodIn_app (goodIn_of _ (by decide +kernel)) ggX4_digest_X4_darkShare
set_option maxRecDepth 20000 in
theorem ggX4_digest_X4_bitsOfShare : GoodIn wsX4_digest wsX4_bitsOfShare := goodIn_r _ [160, 161, 162, 163] (by decide +kernel) (by decide +kernel)
set_option maxRecDepth 20000 in
theorem gX4_digest_X4_bitsOfShare : GoodIn wsX4_digest (va_wsS RX4 241 yX4_bitsOfShare wsX4_bitsOfShare) := goodIn_app (goodIn_of _ (by decide +kernel)) ggX4_digest_X4_bitsOfShare
set_option maxRecDepth 20000 in
theorem ggX4_digest_X4_digestText : GoodIn wsX4_digest wsX4_digestText := goodIn_r _ [167, 2, 168, 169, 170, 171, 172, 173, 185, 186] (by decide +kernel) (by decide +kernel)
set_option maxRecDepth 20000 in
theorem gX4_digest_X4_digestText : GoodIn wsX4_digest (wsV RX4 245 RX4 yX4_digestText wsX4_digestText) := goodIn_app (goodIn_of _ (by decide +kernel)) ggX4_digest_X4_digestText
theorem dX4_digest_0 : decode cX4_digest 0 = .ok (.ldc2_w 214, 3) := by decide +kernel
theorem dX4_digest_3 : decode cX4_digest 3 = .ok (.lstore_n 1, 1) := by decide +kernel
theorem dX4_digest_4 : decode cX4_digest 4 = .ok (.iconst 0, 1) := by decide +kernel
theorem dX4_digest_5 : decode cX4_digest 5 = .ok (.istore_n 3, 1) := by decide +kernel
theorem dX4_digest_6 : decode cX4_digest 6 = .ok (.iload_n 3, 1) := by decide +kernel
theorem dX4_digest_7 : decode cX4_digest 7 = .ok (.bipush 9, 2) := by decide +kernel
theorem dX4_digest_9 : decode cX4_digest 9 = .ok (.if_icmp .gt 22, 3) := by decide +kernel
theorem dX4_digest_12 : decode cX4_digest 12 = .ok (.ldc2_w 216, 3) := by decide +kernel
theorem dX4_digest_15 : decode cX4_digest 15 = .ok (.lload_n 1, 1) := by decide +kernel
theorem dX4_digest_16 : decode cX4_digest 16 = .ok (.lmul, 1) := by decide +kernel
theorem dX4_digest_17 : decode cX4_digest 17 = .ok (.aload_n 0, 1) := by decide +kernel
theorem dX4_digest_18 : decode cX4_digest 18 = .ok (.iload_n 3, 1) := by decide +kernel
theorem dX4_digest_19 : decode cX4_digest 19 = .ok (.invokevirtual 218, 3) := by decide +kernel
theorem dX4_digest_22 : decode cX4_digest 22 = .ok (.i2l, 1) := by decide +kernel
theorem dX4_digest_23 : decode cX4_digest 23 = .ok (.ladd, 1) := by decide +kernel
theorem dX4_digest_24 : decode cX4_digest 24 = .ok (.lstore_n 1, 1) := by decide +kernel
theorem dX4_digest_25 : decode cX4_digest 25 = .ok (.iinc 3 1, 3) := by decide +kernel
theorem dX4_digest_28 : decode cX4_digest 28 = .ok (.goto (-22), 3) := by decide +kernel
theorem dX4_digest_31 : decode cX4_digest 31 = .ok (.aload_n 0, 1) := by decide +kernel
theorem dX4_digest_32 : decode cX4_digest 32 = .ok (.lload_n 1, 1) := by decide +kernel
theorem dX4_digest_33 : decode cX4_digest 33 = .ok (.invokevirtual 221, 3) := by decide +kernel
theorem dX4_digest_36 : decode cX4_digest 36 = .ok (.lstore_n 1, 1) := by decide +kernel
theorem dX4_digest_37 : decode cX4_digest 37 = .ok (.aload_n 0, 1) := by decide +kernel
theorem dX4_digest_38 : decode cX4_digest 38 = .ok (.lload_n 1, 1) := by decide +kernel
theorem dX4_digest_39 : decode cX4_digest 39 = .ok (.invokevirtual 225, 3) := by decide +kernel
theorem dX4_digest_42 : decode cX4_digest 42 = .ok (.lstore_n 1, 1) := by decide +kernel
theorem dX4_digest_43 : decode cX4_digest 43 = .ok (.ldc2_w 216, 3) := by decide +kernel
theorem dX4_digest_46 : decode cX4_digest 46 = .ok (.lload_n 1, 1) := by decide +kernel
theorem dX4_digest_47 : decode cX4_digest 47 = .ok (.lmul, 1) := by decide +kernel
theorem dX4_digest_48 : decode cX4_digest 48 = .ok (.aload_n 0, 1) := by decide +kernel
theorem dX4_digest_49 : decode cX4_digest 49 = .ok (.invokevirtual 228, 3) := by decide +kernel
theorem dX4_digest_52 : decode cX4_digest 52 = .ok (.i2l, 1) := by decide +kernel
theorem dX4_digest_53 : decode cX4_digest 53 = .ok (.ladd, 1) := by decide +kernel
theorem dX4_digest_54 : decode cX4_digest 54 = .ok (.lstore_n 1, 1) := by decide +kernel
theorem dX4_digest_55 : decode cX4_digest 55 = .ok (.ldc2_w 216, 3) := by decide +kernel
theorem dX4_digest_58 : decode cX4_digest 58 = .ok (.lload_n 1, 1) := by decide +kernel
theorem dX4_digest_59 : decode cX4_digest 59 = .ok (.lmul, 1) := by decide +kernel
theorem dX4_digest_60 : decode cX4_digest 60 = .ok (.aload_n 0, 1) := by decide +kernel
theorem dX4_digest_61 : decode cX4_digest 61 = .ok (.iconst 0, 1) := by decide +kernel
theorem dX4_digest_62 : decode cX4_digest 62 = .ok (.iconst 5, 1) := by decide +kernel
theorem dX4_digest_63 : decode cX4_digest 63 = .ok (.invokevirtual 231, 3) := by decide +kernel
theorem dX4_digest_66 : decode cX4_digest 66 = .ok (.i2l, 1) := by decide +kernel
theorem dX4_digest_67 : decode cX4_digest 67 = .ok (.ladd, 1) := by decide +kernel
theorem dX4_digest_68 : decode cX4_digest 68 = .ok (.lstore_n 1, 1) := by decide +kernel
theorem dX4_digest_69 : decode cX4_digest 69 = .ok (.ldc2_w 216, 3) := by decide +kernel
theorem dX4_digest_72 : decode cX4_digest 72 = .ok (.lload_n 1, 1) := by decide +kernel
theorem dX4_digest_73 : decode cX4_digest 73 = .ok (.lmul, 1) := by decide +kernel
theorem dX4_digest_74 : decode cX4_digest 74 = .ok (.aload_n 0, 1) := by decide +kernel
theorem dX4_digest_75 : decode cX4_digest 75 = .ok (.iconst 5, 1) := by decide +kernel
theorem dX4_digest_76 : decode cX4_digest 76 = .ok (.iconst 0, 1) := by decide +kernel
theorem dX4_digest_77 : decode cX4_digest 77 = .ok (.invokevirtual 231, 3) := by decide +kernel
theorem dX4_digest_80 : decode cX4_digest 80 = .ok (.i2l, 1) := by decide +kernel
theorem dX4_digest_81 : decode cX4_digest 81 = .ok (.ladd, 1) := by decide +kernel
theorem dX4_digest_82 : decode cX4_digest 82 = .ok (.lstore_n 1, 1) := by decide +kernel
theorem dX4_digest_83 : decode cX4_digest 83 = .ok (.ldc2_w 216, 3) := by decide +kernel
theorem dX4_digest_86 : decode cX4_digest 86 = .ok (.lload_n 1, 1) := by decide +kernel
theorem dX4_digest_87 : decode cX4_digest 87 = .ok (.lmul, 1) := by decide +kernel
theorem dX4_digest_88 : decode cX4_digest 88 = .ok (.aload_n 0, 1) := by decide +kernel
theorem dX4_digest_89 : decode cX4_digest 89 = .ok (.bipush 30, 2) := by decide +kernel
theorem dX4_digest_91 : decode cX4_digest 91 = .ok (.iconst 0, 1) := by decide +kernel
theorem dX4_digest_92 : decode cX4_digest 92 = .ok (.invokevirtual 231, 3) := by decide +kernel
theorem dX4_digest_95 : decode cX4_digest 95 = .ok (.i2l, 1) := by decide +kernel
theorem dX4_digest_96 : decode cX4_digest 96 = .ok (.ladd, 1) := by decide +kernel
theorem dX4_digest_97 : decode cX4_digest 97 = .ok (.lstore_n 1, 1) := by decide +kernel
theorem dX4_digest_98 : decode cX4_digest 98 = .ok (.ldc2_w 216, 3) := by decide +kernel
theorem dX4_digest_101 : decode cX4_digest 101 = .ok (.lload_n 1, 1) := by decide +kernel
theorem dX4_digest_102 : decode cX4_digest 102 = .ok (.lmul, 1) := by decide +kernel
theorem dX4_digest_103 : decode cX4_digest 103 = .ok (.aload_n 0, 1) := by decide +kernel
theorem dX4_digest_104 : decode cX4_digest 104 = .ok (.iconst 0, 1) := by decide +kernel
theorem dX4_digest_105 : decode cX4_digest 105 = .ok (.bipush 30, 2) := by decide +kernel
theorem dX4_digest_107 : decode cX4_digest 107 = .ok (.invokevirtual 231, 3) := by decide +kernel
theorem dX4_digest_110 : decode cX4_digest 110 = .ok (.i2l, 1) := by decide +kernel
theorem dX4_digest_111 : decode cX4_digest 111 = .ok (.ladd, 1) := by decide +kernel
theorem dX4_digest_112 : decode cX4_digest 112 = .ok (.lstore_n 1, 1) := by decide +kernel
theorem dX4_digest_113 : decode cX4_digest 113 = .ok (.ldc2_w 216, 3) := by decide +kernel
theorem dX4_digest_116 : decode cX4_digest 116 = .ok (.lload_n 1, 1) := by decide +kernel
theorem dX4_digest_117 : decode cX4_digest 117 = .ok (.lmul, 1) := by decide +kernel
theorem dX4_digest_118 : decode cX4_digest 118 = .ok (.aload_n 0, 1) := by decide +kernel
theorem dX4_digest_119 : decode cX4_digest 119 = .ok (.invokevirtual 234, 3) := by decide +kernel
theorem dX4_digest_122 : decode cX4_digest 122 = .ok (.i2l, 1) := by decide +kernel
theorem dX4_digest_123 : decode cX4_digest 123 = .ok (.ladd, 1) := by decide +kernel
theorem dX4_digest_124 : decode cX4_digest 124 = .ok (.lstore_n 1, 1) := by decide +kernel
theorem dX4_digest_125 : decode cX4_digest 125 = .ok (.ldc2_w 216, 3) := by decide +kernel
theorem dX4_digest_128 : decode cX4_digest 128 = .ok (.lload_n 1, 1) := by decide +kernel
theorem dX4_digest_129 : decode cX4_digest 129 = .ok (.lmul, 1) := by decide +kernel
theorem dX4_digest_130 : decode cX4_digest 130 = .ok (.aload_n 0, 1) := by decide +kernel
theorem dX4_digest_131 : decode cX4_digest 131 = .ok (.invokevirtual 237, 3) := by decide +kernel
theorem dX4_digest_134 : decode cX4_digest 134 = .ok (.invokestatic 241, 3) := by decide +kernel
theorem dX4_digest_137 : decode cX4_digest 137 = .ok (.ladd, 1) := by decide +kernel
theorem dX4_digest_138 : decode cX4_digest 138 = .ok (.lstore_n 1, 1) := by decide +kernel
theorem dX4_digest_139 : decode cX4_digest 139 = .ok (.iconst 0, 1) := by decide +kernel
theorem dX4_digest_140 : decode cX4_digest 140 = .ok (.istore_n 3, 1) := by decide +kernel
theorem dX4_digest_141 : decode cX4_digest 141 = .ok (.iload_n 3, 1) := by decide +kernel
theorem dX4_digest_142 : decode cX4_digest 142 = .ok (.iconst 2, 1) := by decide +kernel
theorem dX4_digest_143 : decode cX4_digest 143 = .ok (.if_icmp .ge 31, 3) := by decide +kernel
theorem dX4_digest_146 : decode cX4_digest 146 = .ok (.ldc2_w 216, 3) := by decide +kernel
theorem dX4_digest_149 : decode cX4_digest 149 = .ok (.lload_n 1, 1) := by decide +kernel
theorem dX4_digest_150 : decode cX4_digest 150 = .ok (.lmul, 1) := by decide +kernel
theorem dX4_digest_151 : decode cX4_digest 151 = .ok (.aload_n 0, 1) := by decide +kernel
theorem dX4_digest_152 : decode cX4_digest 152 = .ok (.getfield 34, 3) := by decide +kernel
theorem dX4_digest_155 : decode cX4_digest 155 = .ok (.iload_n 3, 1) := by decide +kernel
theorem dX4_digest_156 : decode cX4_digest 156 = .ok (.baload, 1) := by decide +kernel
theorem dX4_digest_157 : decode cX4_digest 157 = .ok (.ifCond .eq 7, 3) := by decide +kernel
theorem dX4_digest_160 : decode cX4_digest 160 = .ok (.iconst 1, 1) := by decide +kernel
theorem dX4_digest_161 : decode cX4_digest 161 = .ok (.goto 4, 3) := by decide +kernel
theorem dX4_digest_164 : decode cX4_digest 164 = .ok (.iconst 0, 1) := by decide +kernel
theorem dX4_digest_165 : decode cX4_digest 165 = .ok (.i2l, 1) := by decide +kernel
theorem dX4_digest_166 : decode cX4_digest 166 = .ok (.ladd, 1) := by decide +kernel
theorem dX4_digest_167 : decode cX4_digest 167 = .ok (.lstore_n 1, 1) := by decide +kernel
theorem dX4_digest_168 : decode cX4_digest 168 = .ok (.iinc 3 1, 3) := by decide +kernel
theorem dX4_digest_171 : decode cX4_digest 171 = .ok (.goto (-30), 3) := by decide +kernel
theorem dX4_digest_174 : decode cX4_digest 174 = .ok (.aload_n 0, 1) := by decide +kernel
theorem dX4_digest_175 : decode cX4_digest 175 = .ok (.lload_n 1, 1) := by decide +kernel
theorem dX4_digest_176 : decode cX4_digest 176 = .ok (.invokevirtual 245, 3) := by decide +kernel
theorem dX4_digest_179 : decode cX4_digest 179 = .ok (.lreturn, 1) := by decide +kernel
set_option maxRecDepth 20000 in
theorem ggX4_digestSquares_X4_squareOf : GoodIn wsX4_digestSquares wsX4_squareOf := goodIn_ca (goodIn_ca (goodIn_r _ [6, 7, 8, 9, 10, 11, 12, 13, 5, 14, 15, 16, 17, 18, 19, 20, 21, 22, 23, 24, 25, 26, 27, 28, 29, 30, 31, 32, 33, 34, 35, 36, 37, 38, 39, 40, 41, 42, 43, 44, 45, 46, 47, 48, 49, 50, 51, 52, 53, 54, 55, 56, 84, 85, 86, 87, 88, 89, 90, 91, 92, 93, 94, 95, 96] (by decide +kernel) (by decide +kernel)) (goodIn_sub (fun _ h => List.mem_cons_of_mem _ (List.mem_append_left _ (List.mem_append_right _ h))) (by decide +kernel))) (goodIn_sub (fun _ h => List.mem_cons_of_mem _ (List.mem_append_right _ h)) (by decide +kernel))
set_option maxRecDepth 20000 in
theorem gX4_digestSquares_X4_squareOf : GoodIn wsX4_digestSquares (wsV RX4 248 RX4 yX4_squareOf wsX4_squareOf) := goodIn_app (goodIn_of _ (by decide +kernel)) ggX4_digestSquares_X4_squareOf
set_option maxRecDepth 20000 in
theorem ggX4_digestSquares_X4_whyNot : GoodIn wsX4_digestSquares wsX4_whyNot := goodIn_ca (goodIn_r _ [60, 7, 8, 11, 12, 13, 5, 14, 61, 62, 63, 18, 64, 47, 65, 20, 46, 56, 16, 17, 19, 21, 22, 23, 24, 25, 26, 27, 28, 29, 30, 31, 32, 33, 84, 85, 86, 87, 88, 89, 90, 91, 92, 93, 94, 95, 96] (by decide +kernel) (by decide +kernel)) (goodIn_sub (fun _ h => List.mem_cons_of_mem _ (List.mem_append_left _ (List.mem_append_right _ h))) (by decide +kernel))
set_option maxRecDepth 20000 in
theorem gX4_digestSquares_X4_whyNot : GoodIn wsX4_digestSquares (wsV RX4 251 RX4 yX4_whyNot wsX4_whyNot) := goodIn_app (goodIn_of _ (by decide +kernel)) ggX4_digestSquares_X4_whyNot
set_option maxRecDepth 20000 in
theorem ggX4_digestSquares_X4_ifRaised : GoodIn wsX4_digestSquares wsX4_ifRaised := goodIn_ca (goodIn_r _ [69, 7, 8, 11, 12, 13, 5, 14, 70, 71, 72, 18, 73, 47, 20, 65, 74, 62, 63, 64, 46, 56, 16, 17, 19, 21, 22, 23, 24, 25, 26, 27, 28, 29, 30, 31, 32, 33, 75, 76, 77, 78, 79, 80, 81, 82, 83, 84, 85, 86, 87, 88, 89, 90, 91, 92, 93, 94, 95, 96] (by decide +kernel) (by decide +kernel)) (goodIn_sub (fun _ h => List.mem_cons_of_mem _ (List.mem_append_left _ (List.mem_append_right _ h))) (by decide +kernel))
set_option maxRecDepth 20000 in
theorem gX4_digestSquares_X4_ifRaised : GoodIn wsX4_digestSquares (wsV RX4 254 RX4 yX4_ifRaised wsX4_ifRaised) := goodIn_app (goodIn_of _ (by decide +kernel)) ggX4_digestSquares_X4_ifRaised
theorem dX4_digestSquares_0 : decode cX4_digestSquares 0 = .ok (.lload_n 1, 1) := by decide +kernel
theorem dX4_digestSquares_1 : decode cX4_digestSquares 1 = .ok (.lstore_n 3, 1) := by decide +kernel
theorem dX4_digestSquares_2 : decode cX4_digestSquares 2 = .ok (.iconst 0, 1) := by decide +kernel
theorem dX4_digestSquares_3 : decode cX4_digestSquares 3 = .ok (.istore 5, 2) := by decide +kernel
theorem dX4_digestSquares_5 : decode cX4_digestSquares 5 = .ok (.iload 5, 2) := by decide +kernel
theorem dX4_digestSquares_7 : decode cX4_digestSquares 7 = .ok (.bipush 36, 2) := by decide +kernel
theorem dX4_digestSquares_9 : decode cX4_digestSquares 9 = .ok (.if_icmp .ge 69, 3) := by decide +kernel
theorem dX4_digestSquares_12 : decode cX4_digestSquares 12 = .ok (.iconst 0, 1) := by decide +kernel
theorem dX4_digestSquares_13 : decode cX4_digestSquares 13 = .ok (.istore 6, 2) := by decide +kernel
theorem dX4_digestSquares_15 : decode cX4_digestSquares 15 = .ok (.iload 6, 2) := by decide +kernel
theorem dX4_digestSquares_17 : decode cX4_digestSquares 17 = .ok (.bipush 7, 2) := by decide +kernel
theorem dX4_digestSquares_19 : decode cX4_digestSquares 19 = .ok (.if_icmp .gt 25, 3) := by decide +kernel
theorem dX4_digestSquares_22 : decode cX4_digestSquares 22 = .ok (.ldc2_w 216, 3) := by decide +kernel
theorem dX4_digestSquares_25 : decode cX4_digestSquares 25 = .ok (.lload_n 3, 1) := by decide +kernel
theorem dX4_digestSquares_26 : decode cX4_digestSquares 26 = .ok (.lmul, 1) := by decide +kernel
theorem dX4_digestSquares_27 : decode cX4_digestSquares 27 = .ok (.aload_n 0, 1) := by decide +kernel
theorem dX4_digestSquares_28 : decode cX4_digestSquares 28 = .ok (.iload 5, 2) := by decide +kernel
theorem dX4_digestSquares_30 : decode cX4_digestSquares 30 = .ok (.iload 6, 2) := by decide +kernel
theorem dX4_digestSquares_32 : decode cX4_digestSquares 32 = .ok (.invokevirtual 248, 3) := by decide +kernel
theorem dX4_digestSquares_35 : decode cX4_digestSquares 35 = .ok (.i2l, 1) := by decide +kernel
theorem dX4_digestSquares_36 : decode cX4_digestSquares 36 = .ok (.ladd, 1) := by decide +kernel
theorem dX4_digestSquares_37 : decode cX4_digestSquares 37 = .ok (.lstore_n 3, 1) := by decide +kernel
theorem dX4_digestSquares_38 : decode cX4_digestSquares 38 = .ok (.iinc 6 1, 3) := by decide +kernel
theorem dX4_digestSquares_41 : decode cX4_digestSquares 41 = .ok (.goto (-26), 3) := by decide +kernel
theorem dX4_digestSquares_44 : decode cX4_digestSquares 44 = .ok (.ldc2_w 216, 3) := by decide +kernel
theorem dX4_digestSquares_47 : decode cX4_digestSquares 47 = .ok (.lload_n 3, 1) := by decide +kernel
theorem dX4_digestSquares_48 : decode cX4_digestSquares 48 = .ok (.lmul, 1) := by decide +kernel
theorem dX4_digestSquares_49 : decode cX4_digestSquares 49 = .ok (.aload_n 0, 1) := by decide +kernel
theorem dX4_digestSquares_50 : decode cX4_digestSquares 50 = .ok (.iload 5, 2) := by decide +kernel
theorem dX4_digestSquares_52 : decode cX4_digestSquares 52 = .ok (.invokevirtual 251, 3) := by decide +kernel
theorem dX4_digestSquares_55 : decode cX4_digestSquares 55 = .ok (.i2l, 1) := by decide +kernel
theorem dX4_digestSquares_56 : decode cX4_digestSquares 56 = .ok (.ladd, 1) := by decide +kernel
theorem dX4_digestSquares_57 : decode cX4_digestSquares 57 = .ok (.lstore_n 3, 1) := by decide +kernel
theorem dX4_digestSquares_58 : decode cX4_digestSquares 58 = .ok (.ldc2_w 216, 3) := by decide +kernel
theorem dX4_digestSquares_61 : decode cX4_digestSquares 61 = .ok (.lload_n 3, 1) := by decide +kernel
theorem dX4_digestSquares_62 : decode cX4_digestSquares 62 = .ok (.lmul, 1) := by decide +kernel
theorem dX4_digestSquares_63 : decode cX4_digestSquares 63 = .ok (.aload_n 0, 1) := by decide +kernel
theorem dX4_digestSquares_64 : decode cX4_digestSquares 64 = .ok (.iload 5, 2) := by decide +kernel
theorem dX4_digestSquares_66 : decode cX4_digestSquares 66 = .ok (.invokevirtual 254, 3) := by decide +kernel
theorem dX4_digestSquares_69 : decode cX4_digestSquares 69 = .ok (.i2l, 1) := by decide +kernel
theorem dX4_digestSquares_70 : decode cX4_digestSquares 70 = .ok (.ladd, 1) := by decide +kernel
theorem dX4_digestSquares_71 : decode cX4_digestSquares 71 = .ok (.lstore_n 3, 1) := by decide +kernel
theorem dX4_digestSquares_72 : decode cX4_digestSquares 72 = .ok (.iinc 5 1, 3) := by decide +kernel
theorem dX4_digestSquares_75 : decode cX4_digestSquares 75 = .ok (.goto (-70), 3) := by decide +kernel
theorem dX4_digestSquares_78 : decode cX4_digestSquares 78 = .ok (.lload_n 3, 1) := by decide +kernel
theorem dX4_digestSquares_79 : decode cX4_digestSquares 79 = .ok (.lreturn, 1) := by decide +kernel
set_option maxRecDepth 20000 in
theorem ggX4_digestPlayers_X4_playerOf : GoodIn wsX4_digestPlayers wsX4_playerOf := goodIn_ca (goodIn_ca (goodIn_r _ [6, 7, 8, 9, 10, 11, 12, 13, 14, 15, 16, 17, 18, 19, 20, 21, 22, 23, 24, 25, 26, 27, 28, 29, 30, 31, 32, 33, 34, 35, 36, 37, 38, 39, 40, 41, 42, 43, 44, 45, 46, 47, 48, 49, 50, 51, 52, 53, 54, 55, 56, 57, 58, 59, 60, 61, 62, 63, 64, 65, 66, 67, 68, 69, 70] (by decide +kernel) (by decide +kernel)) (goodIn_sub (fun _ h => List.mem_cons_of_mem _ (List.mem_append_left _ (List.mem_append_right _ h))) (by decide +kernel))) (goodIn_sub (fun _ h => List.mem_cons_of_mem _ (List.mem_append_right _ h)) (by decide +kernel))
set_option maxRecDepth 20000 in
theorem gX4_digestPlayers_X4_playerOf : GoodIn wsX4_digestPlayers (wsV RX4 257 RX4 yX4_playerOf wsX4_playerOf) := goodIn_app (goodIn_of _ (by decide +kernel)) ggX4_digestPlayers_X4_playerOf
theorem dX4_digestPlayers_0 : decode cX4_digestPlayers 0 = .ok (.lload_n 1, 1) := by decide +kernel
theorem dX4_digestPlayers_1 : decode cX4_digestPlayers 1 = .ok (.lstore_n 3, 1) := by decide +kernel
theorem dX4_digestPlayers_2 : decode cX4_digestPlayers 2 = .ok (.iconst 0, 1) := by decide +kernel
theorem dX4_digestPlayers_3 : decode cX4_digestPlayers 3 = .ok (.istore 5, 2) := by decide +kernel
theorem dX4_digestPlayers_5 : decode cX4_digestPlayers 5 = .ok (.iload 5, 2) := by decide +kernel
theorem dX4_digestPlayers_7 : decode cX4_digestPlayers 7 = .ok (.iconst 2, 1) := by decide +kernel
theorem dX4_digestPlayers_8 : decode cX4_digestPlayers 8 = .ok (.if_icmp .ge 40, 3) := by decide +kernel
theorem dX4_digestPlayers_11 : decode cX4_digestPlayers 11 = .ok (.iconst 0, 1) := by decide +kernel
theorem dX4_digestPlayers_12 : decode cX4_digestPlayers 12 = .ok (.istore 6, 2) := by decide +kernel
theorem dX4_digestPlayers_14 : decode cX4_digestPlayers 14 = .ok (.iload 6, 2) := by decide +kernel
theorem dX4_digestPlayers_16 : decode cX4_digestPlayers 16 = .ok (.iconst 5, 1) := by decide +kernel
theorem dX4_digestPlayers_17 : decode cX4_digestPlayers 17 = .ok (.if_icmp .gt 25, 3) := by decide +kernel
theorem dX4_digestPlayers_20 : decode cX4_digestPlayers 20 = .ok (.ldc2_w 216, 3) := by decide +kernel
theorem dX4_digestPlayers_23 : decode cX4_digestPlayers 23 = .ok (.lload_n 3, 1) := by decide +kernel
theorem dX4_digestPlayers_24 : decode cX4_digestPlayers 24 = .ok (.lmul, 1) := by decide +kernel
theorem dX4_digestPlayers_25 : decode cX4_digestPlayers 25 = .ok (.aload_n 0, 1) := by decide +kernel
theorem dX4_digestPlayers_26 : decode cX4_digestPlayers 26 = .ok (.iload 5, 2) := by decide +kernel
theorem dX4_digestPlayers_28 : decode cX4_digestPlayers 28 = .ok (.iload 6, 2) := by decide +kernel
theorem dX4_digestPlayers_30 : decode cX4_digestPlayers 30 = .ok (.invokevirtual 257, 3) := by decide +kernel
theorem dX4_digestPlayers_33 : decode cX4_digestPlayers 33 = .ok (.i2l, 1) := by decide +kernel
theorem dX4_digestPlayers_34 : decode cX4_digestPlayers 34 = .ok (.ladd, 1) := by decide +kernel
theorem dX4_digestPlayers_35 : decode cX4_digestPlayers 35 = .ok (.lstore_n 3, 1) := by decide +kernel
theorem dX4_digestPlayers_36 : decode cX4_digestPlayers 36 = .ok (.iinc 6 1, 3) := by decide +kernel
theorem dX4_digestPlayers_39 : decode cX4_digestPlayers 39 = .ok (.goto (-25), 3) := by decide +kernel
theorem dX4_digestPlayers_42 : decode cX4_digestPlayers 42 = .ok (.iinc 5 1, 3) := by decide +kernel
theorem dX4_digestPlayers_45 : decode cX4_digestPlayers 45 = .ok (.goto (-40), 3) := by decide +kernel
theorem dX4_digestPlayers_48 : decode cX4_digestPlayers 48 = .ok (.lload_n 3, 1) := by decide +kernel
theorem dX4_digestPlayers_49 : decode cX4_digestPlayers 49 = .ok (.lreturn, 1) := by decide +kernel
theorem dX4_digestText_0 : decode cX4_digestText 0 = .ok (.ldc2_w 216, 3) := by decide +kernel
theorem dX4_digestText_3 : decode cX4_digestText 3 = .ok (.lload_n 1, 1) := by decide +kernel
theorem dX4_digestText_4 : decode cX4_digestText 4 = .ok (.lmul, 1) := by decide +kernel
theorem dX4_digestText_5 : decode cX4_digestText 5 = .ok (.aload_n 0, 1) := by decide +kernel
theorem dX4_digestText_6 : decode cX4_digestText 6 = .ok (.getfield 19, 3) := by decide +kernel
theorem dX4_digestText_9 : decode cX4_digestText 9 = .ok (.getfield 105, 3) := by decide +kernel
theorem dX4_digestText_12 : decode cX4_digestText 12 = .ok (.i2l, 1) := by decide +kernel
theorem dX4_digestText_13 : decode cX4_digestText 13 = .ok (.ladd, 1) := by decide +kernel
theorem dX4_digestText_14 : decode cX4_digestText 14 = .ok (.lstore_n 3, 1) := by decide +kernel
theorem dX4_digestText_15 : decode cX4_digestText 15 = .ok (.iconst 0, 1) := by decide +kernel
theorem dX4_digestText_16 : decode cX4_digestText 16 = .ok (.istore 5, 2) := by decide +kernel
theorem dX4_digestText_18 : decode cX4_digestText 18 = .ok (.iload 5, 2) := by decide +kernel
theorem dX4_digestText_20 : decode cX4_digestText 20 = .ok (.aload_n 0, 1) := by decide +kernel
theorem dX4_digestText_21 : decode cX4_digestText 21 = .ok (.getfield 19, 3) := by decide +kernel
theorem dX4_digestText_24 : decode cX4_digestText 24 = .ok (.getfield 105, 3) := by decide +kernel
theorem dX4_digestText_27 : decode cX4_digestText 27 = .ok (.if_icmp .ge 27, 3) := by decide +kernel
theorem dX4_digestText_30 : decode cX4_digestText 30 = .ok (.ldc2_w 216, 3) := by decide +kernel
theorem dX4_digestText_33 : decode cX4_digestText 33 = .ok (.lload_n 3, 1) := by decide +kernel
theorem dX4_digestText_34 : decode cX4_digestText 34 = .ok (.lmul, 1) := by decide +kernel
theorem dX4_digestText_35 : decode cX4_digestText 35 = .ok (.aload_n 0, 1) := by decide +kernel
theorem dX4_digestText_36 : decode cX4_digestText 36 = .ok (.getfield 19, 3) := by decide +kernel
theorem dX4_digestText_39 : decode cX4_digestText 39 = .ok (.getfield 260, 3) := by decide +kernel
theorem dX4_digestText_42 : decode cX4_digestText 42 = .ok (.iload 5, 2) := by decide +kernel
theorem dX4_digestText_44 : decode cX4_digestText 44 = .ok (.iaload, 1) := by decide +kernel
theorem dX4_digestText_45 : decode cX4_digestText 45 = .ok (.i2l, 1) := by decide +kernel
theorem dX4_digestText_46 : decode cX4_digestText 46 = .ok (.ladd, 1) := by decide +kernel
theorem dX4_digestText_47 : decode cX4_digestText 47 = .ok (.lstore_n 3, 1) := by decide +kernel
theorem dX4_digestText_48 : decode cX4_digestText 48 = .ok (.iinc 5 1, 3) := by decide +kernel
theorem dX4_digestText_51 : decode cX4_digestText 51 = .ok (.goto (-33), 3) := by decide +kernel
theorem dX4_digestText_54 : decode cX4_digestText 54 = .ok (.lload_n 3, 1) := by decide +kernel
theorem dX4_digestText_55 : decode cX4_digestText 55 = .ok (.lreturn, 1) := by decide +kernel
theorem dX4_bitsOfShare_0 : decode cX4_bitsOfShare 0 = .ok (.dload_n 0, 1) := by decide +kernel
theorem dX4_bitsOfShare_1 : decode cX4_bitsOfShare 1 = .ok (.dconst 0, 1) := by decide +kernel
theorem dX4_bitsOfShare_2 : decode cX4_bitsOfShare 2 = .ok (.dcmp .g, 1) := by decide +kernel
theorem dX4_bitsOfShare_3 : decode cX4_bitsOfShare 3 = .ok (.ifCond .gt 5, 3) := by decide +kernel
theorem dX4_bitsOfShare_6 : decode cX4_bitsOfShare 6 = .ok (.lconst 0, 1) := by decide +kernel
theorem dX4_bitsOfShare_7 : decode cX4_bitsOfShare 7 = .ok (.lreturn, 1) := by decide +kernel
theorem dX4_bitsOfShare_8 : decode cX4_bitsOfShare 8 = .ok (.dload_n 0, 1) := by decide +kernel
theorem dX4_bitsOfShare_9 : decode cX4_bitsOfShare 9 = .ok (.dstore_n 2, 1) := by decide +kernel
theorem dX4_bitsOfShare_10 : decode cX4_bitsOfShare 10 = .ok (.ldc2_w 263, 3) := by decide +kernel
theorem dX4_bitsOfShare_13 : decode cX4_bitsOfShare 13 = .ok (.lstore 4, 2) := by decide +kernel
theorem dX4_bitsOfShare_15 : decode cX4_bitsOfShare 15 = .ok (.dload_n 2, 1) := by decide +kernel
theorem dX4_bitsOfShare_16 : decode cX4_bitsOfShare 16 = .ok (.dconst 1, 1) := by decide +kernel
theorem dX4_bitsOfShare_17 : decode cX4_bitsOfShare 17 = .ok (.dcmp .g, 1) := by decide +kernel
theorem dX4_bitsOfShare_18 : decode cX4_bitsOfShare 18 = .ok (.ifCond .ge 25, 3) := by decide +kernel
theorem dX4_bitsOfShare_21 : decode cX4_bitsOfShare 21 = .ok (.lload 4, 2) := by decide +kernel
theorem dX4_bitsOfShare_23 : decode cX4_bitsOfShare 23 = .ok (.lconst 1, 1) := by decide +kernel
theorem dX4_bitsOfShare_24 : decode cX4_bitsOfShare 24 = .ok (.lcmp, 1) := by decide +kernel
theorem dX4_bitsOfShare_25 : decode cX4_bitsOfShare 25 = .ok (.ifCond .le 18, 3) := by decide +kernel
theorem dX4_bitsOfShare_28 : decode cX4_bitsOfShare 28 = .ok (.dload_n 2, 1) := by decide +kernel
theorem dX4_bitsOfShare_29 : decode cX4_bitsOfShare 29 = .ok (.ldc2_w 265, 3) := by decide +kernel
theorem dX4_bitsOfShare_32 : decode cX4_bitsOfShare 32 = .ok (.dmul, 1) := by decide +kernel
theorem dX4_bitsOfShare_33 : decode cX4_bitsOfShare 33 = .ok (.dstore_n 2, 1) := by decide +kernel
theorem dX4_bitsOfShare_34 : decode cX4_bitsOfShare 34 = .ok (.lload 4, 2) := by decide +kernel
theorem dX4_bitsOfShare_36 : decode cX4_bitsOfShare 36 = .ok (.lconst 1, 1) := by decide +kernel
theorem dX4_bitsOfShare_37 : decode cX4_bitsOfShare 37 = .ok (.lsub, 1) := by decide +kernel
theorem dX4_bitsOfShare_38 : decode cX4_bitsOfShare 38 = .ok (.lstore 4, 2) := by decide +kernel
theorem dX4_bitsOfShare_40 : decode cX4_bitsOfShare 40 = .ok (.goto (-25), 3) := by decide +kernel
theorem dX4_bitsOfShare_43 : decode cX4_bitsOfShare 43 = .ok (.ldc2_w 267, 3) := by decide +kernel
theorem dX4_bitsOfShare_46 : decode cX4_bitsOfShare 46 = .ok (.dstore 6, 2) := by decide +kernel
theorem dX4_bitsOfShare_48 : decode cX4_bitsOfShare 48 = .ok (.lload 4, 2) := by decide +kernel
theorem dX4_bitsOfShare_50 : decode cX4_bitsOfShare 50 = .ok (.bipush 52, 2) := by decide +kernel
theorem dX4_bitsOfShare_52 : decode cX4_bitsOfShare 52 = .ok (.lshl, 1) := by decide +kernel
theorem dX4_bitsOfShare_53 : decode cX4_bitsOfShare 53 = .ok (.dload_n 2, 1) := by decide +kernel
theorem dX4_bitsOfShare_54 : decode cX4_bitsOfShare 54 = .ok (.dconst 1, 1) := by decide +kernel
theorem dX4_bitsOfShare_55 : decode cX4_bitsOfShare 55 = .ok (.dsub, 1) := by decide +kernel
theorem dX4_bitsOfShare_56 : decode cX4_bitsOfShare 56 = .ok (.dload 6, 2) := by decide +kernel
theorem dX4_bitsOfShare_58 : decode cX4_bitsOfShare 58 = .ok (.dmul, 1) := by decide +kernel
theorem dX4_bitsOfShare_59 : decode cX4_bitsOfShare 59 = .ok (.d2l, 1) := by decide +kernel
theorem dX4_bitsOfShare_60 : decode cX4_bitsOfShare 60 = .ok (.lor, 1) := by decide +kernel
theorem dX4_bitsOfShare_61 : decode cX4_bitsOfShare 61 = .ok (.lreturn, 1) := by decide +kernel
theorem dX4_isSquare_0 : decode cX4_isSquare 0 = .ok (.iload_n 0, 1) := by decide +kernel
theorem dX4_isSquare_1 : decode cX4_isSquare 1 = .ok (.ifCond .lt 13, 3) := by decide +kernel
theorem dX4_isSquare_4 : decode cX4_isSquare 4 = .ok (.iload_n 0, 1) := by decide +kernel
theorem dX4_isSquare_5 : decode cX4_isSquare 5 = .ok (.bipush 36, 2) := by decide +kernel
theorem dX4_isSquare_7 : decode cX4_isSquare 7 = .ok (.if_icmp .ge 7, 3) := by decide +kernel
theorem dX4_isSquare_10 : decode cX4_isSquare 10 = .ok (.iconst 1, 1) := by decide +kernel
theorem dX4_isSquare_11 : decode cX4_isSquare 11 = .ok (.goto 4, 3) := by decide +kernel
theorem dX4_isSquare_14 : decode cX4_isSquare 14 = .ok (.iconst 0, 1) := by decide +kernel
theorem dX4_isSquare_15 : decode cX4_isSquare 15 = .ok (.ireturn, 1) := by decide +kernel
set_option maxRecDepth 20000 in
theorem ggX4_putEntry_X1_square : GoodIn wsX4_putEntry wsX1_square := goodIn_r _ [7, 8, 37, 38] (by decide +kernel) (by decide +kernel)
set_option maxRecDepth 20000 in
theorem gX4_putEntry_X1_square : GoodIn wsX4_putEntry (wsV RX4 269 RX1 yX1_square wsX1_square) := goodIn_app (goodIn_of _ (by decide +kernel)) ggX4_putEntry_X1_square
set_option maxRecDepth 20000 in
theorem ggX4_putEntry_X1_mark : GoodIn wsX4_putEntry wsX1_mark := goodIn_r _ [12, 8, 37, 38] (by decide +kernel) (by decide +kernel)
set_option maxRecDepth 20000 in
theorem gX4_putEntry_X1_mark : GoodIn wsX4_putEntry (wsV RX4 272 RX1 yX1_mark wsX1_mark) := goodIn_app (goodIn_of _ (by decide +kernel)) ggX4_putEntry_X1_mark
set_option maxRecDepth 20000 in
theorem ggX4_putEntry_X1_number : GoodIn wsX4_putEntry wsX1_number := goodIn_r _ [16, 8, 37, 38] (by decide +kernel) (by decide +kernel)
set_option maxRecDepth 20000 in
theorem gX4_putEntry_X1_number : GoodIn wsX4_putEntry (wsV RX4 275 RX1 yX1_number wsX1_number) := goodIn_app (goodIn_of _ (by decide +kernel)) ggX4_putEntry_X1_number
set_option maxRecDepth 20000 in
theorem ggX4_putEntry_X0_putTower : GoodIn wsX4_putEntry wsX0_putTower := goodIn_r _ [21, 22, 23, 29, 30, 31, 32, 33, 34, 35, 36] (by decide +kernel) (by decide +kernel)
set_option maxRecDepth 20000 in
theorem gX4_putEntry_X0_putTower : GoodIn wsX4_putEntry (wsV RX4 67 RX0 yX0_putTower wsX0_putTower) := goodIn_app (goodIn_of _ (by decide +kernel)) ggX4_putEntry_X0_putTower
theorem dX4_putEntry_0 : decode cX4_putEntry 0 = .ok (.aload_n 0, 1) := by decide +kernel
theorem dX4_putEntry_1 : decode cX4_putEntry 1 = .ok (.getfield 19, 3) := by decide +kernel
theorem dX4_putEntry_4 : decode cX4_putEntry 4 = .ok (.iload_n 1, 1) := by decide +kernel
theorem dX4_putEntry_5 : decode cX4_putEntry 5 = .ok (.invokevirtual 269, 3) := by decide +kernel
theorem dX4_putEntry_8 : decode cX4_putEntry 8 = .ok (.istore_n 2, 1) := by decide +kernel
theorem dX4_putEntry_9 : decode cX4_putEntry 9 = .ok (.aload_n 0, 1) := by decide +kernel
theorem dX4_putEntry_10 : decode cX4_putEntry 10 = .ok (.getfield 19, 3) := by decide +kernel
theorem dX4_putEntry_13 : decode cX4_putEntry 13 = .ok (.iload_n 1, 1) := by decide +kernel
theorem dX4_putEntry_14 : decode cX4_putEntry 14 = .ok (.invokevirtual 272, 3) := by decide +kernel
theorem dX4_putEntry_17 : decode cX4_putEntry 17 = .ok (.istore_n 3, 1) := by decide +kernel
theorem dX4_putEntry_18 : decode cX4_putEntry 18 = .ok (.aload_n 0, 1) := by decide +kernel
theorem dX4_putEntry_19 : decode cX4_putEntry 19 = .ok (.getfield 19, 3) := by decide +kernel
theorem dX4_putEntry_22 : decode cX4_putEntry 22 = .ok (.iload_n 1, 1) := by decide +kernel
theorem dX4_putEntry_23 : decode cX4_putEntry 23 = .ok (.invokevirtual 275, 3) := by decide +kernel
theorem dX4_putEntry_26 : decode cX4_putEntry 26 = .ok (.istore 4, 2) := by decide +kernel
theorem dX4_putEntry_28 : decode cX4_putEntry 28 = .ok (.iload_n 3, 1) := by decide +kernel
theorem dX4_putEntry_29 : decode cX4_putEntry 29 = .ok (.bipush 61, 2) := by decide +kernel
theorem dX4_putEntry_31 : decode cX4_putEntry 31 = .ok (.if_icmp .ne 17, 3) := by decide +kernel
theorem dX4_putEntry_34 : decode cX4_putEntry 34 = .ok (.aload_n 0, 1) := by decide +kernel
theorem dX4_putEntry_35 : decode cX4_putEntry 35 = .ok (.getfield 10, 3) := by decide +kernel
theorem dX4_putEntry_38 : decode cX4_putEntry 38 = .ok (.getfield 82, 3) := by decide +kernel
theorem dX4_putEntry_41 : decode cX4_putEntry 41 = .ok (.iload_n 2, 1) := by decide +kernel
theorem dX4_putEntry_42 : decode cX4_putEntry 42 = .ok (.iload 4, 2) := by decide +kernel
theorem dX4_putEntry_44 : decode cX4_putEntry 44 = .ok (.iastore, 1) := by decide +kernel
theorem dX4_putEntry_45 : decode cX4_putEntry 45 = .ok (.goto 24, 3) := by decide +kernel
theorem dX4_putEntry_48 : decode cX4_putEntry 48 = .ok (.aload_n 0, 1) := by decide +kernel
theorem dX4_putEntry_49 : decode cX4_putEntry 49 = .ok (.getfield 10, 3) := by decide +kernel
theorem dX4_putEntry_52 : decode cX4_putEntry 52 = .ok (.iload_n 2, 1) := by decide +kernel
theorem dX4_putEntry_53 : decode cX4_putEntry 53 = .ok (.iload_n 3, 1) := by decide +kernel
theorem dX4_putEntry_54 : decode cX4_putEntry 54 = .ok (.bipush 43, 2) := by decide +kernel
theorem dX4_putEntry_56 : decode cX4_putEntry 56 = .ok (.if_icmp .ne 7, 3) := by decide +kernel
theorem dX4_putEntry_59 : decode cX4_putEntry 59 = .ok (.iconst 0, 1) := by decide +kernel
theorem dX4_putEntry_60 : decode cX4_putEntry 60 = .ok (.goto 4, 3) := by decide +kernel
theorem dX4_putEntry_63 : decode cX4_putEntry 63 = .ok (.iconst 1, 1) := by decide +kernel
theorem dX4_putEntry_64 : decode cX4_putEntry 64 = .ok (.iload 4, 2) := by decide +kernel
theorem dX4_putEntry_66 : decode cX4_putEntry 66 = .ok (.invokevirtual 67, 3) := by decide +kernel
theorem dX4_putEntry_69 : decode cX4_putEntry 69 = .ok (.return_, 1) := by decide +kernel
theorem dX5_init_0 : decode cX5_init 0 = .ok (.aload_n 0, 1) := by decide +kernel
theorem dX5_init_1 : decode cX5_init 1 = .ok (.invokespecial 1, 3) := by decide +kernel
theorem dX5_init_4 : decode cX5_init 4 = .ok (.aload_n 0, 1) := by decide +kernel
theorem dX5_init_5 : decode cX5_init 5 = .ok (.sipush 228, 3) := by decide +kernel
theorem dX5_init_8 : decode cX5_init 8 = .ok (.newarray .int, 2) := by decide +kernel
theorem dX5_init_10 : decode cX5_init 10 = .ok (.putfield 7, 3) := by decide +kernel
theorem dX5_init_13 : decode cX5_init 13 = .ok (.aload_n 0, 1) := by decide +kernel
theorem dX5_init_14 : decode cX5_init 14 = .ok (.sipush 684, 3) := by decide +kernel
theorem dX5_init_17 : decode cX5_init 17 = .ok (.newarray .int, 2) := by decide +kernel
theorem dX5_init_19 : decode cX5_init 19 = .ok (.putfield 13, 3) := by decide +kernel
theorem dX5_init_22 : decode cX5_init 22 = .ok (.aload_n 0, 1) := by decide +kernel
theorem dX5_init_23 : decode cX5_init 23 = .ok (.sipush 228, 3) := by decide +kernel
theorem dX5_init_26 : decode cX5_init 26 = .ok (.newarray .int, 2) := by decide +kernel
theorem dX5_init_28 : decode cX5_init 28 = .ok (.putfield 16, 3) := by decide +kernel
theorem dX5_init_31 : decode cX5_init 31 = .ok (.aload_n 0, 1) := by decide +kernel
theorem dX5_init_32 : decode cX5_init 32 = .ok (.iconst 2, 1) := by decide +kernel
theorem dX5_init_33 : decode cX5_init 33 = .ok (.newarray .boolean, 2) := by decide +kernel
theorem dX5_init_35 : decode cX5_init 35 = .ok (.putfield 19, 3) := by decide +kernel
theorem dX5_init_38 : decode cX5_init 38 = .ok (.aload_n 0, 1) := by decide +kernel
theorem dX5_init_39 : decode cX5_init 39 = .ok (.bipush 60, 2) := by decide +kernel
theorem dX5_init_41 : decode cX5_init 41 = .ok (.newarray .int, 2) := by decide +kernel
theorem dX5_init_43 : decode cX5_init 43 = .ok (.putfield 23, 3) := by decide +kernel
theorem dX5_init_46 : decode cX5_init 46 = .ok (.iconst 0, 1) := by decide +kernel
theorem dX5_init_47 : decode cX5_init 47 = .ok (.istore_n 1, 1) := by decide +kernel
theorem dX5_init_48 : decode cX5_init 48 = .ok (.iload_n 1, 1) := by decide +kernel
theorem dX5_init_49 : decode cX5_init 49 = .ok (.bipush 36, 2) := by decide +kernel
theorem dX5_init_51 : decode cX5_init 51 = .ok (.if_icmp .ge 19, 3) := by decide +kernel
theorem dX5_init_54 : decode cX5_init 54 = .ok (.aload_n 0, 1) := by decide +kernel
theorem dX5_init_55 : decode cX5_init 55 = .ok (.getfield 7, 3) := by decide +kernel
theorem dX5_init_58 : decode cX5_init 58 = .ok (.bipush 72, 2) := by decide +kernel
theorem dX5_init_60 : decode cX5_init 60 = .ok (.iload_n 1, 1) := by decide +kernel
theorem dX5_init_61 : decode cX5_init 61 = .ok (.iadd, 1) := by decide +kernel
theorem dX5_init_62 : decode cX5_init 62 = .ok (.iconst 1, 1) := by decide +kernel
theorem dX5_init_63 : decode cX5_init 63 = .ok (.iastore, 1) := by decide +kernel
theorem dX5_init_64 : decode cX5_init 64 = .ok (.iinc 1 1, 3) := by decide +kernel
theorem dX5_init_67 : decode cX5_init 67 = .ok (.goto (-19), 3) := by decide +kernel
theorem dX5_init_70 : decode cX5_init 70 = .ok (.return_, 1) := by decide +kernel
theorem dX5_thrown_0 : decode cX5_thrown 0 = .ok (.aload_n 0, 1) := by decide +kernel
theorem dX5_thrown_1 : decode cX5_thrown 1 = .ok (.getfield 26, 3) := by decide +kernel
theorem dX5_thrown_4 : decode cX5_thrown 4 = .ok (.ireturn, 1) := by decide +kernel
theorem dX5_throwsAt_0 : decode cX5_throwsAt 0 = .ok (.aload_n 0, 1) := by decide +kernel
theorem dX5_throwsAt_1 : decode cX5_throwsAt 1 = .ok (.iload_n 1, 1) := by decide +kernel
theorem dX5_throwsAt_2 : decode cX5_throwsAt 2 = .ok (.putfield 26, 3) := by decide +kernel
theorem dX5_throwsAt_5 : decode cX5_throwsAt 5 = .ok (.iload_n 1, 1) := by decide +kernel
theorem dX5_throwsAt_6 : decode cX5_throwsAt 6 = .ok (.ifCond .le 7, 3) := by decide +kernel
theorem dX5_throwsAt_9 : decode cX5_throwsAt 9 = .ok (.iconst 1, 1) := by decide +kernel
theorem dX5_throwsAt_10 : decode cX5_throwsAt 10 = .ok (.goto 4, 3) := by decide +kernel
theorem dX5_throwsAt_13 : decode cX5_throwsAt 13 = .ok (.iconst 0, 1) := by decide +kernel
theorem dX5_throwsAt_14 : decode cX5_throwsAt 14 = .ok (.ireturn, 1) := by decide +kernel
theorem dX5_in_0 : decode cX5_in 0 = .ok (.iload_n 0, 1) := by decide +kernel
theorem dX5_in_1 : decode cX5_in 1 = .ok (.iload_n 1, 1) := by decide +kernel
theorem dX5_in_2 : decode cX5_in 2 = .ok (.if_icmp .lt 12, 3) := by decide +kernel
theorem dX5_in_5 : decode cX5_in 5 = .ok (.iload_n 0, 1) := by decide +kernel
theorem dX5_in_6 : decode cX5_in 6 = .ok (.iload_n 2, 1) := by decide +kernel
theorem dX5_in_7 : decode cX5_in 7 = .ok (.if_icmp .gt 7, 3) := by decide +kernel
theorem dX5_in_10 : decode cX5_in 10 = .ok (.iconst 1, 1) := by decide +kernel
theorem dX5_in_11 : decode cX5_in 11 = .ok (.goto 4, 3) := by decide +kernel
theorem dX5_in_14 : decode cX5_in 14 = .ok (.iconst 0, 1) := by decide +kernel
theorem dX5_in_15 : decode cX5_in 15 = .ok (.ireturn, 1) := by decide +kernel
set_option maxRecDepth 20000 in
theorem ggX5_isSquare_X5_in : GoodIn wsX5_isSquare wsX5_in := goodIn_r _ [4] (by decide +kernel) (by decide +kernel)
set_option maxRecDepth 20000 in
theorem gX5_isSquare_X5_in : GoodIn wsX5_isSquare (va_wsS RX5 30 yX5_in wsX5_in) := goodIn_app (goodIn_of _ (by decide +kernel)) ggX5_isSquare_X5_in
theorem dX5_isSquare_0 : decode cX5_isSquare 0 = .ok (.iload_n 0, 1) := by decide +kernel
theorem dX5_isSquare_1 : decode cX5_isSquare 1 = .ok (.iconst 0, 1) := by decide +kernel
theorem dX5_isSquare_2 : decode cX5_isSquare 2 = .ok (.bipush 35, 2) := by decide +kernel
theorem dX5_isSquare_4 : decode cX5_isSquare 4 = .ok (.invokestatic 30, 3) := by decide +kernel
theorem dX5_isSquare_7 : decode cX5_isSquare 7 = .ok (.ireturn, 1) := by decide +kernel
theorem dX5_saves_0 : decode cX5_saves 0 = .ok (.aload_n 0, 1) := by decide +kernel
theorem dX5_saves_1 : decode cX5_saves 1 = .ok (.getfield 34, 3) := by decide +kernel
theorem dX5_saves_4 : decode cX5_saves 4 = .ok (.bipush 6, 2) := by decide +kernel
theorem dX5_saves_6 : decode cX5_saves 6 = .ok (.if_icmp .ne 43, 3) := by decide +kernel
theorem dX5_saves_9 : decode cX5_saves 9 = .ok (.iconst 0, 1) := by decide +kernel
theorem dX5_saves_10 : decode cX5_saves 10 = .ok (.istore_n 1, 1) := by decide +kernel
theorem dX5_saves_11 : decode cX5_saves 11 = .ok (.iload_n 1, 1) := by decide +kernel
theorem dX5_saves_12 : decode cX5_saves 12 = .ok (.sipush 570, 3) := by decide +kernel
theorem dX5_saves_15 : decode cX5_saves 15 = .ok (.if_icmp .ge 24, 3) := by decide +kernel
theorem dX5_saves_18 : decode cX5_saves 18 = .ok (.aload_n 0, 1) := by decide +kernel
theorem dX5_saves_19 : decode cX5_saves 19 = .ok (.getfield 13, 3) := by decide +kernel
theorem dX5_saves_22 : decode cX5_saves 22 = .ok (.iload_n 1, 1) := by decide +kernel
theorem dX5_saves_23 : decode cX5_saves 23 = .ok (.aload_n 0, 1) := by decide +kernel
theorem dX5_saves_24 : decode cX5_saves 24 = .ok (.getfield 13, 3) := by decide +kernel
theorem dX5_saves_27 : decode cX5_saves 27 = .ok (.bipush 114, 2) := by decide +kernel
theorem dX5_saves_29 : decode cX5_saves 29 = .ok (.iload_n 1, 1) := by decide +kernel
theorem dX5_saves_30 : decode cX5_saves 30 = .ok (.iadd, 1) := by decide +kernel
theorem dX5_saves_31 : decode cX5_saves 31 = .ok (.iaload, 1) := by decide +kernel
theorem dX5_saves_32 : decode cX5_saves 32 = .ok (.iastore, 1) := by decide +kernel
theorem dX5_saves_33 : decode cX5_saves 33 = .ok (.iinc 1 1, 3) := by decide +kernel
theorem dX5_saves_36 : decode cX5_saves 36 = .ok (.goto (-25), 3) := by decide +kernel
theorem dX5_saves_39 : decode cX5_saves 39 = .ok (.aload_n 0, 1) := by decide +kernel
theorem dX5_saves_40 : decode cX5_saves 40 = .ok (.dup, 1) := by decide +kernel
theorem dX5_saves_41 : decode cX5_saves 41 = .ok (.getfield 34, 3) := by decide +kernel
theorem dX5_saves_44 : decode cX5_saves 44 = .ok (.iconst 1, 1) := by decide +kernel
theorem dX5_saves_45 : decode cX5_saves 45 = .ok (.isub, 1) := by decide +kernel
theorem dX5_saves_46 : decode cX5_saves 46 = .ok (.putfield 34, 3) := by decide +kernel
theorem dX5_saves_49 : decode cX5_saves 49 = .ok (.iconst 0, 1) := by decide +kernel
theorem dX5_saves_50 : decode cX5_saves 50 = .ok (.istore_n 1, 1) := by decide +kernel
theorem dX5_saves_51 : decode cX5_saves 51 = .ok (.iload_n 1, 1) := by decide +kernel
theorem dX5_saves_52 : decode cX5_saves 52 = .ok (.bipush 114, 2) := by decide +kernel
theorem dX5_saves_54 : decode cX5_saves 54 = .ok (.if_icmp .ge 29, 3) := by decide +kernel
theorem dX5_saves_57 : decode cX5_saves 57 = .ok (.aload_n 0, 1) := by decide +kernel
theorem dX5_saves_58 : decode cX5_saves 58 = .ok (.getfield 13, 3) := by decide +kernel
theorem dX5_saves_61 : decode cX5_saves 61 = .ok (.bipush 114, 2) := by decide +kernel
theorem dX5_saves_63 : decode cX5_saves 63 = .ok (.aload_n 0, 1) := by decide +kernel
theorem dX5_saves_64 : decode cX5_saves 64 = .ok (.getfield 34, 3) := by decide +kernel
theorem dX5_saves_67 : decode cX5_saves 67 = .ok (.imul, 1) := by decide +kernel
theorem dX5_saves_68 : decode cX5_saves 68 = .ok (.iload_n 1, 1) := by decide +kernel
theorem dX5_saves_69 : decode cX5_saves 69 = .ok (.iadd, 1) := by decide +kernel
theorem dX5_saves_70 : decode cX5_saves 70 = .ok (.aload_n 0, 1) := by decide +kernel
theorem dX5_saves_71 : decode cX5_saves 71 = .ok (.getfield 7, 3) := by decide +kernel
theorem dX5_saves_74 : decode cX5_saves 74 = .ok (.iload_n 1, 1) := by decide +kernel
theorem dX5_saves_75 : decode cX5_saves 75 = .ok (.iaload, 1) := by decide +kernel
theorem dX5_saves_76 : decode cX5_saves 76 = .ok (.iastore, 1) := by decide +kernel
theorem dX5_saves_77 : decode cX5_saves 77 = .ok (.iinc 1 1, 3) := by decide +kernel
theorem dX5_saves_80 : decode cX5_saves 80 = .ok (.goto (-29), 3) := by decide +kernel
theorem dX5_saves_83 : decode cX5_saves 83 = .ok (.aload_n 0, 1) := by decide +kernel
theorem dX5_saves_84 : decode cX5_saves 84 = .ok (.dup, 1) := by decide +kernel
theorem dX5_saves_85 : decode cX5_saves 85 = .ok (.getfield 34, 3) := by decide +kernel
theorem dX5_saves_88 : decode cX5_saves 88 = .ok (.iconst 1, 1) := by decide +kernel
theorem dX5_saves_89 : decode cX5_saves 89 = .ok (.iadd, 1) := by decide +kernel
theorem dX5_saves_90 : decode cX5_saves 90 = .ok (.putfield 34, 3) := by decide +kernel
theorem dX5_saves_93 : decode cX5_saves 93 = .ok (.return_, 1) := by decide +kernel
theorem dX5_copies_0 : decode cX5_copies 0 = .ok (.iconst 0, 1) := by decide +kernel
theorem dX5_copies_1 : decode cX5_copies 1 = .ok (.istore_n 1, 1) := by decide +kernel
theorem dX5_copies_2 : decode cX5_copies 2 = .ok (.iload_n 1, 1) := by decide +kernel
theorem dX5_copies_3 : decode cX5_copies 3 = .ok (.bipush 114, 2) := by decide +kernel
theorem dX5_copies_5 : decode cX5_copies 5 = .ok (.if_icmp .ge 24, 3) := by decide +kernel
theorem dX5_copies_8 : decode cX5_copies 8 = .ok (.aload_n 0, 1) := by decide +kernel
theorem dX5_copies_9 : decode cX5_copies 9 = .ok (.getfield 7, 3) := by decide +kernel
theorem dX5_copies_12 : decode cX5_copies 12 = .ok (.bipush 114, 2) := by decide +kernel
theorem dX5_copies_14 : decode cX5_copies 14 = .ok (.iload_n 1, 1) := by decide +kernel
theorem dX5_copies_15 : decode cX5_copies 15 = .ok (.iadd, 1) := by decide +kernel
theorem dX5_copies_16 : decode cX5_copies 16 = .ok (.aload_n 0, 1) := by decide +kernel
theorem dX5_copies_17 : decode cX5_copies 17 = .ok (.getfield 7, 3) := by decide +kernel
theorem dX5_copies_20 : decode cX5_copies 20 = .ok (.iload_n 1, 1) := by decide +kernel
theorem dX5_copies_21 : decode cX5_copies 21 = .ok (.iaload, 1) := by decide +kernel
theorem dX5_copies_22 : decode cX5_copies 22 = .ok (.iastore, 1) := by decide +kernel
theorem dX5_copies_23 : decode cX5_copies 23 = .ok (.iinc 1 1, 3) := by decide +kernel
theorem dX5_copies_26 : decode cX5_copies 26 = .ok (.goto (-24), 3) := by decide +kernel
theorem dX5_copies_29 : decode cX5_copies 29 = .ok (.return_, 1) := by decide +kernel
theorem dX5_sideAt_0 : decode cX5_sideAt 0 = .ok (.iload_n 0, 1) := by decide +kernel
theorem dX5_sideAt_1 : decode cX5_sideAt 1 = .ok (.iconst 3, 1) := by decide +kernel
theorem dX5_sideAt_2 : decode cX5_sideAt 2 = .ok (.idiv, 1) := by decide +kernel
theorem dX5_sideAt_3 : decode cX5_sideAt 3 = .ok (.ireturn, 1) := by decide +kernel
theorem dX5_steepnessAt_0 : decode cX5_steepnessAt 0 = .ok (.iload_n 0, 1) := by decide +kernel
theorem dX5_steepnessAt_1 : decode cX5_steepnessAt 1 = .ok (.iconst 3, 1) := by decide +kernel
theorem dX5_steepnessAt_2 : decode cX5_steepnessAt 2 = .ok (.irem, 1) := by decide +kernel
theorem dX5_steepnessAt_3 : decode cX5_steepnessAt 3 = .ok (.ifCond .ne 7, 3) := by decide +kernel
theorem dX5_steepnessAt_6 : decode cX5_steepnessAt 6 = .ok (.iconst 1, 1) := by decide +kernel
theorem dX5_steepnessAt_7 : decode cX5_steepnessAt 7 = .ok (.goto 15, 3) := by decide +kernel
theorem dX5_steepnessAt_10 : decode cX5_steepnessAt 10 = .ok (.iload_n 0, 1) := by decide +kernel
theorem dX5_steepnessAt_11 : decode cX5_steepnessAt 11 = .ok (.iconst 3, 1) := by decide +kernel
theorem dX5_steepnessAt_12 : decode cX5_steepnessAt 12 = .ok (.irem, 1) := by decide +kernel
theorem dX5_steepnessAt_13 : decode cX5_steepnessAt 13 = .ok (.iconst 1, 1) := by decide +kernel
theorem dX5_steepnessAt_14 : decode cX5_steepnessAt 14 = .ok (.if_icmp .ne 7, 3) := by decide +kernel
theorem dX5_steepnessAt_17 : decode cX5_steepnessAt 17 = .ok (.iconst 3, 1) := by decide +kernel
theorem dX5_steepnessAt_18 : decode cX5_steepnessAt 18 = .ok (.goto 4, 3) := by decide +kernel
theorem dX5_steepnessAt_21 : decode cX5_steepnessAt 21 = .ok (.iconst 2, 1) := by decide +kernel
theorem dX5_steepnessAt_22 : decode cX5_steepnessAt 22 = .ok (.ireturn, 1) := by decide +kernel
theorem dX5_beside_0 : decode cX5_beside 0 = .ok (.iload_n 0, 1) := by decide +kernel
theorem dX5_beside_1 : decode cX5_beside 1 = .ok (.bipush 6, 2) := by decide +kernel
theorem dX5_beside_3 : decode cX5_beside 3 = .ok (.idiv, 1) := by decide +kernel
theorem dX5_beside_4 : decode cX5_beside 4 = .ok (.istore_n 2, 1) := by decide +kernel
theorem dX5_beside_5 : decode cX5_beside 5 = .ok (.iload_n 0, 1) := by decide +kernel
theorem dX5_beside_6 : decode cX5_beside 6 = .ok (.bipush 6, 2) := by decide +kernel
theorem dX5_beside_8 : decode cX5_beside 8 = .ok (.irem, 1) := by decide +kernel
theorem dX5_beside_9 : decode cX5_beside 9 = .ok (.istore_n 3, 1) := by decide +kernel
theorem dX5_beside_10 : decode cX5_beside 10 = .ok (.iload_n 1, 1) := by decide +kernel
theorem dX5_beside_11 : decode cX5_beside 11 = .ok (.tableswitch 64 0 2 #[25, 38, 52], 25) := by decide +kernel
theorem dX5_beside_36 : decode cX5_beside 36 = .ok (.iload_n 3, 1) := by decide +kernel
theorem dX5_beside_37 : decode cX5_beside 37 = .ok (.iconst 5, 1) := by decide +kernel
theorem dX5_beside_38 : decode cX5_beside 38 = .ok (.if_icmp .ge 9, 3) := by decide +kernel
theorem dX5_beside_41 : decode cX5_beside 41 = .ok (.iload_n 0, 1) := by decide +kernel
theorem dX5_beside_42 : decode cX5_beside 42 = .ok (.iconst 1, 1) := by decide +kernel
theorem dX5_beside_43 : decode cX5_beside 43 = .ok (.iadd, 1) := by decide +kernel
theorem dX5_beside_44 : decode cX5_beside 44 = .ok (.goto 4, 3) := by decide +kernel
theorem dX5_beside_47 : decode cX5_beside 47 = .ok (.iconst (-1), 1) := by decide +kernel
theorem dX5_beside_48 : decode cX5_beside 48 = .ok (.ireturn, 1) := by decide +kernel
theorem dX5_beside_49 : decode cX5_beside 49 = .ok (.iload_n 2, 1) := by decide +kernel
theorem dX5_beside_50 : decode cX5_beside 50 = .ok (.iconst 5, 1) := by decide +kernel
theorem dX5_beside_51 : decode cX5_beside 51 = .ok (.if_icmp .ge 10, 3) := by decide +kernel
theorem dX5_beside_54 : decode cX5_beside 54 = .ok (.iload_n 0, 1) := by decide +kernel
theorem dX5_beside_55 : decode cX5_beside 55 = .ok (.bipush 6, 2) := by decide +kernel
theorem dX5_beside_57 : decode cX5_beside 57 = .ok (.iadd, 1) := by decide +kernel
theorem dX5_beside_58 : decode cX5_beside 58 = .ok (.goto 4, 3) := by decide +kernel
theorem dX5_beside_61 : decode cX5_beside 61 = .ok (.iconst (-1), 1) := by decide +kernel
theorem dX5_beside_62 : decode cX5_beside 62 = .ok (.ireturn, 1) := by decide +kernel
theorem dX5_beside_63 : decode cX5_beside 63 = .ok (.iload_n 3, 1) := by decide +kernel
theorem dX5_beside_64 : decode cX5_beside 64 = .ok (.ifCond .le 9, 3) := by decide +kernel
theorem dX5_beside_67 : decode cX5_beside 67 = .ok (.iload_n 0, 1) := by decide +kernel
theorem dX5_beside_68 : decode cX5_beside 68 = .ok (.iconst 1, 1) := by decide +kernel
theorem dX5_beside_69 : decode cX5_beside 69 = .ok (.isub, 1) := by decide +kernel
theorem dX5_beside_70 : decode cX5_beside 70 = .ok (.goto 4, 3) := by decide +kernel
theorem dX5_beside_73 : decode cX5_beside 73 = .ok (.iconst (-1), 1) := by decide +kernel
theorem dX5_beside_74 : decode cX5_beside 74 = .ok (.ireturn, 1) := by decide +kernel
theorem dX5_beside_75 : decode cX5_beside 75 = .ok (.iload_n 2, 1) := by decide +kernel
theorem dX5_beside_76 : decode cX5_beside 76 = .ok (.ifCond .le 10, 3) := by decide +kernel
theorem dX5_beside_79 : decode cX5_beside 79 = .ok (.iload_n 0, 1) := by decide +kernel
theorem dX5_beside_80 : decode cX5_beside 80 = .ok (.bipush 6, 2) := by decide +kernel
theorem dX5_beside_82 : decode cX5_beside 82 = .ok (.isub, 1) := by decide +kernel
theorem dX5_beside_83 : decode cX5_beside 83 = .ok (.goto 4, 3) := by decide +kernel
theorem dX5_beside_86 : decode cX5_beside 86 = .ok (.iconst (-1), 1) := by decide +kernel
theorem dX5_beside_87 : decode cX5_beside 87 = .ok (.ireturn, 1) := by decide +kernel
set_option maxRecDepth 20000 in
theorem ggX5_distance_X5_beside : GoodIn wsX5_distance wsX5_beside := goodIn_r _ [4] (by decide +kernel) (by decide +kernel)
set_option maxRecDepth 20000 in
theorem gX5_distance_X5_beside : GoodIn wsX5_distance (va_wsS RX5 37 yX5_beside wsX5_beside) := goodIn_app (goodIn_of _ (by decide +kernel)) ggX5_distance_X5_beside
theorem dX5_distance_0 : decode cX5_distance 0 = .ok (.iconst 1, 1) := by decide +kernel
theorem dX5_distance_1 : decode cX5_distance 1 = .ok (.istore_n 3, 1) := by decide +kernel
theorem dX5_distance_2 : decode cX5_distance 2 = .ok (.iload_n 1, 1) := by decide +kernel
theorem dX5_distance_3 : decode cX5_distance 3 = .ok (.iload_n 2, 1) := by decide +kernel
theorem dX5_distance_4 : decode cX5_distance 4 = .ok (.invokestatic 37, 3) := by decide +kernel
theorem dX5_distance_7 : decode cX5_distance 7 = .ok (.istore 4, 2) := by decide +kernel
theorem dX5_distance_9 : decode cX5_distance 9 = .ok (.iload 4, 2) := by decide +kernel
theorem dX5_distance_11 : decode cX5_distance 11 = .ok (.ifCond .lt 23, 3) := by decide +kernel
theorem dX5_distance_14 : decode cX5_distance 14 = .ok (.iload 4, 2) := by decide +kernel
theorem dX5_distance_16 : decode cX5_distance 16 = .ok (.iload_n 0, 1) := by decide +kernel
theorem dX5_distance_17 : decode cX5_distance 17 = .ok (.if_icmp .eq 17, 3) := by decide +kernel
theorem dX5_distance_20 : decode cX5_distance 20 = .ok (.iload 4, 2) := by decide +kernel
theorem dX5_distance_22 : decode cX5_distance 22 = .ok (.iload_n 2, 1) := by decide +kernel
theorem dX5_distance_23 : decode cX5_distance 23 = .ok (.invokestatic 37, 3) := by decide +kernel
theorem dX5_distance_26 : decode cX5_distance 26 = .ok (.istore 4, 2) := by decide +kernel
theorem dX5_distance_28 : decode cX5_distance 28 = .ok (.iinc 3 1, 3) := by decide +kernel
theorem dX5_distance_31 : decode cX5_distance 31 = .ok (.goto (-22), 3) := by decide +kernel
theorem dX5_distance_34 : decode cX5_distance 34 = .ok (.iload 4, 2) := by decide +kernel
theorem dX5_distance_36 : decode cX5_distance 36 = .ok (.ifCond .ge 7, 3) := by decide +kernel
theorem dX5_distance_39 : decode cX5_distance 39 = .ok (.iconst 0, 1) := by decide +kernel
theorem dX5_distance_40 : decode cX5_distance 40 = .ok (.goto 4, 3) := by decide +kernel
theorem dX5_distance_43 : decode cX5_distance 43 = .ok (.iload_n 3, 1) := by decide +kernel
theorem dX5_distance_44 : decode cX5_distance 44 = .ok (.ireturn, 1) := by decide +kernel
set_option maxRecDepth 20000 in
theorem ggX5_shades_X5_sideAt : GoodIn wsX5_shades wsX5_sideAt := goodIn_r _ [5] (by decide +kernel) (by decide +kernel)
set_option maxRecDepth 20000 in
theorem gX5_shades_X5_sideAt : GoodIn wsX5_shades (va_wsS RX5 41 yX5_sideAt wsX5_sideAt) := goodIn_app (goodIn_of _ (by decide +kernel)) ggX5_shades_X5_sideAt
set_option maxRecDepth 20000 in
theorem ggX5_shades_X5_distance : GoodIn wsX5_shades wsX5_distance := goodIn_r _ [8, 9, 10, 4, 11] (by decide +kernel) (by decide +kernel)
set_option maxRecDepth 20000 in
theorem gX5_shades_X5_distance : GoodIn wsX5_shades (va_wsS RX5 45 yX5_distance wsX5_distance) := goodIn_app (goodIn_of _ (by decide +kernel)) ggX5_shades_X5_distance
set_option maxRecDepth 20000 in
theorem ggX5_shades_X5_steepnessAt : GoodIn wsX5_shades wsX5_steepnessAt := goodIn_r _ [14] (by decide +kernel) (by decide +kernel)
set_option maxRecDepth 20000 in
theorem gX5_shades_X5_steepnessAt : GoodIn wsX5_shades (va_wsS RX5 49 yX5_steepnessAt wsX5_steepnessAt) := goodIn_app (goodIn_of _ (by decide +kernel)) ggX5_shades_X5_steepnessAt
theorem dX5_shades_0 : decode cX5_shades 0 = .ok (.iload_n 2, 1) := by decide +kernel
theorem dX5_shades_1 : decode cX5_shades 1 = .ok (.iload_n 3, 1) := by decide +kernel
theorem dX5_shades_2 : decode cX5_shades 2 = .ok (.iload 4, 2) := by decide +kernel
theorem dX5_shades_4 : decode cX5_shades 4 = .ok (.invokestatic 41, 3) := by decide +kernel
theorem dX5_shades_7 : decode cX5_shades 7 = .ok (.invokestatic 45, 3) := by decide +kernel
theorem dX5_shades_10 : decode cX5_shades 10 = .ok (.istore 5, 2) := by decide +kernel
theorem dX5_shades_12 : decode cX5_shades 12 = .ok (.iload 5, 2) := by decide +kernel
theorem dX5_shades_14 : decode cX5_shades 14 = .ok (.ifCond .le 39, 3) := by decide +kernel
theorem dX5_shades_17 : decode cX5_shades 17 = .ok (.aload_n 0, 1) := by decide +kernel
theorem dX5_shades_18 : decode cX5_shades 18 = .ok (.getfield 7, 3) := by decide +kernel
theorem dX5_shades_21 : decode cX5_shades 21 = .ok (.iload_n 1, 1) := by decide +kernel
theorem dX5_shades_22 : decode cX5_shades 22 = .ok (.iconst 0, 1) := by decide +kernel
theorem dX5_shades_23 : decode cX5_shades 23 = .ok (.iadd, 1) := by decide +kernel
theorem dX5_shades_24 : decode cX5_shades 24 = .ok (.iload_n 2, 1) := by decide +kernel
theorem dX5_shades_25 : decode cX5_shades 25 = .ok (.iadd, 1) := by decide +kernel
theorem dX5_shades_26 : decode cX5_shades 26 = .ok (.iaload, 1) := by decide +kernel
theorem dX5_shades_27 : decode cX5_shades 27 = .ok (.iload 5, 2) := by decide +kernel
theorem dX5_shades_29 : decode cX5_shades 29 = .ok (.iload 4, 2) := by decide +kernel
theorem dX5_shades_31 : decode cX5_shades 31 = .ok (.invokestatic 49, 3) := by decide +kernel
theorem dX5_shades_34 : decode cX5_shades 34 = .ok (.imul, 1) := by decide +kernel
theorem dX5_shades_35 : decode cX5_shades 35 = .ok (.isub, 1) := by decide +kernel
theorem dX5_shades_36 : decode cX5_shades 36 = .ok (.aload_n 0, 1) := by decide +kernel
theorem dX5_shades_37 : decode cX5_shades 37 = .ok (.getfield 7, 3) := by decide +kernel
theorem dX5_shades_40 : decode cX5_shades 40 = .ok (.iload_n 1, 1) := by decide +kernel
theorem dX5_shades_41 : decode cX5_shades 41 = .ok (.iconst 0, 1) := by decide +kernel
theorem dX5_shades_42 : decode cX5_shades 42 = .ok (.iadd, 1) := by decide +kernel
theorem dX5_shades_43 : decode cX5_shades 43 = .ok (.iload_n 3, 1) := by decide +kernel
theorem dX5_shades_44 : decode cX5_shades 44 = .ok (.iadd, 1) := by decide +kernel
theorem dX5_shades_45 : decode cX5_shades 45 = .ok (.iaload, 1) := by decide +kernel
theorem dX5_shades_46 : decode cX5_shades 46 = .ok (.if_icmp .le 7, 3) := by decide +kernel
theorem dX5_shades_49 : decode cX5_shades 49 = .ok (.iconst 1, 1) := by decide +kernel
theorem dX5_shades_50 : decode cX5_shades 50 = .ok (.goto 4, 3) := by decide +kernel
theorem dX5_shades_53 : decode cX5_shades 53 = .ok (.iconst 0, 1) := by decide +kernel
theorem dX5_shades_54 : decode cX5_shades 54 = .ok (.ireturn, 1) := by decide +kernel
set_option maxRecDepth 20000 in
theorem ggX5_shadersOf_X5_sideAt : GoodIn wsX5_shadersOf wsX5_sideAt := goodIn_r _ [4] (by decide +kernel) (by decide +kernel)
set_option maxRecDepth 20000 in
theorem gX5_shadersOf_X5_sideAt : GoodIn wsX5_shadersOf (va_wsS RX5 41 yX5_sideAt wsX5_sideAt) := goodIn_app (goodIn_of _ (by decide +kernel)) ggX5_shadersOf_X5_sideAt
set_option maxRecDepth 20000 in
theorem ggX5_shadersOf_X5_beside : GoodIn wsX5_shadersOf wsX5_beside := goodIn_r _ [7] (by decide +kernel) (by decide +kernel)
set_option maxRecDepth 20000 in
theorem gX5_shadersOf_X5_beside : GoodIn wsX5_shadersOf (va_wsS RX5 37 yX5_beside wsX5_beside) := goodIn_app (goodIn_of _ (by decide +kernel)) ggX5_shadersOf_X5_beside
set_option maxRecDepth 20000 in
theorem ggX5_shadersOf_X5_shades : GoodIn wsX5_shadersOf wsX5_shades := goodIn_r _ [11, 12, 1, 2, 3, 4, 13, 14, 15, 5, 6, 7, 16, 17, 18, 19, 20, 21, 22, 23, 24, 25, 26, 27] (by decide +kernel) (by decide +kernel)
set_option maxRecDepth 20000 in
theorem gX5_shadersOf_X5_shades : GoodIn wsX5_shadersOf (wsV RX5 52 RX5 yX5_shades wsX5_shades) := goodIn_app (goodIn_of _ (by decide +kernel)) ggX5_shadersOf_X5_shades
theorem dX5_shadersOf_0 : decode cX5_shadersOf 0 = .ok (.iconst 0, 1) := by decide +kernel
theorem dX5_shadersOf_1 : decode cX5_shadersOf 1 = .ok (.istore 4, 2) := by decide +kernel
theorem dX5_shadersOf_3 : decode cX5_shadersOf 3 = .ok (.iload_n 2, 1) := by decide +kernel
theorem dX5_shadersOf_4 : decode cX5_shadersOf 4 = .ok (.iload_n 3, 1) := by decide +kernel
theorem dX5_shadersOf_5 : decode cX5_shadersOf 5 = .ok (.invokestatic 41, 3) := by decide +kernel
theorem dX5_shadersOf_8 : decode cX5_shadersOf 8 = .ok (.invokestatic 37, 3) := by decide +kernel
theorem dX5_shadersOf_11 : decode cX5_shadersOf 11 = .ok (.istore 5, 2) := by decide +kernel
theorem dX5_shadersOf_13 : decode cX5_shadersOf 13 = .ok (.iload 5, 2) := by decide +kernel
theorem dX5_shadersOf_15 : decode cX5_shadersOf 15 = .ok (.ifCond .lt 39, 3) := by decide +kernel
theorem dX5_shadersOf_18 : decode cX5_shadersOf 18 = .ok (.iload 4, 2) := by decide +kernel
theorem dX5_shadersOf_20 : decode cX5_shadersOf 20 = .ok (.aload_n 0, 1) := by decide +kernel
theorem dX5_shadersOf_21 : decode cX5_shadersOf 21 = .ok (.iload_n 1, 1) := by decide +kernel
theorem dX5_shadersOf_22 : decode cX5_shadersOf 22 = .ok (.iload 5, 2) := by decide +kernel
theorem dX5_shadersOf_24 : decode cX5_shadersOf 24 = .ok (.iload_n 2, 1) := by decide +kernel
theorem dX5_shadersOf_25 : decode cX5_shadersOf 25 = .ok (.iload_n 3, 1) := by decide +kernel
theorem dX5_shadersOf_26 : decode cX5_shadersOf 26 = .ok (.invokevirtual 52, 3) := by decide +kernel
theorem dX5_shadersOf_29 : decode cX5_shadersOf 29 = .ok (.ifCond .eq 7, 3) := by decide +kernel
theorem dX5_shadersOf_32 : decode cX5_shadersOf 32 = .ok (.iconst 1, 1) := by decide +kernel
theorem dX5_shadersOf_33 : decode cX5_shadersOf 33 = .ok (.goto 4, 3) := by decide +kernel
theorem dX5_shadersOf_36 : decode cX5_shadersOf 36 = .ok (.iconst 0, 1) := by decide +kernel
theorem dX5_shadersOf_37 : decode cX5_shadersOf 37 = .ok (.iadd, 1) := by decide +kernel
theorem dX5_shadersOf_38 : decode cX5_shadersOf 38 = .ok (.istore 4, 2) := by decide +kernel
theorem dX5_shadersOf_40 : decode cX5_shadersOf 40 = .ok (.iload 5, 2) := by decide +kernel
theorem dX5_shadersOf_42 : decode cX5_shadersOf 42 = .ok (.iload_n 3, 1) := by decide +kernel
theorem dX5_shadersOf_43 : decode cX5_shadersOf 43 = .ok (.invokestatic 41, 3) := by decide +kernel
theorem dX5_shadersOf_46 : decode cX5_shadersOf 46 = .ok (.invokestatic 37, 3) := by decide +kernel
theorem dX5_shadersOf_49 : decode cX5_shadersOf 49 = .ok (.istore 5, 2) := by decide +kernel
theorem dX5_shadersOf_51 : decode cX5_shadersOf 51 = .ok (.goto (-38), 3) := by decide +kernel
theorem dX5_shadersOf_54 : decode cX5_shadersOf 54 = .ok (.iload 4, 2) := by decide +kernel
theorem dX5_shadersOf_56 : decode cX5_shadersOf 56 = .ok (.ireturn, 1) := by decide +kernel
set_option maxRecDepth 20000 in
theorem ggX5_isDark_X5_shadersOf : GoodIn wsX5_isDark wsX5_shadersOf := goodIn_r _ [5, 6, 7, 4, 8, 9, 10, 11, 12, 13, 14, 15, 16, 17, 18, 19, 20, 21, 22, 23, 24, 25, 26, 27, 28, 29, 30, 31] (by decide +kernel) (by decide +kernel)
set_option maxRecDepth 20000 in
theorem gX5_isDark_X5_shadersOf : GoodIn wsX5_isDark (wsV RX5 56 RX5 yX5_shadersOf wsX5_shadersOf) := goodIn_app (goodIn_of _ (by decide +kernel)) ggX5_isDark_X5_shadersOf
theorem dX5_isDark_0 : decode cX5_isDark 0 = .ok (.aload_n 0, 1) := by decide +kernel
theorem dX5_isDark_1 : decode cX5_isDark 1 = .ok (.iload_n 1, 1) := by decide +kernel
theorem dX5_isDark_2 : decode cX5_isDark 2 = .ok (.iload_n 2, 1) := by decide +kernel
theorem dX5_isDark_3 : decode cX5_isDark 3 = .ok (.iload_n 3, 1) := by decide +kernel
theorem dX5_isDark_4 : decode cX5_isDark 4 = .ok (.invokevirtual 56, 3) := by decide +kernel
theorem dX5_isDark_7 : decode cX5_isDark 7 = .ok (.ifCond .le 7, 3) := by decide +kernel
theorem dX5_isDark_10 : decode cX5_isDark 10 = .ok (.iconst 1, 1) := by decide +kernel
theorem dX5_isDark_11 : decode cX5_isDark 11 = .ok (.goto 4, 3) := by decide +kernel
theorem dX5_isDark_14 : decode cX5_isDark 14 = .ok (.iconst 0, 1) := by decide +kernel
theorem dX5_isDark_15 : decode cX5_isDark 15 = .ok (.ireturn, 1) := by decide +kernel
set_option maxRecDepth 20000 in
theorem ggX5_isSwept_X5_sideAt : GoodIn wsX5_isSwept wsX5_sideAt := goodIn_r _ [5] (by decide +kernel) (by decide +kernel)
set_option maxRecDepth 20000 in
theorem gX5_isSwept_X5_sideAt : GoodIn wsX5_isSwept (va_wsS RX5 41 yX5_sideAt wsX5_sideAt) := goodIn_app (goodIn_of _ (by decide +kernel)) ggX5_isSwept_X5_sideAt
set_option maxRecDepth 20000 in
theorem ggX5_isSwept_X5_beside : GoodIn wsX5_isSwept wsX5_beside := goodIn_r _ [8] (by decide +kernel) (by decide +kernel)
set_option maxRecDepth 20000 in
theorem gX5_isSwept_X5_beside : GoodIn wsX5_isSwept (va_wsS RX5 37 yX5_beside wsX5_beside) := goodIn_app (goodIn_of _ (by decide +kernel)) ggX5_isSwept_X5_beside
set_option maxRecDepth 20000 in
theorem ggX5_isSwept_X5_steepnessAt : GoodIn wsX5_isSwept wsX5_steepnessAt := goodIn_r _ [11] (by decide +kernel) (by decide +kernel)
set_option maxRecDepth 20000 in
theorem gX5_isSwept_X5_steepnessAt : GoodIn wsX5_isSwept (va_wsS RX5 49 yX5_steepnessAt wsX5_steepnessAt) := goodIn_app (goodIn_of _ (by decide +kernel)) ggX5_isSwept_X5_steepnessAt
theorem dX5_isSwept_0 : decode cX5_isSwept 0 = .ok (.iload_n 2, 1) := by decide +kernel
theorem dX5_isSwept_1 : decode cX5_isSwept 1 = .ok (.invokestatic 41, 3) := by decide +kernel
theorem dX5_isSwept_4 : decode cX5_isSwept 4 = .ok (.istore_n 3, 1) := by decide +kernel
theorem dX5_isSwept_5 : decode cX5_isSwept 5 = .ok (.iload_n 1, 1) := by decide +kernel
theorem dX5_isSwept_6 : decode cX5_isSwept 6 = .ok (.istore 4, 2) := by decide +kernel
theorem dX5_isSwept_8 : decode cX5_isSwept 8 = .ok (.iload 4, 2) := by decide +kernel
theorem dX5_isSwept_10 : decode cX5_isSwept 10 = .ok (.iload_n 3, 1) := by decide +kernel
theorem dX5_isSwept_11 : decode cX5_isSwept 11 = .ok (.invokestatic 37, 3) := by decide +kernel
theorem dX5_isSwept_14 : decode cX5_isSwept 14 = .ok (.ifCond .lt 14, 3) := by decide +kernel
theorem dX5_isSwept_17 : decode cX5_isSwept 17 = .ok (.iload 4, 2) := by decide +kernel
theorem dX5_isSwept_19 : decode cX5_isSwept 19 = .ok (.iload_n 3, 1) := by decide +kernel
theorem dX5_isSwept_20 : decode cX5_isSwept 20 = .ok (.invokestatic 37, 3) := by decide +kernel
theorem dX5_isSwept_23 : decode cX5_isSwept 23 = .ok (.istore 4, 2) := by decide +kernel
theorem dX5_isSwept_25 : decode cX5_isSwept 25 = .ok (.goto (-17), 3) := by decide +kernel
theorem dX5_isSwept_28 : decode cX5_isSwept 28 = .ok (.iconst 0, 1) := by decide +kernel
theorem dX5_isSwept_29 : decode cX5_isSwept 29 = .ok (.istore 5, 2) := by decide +kernel
theorem dX5_isSwept_31 : decode cX5_isSwept 31 = .ok (.iload 4, 2) := by decide +kernel
theorem dX5_isSwept_33 : decode cX5_isSwept 33 = .ok (.iload_n 1, 1) := by decide +kernel
theorem dX5_isSwept_34 : decode cX5_isSwept 34 = .ok (.if_icmp .eq 50, 3) := by decide +kernel
theorem dX5_isSwept_37 : decode cX5_isSwept 37 = .ok (.aload_n 0, 1) := by decide +kernel
theorem dX5_isSwept_38 : decode cX5_isSwept 38 = .ok (.getfield 7, 3) := by decide +kernel
theorem dX5_isSwept_41 : decode cX5_isSwept 41 = .ok (.iconst 0, 1) := by decide +kernel
theorem dX5_isSwept_42 : decode cX5_isSwept 42 = .ok (.iload 4, 2) := by decide +kernel
theorem dX5_isSwept_44 : decode cX5_isSwept 44 = .ok (.iadd, 1) := by decide +kernel
theorem dX5_isSwept_45 : decode cX5_isSwept 45 = .ok (.iaload, 1) := by decide +kernel
theorem dX5_isSwept_46 : decode cX5_isSwept 46 = .ok (.istore 6, 2) := by decide +kernel
theorem dX5_isSwept_48 : decode cX5_isSwept 48 = .ok (.iload 6, 2) := by decide +kernel
theorem dX5_isSwept_50 : decode cX5_isSwept 50 = .ok (.iload 5, 2) := by decide +kernel
theorem dX5_isSwept_52 : decode cX5_isSwept 52 = .ok (.if_icmp .le 8, 3) := by decide +kernel
theorem dX5_isSwept_55 : decode cX5_isSwept 55 = .ok (.iload 6, 2) := by decide +kernel
theorem dX5_isSwept_57 : decode cX5_isSwept 57 = .ok (.goto 5, 3) := by decide +kernel
theorem dX5_isSwept_60 : decode cX5_isSwept 60 = .ok (.iload 5, 2) := by decide +kernel
theorem dX5_isSwept_62 : decode cX5_isSwept 62 = .ok (.iload_n 2, 1) := by decide +kernel
theorem dX5_isSwept_63 : decode cX5_isSwept 63 = .ok (.invokestatic 49, 3) := by decide +kernel
theorem dX5_isSwept_66 : decode cX5_isSwept 66 = .ok (.isub, 1) := by decide +kernel
theorem dX5_isSwept_67 : decode cX5_isSwept 67 = .ok (.istore 5, 2) := by decide +kernel
theorem dX5_isSwept_69 : decode cX5_isSwept 69 = .ok (.iload 4, 2) := by decide +kernel
theorem dX5_isSwept_71 : decode cX5_isSwept 71 = .ok (.iload_n 3, 1) := by decide +kernel
theorem dX5_isSwept_72 : decode cX5_isSwept 72 = .ok (.iconst 2, 1) := by decide +kernel
theorem dX5_isSwept_73 : decode cX5_isSwept 73 = .ok (.iadd, 1) := by decide +kernel
theorem dX5_isSwept_74 : decode cX5_isSwept 74 = .ok (.iconst 4, 1) := by decide +kernel
theorem dX5_isSwept_75 : decode cX5_isSwept 75 = .ok (.irem, 1) := by decide +kernel
theorem dX5_isSwept_76 : decode cX5_isSwept 76 = .ok (.invokestatic 37, 3) := by decide +kernel
theorem dX5_isSwept_79 : decode cX5_isSwept 79 = .ok (.istore 4, 2) := by decide +kernel
theorem dX5_isSwept_81 : decode cX5_isSwept 81 = .ok (.goto (-50), 3) := by decide +kernel
theorem dX5_isSwept_84 : decode cX5_isSwept 84 = .ok (.iload 5, 2) := by decide +kernel
theorem dX5_isSwept_86 : decode cX5_isSwept 86 = .ok (.aload_n 0, 1) := by decide +kernel
theorem dX5_isSwept_87 : decode cX5_isSwept 87 = .ok (.getfield 7, 3) := by decide +kernel
theorem dX5_isSwept_90 : decode cX5_isSwept 90 = .ok (.iconst 0, 1) := by decide +kernel
theorem dX5_isSwept_91 : decode cX5_isSwept 91 = .ok (.iload_n 1, 1) := by decide +kernel
theorem dX5_isSwept_92 : decode cX5_isSwept 92 = .ok (.iadd, 1) := by decide +kernel
theorem dX5_isSwept_93 : decode cX5_isSwept 93 = .ok (.iaload, 1) := by decide +kernel
theorem dX5_isSwept_94 : decode cX5_isSwept 94 = .ok (.if_icmp .le 7, 3) := by decide +kernel
theorem dX5_isSwept_97 : decode cX5_isSwept 97 = .ok (.iconst 1, 1) := by decide +kernel
theorem dX5_isSwept_98 : decode cX5_isSwept 98 = .ok (.goto 4, 3) := by decide +kernel
theorem dX5_isSwept_101 : decode cX5_isSwept 101 = .ok (.iconst 0, 1) := by decide +kernel
theorem dX5_isSwept_102 : decode cX5_isSwept 102 = .ok (.ireturn, 1) := by decide +kernel
set_option maxRecDepth 20000 in
theorem ggX5_shadedBy_X5_shades : GoodIn wsX5_shadedBy wsX5_shades := goodIn_r _ [6, 1, 7, 8, 5, 9, 10, 11, 12, 13, 14, 15, 16, 17, 18, 19, 20, 21, 22, 23, 24, 25, 26, 27] (by decide +kernel) (by decide +kernel)
set_option maxRecDepth 20000 in
theorem gX5_shadedBy_X5_shades : GoodIn wsX5_shadedBy (wsV RX5 52 RX5 yX5_shades wsX5_shades) := goodIn_app (goodIn_of _ (by decide +kernel)) ggX5_shadedBy_X5_shades
theorem dX5_shadedBy_0 : decode cX5_shadedBy 0 = .ok (.iconst 0, 1) := by decide +kernel
theorem dX5_shadedBy_1 : decode cX5_shadedBy 1 = .ok (.istore_n 2, 1) := by decide +kernel
theorem dX5_shadedBy_2 : decode cX5_shadedBy 2 = .ok (.iconst 0, 1) := by decide +kernel
theorem dX5_shadedBy_3 : decode cX5_shadedBy 3 = .ok (.istore_n 3, 1) := by decide +kernel
theorem dX5_shadedBy_4 : decode cX5_shadedBy 4 = .ok (.iload_n 3, 1) := by decide +kernel
theorem dX5_shadedBy_5 : decode cX5_shadedBy 5 = .ok (.bipush 36, 2) := by decide +kernel
theorem dX5_shadedBy_7 : decode cX5_shadedBy 7 = .ok (.if_icmp .ge 46, 3) := by decide +kernel
theorem dX5_shadedBy_10 : decode cX5_shadedBy 10 = .ok (.iload_n 2, 1) := by decide +kernel
theorem dX5_shadedBy_11 : decode cX5_shadedBy 11 = .ok (.aload_n 0, 1) := by decide +kernel
theorem dX5_shadedBy_12 : decode cX5_shadedBy 12 = .ok (.getfield 7, 3) := by decide +kernel
theorem dX5_shadedBy_15 : decode cX5_shadedBy 15 = .ok (.bipush 36, 2) := by decide +kernel
theorem dX5_shadedBy_17 : decode cX5_shadedBy 17 = .ok (.iload_n 1, 1) := by decide +kernel
theorem dX5_shadedBy_18 : decode cX5_shadedBy 18 = .ok (.iadd, 1) := by decide +kernel
theorem dX5_shadedBy_19 : decode cX5_shadedBy 19 = .ok (.iaload, 1) := by decide +kernel
theorem dX5_shadedBy_20 : decode cX5_shadedBy 20 = .ok (.ifCond .le 24, 3) := by decide +kernel
theorem dX5_shadedBy_23 : decode cX5_shadedBy 23 = .ok (.aload_n 0, 1) := by decide +kernel
theorem dX5_shadedBy_24 : decode cX5_shadedBy 24 = .ok (.iconst 0, 1) := by decide +kernel
theorem dX5_shadedBy_25 : decode cX5_shadedBy 25 = .ok (.iload_n 1, 1) := by decide +kernel
theorem dX5_shadedBy_26 : decode cX5_shadedBy 26 = .ok (.iload_n 3, 1) := by decide +kernel
theorem dX5_shadedBy_27 : decode cX5_shadedBy 27 = .ok (.aload_n 0, 1) := by decide +kernel
theorem dX5_shadedBy_28 : decode cX5_shadedBy 28 = .ok (.getfield 7, 3) := by decide +kernel
theorem dX5_shadedBy_31 : decode cX5_shadedBy 31 = .ok (.bipush 108, 2) := by decide +kernel
theorem dX5_shadedBy_33 : decode cX5_shadedBy 33 = .ok (.iaload, 1) := by decide +kernel
theorem dX5_shadedBy_34 : decode cX5_shadedBy 34 = .ok (.invokevirtual 52, 3) := by decide +kernel
theorem dX5_shadedBy_37 : decode cX5_shadedBy 37 = .ok (.ifCond .eq 7, 3) := by decide +kernel
theorem dX5_shadedBy_40 : decode cX5_shadedBy 40 = .ok (.iconst 1, 1) := by decide +kernel
theorem dX5_shadedBy_41 : decode cX5_shadedBy 41 = .ok (.goto 4, 3) := by decide +kernel
theorem dX5_shadedBy_44 : decode cX5_shadedBy 44 = .ok (.iconst 0, 1) := by decide +kernel
theorem dX5_shadedBy_45 : decode cX5_shadedBy 45 = .ok (.iadd, 1) := by decide +kernel
theorem dX5_shadedBy_46 : decode cX5_shadedBy 46 = .ok (.istore_n 2, 1) := by decide +kernel
theorem dX5_shadedBy_47 : decode cX5_shadedBy 47 = .ok (.iinc 3 1, 3) := by decide +kernel
theorem dX5_shadedBy_50 : decode cX5_shadedBy 50 = .ok (.goto (-46), 3) := by decide +kernel
theorem dX5_shadedBy_53 : decode cX5_shadedBy 53 = .ok (.iload_n 2, 1) := by decide +kernel
theorem dX5_shadedBy_54 : decode cX5_shadedBy 54 = .ok (.ireturn, 1) := by decide +kernel
set_option maxRecDepth 20000 in
theorem ggX5_darkHours_X5_isDark : GoodIn wsX5_darkHours wsX5_isDark := goodIn_r _ [5, 6, 7, 8, 4, 9, 10, 11, 12, 13, 14, 15, 16, 17, 18, 19, 20, 21, 22, 23, 24, 25, 26, 27, 28, 29, 30, 31, 32, 33, 34, 35] (by decide +kernel) (by decide +kernel)
set_option maxRecDepth 20000 in
theorem gX5_darkHours_X5_isDark : GoodIn wsX5_darkHours (wsV RX5 59 RX5 yX5_isDark wsX5_isDark) := goodIn_app (goodIn_of _ (by decide +kernel)) ggX5_darkHours_X5_isDark
theorem dX5_darkHours_0 : decode cX5_darkHours 0 = .ok (.iconst 0, 1) := by decide +kernel
theorem dX5_darkHours_1 : decode cX5_darkHours 1 = .ok (.istore_n 2, 1) := by decide +kernel
theorem dX5_darkHours_2 : decode cX5_darkHours 2 = .ok (.iconst 0, 1) := by decide +kernel
theorem dX5_darkHours_3 : decode cX5_darkHours 3 = .ok (.istore_n 3, 1) := by decide +kernel
theorem dX5_darkHours_4 : decode cX5_darkHours 4 = .ok (.iload_n 3, 1) := by decide +kernel
theorem dX5_darkHours_5 : decode cX5_darkHours 5 = .ok (.bipush 12, 2) := by decide +kernel
theorem dX5_darkHours_7 : decode cX5_darkHours 7 = .ok (.if_icmp .ge 29, 3) := by decide +kernel
theorem dX5_darkHours_10 : decode cX5_darkHours 10 = .ok (.iload_n 2, 1) := by decide +kernel
theorem dX5_darkHours_11 : decode cX5_darkHours 11 = .ok (.aload_n 0, 1) := by decide +kernel
theorem dX5_darkHours_12 : decode cX5_darkHours 12 = .ok (.iconst 0, 1) := by decide +kernel
theorem dX5_darkHours_13 : decode cX5_darkHours 13 = .ok (.iload_n 1, 1) := by decide +kernel
theorem dX5_darkHours_14 : decode cX5_darkHours 14 = .ok (.iload_n 3, 1) := by decide +kernel
theorem dX5_darkHours_15 : decode cX5_darkHours 15 = .ok (.invokevirtual 59, 3) := by decide +kernel
theorem dX5_darkHours_18 : decode cX5_darkHours 18 = .ok (.ifCond .eq 9, 3) := by decide +kernel
theorem dX5_darkHours_21 : decode cX5_darkHours 21 = .ok (.iconst 1, 1) := by decide +kernel
theorem dX5_darkHours_22 : decode cX5_darkHours 22 = .ok (.iload_n 3, 1) := by decide +kernel
theorem dX5_darkHours_23 : decode cX5_darkHours 23 = .ok (.ishl, 1) := by decide +kernel
theorem dX5_darkHours_24 : decode cX5_darkHours 24 = .ok (.goto 4, 3) := by decide +kernel
theorem dX5_darkHours_27 : decode cX5_darkHours 27 = .ok (.iconst 0, 1) := by decide +kernel
theorem dX5_darkHours_28 : decode cX5_darkHours 28 = .ok (.ior, 1) := by decide +kernel
theorem dX5_darkHours_29 : decode cX5_darkHours 29 = .ok (.istore_n 2, 1) := by decide +kernel
theorem dX5_darkHours_30 : decode cX5_darkHours 30 = .ok (.iinc 3 1, 3) := by decide +kernel
theorem dX5_darkHours_33 : decode cX5_darkHours 33 = .ok (.goto (-29), 3) := by decide +kernel
theorem dX5_darkHours_36 : decode cX5_darkHours 36 = .ok (.iload_n 2, 1) := by decide +kernel
theorem dX5_darkHours_37 : decode cX5_darkHours 37 = .ok (.ireturn, 1) := by decide +kernel
set_option maxRecDepth 20000 in
theorem ggX5_darkAt_X5_isDark : GoodIn wsX5_darkAt wsX5_isDark := goodIn_r _ [5, 6, 7, 8, 4, 9, 10, 11, 12, 13, 14, 15, 16, 17, 18, 19, 20, 21, 22, 23, 24, 25, 26, 27, 28, 29, 30, 31, 32, 33, 34, 35] (by decide +kernel) (by decide +kernel)
set_option maxRecDepth 20000 in
theorem gX5_darkAt_X5_isDark : GoodIn wsX5_darkAt (wsV RX5 59 RX5 yX5_isDark wsX5_isDark) := goodIn_app (goodIn_of _ (by decide +kernel)) ggX5_darkAt_X5_isDark
theorem dX5_darkAt_0 : decode cX5_darkAt 0 = .ok (.iconst 0, 1) := by decide +kernel
theorem dX5_darkAt_1 : decode cX5_darkAt 1 = .ok (.istore_n 2, 1) := by decide +kernel
theorem dX5_darkAt_2 : decode cX5_darkAt 2 = .ok (.iconst 0, 1) := by decide +kernel
theorem dX5_darkAt_3 : decode cX5_darkAt 3 = .ok (.istore_n 3, 1) := by decide +kernel
theorem dX5_darkAt_4 : decode cX5_darkAt 4 = .ok (.iload_n 3, 1) := by decide +kernel
theorem dX5_darkAt_5 : decode cX5_darkAt 5 = .ok (.bipush 36, 2) := by decide +kernel
theorem dX5_darkAt_7 : decode cX5_darkAt 7 = .ok (.if_icmp .ge 27, 3) := by decide +kernel
theorem dX5_darkAt_10 : decode cX5_darkAt 10 = .ok (.iload_n 2, 1) := by decide +kernel
theorem dX5_darkAt_11 : decode cX5_darkAt 11 = .ok (.aload_n 0, 1) := by decide +kernel
theorem dX5_darkAt_12 : decode cX5_darkAt 12 = .ok (.iconst 0, 1) := by decide +kernel
theorem dX5_darkAt_13 : decode cX5_darkAt 13 = .ok (.iload_n 3, 1) := by decide +kernel
theorem dX5_darkAt_14 : decode cX5_darkAt 14 = .ok (.iload_n 1, 1) := by decide +kernel
theorem dX5_darkAt_15 : decode cX5_darkAt 15 = .ok (.invokevirtual 59, 3) := by decide +kernel
theorem dX5_darkAt_18 : decode cX5_darkAt 18 = .ok (.ifCond .eq 7, 3) := by decide +kernel
theorem dX5_darkAt_21 : decode cX5_darkAt 21 = .ok (.iconst 1, 1) := by decide +kernel
theorem dX5_darkAt_22 : decode cX5_darkAt 22 = .ok (.goto 4, 3) := by decide +kernel
theorem dX5_darkAt_25 : decode cX5_darkAt 25 = .ok (.iconst 0, 1) := by decide +kernel
theorem dX5_darkAt_26 : decode cX5_darkAt 26 = .ok (.iadd, 1) := by decide +kernel
theorem dX5_darkAt_27 : decode cX5_darkAt 27 = .ok (.istore_n 2, 1) := by decide +kernel
theorem dX5_darkAt_28 : decode cX5_darkAt 28 = .ok (.iinc 3 1, 3) := by decide +kernel
theorem dX5_darkAt_31 : decode cX5_darkAt 31 = .ok (.goto (-27), 3) := by decide +kernel
theorem dX5_darkAt_34 : decode cX5_darkAt 34 = .ok (.iload_n 2, 1) := by decide +kernel
theorem dX5_darkAt_35 : decode cX5_darkAt 35 = .ok (.ireturn, 1) := by decide +kernel
set_option maxRecDepth 20000 in
theorem ggX5_payment_X5_isDark : GoodIn wsX5_payment wsX5_isDark := goodIn_r _ [6, 7, 8, 9, 5, 10, 11, 12, 13, 14, 15, 16, 17, 18, 19, 20, 1, 21, 22, 23, 24, 25, 26, 27, 28, 29, 30, 31, 32, 33, 34, 35] (by decide +kernel) (by decide +kernel)
set_option maxRecDepth 20000 in
theorem gX5_payment_X5_isDark : GoodIn wsX5_payment (wsV RX5 59 RX5 yX5_isDark wsX5_isDark) := goodIn_app (goodIn_of _ (by decide +kernel)) ggX5_payment_X5_isDark
theorem dX5_payment_0 : decode cX5_payment 0 = .ok (.iconst 0, 1) := by decide +kernel
theorem dX5_payment_1 : decode cX5_payment 1 = .ok (.istore_n 3, 1) := by decide +kernel
theorem dX5_payment_2 : decode cX5_payment 2 = .ok (.iconst 0, 1) := by decide +kernel
theorem dX5_payment_3 : decode cX5_payment 3 = .ok (.istore 4, 2) := by decide +kernel
theorem dX5_payment_5 : decode cX5_payment 5 = .ok (.iload 4, 2) := by decide +kernel
theorem dX5_payment_7 : decode cX5_payment 7 = .ok (.bipush 36, 2) := by decide +kernel
theorem dX5_payment_9 : decode cX5_payment 9 = .ok (.if_icmp .ge 77, 3) := by decide +kernel
theorem dX5_payment_12 : decode cX5_payment 12 = .ok (.aload_n 0, 1) := by decide +kernel
theorem dX5_payment_13 : decode cX5_payment 13 = .ok (.getfield 7, 3) := by decide +kernel
theorem dX5_payment_16 : decode cX5_payment 16 = .ok (.iload_n 1, 1) := by decide +kernel
theorem dX5_payment_17 : decode cX5_payment 17 = .ok (.bipush 36, 2) := by decide +kernel
theorem dX5_payment_19 : decode cX5_payment 19 = .ok (.iadd, 1) := by decide +kernel
theorem dX5_payment_20 : decode cX5_payment 20 = .ok (.iload 4, 2) := by decide +kernel
theorem dX5_payment_22 : decode cX5_payment 22 = .ok (.iadd, 1) := by decide +kernel
theorem dX5_payment_23 : decode cX5_payment 23 = .ok (.iaload, 1) := by decide +kernel
theorem dX5_payment_24 : decode cX5_payment 24 = .ok (.iload_n 2, 1) := by decide +kernel
theorem dX5_payment_25 : decode cX5_payment 25 = .ok (.iconst 1, 1) := by decide +kernel
theorem dX5_payment_26 : decode cX5_payment 26 = .ok (.iadd, 1) := by decide +kernel
theorem dX5_payment_27 : decode cX5_payment 27 = .ok (.if_icmp .ne 26, 3) := by decide +kernel
theorem dX5_payment_30 : decode cX5_payment 30 = .ok (.aload_n 0, 1) := by decide +kernel
theorem dX5_payment_31 : decode cX5_payment 31 = .ok (.iload_n 1, 1) := by decide +kernel
theorem dX5_payment_32 : decode cX5_payment 32 = .ok (.iload 4, 2) := by decide +kernel
theorem dX5_payment_34 : decode cX5_payment 34 = .ok (.aload_n 0, 1) := by decide +kernel
theorem dX5_payment_35 : decode cX5_payment 35 = .ok (.getfield 7, 3) := by decide +kernel
theorem dX5_payment_38 : decode cX5_payment 38 = .ok (.iload_n 1, 1) := by decide +kernel
theorem dX5_payment_39 : decode cX5_payment 39 = .ok (.bipush 108, 2) := by decide +kernel
theorem dX5_payment_41 : decode cX5_payment 41 = .ok (.iadd, 1) := by decide +kernel
theorem dX5_payment_42 : decode cX5_payment 42 = .ok (.iaload, 1) := by decide +kernel
theorem dX5_payment_43 : decode cX5_payment 43 = .ok (.invokevirtual 59, 3) := by decide +kernel
theorem dX5_payment_46 : decode cX5_payment 46 = .ok (.ifCond .ne 7, 3) := by decide +kernel
theorem dX5_payment_49 : decode cX5_payment 49 = .ok (.iconst 1, 1) := by decide +kernel
theorem dX5_payment_50 : decode cX5_payment 50 = .ok (.goto 4, 3) := by decide +kernel
theorem dX5_payment_53 : decode cX5_payment 53 = .ok (.iconst 0, 1) := by decide +kernel
theorem dX5_payment_54 : decode cX5_payment 54 = .ok (.istore 5, 2) := by decide +kernel
theorem dX5_payment_56 : decode cX5_payment 56 = .ok (.iload_n 3, 1) := by decide +kernel
theorem dX5_payment_57 : decode cX5_payment 57 = .ok (.iload 5, 2) := by decide +kernel
theorem dX5_payment_59 : decode cX5_payment 59 = .ok (.ifCond .eq 18, 3) := by decide +kernel
theorem dX5_payment_62 : decode cX5_payment 62 = .ok (.aload_n 0, 1) := by decide +kernel
theorem dX5_payment_63 : decode cX5_payment 63 = .ok (.getfield 7, 3) := by decide +kernel
theorem dX5_payment_66 : decode cX5_payment 66 = .ok (.iload_n 1, 1) := by decide +kernel
theorem dX5_payment_67 : decode cX5_payment 67 = .ok (.bipush 72, 2) := by decide +kernel
theorem dX5_payment_69 : decode cX5_payment 69 = .ok (.iadd, 1) := by decide +kernel
theorem dX5_payment_70 : decode cX5_payment 70 = .ok (.iload 4, 2) := by decide +kernel
theorem dX5_payment_72 : decode cX5_payment 72 = .ok (.iadd, 1) := by decide +kernel
theorem dX5_payment_73 : decode cX5_payment 73 = .ok (.iaload, 1) := by decide +kernel
theorem dX5_payment_74 : decode cX5_payment 74 = .ok (.goto 4, 3) := by decide +kernel
theorem dX5_payment_77 : decode cX5_payment 77 = .ok (.iconst 0, 1) := by decide +kernel
theorem dX5_payment_78 : decode cX5_payment 78 = .ok (.iadd, 1) := by decide +kernel
theorem dX5_payment_79 : decode cX5_payment 79 = .ok (.istore_n 3, 1) := by decide +kernel
theorem dX5_payment_80 : decode cX5_payment 80 = .ok (.iinc 4 1, 3) := by decide +kernel
theorem dX5_payment_83 : decode cX5_payment 83 = .ok (.goto (-78), 3) := by decide +kernel
theorem dX5_payment_86 : decode cX5_payment 86 = .ok (.iload_n 3, 1) := by decide +kernel
theorem dX5_payment_87 : decode cX5_payment 87 = .ok (.ireturn, 1) := by decide +kernel
set_option maxRecDepth 20000 in
theorem ggX5_reason_X5_isDark : GoodIn wsX5_reason wsX5_isDark := goodIn_r _ [6, 7, 8, 9, 5, 10, 11, 12, 13, 14, 15, 16, 17, 18, 19, 20, 1, 21, 22, 23, 24, 25, 26, 27, 28, 29, 30, 31, 32, 33, 34, 35] (by decide +kernel) (by decide +kernel)
set_option maxRecDepth 20000 in
theorem gX5_reason_X5_isDark : GoodIn wsX5_reason (wsV RX5 59 RX5 yX5_isDark wsX5_isDark) := goodIn_app (goodIn_of _ (by decide +kernel)) ggX5_reason_X5_isDark
theorem dX5_reason_0 : decode cX5_reason 0 = .ok (.aload_n 0, 1) := by decide +kernel
theorem dX5_reason_1 : decode cX5_reason 1 = .ok (.getfield 7, 3) := by decide +kernel
theorem dX5_reason_4 : decode cX5_reason 4 = .ok (.bipush 36, 2) := by decide +kernel
theorem dX5_reason_6 : decode cX5_reason 6 = .ok (.iload_n 1, 1) := by decide +kernel
theorem dX5_reason_7 : decode cX5_reason 7 = .ok (.iadd, 1) := by decide +kernel
theorem dX5_reason_8 : decode cX5_reason 8 = .ok (.iaload, 1) := by decide +kernel
theorem dX5_reason_9 : decode cX5_reason 9 = .ok (.istore_n 2, 1) := by decide +kernel
theorem dX5_reason_10 : decode cX5_reason 10 = .ok (.iload_n 2, 1) := by decide +kernel
theorem dX5_reason_11 : decode cX5_reason 11 = .ok (.ifCond .le 18, 3) := by decide +kernel
theorem dX5_reason_14 : decode cX5_reason 14 = .ok (.iload_n 2, 1) := by decide +kernel
theorem dX5_reason_15 : decode cX5_reason 15 = .ok (.aload_n 0, 1) := by decide +kernel
theorem dX5_reason_16 : decode cX5_reason 16 = .ok (.getfield 7, 3) := by decide +kernel
theorem dX5_reason_19 : decode cX5_reason 19 = .ok (.bipush 109, 2) := by decide +kernel
theorem dX5_reason_21 : decode cX5_reason 21 = .ok (.iaload, 1) := by decide +kernel
theorem dX5_reason_22 : decode cX5_reason 22 = .ok (.iconst 1, 1) := by decide +kernel
theorem dX5_reason_23 : decode cX5_reason 23 = .ok (.iadd, 1) := by decide +kernel
theorem dX5_reason_24 : decode cX5_reason 24 = .ok (.if_icmp .eq 5, 3) := by decide +kernel
theorem dX5_reason_27 : decode cX5_reason 27 = .ok (.iconst 1, 1) := by decide +kernel
theorem dX5_reason_28 : decode cX5_reason 28 = .ok (.ireturn, 1) := by decide +kernel
theorem dX5_reason_29 : decode cX5_reason 29 = .ok (.aload_n 0, 1) := by decide +kernel
theorem dX5_reason_30 : decode cX5_reason 30 = .ok (.getfield 7, 3) := by decide +kernel
theorem dX5_reason_33 : decode cX5_reason 33 = .ok (.iconst 0, 1) := by decide +kernel
theorem dX5_reason_34 : decode cX5_reason 34 = .ok (.iload_n 1, 1) := by decide +kernel
theorem dX5_reason_35 : decode cX5_reason 35 = .ok (.iadd, 1) := by decide +kernel
theorem dX5_reason_36 : decode cX5_reason 36 = .ok (.iaload, 1) := by decide +kernel
theorem dX5_reason_37 : decode cX5_reason 37 = .ok (.bipush 9, 2) := by decide +kernel
theorem dX5_reason_39 : decode cX5_reason 39 = .ok (.if_icmp .ne 7, 3) := by decide +kernel
theorem dX5_reason_42 : decode cX5_reason 42 = .ok (.iconst 2, 1) := by decide +kernel
theorem dX5_reason_43 : decode cX5_reason 43 = .ok (.goto 24, 3) := by decide +kernel
theorem dX5_reason_46 : decode cX5_reason 46 = .ok (.aload_n 0, 1) := by decide +kernel
theorem dX5_reason_47 : decode cX5_reason 47 = .ok (.iconst 0, 1) := by decide +kernel
theorem dX5_reason_48 : decode cX5_reason 48 = .ok (.iload_n 1, 1) := by decide +kernel
theorem dX5_reason_49 : decode cX5_reason 49 = .ok (.aload_n 0, 1) := by decide +kernel
theorem dX5_reason_50 : decode cX5_reason 50 = .ok (.getfield 7, 3) := by decide +kernel
theorem dX5_reason_53 : decode cX5_reason 53 = .ok (.bipush 108, 2) := by decide +kernel
theorem dX5_reason_55 : decode cX5_reason 55 = .ok (.iaload, 1) := by decide +kernel
theorem dX5_reason_56 : decode cX5_reason 56 = .ok (.invokevirtual 59, 3) := by decide +kernel
theorem dX5_reason_59 : decode cX5_reason 59 = .ok (.ifCond .eq 7, 3) := by decide +kernel
theorem dX5_reason_62 : decode cX5_reason 62 = .ok (.iconst 3, 1) := by decide +kernel
theorem dX5_reason_63 : decode cX5_reason 63 = .ok (.goto 4, 3) := by decide +kernel
theorem dX5_reason_66 : decode cX5_reason 66 = .ok (.iconst 0, 1) := by decide +kernel
theorem dX5_reason_67 : decode cX5_reason 67 = .ok (.ireturn, 1) := by decide +kernel
theorem dX5_raises_0 : decode cX5_raises 0 = .ok (.aload_n 0, 1) := by decide +kernel
theorem dX5_raises_1 : decode cX5_raises 1 = .ok (.getfield 7, 3) := by decide +kernel
theorem dX5_raises_4 : decode cX5_raises 4 = .ok (.iload_n 1, 1) := by decide +kernel
theorem dX5_raises_5 : decode cX5_raises 5 = .ok (.bipush 36, 2) := by decide +kernel
theorem dX5_raises_7 : decode cX5_raises 7 = .ok (.iadd, 1) := by decide +kernel
theorem dX5_raises_8 : decode cX5_raises 8 = .ok (.iload_n 2, 1) := by decide +kernel
theorem dX5_raises_9 : decode cX5_raises 9 = .ok (.iadd, 1) := by decide +kernel
theorem dX5_raises_10 : decode cX5_raises 10 = .ok (.aload_n 0, 1) := by decide +kernel
theorem dX5_raises_11 : decode cX5_raises 11 = .ok (.getfield 7, 3) := by decide +kernel
theorem dX5_raises_14 : decode cX5_raises 14 = .ok (.iload_n 1, 1) := by decide +kernel
theorem dX5_raises_15 : decode cX5_raises 15 = .ok (.bipush 109, 2) := by decide +kernel
theorem dX5_raises_17 : decode cX5_raises 17 = .ok (.iadd, 1) := by decide +kernel
theorem dX5_raises_18 : decode cX5_raises 18 = .ok (.iaload, 1) := by decide +kernel
theorem dX5_raises_19 : decode cX5_raises 19 = .ok (.iconst 1, 1) := by decide +kernel
theorem dX5_raises_20 : decode cX5_raises 20 = .ok (.iadd, 1) := by decide +kernel
theorem dX5_raises_21 : decode cX5_raises 21 = .ok (.iastore, 1) := by decide +kernel
theorem dX5_raises_22 : decode cX5_raises 22 = .ok (.aload_n 0, 1) := by decide +kernel
theorem dX5_raises_23 : decode cX5_raises 23 = .ok (.getfield 7, 3) := by decide +kernel
theorem dX5_raises_26 : decode cX5_raises 26 = .ok (.iload_n 1, 1) := by decide +kernel
theorem dX5_raises_27 : decode cX5_raises 27 = .ok (.iconst 0, 1) := by decide +kernel
theorem dX5_raises_28 : decode cX5_raises 28 = .ok (.iadd, 1) := by decide +kernel
theorem dX5_raises_29 : decode cX5_raises 29 = .ok (.iload_n 2, 1) := by decide +kernel
theorem dX5_raises_30 : decode cX5_raises 30 = .ok (.iadd, 1) := by decide +kernel
theorem dX5_raises_31 : decode cX5_raises 31 = .ok (.dup2, 1) := by decide +kernel
theorem dX5_raises_32 : decode cX5_raises 32 = .ok (.iaload, 1) := by decide +kernel
theorem dX5_raises_33 : decode cX5_raises 33 = .ok (.iconst 1, 1) := by decide +kernel
theorem dX5_raises_34 : decode cX5_raises 34 = .ok (.iadd, 1) := by decide +kernel
theorem dX5_raises_35 : decode cX5_raises 35 = .ok (.iastore, 1) := by decide +kernel
theorem dX5_raises_36 : decode cX5_raises 36 = .ok (.return_, 1) := by decide +kernel
set_option maxRecDepth 20000 in
theorem ggX5_ends_X5_payment : GoodIn wsX5_ends wsX5_payment := goodIn_r _ [6, 1, 7, 8, 9, 5, 10, 11, 12, 13, 14, 15, 16, 17, 18, 19, 20, 21, 22, 23, 24, 25, 26, 27, 28, 29, 30, 31, 32, 33, 34, 35, 36, 37, 38, 39] (by decide +kernel) (by decide +kernel)
set_option maxRecDepth 20000 in
theorem gX5_ends_X5_payment : GoodIn wsX5_ends (wsV RX5 62 RX5 yX5_payment wsX5_payment) := goodIn_app (goodIn_of _ (by decide +kernel)) ggX5_ends_X5_payment
theorem dX5_ends_0 : decode cX5_ends 0 = .ok (.aload_n 0, 1) := by decide +kernel
theorem dX5_ends_1 : decode cX5_ends 1 = .ok (.iconst 0, 1) := by decide +kernel
theorem dX5_ends_2 : decode cX5_ends 2 = .ok (.iconst 0, 1) := by decide +kernel
theorem dX5_ends_3 : decode cX5_ends 3 = .ok (.invokevirtual 62, 3) := by decide +kernel
theorem dX5_ends_6 : decode cX5_ends 6 = .ok (.istore_n 1, 1) := by decide +kernel
theorem dX5_ends_7 : decode cX5_ends 7 = .ok (.aload_n 0, 1) := by decide +kernel
theorem dX5_ends_8 : decode cX5_ends 8 = .ok (.iconst 0, 1) := by decide +kernel
theorem dX5_ends_9 : decode cX5_ends 9 = .ok (.iconst 1, 1) := by decide +kernel
theorem dX5_ends_10 : decode cX5_ends 10 = .ok (.invokevirtual 62, 3) := by decide +kernel
theorem dX5_ends_13 : decode cX5_ends 13 = .ok (.istore_n 2, 1) := by decide +kernel
theorem dX5_ends_14 : decode cX5_ends 14 = .ok (.aload_n 0, 1) := by decide +kernel
theorem dX5_ends_15 : decode cX5_ends 15 = .ok (.getfield 7, 3) := by decide +kernel
theorem dX5_ends_18 : decode cX5_ends 18 = .ok (.bipush 112, 2) := by decide +kernel
theorem dX5_ends_20 : decode cX5_ends 20 = .ok (.dup2, 1) := by decide +kernel
theorem dX5_ends_21 : decode cX5_ends 21 = .ok (.iaload, 1) := by decide +kernel
theorem dX5_ends_22 : decode cX5_ends 22 = .ok (.iload_n 1, 1) := by decide +kernel
theorem dX5_ends_23 : decode cX5_ends 23 = .ok (.iadd, 1) := by decide +kernel
theorem dX5_ends_24 : decode cX5_ends 24 = .ok (.iastore, 1) := by decide +kernel
theorem dX5_ends_25 : decode cX5_ends 25 = .ok (.aload_n 0, 1) := by decide +kernel
theorem dX5_ends_26 : decode cX5_ends 26 = .ok (.getfield 7, 3) := by decide +kernel
theorem dX5_ends_29 : decode cX5_ends 29 = .ok (.bipush 113, 2) := by decide +kernel
theorem dX5_ends_31 : decode cX5_ends 31 = .ok (.dup2, 1) := by decide +kernel
theorem dX5_ends_32 : decode cX5_ends 32 = .ok (.iaload, 1) := by decide +kernel
theorem dX5_ends_33 : decode cX5_ends 33 = .ok (.iload_n 2, 1) := by decide +kernel
theorem dX5_ends_34 : decode cX5_ends 34 = .ok (.iadd, 1) := by decide +kernel
theorem dX5_ends_35 : decode cX5_ends 35 = .ok (.iastore, 1) := by decide +kernel
theorem dX5_ends_36 : decode cX5_ends 36 = .ok (.aload_n 0, 1) := by decide +kernel
theorem dX5_ends_37 : decode cX5_ends 37 = .ok (.getfield 7, 3) := by decide +kernel
theorem dX5_ends_40 : decode cX5_ends 40 = .ok (.bipush 108, 2) := by decide +kernel
theorem dX5_ends_42 : decode cX5_ends 42 = .ok (.aload_n 0, 1) := by decide +kernel
theorem dX5_ends_43 : decode cX5_ends 43 = .ok (.getfield 7, 3) := by decide +kernel
theorem dX5_ends_46 : decode cX5_ends 46 = .ok (.bipush 108, 2) := by decide +kernel
theorem dX5_ends_48 : decode cX5_ends 48 = .ok (.iaload, 1) := by decide +kernel
theorem dX5_ends_49 : decode cX5_ends 49 = .ok (.iconst 1, 1) := by decide +kernel
theorem dX5_ends_50 : decode cX5_ends 50 = .ok (.iadd, 1) := by decide +kernel
theorem dX5_ends_51 : decode cX5_ends 51 = .ok (.bipush 12, 2) := by decide +kernel
theorem dX5_ends_53 : decode cX5_ends 53 = .ok (.irem, 1) := by decide +kernel
theorem dX5_ends_54 : decode cX5_ends 54 = .ok (.iastore, 1) := by decide +kernel
theorem dX5_ends_55 : decode cX5_ends 55 = .ok (.aload_n 0, 1) := by decide +kernel
theorem dX5_ends_56 : decode cX5_ends 56 = .ok (.getfield 7, 3) := by decide +kernel
theorem dX5_ends_59 : decode cX5_ends 59 = .ok (.bipush 109, 2) := by decide +kernel
theorem dX5_ends_61 : decode cX5_ends 61 = .ok (.iconst 1, 1) := by decide +kernel
theorem dX5_ends_62 : decode cX5_ends 62 = .ok (.aload_n 0, 1) := by decide +kernel
theorem dX5_ends_63 : decode cX5_ends 63 = .ok (.getfield 7, 3) := by decide +kernel
theorem dX5_ends_66 : decode cX5_ends 66 = .ok (.bipush 109, 2) := by decide +kernel
theorem dX5_ends_68 : decode cX5_ends 68 = .ok (.iaload, 1) := by decide +kernel
theorem dX5_ends_69 : decode cX5_ends 69 = .ok (.isub, 1) := by decide +kernel
theorem dX5_ends_70 : decode cX5_ends 70 = .ok (.iastore, 1) := by decide +kernel
theorem dX5_ends_71 : decode cX5_ends 71 = .ok (.aload_n 0, 1) := by decide +kernel
theorem dX5_ends_72 : decode cX5_ends 72 = .ok (.getfield 7, 3) := by decide +kernel
theorem dX5_ends_75 : decode cX5_ends 75 = .ok (.bipush 110, 2) := by decide +kernel
theorem dX5_ends_77 : decode cX5_ends 77 = .ok (.dup2, 1) := by decide +kernel
theorem dX5_ends_78 : decode cX5_ends 78 = .ok (.iaload, 1) := by decide +kernel
theorem dX5_ends_79 : decode cX5_ends 79 = .ok (.iconst 1, 1) := by decide +kernel
theorem dX5_ends_80 : decode cX5_ends 80 = .ok (.iadd, 1) := by decide +kernel
theorem dX5_ends_81 : decode cX5_ends 81 = .ok (.iastore, 1) := by decide +kernel
theorem dX5_ends_82 : decode cX5_ends 82 = .ok (.return_, 1) := by decide +kernel
set_option maxRecDepth 20000 in
theorem ggX5_raise_X5_isSquare : GoodIn wsX5_raise wsX5_isSquare := goodIn_r _ [5, 6, 7, 4, 8] (by decide +kernel) (by decide +kernel)
set_option maxRecDepth 20000 in
theorem gX5_raise_X5_isSquare : GoodIn wsX5_raise (va_wsS RX5 65 yX5_isSquare wsX5_isSquare) := goodIn_app (goodIn_of _ (by decide +kernel)) ggX5_raise_X5_isSquare
set_option maxRecDepth 20000 in
theorem ggX5_raise_X5_throwsAt : GoodIn wsX5_raise wsX5_throwsAt := goodIn_r _ [12, 13, 60, 61, 62, 63, 64, 65, 66, 67, 68] (by decide +kernel) (by decide +kernel)
set_option maxRecDepth 20000 in
theorem gX5_raise_X5_throwsAt : GoodIn wsX5_raise (wsV RX5 69 RX5 yX5_throwsAt wsX5_throwsAt) := goodIn_app (goodIn_of _ (by decide +kernel)) ggX5_raise_X5_throwsAt
set_option maxRecDepth 20000 in
theorem ggX5_raise_X5_saves : GoodIn wsX5_raise wsX5_saves := goodIn_r _ [17, 18, 19, 1, 60, 61, 62, 63, 64, 65, 66, 67, 68] (by decide +kernel) (by decide +kernel)
set_option maxRecDepth 20000 in
theorem gX5_raise_X5_saves : GoodIn wsX5_raise (wsV RX5 72 RX5 yX5_saves wsX5_saves) := goodIn_app (goodIn_of _ (by decide +kernel)) ggX5_raise_X5_saves
set_option maxRecDepth 20000 in
theorem ggX5_raise_X5_reason : GoodIn wsX5_raise wsX5_reason := goodIn_r _ [23, 1, 24, 25, 26, 4, 27, 28, 29, 30, 31, 32, 33, 34, 35, 36, 37, 38, 39, 40, 41, 42, 43, 44, 45, 46, 47, 60, 61, 62, 63, 64, 65, 66, 67, 68] (by decide +kernel) (by decide +kernel)
set_option maxRecDepth 20000 in
theorem gX5_raise_X5_reason : GoodIn wsX5_raise (wsV RX5 75 RX5 yX5_reason wsX5_reason) := goodIn_app (goodIn_of _ (by decide +kernel)) ggX5_raise_X5_reason
set_option maxRecDepth 20000 in
theorem ggX5_raise_X5_raises : GoodIn wsX5_raise wsX5_raises := goodIn_r _ [51, 1, 60, 61, 62, 63, 64, 65, 66, 67, 68] (by decide +kernel) (by decide +kernel)
set_option maxRecDepth 20000 in
theorem gX5_raise_X5_raises : GoodIn wsX5_raise (wsV RX5 78 RX5 yX5_raises wsX5_raises) := goodIn_app (goodIn_of _ (by decide +kernel)) ggX5_raise_X5_raises
set_option maxRecDepth 20000 in
theorem ggX5_raise_X5_ends : GoodIn wsX5_raise wsX5_ends := goodIn_r _ [55, 1, 56, 57, 58, 4, 59, 24, 25, 26, 27, 28, 29, 30, 31, 32, 33, 34, 35, 36, 37, 38, 39, 40, 41, 42, 43, 44, 45, 46, 47, 60, 61, 62, 63, 64, 65, 66, 67, 68] (by decide +kernel) (by decide +kernel)
set_option maxRecDepth 20000 in
theorem gX5_raise_X5_ends : GoodIn wsX5_raise (wsV RX5 82 RX5 yX5_ends wsX5_ends) := goodIn_app (goodIn_of _ (by decide +kernel)) ggX5_raise_X5_ends
theorem dX5_raise_0 : decode cX5_raise 0 = .ok (.aload_n 0, 1) := by decide +kernel
theorem dX5_raise_1 : decode cX5_raise 1 = .ok (.iload_n 1, 1) := by decide +kernel
theorem dX5_raise_2 : decode cX5_raise 2 = .ok (.invokestatic 65, 3) := by decide +kernel
theorem dX5_raise_5 : decode cX5_raise 5 = .ok (.ifCond .eq 7, 3) := by decide +kernel
theorem dX5_raise_8 : decode cX5_raise 8 = .ok (.iconst 0, 1) := by decide +kernel
theorem dX5_raise_9 : decode cX5_raise 9 = .ok (.goto 4, 3) := by decide +kernel
theorem dX5_raise_12 : decode cX5_raise 12 = .ok (.iconst 1, 1) := by decide +kernel
theorem dX5_raise_13 : decode cX5_raise 13 = .ok (.invokevirtual 69, 3) := by decide +kernel
theorem dX5_raise_16 : decode cX5_raise 16 = .ok (.ifCond .eq 5, 3) := by decide +kernel
theorem dX5_raise_19 : decode cX5_raise 19 = .ok (.iconst 0, 1) := by decide +kernel
theorem dX5_raise_20 : decode cX5_raise 20 = .ok (.ireturn, 1) := by decide +kernel
theorem dX5_raise_21 : decode cX5_raise 21 = .ok (.aload_n 0, 1) := by decide +kernel
theorem dX5_raise_22 : decode cX5_raise 22 = .ok (.invokevirtual 72, 3) := by decide +kernel
theorem dX5_raise_25 : decode cX5_raise 25 = .ok (.aload_n 0, 1) := by decide +kernel
theorem dX5_raise_26 : decode cX5_raise 26 = .ok (.iload_n 1, 1) := by decide +kernel
theorem dX5_raise_27 : decode cX5_raise 27 = .ok (.invokevirtual 75, 3) := by decide +kernel
theorem dX5_raise_30 : decode cX5_raise 30 = .ok (.istore_n 2, 1) := by decide +kernel
theorem dX5_raise_31 : decode cX5_raise 31 = .ok (.iload_n 2, 1) := by decide +kernel
theorem dX5_raise_32 : decode cX5_raise 32 = .ok (.ifCond .le 16, 3) := by decide +kernel
theorem dX5_raise_35 : decode cX5_raise 35 = .ok (.aload_n 0, 1) := by decide +kernel
theorem dX5_raise_36 : decode cX5_raise 36 = .ok (.getfield 7, 3) := by decide +kernel
theorem dX5_raise_39 : decode cX5_raise 39 = .ok (.bipush 111, 2) := by decide +kernel
theorem dX5_raise_41 : decode cX5_raise 41 = .ok (.dup2, 1) := by decide +kernel
theorem dX5_raise_42 : decode cX5_raise 42 = .ok (.iaload, 1) := by decide +kernel
theorem dX5_raise_43 : decode cX5_raise 43 = .ok (.iconst 1, 1) := by decide +kernel
theorem dX5_raise_44 : decode cX5_raise 44 = .ok (.iadd, 1) := by decide +kernel
theorem dX5_raise_45 : decode cX5_raise 45 = .ok (.iastore, 1) := by decide +kernel
theorem dX5_raise_46 : decode cX5_raise 46 = .ok (.iload_n 2, 1) := by decide +kernel
theorem dX5_raise_47 : decode cX5_raise 47 = .ok (.ireturn, 1) := by decide +kernel
theorem dX5_raise_48 : decode cX5_raise 48 = .ok (.aload_n 0, 1) := by decide +kernel
theorem dX5_raise_49 : decode cX5_raise 49 = .ok (.iconst 0, 1) := by decide +kernel
theorem dX5_raise_50 : decode cX5_raise 50 = .ok (.iload_n 1, 1) := by decide +kernel
theorem dX5_raise_51 : decode cX5_raise 51 = .ok (.invokevirtual 78, 3) := by decide +kernel
theorem dX5_raise_54 : decode cX5_raise 54 = .ok (.aload_n 0, 1) := by decide +kernel
theorem dX5_raise_55 : decode cX5_raise 55 = .ok (.invokevirtual 82, 3) := by decide +kernel
theorem dX5_raise_58 : decode cX5_raise 58 = .ok (.bipush 10, 2) := by decide +kernel
theorem dX5_raise_60 : decode cX5_raise 60 = .ok (.aload_n 0, 1) := by decide +kernel
theorem dX5_raise_61 : decode cX5_raise 61 = .ok (.getfield 7, 3) := by decide +kernel
theorem dX5_raise_64 : decode cX5_raise 64 = .ok (.iconst 0, 1) := by decide +kernel
theorem dX5_raise_65 : decode cX5_raise 65 = .ok (.iload_n 1, 1) := by decide +kernel
theorem dX5_raise_66 : decode cX5_raise 66 = .ok (.iadd, 1) := by decide +kernel
theorem dX5_raise_67 : decode cX5_raise 67 = .ok (.iaload, 1) := by decide +kernel
theorem dX5_raise_68 : decode cX5_raise 68 = .ok (.iadd, 1) := by decide +kernel
theorem dX5_raise_69 : decode cX5_raise 69 = .ok (.ireturn, 1) := by decide +kernel
set_option maxRecDepth 20000 in
theorem ggX5_rest_X5_saves : GoodIn wsX5_rest wsX5_saves := goodIn_r _ [7, 8, 9, 2, 42, 43, 44, 45, 46, 47, 48, 49, 50] (by decide +kernel) (by decide +kernel)
set_option maxRecDepth 20000 in
theorem gX5_rest_X5_saves : GoodIn wsX5_rest (wsV RX5 72 RX5 yX5_saves wsX5_saves) := goodIn_app (goodIn_of _ (by decide +kernel)) ggX5_rest_X5_saves
set_option maxRecDepth 20000 in
theorem ggX5_rest_X5_payment : GoodIn wsX5_rest wsX5_payment := goodIn_r _ [13, 2, 14, 15, 16, 6, 17, 18, 19, 20, 21, 22, 23, 24, 25, 26, 27, 28, 29, 30, 31, 32, 33, 34, 35, 36, 37, 42, 43, 44, 45, 46, 47, 48, 49, 50] (by decide +kernel) (by decide +kernel)
set_option maxRecDepth 20000 in
theorem gX5_rest_X5_payment : GoodIn wsX5_rest (wsV RX5 62 RX5 yX5_payment wsX5_payment) := goodIn_app (goodIn_of _ (by decide +kernel)) ggX5_rest_X5_payment
set_option maxRecDepth 20000 in
theorem ggX5_rest_X5_ends : GoodIn wsX5_rest wsX5_ends := goodIn_r _ [41, 2, 10, 11, 12, 6, 13, 14, 15, 16, 17, 18, 19, 20, 21, 22, 23, 24, 25, 26, 27, 28, 29, 30, 31, 32, 33, 34, 35, 36, 37, 42, 43, 44, 45, 46, 47, 48, 49, 50] (by decide +kernel) (by decide +kernel)
set_option maxRecDepth 20000 in
theorem gX5_rest_X5_ends : GoodIn wsX5_rest (wsV RX5 82 RX5 yX5_ends wsX5_ends) := goodIn_app (goodIn_of _ (by decide +kernel)) ggX5_rest_X5_ends
theorem dX5_rest_0 : decode cX5_rest 0 = .ok (.aload_n 0, 1) := by decide +kernel
theorem dX5_rest_1 : decode cX5_rest 1 = .ok (.iconst 0, 1) := by decide +kernel
theorem dX5_rest_2 : decode cX5_rest 2 = .ok (.putfield 26, 3) := by decide +kernel
theorem dX5_rest_5 : decode cX5_rest 5 = .ok (.aload_n 0, 1) := by decide +kernel
theorem dX5_rest_6 : decode cX5_rest 6 = .ok (.invokevirtual 72, 3) := by decide +kernel
theorem dX5_rest_9 : decode cX5_rest 9 = .ok (.aload_n 0, 1) := by decide +kernel
theorem dX5_rest_10 : decode cX5_rest 10 = .ok (.iconst 0, 1) := by decide +kernel
theorem dX5_rest_11 : decode cX5_rest 11 = .ok (.aload_n 0, 1) := by decide +kernel
theorem dX5_rest_12 : decode cX5_rest 12 = .ok (.getfield 7, 3) := by decide +kernel
theorem dX5_rest_15 : decode cX5_rest 15 = .ok (.bipush 109, 2) := by decide +kernel
theorem dX5_rest_17 : decode cX5_rest 17 = .ok (.iaload, 1) := by decide +kernel
theorem dX5_rest_18 : decode cX5_rest 18 = .ok (.invokevirtual 62, 3) := by decide +kernel
theorem dX5_rest_21 : decode cX5_rest 21 = .ok (.istore_n 1, 1) := by decide +kernel
theorem dX5_rest_22 : decode cX5_rest 22 = .ok (.aload_n 0, 1) := by decide +kernel
theorem dX5_rest_23 : decode cX5_rest 23 = .ok (.invokevirtual 82, 3) := by decide +kernel
theorem dX5_rest_26 : decode cX5_rest 26 = .ok (.iload_n 1, 1) := by decide +kernel
theorem dX5_rest_27 : decode cX5_rest 27 = .ok (.ireturn, 1) := by decide +kernel
set_option maxRecDepth 20000 in
theorem ggX5_crowd_X5_isSquare : GoodIn wsX5_crowd wsX5_isSquare := goodIn_r _ [5, 6, 7, 4, 8] (by decide +kernel) (by decide +kernel)
set_option maxRecDepth 20000 in
theorem gX5_crowd_X5_isSquare : GoodIn wsX5_crowd (va_wsS RX5 65 yX5_isSquare wsX5_isSquare) := goodIn_app (goodIn_of _ (by decide +kernel)) ggX5_crowd_X5_isSquare
set_option maxRecDepth 20000 in
theorem ggX5_crowd_X5_in : GoodIn wsX5_crowd wsX5_in := goodIn_r _ [8] (by decide +kernel) (by decide +kernel)
set_option maxRecDepth 20000 in
theorem gX5_crowd_X5_in : GoodIn wsX5_crowd (va_wsS RX5 30 yX5_in wsX5_in) := goodIn_app (goodIn_of _ (by decide +kernel)) ggX5_crowd_X5_in
set_option maxRecDepth 20000 in
theorem ggX5_crowd_X5_throwsAt : GoodIn wsX5_crowd wsX5_throwsAt := goodIn_r _ [12, 13, 20, 21, 22, 23, 24, 25, 26, 27, 28] (by decide +kernel) (by decide +kernel)
set_option maxRecDepth 20000 in
theorem gX5_crowd_X5_throwsAt : GoodIn wsX5_crowd (wsV RX5 69 RX5 yX5_throwsAt wsX5_throwsAt) := goodIn_app (goodIn_of _ (by decide +kernel)) ggX5_crowd_X5_throwsAt
set_option maxRecDepth 20000 in
theorem ggX5_crowd_X5_saves : GoodIn wsX5_crowd wsX5_saves := goodIn_r _ [17, 18, 19, 1, 20, 21, 22, 23, 24, 25, 26, 27, 28] (by decide +kernel) (by decide +kernel)
set_option maxRecDepth 20000 in
theorem gX5_crowd_X5_saves : GoodIn wsX5_crowd (wsV RX5 72 RX5 yX5_saves wsX5_saves) := goodIn_app (goodIn_of _ (by decide +kernel)) ggX5_crowd_X5_saves
theorem dX5_crowd_0 : decode cX5_crowd 0 = .ok (.aload_n 0, 1) := by decide +kernel
theorem dX5_crowd_1 : decode cX5_crowd 1 = .ok (.iload_n 1, 1) := by decide +kernel
theorem dX5_crowd_2 : decode cX5_crowd 2 = .ok (.invokestatic 65, 3) := by decide +kernel
theorem dX5_crowd_5 : decode cX5_crowd 5 = .ok (.ifCond .ne 7, 3) := by decide +kernel
theorem dX5_crowd_8 : decode cX5_crowd 8 = .ok (.iconst 1, 1) := by decide +kernel
theorem dX5_crowd_9 : decode cX5_crowd 9 = .ok (.goto 18, 3) := by decide +kernel
theorem dX5_crowd_12 : decode cX5_crowd 12 = .ok (.iload_n 2, 1) := by decide +kernel
theorem dX5_crowd_13 : decode cX5_crowd 13 = .ok (.iconst 0, 1) := by decide +kernel
theorem dX5_crowd_14 : decode cX5_crowd 14 = .ok (.bipush 9, 2) := by decide +kernel
theorem dX5_crowd_16 : decode cX5_crowd 16 = .ok (.invokestatic 30, 3) := by decide +kernel
theorem dX5_crowd_19 : decode cX5_crowd 19 = .ok (.ifCond .eq 7, 3) := by decide +kernel
theorem dX5_crowd_22 : decode cX5_crowd 22 = .ok (.iconst 0, 1) := by decide +kernel
theorem dX5_crowd_23 : decode cX5_crowd 23 = .ok (.goto 4, 3) := by decide +kernel
theorem dX5_crowd_26 : decode cX5_crowd 26 = .ok (.iconst 2, 1) := by decide +kernel
theorem dX5_crowd_27 : decode cX5_crowd 27 = .ok (.invokevirtual 69, 3) := by decide +kernel
theorem dX5_crowd_30 : decode cX5_crowd 30 = .ok (.ifCond .eq 5, 3) := by decide +kernel
theorem dX5_crowd_33 : decode cX5_crowd 33 = .ok (.iconst 0, 1) := by decide +kernel
theorem dX5_crowd_34 : decode cX5_crowd 34 = .ok (.ireturn, 1) := by decide +kernel
theorem dX5_crowd_35 : decode cX5_crowd 35 = .ok (.aload_n 0, 1) := by decide +kernel
theorem dX5_crowd_36 : decode cX5_crowd 36 = .ok (.invokevirtual 72, 3) := by decide +kernel
theorem dX5_crowd_39 : decode cX5_crowd 39 = .ok (.aload_n 0, 1) := by decide +kernel
theorem dX5_crowd_40 : decode cX5_crowd 40 = .ok (.getfield 7, 3) := by decide +kernel
theorem dX5_crowd_43 : decode cX5_crowd 43 = .ok (.bipush 72, 2) := by decide +kernel
theorem dX5_crowd_45 : decode cX5_crowd 45 = .ok (.iload_n 1, 1) := by decide +kernel
theorem dX5_crowd_46 : decode cX5_crowd 46 = .ok (.iadd, 1) := by decide +kernel
theorem dX5_crowd_47 : decode cX5_crowd 47 = .ok (.iaload, 1) := by decide +kernel
theorem dX5_crowd_48 : decode cX5_crowd 48 = .ok (.istore_n 3, 1) := by decide +kernel
theorem dX5_crowd_49 : decode cX5_crowd 49 = .ok (.aload_n 0, 1) := by decide +kernel
theorem dX5_crowd_50 : decode cX5_crowd 50 = .ok (.getfield 7, 3) := by decide +kernel
theorem dX5_crowd_53 : decode cX5_crowd 53 = .ok (.bipush 72, 2) := by decide +kernel
theorem dX5_crowd_55 : decode cX5_crowd 55 = .ok (.iload_n 1, 1) := by decide +kernel
theorem dX5_crowd_56 : decode cX5_crowd 56 = .ok (.iadd, 1) := by decide +kernel
theorem dX5_crowd_57 : decode cX5_crowd 57 = .ok (.iload_n 2, 1) := by decide +kernel
theorem dX5_crowd_58 : decode cX5_crowd 58 = .ok (.iastore, 1) := by decide +kernel
theorem dX5_crowd_59 : decode cX5_crowd 59 = .ok (.iload_n 3, 1) := by decide +kernel
theorem dX5_crowd_60 : decode cX5_crowd 60 = .ok (.ireturn, 1) := by decide +kernel
set_option maxRecDepth 20000 in
theorem ggX5_tear_X5_isSquare : GoodIn wsX5_tear wsX5_isSquare := goodIn_r _ [5, 6, 7, 4, 8] (by decide +kernel) (by decide +kernel)
set_option maxRecDepth 20000 in
theorem gX5_tear_X5_isSquare : GoodIn wsX5_tear (va_wsS RX5 65 yX5_isSquare wsX5_isSquare) := goodIn_app (goodIn_of _ (by decide +kernel)) ggX5_tear_X5_isSquare
set_option maxRecDepth 20000 in
theorem ggX5_tear_X5_throwsAt : GoodIn wsX5_tear wsX5_throwsAt := goodIn_r _ [12, 13, 20, 21, 22, 23, 24, 25, 26, 27, 28] (by decide +kernel) (by decide +kernel)
set_option maxRecDepth 20000 in
theorem gX5_tear_X5_throwsAt : GoodIn wsX5_tear (wsV RX5 69 RX5 yX5_throwsAt wsX5_throwsAt) := goodIn_app (goodIn_of _ (by decide +kernel)) ggX5_tear_X5_throwsAt
set_option maxRecDepth 20000 in
theorem ggX5_tear_X5_saves : GoodIn wsX5_tear wsX5_saves := goodIn_r _ [17, 18, 19, 1, 20, 21, 22, 23, 24, 25, 26, 27, 28] (by decide +kernel) (by decide +kernel)
set_option maxRecDepth 20000 in
theorem gX5_tear_X5_saves : GoodIn wsX5_tear (wsV RX5 72 RX5 yX5_saves wsX5_saves) := goodIn_app (goodIn_of _ (by decide +kernel)) ggX5_tear_X5_saves
theorem dX5_tear_0 : decode cX5_tear 0 = .ok (.aload_n 0, 1) := by decide +kernel
theorem dX5_tear_1 : decode cX5_tear 1 = .ok (.iload_n 1, 1) := by decide +kernel
theorem dX5_tear_2 : decode cX5_tear 2 = .ok (.invokestatic 65, 3) := by decide +kernel
theorem dX5_tear_5 : decode cX5_tear 5 = .ok (.ifCond .eq 7, 3) := by decide +kernel
theorem dX5_tear_8 : decode cX5_tear 8 = .ok (.iconst 0, 1) := by decide +kernel
theorem dX5_tear_9 : decode cX5_tear 9 = .ok (.goto 4, 3) := by decide +kernel
theorem dX5_tear_12 : decode cX5_tear 12 = .ok (.iconst 1, 1) := by decide +kernel
theorem dX5_tear_13 : decode cX5_tear 13 = .ok (.invokevirtual 69, 3) := by decide +kernel
theorem dX5_tear_16 : decode cX5_tear 16 = .ok (.ifCond .eq 5, 3) := by decide +kernel
theorem dX5_tear_19 : decode cX5_tear 19 = .ok (.iconst 0, 1) := by decide +kernel
theorem dX5_tear_20 : decode cX5_tear 20 = .ok (.ireturn, 1) := by decide +kernel
theorem dX5_tear_21 : decode cX5_tear 21 = .ok (.aload_n 0, 1) := by decide +kernel
theorem dX5_tear_22 : decode cX5_tear 22 = .ok (.invokevirtual 72, 3) := by decide +kernel
theorem dX5_tear_25 : decode cX5_tear 25 = .ok (.aload_n 0, 1) := by decide +kernel
theorem dX5_tear_26 : decode cX5_tear 26 = .ok (.getfield 7, 3) := by decide +kernel
theorem dX5_tear_29 : decode cX5_tear 29 = .ok (.iconst 0, 1) := by decide +kernel
theorem dX5_tear_30 : decode cX5_tear 30 = .ok (.iload_n 1, 1) := by decide +kernel
theorem dX5_tear_31 : decode cX5_tear 31 = .ok (.iadd, 1) := by decide +kernel
theorem dX5_tear_32 : decode cX5_tear 32 = .ok (.iaload, 1) := by decide +kernel
theorem dX5_tear_33 : decode cX5_tear 33 = .ok (.istore_n 2, 1) := by decide +kernel
theorem dX5_tear_34 : decode cX5_tear 34 = .ok (.aload_n 0, 1) := by decide +kernel
theorem dX5_tear_35 : decode cX5_tear 35 = .ok (.getfield 7, 3) := by decide +kernel
theorem dX5_tear_38 : decode cX5_tear 38 = .ok (.iconst 0, 1) := by decide +kernel
theorem dX5_tear_39 : decode cX5_tear 39 = .ok (.iload_n 1, 1) := by decide +kernel
theorem dX5_tear_40 : decode cX5_tear 40 = .ok (.iadd, 1) := by decide +kernel
theorem dX5_tear_41 : decode cX5_tear 41 = .ok (.iconst 0, 1) := by decide +kernel
theorem dX5_tear_42 : decode cX5_tear 42 = .ok (.iastore, 1) := by decide +kernel
theorem dX5_tear_43 : decode cX5_tear 43 = .ok (.aload_n 0, 1) := by decide +kernel
theorem dX5_tear_44 : decode cX5_tear 44 = .ok (.getfield 7, 3) := by decide +kernel
theorem dX5_tear_47 : decode cX5_tear 47 = .ok (.bipush 36, 2) := by decide +kernel
theorem dX5_tear_49 : decode cX5_tear 49 = .ok (.iload_n 1, 1) := by decide +kernel
theorem dX5_tear_50 : decode cX5_tear 50 = .ok (.iadd, 1) := by decide +kernel
theorem dX5_tear_51 : decode cX5_tear 51 = .ok (.iconst 0, 1) := by decide +kernel
theorem dX5_tear_52 : decode cX5_tear 52 = .ok (.iastore, 1) := by decide +kernel
theorem dX5_tear_53 : decode cX5_tear 53 = .ok (.iload_n 2, 1) := by decide +kernel
theorem dX5_tear_54 : decode cX5_tear 54 = .ok (.ireturn, 1) := by decide +kernel
set_option maxRecDepth 20000 in
theorem ggX5_hour_X5_in : GoodIn wsX5_hour wsX5_in := goodIn_r _ [5] (by decide +kernel) (by decide +kernel)
set_option maxRecDepth 20000 in
theorem gX5_hour_X5_in : GoodIn wsX5_hour (va_wsS RX5 30 yX5_in wsX5_in) := goodIn_app (goodIn_of _ (by decide +kernel)) ggX5_hour_X5_in
set_option maxRecDepth 20000 in
theorem ggX5_hour_X5_throwsAt : GoodIn wsX5_hour wsX5_throwsAt := goodIn_r _ [9, 10, 17, 18, 19, 20, 21, 22, 23, 24, 25] (by decide +kernel) (by decide +kernel)
set_option maxRecDepth 20000 in
theorem gX5_hour_X5_throwsAt : GoodIn wsX5_hour (wsV RX5 69 RX5 yX5_throwsAt wsX5_throwsAt) := goodIn_app (goodIn_of _ (by decide +kernel)) ggX5_hour_X5_throwsAt
set_option maxRecDepth 20000 in
theorem ggX5_hour_X5_saves : GoodIn wsX5_hour wsX5_saves := goodIn_r _ [14, 15, 16, 1, 17, 18, 19, 20, 21, 22, 23, 24, 25] (by decide +kernel) (by decide +kernel)
set_option maxRecDepth 20000 in
theorem gX5_hour_X5_saves : GoodIn wsX5_hour (wsV RX5 72 RX5 yX5_saves wsX5_saves) := goodIn_app (goodIn_of _ (by decide +kernel)) ggX5_hour_X5_saves
theorem dX5_hour_0 : decode cX5_hour 0 = .ok (.aload_n 0, 1) := by decide +kernel
theorem dX5_hour_1 : decode cX5_hour 1 = .ok (.iload_n 1, 1) := by decide +kernel
theorem dX5_hour_2 : decode cX5_hour 2 = .ok (.iconst 0, 1) := by decide +kernel
theorem dX5_hour_3 : decode cX5_hour 3 = .ok (.bipush 11, 2) := by decide +kernel
theorem dX5_hour_5 : decode cX5_hour 5 = .ok (.invokestatic 30, 3) := by decide +kernel
theorem dX5_hour_8 : decode cX5_hour 8 = .ok (.ifCond .eq 7, 3) := by decide +kernel
theorem dX5_hour_11 : decode cX5_hour 11 = .ok (.iconst 0, 1) := by decide +kernel
theorem dX5_hour_12 : decode cX5_hour 12 = .ok (.goto 4, 3) := by decide +kernel
theorem dX5_hour_15 : decode cX5_hour 15 = .ok (.iconst 1, 1) := by decide +kernel
theorem dX5_hour_16 : decode cX5_hour 16 = .ok (.invokevirtual 69, 3) := by decide +kernel
theorem dX5_hour_19 : decode cX5_hour 19 = .ok (.ifCond .eq 5, 3) := by decide +kernel
theorem dX5_hour_22 : decode cX5_hour 22 = .ok (.iconst 0, 1) := by decide +kernel
theorem dX5_hour_23 : decode cX5_hour 23 = .ok (.ireturn, 1) := by decide +kernel
theorem dX5_hour_24 : decode cX5_hour 24 = .ok (.aload_n 0, 1) := by decide +kernel
theorem dX5_hour_25 : decode cX5_hour 25 = .ok (.invokevirtual 72, 3) := by decide +kernel
theorem dX5_hour_28 : decode cX5_hour 28 = .ok (.aload_n 0, 1) := by decide +kernel
theorem dX5_hour_29 : decode cX5_hour 29 = .ok (.getfield 7, 3) := by decide +kernel
theorem dX5_hour_32 : decode cX5_hour 32 = .ok (.bipush 108, 2) := by decide +kernel
theorem dX5_hour_34 : decode cX5_hour 34 = .ok (.iaload, 1) := by decide +kernel
theorem dX5_hour_35 : decode cX5_hour 35 = .ok (.istore_n 2, 1) := by decide +kernel
theorem dX5_hour_36 : decode cX5_hour 36 = .ok (.aload_n 0, 1) := by decide +kernel
theorem dX5_hour_37 : decode cX5_hour 37 = .ok (.getfield 7, 3) := by decide +kernel
theorem dX5_hour_40 : decode cX5_hour 40 = .ok (.bipush 108, 2) := by decide +kernel
theorem dX5_hour_42 : decode cX5_hour 42 = .ok (.iload_n 1, 1) := by decide +kernel
theorem dX5_hour_43 : decode cX5_hour 43 = .ok (.iastore, 1) := by decide +kernel
theorem dX5_hour_44 : decode cX5_hour 44 = .ok (.iload_n 2, 1) := by decide +kernel
theorem dX5_hour_45 : decode cX5_hour 45 = .ok (.ireturn, 1) := by decide +kernel
theorem dX5_towers_0 : decode cX5_towers 0 = .ok (.iconst 0, 1) := by decide +kernel
theorem dX5_towers_1 : decode cX5_towers 1 = .ok (.istore_n 2, 1) := by decide +kernel
theorem dX5_towers_2 : decode cX5_towers 2 = .ok (.iconst 0, 1) := by decide +kernel
theorem dX5_towers_3 : decode cX5_towers 3 = .ok (.istore_n 3, 1) := by decide +kernel
theorem dX5_towers_4 : decode cX5_towers 4 = .ok (.iload_n 3, 1) := by decide +kernel
theorem dX5_towers_5 : decode cX5_towers 5 = .ok (.bipush 36, 2) := by decide +kernel
theorem dX5_towers_7 : decode cX5_towers 7 = .ok (.if_icmp .ge 32, 3) := by decide +kernel
theorem dX5_towers_10 : decode cX5_towers 10 = .ok (.iload_n 2, 1) := by decide +kernel
theorem dX5_towers_11 : decode cX5_towers 11 = .ok (.aload_n 0, 1) := by decide +kernel
theorem dX5_towers_12 : decode cX5_towers 12 = .ok (.getfield 7, 3) := by decide +kernel
theorem dX5_towers_15 : decode cX5_towers 15 = .ok (.bipush 36, 2) := by decide +kernel
theorem dX5_towers_17 : decode cX5_towers 17 = .ok (.iload_n 3, 1) := by decide +kernel
theorem dX5_towers_18 : decode cX5_towers 18 = .ok (.iadd, 1) := by decide +kernel
theorem dX5_towers_19 : decode cX5_towers 19 = .ok (.iaload, 1) := by decide +kernel
theorem dX5_towers_20 : decode cX5_towers 20 = .ok (.iload_n 1, 1) := by decide +kernel
theorem dX5_towers_21 : decode cX5_towers 21 = .ok (.iconst 1, 1) := by decide +kernel
theorem dX5_towers_22 : decode cX5_towers 22 = .ok (.iadd, 1) := by decide +kernel
theorem dX5_towers_23 : decode cX5_towers 23 = .ok (.if_icmp .ne 7, 3) := by decide +kernel
theorem dX5_towers_26 : decode cX5_towers 26 = .ok (.iconst 1, 1) := by decide +kernel
theorem dX5_towers_27 : decode cX5_towers 27 = .ok (.goto 4, 3) := by decide +kernel
theorem dX5_towers_30 : decode cX5_towers 30 = .ok (.iconst 0, 1) := by decide +kernel
theorem dX5_towers_31 : decode cX5_towers 31 = .ok (.iadd, 1) := by decide +kernel
theorem dX5_towers_32 : decode cX5_towers 32 = .ok (.istore_n 2, 1) := by decide +kernel
theorem dX5_towers_33 : decode cX5_towers 33 = .ok (.iinc 3 1, 3) := by decide +kernel
theorem dX5_towers_36 : decode cX5_towers 36 = .ok (.goto (-32), 3) := by decide +kernel
theorem dX5_towers_39 : decode cX5_towers 39 = .ok (.iload_n 2, 1) := by decide +kernel
theorem dX5_towers_40 : decode cX5_towers 40 = .ok (.ireturn, 1) := by decide +kernel
set_option maxRecDepth 20000 in
theorem ggX5_append_X5_in : GoodIn wsX5_append wsX5_in := goodIn_r _ [6] (by decide +kernel) (by decide +kernel)
set_option maxRecDepth 20000 in
theorem gX5_append_X5_in : GoodIn wsX5_append (va_wsS RX5 30 yX5_in wsX5_in) := goodIn_app (goodIn_of _ (by decide +kernel)) ggX5_append_X5_in
set_option maxRecDepth 20000 in
theorem ggX5_append_X5_throwsAt : GoodIn wsX5_append wsX5_throwsAt := goodIn_r _ [10, 11, 12, 13, 14, 15, 16, 17, 18, 19, 20] (by decide +kernel) (by decide +kernel)
set_option maxRecDepth 20000 in
theorem gX5_append_X5_throwsAt : GoodIn wsX5_append (wsV RX5 69 RX5 yX5_throwsAt wsX5_throwsAt) := goodIn_app (goodIn_of _ (by decide +kernel)) ggX5_append_X5_throwsAt
theorem dX5_append_0 : decode cX5_append 0 = .ok (.aload_n 0, 1) := by decide +kernel
theorem dX5_append_1 : decode cX5_append 1 = .ok (.iload_n 1, 1) := by decide +kernel
theorem dX5_append_2 : decode cX5_append 2 = .ok (.bipush 33, 2) := by decide +kernel
theorem dX5_append_4 : decode cX5_append 4 = .ok (.bipush 126, 2) := by decide +kernel
theorem dX5_append_6 : decode cX5_append 6 = .ok (.invokestatic 30, 3) := by decide +kernel
theorem dX5_append_9 : decode cX5_append 9 = .ok (.ifCond .ne 7, 3) := by decide +kernel
theorem dX5_append_12 : decode cX5_append 12 = .ok (.iconst 1, 1) := by decide +kernel
theorem dX5_append_13 : decode cX5_append 13 = .ok (.goto 17, 3) := by decide +kernel
theorem dX5_append_16 : decode cX5_append 16 = .ok (.aload_n 0, 1) := by decide +kernel
theorem dX5_append_17 : decode cX5_append 17 = .ok (.getfield 85, 3) := by decide +kernel
theorem dX5_append_20 : decode cX5_append 20 = .ok (.bipush 60, 2) := by decide +kernel
theorem dX5_append_22 : decode cX5_append 22 = .ok (.if_icmp .ne 7, 3) := by decide +kernel
theorem dX5_append_25 : decode cX5_append 25 = .ok (.iconst 2, 1) := by decide +kernel
theorem dX5_append_26 : decode cX5_append 26 = .ok (.goto 4, 3) := by decide +kernel
theorem dX5_append_29 : decode cX5_append 29 = .ok (.iconst 0, 1) := by decide +kernel
theorem dX5_append_30 : decode cX5_append 30 = .ok (.invokevirtual 69, 3) := by decide +kernel
theorem dX5_append_33 : decode cX5_append 33 = .ok (.ifCond .eq 5, 3) := by decide +kernel
theorem dX5_append_36 : decode cX5_append 36 = .ok (.iconst 0, 1) := by decide +kernel
theorem dX5_append_37 : decode cX5_append 37 = .ok (.ireturn, 1) := by decide +kernel
theorem dX5_append_38 : decode cX5_append 38 = .ok (.aload_n 0, 1) := by decide +kernel
theorem dX5_append_39 : decode cX5_append 39 = .ok (.getfield 23, 3) := by decide +kernel
theorem dX5_append_42 : decode cX5_append 42 = .ok (.aload_n 0, 1) := by decide +kernel
theorem dX5_append_43 : decode cX5_append 43 = .ok (.getfield 85, 3) := by decide +kernel
theorem dX5_append_46 : decode cX5_append 46 = .ok (.iload_n 1, 1) := by decide +kernel
theorem dX5_append_47 : decode cX5_append 47 = .ok (.iastore, 1) := by decide +kernel
theorem dX5_append_48 : decode cX5_append 48 = .ok (.aload_n 0, 1) := by decide +kernel
theorem dX5_append_49 : decode cX5_append 49 = .ok (.dup, 1) := by decide +kernel
theorem dX5_append_50 : decode cX5_append 50 = .ok (.getfield 85, 3) := by decide +kernel
theorem dX5_append_53 : decode cX5_append 53 = .ok (.iconst 1, 1) := by decide +kernel
theorem dX5_append_54 : decode cX5_append 54 = .ok (.iadd, 1) := by decide +kernel
theorem dX5_append_55 : decode cX5_append 55 = .ok (.putfield 85, 3) := by decide +kernel
theorem dX5_append_58 : decode cX5_append 58 = .ok (.aload_n 0, 1) := by decide +kernel
theorem dX5_append_59 : decode cX5_append 59 = .ok (.getfield 85, 3) := by decide +kernel
theorem dX5_append_62 : decode cX5_append 62 = .ok (.ireturn, 1) := by decide +kernel
theorem dX5_clearBuffer_0 : decode cX5_clearBuffer 0 = .ok (.aload_n 0, 1) := by decide +kernel
theorem dX5_clearBuffer_1 : decode cX5_clearBuffer 1 = .ok (.iconst 0, 1) := by decide +kernel
theorem dX5_clearBuffer_2 : decode cX5_clearBuffer 2 = .ok (.putfield 26, 3) := by decide +kernel
theorem dX5_clearBuffer_5 : decode cX5_clearBuffer 5 = .ok (.aload_n 0, 1) := by decide +kernel
theorem dX5_clearBuffer_6 : decode cX5_clearBuffer 6 = .ok (.getfield 85, 3) := by decide +kernel
theorem dX5_clearBuffer_9 : decode cX5_clearBuffer 9 = .ok (.istore_n 1, 1) := by decide +kernel
theorem dX5_clearBuffer_10 : decode cX5_clearBuffer 10 = .ok (.aload_n 0, 1) := by decide +kernel
theorem dX5_clearBuffer_11 : decode cX5_clearBuffer 11 = .ok (.iconst 0, 1) := by decide +kernel
theorem dX5_clearBuffer_12 : decode cX5_clearBuffer 12 = .ok (.putfield 85, 3) := by decide +kernel
theorem dX5_clearBuffer_15 : decode cX5_clearBuffer 15 = .ok (.iload_n 1, 1) := by decide +kernel
theorem dX5_clearBuffer_16 : decode cX5_clearBuffer 16 = .ok (.ireturn, 1) := by decide +kernel
set_option maxRecDepth 20000 in
theorem ggX5_fits_X5_in : GoodIn wsX5_fits wsX5_in := goodIn_r _ [5] (by decide +kernel) (by decide +kernel)
set_option maxRecDepth 20000 in
theorem gX5_fits_X5_in : GoodIn wsX5_fits (va_wsS RX5 30 yX5_in wsX5_in) := goodIn_app (goodIn_of _ (by decide +kernel)) ggX5_fits_X5_in
theorem dX5_fits_0 : decode cX5_fits 0 = .ok (.aload_n 0, 1) := by decide +kernel
theorem dX5_fits_1 : decode cX5_fits 1 = .ok (.getfield 23, 3) := by decide +kernel
theorem dX5_fits_4 : decode cX5_fits 4 = .ok (.iload_n 1, 1) := by decide +kernel
theorem dX5_fits_5 : decode cX5_fits 5 = .ok (.iaload, 1) := by decide +kernel
theorem dX5_fits_6 : decode cX5_fits 6 = .ok (.istore_n 2, 1) := by decide +kernel
theorem dX5_fits_7 : decode cX5_fits 7 = .ok (.iload_n 1, 1) := by decide +kernel
theorem dX5_fits_8 : decode cX5_fits 8 = .ok (.iconst 5, 1) := by decide +kernel
theorem dX5_fits_9 : decode cX5_fits 9 = .ok (.irem, 1) := by decide +kernel
theorem dX5_fits_10 : decode cX5_fits 10 = .ok (.tableswitch 99 0 3 #[30, 39, 48, 72], 30) := by decide +kernel
theorem dX5_fits_40 : decode cX5_fits 40 = .ok (.iload_n 2, 1) := by decide +kernel
theorem dX5_fits_41 : decode cX5_fits 41 = .ok (.bipush 97, 2) := by decide +kernel
theorem dX5_fits_43 : decode cX5_fits 43 = .ok (.bipush 102, 2) := by decide +kernel
theorem dX5_fits_45 : decode cX5_fits 45 = .ok (.invokestatic 30, 3) := by decide +kernel
theorem dX5_fits_48 : decode cX5_fits 48 = .ok (.ireturn, 1) := by decide +kernel
theorem dX5_fits_49 : decode cX5_fits 49 = .ok (.iload_n 2, 1) := by decide +kernel
theorem dX5_fits_50 : decode cX5_fits 50 = .ok (.bipush 49, 2) := by decide +kernel
theorem dX5_fits_52 : decode cX5_fits 52 = .ok (.bipush 54, 2) := by decide +kernel
theorem dX5_fits_54 : decode cX5_fits 54 = .ok (.invokestatic 30, 3) := by decide +kernel
theorem dX5_fits_57 : decode cX5_fits 57 = .ok (.ireturn, 1) := by decide +kernel
theorem dX5_fits_58 : decode cX5_fits 58 = .ok (.iload_n 2, 1) := by decide +kernel
theorem dX5_fits_59 : decode cX5_fits 59 = .ok (.bipush 43, 2) := by decide +kernel
theorem dX5_fits_61 : decode cX5_fits 61 = .ok (.if_icmp .eq 15, 3) := by decide +kernel
theorem dX5_fits_64 : decode cX5_fits 64 = .ok (.iload_n 2, 1) := by decide +kernel
theorem dX5_fits_65 : decode cX5_fits 65 = .ok (.bipush 45, 2) := by decide +kernel
theorem dX5_fits_67 : decode cX5_fits 67 = .ok (.if_icmp .eq 9, 3) := by decide +kernel
theorem dX5_fits_70 : decode cX5_fits 70 = .ok (.iload_n 2, 1) := by decide +kernel
theorem dX5_fits_71 : decode cX5_fits 71 = .ok (.bipush 61, 2) := by decide +kernel
theorem dX5_fits_73 : decode cX5_fits 73 = .ok (.if_icmp .ne 7, 3) := by decide +kernel
theorem dX5_fits_76 : decode cX5_fits 76 = .ok (.iconst 1, 1) := by decide +kernel
theorem dX5_fits_77 : decode cX5_fits 77 = .ok (.goto 4, 3) := by decide +kernel
theorem dX5_fits_80 : decode cX5_fits 80 = .ok (.iconst 0, 1) := by decide +kernel
theorem dX5_fits_81 : decode cX5_fits 81 = .ok (.ireturn, 1) := by decide +kernel
theorem dX5_fits_82 : decode cX5_fits 82 = .ok (.iload_n 2, 1) := by decide +kernel
theorem dX5_fits_83 : decode cX5_fits 83 = .ok (.aload_n 0, 1) := by decide +kernel
theorem dX5_fits_84 : decode cX5_fits 84 = .ok (.getfield 23, 3) := by decide +kernel
theorem dX5_fits_87 : decode cX5_fits 87 = .ok (.iload_n 1, 1) := by decide +kernel
theorem dX5_fits_88 : decode cX5_fits 88 = .ok (.iconst 1, 1) := by decide +kernel
theorem dX5_fits_89 : decode cX5_fits 89 = .ok (.isub, 1) := by decide +kernel
theorem dX5_fits_90 : decode cX5_fits 90 = .ok (.iaload, 1) := by decide +kernel
theorem dX5_fits_91 : decode cX5_fits 91 = .ok (.bipush 61, 2) := by decide +kernel
theorem dX5_fits_93 : decode cX5_fits 93 = .ok (.if_icmp .ne 8, 3) := by decide +kernel
theorem dX5_fits_96 : decode cX5_fits 96 = .ok (.bipush 48, 2) := by decide +kernel
theorem dX5_fits_98 : decode cX5_fits 98 = .ok (.goto 5, 3) := by decide +kernel
theorem dX5_fits_101 : decode cX5_fits 101 = .ok (.bipush 49, 2) := by decide +kernel
theorem dX5_fits_103 : decode cX5_fits 103 = .ok (.bipush 57, 2) := by decide +kernel
theorem dX5_fits_105 : decode cX5_fits 105 = .ok (.invokestatic 30, 3) := by decide +kernel
theorem dX5_fits_108 : decode cX5_fits 108 = .ok (.ireturn, 1) := by decide +kernel
theorem dX5_fits_109 : decode cX5_fits 109 = .ok (.iload_n 2, 1) := by decide +kernel
theorem dX5_fits_110 : decode cX5_fits 110 = .ok (.bipush 59, 2) := by decide +kernel
theorem dX5_fits_112 : decode cX5_fits 112 = .ok (.if_icmp .ne 7, 3) := by decide +kernel
theorem dX5_fits_115 : decode cX5_fits 115 = .ok (.iconst 1, 1) := by decide +kernel
theorem dX5_fits_116 : decode cX5_fits 116 = .ok (.goto 4, 3) := by decide +kernel
theorem dX5_fits_119 : decode cX5_fits 119 = .ok (.iconst 0, 1) := by decide +kernel
theorem dX5_fits_120 : decode cX5_fits 120 = .ok (.ireturn, 1) := by decide +kernel
set_option maxRecDepth 20000 in
theorem ggX5_errorAt_X5_fits : GoodIn wsX5_errorAt wsX5_fits := goodIn_r _ [6, 7, 8, 9, 5, 10, 11, 12, 13, 14, 15, 16, 17, 18, 19] (by decide +kernel) (by decide +kernel)
set_option maxRecDepth 20000 in
theorem gX5_errorAt_X5_fits : GoodIn wsX5_errorAt (wsV RX5 88 RX5 yX5_fits wsX5_fits) := goodIn_app (goodIn_of _ (by decide +kernel)) ggX5_errorAt_X5_fits
theorem dX5_errorAt_0 : decode cX5_errorAt 0 = .ok (.iconst 0, 1) := by decide +kernel
theorem dX5_errorAt_1 : decode cX5_errorAt 1 = .ok (.istore_n 1, 1) := by decide +kernel
theorem dX5_errorAt_2 : decode cX5_errorAt 2 = .ok (.iload_n 1, 1) := by decide +kernel
theorem dX5_errorAt_3 : decode cX5_errorAt 3 = .ok (.aload_n 0, 1) := by decide +kernel
theorem dX5_errorAt_4 : decode cX5_errorAt 4 = .ok (.getfield 85, 3) := by decide +kernel
theorem dX5_errorAt_7 : decode cX5_errorAt 7 = .ok (.if_icmp .ge 19, 3) := by decide +kernel
theorem dX5_errorAt_10 : decode cX5_errorAt 10 = .ok (.aload_n 0, 1) := by decide +kernel
theorem dX5_errorAt_11 : decode cX5_errorAt 11 = .ok (.iload_n 1, 1) := by decide +kernel
theorem dX5_errorAt_12 : decode cX5_errorAt 12 = .ok (.invokevirtual 88, 3) := by decide +kernel
theorem dX5_errorAt_15 : decode cX5_errorAt 15 = .ok (.ifCond .ne 5, 3) := by decide +kernel
theorem dX5_errorAt_18 : decode cX5_errorAt 18 = .ok (.iload_n 1, 1) := by decide +kernel
theorem dX5_errorAt_19 : decode cX5_errorAt 19 = .ok (.ireturn, 1) := by decide +kernel
theorem dX5_errorAt_20 : decode cX5_errorAt 20 = .ok (.iinc 1 1, 3) := by decide +kernel
theorem dX5_errorAt_23 : decode cX5_errorAt 23 = .ok (.goto (-21), 3) := by decide +kernel
theorem dX5_errorAt_26 : decode cX5_errorAt 26 = .ok (.aload_n 0, 1) := by decide +kernel
theorem dX5_errorAt_27 : decode cX5_errorAt 27 = .ok (.getfield 85, 3) := by decide +kernel
theorem dX5_errorAt_30 : decode cX5_errorAt 30 = .ok (.ireturn, 1) := by decide +kernel
set_option maxRecDepth 20000 in
theorem ggX5_firstError_X5_errorAt : GoodIn wsX5_firstError wsX5_errorAt := goodIn_r _ [6, 7, 8, 9, 10, 5, 11, 12, 13, 14, 15, 16, 17, 18, 19, 20, 21, 22, 23, 24] (by decide +kernel) (by decide +kernel)
set_option maxRecDepth 20000 in
theorem gX5_firstError_X5_errorAt : GoodIn wsX5_firstError (wsV RX5 91 RX5 yX5_errorAt wsX5_errorAt) := goodIn_app (goodIn_of _ (by decide +kernel)) ggX5_firstError_X5_errorAt
theorem dX5_firstError_0 : decode cX5_firstError 0 = .ok (.aload_n 0, 1) := by decide +kernel
theorem dX5_firstError_1 : decode cX5_firstError 1 = .ok (.iconst 0, 1) := by decide +kernel
theorem dX5_firstError_2 : decode cX5_firstError 2 = .ok (.putfield 26, 3) := by decide +kernel
theorem dX5_firstError_5 : decode cX5_firstError 5 = .ok (.aload_n 0, 1) := by decide +kernel
theorem dX5_firstError_6 : decode cX5_firstError 6 = .ok (.invokevirtual 91, 3) := by decide +kernel
theorem dX5_firstError_9 : decode cX5_firstError 9 = .ok (.ireturn, 1) := by decide +kernel
set_option maxRecDepth 20000 in
theorem ggX5_load_X5_errorAt : GoodIn wsX5_load wsX5_errorAt := goodIn_r _ [8, 1, 9, 10, 11, 7, 12, 2, 13, 14, 15, 31, 32, 33, 34, 35, 36, 37, 38, 39] (by decide +kernel) (by decide +kernel)
set_option maxRecDepth 20000 in
theorem gX5_load_X5_errorAt : GoodIn wsX5_load (wsV RX5 91 RX5 yX5_errorAt wsX5_errorAt) := goodIn_app (goodIn_of _ (by decide +kernel)) ggX5_load_X5_errorAt
set_option maxRecDepth 20000 in
theorem ggX5_load_X5_throwsAt : GoodIn wsX5_load wsX5_throwsAt := goodIn_r _ [19, 20, 31, 32, 33, 34, 35, 36, 37, 38, 39] (by decide +kernel) (by decide +kernel)
set_option maxRecDepth 20000 in
theorem gX5_load_X5_throwsAt : GoodIn wsX5_load (wsV RX5 69 RX5 yX5_throwsAt wsX5_throwsAt) := goodIn_app (goodIn_of _ (by decide +kernel)) ggX5_load_X5_throwsAt
set_option maxRecDepth 20000 in
theorem ggX5_load_X5_saves : GoodIn wsX5_load wsX5_saves := goodIn_r _ [24, 25, 26, 3, 31, 32, 33, 34, 35, 36, 37, 38, 39] (by decide +kernel) (by decide +kernel)
set_option maxRecDepth 20000 in
theorem gX5_load_X5_saves : GoodIn wsX5_load (wsV RX5 72 RX5 yX5_saves wsX5_saves) := goodIn_app (goodIn_of _ (by decide +kernel)) ggX5_load_X5_saves
set_option maxRecDepth 20000 in
theorem ggX5_load_X5_towers : GoodIn wsX5_load wsX5_towers := goodIn_r _ [30, 3, 31, 32, 33, 34, 35, 36, 37, 38, 39] (by decide +kernel) (by decide +kernel)
set_option maxRecDepth 20000 in
theorem gX5_load_X5_towers : GoodIn wsX5_load (wsV RX5 95 RX5 yX5_towers wsX5_towers) := goodIn_app (goodIn_of _ (by decide +kernel)) ggX5_load_X5_towers
theorem dX5_load_0 : decode cX5_load 0 = .ok (.aload_n 0, 1) := by decide +kernel
theorem dX5_load_1 : decode cX5_load 1 = .ok (.aload_n 0, 1) := by decide +kernel
theorem dX5_load_2 : decode cX5_load 2 = .ok (.invokevirtual 91, 3) := by decide +kernel
theorem dX5_load_5 : decode cX5_load 5 = .ok (.aload_n 0, 1) := by decide +kernel
theorem dX5_load_6 : decode cX5_load 6 = .ok (.getfield 85, 3) := by decide +kernel
theorem dX5_load_9 : decode cX5_load 9 = .ok (.if_icmp .ne 17, 3) := by decide +kernel
theorem dX5_load_12 : decode cX5_load 12 = .ok (.aload_n 0, 1) := by decide +kernel
theorem dX5_load_13 : decode cX5_load 13 = .ok (.getfield 85, 3) := by decide +kernel
theorem dX5_load_16 : decode cX5_load 16 = .ok (.iconst 5, 1) := by decide +kernel
theorem dX5_load_17 : decode cX5_load 17 = .ok (.irem, 1) := by decide +kernel
theorem dX5_load_18 : decode cX5_load 18 = .ok (.iconst 4, 1) := by decide +kernel
theorem dX5_load_19 : decode cX5_load 19 = .ok (.if_icmp .ne 7, 3) := by decide +kernel
theorem dX5_load_22 : decode cX5_load 22 = .ok (.iconst 0, 1) := by decide +kernel
theorem dX5_load_23 : decode cX5_load 23 = .ok (.goto 4, 3) := by decide +kernel
theorem dX5_load_26 : decode cX5_load 26 = .ok (.iconst 1, 1) := by decide +kernel
theorem dX5_load_27 : decode cX5_load 27 = .ok (.invokevirtual 69, 3) := by decide +kernel
theorem dX5_load_30 : decode cX5_load 30 = .ok (.ifCond .eq 5, 3) := by decide +kernel
theorem dX5_load_33 : decode cX5_load 33 = .ok (.iconst 0, 1) := by decide +kernel
theorem dX5_load_34 : decode cX5_load 34 = .ok (.ireturn, 1) := by decide +kernel
theorem dX5_load_35 : decode cX5_load 35 = .ok (.aload_n 0, 1) := by decide +kernel
theorem dX5_load_36 : decode cX5_load 36 = .ok (.invokevirtual 72, 3) := by decide +kernel
theorem dX5_load_39 : decode cX5_load 39 = .ok (.iconst 0, 1) := by decide +kernel
theorem dX5_load_40 : decode cX5_load 40 = .ok (.istore_n 1, 1) := by decide +kernel
theorem dX5_load_41 : decode cX5_load 41 = .ok (.iload_n 1, 1) := by decide +kernel
theorem dX5_load_42 : decode cX5_load 42 = .ok (.aload_n 0, 1) := by decide +kernel
theorem dX5_load_43 : decode cX5_load 43 = .ok (.getfield 85, 3) := by decide +kernel
theorem dX5_load_46 : decode cX5_load 46 = .ok (.if_icmp .ge 108, 3) := by decide +kernel
theorem dX5_load_49 : decode cX5_load 49 = .ok (.bipush 6, 2) := by decide +kernel
theorem dX5_load_51 : decode cX5_load 51 = .ok (.aload_n 0, 1) := by decide +kernel
theorem dX5_load_52 : decode cX5_load 52 = .ok (.getfield 23, 3) := by decide +kernel
theorem dX5_load_55 : decode cX5_load 55 = .ok (.iload_n 1, 1) := by decide +kernel
theorem dX5_load_56 : decode cX5_load 56 = .ok (.iaload, 1) := by decide +kernel
theorem dX5_load_57 : decode cX5_load 57 = .ok (.bipush 97, 2) := by decide +kernel
theorem dX5_load_59 : decode cX5_load 59 = .ok (.isub, 1) := by decide +kernel
theorem dX5_load_60 : decode cX5_load 60 = .ok (.imul, 1) := by decide +kernel
theorem dX5_load_61 : decode cX5_load 61 = .ok (.aload_n 0, 1) := by decide +kernel
theorem dX5_load_62 : decode cX5_load 62 = .ok (.getfield 23, 3) := by decide +kernel
theorem dX5_load_65 : decode cX5_load 65 = .ok (.iload_n 1, 1) := by decide +kernel
theorem dX5_load_66 : decode cX5_load 66 = .ok (.iconst 1, 1) := by decide +kernel
theorem dX5_load_67 : decode cX5_load 67 = .ok (.iadd, 1) := by decide +kernel
theorem dX5_load_68 : decode cX5_load 68 = .ok (.iaload, 1) := by decide +kernel
theorem dX5_load_69 : decode cX5_load 69 = .ok (.iadd, 1) := by decide +kernel
theorem dX5_load_70 : decode cX5_load 70 = .ok (.bipush 49, 2) := by decide +kernel
theorem dX5_load_72 : decode cX5_load 72 = .ok (.isub, 1) := by decide +kernel
theorem dX5_load_73 : decode cX5_load 73 = .ok (.istore_n 2, 1) := by decide +kernel
theorem dX5_load_74 : decode cX5_load 74 = .ok (.aload_n 0, 1) := by decide +kernel
theorem dX5_load_75 : decode cX5_load 75 = .ok (.getfield 23, 3) := by decide +kernel
theorem dX5_load_78 : decode cX5_load 78 = .ok (.iload_n 1, 1) := by decide +kernel
theorem dX5_load_79 : decode cX5_load 79 = .ok (.iconst 3, 1) := by decide +kernel
theorem dX5_load_80 : decode cX5_load 80 = .ok (.iadd, 1) := by decide +kernel
theorem dX5_load_81 : decode cX5_load 81 = .ok (.iaload, 1) := by decide +kernel
theorem dX5_load_82 : decode cX5_load 82 = .ok (.bipush 48, 2) := by decide +kernel
theorem dX5_load_84 : decode cX5_load 84 = .ok (.isub, 1) := by decide +kernel
theorem dX5_load_85 : decode cX5_load 85 = .ok (.istore_n 3, 1) := by decide +kernel
theorem dX5_load_86 : decode cX5_load 86 = .ok (.aload_n 0, 1) := by decide +kernel
theorem dX5_load_87 : decode cX5_load 87 = .ok (.getfield 23, 3) := by decide +kernel
theorem dX5_load_90 : decode cX5_load 90 = .ok (.iload_n 1, 1) := by decide +kernel
theorem dX5_load_91 : decode cX5_load 91 = .ok (.iconst 2, 1) := by decide +kernel
theorem dX5_load_92 : decode cX5_load 92 = .ok (.iadd, 1) := by decide +kernel
theorem dX5_load_93 : decode cX5_load 93 = .ok (.iaload, 1) := by decide +kernel
theorem dX5_load_94 : decode cX5_load 94 = .ok (.bipush 61, 2) := by decide +kernel
theorem dX5_load_96 : decode cX5_load 96 = .ok (.if_icmp .ne 16, 3) := by decide +kernel
theorem dX5_load_99 : decode cX5_load 99 = .ok (.aload_n 0, 1) := by decide +kernel
theorem dX5_load_100 : decode cX5_load 100 = .ok (.getfield 7, 3) := by decide +kernel
theorem dX5_load_103 : decode cX5_load 103 = .ok (.bipush 72, 2) := by decide +kernel
theorem dX5_load_105 : decode cX5_load 105 = .ok (.iload_n 2, 1) := by decide +kernel
theorem dX5_load_106 : decode cX5_load 106 = .ok (.iadd, 1) := by decide +kernel
theorem dX5_load_107 : decode cX5_load 107 = .ok (.iload_n 3, 1) := by decide +kernel
theorem dX5_load_108 : decode cX5_load 108 = .ok (.iastore, 1) := by decide +kernel
theorem dX5_load_109 : decode cX5_load 109 = .ok (.goto 39, 3) := by decide +kernel
theorem dX5_load_112 : decode cX5_load 112 = .ok (.aload_n 0, 1) := by decide +kernel
theorem dX5_load_113 : decode cX5_load 113 = .ok (.getfield 7, 3) := by decide +kernel
theorem dX5_load_116 : decode cX5_load 116 = .ok (.bipush 36, 2) := by decide +kernel
theorem dX5_load_118 : decode cX5_load 118 = .ok (.iload_n 2, 1) := by decide +kernel
theorem dX5_load_119 : decode cX5_load 119 = .ok (.iadd, 1) := by decide +kernel
theorem dX5_load_120 : decode cX5_load 120 = .ok (.aload_n 0, 1) := by decide +kernel
theorem dX5_load_121 : decode cX5_load 121 = .ok (.getfield 23, 3) := by decide +kernel
theorem dX5_load_124 : decode cX5_load 124 = .ok (.iload_n 1, 1) := by decide +kernel
theorem dX5_load_125 : decode cX5_load 125 = .ok (.iconst 2, 1) := by decide +kernel
theorem dX5_load_126 : decode cX5_load 126 = .ok (.iadd, 1) := by decide +kernel
theorem dX5_load_127 : decode cX5_load 127 = .ok (.iaload, 1) := by decide +kernel
theorem dX5_load_128 : decode cX5_load 128 = .ok (.bipush 43, 2) := by decide +kernel
theorem dX5_load_130 : decode cX5_load 130 = .ok (.if_icmp .ne 7, 3) := by decide +kernel
theorem dX5_load_133 : decode cX5_load 133 = .ok (.iconst 1, 1) := by decide +kernel
theorem dX5_load_134 : decode cX5_load 134 = .ok (.goto 4, 3) := by decide +kernel
theorem dX5_load_137 : decode cX5_load 137 = .ok (.iconst 2, 1) := by decide +kernel
theorem dX5_load_138 : decode cX5_load 138 = .ok (.iastore, 1) := by decide +kernel
theorem dX5_load_139 : decode cX5_load 139 = .ok (.aload_n 0, 1) := by decide +kernel
theorem dX5_load_140 : decode cX5_load 140 = .ok (.getfield 7, 3) := by decide +kernel
theorem dX5_load_143 : decode cX5_load 143 = .ok (.iconst 0, 1) := by decide +kernel
theorem dX5_load_144 : decode cX5_load 144 = .ok (.iload_n 2, 1) := by decide +kernel
theorem dX5_load_145 : decode cX5_load 145 = .ok (.iadd, 1) := by decide +kernel
theorem dX5_load_146 : decode cX5_load 146 = .ok (.iload_n 3, 1) := by decide +kernel
theorem dX5_load_147 : decode cX5_load 147 = .ok (.iastore, 1) := by decide +kernel
theorem dX5_load_148 : decode cX5_load 148 = .ok (.iinc 1 5, 3) := by decide +kernel
theorem dX5_load_151 : decode cX5_load 151 = .ok (.goto (-110), 3) := by decide +kernel
theorem dX5_load_154 : decode cX5_load 154 = .ok (.aload_n 0, 1) := by decide +kernel
theorem dX5_load_155 : decode cX5_load 155 = .ok (.iconst 0, 1) := by decide +kernel
theorem dX5_load_156 : decode cX5_load 156 = .ok (.putfield 85, 3) := by decide +kernel
theorem dX5_load_159 : decode cX5_load 159 = .ok (.aload_n 0, 1) := by decide +kernel
theorem dX5_load_160 : decode cX5_load 160 = .ok (.iconst 0, 1) := by decide +kernel
theorem dX5_load_161 : decode cX5_load 161 = .ok (.invokevirtual 95, 3) := by decide +kernel
theorem dX5_load_164 : decode cX5_load 164 = .ok (.aload_n 0, 1) := by decide +kernel
theorem dX5_load_165 : decode cX5_load 165 = .ok (.iconst 1, 1) := by decide +kernel
theorem dX5_load_166 : decode cX5_load 166 = .ok (.invokevirtual 95, 3) := by decide +kernel
theorem dX5_load_169 : decode cX5_load 169 = .ok (.iadd, 1) := by decide +kernel
theorem dX5_load_170 : decode cX5_load 170 = .ok (.ireturn, 1) := by decide +kernel
set_option maxRecDepth 20000 in
theorem ggX5_keep_X5_in : GoodIn wsX5_keep wsX5_in := goodIn_r _ [7] (by decide +kernel) (by decide +kernel)
set_option maxRecDepth 20000 in
theorem gX5_keep_X5_in : GoodIn wsX5_keep (va_wsS RX5 30 yX5_in wsX5_in) := goodIn_app (goodIn_of _ (by decide +kernel)) ggX5_keep_X5_in
set_option maxRecDepth 20000 in
theorem ggX5_keep_X5_throwsAt : GoodIn wsX5_keep wsX5_throwsAt := goodIn_r _ [11, 12, 17, 18, 19, 20, 21, 22, 23, 24, 25] (by decide +kernel) (by decide +kernel)
set_option maxRecDepth 20000 in
theorem gX5_keep_X5_throwsAt : GoodIn wsX5_keep (wsV RX5 69 RX5 yX5_throwsAt wsX5_throwsAt) := goodIn_app (goodIn_of _ (by decide +kernel)) ggX5_keep_X5_throwsAt
set_option maxRecDepth 20000 in
theorem ggX5_keep_X5_towers : GoodIn wsX5_keep wsX5_towers := goodIn_r _ [16, 2, 17, 18, 19, 20, 21, 22, 23, 24, 25] (by decide +kernel) (by decide +kernel)
set_option maxRecDepth 20000 in
theorem gX5_keep_X5_towers : GoodIn wsX5_keep (wsV RX5 95 RX5 yX5_towers wsX5_towers) := goodIn_app (goodIn_of _ (by decide +kernel)) ggX5_keep_X5_towers
theorem dX5_keep_0 : decode cX5_keep 0 = .ok (.aload_n 0, 1) := by decide +kernel
theorem dX5_keep_1 : decode cX5_keep 1 = .ok (.iload_n 1, 1) := by decide +kernel
theorem dX5_keep_2 : decode cX5_keep 2 = .ok (.iconst 0, 1) := by decide +kernel
theorem dX5_keep_3 : decode cX5_keep 3 = .ok (.iconst 1, 1) := by decide +kernel
theorem dX5_keep_4 : decode cX5_keep 4 = .ok (.invokestatic 30, 3) := by decide +kernel
theorem dX5_keep_7 : decode cX5_keep 7 = .ok (.ifCond .eq 7, 3) := by decide +kernel
theorem dX5_keep_10 : decode cX5_keep 10 = .ok (.iconst 0, 1) := by decide +kernel
theorem dX5_keep_11 : decode cX5_keep 11 = .ok (.goto 4, 3) := by decide +kernel
theorem dX5_keep_14 : decode cX5_keep 14 = .ok (.iconst 1, 1) := by decide +kernel
theorem dX5_keep_15 : decode cX5_keep 15 = .ok (.invokevirtual 69, 3) := by decide +kernel
theorem dX5_keep_18 : decode cX5_keep 18 = .ok (.ifCond .eq 5, 3) := by decide +kernel
theorem dX5_keep_21 : decode cX5_keep 21 = .ok (.iconst 0, 1) := by decide +kernel
theorem dX5_keep_22 : decode cX5_keep 22 = .ok (.ireturn, 1) := by decide +kernel
theorem dX5_keep_23 : decode cX5_keep 23 = .ok (.iconst 0, 1) := by decide +kernel
theorem dX5_keep_24 : decode cX5_keep 24 = .ok (.istore_n 2, 1) := by decide +kernel
theorem dX5_keep_25 : decode cX5_keep 25 = .ok (.iload_n 2, 1) := by decide +kernel
theorem dX5_keep_26 : decode cX5_keep 26 = .ok (.bipush 114, 2) := by decide +kernel
theorem dX5_keep_28 : decode cX5_keep 28 = .ok (.if_icmp .ge 26, 3) := by decide +kernel
theorem dX5_keep_31 : decode cX5_keep 31 = .ok (.aload_n 0, 1) := by decide +kernel
theorem dX5_keep_32 : decode cX5_keep 32 = .ok (.getfield 16, 3) := by decide +kernel
theorem dX5_keep_35 : decode cX5_keep 35 = .ok (.bipush 114, 2) := by decide +kernel
theorem dX5_keep_37 : decode cX5_keep 37 = .ok (.iload_n 1, 1) := by decide +kernel
theorem dX5_keep_38 : decode cX5_keep 38 = .ok (.imul, 1) := by decide +kernel
theorem dX5_keep_39 : decode cX5_keep 39 = .ok (.iload_n 2, 1) := by decide +kernel
theorem dX5_keep_40 : decode cX5_keep 40 = .ok (.iadd, 1) := by decide +kernel
theorem dX5_keep_41 : decode cX5_keep 41 = .ok (.aload_n 0, 1) := by decide +kernel
theorem dX5_keep_42 : decode cX5_keep 42 = .ok (.getfield 7, 3) := by decide +kernel
theorem dX5_keep_45 : decode cX5_keep 45 = .ok (.iload_n 2, 1) := by decide +kernel
theorem dX5_keep_46 : decode cX5_keep 46 = .ok (.iaload, 1) := by decide +kernel
theorem dX5_keep_47 : decode cX5_keep 47 = .ok (.iastore, 1) := by decide +kernel
theorem dX5_keep_48 : decode cX5_keep 48 = .ok (.iinc 2 1, 3) := by decide +kernel
theorem dX5_keep_51 : decode cX5_keep 51 = .ok (.goto (-26), 3) := by decide +kernel
theorem dX5_keep_54 : decode cX5_keep 54 = .ok (.aload_n 0, 1) := by decide +kernel
theorem dX5_keep_55 : decode cX5_keep 55 = .ok (.getfield 19, 3) := by decide +kernel
theorem dX5_keep_58 : decode cX5_keep 58 = .ok (.iload_n 1, 1) := by decide +kernel
theorem dX5_keep_59 : decode cX5_keep 59 = .ok (.iconst 1, 1) := by decide +kernel
theorem dX5_keep_60 : decode cX5_keep 60 = .ok (.bastore, 1) := by decide +kernel
theorem dX5_keep_61 : decode cX5_keep 61 = .ok (.aload_n 0, 1) := by decide +kernel
theorem dX5_keep_62 : decode cX5_keep 62 = .ok (.iconst 0, 1) := by decide +kernel
theorem dX5_keep_63 : decode cX5_keep 63 = .ok (.invokevirtual 95, 3) := by decide +kernel
theorem dX5_keep_66 : decode cX5_keep 66 = .ok (.aload_n 0, 1) := by decide +kernel
theorem dX5_keep_67 : decode cX5_keep 67 = .ok (.iconst 1, 1) := by decide +kernel
theorem dX5_keep_68 : decode cX5_keep 68 = .ok (.invokevirtual 95, 3) := by decide +kernel
theorem dX5_keep_71 : decode cX5_keep 71 = .ok (.iadd, 1) := by decide +kernel
theorem dX5_keep_72 : decode cX5_keep 72 = .ok (.ireturn, 1) := by decide +kernel
set_option maxRecDepth 20000 in
theorem ggX5_goBack_X5_in : GoodIn wsX5_goBack wsX5_in := goodIn_r _ [7] (by decide +kernel) (by decide +kernel)
set_option maxRecDepth 20000 in
theorem gX5_goBack_X5_in : GoodIn wsX5_goBack (va_wsS RX5 30 yX5_in wsX5_in) := goodIn_app (goodIn_of _ (by decide +kernel)) ggX5_goBack_X5_in
set_option maxRecDepth 20000 in
theorem ggX5_goBack_X5_throwsAt : GoodIn wsX5_goBack wsX5_throwsAt := goodIn_r _ [11, 12, 23, 24, 25, 26, 27, 28, 29, 30, 31] (by decide +kernel) (by decide +kernel)
set_option maxRecDepth 20000 in
theorem gX5_goBack_X5_throwsAt : GoodIn wsX5_goBack (wsV RX5 69 RX5 yX5_throwsAt wsX5_throwsAt) := goodIn_app (goodIn_of _ (by decide +kernel)) ggX5_goBack_X5_throwsAt
set_option maxRecDepth 20000 in
theorem ggX5_goBack_X5_saves : GoodIn wsX5_goBack wsX5_saves := goodIn_r _ [16, 17, 18, 2, 23, 24, 25, 26, 27, 28, 29, 30, 31] (by decide +kernel) (by decide +kernel)
set_option maxRecDepth 20000 in
theorem gX5_goBack_X5_saves : GoodIn wsX5_goBack (wsV RX5 72 RX5 yX5_saves wsX5_saves) := goodIn_app (goodIn_of _ (by decide +kernel)) ggX5_goBack_X5_saves
set_option maxRecDepth 20000 in
theorem ggX5_goBack_X5_towers : GoodIn wsX5_goBack wsX5_towers := goodIn_r _ [22, 2, 23, 24, 25, 26, 27, 28, 29, 30, 31] (by decide +kernel) (by decide +kernel)
set_option maxRecDepth 20000 in
theorem gX5_goBack_X5_towers : GoodIn wsX5_goBack (wsV RX5 95 RX5 yX5_towers wsX5_towers) := goodIn_app (goodIn_of _ (by decide +kernel)) ggX5_goBack_X5_towers
theorem dX5_goBack_0 : decode cX5_goBack 0 = .ok (.aload_n 0, 1) := by decide +kernel
theorem dX5_goBack_1 : decode cX5_goBack 1 = .ok (.iload_n 1, 1) := by decide +kernel
theorem dX5_goBack_2 : decode cX5_goBack 2 = .ok (.iconst 0, 1) := by decide +kernel
theorem dX5_goBack_3 : decode cX5_goBack 3 = .ok (.iconst 1, 1) := by decide +kernel
theorem dX5_goBack_4 : decode cX5_goBack 4 = .ok (.invokestatic 30, 3) := by decide +kernel
theorem dX5_goBack_7 : decode cX5_goBack 7 = .ok (.ifCond .ne 7, 3) := by decide +kernel
theorem dX5_goBack_10 : decode cX5_goBack 10 = .ok (.iconst 1, 1) := by decide +kernel
theorem dX5_goBack_11 : decode cX5_goBack 11 = .ok (.goto 17, 3) := by decide +kernel
theorem dX5_goBack_14 : decode cX5_goBack 14 = .ok (.aload_n 0, 1) := by decide +kernel
theorem dX5_goBack_15 : decode cX5_goBack 15 = .ok (.getfield 19, 3) := by decide +kernel
theorem dX5_goBack_18 : decode cX5_goBack 18 = .ok (.iload_n 1, 1) := by decide +kernel
theorem dX5_goBack_19 : decode cX5_goBack 19 = .ok (.baload, 1) := by decide +kernel
theorem dX5_goBack_20 : decode cX5_goBack 20 = .ok (.ifCond .eq 7, 3) := by decide +kernel
theorem dX5_goBack_23 : decode cX5_goBack 23 = .ok (.iconst 0, 1) := by decide +kernel
theorem dX5_goBack_24 : decode cX5_goBack 24 = .ok (.goto 4, 3) := by decide +kernel
theorem dX5_goBack_27 : decode cX5_goBack 27 = .ok (.iconst 2, 1) := by decide +kernel
theorem dX5_goBack_28 : decode cX5_goBack 28 = .ok (.invokevirtual 69, 3) := by decide +kernel
theorem dX5_goBack_31 : decode cX5_goBack 31 = .ok (.ifCond .eq 5, 3) := by decide +kernel
theorem dX5_goBack_34 : decode cX5_goBack 34 = .ok (.iconst 0, 1) := by decide +kernel
theorem dX5_goBack_35 : decode cX5_goBack 35 = .ok (.ireturn, 1) := by decide +kernel
theorem dX5_goBack_36 : decode cX5_goBack 36 = .ok (.aload_n 0, 1) := by decide +kernel
theorem dX5_goBack_37 : decode cX5_goBack 37 = .ok (.invokevirtual 72, 3) := by decide +kernel
theorem dX5_goBack_40 : decode cX5_goBack 40 = .ok (.iconst 0, 1) := by decide +kernel
theorem dX5_goBack_41 : decode cX5_goBack 41 = .ok (.istore_n 2, 1) := by decide +kernel
theorem dX5_goBack_42 : decode cX5_goBack 42 = .ok (.iload_n 2, 1) := by decide +kernel
theorem dX5_goBack_43 : decode cX5_goBack 43 = .ok (.bipush 114, 2) := by decide +kernel
theorem dX5_goBack_45 : decode cX5_goBack 45 = .ok (.if_icmp .ge 26, 3) := by decide +kernel
theorem dX5_goBack_48 : decode cX5_goBack 48 = .ok (.aload_n 0, 1) := by decide +kernel
theorem dX5_goBack_49 : decode cX5_goBack 49 = .ok (.getfield 7, 3) := by decide +kernel
theorem dX5_goBack_52 : decode cX5_goBack 52 = .ok (.iload_n 2, 1) := by decide +kernel
theorem dX5_goBack_53 : decode cX5_goBack 53 = .ok (.aload_n 0, 1) := by decide +kernel
theorem dX5_goBack_54 : decode cX5_goBack 54 = .ok (.getfield 16, 3) := by decide +kernel
theorem dX5_goBack_57 : decode cX5_goBack 57 = .ok (.bipush 114, 2) := by decide +kernel
theorem dX5_goBack_59 : decode cX5_goBack 59 = .ok (.iload_n 1, 1) := by decide +kernel
theorem dX5_goBack_60 : decode cX5_goBack 60 = .ok (.imul, 1) := by decide +kernel
theorem dX5_goBack_61 : decode cX5_goBack 61 = .ok (.iload_n 2, 1) := by decide +kernel
theorem dX5_goBack_62 : decode cX5_goBack 62 = .ok (.iadd, 1) := by decide +kernel
theorem dX5_goBack_63 : decode cX5_goBack 63 = .ok (.iaload, 1) := by decide +kernel
theorem dX5_goBack_64 : decode cX5_goBack 64 = .ok (.iastore, 1) := by decide +kernel
theorem dX5_goBack_65 : decode cX5_goBack 65 = .ok (.iinc 2 1, 3) := by decide +kernel
theorem dX5_goBack_68 : decode cX5_goBack 68 = .ok (.goto (-26), 3) := by decide +kernel
theorem dX5_goBack_71 : decode cX5_goBack 71 = .ok (.aload_n 0, 1) := by decide +kernel
theorem dX5_goBack_72 : decode cX5_goBack 72 = .ok (.iconst 0, 1) := by decide +kernel
theorem dX5_goBack_73 : decode cX5_goBack 73 = .ok (.invokevirtual 95, 3) := by decide +kernel
theorem dX5_goBack_76 : decode cX5_goBack 76 = .ok (.aload_n 0, 1) := by decide +kernel
theorem dX5_goBack_77 : decode cX5_goBack 77 = .ok (.iconst 1, 1) := by decide +kernel
theorem dX5_goBack_78 : decode cX5_goBack 78 = .ok (.invokevirtual 95, 3) := by decide +kernel
theorem dX5_goBack_81 : decode cX5_goBack 81 = .ok (.iadd, 1) := by decide +kernel
theorem dX5_goBack_82 : decode cX5_goBack 82 = .ok (.ireturn, 1) := by decide +kernel
set_option maxRecDepth 20000 in
theorem ggX5_undo_X5_throwsAt : GoodIn wsX5_undo wsX5_throwsAt := goodIn_r _ [8, 9, 10, 11, 12, 13, 14, 15, 16, 17, 18] (by decide +kernel) (by decide +kernel)
set_option maxRecDepth 20000 in
theorem gX5_undo_X5_throwsAt : GoodIn wsX5_undo (wsV RX5 69 RX5 yX5_throwsAt wsX5_throwsAt) := goodIn_app (goodIn_of _ (by decide +kernel)) ggX5_undo_X5_throwsAt
theorem dX5_undo_0 : decode cX5_undo 0 = .ok (.aload_n 0, 1) := by decide +kernel
theorem dX5_undo_1 : decode cX5_undo 1 = .ok (.aload_n 0, 1) := by decide +kernel
theorem dX5_undo_2 : decode cX5_undo 2 = .ok (.getfield 34, 3) := by decide +kernel
theorem dX5_undo_5 : decode cX5_undo 5 = .ok (.ifCond .le 7, 3) := by decide +kernel
theorem dX5_undo_8 : decode cX5_undo 8 = .ok (.iconst 0, 1) := by decide +kernel
theorem dX5_undo_9 : decode cX5_undo 9 = .ok (.goto 4, 3) := by decide +kernel
theorem dX5_undo_12 : decode cX5_undo 12 = .ok (.iconst 1, 1) := by decide +kernel
theorem dX5_undo_13 : decode cX5_undo 13 = .ok (.invokevirtual 69, 3) := by decide +kernel
theorem dX5_undo_16 : decode cX5_undo 16 = .ok (.ifCond .eq 5, 3) := by decide +kernel
theorem dX5_undo_19 : decode cX5_undo 19 = .ok (.iconst 0, 1) := by decide +kernel
theorem dX5_undo_20 : decode cX5_undo 20 = .ok (.ireturn, 1) := by decide +kernel
theorem dX5_undo_21 : decode cX5_undo 21 = .ok (.aload_n 0, 1) := by decide +kernel
theorem dX5_undo_22 : decode cX5_undo 22 = .ok (.dup, 1) := by decide +kernel
theorem dX5_undo_23 : decode cX5_undo 23 = .ok (.getfield 34, 3) := by decide +kernel
theorem dX5_undo_26 : decode cX5_undo 26 = .ok (.iconst 1, 1) := by decide +kernel
theorem dX5_undo_27 : decode cX5_undo 27 = .ok (.isub, 1) := by decide +kernel
theorem dX5_undo_28 : decode cX5_undo 28 = .ok (.putfield 34, 3) := by decide +kernel
theorem dX5_undo_31 : decode cX5_undo 31 = .ok (.iconst 0, 1) := by decide +kernel
theorem dX5_undo_32 : decode cX5_undo 32 = .ok (.istore_n 1, 1) := by decide +kernel
theorem dX5_undo_33 : decode cX5_undo 33 = .ok (.iload_n 1, 1) := by decide +kernel
theorem dX5_undo_34 : decode cX5_undo 34 = .ok (.bipush 114, 2) := by decide +kernel
theorem dX5_undo_36 : decode cX5_undo 36 = .ok (.if_icmp .ge 29, 3) := by decide +kernel
theorem dX5_undo_39 : decode cX5_undo 39 = .ok (.aload_n 0, 1) := by decide +kernel
theorem dX5_undo_40 : decode cX5_undo 40 = .ok (.getfield 7, 3) := by decide +kernel
theorem dX5_undo_43 : decode cX5_undo 43 = .ok (.iload_n 1, 1) := by decide +kernel
theorem dX5_undo_44 : decode cX5_undo 44 = .ok (.aload_n 0, 1) := by decide +kernel
theorem dX5_undo_45 : decode cX5_undo 45 = .ok (.getfield 13, 3) := by decide +kernel
theorem dX5_undo_48 : decode cX5_undo 48 = .ok (.bipush 114, 2) := by decide +kernel
theorem dX5_undo_50 : decode cX5_undo 50 = .ok (.aload_n 0, 1) := by decide +kernel
theorem dX5_undo_51 : decode cX5_undo 51 = .ok (.getfield 34, 3) := by decide +kernel
theorem dX5_undo_54 : decode cX5_undo 54 = .ok (.imul, 1) := by decide +kernel
theorem dX5_undo_55 : decode cX5_undo 55 = .ok (.iload_n 1, 1) := by decide +kernel
theorem dX5_undo_56 : decode cX5_undo 56 = .ok (.iadd, 1) := by decide +kernel
theorem dX5_undo_57 : decode cX5_undo 57 = .ok (.iaload, 1) := by decide +kernel
theorem dX5_undo_58 : decode cX5_undo 58 = .ok (.iastore, 1) := by decide +kernel
theorem dX5_undo_59 : decode cX5_undo 59 = .ok (.iinc 1 1, 3) := by decide +kernel
theorem dX5_undo_62 : decode cX5_undo 62 = .ok (.goto (-29), 3) := by decide +kernel
theorem dX5_undo_65 : decode cX5_undo 65 = .ok (.aload_n 0, 1) := by decide +kernel
theorem dX5_undo_66 : decode cX5_undo 66 = .ok (.getfield 34, 3) := by decide +kernel
theorem dX5_undo_69 : decode cX5_undo 69 = .ok (.ireturn, 1) := by decide +kernel
set_option maxRecDepth 20000 in
theorem ggX5_ofSquare_X5_isDark : GoodIn wsX5_ofSquare wsX5_isDark := goodIn_r _ [6, 7, 8, 9, 5, 10, 11, 12, 13, 14, 15, 16, 17, 18, 19, 20, 1, 21, 22, 23, 24, 25, 26, 39, 40, 41, 42, 43, 44, 45, 46, 47] (by decide +kernel) (by decide +kernel)
set_option maxRecDepth 20000 in
theorem gX5_ofSquare_X5_isDark : GoodIn wsX5_ofSquare (wsV RX5 59 RX5 yX5_isDark wsX5_isDark) := goodIn_app (goodIn_of _ (by decide +kernel)) ggX5_ofSquare_X5_isDark
set_option maxRecDepth 20000 in
theorem ggX5_ofSquare_X5_isSwept : GoodIn wsX5_ofSquare wsX5_isSwept := goodIn_r _ [30, 1, 11, 12, 5, 13, 14, 15, 16, 24, 25, 26, 39, 40, 41, 42, 43, 44, 45, 46, 47] (by decide +kernel) (by decide +kernel)
set_option maxRecDepth 20000 in
theorem gX5_ofSquare_X5_isSwept : GoodIn wsX5_ofSquare (wsV RX5 98 RX5 yX5_isSwept wsX5_isSwept) := goodIn_app (goodIn_of _ (by decide +kernel)) ggX5_ofSquare_X5_isSwept
set_option maxRecDepth 20000 in
theorem ggX5_ofSquare_X5_shadersOf : GoodIn wsX5_ofSquare wsX5_shadersOf := goodIn_r _ [10, 11, 12, 5, 13, 14, 15, 16, 17, 18, 19, 20, 1, 21, 22, 23, 24, 25, 26, 39, 40, 41, 42, 43, 44, 45, 46, 47] (by decide +kernel) (by decide +kernel)
set_option maxRecDepth 20000 in
theorem gX5_ofSquare_X5_shadersOf : GoodIn wsX5_ofSquare (wsV RX5 56 RX5 yX5_shadersOf wsX5_shadersOf) := goodIn_app (goodIn_of _ (by decide +kernel)) ggX5_ofSquare_X5_shadersOf
set_option maxRecDepth 20000 in
theorem ggX5_ofSquare_X5_shadedBy : GoodIn wsX5_ofSquare wsX5_shadedBy := goodIn_r _ [34, 1, 17, 18, 19, 5, 20, 11, 12, 13, 21, 22, 23, 14, 15, 16, 24, 25, 26, 39, 40, 41, 42, 43, 44, 45, 46, 47] (by decide +kernel) (by decide +kernel)
set_option maxRecDepth 20000 in
theorem gX5_ofSquare_X5_shadedBy : GoodIn wsX5_ofSquare (wsV RX5 102 RX5 yX5_shadedBy wsX5_shadedBy) := goodIn_app (goodIn_of _ (by decide +kernel)) ggX5_ofSquare_X5_shadedBy
set_option maxRecDepth 20000 in
theorem ggX5_ofSquare_X5_darkHours : GoodIn wsX5_ofSquare wsX5_darkHours := goodIn_r _ [38, 2, 3, 4, 5, 6, 7, 8, 9, 10, 11, 12, 13, 14, 15, 16, 17, 18, 19, 20, 1, 21, 22, 23, 24, 25, 26, 39, 40, 41, 42, 43, 44, 45, 46, 47] (by decide +kernel) (by decide +kernel)
set_option maxRecDepth 20000 in
theorem gX5_ofSquare_X5_darkHours : GoodIn wsX5_ofSquare (wsV RX5 105 RX5 yX5_darkHours wsX5_darkHours) := goodIn_app (goodIn_of _ (by decide +kernel)) ggX5_ofSquare_X5_darkHours
theorem dX5_ofSquare_0 : decode cX5_ofSquare 0 = .ok (.iload_n 2, 1) := by decide +kernel
theorem dX5_ofSquare_1 : decode cX5_ofSquare 1 = .ok (.tableswitch 137 0 6 #[43, 52, 64, 74, 96, 117, 131], 43) := by decide +kernel
theorem dX5_ofSquare_44 : decode cX5_ofSquare 44 = .ok (.aload_n 0, 1) := by decide +kernel
theorem dX5_ofSquare_45 : decode cX5_ofSquare 45 = .ok (.getfield 7, 3) := by decide +kernel
theorem dX5_ofSquare_48 : decode cX5_ofSquare 48 = .ok (.iconst 0, 1) := by decide +kernel
theorem dX5_ofSquare_49 : decode cX5_ofSquare 49 = .ok (.iload_n 1, 1) := by decide +kernel
theorem dX5_ofSquare_50 : decode cX5_ofSquare 50 = .ok (.iadd, 1) := by decide +kernel
theorem dX5_ofSquare_51 : decode cX5_ofSquare 51 = .ok (.iaload, 1) := by decide +kernel
theorem dX5_ofSquare_52 : decode cX5_ofSquare 52 = .ok (.ireturn, 1) := by decide +kernel
theorem dX5_ofSquare_53 : decode cX5_ofSquare 53 = .ok (.aload_n 0, 1) := by decide +kernel
theorem dX5_ofSquare_54 : decode cX5_ofSquare 54 = .ok (.getfield 7, 3) := by decide +kernel
theorem dX5_ofSquare_57 : decode cX5_ofSquare 57 = .ok (.bipush 36, 2) := by decide +kernel
theorem dX5_ofSquare_59 : decode cX5_ofSquare 59 = .ok (.iload_n 1, 1) := by decide +kernel
theorem dX5_ofSquare_60 : decode cX5_ofSquare 60 = .ok (.iadd, 1) := by decide +kernel
theorem dX5_ofSquare_61 : decode cX5_ofSquare 61 = .ok (.iaload, 1) := by decide +kernel
theorem dX5_ofSquare_62 : decode cX5_ofSquare 62 = .ok (.iconst 1, 1) := by decide +kernel
theorem dX5_ofSquare_63 : decode cX5_ofSquare 63 = .ok (.isub, 1) := by decide +kernel
theorem dX5_ofSquare_64 : decode cX5_ofSquare 64 = .ok (.ireturn, 1) := by decide +kernel
theorem dX5_ofSquare_65 : decode cX5_ofSquare 65 = .ok (.aload_n 0, 1) := by decide +kernel
theorem dX5_ofSquare_66 : decode cX5_ofSquare 66 = .ok (.getfield 7, 3) := by decide +kernel
theorem dX5_ofSquare_69 : decode cX5_ofSquare 69 = .ok (.bipush 72, 2) := by decide +kernel
theorem dX5_ofSquare_71 : decode cX5_ofSquare 71 = .ok (.iload_n 1, 1) := by decide +kernel
theorem dX5_ofSquare_72 : decode cX5_ofSquare 72 = .ok (.iadd, 1) := by decide +kernel
theorem dX5_ofSquare_73 : decode cX5_ofSquare 73 = .ok (.iaload, 1) := by decide +kernel
theorem dX5_ofSquare_74 : decode cX5_ofSquare 74 = .ok (.ireturn, 1) := by decide +kernel
theorem dX5_ofSquare_75 : decode cX5_ofSquare 75 = .ok (.aload_n 0, 1) := by decide +kernel
theorem dX5_ofSquare_76 : decode cX5_ofSquare 76 = .ok (.iconst 0, 1) := by decide +kernel
theorem dX5_ofSquare_77 : decode cX5_ofSquare 77 = .ok (.iload_n 1, 1) := by decide +kernel
theorem dX5_ofSquare_78 : decode cX5_ofSquare 78 = .ok (.aload_n 0, 1) := by decide +kernel
theorem dX5_ofSquare_79 : decode cX5_ofSquare 79 = .ok (.getfield 7, 3) := by decide +kernel
theorem dX5_ofSquare_82 : decode cX5_ofSquare 82 = .ok (.bipush 108, 2) := by decide +kernel
theorem dX5_ofSquare_84 : decode cX5_ofSquare 84 = .ok (.iaload, 1) := by decide +kernel
theorem dX5_ofSquare_85 : decode cX5_ofSquare 85 = .ok (.invokevirtual 59, 3) := by decide +kernel
theorem dX5_ofSquare_88 : decode cX5_ofSquare 88 = .ok (.ifCond .eq 7, 3) := by decide +kernel
theorem dX5_ofSquare_91 : decode cX5_ofSquare 91 = .ok (.iconst 1, 1) := by decide +kernel
theorem dX5_ofSquare_92 : decode cX5_ofSquare 92 = .ok (.goto 4, 3) := by decide +kernel
theorem dX5_ofSquare_95 : decode cX5_ofSquare 95 = .ok (.iconst 0, 1) := by decide +kernel
theorem dX5_ofSquare_96 : decode cX5_ofSquare 96 = .ok (.ireturn, 1) := by decide +kernel
theorem dX5_ofSquare_97 : decode cX5_ofSquare 97 = .ok (.aload_n 0, 1) := by decide +kernel
theorem dX5_ofSquare_98 : decode cX5_ofSquare 98 = .ok (.iload_n 1, 1) := by decide +kernel
theorem dX5_ofSquare_99 : decode cX5_ofSquare 99 = .ok (.aload_n 0, 1) := by decide +kernel
theorem dX5_ofSquare_100 : decode cX5_ofSquare 100 = .ok (.getfield 7, 3) := by decide +kernel
theorem dX5_ofSquare_103 : decode cX5_ofSquare 103 = .ok (.bipush 108, 2) := by decide +kernel
theorem dX5_ofSquare_105 : decode cX5_ofSquare 105 = .ok (.iaload, 1) := by decide +kernel
theorem dX5_ofSquare_106 : decode cX5_ofSquare 106 = .ok (.invokevirtual 98, 3) := by decide +kernel
theorem dX5_ofSquare_109 : decode cX5_ofSquare 109 = .ok (.ifCond .eq 7, 3) := by decide +kernel
theorem dX5_ofSquare_112 : decode cX5_ofSquare 112 = .ok (.iconst 1, 1) := by decide +kernel
theorem dX5_ofSquare_113 : decode cX5_ofSquare 113 = .ok (.goto 4, 3) := by decide +kernel
theorem dX5_ofSquare_116 : decode cX5_ofSquare 116 = .ok (.iconst 0, 1) := by decide +kernel
theorem dX5_ofSquare_117 : decode cX5_ofSquare 117 = .ok (.ireturn, 1) := by decide +kernel
theorem dX5_ofSquare_118 : decode cX5_ofSquare 118 = .ok (.aload_n 0, 1) := by decide +kernel
theorem dX5_ofSquare_119 : decode cX5_ofSquare 119 = .ok (.iconst 0, 1) := by decide +kernel
theorem dX5_ofSquare_120 : decode cX5_ofSquare 120 = .ok (.iload_n 1, 1) := by decide +kernel
theorem dX5_ofSquare_121 : decode cX5_ofSquare 121 = .ok (.aload_n 0, 1) := by decide +kernel
theorem dX5_ofSquare_122 : decode cX5_ofSquare 122 = .ok (.getfield 7, 3) := by decide +kernel
theorem dX5_ofSquare_125 : decode cX5_ofSquare 125 = .ok (.bipush 108, 2) := by decide +kernel
theorem dX5_ofSquare_127 : decode cX5_ofSquare 127 = .ok (.iaload, 1) := by decide +kernel
theorem dX5_ofSquare_128 : decode cX5_ofSquare 128 = .ok (.invokevirtual 56, 3) := by decide +kernel
theorem dX5_ofSquare_131 : decode cX5_ofSquare 131 = .ok (.ireturn, 1) := by decide +kernel
theorem dX5_ofSquare_132 : decode cX5_ofSquare 132 = .ok (.aload_n 0, 1) := by decide +kernel
theorem dX5_ofSquare_133 : decode cX5_ofSquare 133 = .ok (.iload_n 1, 1) := by decide +kernel
theorem dX5_ofSquare_134 : decode cX5_ofSquare 134 = .ok (.invokevirtual 102, 3) := by decide +kernel
theorem dX5_ofSquare_137 : decode cX5_ofSquare 137 = .ok (.ireturn, 1) := by decide +kernel
theorem dX5_ofSquare_138 : decode cX5_ofSquare 138 = .ok (.aload_n 0, 1) := by decide +kernel
theorem dX5_ofSquare_139 : decode cX5_ofSquare 139 = .ok (.iload_n 1, 1) := by decide +kernel
theorem dX5_ofSquare_140 : decode cX5_ofSquare 140 = .ok (.invokevirtual 105, 3) := by decide +kernel
theorem dX5_ofSquare_143 : decode cX5_ofSquare 143 = .ok (.ireturn, 1) := by decide +kernel
set_option maxRecDepth 20000 in
theorem ggX5_squareOf_X5_isSquare : GoodIn wsX5_squareOf wsX5_isSquare := goodIn_r _ [4, 5, 6, 3, 7] (by decide +kernel) (by decide +kernel)
set_option maxRecDepth 20000 in
theorem gX5_squareOf_X5_isSquare : GoodIn wsX5_squareOf (va_wsS RX5 65 yX5_isSquare wsX5_isSquare) := goodIn_app (goodIn_of _ (by decide +kernel)) ggX5_squareOf_X5_isSquare
set_option maxRecDepth 20000 in
theorem ggX5_squareOf_X5_in : GoodIn wsX5_squareOf wsX5_in := goodIn_r _ [7] (by decide +kernel) (by decide +kernel)
set_option maxRecDepth 20000 in
theorem gX5_squareOf_X5_in : GoodIn wsX5_squareOf (va_wsS RX5 30 yX5_in wsX5_in) := goodIn_app (goodIn_of _ (by decide +kernel)) ggX5_squareOf_X5_in
set_option maxRecDepth 20000 in
theorem ggX5_squareOf_X5_throwsAt : GoodIn wsX5_squareOf wsX5_throwsAt := goodIn_r _ [11, 12, 54, 55, 56, 57, 58, 59, 60, 61, 62] (by decide +kernel) (by decide +kernel)
set_option maxRecDepth 20000 in
theorem gX5_squareOf_X5_throwsAt : GoodIn wsX5_squareOf (wsV RX5 69 RX5 yX5_throwsAt wsX5_throwsAt) := goodIn_app (goodIn_of _ (by decide +kernel)) ggX5_squareOf_X5_throwsAt
set_option maxRecDepth 20000 in
theorem ggX5_squareOf_X5_ofSquare : GoodIn wsX5_squareOf wsX5_ofSquare := goodIn_r _ [16, 17, 18, 19, 20, 3, 21, 22, 23, 24, 25, 26, 27, 28, 29, 30, 31, 32, 33, 34, 35, 36, 37, 38, 39, 40, 41, 42, 43, 44, 45, 46, 47, 48, 49, 50, 51, 52, 53, 54, 55, 56, 57, 58, 59, 60, 61, 62] (by decide +kernel) (by decide +kernel)
set_option maxRecDepth 20000 in
theorem gX5_squareOf_X5_ofSquare : GoodIn wsX5_squareOf (wsV RX5 108 RX5 yX5_ofSquare wsX5_ofSquare) := goodIn_app (goodIn_of _ (by decide +kernel)) ggX5_squareOf_X5_ofSquare
theorem dX5_squareOf_0 : decode cX5_squareOf 0 = .ok (.aload_n 0, 1) := by decide +kernel
theorem dX5_squareOf_1 : decode cX5_squareOf 1 = .ok (.iload_n 1, 1) := by decide +kernel
theorem dX5_squareOf_2 : decode cX5_squareOf 2 = .ok (.invokestatic 65, 3) := by decide +kernel
theorem dX5_squareOf_5 : decode cX5_squareOf 5 = .ok (.ifCond .ne 7, 3) := by decide +kernel
theorem dX5_squareOf_8 : decode cX5_squareOf 8 = .ok (.iconst 1, 1) := by decide +kernel
theorem dX5_squareOf_9 : decode cX5_squareOf 9 = .ok (.goto 18, 3) := by decide +kernel
theorem dX5_squareOf_12 : decode cX5_squareOf 12 = .ok (.iload_n 2, 1) := by decide +kernel
theorem dX5_squareOf_13 : decode cX5_squareOf 13 = .ok (.iconst 0, 1) := by decide +kernel
theorem dX5_squareOf_14 : decode cX5_squareOf 14 = .ok (.bipush 7, 2) := by decide +kernel
theorem dX5_squareOf_16 : decode cX5_squareOf 16 = .ok (.invokestatic 30, 3) := by decide +kernel
theorem dX5_squareOf_19 : decode cX5_squareOf 19 = .ok (.ifCond .eq 7, 3) := by decide +kernel
theorem dX5_squareOf_22 : decode cX5_squareOf 22 = .ok (.iconst 0, 1) := by decide +kernel
theorem dX5_squareOf_23 : decode cX5_squareOf 23 = .ok (.goto 4, 3) := by decide +kernel
theorem dX5_squareOf_26 : decode cX5_squareOf 26 = .ok (.iconst 2, 1) := by decide +kernel
theorem dX5_squareOf_27 : decode cX5_squareOf 27 = .ok (.invokevirtual 69, 3) := by decide +kernel
theorem dX5_squareOf_30 : decode cX5_squareOf 30 = .ok (.ifCond .eq 7, 3) := by decide +kernel
theorem dX5_squareOf_33 : decode cX5_squareOf 33 = .ok (.iconst 0, 1) := by decide +kernel
theorem dX5_squareOf_34 : decode cX5_squareOf 34 = .ok (.goto 9, 3) := by decide +kernel
theorem dX5_squareOf_37 : decode cX5_squareOf 37 = .ok (.aload_n 0, 1) := by decide +kernel
theorem dX5_squareOf_38 : decode cX5_squareOf 38 = .ok (.iload_n 1, 1) := by decide +kernel
theorem dX5_squareOf_39 : decode cX5_squareOf 39 = .ok (.iload_n 2, 1) := by decide +kernel
theorem dX5_squareOf_40 : decode cX5_squareOf 40 = .ok (.invokevirtual 108, 3) := by decide +kernel
theorem dX5_squareOf_43 : decode cX5_squareOf 43 = .ok (.ireturn, 1) := by decide +kernel
set_option maxRecDepth 20000 in
theorem ggX5_ofTowers_X5_isDark : GoodIn wsX5_ofTowers wsX5_isDark := goodIn_r _ [6, 7, 8, 9, 5, 10, 11, 12, 13, 14, 15, 16, 17, 18, 19, 20, 1, 21, 22, 23, 24, 25, 26, 31, 32, 33, 34, 35, 36, 37, 38, 39] (by decide +kernel) (by decide +kernel)
set_option maxRecDepth 20000 in
theorem gX5_ofTowers_X5_isDark : GoodIn wsX5_ofTowers (wsV RX5 59 RX5 yX5_isDark wsX5_isDark) := goodIn_app (goodIn_of _ (by decide +kernel)) ggX5_ofTowers_X5_isDark
set_option maxRecDepth 20000 in
theorem ggX5_ofTowers_X5_isShadedBy : GoodIn wsX5_ofTowers wsX5_isShadedBy := goodIn_r _ [30, 1, 17, 18, 19, 5, 20, 11, 12, 13, 21, 22, 23, 14, 15, 16, 24, 25, 26, 31, 32, 33, 34, 35, 36, 37, 38, 39] (by decide +kernel) (by decide +kernel)
set_option maxRecDepth 20000 in
theorem gX5_ofTowers_X5_isShadedBy : GoodIn wsX5_ofTowers (wsV RX5 111 RX5 yX5_isShadedBy wsX5_isShadedBy) := goodIn_app (goodIn_of _ (by decide +kernel)) ggX5_ofTowers_X5_isShadedBy
theorem dX5_ofTowers_0 : decode cX5_ofTowers 0 = .ok (.iconst 0, 1) := by decide +kernel
theorem dX5_ofTowers_1 : decode cX5_ofTowers 1 = .ok (.istore_n 3, 1) := by decide +kernel
theorem dX5_ofTowers_2 : decode cX5_ofTowers 2 = .ok (.iconst 0, 1) := by decide +kernel
theorem dX5_ofTowers_3 : decode cX5_ofTowers 3 = .ok (.istore 4, 2) := by decide +kernel
theorem dX5_ofTowers_5 : decode cX5_ofTowers 5 = .ok (.iload 4, 2) := by decide +kernel
theorem dX5_ofTowers_7 : decode cX5_ofTowers 7 = .ok (.bipush 36, 2) := by decide +kernel
theorem dX5_ofTowers_9 : decode cX5_ofTowers 9 = .ok (.if_icmp .ge 144, 3) := by decide +kernel
theorem dX5_ofTowers_12 : decode cX5_ofTowers 12 = .ok (.aload_n 0, 1) := by decide +kernel
theorem dX5_ofTowers_13 : decode cX5_ofTowers 13 = .ok (.getfield 7, 3) := by decide +kernel
theorem dX5_ofTowers_16 : decode cX5_ofTowers 16 = .ok (.bipush 36, 2) := by decide +kernel
theorem dX5_ofTowers_18 : decode cX5_ofTowers 18 = .ok (.iload 4, 2) := by decide +kernel
theorem dX5_ofTowers_20 : decode cX5_ofTowers 20 = .ok (.iadd, 1) := by decide +kernel
theorem dX5_ofTowers_21 : decode cX5_ofTowers 21 = .ok (.iaload, 1) := by decide +kernel
theorem dX5_ofTowers_22 : decode cX5_ofTowers 22 = .ok (.iload_n 1, 1) := by decide +kernel
theorem dX5_ofTowers_23 : decode cX5_ofTowers 23 = .ok (.iconst 1, 1) := by decide +kernel
theorem dX5_ofTowers_24 : decode cX5_ofTowers 24 = .ok (.iadd, 1) := by decide +kernel
theorem dX5_ofTowers_25 : decode cX5_ofTowers 25 = .ok (.if_icmp .ne 7, 3) := by decide +kernel
theorem dX5_ofTowers_28 : decode cX5_ofTowers 28 = .ok (.iconst 1, 1) := by decide +kernel
theorem dX5_ofTowers_29 : decode cX5_ofTowers 29 = .ok (.goto 4, 3) := by decide +kernel
theorem dX5_ofTowers_32 : decode cX5_ofTowers 32 = .ok (.iconst 0, 1) := by decide +kernel
theorem dX5_ofTowers_33 : decode cX5_ofTowers 33 = .ok (.istore 5, 2) := by decide +kernel
theorem dX5_ofTowers_35 : decode cX5_ofTowers 35 = .ok (.aload_n 0, 1) := by decide +kernel
theorem dX5_ofTowers_36 : decode cX5_ofTowers 36 = .ok (.getfield 7, 3) := by decide +kernel
theorem dX5_ofTowers_39 : decode cX5_ofTowers 39 = .ok (.bipush 36, 2) := by decide +kernel
theorem dX5_ofTowers_41 : decode cX5_ofTowers 41 = .ok (.iload 4, 2) := by decide +kernel
theorem dX5_ofTowers_43 : decode cX5_ofTowers 43 = .ok (.iadd, 1) := by decide +kernel
theorem dX5_ofTowers_44 : decode cX5_ofTowers 44 = .ok (.iaload, 1) := by decide +kernel
theorem dX5_ofTowers_45 : decode cX5_ofTowers 45 = .ok (.iconst 2, 1) := by decide +kernel
theorem dX5_ofTowers_46 : decode cX5_ofTowers 46 = .ok (.iload_n 1, 1) := by decide +kernel
theorem dX5_ofTowers_47 : decode cX5_ofTowers 47 = .ok (.isub, 1) := by decide +kernel
theorem dX5_ofTowers_48 : decode cX5_ofTowers 48 = .ok (.if_icmp .ne 7, 3) := by decide +kernel
theorem dX5_ofTowers_51 : decode cX5_ofTowers 51 = .ok (.iconst 1, 1) := by decide +kernel
theorem dX5_ofTowers_52 : decode cX5_ofTowers 52 = .ok (.goto 4, 3) := by decide +kernel
theorem dX5_ofTowers_55 : decode cX5_ofTowers 55 = .ok (.iconst 0, 1) := by decide +kernel
theorem dX5_ofTowers_56 : decode cX5_ofTowers 56 = .ok (.istore 6, 2) := by decide +kernel
theorem dX5_ofTowers_58 : decode cX5_ofTowers 58 = .ok (.iload_n 3, 1) := by decide +kernel
theorem dX5_ofTowers_59 : decode cX5_ofTowers 59 = .ok (.iload_n 2, 1) := by decide +kernel
theorem dX5_ofTowers_60 : decode cX5_ofTowers 60 = .ok (.iconst 2, 1) := by decide +kernel
theorem dX5_ofTowers_61 : decode cX5_ofTowers 61 = .ok (.if_icmp .ne 20, 3) := by decide +kernel
theorem dX5_ofTowers_64 : decode cX5_ofTowers 64 = .ok (.iload 5, 2) := by decide +kernel
theorem dX5_ofTowers_66 : decode cX5_ofTowers 66 = .ok (.ifCond .eq 15, 3) := by decide +kernel
theorem dX5_ofTowers_69 : decode cX5_ofTowers 69 = .ok (.aload_n 0, 1) := by decide +kernel
theorem dX5_ofTowers_70 : decode cX5_ofTowers 70 = .ok (.getfield 7, 3) := by decide +kernel
theorem dX5_ofTowers_73 : decode cX5_ofTowers 73 = .ok (.iconst 0, 1) := by decide +kernel
theorem dX5_ofTowers_74 : decode cX5_ofTowers 74 = .ok (.iload 4, 2) := by decide +kernel
theorem dX5_ofTowers_76 : decode cX5_ofTowers 76 = .ok (.iadd, 1) := by decide +kernel
theorem dX5_ofTowers_77 : decode cX5_ofTowers 77 = .ok (.iaload, 1) := by decide +kernel
theorem dX5_ofTowers_78 : decode cX5_ofTowers 78 = .ok (.goto 4, 3) := by decide +kernel
theorem dX5_ofTowers_81 : decode cX5_ofTowers 81 = .ok (.iconst 0, 1) := by decide +kernel
theorem dX5_ofTowers_82 : decode cX5_ofTowers 82 = .ok (.iadd, 1) := by decide +kernel
theorem dX5_ofTowers_83 : decode cX5_ofTowers 83 = .ok (.istore_n 3, 1) := by decide +kernel
theorem dX5_ofTowers_84 : decode cX5_ofTowers 84 = .ok (.iload_n 3, 1) := by decide +kernel
theorem dX5_ofTowers_85 : decode cX5_ofTowers 85 = .ok (.iload_n 2, 1) := by decide +kernel
theorem dX5_ofTowers_86 : decode cX5_ofTowers 86 = .ok (.iconst 3, 1) := by decide +kernel
theorem dX5_ofTowers_87 : decode cX5_ofTowers 87 = .ok (.if_icmp .ne 29, 3) := by decide +kernel
theorem dX5_ofTowers_90 : decode cX5_ofTowers 90 = .ok (.iload 5, 2) := by decide +kernel
theorem dX5_ofTowers_92 : decode cX5_ofTowers 92 = .ok (.ifCond .eq 24, 3) := by decide +kernel
theorem dX5_ofTowers_95 : decode cX5_ofTowers 95 = .ok (.aload_n 0, 1) := by decide +kernel
theorem dX5_ofTowers_96 : decode cX5_ofTowers 96 = .ok (.iconst 0, 1) := by decide +kernel
theorem dX5_ofTowers_97 : decode cX5_ofTowers 97 = .ok (.iload 4, 2) := by decide +kernel
theorem dX5_ofTowers_99 : decode cX5_ofTowers 99 = .ok (.aload_n 0, 1) := by decide +kernel
theorem dX5_ofTowers_100 : decode cX5_ofTowers 100 = .ok (.getfield 7, 3) := by decide +kernel
theorem dX5_ofTowers_103 : decode cX5_ofTowers 103 = .ok (.bipush 108, 2) := by decide +kernel
theorem dX5_ofTowers_105 : decode cX5_ofTowers 105 = .ok (.iaload, 1) := by decide +kernel
theorem dX5_ofTowers_106 : decode cX5_ofTowers 106 = .ok (.invokevirtual 59, 3) := by decide +kernel
theorem dX5_ofTowers_109 : decode cX5_ofTowers 109 = .ok (.ifCond .eq 7, 3) := by decide +kernel
theorem dX5_ofTowers_112 : decode cX5_ofTowers 112 = .ok (.iconst 1, 1) := by decide +kernel
theorem dX5_ofTowers_113 : decode cX5_ofTowers 113 = .ok (.goto 4, 3) := by decide +kernel
theorem dX5_ofTowers_116 : decode cX5_ofTowers 116 = .ok (.iconst 0, 1) := by decide +kernel
theorem dX5_ofTowers_117 : decode cX5_ofTowers 117 = .ok (.iadd, 1) := by decide +kernel
theorem dX5_ofTowers_118 : decode cX5_ofTowers 118 = .ok (.istore_n 3, 1) := by decide +kernel
theorem dX5_ofTowers_119 : decode cX5_ofTowers 119 = .ok (.iload_n 3, 1) := by decide +kernel
theorem dX5_ofTowers_120 : decode cX5_ofTowers 120 = .ok (.iload_n 2, 1) := by decide +kernel
theorem dX5_ofTowers_121 : decode cX5_ofTowers 121 = .ok (.iconst 5, 1) := by decide +kernel
theorem dX5_ofTowers_122 : decode cX5_ofTowers 122 = .ok (.if_icmp .ne 22, 3) := by decide +kernel
theorem dX5_ofTowers_125 : decode cX5_ofTowers 125 = .ok (.iload 6, 2) := by decide +kernel
theorem dX5_ofTowers_127 : decode cX5_ofTowers 127 = .ok (.ifCond .eq 17, 3) := by decide +kernel
theorem dX5_ofTowers_130 : decode cX5_ofTowers 130 = .ok (.aload_n 0, 1) := by decide +kernel
theorem dX5_ofTowers_131 : decode cX5_ofTowers 131 = .ok (.iload 4, 2) := by decide +kernel
theorem dX5_ofTowers_133 : decode cX5_ofTowers 133 = .ok (.iload_n 1, 1) := by decide +kernel
theorem dX5_ofTowers_134 : decode cX5_ofTowers 134 = .ok (.invokevirtual 111, 3) := by decide +kernel
theorem dX5_ofTowers_137 : decode cX5_ofTowers 137 = .ok (.ifCond .eq 7, 3) := by decide +kernel
theorem dX5_ofTowers_140 : decode cX5_ofTowers 140 = .ok (.iconst 1, 1) := by decide +kernel
theorem dX5_ofTowers_141 : decode cX5_ofTowers 141 = .ok (.goto 4, 3) := by decide +kernel
theorem dX5_ofTowers_144 : decode cX5_ofTowers 144 = .ok (.iconst 0, 1) := by decide +kernel
theorem dX5_ofTowers_145 : decode cX5_ofTowers 145 = .ok (.iadd, 1) := by decide +kernel
theorem dX5_ofTowers_146 : decode cX5_ofTowers 146 = .ok (.istore_n 3, 1) := by decide +kernel
theorem dX5_ofTowers_147 : decode cX5_ofTowers 147 = .ok (.iinc 4 1, 3) := by decide +kernel
theorem dX5_ofTowers_150 : decode cX5_ofTowers 150 = .ok (.goto (-145), 3) := by decide +kernel
theorem dX5_ofTowers_153 : decode cX5_ofTowers 153 = .ok (.iload_n 3, 1) := by decide +kernel
theorem dX5_ofTowers_154 : decode cX5_ofTowers 154 = .ok (.ireturn, 1) := by decide +kernel
set_option maxRecDepth 20000 in
theorem ggX5_isShadedBy_X5_shades : GoodIn wsX5_isShadedBy wsX5_shades := goodIn_r _ [6, 1, 7, 8, 5, 9, 10, 11, 12, 13, 14, 15, 16, 17, 18, 19, 20, 21, 22, 23, 24, 25, 26, 27] (by decide +kernel) (by decide +kernel)
set_option maxRecDepth 20000 in
theorem gX5_isShadedBy_X5_shades : GoodIn wsX5_isShadedBy (wsV RX5 52 RX5 yX5_shades wsX5_shades) := goodIn_app (goodIn_of _ (by decide +kernel)) ggX5_isShadedBy_X5_shades
theorem dX5_isShadedBy_0 : decode cX5_isShadedBy 0 = .ok (.iconst 0, 1) := by decide +kernel
theorem dX5_isShadedBy_1 : decode cX5_isShadedBy 1 = .ok (.istore_n 3, 1) := by decide +kernel
theorem dX5_isShadedBy_2 : decode cX5_isShadedBy 2 = .ok (.iconst 0, 1) := by decide +kernel
theorem dX5_isShadedBy_3 : decode cX5_isShadedBy 3 = .ok (.istore 4, 2) := by decide +kernel
theorem dX5_isShadedBy_5 : decode cX5_isShadedBy 5 = .ok (.iload 4, 2) := by decide +kernel
theorem dX5_isShadedBy_7 : decode cX5_isShadedBy 7 = .ok (.bipush 36, 2) := by decide +kernel
theorem dX5_isShadedBy_9 : decode cX5_isShadedBy 9 = .ok (.if_icmp .ge 53, 3) := by decide +kernel
theorem dX5_isShadedBy_12 : decode cX5_isShadedBy 12 = .ok (.iload_n 3, 1) := by decide +kernel
theorem dX5_isShadedBy_13 : decode cX5_isShadedBy 13 = .ok (.ifCond .ne 37, 3) := by decide +kernel
theorem dX5_isShadedBy_16 : decode cX5_isShadedBy 16 = .ok (.aload_n 0, 1) := by decide +kernel
theorem dX5_isShadedBy_17 : decode cX5_isShadedBy 17 = .ok (.getfield 7, 3) := by decide +kernel
theorem dX5_isShadedBy_20 : decode cX5_isShadedBy 20 = .ok (.bipush 36, 2) := by decide +kernel
theorem dX5_isShadedBy_22 : decode cX5_isShadedBy 22 = .ok (.iload 4, 2) := by decide +kernel
theorem dX5_isShadedBy_24 : decode cX5_isShadedBy 24 = .ok (.iadd, 1) := by decide +kernel
theorem dX5_isShadedBy_25 : decode cX5_isShadedBy 25 = .ok (.iaload, 1) := by decide +kernel
theorem dX5_isShadedBy_26 : decode cX5_isShadedBy 26 = .ok (.iload_n 2, 1) := by decide +kernel
theorem dX5_isShadedBy_27 : decode cX5_isShadedBy 27 = .ok (.iconst 1, 1) := by decide +kernel
theorem dX5_isShadedBy_28 : decode cX5_isShadedBy 28 = .ok (.iadd, 1) := by decide +kernel
theorem dX5_isShadedBy_29 : decode cX5_isShadedBy 29 = .ok (.if_icmp .ne 25, 3) := by decide +kernel
theorem dX5_isShadedBy_32 : decode cX5_isShadedBy 32 = .ok (.aload_n 0, 1) := by decide +kernel
theorem dX5_isShadedBy_33 : decode cX5_isShadedBy 33 = .ok (.iconst 0, 1) := by decide +kernel
theorem dX5_isShadedBy_34 : decode cX5_isShadedBy 34 = .ok (.iload 4, 2) := by decide +kernel
theorem dX5_isShadedBy_36 : decode cX5_isShadedBy 36 = .ok (.iload_n 1, 1) := by decide +kernel
theorem dX5_isShadedBy_37 : decode cX5_isShadedBy 37 = .ok (.aload_n 0, 1) := by decide +kernel
theorem dX5_isShadedBy_38 : decode cX5_isShadedBy 38 = .ok (.getfield 7, 3) := by decide +kernel
theorem dX5_isShadedBy_41 : decode cX5_isShadedBy 41 = .ok (.bipush 108, 2) := by decide +kernel
theorem dX5_isShadedBy_43 : decode cX5_isShadedBy 43 = .ok (.iaload, 1) := by decide +kernel
theorem dX5_isShadedBy_44 : decode cX5_isShadedBy 44 = .ok (.invokevirtual 52, 3) := by decide +kernel
theorem dX5_isShadedBy_47 : decode cX5_isShadedBy 47 = .ok (.ifCond .eq 7, 3) := by decide +kernel
theorem dX5_isShadedBy_50 : decode cX5_isShadedBy 50 = .ok (.iconst 1, 1) := by decide +kernel
theorem dX5_isShadedBy_51 : decode cX5_isShadedBy 51 = .ok (.goto 4, 3) := by decide +kernel
theorem dX5_isShadedBy_54 : decode cX5_isShadedBy 54 = .ok (.iconst 0, 1) := by decide +kernel
theorem dX5_isShadedBy_55 : decode cX5_isShadedBy 55 = .ok (.istore_n 3, 1) := by decide +kernel
theorem dX5_isShadedBy_56 : decode cX5_isShadedBy 56 = .ok (.iinc 4 1, 3) := by decide +kernel
theorem dX5_isShadedBy_59 : decode cX5_isShadedBy 59 = .ok (.goto (-54), 3) := by decide +kernel
theorem dX5_isShadedBy_62 : decode cX5_isShadedBy 62 = .ok (.iload_n 3, 1) := by decide +kernel
theorem dX5_isShadedBy_63 : decode cX5_isShadedBy 63 = .ok (.ireturn, 1) := by decide +kernel
set_option maxRecDepth 20000 in
theorem ggX5_ofPlayer_X5_towers : GoodIn wsX5_ofPlayer wsX5_towers := goodIn_r _ [6, 1, 43, 44, 45, 46, 47, 48, 49, 50, 51] (by decide +kernel) (by decide +kernel)
set_option maxRecDepth 20000 in
theorem gX5_ofPlayer_X5_towers : GoodIn wsX5_ofPlayer (wsV RX5 95 RX5 yX5_towers wsX5_towers) := goodIn_app (goodIn_of _ (by decide +kernel)) ggX5_ofPlayer_X5_towers
set_option maxRecDepth 20000 in
theorem ggX5_ofPlayer_X5_payment : GoodIn wsX5_ofPlayer wsX5_payment := goodIn_r _ [10, 1, 11, 12, 13, 5, 14, 15, 16, 17, 18, 19, 20, 21, 22, 23, 24, 25, 26, 27, 28, 29, 30, 31, 32, 33, 34, 43, 44, 45, 46, 47, 48, 49, 50, 51] (by decide +kernel) (by decide +kernel)
set_option maxRecDepth 20000 in
theorem gX5_ofPlayer_X5_payment : GoodIn wsX5_ofPlayer (wsV RX5 62 RX5 yX5_payment wsX5_payment) := goodIn_app (goodIn_of _ (by decide +kernel)) ggX5_ofPlayer_X5_payment
set_option maxRecDepth 20000 in
theorem ggX5_ofPlayer_X5_ofTowers : GoodIn wsX5_ofPlayer wsX5_ofTowers := goodIn_r _ [38, 1, 11, 12, 13, 5, 14, 15, 16, 17, 18, 19, 20, 21, 22, 23, 24, 25, 26, 27, 28, 29, 30, 31, 32, 33, 34, 39, 40, 41, 42, 43, 44, 45, 46, 47, 48, 49, 50, 51] (by decide +kernel) (by decide +kernel)
set_option maxRecDepth 20000 in
theorem gX5_ofPlayer_X5_ofTowers : GoodIn wsX5_ofPlayer (wsV RX5 114 RX5 yX5_ofTowers wsX5_ofTowers) := goodIn_app (goodIn_of _ (by decide +kernel)) ggX5_ofPlayer_X5_ofTowers
theorem dX5_ofPlayer_0 : decode cX5_ofPlayer 0 = .ok (.iload_n 2, 1) := by decide +kernel
theorem dX5_ofPlayer_1 : decode cX5_ofPlayer 1 = .ok (.ifCond .ne 15, 3) := by decide +kernel
theorem dX5_ofPlayer_4 : decode cX5_ofPlayer 4 = .ok (.aload_n 0, 1) := by decide +kernel
theorem dX5_ofPlayer_5 : decode cX5_ofPlayer 5 = .ok (.getfield 7, 3) := by decide +kernel
theorem dX5_ofPlayer_8 : decode cX5_ofPlayer 8 = .ok (.bipush 112, 2) := by decide +kernel
theorem dX5_ofPlayer_10 : decode cX5_ofPlayer 10 = .ok (.iload_n 1, 1) := by decide +kernel
theorem dX5_ofPlayer_11 : decode cX5_ofPlayer 11 = .ok (.iadd, 1) := by decide +kernel
theorem dX5_ofPlayer_12 : decode cX5_ofPlayer 12 = .ok (.iaload, 1) := by decide +kernel
theorem dX5_ofPlayer_13 : decode cX5_ofPlayer 13 = .ok (.goto 36, 3) := by decide +kernel
theorem dX5_ofPlayer_16 : decode cX5_ofPlayer 16 = .ok (.iload_n 2, 1) := by decide +kernel
theorem dX5_ofPlayer_17 : decode cX5_ofPlayer 17 = .ok (.iconst 1, 1) := by decide +kernel
theorem dX5_ofPlayer_18 : decode cX5_ofPlayer 18 = .ok (.if_icmp .ne 11, 3) := by decide +kernel
theorem dX5_ofPlayer_21 : decode cX5_ofPlayer 21 = .ok (.aload_n 0, 1) := by decide +kernel
theorem dX5_ofPlayer_22 : decode cX5_ofPlayer 22 = .ok (.iload_n 1, 1) := by decide +kernel
theorem dX5_ofPlayer_23 : decode cX5_ofPlayer 23 = .ok (.invokevirtual 95, 3) := by decide +kernel
theorem dX5_ofPlayer_26 : decode cX5_ofPlayer 26 = .ok (.goto 23, 3) := by decide +kernel
theorem dX5_ofPlayer_29 : decode cX5_ofPlayer 29 = .ok (.iload_n 2, 1) := by decide +kernel
theorem dX5_ofPlayer_30 : decode cX5_ofPlayer 30 = .ok (.iconst 4, 1) := by decide +kernel
theorem dX5_ofPlayer_31 : decode cX5_ofPlayer 31 = .ok (.if_icmp .ne 12, 3) := by decide +kernel
theorem dX5_ofPlayer_34 : decode cX5_ofPlayer 34 = .ok (.aload_n 0, 1) := by decide +kernel
theorem dX5_ofPlayer_35 : decode cX5_ofPlayer 35 = .ok (.iconst 0, 1) := by decide +kernel
theorem dX5_ofPlayer_36 : decode cX5_ofPlayer 36 = .ok (.iload_n 1, 1) := by decide +kernel
theorem dX5_ofPlayer_37 : decode cX5_ofPlayer 37 = .ok (.invokevirtual 62, 3) := by decide +kernel
theorem dX5_ofPlayer_40 : decode cX5_ofPlayer 40 = .ok (.goto 9, 3) := by decide +kernel
theorem dX5_ofPlayer_43 : decode cX5_ofPlayer 43 = .ok (.aload_n 0, 1) := by decide +kernel
theorem dX5_ofPlayer_44 : decode cX5_ofPlayer 44 = .ok (.iload_n 1, 1) := by decide +kernel
theorem dX5_ofPlayer_45 : decode cX5_ofPlayer 45 = .ok (.iload_n 2, 1) := by decide +kernel
theorem dX5_ofPlayer_46 : decode cX5_ofPlayer 46 = .ok (.invokevirtual 114, 3) := by decide +kernel
theorem dX5_ofPlayer_49 : decode cX5_ofPlayer 49 = .ok (.ireturn, 1) := by decide +kernel
set_option maxRecDepth 20000 in
theorem ggX5_playerOf_X5_in : GoodIn wsX5_playerOf wsX5_in := goodIn_r _ [4] (by decide +kernel) (by decide +kernel)
set_option maxRecDepth 20000 in
theorem gX5_playerOf_X5_in : GoodIn wsX5_playerOf (va_wsS RX5 30 yX5_in wsX5_in) := goodIn_app (goodIn_of _ (by decide +kernel)) ggX5_playerOf_X5_in
set_option maxRecDepth 20000 in
theorem ggX5_playerOf_X5_throwsAt : GoodIn wsX5_playerOf wsX5_throwsAt := goodIn_r _ [8, 9, 55, 56, 57, 58, 59, 60, 61, 62, 63] (by decide +kernel) (by decide +kernel)
set_option maxRecDepth 20000 in
theorem gX5_playerOf_X5_throwsAt : GoodIn wsX5_playerOf (wsV RX5 69 RX5 yX5_throwsAt wsX5_throwsAt) := goodIn_app (goodIn_of _ (by decide +kernel)) ggX5_playerOf_X5_throwsAt
set_option maxRecDepth 20000 in
theorem ggX5_playerOf_X5_ofPlayer : GoodIn wsX5_playerOf wsX5_ofPlayer := goodIn_r _ [13, 14, 15, 16, 17, 3, 18, 19, 20, 21, 22, 23, 24, 25, 26, 27, 28, 29, 30, 31, 32, 33, 34, 35, 36, 37, 38, 39, 40, 41, 42, 43, 44, 45, 46, 47, 48, 49, 50, 51, 52, 53, 54, 55, 56, 57, 58, 59, 60, 61, 62, 63] (by decide +kernel) (by decide +kernel)
set_option maxRecDepth 20000 in
theorem gX5_playerOf_X5_ofPlayer : GoodIn wsX5_playerOf (wsV RX5 117 RX5 yX5_ofPlayer wsX5_ofPlayer) := goodIn_app (goodIn_of _ (by decide +kernel)) ggX5_playerOf_X5_ofPlayer
theorem dX5_playerOf_0 : decode cX5_playerOf 0 = .ok (.aload_n 0, 1) := by decide +kernel
theorem dX5_playerOf_1 : decode cX5_playerOf 1 = .ok (.iload_n 1, 1) := by decide +kernel
theorem dX5_playerOf_2 : decode cX5_playerOf 2 = .ok (.iconst 0, 1) := by decide +kernel
theorem dX5_playerOf_3 : decode cX5_playerOf 3 = .ok (.iconst 1, 1) := by decide +kernel
theorem dX5_playerOf_4 : decode cX5_playerOf 4 = .ok (.invokestatic 30, 3) := by decide +kernel
theorem dX5_playerOf_7 : decode cX5_playerOf 7 = .ok (.ifCond .ne 7, 3) := by decide +kernel
theorem dX5_playerOf_10 : decode cX5_playerOf 10 = .ok (.iconst 1, 1) := by decide +kernel
theorem dX5_playerOf_11 : decode cX5_playerOf 11 = .ok (.goto 17, 3) := by decide +kernel
theorem dX5_playerOf_14 : decode cX5_playerOf 14 = .ok (.iload_n 2, 1) := by decide +kernel
theorem dX5_playerOf_15 : decode cX5_playerOf 15 = .ok (.iconst 0, 1) := by decide +kernel
theorem dX5_playerOf_16 : decode cX5_playerOf 16 = .ok (.iconst 5, 1) := by decide +kernel
theorem dX5_playerOf_17 : decode cX5_playerOf 17 = .ok (.invokestatic 30, 3) := by decide +kernel
theorem dX5_playerOf_20 : decode cX5_playerOf 20 = .ok (.ifCond .eq 7, 3) := by decide +kernel
theorem dX5_playerOf_23 : decode cX5_playerOf 23 = .ok (.iconst 0, 1) := by decide +kernel
theorem dX5_playerOf_24 : decode cX5_playerOf 24 = .ok (.goto 4, 3) := by decide +kernel
theorem dX5_playerOf_27 : decode cX5_playerOf 27 = .ok (.iconst 2, 1) := by decide +kernel
theorem dX5_playerOf_28 : decode cX5_playerOf 28 = .ok (.invokevirtual 69, 3) := by decide +kernel
theorem dX5_playerOf_31 : decode cX5_playerOf 31 = .ok (.ifCond .eq 7, 3) := by decide +kernel
theorem dX5_playerOf_34 : decode cX5_playerOf 34 = .ok (.iconst 0, 1) := by decide +kernel
theorem dX5_playerOf_35 : decode cX5_playerOf 35 = .ok (.goto 9, 3) := by decide +kernel
theorem dX5_playerOf_38 : decode cX5_playerOf 38 = .ok (.aload_n 0, 1) := by decide +kernel
theorem dX5_playerOf_39 : decode cX5_playerOf 39 = .ok (.iload_n 1, 1) := by decide +kernel
theorem dX5_playerOf_40 : decode cX5_playerOf 40 = .ok (.iload_n 2, 1) := by decide +kernel
theorem dX5_playerOf_41 : decode cX5_playerOf 41 = .ok (.invokevirtual 117, 3) := by decide +kernel
theorem dX5_playerOf_44 : decode cX5_playerOf 44 = .ok (.ireturn, 1) := by decide +kernel
theorem dX5_crowds_0 : decode cX5_crowds 0 = .ok (.iconst 0, 1) := by decide +kernel
theorem dX5_crowds_1 : decode cX5_crowds 1 = .ok (.istore_n 1, 1) := by decide +kernel
theorem dX5_crowds_2 : decode cX5_crowds 2 = .ok (.iconst 0, 1) := by decide +kernel
theorem dX5_crowds_3 : decode cX5_crowds 3 = .ok (.istore_n 2, 1) := by decide +kernel
theorem dX5_crowds_4 : decode cX5_crowds 4 = .ok (.iload_n 2, 1) := by decide +kernel
theorem dX5_crowds_5 : decode cX5_crowds 5 = .ok (.bipush 36, 2) := by decide +kernel
theorem dX5_crowds_7 : decode cX5_crowds 7 = .ok (.if_icmp .ge 21, 3) := by decide +kernel
theorem dX5_crowds_10 : decode cX5_crowds 10 = .ok (.iload_n 1, 1) := by decide +kernel
theorem dX5_crowds_11 : decode cX5_crowds 11 = .ok (.aload_n 0, 1) := by decide +kernel
theorem dX5_crowds_12 : decode cX5_crowds 12 = .ok (.getfield 7, 3) := by decide +kernel
theorem dX5_crowds_15 : decode cX5_crowds 15 = .ok (.bipush 72, 2) := by decide +kernel
theorem dX5_crowds_17 : decode cX5_crowds 17 = .ok (.iload_n 2, 1) := by decide +kernel
theorem dX5_crowds_18 : decode cX5_crowds 18 = .ok (.iadd, 1) := by decide +kernel
theorem dX5_crowds_19 : decode cX5_crowds 19 = .ok (.iaload, 1) := by decide +kernel
theorem dX5_crowds_20 : decode cX5_crowds 20 = .ok (.iadd, 1) := by decide +kernel
theorem dX5_crowds_21 : decode cX5_crowds 21 = .ok (.istore_n 1, 1) := by decide +kernel
theorem dX5_crowds_22 : decode cX5_crowds 22 = .ok (.iinc 2 1, 3) := by decide +kernel
theorem dX5_crowds_25 : decode cX5_crowds 25 = .ok (.goto (-21), 3) := by decide +kernel
theorem dX5_crowds_28 : decode cX5_crowds 28 = .ok (.iload_n 1, 1) := by decide +kernel
theorem dX5_crowds_29 : decode cX5_crowds 29 = .ok (.ireturn, 1) := by decide +kernel
set_option maxRecDepth 20000 in
theorem ggX5_counted_X5_sideAt : GoodIn wsX5_counted wsX5_sideAt := goodIn_r _ [6] (by decide +kernel) (by decide +kernel)
set_option maxRecDepth 20000 in
theorem gX5_counted_X5_sideAt : GoodIn wsX5_counted (va_wsS RX5 41 yX5_sideAt wsX5_sideAt) := goodIn_app (goodIn_of _ (by decide +kernel)) ggX5_counted_X5_sideAt
set_option maxRecDepth 20000 in
theorem ggX5_counted_X5_steepnessAt : GoodIn wsX5_counted wsX5_steepnessAt := goodIn_r _ [9] (by decide +kernel) (by decide +kernel)
set_option maxRecDepth 20000 in
theorem gX5_counted_X5_steepnessAt : GoodIn wsX5_counted (va_wsS RX5 49 yX5_steepnessAt wsX5_steepnessAt) := goodIn_app (goodIn_of _ (by decide +kernel)) ggX5_counted_X5_steepnessAt
set_option maxRecDepth 20000 in
theorem ggX5_counted_X5_darkAt : GoodIn wsX5_counted wsX5_darkAt := goodIn_r _ [13, 14, 15, 16, 5, 17, 18, 19, 20, 21, 3, 4, 6, 22, 23, 24, 25, 26, 27, 28, 1, 29, 30, 31, 7, 8, 9, 40, 41, 42, 43, 44, 45, 46, 47, 48] (by decide +kernel) (by decide +kernel)
set_option maxRecDepth 20000 in
theorem gX5_counted_X5_darkAt : GoodIn wsX5_counted (wsV RX5 120 RX5 yX5_darkAt wsX5_darkAt) := goodIn_app (goodIn_of _ (by decide +kernel)) ggX5_counted_X5_darkAt
set_option maxRecDepth 20000 in
theorem ggX5_counted_X5_towers : GoodIn wsX5_counted wsX5_towers := goodIn_r _ [35, 1, 40, 41, 42, 43, 44, 45, 46, 47, 48] (by decide +kernel) (by decide +kernel)
set_option maxRecDepth 20000 in
theorem gX5_counted_X5_towers : GoodIn wsX5_counted (wsV RX5 95 RX5 yX5_towers wsX5_towers) := goodIn_app (goodIn_of _ (by decide +kernel)) ggX5_counted_X5_towers
set_option maxRecDepth 20000 in
theorem ggX5_counted_X5_crowds : GoodIn wsX5_counted wsX5_crowds := goodIn_r _ [39, 1, 40, 41, 42, 43, 44, 45, 46, 47, 48] (by decide +kernel) (by decide +kernel)
set_option maxRecDepth 20000 in
theorem gX5_counted_X5_crowds : GoodIn wsX5_counted (wsV RX5 123 RX5 yX5_crowds wsX5_crowds) := goodIn_app (goodIn_of _ (by decide +kernel)) ggX5_counted_X5_crowds
theorem dX5_counted_0 : decode cX5_counted 0 = .ok (.iload_n 1, 1) := by decide +kernel
theorem dX5_counted_1 : decode cX5_counted 1 = .ok (.tableswitch 130 0 8 #[51, 59, 70, 81, 81, 93, 105, 117, 122], 51) := by decide +kernel
theorem dX5_counted_52 : decode cX5_counted 52 = .ok (.aload_n 0, 1) := by decide +kernel
theorem dX5_counted_53 : decode cX5_counted 53 = .ok (.getfield 7, 3) := by decide +kernel
theorem dX5_counted_56 : decode cX5_counted 56 = .ok (.bipush 108, 2) := by decide +kernel
theorem dX5_counted_58 : decode cX5_counted 58 = .ok (.iaload, 1) := by decide +kernel
theorem dX5_counted_59 : decode cX5_counted 59 = .ok (.ireturn, 1) := by decide +kernel
theorem dX5_counted_60 : decode cX5_counted 60 = .ok (.aload_n 0, 1) := by decide +kernel
theorem dX5_counted_61 : decode cX5_counted 61 = .ok (.getfield 7, 3) := by decide +kernel
theorem dX5_counted_64 : decode cX5_counted 64 = .ok (.bipush 108, 2) := by decide +kernel
theorem dX5_counted_66 : decode cX5_counted 66 = .ok (.iaload, 1) := by decide +kernel
theorem dX5_counted_67 : decode cX5_counted 67 = .ok (.invokestatic 41, 3) := by decide +kernel
theorem dX5_counted_70 : decode cX5_counted 70 = .ok (.ireturn, 1) := by decide +kernel
theorem dX5_counted_71 : decode cX5_counted 71 = .ok (.aload_n 0, 1) := by decide +kernel
theorem dX5_counted_72 : decode cX5_counted 72 = .ok (.getfield 7, 3) := by decide +kernel
theorem dX5_counted_75 : decode cX5_counted 75 = .ok (.bipush 108, 2) := by decide +kernel
theorem dX5_counted_77 : decode cX5_counted 77 = .ok (.iaload, 1) := by decide +kernel
theorem dX5_counted_78 : decode cX5_counted 78 = .ok (.invokestatic 49, 3) := by decide +kernel
theorem dX5_counted_81 : decode cX5_counted 81 = .ok (.ireturn, 1) := by decide +kernel
theorem dX5_counted_82 : decode cX5_counted 82 = .ok (.aload_n 0, 1) := by decide +kernel
theorem dX5_counted_83 : decode cX5_counted 83 = .ok (.getfield 7, 3) := by decide +kernel
theorem dX5_counted_86 : decode cX5_counted 86 = .ok (.bipush 109, 2) := by decide +kernel
theorem dX5_counted_88 : decode cX5_counted 88 = .ok (.iload_n 1, 1) := by decide +kernel
theorem dX5_counted_89 : decode cX5_counted 89 = .ok (.iadd, 1) := by decide +kernel
theorem dX5_counted_90 : decode cX5_counted 90 = .ok (.iconst 3, 1) := by decide +kernel
theorem dX5_counted_91 : decode cX5_counted 91 = .ok (.isub, 1) := by decide +kernel
theorem dX5_counted_92 : decode cX5_counted 92 = .ok (.iaload, 1) := by decide +kernel
theorem dX5_counted_93 : decode cX5_counted 93 = .ok (.ireturn, 1) := by decide +kernel
theorem dX5_counted_94 : decode cX5_counted 94 = .ok (.aload_n 0, 1) := by decide +kernel
theorem dX5_counted_95 : decode cX5_counted 95 = .ok (.aload_n 0, 1) := by decide +kernel
theorem dX5_counted_96 : decode cX5_counted 96 = .ok (.getfield 7, 3) := by decide +kernel
theorem dX5_counted_99 : decode cX5_counted 99 = .ok (.bipush 108, 2) := by decide +kernel
theorem dX5_counted_101 : decode cX5_counted 101 = .ok (.iaload, 1) := by decide +kernel
theorem dX5_counted_102 : decode cX5_counted 102 = .ok (.invokevirtual 120, 3) := by decide +kernel
theorem dX5_counted_105 : decode cX5_counted 105 = .ok (.ireturn, 1) := by decide +kernel
theorem dX5_counted_106 : decode cX5_counted 106 = .ok (.aload_n 0, 1) := by decide +kernel
theorem dX5_counted_107 : decode cX5_counted 107 = .ok (.iconst 0, 1) := by decide +kernel
theorem dX5_counted_108 : decode cX5_counted 108 = .ok (.invokevirtual 95, 3) := by decide +kernel
theorem dX5_counted_111 : decode cX5_counted 111 = .ok (.aload_n 0, 1) := by decide +kernel
theorem dX5_counted_112 : decode cX5_counted 112 = .ok (.iconst 1, 1) := by decide +kernel
theorem dX5_counted_113 : decode cX5_counted 113 = .ok (.invokevirtual 95, 3) := by decide +kernel
theorem dX5_counted_116 : decode cX5_counted 116 = .ok (.iadd, 1) := by decide +kernel
theorem dX5_counted_117 : decode cX5_counted 117 = .ok (.ireturn, 1) := by decide +kernel
theorem dX5_counted_118 : decode cX5_counted 118 = .ok (.aload_n 0, 1) := by decide +kernel
theorem dX5_counted_119 : decode cX5_counted 119 = .ok (.invokevirtual 123, 3) := by decide +kernel
theorem dX5_counted_122 : decode cX5_counted 122 = .ok (.ireturn, 1) := by decide +kernel
theorem dX5_counted_123 : decode cX5_counted 123 = .ok (.aload_n 0, 1) := by decide +kernel
theorem dX5_counted_124 : decode cX5_counted 124 = .ok (.getfield 7, 3) := by decide +kernel
theorem dX5_counted_127 : decode cX5_counted 127 = .ok (.bipush 111, 2) := by decide +kernel
theorem dX5_counted_129 : decode cX5_counted 129 = .ok (.iaload, 1) := by decide +kernel
theorem dX5_counted_130 : decode cX5_counted 130 = .ok (.ireturn, 1) := by decide +kernel
theorem dX5_counted_131 : decode cX5_counted 131 = .ok (.aload_n 0, 1) := by decide +kernel
theorem dX5_counted_132 : decode cX5_counted 132 = .ok (.getfield 34, 3) := by decide +kernel
theorem dX5_counted_135 : decode cX5_counted 135 = .ok (.ireturn, 1) := by decide +kernel
set_option maxRecDepth 20000 in
theorem ggX5_count_X5_in : GoodIn wsX5_count wsX5_in := goodIn_r _ [4] (by decide +kernel) (by decide +kernel)
set_option maxRecDepth 20000 in
theorem gX5_count_X5_in : GoodIn wsX5_count (va_wsS RX5 30 yX5_in wsX5_in) := goodIn_app (goodIn_of _ (by decide +kernel)) ggX5_count_X5_in
set_option maxRecDepth 20000 in
theorem ggX5_count_X5_throwsAt : GoodIn wsX5_count wsX5_throwsAt := goodIn_r _ [8, 9, 52, 53, 54, 55, 56, 57, 58, 59, 60] (by decide +kernel) (by decide +kernel)
set_option maxRecDepth 20000 in
theorem gX5_count_X5_throwsAt : GoodIn wsX5_count (wsV RX5 69 RX5 yX5_throwsAt wsX5_throwsAt) := goodIn_app (goodIn_of _ (by decide +kernel)) ggX5_count_X5_throwsAt
set_option maxRecDepth 20000 in
theorem ggX5_count_X5_counted : GoodIn wsX5_count wsX5_counted := goodIn_r _ [13, 14, 15, 16, 17, 3, 18, 19, 20, 21, 22, 23, 24, 25, 26, 27, 28, 29, 30, 31, 32, 33, 34, 35, 36, 37, 38, 39, 40, 41, 42, 43, 44, 45, 46, 47, 48, 49, 50, 51, 52, 53, 54, 55, 56, 57, 58, 59, 60] (by decide +kernel) (by decide +kernel)
set_option maxRecDepth 20000 in
theorem gX5_count_X5_counted : GoodIn wsX5_count (wsV RX5 126 RX5 yX5_counted wsX5_counted) := goodIn_app (goodIn_of _ (by decide +kernel)) ggX5_count_X5_counted
theorem dX5_count_0 : decode cX5_count 0 = .ok (.aload_n 0, 1) := by decide +kernel
theorem dX5_count_1 : decode cX5_count 1 = .ok (.iload_n 1, 1) := by decide +kernel
theorem dX5_count_2 : decode cX5_count 2 = .ok (.iconst 0, 1) := by decide +kernel
theorem dX5_count_3 : decode cX5_count 3 = .ok (.bipush 9, 2) := by decide +kernel
theorem dX5_count_5 : decode cX5_count 5 = .ok (.invokestatic 30, 3) := by decide +kernel
theorem dX5_count_8 : decode cX5_count 8 = .ok (.ifCond .eq 7, 3) := by decide +kernel
theorem dX5_count_11 : decode cX5_count 11 = .ok (.iconst 0, 1) := by decide +kernel
theorem dX5_count_12 : decode cX5_count 12 = .ok (.goto 4, 3) := by decide +kernel
theorem dX5_count_15 : decode cX5_count 15 = .ok (.iconst 1, 1) := by decide +kernel
theorem dX5_count_16 : decode cX5_count 16 = .ok (.invokevirtual 69, 3) := by decide +kernel
theorem dX5_count_19 : decode cX5_count 19 = .ok (.ifCond .eq 7, 3) := by decide +kernel
theorem dX5_count_22 : decode cX5_count 22 = .ok (.iconst 0, 1) := by decide +kernel
theorem dX5_count_23 : decode cX5_count 23 = .ok (.goto 8, 3) := by decide +kernel
theorem dX5_count_26 : decode cX5_count 26 = .ok (.aload_n 0, 1) := by decide +kernel
theorem dX5_count_27 : decode cX5_count 27 = .ok (.iload_n 1, 1) := by decide +kernel
theorem dX5_count_28 : decode cX5_count 28 = .ok (.invokevirtual 126, 3) := by decide +kernel
theorem dX5_count_31 : decode cX5_count 31 = .ok (.ireturn, 1) := by decide +kernel
set_option maxRecDepth 20000 in
theorem ggX5_whyNot_X5_isSquare : GoodIn wsX5_whyNot wsX5_isSquare := goodIn_r _ [4, 5, 6, 3, 7] (by decide +kernel) (by decide +kernel)
set_option maxRecDepth 20000 in
theorem gX5_whyNot_X5_isSquare : GoodIn wsX5_whyNot (va_wsS RX5 65 yX5_isSquare wsX5_isSquare) := goodIn_app (goodIn_of _ (by decide +kernel)) ggX5_whyNot_X5_isSquare
set_option maxRecDepth 20000 in
theorem ggX5_whyNot_X5_throwsAt : GoodIn wsX5_whyNot wsX5_throwsAt := goodIn_r _ [11, 12, 42, 43, 44, 45, 46, 47, 48, 49, 50] (by decide +kernel) (by decide +kernel)
set_option maxRecDepth 20000 in
theorem gX5_whyNot_X5_throwsAt : GoodIn wsX5_whyNot (wsV RX5 69 RX5 yX5_throwsAt wsX5_throwsAt) := goodIn_app (goodIn_of _ (by decide +kernel)) ggX5_whyNot_X5_throwsAt
set_option maxRecDepth 20000 in
theorem ggX5_whyNot_X5_reason : GoodIn wsX5_whyNot wsX5_reason := goodIn_r _ [16, 17, 18, 19, 20, 3, 21, 22, 23, 24, 25, 26, 27, 28, 29, 30, 31, 32, 33, 34, 35, 36, 37, 38, 39, 40, 41, 42, 43, 44, 45, 46, 47, 48, 49, 50] (by decide +kernel) (by decide +kernel)
set_option maxRecDepth 20000 in
theorem gX5_whyNot_X5_reason : GoodIn wsX5_whyNot (wsV RX5 75 RX5 yX5_reason wsX5_reason) := goodIn_app (goodIn_of _ (by decide +kernel)) ggX5_whyNot_X5_reason
theorem dX5_whyNot_0 : decode cX5_whyNot 0 = .ok (.aload_n 0, 1) := by decide +kernel
theorem dX5_whyNot_1 : decode cX5_whyNot 1 = .ok (.iload_n 1, 1) := by decide +kernel
theorem dX5_whyNot_2 : decode cX5_whyNot 2 = .ok (.invokestatic 65, 3) := by decide +kernel
theorem dX5_whyNot_5 : decode cX5_whyNot 5 = .ok (.ifCond .eq 7, 3) := by decide +kernel
theorem dX5_whyNot_8 : decode cX5_whyNot 8 = .ok (.iconst 0, 1) := by decide +kernel
theorem dX5_whyNot_9 : decode cX5_whyNot 9 = .ok (.goto 4, 3) := by decide +kernel
theorem dX5_whyNot_12 : decode cX5_whyNot 12 = .ok (.iconst 1, 1) := by decide +kernel
theorem dX5_whyNot_13 : decode cX5_whyNot 13 = .ok (.invokevirtual 69, 3) := by decide +kernel
theorem dX5_whyNot_16 : decode cX5_whyNot 16 = .ok (.ifCond .eq 7, 3) := by decide +kernel
theorem dX5_whyNot_19 : decode cX5_whyNot 19 = .ok (.iconst 0, 1) := by decide +kernel
theorem dX5_whyNot_20 : decode cX5_whyNot 20 = .ok (.goto 8, 3) := by decide +kernel
theorem dX5_whyNot_23 : decode cX5_whyNot 23 = .ok (.aload_n 0, 1) := by decide +kernel
theorem dX5_whyNot_24 : decode cX5_whyNot 24 = .ok (.iload_n 1, 1) := by decide +kernel
theorem dX5_whyNot_25 : decode cX5_whyNot 25 = .ok (.invokevirtual 75, 3) := by decide +kernel
theorem dX5_whyNot_28 : decode cX5_whyNot 28 = .ok (.ireturn, 1) := by decide +kernel
set_option maxRecDepth 20000 in
theorem ggX5_gain_X5_reason : GoodIn wsX5_gain wsX5_reason := goodIn_r _ [6, 1, 7, 8, 9, 5, 10, 11, 12, 13, 14, 15, 16, 17, 18, 19, 20, 21, 22, 23, 24, 25, 26, 27, 28, 29, 30, 43, 44, 45, 46, 47, 48, 49, 50, 51] (by decide +kernel) (by decide +kernel)
set_option maxRecDepth 20000 in
theorem gX5_gain_X5_reason : GoodIn wsX5_gain (wsV RX5 75 RX5 yX5_reason wsX5_reason) := goodIn_app (goodIn_of _ (by decide +kernel)) ggX5_gain_X5_reason
set_option maxRecDepth 20000 in
theorem ggX5_gain_X5_copies : GoodIn wsX5_gain wsX5_copies := goodIn_r _ [34, 1, 43, 44, 45, 46, 47, 48, 49, 50, 51] (by decide +kernel) (by decide +kernel)
set_option maxRecDepth 20000 in
theorem gX5_gain_X5_copies : GoodIn wsX5_gain (wsV RX5 129 RX5 yX5_copies wsX5_copies) := goodIn_app (goodIn_of _ (by decide +kernel)) ggX5_gain_X5_copies
set_option maxRecDepth 20000 in
theorem ggX5_gain_X5_raises : GoodIn wsX5_gain wsX5_raises := goodIn_r _ [38, 1, 43, 44, 45, 46, 47, 48, 49, 50, 51] (by decide +kernel) (by decide +kernel)
set_option maxRecDepth 20000 in
theorem gX5_gain_X5_raises : GoodIn wsX5_gain (wsV RX5 78 RX5 yX5_raises wsX5_raises) := goodIn_app (goodIn_of _ (by decide +kernel)) ggX5_gain_X5_raises
set_option maxRecDepth 20000 in
theorem ggX5_gain_X5_payment : GoodIn wsX5_gain wsX5_payment := goodIn_r _ [42, 1, 7, 8, 9, 5, 10, 11, 12, 13, 14, 15, 16, 17, 18, 19, 20, 21, 22, 23, 24, 25, 26, 27, 28, 29, 30, 43, 44, 45, 46, 47, 48, 49, 50, 51] (by decide +kernel) (by decide +kernel)
set_option maxRecDepth 20000 in
theorem gX5_gain_X5_payment : GoodIn wsX5_gain (wsV RX5 62 RX5 yX5_payment wsX5_payment) := goodIn_app (goodIn_of _ (by decide +kernel)) ggX5_gain_X5_payment
theorem dX5_gain_0 : decode cX5_gain 0 = .ok (.aload_n 0, 1) := by decide +kernel
theorem dX5_gain_1 : decode cX5_gain 1 = .ok (.iload_n 1, 1) := by decide +kernel
theorem dX5_gain_2 : decode cX5_gain 2 = .ok (.invokevirtual 75, 3) := by decide +kernel
theorem dX5_gain_5 : decode cX5_gain 5 = .ok (.ifCond .le 7, 3) := by decide +kernel
theorem dX5_gain_8 : decode cX5_gain 8 = .ok (.sipush (-999), 3) := by decide +kernel
theorem dX5_gain_11 : decode cX5_gain 11 = .ok (.ireturn, 1) := by decide +kernel
theorem dX5_gain_12 : decode cX5_gain 12 = .ok (.aload_n 0, 1) := by decide +kernel
theorem dX5_gain_13 : decode cX5_gain 13 = .ok (.invokevirtual 129, 3) := by decide +kernel
theorem dX5_gain_16 : decode cX5_gain 16 = .ok (.aload_n 0, 1) := by decide +kernel
theorem dX5_gain_17 : decode cX5_gain 17 = .ok (.bipush 114, 2) := by decide +kernel
theorem dX5_gain_19 : decode cX5_gain 19 = .ok (.iload_n 1, 1) := by decide +kernel
theorem dX5_gain_20 : decode cX5_gain 20 = .ok (.invokevirtual 78, 3) := by decide +kernel
theorem dX5_gain_23 : decode cX5_gain 23 = .ok (.aload_n 0, 1) := by decide +kernel
theorem dX5_gain_24 : decode cX5_gain 24 = .ok (.bipush 114, 2) := by decide +kernel
theorem dX5_gain_26 : decode cX5_gain 26 = .ok (.aload_n 0, 1) := by decide +kernel
theorem dX5_gain_27 : decode cX5_gain 27 = .ok (.getfield 7, 3) := by decide +kernel
theorem dX5_gain_30 : decode cX5_gain 30 = .ok (.bipush 109, 2) := by decide +kernel
theorem dX5_gain_32 : decode cX5_gain 32 = .ok (.iaload, 1) := by decide +kernel
theorem dX5_gain_33 : decode cX5_gain 33 = .ok (.invokevirtual 62, 3) := by decide +kernel
theorem dX5_gain_36 : decode cX5_gain 36 = .ok (.aload_n 0, 1) := by decide +kernel
theorem dX5_gain_37 : decode cX5_gain 37 = .ok (.bipush 114, 2) := by decide +kernel
theorem dX5_gain_39 : decode cX5_gain 39 = .ok (.iconst 1, 1) := by decide +kernel
theorem dX5_gain_40 : decode cX5_gain 40 = .ok (.aload_n 0, 1) := by decide +kernel
theorem dX5_gain_41 : decode cX5_gain 41 = .ok (.getfield 7, 3) := by decide +kernel
theorem dX5_gain_44 : decode cX5_gain 44 = .ok (.bipush 109, 2) := by decide +kernel
theorem dX5_gain_46 : decode cX5_gain 46 = .ok (.iaload, 1) := by decide +kernel
theorem dX5_gain_47 : decode cX5_gain 47 = .ok (.isub, 1) := by decide +kernel
theorem dX5_gain_48 : decode cX5_gain 48 = .ok (.invokevirtual 62, 3) := by decide +kernel
theorem dX5_gain_51 : decode cX5_gain 51 = .ok (.isub, 1) := by decide +kernel
theorem dX5_gain_52 : decode cX5_gain 52 = .ok (.ireturn, 1) := by decide +kernel
set_option maxRecDepth 20000 in
theorem ggX5_ifRaised_X5_isSquare : GoodIn wsX5_ifRaised wsX5_isSquare := goodIn_r _ [4, 5, 6, 3, 7] (by decide +kernel) (by decide +kernel)
set_option maxRecDepth 20000 in
theorem gX5_ifRaised_X5_isSquare : GoodIn wsX5_ifRaised (va_wsS RX5 65 yX5_isSquare wsX5_isSquare) := goodIn_app (goodIn_of _ (by decide +kernel)) ggX5_ifRaised_X5_isSquare
set_option maxRecDepth 20000 in
theorem ggX5_ifRaised_X5_throwsAt : GoodIn wsX5_ifRaised wsX5_throwsAt := goodIn_r _ [11, 12, 58, 59, 60, 61, 62, 63, 64, 65, 66] (by decide +kernel) (by decide +kernel)
set_option maxRecDepth 20000 in
theorem gX5_ifRaised_X5_throwsAt : GoodIn wsX5_ifRaised (wsV RX5 69 RX5 yX5_throwsAt wsX5_throwsAt) := goodIn_app (goodIn_of _ (by decide +kernel)) ggX5_ifRaised_X5_throwsAt
set_option maxRecDepth 20000 in
theorem ggX5_ifRaised_X5_gain : GoodIn wsX5_ifRaised wsX5_gain := goodIn_r _ [16, 17, 18, 19, 20, 3, 21, 22, 23, 24, 25, 26, 27, 28, 29, 30, 31, 32, 33, 34, 35, 36, 37, 38, 39, 40, 41, 42, 43, 44, 45, 46, 47, 48, 49, 50, 51, 52, 53, 54, 55, 56, 57, 58, 59, 60, 61, 62, 63, 64, 65, 66] (by decide +kernel) (by decide +kernel)
set_option maxRecDepth 20000 in
theorem gX5_ifRaised_X5_gain : GoodIn wsX5_ifRaised (wsV RX5 132 RX5 yX5_gain wsX5_gain) := goodIn_app (goodIn_of _ (by decide +kernel)) ggX5_ifRaised_X5_gain
theorem dX5_ifRaised_0 : decode cX5_ifRaised 0 = .ok (.aload_n 0, 1) := by decide +kernel
theorem dX5_ifRaised_1 : decode cX5_ifRaised 1 = .ok (.iload_n 1, 1) := by decide +kernel
theorem dX5_ifRaised_2 : decode cX5_ifRaised 2 = .ok (.invokestatic 65, 3) := by decide +kernel
theorem dX5_ifRaised_5 : decode cX5_ifRaised 5 = .ok (.ifCond .eq 7, 3) := by decide +kernel
theorem dX5_ifRaised_8 : decode cX5_ifRaised 8 = .ok (.iconst 0, 1) := by decide +kernel
theorem dX5_ifRaised_9 : decode cX5_ifRaised 9 = .ok (.goto 4, 3) := by decide +kernel
theorem dX5_ifRaised_12 : decode cX5_ifRaised 12 = .ok (.iconst 1, 1) := by decide +kernel
theorem dX5_ifRaised_13 : decode cX5_ifRaised 13 = .ok (.invokevirtual 69, 3) := by decide +kernel
theorem dX5_ifRaised_16 : decode cX5_ifRaised 16 = .ok (.ifCond .eq 7, 3) := by decide +kernel
theorem dX5_ifRaised_19 : decode cX5_ifRaised 19 = .ok (.iconst 0, 1) := by decide +kernel
theorem dX5_ifRaised_20 : decode cX5_ifRaised 20 = .ok (.goto 8, 3) := by decide +kernel
theorem dX5_ifRaised_23 : decode cX5_ifRaised 23 = .ok (.aload_n 0, 1) := by decide +kernel
theorem dX5_ifRaised_24 : decode cX5_ifRaised 24 = .ok (.iload_n 1, 1) := by decide +kernel
theorem dX5_ifRaised_25 : decode cX5_ifRaised 25 = .ok (.invokevirtual 132, 3) := by decide +kernel
theorem dX5_ifRaised_28 : decode cX5_ifRaised 28 = .ok (.ireturn, 1) := by decide +kernel
set_option maxRecDepth 20000 in
theorem ggX5_best_X5_gain : GoodIn wsX5_best wsX5_gain := goodIn_r _ [5, 6, 7, 8, 9, 4, 10, 11, 12, 13, 14, 15, 16, 17, 18, 19, 20, 21, 22, 23, 24, 25, 26, 27, 28, 29, 30, 31, 32, 33, 34, 35, 36, 37, 38, 39, 40, 41, 42, 43, 44, 45, 46, 47, 48, 49, 50, 51, 52, 53, 54, 55] (by decide +kernel) (by decide +kernel)
set_option maxRecDepth 20000 in
theorem gX5_best_X5_gain : GoodIn wsX5_best (wsV RX5 132 RX5 yX5_gain wsX5_gain) := goodIn_app (goodIn_of _ (by decide +kernel)) ggX5_best_X5_gain
theorem dX5_best_0 : decode cX5_best 0 = .ok (.iconst (-1), 1) := by decide +kernel
theorem dX5_best_1 : decode cX5_best 1 = .ok (.istore_n 1, 1) := by decide +kernel
theorem dX5_best_2 : decode cX5_best 2 = .ok (.sipush (-999), 3) := by decide +kernel
theorem dX5_best_5 : decode cX5_best 5 = .ok (.istore_n 2, 1) := by decide +kernel
theorem dX5_best_6 : decode cX5_best 6 = .ok (.iconst 0, 1) := by decide +kernel
theorem dX5_best_7 : decode cX5_best 7 = .ok (.istore_n 3, 1) := by decide +kernel
theorem dX5_best_8 : decode cX5_best 8 = .ok (.iload_n 3, 1) := by decide +kernel
theorem dX5_best_9 : decode cX5_best 9 = .ok (.bipush 36, 2) := by decide +kernel
theorem dX5_best_11 : decode cX5_best 11 = .ok (.if_icmp .ge 41, 3) := by decide +kernel
theorem dX5_best_14 : decode cX5_best 14 = .ok (.aload_n 0, 1) := by decide +kernel
theorem dX5_best_15 : decode cX5_best 15 = .ok (.iload_n 3, 1) := by decide +kernel
theorem dX5_best_16 : decode cX5_best 16 = .ok (.invokevirtual 132, 3) := by decide +kernel
theorem dX5_best_19 : decode cX5_best 19 = .ok (.istore 4, 2) := by decide +kernel
theorem dX5_best_21 : decode cX5_best 21 = .ok (.iload 4, 2) := by decide +kernel
theorem dX5_best_23 : decode cX5_best 23 = .ok (.iload_n 2, 1) := by decide +kernel
theorem dX5_best_24 : decode cX5_best 24 = .ok (.if_icmp .le 7, 3) := by decide +kernel
theorem dX5_best_27 : decode cX5_best 27 = .ok (.iload_n 3, 1) := by decide +kernel
theorem dX5_best_28 : decode cX5_best 28 = .ok (.goto 4, 3) := by decide +kernel
theorem dX5_best_31 : decode cX5_best 31 = .ok (.iload_n 1, 1) := by decide +kernel
theorem dX5_best_32 : decode cX5_best 32 = .ok (.istore_n 1, 1) := by decide +kernel
theorem dX5_best_33 : decode cX5_best 33 = .ok (.iload 4, 2) := by decide +kernel
theorem dX5_best_35 : decode cX5_best 35 = .ok (.iload_n 2, 1) := by decide +kernel
theorem dX5_best_36 : decode cX5_best 36 = .ok (.if_icmp .le 8, 3) := by decide +kernel
theorem dX5_best_39 : decode cX5_best 39 = .ok (.iload 4, 2) := by decide +kernel
theorem dX5_best_41 : decode cX5_best 41 = .ok (.goto 4, 3) := by decide +kernel
theorem dX5_best_44 : decode cX5_best 44 = .ok (.iload_n 2, 1) := by decide +kernel
theorem dX5_best_45 : decode cX5_best 45 = .ok (.istore_n 2, 1) := by decide +kernel
theorem dX5_best_46 : decode cX5_best 46 = .ok (.iinc 3 1, 3) := by decide +kernel
theorem dX5_best_49 : decode cX5_best 49 = .ok (.goto (-41), 3) := by decide +kernel
theorem dX5_best_52 : decode cX5_best 52 = .ok (.iload_n 1, 1) := by decide +kernel
theorem dX5_best_53 : decode cX5_best 53 = .ok (.ireturn, 1) := by decide +kernel
set_option maxRecDepth 20000 in
theorem ggX5_bestSquare_X5_best : GoodIn wsX5_bestSquare wsX5_best := goodIn_r _ [6, 7, 8, 9, 5, 10, 11, 12, 13, 14, 15, 16, 17, 18, 19, 20, 21, 22, 23, 24, 25, 26, 27, 28, 29, 30, 31, 32, 33, 34, 35, 36, 37, 38, 39, 40, 41, 42, 43, 44, 45, 46, 47, 48, 49, 50, 51, 52, 53, 54, 55, 56, 57, 58, 59, 60] (by decide +kernel) (by decide +kernel)
set_option maxRecDepth 20000 in
theorem gX5_bestSquare_X5_best : GoodIn wsX5_bestSquare (wsV RX5 135 RX5 yX5_best wsX5_best) := goodIn_app (goodIn_of _ (by decide +kernel)) ggX5_bestSquare_X5_best
theorem dX5_bestSquare_0 : decode cX5_bestSquare 0 = .ok (.aload_n 0, 1) := by decide +kernel
theorem dX5_bestSquare_1 : decode cX5_bestSquare 1 = .ok (.iconst 0, 1) := by decide +kernel
theorem dX5_bestSquare_2 : decode cX5_bestSquare 2 = .ok (.putfield 26, 3) := by decide +kernel
theorem dX5_bestSquare_5 : decode cX5_bestSquare 5 = .ok (.aload_n 0, 1) := by decide +kernel
theorem dX5_bestSquare_6 : decode cX5_bestSquare 6 = .ok (.invokevirtual 135, 3) := by decide +kernel
theorem dX5_bestSquare_9 : decode cX5_bestSquare 9 = .ok (.ireturn, 1) := by decide +kernel
set_option maxRecDepth 20000 in
theorem ggX5_least_X5_sideAt : GoodIn wsX5_least wsX5_sideAt := goodIn_r _ [5] (by decide +kernel) (by decide +kernel)
set_option maxRecDepth 20000 in
theorem gX5_least_X5_sideAt : GoodIn wsX5_least (va_wsS RX5 41 yX5_sideAt wsX5_sideAt) := goodIn_app (goodIn_of _ (by decide +kernel)) ggX5_least_X5_sideAt
set_option maxRecDepth 20000 in
theorem ggX5_least_X5_distance : GoodIn wsX5_least wsX5_distance := goodIn_r _ [8, 9, 10, 4, 11] (by decide +kernel) (by decide +kernel)
set_option maxRecDepth 20000 in
theorem gX5_least_X5_distance : GoodIn wsX5_least (va_wsS RX5 45 yX5_distance wsX5_distance) := goodIn_app (goodIn_of _ (by decide +kernel)) ggX5_least_X5_distance
set_option maxRecDepth 20000 in
theorem ggX5_least_X5_steepnessAt : GoodIn wsX5_least wsX5_steepnessAt := goodIn_r _ [14] (by decide +kernel) (by decide +kernel)
set_option maxRecDepth 20000 in
theorem gX5_least_X5_steepnessAt : GoodIn wsX5_least (va_wsS RX5 49 yX5_steepnessAt wsX5_steepnessAt) := goodIn_app (goodIn_of _ (by decide +kernel)) ggX5_least_X5_steepnessAt
theorem dX5_least_0 : decode cX5_least 0 = .ok (.iload_n 1, 1) := by decide +kernel
theorem dX5_least_1 : decode cX5_least 1 = .ok (.iload_n 2, 1) := by decide +kernel
theorem dX5_least_2 : decode cX5_least 2 = .ok (.aload_n 0, 1) := by decide +kernel
theorem dX5_least_3 : decode cX5_least 3 = .ok (.getfield 7, 3) := by decide +kernel
theorem dX5_least_6 : decode cX5_least 6 = .ok (.bipush 108, 2) := by decide +kernel
theorem dX5_least_8 : decode cX5_least 8 = .ok (.iaload, 1) := by decide +kernel
theorem dX5_least_9 : decode cX5_least 9 = .ok (.invokestatic 41, 3) := by decide +kernel
theorem dX5_least_12 : decode cX5_least 12 = .ok (.invokestatic 45, 3) := by decide +kernel
theorem dX5_least_15 : decode cX5_least 15 = .ok (.istore_n 3, 1) := by decide +kernel
theorem dX5_least_16 : decode cX5_least 16 = .ok (.aload_n 0, 1) := by decide +kernel
theorem dX5_least_17 : decode cX5_least 17 = .ok (.getfield 7, 3) := by decide +kernel
theorem dX5_least_20 : decode cX5_least 20 = .ok (.iconst 0, 1) := by decide +kernel
theorem dX5_least_21 : decode cX5_least 21 = .ok (.iload_n 2, 1) := by decide +kernel
theorem dX5_least_22 : decode cX5_least 22 = .ok (.iadd, 1) := by decide +kernel
theorem dX5_least_23 : decode cX5_least 23 = .ok (.iaload, 1) := by decide +kernel
theorem dX5_least_24 : decode cX5_least 24 = .ok (.iload_n 3, 1) := by decide +kernel
theorem dX5_least_25 : decode cX5_least 25 = .ok (.aload_n 0, 1) := by decide +kernel
theorem dX5_least_26 : decode cX5_least 26 = .ok (.getfield 7, 3) := by decide +kernel
theorem dX5_least_29 : decode cX5_least 29 = .ok (.bipush 108, 2) := by decide +kernel
theorem dX5_least_31 : decode cX5_least 31 = .ok (.iaload, 1) := by decide +kernel
theorem dX5_least_32 : decode cX5_least 32 = .ok (.invokestatic 49, 3) := by decide +kernel
theorem dX5_least_35 : decode cX5_least 35 = .ok (.imul, 1) := by decide +kernel
theorem dX5_least_36 : decode cX5_least 36 = .ok (.iadd, 1) := by decide +kernel
theorem dX5_least_37 : decode cX5_least 37 = .ok (.iconst 1, 1) := by decide +kernel
theorem dX5_least_38 : decode cX5_least 38 = .ok (.iadd, 1) := by decide +kernel
theorem dX5_least_39 : decode cX5_least 39 = .ok (.istore 4, 2) := by decide +kernel
theorem dX5_least_41 : decode cX5_least 41 = .ok (.iload_n 3, 1) := by decide +kernel
theorem dX5_least_42 : decode cX5_least 42 = .ok (.ifCond .eq 10, 3) := by decide +kernel
theorem dX5_least_45 : decode cX5_least 45 = .ok (.iload 4, 2) := by decide +kernel
theorem dX5_least_47 : decode cX5_least 47 = .ok (.bipush 9, 2) := by decide +kernel
theorem dX5_least_49 : decode cX5_least 49 = .ok (.if_icmp .le 7, 3) := by decide +kernel
theorem dX5_least_52 : decode cX5_least 52 = .ok (.iconst (-1), 1) := by decide +kernel
theorem dX5_least_53 : decode cX5_least 53 = .ok (.goto 5, 3) := by decide +kernel
theorem dX5_least_56 : decode cX5_least 56 = .ok (.iload 4, 2) := by decide +kernel
theorem dX5_least_58 : decode cX5_least 58 = .ok (.ireturn, 1) := by decide +kernel
set_option maxRecDepth 20000 in
theorem ggX5_needed_X5_isSquare : GoodIn wsX5_needed wsX5_isSquare := goodIn_r _ [4, 5, 6, 3, 7] (by decide +kernel) (by decide +kernel)
set_option maxRecDepth 20000 in
theorem gX5_needed_X5_isSquare : GoodIn wsX5_needed (va_wsS RX5 65 yX5_isSquare wsX5_isSquare) := goodIn_app (goodIn_of _ (by decide +kernel)) ggX5_needed_X5_isSquare
set_option maxRecDepth 20000 in
theorem ggX5_needed_X5_throwsAt : GoodIn wsX5_needed wsX5_throwsAt := goodIn_r _ [11, 12, 30, 31, 32, 33, 34, 35, 36, 37, 38] (by decide +kernel) (by decide +kernel)
set_option maxRecDepth 20000 in
theorem gX5_needed_X5_throwsAt : GoodIn wsX5_needed (wsV RX5 69 RX5 yX5_throwsAt wsX5_throwsAt) := goodIn_app (goodIn_of _ (by decide +kernel)) ggX5_needed_X5_throwsAt
set_option maxRecDepth 20000 in
theorem ggX5_needed_X5_least : GoodIn wsX5_needed wsX5_least := goodIn_r _ [16, 17, 18, 19, 3, 20, 21, 22, 23, 24, 25, 26, 27, 28, 29, 30, 31, 32, 33, 34, 35, 36, 37, 38] (by decide +kernel) (by decide +kernel)
set_option maxRecDepth 20000 in
theorem gX5_needed_X5_least : GoodIn wsX5_needed (wsV RX5 138 RX5 yX5_least wsX5_least) := goodIn_app (goodIn_of _ (by decide +kernel)) ggX5_needed_X5_least
theorem dX5_needed_0 : decode cX5_needed 0 = .ok (.aload_n 0, 1) := by decide +kernel
theorem dX5_needed_1 : decode cX5_needed 1 = .ok (.iload_n 1, 1) := by decide +kernel
theorem dX5_needed_2 : decode cX5_needed 2 = .ok (.invokestatic 65, 3) := by decide +kernel
theorem dX5_needed_5 : decode cX5_needed 5 = .ok (.ifCond .eq 14, 3) := by decide +kernel
theorem dX5_needed_8 : decode cX5_needed 8 = .ok (.iload_n 2, 1) := by decide +kernel
theorem dX5_needed_9 : decode cX5_needed 9 = .ok (.invokestatic 65, 3) := by decide +kernel
theorem dX5_needed_12 : decode cX5_needed 12 = .ok (.ifCond .eq 7, 3) := by decide +kernel
theorem dX5_needed_15 : decode cX5_needed 15 = .ok (.iconst 0, 1) := by decide +kernel
theorem dX5_needed_16 : decode cX5_needed 16 = .ok (.goto 4, 3) := by decide +kernel
theorem dX5_needed_19 : decode cX5_needed 19 = .ok (.iconst 1, 1) := by decide +kernel
theorem dX5_needed_20 : decode cX5_needed 20 = .ok (.invokevirtual 69, 3) := by decide +kernel
theorem dX5_needed_23 : decode cX5_needed 23 = .ok (.ifCond .eq 7, 3) := by decide +kernel
theorem dX5_needed_26 : decode cX5_needed 26 = .ok (.iconst 0, 1) := by decide +kernel
theorem dX5_needed_27 : decode cX5_needed 27 = .ok (.goto 9, 3) := by decide +kernel
theorem dX5_needed_30 : decode cX5_needed 30 = .ok (.aload_n 0, 1) := by decide +kernel
theorem dX5_needed_31 : decode cX5_needed 31 = .ok (.iload_n 1, 1) := by decide +kernel
theorem dX5_needed_32 : decode cX5_needed 32 = .ok (.iload_n 2, 1) := by decide +kernel
theorem dX5_needed_33 : decode cX5_needed 33 = .ok (.invokevirtual 138, 3) := by decide +kernel
theorem dX5_needed_36 : decode cX5_needed 36 = .ok (.ireturn, 1) := by decide +kernel
set_option maxRecDepth 20000 in
theorem ggX5_darkest_X5_darkAt : GoodIn wsX5_darkest wsX5_darkAt := goodIn_r _ [5, 6, 7, 8, 4, 9, 10, 11, 12, 13, 14, 15, 16, 17, 18, 19, 20, 21, 22, 23, 24, 25, 26, 27, 28, 29, 30, 31, 32, 33, 34, 35, 36, 37, 38, 39] (by decide +kernel) (by decide +kernel)
set_option maxRecDepth 20000 in
theorem gX5_darkest_X5_darkAt : GoodIn wsX5_darkest (wsV RX5 120 RX5 yX5_darkAt wsX5_darkAt) := goodIn_app (goodIn_of _ (by decide +kernel)) ggX5_darkest_X5_darkAt
theorem dX5_darkest_0 : decode cX5_darkest 0 = .ok (.iconst 0, 1) := by decide +kernel
theorem dX5_darkest_1 : decode cX5_darkest 1 = .ok (.istore_n 1, 1) := by decide +kernel
theorem dX5_darkest_2 : decode cX5_darkest 2 = .ok (.iconst 1, 1) := by decide +kernel
theorem dX5_darkest_3 : decode cX5_darkest 3 = .ok (.istore_n 2, 1) := by decide +kernel
theorem dX5_darkest_4 : decode cX5_darkest 4 = .ok (.iload_n 2, 1) := by decide +kernel
theorem dX5_darkest_5 : decode cX5_darkest 5 = .ok (.bipush 12, 2) := by decide +kernel
theorem dX5_darkest_7 : decode cX5_darkest 7 = .ok (.if_icmp .ge 28, 3) := by decide +kernel
theorem dX5_darkest_10 : decode cX5_darkest 10 = .ok (.aload_n 0, 1) := by decide +kernel
theorem dX5_darkest_11 : decode cX5_darkest 11 = .ok (.iload_n 2, 1) := by decide +kernel
theorem dX5_darkest_12 : decode cX5_darkest 12 = .ok (.invokevirtual 120, 3) := by decide +kernel
theorem dX5_darkest_15 : decode cX5_darkest 15 = .ok (.aload_n 0, 1) := by decide +kernel
theorem dX5_darkest_16 : decode cX5_darkest 16 = .ok (.iload_n 1, 1) := by decide +kernel
theorem dX5_darkest_17 : decode cX5_darkest 17 = .ok (.invokevirtual 120, 3) := by decide +kernel
theorem dX5_darkest_20 : decode cX5_darkest 20 = .ok (.if_icmp .le 7, 3) := by decide +kernel
theorem dX5_darkest_23 : decode cX5_darkest 23 = .ok (.iload_n 2, 1) := by decide +kernel
theorem dX5_darkest_24 : decode cX5_darkest 24 = .ok (.goto 4, 3) := by decide +kernel
theorem dX5_darkest_27 : decode cX5_darkest 27 = .ok (.iload_n 1, 1) := by decide +kernel
theorem dX5_darkest_28 : decode cX5_darkest 28 = .ok (.istore_n 1, 1) := by decide +kernel
theorem dX5_darkest_29 : decode cX5_darkest 29 = .ok (.iinc 2 1, 3) := by decide +kernel
theorem dX5_darkest_32 : decode cX5_darkest 32 = .ok (.goto (-28), 3) := by decide +kernel
theorem dX5_darkest_35 : decode cX5_darkest 35 = .ok (.iload_n 1, 1) := by decide +kernel
theorem dX5_darkest_36 : decode cX5_darkest 36 = .ok (.ireturn, 1) := by decide +kernel
set_option maxRecDepth 20000 in
theorem ggX5_darkestHour_X5_darkest : GoodIn wsX5_darkestHour wsX5_darkest := goodIn_r _ [6, 7, 8, 9, 5, 10, 11, 12, 13, 14, 15, 16, 17, 18, 19, 20, 21, 22, 23, 24, 25, 26, 27, 28, 29, 30, 31, 32, 33, 34, 35, 36, 37, 38, 39, 40, 41, 42, 43, 44] (by decide +kernel) (by decide +kernel)
set_option maxRecDepth 20000 in
theorem gX5_darkestHour_X5_darkest : GoodIn wsX5_darkestHour (wsV RX5 141 RX5 yX5_darkest wsX5_darkest) := goodIn_app (goodIn_of _ (by decide +kernel)) ggX5_darkestHour_X5_darkest
theorem dX5_darkestHour_0 : decode cX5_darkestHour 0 = .ok (.aload_n 0, 1) := by decide +kernel
theorem dX5_darkestHour_1 : decode cX5_darkestHour 1 = .ok (.iconst 0, 1) := by decide +kernel
theorem dX5_darkestHour_2 : decode cX5_darkestHour 2 = .ok (.putfield 26, 3) := by decide +kernel
theorem dX5_darkestHour_5 : decode cX5_darkestHour 5 = .ok (.aload_n 0, 1) := by decide +kernel
theorem dX5_darkestHour_6 : decode cX5_darkestHour 6 = .ok (.invokevirtual 141, 3) := by decide +kernel
theorem dX5_darkestHour_9 : decode cX5_darkestHour 9 = .ok (.ireturn, 1) := by decide +kernel
set_option maxRecDepth 20000 in
theorem ggX5_darkShare_X5_darkAt : GoodIn wsX5_darkShare wsX5_darkAt := goodIn_r _ [8, 9, 10, 11, 7, 12, 13, 14, 15, 16, 17, 18, 19, 20, 21, 22, 23, 24, 25, 26, 2, 27, 28, 29, 30, 31, 32, 33, 34, 35, 36, 37, 38, 39, 40, 41] (by decide +kernel) (by decide +kernel)
set_option maxRecDepth 20000 in
theorem gX5_darkShare_X5_darkAt : GoodIn wsX5_darkShare (wsV RX5 120 RX5 yX5_darkAt wsX5_darkAt) := goodIn_app (goodIn_of _ (by decide +kernel)) ggX5_darkShare_X5_darkAt
theorem dX5_darkShare_0 : decode cX5_darkShare 0 = .ok (.aload_n 0, 1) := by decide +kernel
theorem dX5_darkShare_1 : decode cX5_darkShare 1 = .ok (.iconst 0, 1) := by decide +kernel
theorem dX5_darkShare_2 : decode cX5_darkShare 2 = .ok (.putfield 26, 3) := by decide +kernel
theorem dX5_darkShare_5 : decode cX5_darkShare 5 = .ok (.aload_n 0, 1) := by decide +kernel
theorem dX5_darkShare_6 : decode cX5_darkShare 6 = .ok (.aload_n 0, 1) := by decide +kernel
theorem dX5_darkShare_7 : decode cX5_darkShare 7 = .ok (.getfield 7, 3) := by decide +kernel
theorem dX5_darkShare_10 : decode cX5_darkShare 10 = .ok (.bipush 108, 2) := by decide +kernel
theorem dX5_darkShare_12 : decode cX5_darkShare 12 = .ok (.iaload, 1) := by decide +kernel
theorem dX5_darkShare_13 : decode cX5_darkShare 13 = .ok (.invokevirtual 120, 3) := by decide +kernel
theorem dX5_darkShare_16 : decode cX5_darkShare 16 = .ok (.i2d, 1) := by decide +kernel
theorem dX5_darkShare_17 : decode cX5_darkShare 17 = .ok (.dconst 1, 1) := by decide +kernel
theorem dX5_darkShare_18 : decode cX5_darkShare 18 = .ok (.dmul, 1) := by decide +kernel
theorem dX5_darkShare_19 : decode cX5_darkShare 19 = .ok (.ldc2_w 144, 3) := by decide +kernel
theorem dX5_darkShare_22 : decode cX5_darkShare 22 = .ok (.ddiv, 1) := by decide +kernel
theorem dX5_darkShare_23 : decode cX5_darkShare 23 = .ok (.dreturn, 1) := by decide +kernel
theorem dX5_adds_0 : decode cX5_adds 0 = .ok (.aload_n 0, 1) := by decide +kernel
theorem dX5_adds_1 : decode cX5_adds 1 = .ok (.ldc2_w 146, 3) := by decide +kernel
theorem dX5_adds_4 : decode cX5_adds 4 = .ok (.aload_n 0, 1) := by decide +kernel
theorem dX5_adds_5 : decode cX5_adds 5 = .ok (.getfield 148, 3) := by decide +kernel
theorem dX5_adds_8 : decode cX5_adds 8 = .ok (.lmul, 1) := by decide +kernel
theorem dX5_adds_9 : decode cX5_adds 9 = .ok (.lload_n 1, 1) := by decide +kernel
theorem dX5_adds_10 : decode cX5_adds 10 = .ok (.ladd, 1) := by decide +kernel
theorem dX5_adds_11 : decode cX5_adds 11 = .ok (.putfield 148, 3) := by decide +kernel
theorem dX5_adds_14 : decode cX5_adds 14 = .ok (.return_, 1) := by decide +kernel
set_option maxRecDepth 20000 in
theorem ggX5_addsSquare_X5_ofSquare : GoodIn wsX5_addsSquare wsX5_ofSquare := goodIn_r _ [5, 6, 7, 8, 9, 4, 10, 11, 12, 13, 14, 15, 16, 17, 18, 19, 20, 21, 22, 23, 24, 25, 26, 27, 28, 29, 30, 31, 32, 33, 34, 35, 36, 37, 38, 39, 40, 41, 42, 69, 70, 71, 72, 73, 74, 75, 76, 77] (by decide +kernel) (by decide +kernel)
set_option maxRecDepth 20000 in
theorem gX5_addsSquare_X5_ofSquare : GoodIn wsX5_addsSquare (wsV RX5 108 RX5 yX5_ofSquare wsX5_ofSquare) := goodIn_app (goodIn_of _ (by decide +kernel)) ggX5_addsSquare_X5_ofSquare
set_option maxRecDepth 20000 in
theorem ggX5_addsSquare_X5_adds : GoodIn wsX5_addsSquare wsX5_adds := goodIn_r _ [46, 47, 48, 69, 70, 71, 72, 73, 74, 75, 76, 77] (by decide +kernel) (by decide +kernel)
set_option maxRecDepth 20000 in
theorem gX5_addsSquare_X5_adds : GoodIn wsX5_addsSquare (wsV RX5 152 RX5 yX5_adds wsX5_adds) := goodIn_app (goodIn_of _ (by decide +kernel)) ggX5_addsSquare_X5_adds
set_option maxRecDepth 20000 in
theorem ggX5_addsSquare_X5_reason : GoodIn wsX5_addsSquare wsX5_reason := goodIn_r _ [52, 6, 7, 8, 9, 4, 10, 11, 12, 13, 14, 15, 16, 17, 18, 19, 20, 21, 22, 23, 24, 25, 26, 27, 28, 29, 30, 69, 70, 71, 72, 73, 74, 75, 76, 77] (by decide +kernel) (by decide +kernel)
set_option maxRecDepth 20000 in
theorem gX5_addsSquare_X5_reason : GoodIn wsX5_addsSquare (wsV RX5 75 RX5 yX5_reason wsX5_reason) := goodIn_app (goodIn_of _ (by decide +kernel)) ggX5_addsSquare_X5_reason
set_option maxRecDepth 20000 in
theorem ggX5_addsSquare_X5_gain : GoodIn wsX5_addsSquare wsX5_gain := goodIn_r _ [56, 6, 49, 50, 51, 4, 52, 7, 8, 9, 10, 11, 12, 13, 14, 15, 16, 17, 18, 19, 20, 21, 22, 23, 24, 25, 26, 27, 28, 29, 30, 57, 58, 59, 60, 61, 62, 63, 64, 65, 66, 67, 68, 69, 70, 71, 72, 73, 74, 75, 76, 77] (by decide +kernel) (by decide +kernel)
set_option maxRecDepth 20000 in
theorem gX5_addsSquare_X5_gain : GoodIn wsX5_addsSquare (wsV RX5 132 RX5 yX5_gain wsX5_gain) := goodIn_app (goodIn_of _ (by decide +kernel)) ggX5_addsSquare_X5_gain
theorem dX5_addsSquare_0 : decode cX5_addsSquare 0 = .ok (.iconst 0, 1) := by decide +kernel
theorem dX5_addsSquare_1 : decode cX5_addsSquare 1 = .ok (.istore_n 2, 1) := by decide +kernel
theorem dX5_addsSquare_2 : decode cX5_addsSquare 2 = .ok (.iload_n 2, 1) := by decide +kernel
theorem dX5_addsSquare_3 : decode cX5_addsSquare 3 = .ok (.bipush 7, 2) := by decide +kernel
theorem dX5_addsSquare_5 : decode cX5_addsSquare 5 = .ok (.if_icmp .gt 20, 3) := by decide +kernel
theorem dX5_addsSquare_8 : decode cX5_addsSquare 8 = .ok (.aload_n 0, 1) := by decide +kernel
theorem dX5_addsSquare_9 : decode cX5_addsSquare 9 = .ok (.aload_n 0, 1) := by decide +kernel
theorem dX5_addsSquare_10 : decode cX5_addsSquare 10 = .ok (.iload_n 1, 1) := by decide +kernel
theorem dX5_addsSquare_11 : decode cX5_addsSquare 11 = .ok (.iload_n 2, 1) := by decide +kernel
theorem dX5_addsSquare_12 : decode cX5_addsSquare 12 = .ok (.invokevirtual 108, 3) := by decide +kernel
theorem dX5_addsSquare_15 : decode cX5_addsSquare 15 = .ok (.i2l, 1) := by decide +kernel
theorem dX5_addsSquare_16 : decode cX5_addsSquare 16 = .ok (.invokevirtual 152, 3) := by decide +kernel
theorem dX5_addsSquare_19 : decode cX5_addsSquare 19 = .ok (.iinc 2 1, 3) := by decide +kernel
theorem dX5_addsSquare_22 : decode cX5_addsSquare 22 = .ok (.goto (-20), 3) := by decide +kernel
theorem dX5_addsSquare_25 : decode cX5_addsSquare 25 = .ok (.aload_n 0, 1) := by decide +kernel
theorem dX5_addsSquare_26 : decode cX5_addsSquare 26 = .ok (.aload_n 0, 1) := by decide +kernel
theorem dX5_addsSquare_27 : decode cX5_addsSquare 27 = .ok (.iload_n 1, 1) := by decide +kernel
theorem dX5_addsSquare_28 : decode cX5_addsSquare 28 = .ok (.invokevirtual 75, 3) := by decide +kernel
theorem dX5_addsSquare_31 : decode cX5_addsSquare 31 = .ok (.i2l, 1) := by decide +kernel
theorem dX5_addsSquare_32 : decode cX5_addsSquare 32 = .ok (.invokevirtual 152, 3) := by decide +kernel
theorem dX5_addsSquare_35 : decode cX5_addsSquare 35 = .ok (.aload_n 0, 1) := by decide +kernel
theorem dX5_addsSquare_36 : decode cX5_addsSquare 36 = .ok (.aload_n 0, 1) := by decide +kernel
theorem dX5_addsSquare_37 : decode cX5_addsSquare 37 = .ok (.iload_n 1, 1) := by decide +kernel
theorem dX5_addsSquare_38 : decode cX5_addsSquare 38 = .ok (.invokevirtual 132, 3) := by decide +kernel
theorem dX5_addsSquare_41 : decode cX5_addsSquare 41 = .ok (.i2l, 1) := by decide +kernel
theorem dX5_addsSquare_42 : decode cX5_addsSquare 42 = .ok (.invokevirtual 152, 3) := by decide +kernel
theorem dX5_addsSquare_45 : decode cX5_addsSquare 45 = .ok (.return_, 1) := by decide +kernel
set_option maxRecDepth 20000 in
theorem ggX5_digest_X5_counted : GoodIn wsX5_digest wsX5_counted := goodIn_r _ [13, 4, 14, 15, 16, 12, 17, 18, 19, 20, 21, 22, 23, 24, 25, 26, 27, 28, 29, 30, 31, 32, 33, 34, 35, 36, 37, 38, 39, 40, 41, 42, 43, 44, 45, 46, 47, 48, 49, 50, 132, 133, 134, 135, 136, 137, 138, 139, 140] (by decide +kernel) (by decide +kernel)
set_option maxRecDepth 20000 in
theorem gX5_digest_X5_counted : GoodIn wsX5_digest (wsV RX5 126 RX5 yX5_counted wsX5_counted) := goodIn_app (goodIn_of _ (by decide +kernel)) ggX5_digest_X5_counted
set_option maxRecDepth 20000 in
theorem ggX5_digest_X5_adds : GoodIn wsX5_digest wsX5_adds := goodIn_r _ [54, 55, 3, 132, 133, 134, 135, 136, 137, 138, 139, 140] (by decide +kernel) (by decide +kernel)
set_option maxRecDepth 20000 in
theorem gX5_digest_X5_adds : GoodIn wsX5_digest (wsV RX5 152 RX5 yX5_adds wsX5_adds) := goodIn_app (goodIn_of _ (by decide +kernel)) ggX5_digest_X5_adds
set_option maxRecDepth 20000 in
theorem ggX5_digest_X5_addsSquare : GoodIn wsX5_digest wsX5_addsSquare := goodIn_r _ [59, 60, 61, 62, 12, 63, 4, 25, 26, 27, 28, 29, 30, 31, 32, 15, 16, 17, 33, 34, 35, 36, 37, 38, 39, 40, 41, 42, 18, 19, 20, 64, 65, 66, 67, 68, 69, 70, 71, 72, 73, 74, 75, 51, 52, 53, 54, 55, 3, 76, 77, 78, 79, 80, 81, 82, 83, 84, 85, 86, 87, 88, 89, 90, 91, 92, 93, 94, 95, 132, 133, 134, 135, 136, 137, 138, 139, 140] (by decide +kernel) (by decide +kernel)
set_option maxRecDepth 20000 in
theorem gX5_digest_X5_addsSquare : GoodIn wsX5_digest (wsV RX5 158 RX5 yX5_addsSquare wsX5_addsSquare) := goodIn_app (goodIn_of _ (by decide +kernel)) ggX5_digest_X5_addsSquare
set_option maxRecDepth 20000 in
theorem ggX5_digest_X5_ofPlayer : GoodIn wsX5_digest wsX5_ofPlayer := goodIn_r _ [99, 4, 43, 44, 45, 12, 46, 92, 93, 94, 95, 25, 26, 27, 28, 29, 30, 31, 32, 15, 16, 17, 33, 34, 35, 36, 37, 38, 39, 40, 41, 42, 18, 19, 20, 100, 101, 102, 103, 104, 105, 106, 107, 132, 133, 134, 135, 136, 137, 138, 139, 140] (by decide +kernel) (by decide +kernel)
set_option maxRecDepth 20000 in
theorem gX5_digest_X5_ofPlayer : GoodIn wsX5_digest (wsV RX5 117 RX5 yX5_ofPlayer wsX5_ofPlayer) := goodIn_app (goodIn_of _ (by decide +kernel)) ggX5_digest_X5_ofPlayer
set_option maxRecDepth 20000 in
theorem ggX5_digest_X5_best : GoodIn wsX5_digest wsX5_best := goodIn_r _ [111, 80, 81, 82, 12, 83, 4, 76, 77, 78, 79, 25, 26, 27, 28, 29, 30, 31, 32, 15, 16, 17, 33, 34, 35, 36, 37, 38, 39, 40, 41, 42, 18, 19, 20, 84, 85, 86, 87, 88, 89, 90, 91, 92, 93, 94, 95, 132, 133, 134, 135, 136, 137, 138, 139, 140] (by decide +kernel) (by decide +kernel)
set_option maxRecDepth 20000 in
theorem gX5_digest_X5_best : GoodIn wsX5_digest (wsV RX5 135 RX5 yX5_best wsX5_best) := goodIn_app (goodIn_of _ (by decide +kernel)) ggX5_digest_X5_best
set_option maxRecDepth 20000 in
theorem ggX5_digest_X5_least : GoodIn wsX5_digest wsX5_least := goodIn_r _ [115, 4, 15, 16, 12, 17, 40, 41, 42, 33, 34, 35, 18, 19, 20, 132, 133, 134, 135, 136, 137, 138, 139, 140] (by decide +kernel) (by decide +kernel)
set_option maxRecDepth 20000 in
theorem gX5_digest_X5_least : GoodIn wsX5_digest (wsV RX5 138 RX5 yX5_least wsX5_least) := goodIn_app (goodIn_of _ (by decide +kernel)) ggX5_digest_X5_least
set_option maxRecDepth 20000 in
theorem ggX5_digest_X5_darkest : GoodIn wsX5_digest wsX5_darkest := goodIn_r _ [119, 21, 22, 23, 12, 24, 25, 26, 27, 28, 29, 30, 31, 32, 15, 16, 17, 33, 34, 35, 36, 37, 38, 39, 4, 40, 41, 42, 18, 19, 20, 132, 133, 134, 135, 136, 137, 138, 139, 140] (by decide +kernel) (by decide +kernel)
set_option maxRecDepth 20000 in
theorem gX5_digest_X5_darkest : GoodIn wsX5_digest (wsV RX5 141 RX5 yX5_darkest wsX5_darkest) := goodIn_app (goodIn_of _ (by decide +kernel)) ggX5_digest_X5_darkest
set_option maxRecDepth 20000 in
theorem ggX5_digest_X5_darkAt : GoodIn wsX5_digest wsX5_darkAt := goodIn_r _ [24, 25, 26, 27, 12, 28, 29, 30, 31, 32, 15, 16, 17, 33, 34, 35, 36, 37, 38, 39, 4, 40, 41, 42, 18, 19, 20, 132, 133, 134, 135, 136, 137, 138, 139, 140] (by decide +kernel) (by decide +kernel)
set_option maxRecDepth 20000 in
theorem gX5_digest_X5_darkAt : GoodIn wsX5_digest (wsV RX5 120 RX5 yX5_darkAt wsX5_darkAt) := goodIn_app (goodIn_of _ (by decide +kernel)) ggX5_digest_X5_darkAt
set_option maxRecDepth 20000 in
theorem ggX5_digest_Jxe99ae_doubleToLongBits_ccdee : GoodIn wsX5_digest wsJxe99ae_doubleToLongBits_ccdee := goodIn_r _ [123, 124, 125, 126, 127, 128, 129, 130, 122, 131] (by decide +kernel) (by decide +kernel)
set_option maxRecDepth 20000 in
theorem gX5_digest_Jxe99ae_doubleToLongBits_ccdee : GoodIn wsX5_digest (va_wsS RX5 162 yJxe99ae_doubleToLongBits_ccdee wsJxe99ae_doubleToLongBits_ccdee) := goodIn_app (goodIn_of _ (by decide +kernel)) ggX5_digest_Jxe99ae_doubleToLongBits_ccdee
theorem dX5_digest_0 : decode cX5_digest 0 = .ok (.aload_n 0, 1) := by decide +kernel
theorem dX5_digest_1 : decode cX5_digest 1 = .ok (.iconst 0, 1) := by decide +kernel
theorem dX5_digest_2 : decode cX5_digest 2 = .ok (.putfield 26, 3) := by decide +kernel
theorem dX5_digest_5 : decode cX5_digest 5 = .ok (.aload_n 0, 1) := by decide +kernel
theorem dX5_digest_6 : decode cX5_digest 6 = .ok (.ldc2_w 156, 3) := by decide +kernel
theorem dX5_digest_9 : decode cX5_digest 9 = .ok (.putfield 148, 3) := by decide +kernel
theorem dX5_digest_12 : decode cX5_digest 12 = .ok (.iconst 0, 1) := by decide +kernel
theorem dX5_digest_13 : decode cX5_digest 13 = .ok (.istore_n 1, 1) := by decide +kernel
theorem dX5_digest_14 : decode cX5_digest 14 = .ok (.iload_n 1, 1) := by decide +kernel
theorem dX5_digest_15 : decode cX5_digest 15 = .ok (.bipush 9, 2) := by decide +kernel
theorem dX5_digest_17 : decode cX5_digest 17 = .ok (.if_icmp .gt 19, 3) := by decide +kernel
theorem dX5_digest_20 : decode cX5_digest 20 = .ok (.aload_n 0, 1) := by decide +kernel
theorem dX5_digest_21 : decode cX5_digest 21 = .ok (.aload_n 0, 1) := by decide +kernel
theorem dX5_digest_22 : decode cX5_digest 22 = .ok (.iload_n 1, 1) := by decide +kernel
theorem dX5_digest_23 : decode cX5_digest 23 = .ok (.invokevirtual 126, 3) := by decide +kernel
theorem dX5_digest_26 : decode cX5_digest 26 = .ok (.i2l, 1) := by decide +kernel
theorem dX5_digest_27 : decode cX5_digest 27 = .ok (.invokevirtual 152, 3) := by decide +kernel
theorem dX5_digest_30 : decode cX5_digest 30 = .ok (.iinc 1 1, 3) := by decide +kernel
theorem dX5_digest_33 : decode cX5_digest 33 = .ok (.goto (-19), 3) := by decide +kernel
theorem dX5_digest_36 : decode cX5_digest 36 = .ok (.iconst 0, 1) := by decide +kernel
theorem dX5_digest_37 : decode cX5_digest 37 = .ok (.istore_n 1, 1) := by decide +kernel
theorem dX5_digest_38 : decode cX5_digest 38 = .ok (.iload_n 1, 1) := by decide +kernel
theorem dX5_digest_39 : decode cX5_digest 39 = .ok (.bipush 36, 2) := by decide +kernel
theorem dX5_digest_41 : decode cX5_digest 41 = .ok (.if_icmp .ge 14, 3) := by decide +kernel
theorem dX5_digest_44 : decode cX5_digest 44 = .ok (.aload_n 0, 1) := by decide +kernel
theorem dX5_digest_45 : decode cX5_digest 45 = .ok (.iload_n 1, 1) := by decide +kernel
theorem dX5_digest_46 : decode cX5_digest 46 = .ok (.invokevirtual 158, 3) := by decide +kernel
theorem dX5_digest_49 : decode cX5_digest 49 = .ok (.iinc 1 1, 3) := by decide +kernel
theorem dX5_digest_52 : decode cX5_digest 52 = .ok (.goto (-14), 3) := by decide +kernel
theorem dX5_digest_55 : decode cX5_digest 55 = .ok (.iconst 0, 1) := by decide +kernel
theorem dX5_digest_56 : decode cX5_digest 56 = .ok (.istore_n 1, 1) := by decide +kernel
theorem dX5_digest_57 : decode cX5_digest 57 = .ok (.iload_n 1, 1) := by decide +kernel
theorem dX5_digest_58 : decode cX5_digest 58 = .ok (.bipush 12, 2) := by decide +kernel
theorem dX5_digest_60 : decode cX5_digest 60 = .ok (.if_icmp .ge 26, 3) := by decide +kernel
theorem dX5_digest_63 : decode cX5_digest 63 = .ok (.aload_n 0, 1) := by decide +kernel
theorem dX5_digest_64 : decode cX5_digest 64 = .ok (.aload_n 0, 1) := by decide +kernel
theorem dX5_digest_65 : decode cX5_digest 65 = .ok (.iload_n 1, 1) := by decide +kernel
theorem dX5_digest_66 : decode cX5_digest 66 = .ok (.bipush 6, 2) := by decide +kernel
theorem dX5_digest_68 : decode cX5_digest 68 = .ok (.idiv, 1) := by decide +kernel
theorem dX5_digest_69 : decode cX5_digest 69 = .ok (.iload_n 1, 1) := by decide +kernel
theorem dX5_digest_70 : decode cX5_digest 70 = .ok (.bipush 6, 2) := by decide +kernel
theorem dX5_digest_72 : decode cX5_digest 72 = .ok (.irem, 1) := by decide +kernel
theorem dX5_digest_73 : decode cX5_digest 73 = .ok (.invokevirtual 117, 3) := by decide +kernel
theorem dX5_digest_76 : decode cX5_digest 76 = .ok (.i2l, 1) := by decide +kernel
theorem dX5_digest_77 : decode cX5_digest 77 = .ok (.invokevirtual 152, 3) := by decide +kernel
theorem dX5_digest_80 : decode cX5_digest 80 = .ok (.iinc 1 1, 3) := by decide +kernel
theorem dX5_digest_83 : decode cX5_digest 83 = .ok (.goto (-26), 3) := by decide +kernel
theorem dX5_digest_86 : decode cX5_digest 86 = .ok (.aload_n 0, 1) := by decide +kernel
theorem dX5_digest_87 : decode cX5_digest 87 = .ok (.aload_n 0, 1) := by decide +kernel
theorem dX5_digest_88 : decode cX5_digest 88 = .ok (.invokevirtual 135, 3) := by decide +kernel
theorem dX5_digest_91 : decode cX5_digest 91 = .ok (.i2l, 1) := by decide +kernel
theorem dX5_digest_92 : decode cX5_digest 92 = .ok (.invokevirtual 152, 3) := by decide +kernel
theorem dX5_digest_95 : decode cX5_digest 95 = .ok (.aload_n 0, 1) := by decide +kernel
theorem dX5_digest_96 : decode cX5_digest 96 = .ok (.aload_n 0, 1) := by decide +kernel
theorem dX5_digest_97 : decode cX5_digest 97 = .ok (.iconst 0, 1) := by decide +kernel
theorem dX5_digest_98 : decode cX5_digest 98 = .ok (.iconst 5, 1) := by decide +kernel
theorem dX5_digest_99 : decode cX5_digest 99 = .ok (.invokevirtual 138, 3) := by decide +kernel
theorem dX5_digest_102 : decode cX5_digest 102 = .ok (.i2l, 1) := by decide +kernel
theorem dX5_digest_103 : decode cX5_digest 103 = .ok (.invokevirtual 152, 3) := by decide +kernel
theorem dX5_digest_106 : decode cX5_digest 106 = .ok (.aload_n 0, 1) := by decide +kernel
theorem dX5_digest_107 : decode cX5_digest 107 = .ok (.aload_n 0, 1) := by decide +kernel
theorem dX5_digest_108 : decode cX5_digest 108 = .ok (.iconst 5, 1) := by decide +kernel
theorem dX5_digest_109 : decode cX5_digest 109 = .ok (.iconst 0, 1) := by decide +kernel
theorem dX5_digest_110 : decode cX5_digest 110 = .ok (.invokevirtual 138, 3) := by decide +kernel
theorem dX5_digest_113 : decode cX5_digest 113 = .ok (.i2l, 1) := by decide +kernel
theorem dX5_digest_114 : decode cX5_digest 114 = .ok (.invokevirtual 152, 3) := by decide +kernel
theorem dX5_digest_117 : decode cX5_digest 117 = .ok (.aload_n 0, 1) := by decide +kernel
theorem dX5_digest_118 : decode cX5_digest 118 = .ok (.aload_n 0, 1) := by decide +kernel
theorem dX5_digest_119 : decode cX5_digest 119 = .ok (.bipush 30, 2) := by decide +kernel
theorem dX5_digest_121 : decode cX5_digest 121 = .ok (.iconst 0, 1) := by decide +kernel
theorem dX5_digest_122 : decode cX5_digest 122 = .ok (.invokevirtual 138, 3) := by decide +kernel
theorem dX5_digest_125 : decode cX5_digest 125 = .ok (.i2l, 1) := by decide +kernel
theorem dX5_digest_126 : decode cX5_digest 126 = .ok (.invokevirtual 152, 3) := by decide +kernel
theorem dX5_digest_129 : decode cX5_digest 129 = .ok (.aload_n 0, 1) := by decide +kernel
theorem dX5_digest_130 : decode cX5_digest 130 = .ok (.aload_n 0, 1) := by decide +kernel
theorem dX5_digest_131 : decode cX5_digest 131 = .ok (.iconst 0, 1) := by decide +kernel
theorem dX5_digest_132 : decode cX5_digest 132 = .ok (.bipush 30, 2) := by decide +kernel
theorem dX5_digest_134 : decode cX5_digest 134 = .ok (.invokevirtual 138, 3) := by decide +kernel
theorem dX5_digest_137 : decode cX5_digest 137 = .ok (.i2l, 1) := by decide +kernel
theorem dX5_digest_138 : decode cX5_digest 138 = .ok (.invokevirtual 152, 3) := by decide +kernel
theorem dX5_digest_141 : decode cX5_digest 141 = .ok (.aload_n 0, 1) := by decide +kernel
theorem dX5_digest_142 : decode cX5_digest 142 = .ok (.aload_n 0, 1) := by decide +kernel
theorem dX5_digest_143 : decode cX5_digest 143 = .ok (.invokevirtual 141, 3) := by decide +kernel
theorem dX5_digest_146 : decode cX5_digest 146 = .ok (.i2l, 1) := by decide +kernel
theorem dX5_digest_147 : decode cX5_digest 147 = .ok (.invokevirtual 152, 3) := by decide +kernel
theorem dX5_digest_150 : decode cX5_digest 150 = .ok (.aload_n 0, 1) := by decide +kernel
theorem dX5_digest_151 : decode cX5_digest 151 = .ok (.aload_n 0, 1) := by decide +kernel
theorem dX5_digest_152 : decode cX5_digest 152 = .ok (.aload_n 0, 1) := by decide +kernel
theorem dX5_digest_153 : decode cX5_digest 153 = .ok (.getfield 7, 3) := by decide +kernel
theorem dX5_digest_156 : decode cX5_digest 156 = .ok (.bipush 108, 2) := by decide +kernel
theorem dX5_digest_158 : decode cX5_digest 158 = .ok (.iaload, 1) := by decide +kernel
theorem dX5_digest_159 : decode cX5_digest 159 = .ok (.invokevirtual 120, 3) := by decide +kernel
theorem dX5_digest_162 : decode cX5_digest 162 = .ok (.i2d, 1) := by decide +kernel
theorem dX5_digest_163 : decode cX5_digest 163 = .ok (.dconst 1, 1) := by decide +kernel
theorem dX5_digest_164 : decode cX5_digest 164 = .ok (.dmul, 1) := by decide +kernel
theorem dX5_digest_165 : decode cX5_digest 165 = .ok (.ldc2_w 144, 3) := by decide +kernel
theorem dX5_digest_168 : decode cX5_digest 168 = .ok (.ddiv, 1) := by decide +kernel
theorem dX5_digest_169 : decode cX5_digest 169 = .ok (.invokestatic 162, 3) := by decide +kernel
theorem dX5_digest_172 : decode cX5_digest 172 = .ok (.invokevirtual 152, 3) := by decide +kernel
theorem dX5_digest_175 : decode cX5_digest 175 = .ok (.aload_n 0, 1) := by decide +kernel
theorem dX5_digest_176 : decode cX5_digest 176 = .ok (.aload_n 0, 1) := by decide +kernel
theorem dX5_digest_177 : decode cX5_digest 177 = .ok (.getfield 19, 3) := by decide +kernel
theorem dX5_digest_180 : decode cX5_digest 180 = .ok (.iconst 0, 1) := by decide +kernel
theorem dX5_digest_181 : decode cX5_digest 181 = .ok (.baload, 1) := by decide +kernel
theorem dX5_digest_182 : decode cX5_digest 182 = .ok (.ifCond .eq 7, 3) := by decide +kernel
theorem dX5_digest_185 : decode cX5_digest 185 = .ok (.lconst 1, 1) := by decide +kernel
theorem dX5_digest_186 : decode cX5_digest 186 = .ok (.goto 4, 3) := by decide +kernel
theorem dX5_digest_189 : decode cX5_digest 189 = .ok (.lconst 0, 1) := by decide +kernel
theorem dX5_digest_190 : decode cX5_digest 190 = .ok (.invokevirtual 152, 3) := by decide +kernel
theorem dX5_digest_193 : decode cX5_digest 193 = .ok (.aload_n 0, 1) := by decide +kernel
theorem dX5_digest_194 : decode cX5_digest 194 = .ok (.aload_n 0, 1) := by decide +kernel
theorem dX5_digest_195 : decode cX5_digest 195 = .ok (.getfield 19, 3) := by decide +kernel
theorem dX5_digest_198 : decode cX5_digest 198 = .ok (.iconst 1, 1) := by decide +kernel
theorem dX5_digest_199 : decode cX5_digest 199 = .ok (.baload, 1) := by decide +kernel
theorem dX5_digest_200 : decode cX5_digest 200 = .ok (.ifCond .eq 7, 3) := by decide +kernel
theorem dX5_digest_203 : decode cX5_digest 203 = .ok (.lconst 1, 1) := by decide +kernel
theorem dX5_digest_204 : decode cX5_digest 204 = .ok (.goto 4, 3) := by decide +kernel
theorem dX5_digest_207 : decode cX5_digest 207 = .ok (.lconst 0, 1) := by decide +kernel
theorem dX5_digest_208 : decode cX5_digest 208 = .ok (.invokevirtual 152, 3) := by decide +kernel
theorem dX5_digest_211 : decode cX5_digest 211 = .ok (.aload_n 0, 1) := by decide +kernel
theorem dX5_digest_212 : decode cX5_digest 212 = .ok (.aload_n 0, 1) := by decide +kernel
theorem dX5_digest_213 : decode cX5_digest 213 = .ok (.getfield 85, 3) := by decide +kernel
theorem dX5_digest_216 : decode cX5_digest 216 = .ok (.i2l, 1) := by decide +kernel
theorem dX5_digest_217 : decode cX5_digest 217 = .ok (.invokevirtual 152, 3) := by decide +kernel
theorem dX5_digest_220 : decode cX5_digest 220 = .ok (.iconst 0, 1) := by decide +kernel
theorem dX5_digest_221 : decode cX5_digest 221 = .ok (.istore_n 1, 1) := by decide +kernel
theorem dX5_digest_222 : decode cX5_digest 222 = .ok (.iload_n 1, 1) := by decide +kernel
theorem dX5_digest_223 : decode cX5_digest 223 = .ok (.aload_n 0, 1) := by decide +kernel
theorem dX5_digest_224 : decode cX5_digest 224 = .ok (.getfield 85, 3) := by decide +kernel
theorem dX5_digest_227 : decode cX5_digest 227 = .ok (.if_icmp .ge 20, 3) := by decide +kernel
theorem dX5_digest_230 : decode cX5_digest 230 = .ok (.aload_n 0, 1) := by decide +kernel
theorem dX5_digest_231 : decode cX5_digest 231 = .ok (.aload_n 0, 1) := by decide +kernel
theorem dX5_digest_232 : decode cX5_digest 232 = .ok (.getfield 23, 3) := by decide +kernel
theorem dX5_digest_235 : decode cX5_digest 235 = .ok (.iload_n 1, 1) := by decide +kernel
theorem dX5_digest_236 : decode cX5_digest 236 = .ok (.iaload, 1) := by decide +kernel
theorem dX5_digest_237 : decode cX5_digest 237 = .ok (.i2l, 1) := by decide +kernel
theorem dX5_digest_238 : decode cX5_digest 238 = .ok (.invokevirtual 152, 3) := by decide +kernel
theorem dX5_digest_241 : decode cX5_digest 241 = .ok (.iinc 1 1, 3) := by decide +kernel
theorem dX5_digest_244 : decode cX5_digest 244 = .ok (.goto (-22), 3) := by decide +kernel
theorem dX5_digest_247 : decode cX5_digest 247 = .ok (.aload_n 0, 1) := by decide +kernel
theorem dX5_digest_248 : decode cX5_digest 248 = .ok (.getfield 148, 3) := by decide +kernel
theorem dX5_digest_251 : decode cX5_digest 251 = .ok (.lreturn, 1) := by decide +kernel
theorem dJxe99ae_isNaN_b9ae7_0 : decode cJxe99ae_isNaN_b9ae7 0 = .ok (.dload_n 0, 1) := by decide +kernel
theorem dJxe99ae_isNaN_b9ae7_1 : decode cJxe99ae_isNaN_b9ae7 1 = .ok (.dload_n 0, 1) := by decide +kernel
theorem dJxe99ae_isNaN_b9ae7_2 : decode cJxe99ae_isNaN_b9ae7 2 = .ok (.dcmp .l, 1) := by decide +kernel
theorem dJxe99ae_isNaN_b9ae7_3 : decode cJxe99ae_isNaN_b9ae7 3 = .ok (.ifCond .eq 7, 3) := by decide +kernel
theorem dJxe99ae_isNaN_b9ae7_6 : decode cJxe99ae_isNaN_b9ae7 6 = .ok (.iconst 1, 1) := by decide +kernel
theorem dJxe99ae_isNaN_b9ae7_7 : decode cJxe99ae_isNaN_b9ae7 7 = .ok (.goto 4, 3) := by decide +kernel
theorem dJxe99ae_isNaN_b9ae7_10 : decode cJxe99ae_isNaN_b9ae7 10 = .ok (.iconst 0, 1) := by decide +kernel
theorem dJxe99ae_isNaN_b9ae7_11 : decode cJxe99ae_isNaN_b9ae7 11 = .ok (.ireturn, 1) := by decide +kernel
set_option maxRecDepth 20000 in
theorem ggJxe99ae_doubleToLongBits_ccdee_Jxe99ae_isNaN_b9ae7 : GoodIn wsJxe99ae_doubleToLongBits_ccdee wsJxe99ae_isNaN_b9ae7 := goodIn_r _ [9] (by decide +kernel) (by decide +kernel)
set_option maxRecDepth 20000 in
theorem gJxe99ae_doubleToLongBits_ccdee_Jxe99ae_isNaN_b9ae7 : GoodIn wsJxe99ae_doubleToLongBits_ccdee (va_wsS RJxe99ae 122 yJxe99ae_isNaN_b9ae7 wsJxe99ae_isNaN_b9ae7) := goodIn_app (goodIn_of _ (by decide +kernel)) ggJxe99ae_doubleToLongBits_ccdee_Jxe99ae_isNaN_b9ae7
theorem dJxe99ae_doubleToLongBits_ccdee_0 : decode cJxe99ae_doubleToLongBits_ccdee 0 = .ok (.dload_n 0, 1) := by decide +kernel
theorem dJxe99ae_doubleToLongBits_ccdee_1 : decode cJxe99ae_doubleToLongBits_ccdee 1 = .ok (.invokestatic 122, 3) := by decide +kernel
theorem dJxe99ae_doubleToLongBits_ccdee_4 : decode cJxe99ae_doubleToLongBits_ccdee 4 = .ok (.ifCond .ne 8, 3) := by decide +kernel
theorem dJxe99ae_doubleToLongBits_ccdee_7 : decode cJxe99ae_doubleToLongBits_ccdee 7 = .ok (.dload_n 0, 1) := by decide +kernel
theorem dJxe99ae_doubleToLongBits_ccdee_8 : decode cJxe99ae_doubleToLongBits_ccdee 8 = .ok (.invokestatic 134, 3) := by decide +kernel
theorem dJxe99ae_doubleToLongBits_ccdee_11 : decode cJxe99ae_doubleToLongBits_ccdee 11 = .ok (.lreturn, 1) := by decide +kernel
theorem dJxe99ae_doubleToLongBits_ccdee_12 : decode cJxe99ae_doubleToLongBits_ccdee 12 = .ok (.ldc2_w 137, 3) := by decide +kernel
theorem dJxe99ae_doubleToLongBits_ccdee_15 : decode cJxe99ae_doubleToLongBits_ccdee 15 = .ok (.lreturn, 1) := by decide +kernel
theorem dJ9_max_7cf53_0 : decode cJ9_max_7cf53 0 = .ok (.iload_n 0, 1) := by decide +kernel
theorem dJ9_max_7cf53_1 : decode cJ9_max_7cf53 1 = .ok (.iload_n 1, 1) := by decide +kernel
theorem dJ9_max_7cf53_2 : decode cJ9_max_7cf53 2 = .ok (.if_icmp .lt 7, 3) := by decide +kernel
theorem dJ9_max_7cf53_5 : decode cJ9_max_7cf53 5 = .ok (.iload_n 0, 1) := by decide +kernel
theorem dJ9_max_7cf53_6 : decode cJ9_max_7cf53 6 = .ok (.goto 4, 3) := by decide +kernel
theorem dJ9_max_7cf53_9 : decode cJ9_max_7cf53 9 = .ok (.iload_n 1, 1) := by decide +kernel
theorem dJ9_max_7cf53_10 : decode cJ9_max_7cf53 10 = .ok (.ireturn, 1) := by decide +kernel
set_option maxRecDepth 20000 in
theorem ggL_raise_X4_raise : GoodIn wsL_raise wsX4_raise := goodIn_ca (goodIn_r _ [6, 7, 8, 9, 10, 11, 12, 5, 13, 14, 15, 16, 17, 18, 19, 20, 21, 22, 23, 24, 25, 26, 27, 28, 29, 30, 31, 32, 33, 34, 35, 36, 37, 38, 39, 40, 41, 42, 43, 44, 45, 46, 47, 48, 49, 50, 51, 52, 53, 54, 55, 56, 57, 58, 59, 60, 61, 62, 63, 64, 65, 66, 67, 68, 69, 70, 71, 72, 73, 74, 75, 76, 77, 78, 79, 80, 81, 82, 83, 84, 85, 86, 87, 88, 89, 90, 91] (by decide +kernel) (by decide +kernel)) (goodIn_sub (fun _ h => List.mem_cons_of_mem _ (List.mem_append_right _ h)) (by decide +kernel))
set_option maxRecDepth 20000 in
theorem gL_raise_X4_raise : GoodIn wsL_raise (wsV RL 7 RX4 yX4_raise wsX4_raise) := goodIn_app (goodIn_of _ (by decide +kernel)) ggL_raise_X4_raise
theorem dL_raise_0 : decode cL_raise 0 = .ok (.aload_n 2, 1) := by decide +kernel
theorem dL_raise_1 : decode cL_raise 1 = .ok (.iconst 0, 1) := by decide +kernel
theorem dL_raise_2 : decode cL_raise 2 = .ok (.aload_n 0, 1) := by decide +kernel
theorem dL_raise_3 : decode cL_raise 3 = .ok (.iload_n 1, 1) := by decide +kernel
theorem dL_raise_4 : decode cL_raise 4 = .ok (.invokevirtual 7, 3) := by decide +kernel
theorem dL_raise_7 : decode cL_raise 7 = .ok (.i2l, 1) := by decide +kernel
theorem dL_raise_8 : decode cL_raise 8 = .ok (.lastore, 1) := by decide +kernel
theorem dL_raise_9 : decode cL_raise 9 = .ok (.goto 6, 3) := by decide +kernel
theorem dL_raise_12 : decode cL_raise 12 = .ok (.astore_n 3, 1) := by decide +kernel
theorem dL_raise_13 : decode cL_raise 13 = .ok (.iconst 1, 1) := by decide +kernel
theorem dL_raise_14 : decode cL_raise 14 = .ok (.ireturn, 1) := by decide +kernel
theorem dL_raise_15 : decode cL_raise 15 = .ok (.iconst 0, 1) := by decide +kernel
theorem dL_raise_16 : decode cL_raise 16 = .ok (.ireturn, 1) := by decide +kernel
set_option maxRecDepth 20000 in
theorem ggL_crowd_X4_crowd : GoodIn wsL_crowd wsX4_crowd := goodIn_ca (goodIn_ca (goodIn_r _ [7, 8, 9, 10, 11, 12, 13, 14, 15, 6, 16, 17, 18, 19, 20, 21, 22, 23, 24, 25, 26, 27, 28, 29, 30, 31, 32, 33, 34, 35, 36, 37, 38, 39, 40, 41, 42, 43, 44, 45, 46, 47, 48, 49, 50, 51, 52, 53, 54, 55, 56, 57, 58, 59, 60, 61] (by decide +kernel) (by decide +kernel)) (goodIn_sub (fun _ h => List.mem_cons_of_mem _ (List.mem_append_left _ (List.mem_append_right _ h))) (by decide +kernel))) (goodIn_sub (fun _ h => List.mem_cons_of_mem _ (List.mem_append_right _ h)) (by decide +kernel))
set_option maxRecDepth 20000 in
theorem gL_crowd_X4_crowd : GoodIn wsL_crowd (wsV RL 15 RX4 yX4_crowd wsX4_crowd) := goodIn_app (goodIn_of _ (by decide +kernel)) ggL_crowd_X4_crowd
theorem dL_crowd_0 : decode cL_crowd 0 = .ok (.aload_n 3, 1) := by decide +kernel
theorem dL_crowd_1 : decode cL_crowd 1 = .ok (.iconst 0, 1) := by decide +kernel
theorem dL_crowd_2 : decode cL_crowd 2 = .ok (.aload_n 0, 1) := by decide +kernel
theorem dL_crowd_3 : decode cL_crowd 3 = .ok (.iload_n 1, 1) := by decide +kernel
theorem dL_crowd_4 : decode cL_crowd 4 = .ok (.iload_n 2, 1) := by decide +kernel
theorem dL_crowd_5 : decode cL_crowd 5 = .ok (.invokevirtual 15, 3) := by decide +kernel
theorem dL_crowd_8 : decode cL_crowd 8 = .ok (.i2l, 1) := by decide +kernel
theorem dL_crowd_9 : decode cL_crowd 9 = .ok (.lastore, 1) := by decide +kernel
theorem dL_crowd_10 : decode cL_crowd 10 = .ok (.goto 11, 3) := by decide +kernel
theorem dL_crowd_13 : decode cL_crowd 13 = .ok (.astore 4, 2) := by decide +kernel
theorem dL_crowd_15 : decode cL_crowd 15 = .ok (.iconst 1, 1) := by decide +kernel
theorem dL_crowd_16 : decode cL_crowd 16 = .ok (.ireturn, 1) := by decide +kernel
theorem dL_crowd_17 : decode cL_crowd 17 = .ok (.astore 4, 2) := by decide +kernel
theorem dL_crowd_19 : decode cL_crowd 19 = .ok (.iconst 2, 1) := by decide +kernel
theorem dL_crowd_20 : decode cL_crowd 20 = .ok (.ireturn, 1) := by decide +kernel
theorem dL_crowd_21 : decode cL_crowd 21 = .ok (.iconst 0, 1) := by decide +kernel
theorem dL_crowd_22 : decode cL_crowd 22 = .ok (.ireturn, 1) := by decide +kernel
set_option maxRecDepth 20000 in
theorem ggL_tear_X4_tear : GoodIn wsL_tear wsX4_tear := goodIn_ca (goodIn_r _ [6, 7, 8, 9, 10, 11, 12, 5, 13, 14, 15, 16, 17, 18, 19, 20, 21, 22, 23, 24, 25, 26, 27, 28, 29, 30, 31, 32, 33, 34, 35, 36, 37, 38, 39, 40, 41, 42, 43, 44, 45, 46, 47, 48, 49, 50, 51, 52, 53, 54, 55, 56, 57, 58, 59, 60, 61, 62] (by decide +kernel) (by decide +kernel)) (goodIn_sub (fun _ h => List.mem_cons_of_mem _ (List.mem_append_right _ h)) (by decide +kernel))
set_option maxRecDepth 20000 in
theorem gL_tear_X4_tear : GoodIn wsL_tear (wsV RL 21 RX4 yX4_tear wsX4_tear) := goodIn_app (goodIn_of _ (by decide +kernel)) ggL_tear_X4_tear
theorem dL_tear_0 : decode cL_tear 0 = .ok (.aload_n 2, 1) := by decide +kernel
theorem dL_tear_1 : decode cL_tear 1 = .ok (.iconst 0, 1) := by decide +kernel
theorem dL_tear_2 : decode cL_tear 2 = .ok (.aload_n 0, 1) := by decide +kernel
theorem dL_tear_3 : decode cL_tear 3 = .ok (.iload_n 1, 1) := by decide +kernel
theorem dL_tear_4 : decode cL_tear 4 = .ok (.invokevirtual 21, 3) := by decide +kernel
theorem dL_tear_7 : decode cL_tear 7 = .ok (.i2l, 1) := by decide +kernel
theorem dL_tear_8 : decode cL_tear 8 = .ok (.lastore, 1) := by decide +kernel
theorem dL_tear_9 : decode cL_tear 9 = .ok (.goto 6, 3) := by decide +kernel
theorem dL_tear_12 : decode cL_tear 12 = .ok (.astore_n 3, 1) := by decide +kernel
theorem dL_tear_13 : decode cL_tear 13 = .ok (.iconst 1, 1) := by decide +kernel
theorem dL_tear_14 : decode cL_tear 14 = .ok (.ireturn, 1) := by decide +kernel
theorem dL_tear_15 : decode cL_tear 15 = .ok (.iconst 0, 1) := by decide +kernel
theorem dL_tear_16 : decode cL_tear 16 = .ok (.ireturn, 1) := by decide +kernel
set_option maxRecDepth 20000 in
theorem ggL_hour_X4_hour : GoodIn wsL_hour wsX4_hour := goodIn_ca (goodIn_r _ [6, 7, 8, 9, 10, 11, 12, 13, 14, 15, 16, 17, 18, 19, 20, 21, 22, 23, 24, 25, 26, 27, 28, 29, 30, 31, 32, 33, 34, 35, 36, 37, 38, 39, 40, 41, 42, 43, 44, 45, 46, 47, 48, 49, 50, 51, 52, 53, 54, 55] (by decide +kernel) (by decide +kernel)) (goodIn_sub (fun _ h => List.mem_cons_of_mem _ (List.mem_append_right _ h)) (by decide +kernel))
set_option maxRecDepth 20000 in
theorem gL_hour_X4_hour : GoodIn wsL_hour (wsV RL 24 RX4 yX4_hour wsX4_hour) := goodIn_app (goodIn_of _ (by decide +kernel)) ggL_hour_X4_hour
theorem dL_hour_0 : decode cL_hour 0 = .ok (.aload_n 2, 1) := by decide +kernel
theorem dL_hour_1 : decode cL_hour 1 = .ok (.iconst 0, 1) := by decide +kernel
theorem dL_hour_2 : decode cL_hour 2 = .ok (.aload_n 0, 1) := by decide +kernel
theorem dL_hour_3 : decode cL_hour 3 = .ok (.iload_n 1, 1) := by decide +kernel
theorem dL_hour_4 : decode cL_hour 4 = .ok (.invokevirtual 24, 3) := by decide +kernel
theorem dL_hour_7 : decode cL_hour 7 = .ok (.i2l, 1) := by decide +kernel
theorem dL_hour_8 : decode cL_hour 8 = .ok (.lastore, 1) := by decide +kernel
theorem dL_hour_9 : decode cL_hour 9 = .ok (.goto 6, 3) := by decide +kernel
theorem dL_hour_12 : decode cL_hour 12 = .ok (.astore_n 3, 1) := by decide +kernel
theorem dL_hour_13 : decode cL_hour 13 = .ok (.iconst 1, 1) := by decide +kernel
theorem dL_hour_14 : decode cL_hour 14 = .ok (.ireturn, 1) := by decide +kernel
theorem dL_hour_15 : decode cL_hour 15 = .ok (.iconst 0, 1) := by decide +kernel
theorem dL_hour_16 : decode cL_hour 16 = .ok (.ireturn, 1) := by decide +kernel
set_option maxRecDepth 20000 in
theorem ggL_append_X4_append : GoodIn wsL_append wsX4_append := goodIn_ca (goodIn_ca (goodIn_r _ [7, 8, 9, 10, 11, 12, 13, 14, 15, 16, 17, 18, 19, 20, 21, 22, 23, 24, 25, 26, 27, 28, 29, 30] (by decide +kernel) (by decide +kernel)) (goodIn_sub (fun _ h => List.mem_cons_of_mem _ (List.mem_append_left _ (List.mem_append_right _ h))) (by decide +kernel))) (goodIn_sub (fun _ h => List.mem_cons_of_mem _ (List.mem_append_right _ h)) (by decide +kernel))
set_option maxRecDepth 20000 in
theorem gL_append_X4_append : GoodIn wsL_append (wsV RL 27 RX4 yX4_append wsX4_append) := goodIn_app (goodIn_of _ (by decide +kernel)) ggL_append_X4_append
theorem dL_append_0 : decode cL_append 0 = .ok (.aload_n 2, 1) := by decide +kernel
theorem dL_append_1 : decode cL_append 1 = .ok (.iconst 0, 1) := by decide +kernel
theorem dL_append_2 : decode cL_append 2 = .ok (.aload_n 0, 1) := by decide +kernel
theorem dL_append_3 : decode cL_append 3 = .ok (.iload_n 1, 1) := by decide +kernel
theorem dL_append_4 : decode cL_append 4 = .ok (.invokevirtual 27, 3) := by decide +kernel
theorem dL_append_7 : decode cL_append 7 = .ok (.i2l, 1) := by decide +kernel
theorem dL_append_8 : decode cL_append 8 = .ok (.lastore, 1) := by decide +kernel
theorem dL_append_9 : decode cL_append 9 = .ok (.goto 9, 3) := by decide +kernel
theorem dL_append_12 : decode cL_append 12 = .ok (.astore_n 3, 1) := by decide +kernel
theorem dL_append_13 : decode cL_append 13 = .ok (.iconst 1, 1) := by decide +kernel
theorem dL_append_14 : decode cL_append 14 = .ok (.ireturn, 1) := by decide +kernel
theorem dL_append_15 : decode cL_append 15 = .ok (.astore_n 3, 1) := by decide +kernel
theorem dL_append_16 : decode cL_append 16 = .ok (.iconst 2, 1) := by decide +kernel
theorem dL_append_17 : decode cL_append 17 = .ok (.ireturn, 1) := by decide +kernel
theorem dL_append_18 : decode cL_append 18 = .ok (.iconst 0, 1) := by decide +kernel
theorem dL_append_19 : decode cL_append 19 = .ok (.ireturn, 1) := by decide +kernel
set_option maxRecDepth 20000 in
theorem ggL_load_X4_load : GoodIn wsL_load wsX4_load := goodIn_ca (goodIn_r _ [6, 7, 8, 9, 10, 11, 12, 13, 14, 15, 16, 17, 18, 19, 20, 21, 22, 23, 24, 25, 26, 27, 28, 29, 30, 31, 32, 33, 34, 35, 36, 37, 38, 39, 40, 41, 42, 43, 44, 45, 46, 47, 48, 49, 50, 51, 52, 53, 54, 55, 56, 57, 58, 59, 60, 61, 62, 63, 64, 65, 5, 66, 67, 68, 69, 70, 71, 72, 73, 74, 75, 76, 77, 78, 79, 80, 81, 82, 83, 84, 85, 86, 87, 88, 89, 90, 91, 92, 93, 94, 95, 96, 97, 98, 99, 100, 101, 102, 103, 104, 105, 106, 107, 108] (by decide +kernel) (by decide +kernel)) (goodIn_sub (fun _ h => List.mem_cons_of_mem _ (List.mem_append_right _ h)) (by decide +kernel))
set_option maxRecDepth 20000 in
theorem gL_load_X4_load : GoodIn wsL_load (wsV RL 32 RX4 yX4_load wsX4_load) := goodIn_app (goodIn_of _ (by decide +kernel)) ggL_load_X4_load
theorem dL_load_0 : decode cL_load 0 = .ok (.aload_n 1, 1) := by decide +kernel
theorem dL_load_1 : decode cL_load 1 = .ok (.iconst 0, 1) := by decide +kernel
theorem dL_load_2 : decode cL_load 2 = .ok (.aload_n 0, 1) := by decide +kernel
theorem dL_load_3 : decode cL_load 3 = .ok (.invokevirtual 32, 3) := by decide +kernel
theorem dL_load_6 : decode cL_load 6 = .ok (.i2l, 1) := by decide +kernel
theorem dL_load_7 : decode cL_load 7 = .ok (.lastore, 1) := by decide +kernel
theorem dL_load_8 : decode cL_load 8 = .ok (.goto 6, 3) := by decide +kernel
theorem dL_load_11 : decode cL_load 11 = .ok (.astore_n 2, 1) := by decide +kernel
theorem dL_load_12 : decode cL_load 12 = .ok (.iconst 1, 1) := by decide +kernel
theorem dL_load_13 : decode cL_load 13 = .ok (.ireturn, 1) := by decide +kernel
theorem dL_load_14 : decode cL_load 14 = .ok (.iconst 0, 1) := by decide +kernel
theorem dL_load_15 : decode cL_load 15 = .ok (.ireturn, 1) := by decide +kernel
set_option maxRecDepth 20000 in
theorem ggL_keep_X4_keep : GoodIn wsL_keep wsX4_keep := goodIn_ca (goodIn_r _ [6, 7, 8, 9, 10, 11, 12, 13, 14, 15, 16, 17, 18, 19, 20, 21, 22, 23, 24, 25, 26, 27, 28, 29, 30, 31, 32, 33, 34, 35, 36, 37, 38, 39, 40, 41, 42, 43, 44, 45, 46, 47, 48, 49] (by decide +kernel) (by decide +kernel)) (goodIn_sub (fun _ h => List.mem_cons_of_mem _ (List.mem_append_right _ h)) (by decide +kernel))
set_option maxRecDepth 20000 in
theorem gL_keep_X4_keep : GoodIn wsL_keep (wsV RL 36 RX4 yX4_keep wsX4_keep) := goodIn_app (goodIn_of _ (by decide +kernel)) ggL_keep_X4_keep
theorem dL_keep_0 : decode cL_keep 0 = .ok (.aload_n 2, 1) := by decide +kernel
theorem dL_keep_1 : decode cL_keep 1 = .ok (.iconst 0, 1) := by decide +kernel
theorem dL_keep_2 : decode cL_keep 2 = .ok (.aload_n 0, 1) := by decide +kernel
theorem dL_keep_3 : decode cL_keep 3 = .ok (.iload_n 1, 1) := by decide +kernel
theorem dL_keep_4 : decode cL_keep 4 = .ok (.invokevirtual 36, 3) := by decide +kernel
theorem dL_keep_7 : decode cL_keep 7 = .ok (.i2l, 1) := by decide +kernel
theorem dL_keep_8 : decode cL_keep 8 = .ok (.lastore, 1) := by decide +kernel
theorem dL_keep_9 : decode cL_keep 9 = .ok (.goto 6, 3) := by decide +kernel
theorem dL_keep_12 : decode cL_keep 12 = .ok (.astore_n 3, 1) := by decide +kernel
theorem dL_keep_13 : decode cL_keep 13 = .ok (.iconst 1, 1) := by decide +kernel
theorem dL_keep_14 : decode cL_keep 14 = .ok (.ireturn, 1) := by decide +kernel
theorem dL_keep_15 : decode cL_keep 15 = .ok (.iconst 0, 1) := by decide +kernel
theorem dL_keep_16 : decode cL_keep 16 = .ok (.ireturn, 1) := by decide +kernel
set_option maxRecDepth 20000 in
theorem ggL_goBack_X4_goBack : GoodIn wsL_goBack wsX4_goBack := goodIn_ca (goodIn_ca (goodIn_r _ [7, 8, 9, 10, 11, 12, 13, 14, 15, 16, 17, 18, 19, 20, 21, 22, 23, 24, 25, 26, 27, 28, 29, 30, 31, 32, 33, 34, 35, 36, 37, 38, 39, 40, 41, 42, 43, 44, 45, 46, 47, 48, 49, 50, 51, 52, 53, 54, 55, 56, 57, 58, 59, 60, 61, 62, 63, 64, 65, 66, 67, 68, 69, 70, 71, 72] (by decide +kernel) (by decide +kernel)) (goodIn_sub (fun _ h => List.mem_cons_of_mem _ (List.mem_append_left _ (List.mem_append_right _ h))) (by decide +kernel))) (goodIn_sub (fun _ h => List.mem_cons_of_mem _ (List.mem_append_right _ h)) (by decide +kernel))
set_option maxRecDepth 20000 in
theorem gL_goBack_X4_goBack : GoodIn wsL_goBack (wsV RL 39 RX4 yX4_goBack wsX4_goBack) := goodIn_app (goodIn_of _ (by decide +kernel)) ggL_goBack_X4_goBack
theorem dL_goBack_0 : decode cL_goBack 0 = .ok (.aload_n 2, 1) := by decide +kernel
theorem dL_goBack_1 : decode cL_goBack 1 = .ok (.iconst 0, 1) := by decide +kernel
theorem dL_goBack_2 : decode cL_goBack 2 = .ok (.aload_n 0, 1) := by decide +kernel
theorem dL_goBack_3 : decode cL_goBack 3 = .ok (.iload_n 1, 1) := by decide +kernel
theorem dL_goBack_4 : decode cL_goBack 4 = .ok (.invokevirtual 39, 3) := by decide +kernel
theorem dL_goBack_7 : decode cL_goBack 7 = .ok (.i2l, 1) := by decide +kernel
theorem dL_goBack_8 : decode cL_goBack 8 = .ok (.lastore, 1) := by decide +kernel
theorem dL_goBack_9 : decode cL_goBack 9 = .ok (.goto 9, 3) := by decide +kernel
theorem dL_goBack_12 : decode cL_goBack 12 = .ok (.astore_n 3, 1) := by decide +kernel
theorem dL_goBack_13 : decode cL_goBack 13 = .ok (.iconst 1, 1) := by decide +kernel
theorem dL_goBack_14 : decode cL_goBack 14 = .ok (.ireturn, 1) := by decide +kernel
theorem dL_goBack_15 : decode cL_goBack 15 = .ok (.astore_n 3, 1) := by decide +kernel
theorem dL_goBack_16 : decode cL_goBack 16 = .ok (.iconst 2, 1) := by decide +kernel
theorem dL_goBack_17 : decode cL_goBack 17 = .ok (.ireturn, 1) := by decide +kernel
theorem dL_goBack_18 : decode cL_goBack 18 = .ok (.iconst 0, 1) := by decide +kernel
theorem dL_goBack_19 : decode cL_goBack 19 = .ok (.ireturn, 1) := by decide +kernel
set_option maxRecDepth 20000 in
theorem ggL_undo_X4_undo : GoodIn wsL_undo wsX4_undo := goodIn_ca (goodIn_r _ [6, 7, 8, 9, 10, 11, 12, 13, 14, 15, 16, 17, 18, 19, 20, 21, 22, 23, 24, 25, 26, 27, 28, 29, 30, 31, 32, 33, 34, 35, 36, 37, 38, 39, 40, 41, 42, 43, 44, 45, 46, 47, 48, 49, 50, 51, 52, 53, 54, 55] (by decide +kernel) (by decide +kernel)) (goodIn_sub (fun _ h => List.mem_cons_of_mem _ (List.mem_append_right _ h)) (by decide +kernel))
set_option maxRecDepth 20000 in
theorem gL_undo_X4_undo : GoodIn wsL_undo (wsV RL 42 RX4 yX4_undo wsX4_undo) := goodIn_app (goodIn_of _ (by decide +kernel)) ggL_undo_X4_undo
theorem dL_undo_0 : decode cL_undo 0 = .ok (.aload_n 1, 1) := by decide +kernel
theorem dL_undo_1 : decode cL_undo 1 = .ok (.iconst 0, 1) := by decide +kernel
theorem dL_undo_2 : decode cL_undo 2 = .ok (.aload_n 0, 1) := by decide +kernel
theorem dL_undo_3 : decode cL_undo 3 = .ok (.invokevirtual 42, 3) := by decide +kernel
theorem dL_undo_6 : decode cL_undo 6 = .ok (.i2l, 1) := by decide +kernel
theorem dL_undo_7 : decode cL_undo 7 = .ok (.lastore, 1) := by decide +kernel
theorem dL_undo_8 : decode cL_undo 8 = .ok (.goto 6, 3) := by decide +kernel
theorem dL_undo_11 : decode cL_undo 11 = .ok (.astore_n 2, 1) := by decide +kernel
theorem dL_undo_12 : decode cL_undo 12 = .ok (.iconst 1, 1) := by decide +kernel
theorem dL_undo_13 : decode cL_undo 13 = .ok (.ireturn, 1) := by decide +kernel
theorem dL_undo_14 : decode cL_undo 14 = .ok (.iconst 0, 1) := by decide +kernel
theorem dL_undo_15 : decode cL_undo 15 = .ok (.ireturn, 1) := by decide +kernel
set_option maxRecDepth 20000 in
theorem ggL_squareOf_X4_squareOf : GoodIn wsL_squareOf wsX4_squareOf := goodIn_ca (goodIn_ca (goodIn_r _ [7, 8, 9, 10, 11, 12, 13, 14, 6, 15, 16, 17, 18, 19, 20, 21, 22, 23, 24, 25, 26, 27, 28, 29, 30, 31, 32, 33, 34, 35, 36, 37, 38, 39, 40, 41, 42, 43, 44, 45, 46, 47, 48, 49, 50, 51, 52, 53, 54, 55, 56, 57, 58, 59, 60, 61, 62, 63, 64, 65, 66, 67, 68, 69, 70] (by decide +kernel) (by decide +kernel)) (goodIn_sub (fun _ h => List.mem_cons_of_mem _ (List.mem_append_left _ (List.mem_append_right _ h))) (by decide +kernel))) (goodIn_sub (fun _ h => List.mem_cons_of_mem _ (List.mem_append_right _ h)) (by decide +kernel))
set_option maxRecDepth 20000 in
theorem gL_squareOf_X4_squareOf : GoodIn wsL_squareOf (wsV RL 45 RX4 yX4_squareOf wsX4_squareOf) := goodIn_app (goodIn_of _ (by decide +kernel)) ggL_squareOf_X4_squareOf
theorem dL_squareOf_0 : decode cL_squareOf 0 = .ok (.aload_n 3, 1) := by decide +kernel
theorem dL_squareOf_1 : decode cL_squareOf 1 = .ok (.iconst 0, 1) := by decide +kernel
theorem dL_squareOf_2 : decode cL_squareOf 2 = .ok (.aload_n 0, 1) := by decide +kernel
theorem dL_squareOf_3 : decode cL_squareOf 3 = .ok (.iload_n 1, 1) := by decide +kernel
theorem dL_squareOf_4 : decode cL_squareOf 4 = .ok (.iload_n 2, 1) := by decide +kernel
theorem dL_squareOf_5 : decode cL_squareOf 5 = .ok (.invokevirtual 45, 3) := by decide +kernel
theorem dL_squareOf_8 : decode cL_squareOf 8 = .ok (.i2l, 1) := by decide +kernel
theorem dL_squareOf_9 : decode cL_squareOf 9 = .ok (.lastore, 1) := by decide +kernel
theorem dL_squareOf_10 : decode cL_squareOf 10 = .ok (.goto 11, 3) := by decide +kernel
theorem dL_squareOf_13 : decode cL_squareOf 13 = .ok (.astore 4, 2) := by decide +kernel
theorem dL_squareOf_15 : decode cL_squareOf 15 = .ok (.iconst 1, 1) := by decide +kernel
theorem dL_squareOf_16 : decode cL_squareOf 16 = .ok (.ireturn, 1) := by decide +kernel
theorem dL_squareOf_17 : decode cL_squareOf 17 = .ok (.astore 4, 2) := by decide +kernel
theorem dL_squareOf_19 : decode cL_squareOf 19 = .ok (.iconst 2, 1) := by decide +kernel
theorem dL_squareOf_20 : decode cL_squareOf 20 = .ok (.ireturn, 1) := by decide +kernel
theorem dL_squareOf_21 : decode cL_squareOf 21 = .ok (.iconst 0, 1) := by decide +kernel
theorem dL_squareOf_22 : decode cL_squareOf 22 = .ok (.ireturn, 1) := by decide +kernel
set_option maxRecDepth 20000 in
theorem ggL_playerOf_X4_playerOf : GoodIn wsL_playerOf wsX4_playerOf := goodIn_ca (goodIn_ca (goodIn_r _ [7, 8, 9, 10, 11, 12, 13, 14, 15, 16, 17, 18, 19, 20, 21, 22, 23, 24, 25, 26, 27, 28, 29, 30, 31, 32, 33, 34, 35, 36, 37, 38, 39, 40, 41, 42, 43, 44, 45, 46, 47, 48, 49, 50, 51, 52, 53, 54, 55, 56, 57, 58, 59, 60, 61, 62, 63, 64, 65, 66, 67, 68, 69, 70, 71] (by decide +kernel) (by decide +kernel)) (goodIn_sub (fun _ h => List.mem_cons_of_mem _ (List.mem_append_left _ (List.mem_append_right _ h))) (by decide +kernel))) (goodIn_sub (fun _ h => List.mem_cons_of_mem _ (List.mem_append_right _ h)) (by decide +kernel))
set_option maxRecDepth 20000 in
theorem gL_playerOf_X4_playerOf : GoodIn wsL_playerOf (wsV RL 48 RX4 yX4_playerOf wsX4_playerOf) := goodIn_app (goodIn_of _ (by decide +kernel)) ggL_playerOf_X4_playerOf
theorem dL_playerOf_0 : decode cL_playerOf 0 = .ok (.aload_n 3, 1) := by decide +kernel
theorem dL_playerOf_1 : decode cL_playerOf 1 = .ok (.iconst 0, 1) := by decide +kernel
theorem dL_playerOf_2 : decode cL_playerOf 2 = .ok (.aload_n 0, 1) := by decide +kernel
theorem dL_playerOf_3 : decode cL_playerOf 3 = .ok (.iload_n 1, 1) := by decide +kernel
theorem dL_playerOf_4 : decode cL_playerOf 4 = .ok (.iload_n 2, 1) := by decide +kernel
theorem dL_playerOf_5 : decode cL_playerOf 5 = .ok (.invokevirtual 48, 3) := by decide +kernel
theorem dL_playerOf_8 : decode cL_playerOf 8 = .ok (.i2l, 1) := by decide +kernel
theorem dL_playerOf_9 : decode cL_playerOf 9 = .ok (.lastore, 1) := by decide +kernel
theorem dL_playerOf_10 : decode cL_playerOf 10 = .ok (.goto 11, 3) := by decide +kernel
theorem dL_playerOf_13 : decode cL_playerOf 13 = .ok (.astore 4, 2) := by decide +kernel
theorem dL_playerOf_15 : decode cL_playerOf 15 = .ok (.iconst 1, 1) := by decide +kernel
theorem dL_playerOf_16 : decode cL_playerOf 16 = .ok (.ireturn, 1) := by decide +kernel
theorem dL_playerOf_17 : decode cL_playerOf 17 = .ok (.astore 4, 2) := by decide +kernel
theorem dL_playerOf_19 : decode cL_playerOf 19 = .ok (.iconst 2, 1) := by decide +kernel
theorem dL_playerOf_20 : decode cL_playerOf 20 = .ok (.ireturn, 1) := by decide +kernel
theorem dL_playerOf_21 : decode cL_playerOf 21 = .ok (.iconst 0, 1) := by decide +kernel
theorem dL_playerOf_22 : decode cL_playerOf 22 = .ok (.ireturn, 1) := by decide +kernel
set_option maxRecDepth 20000 in
theorem ggL_count_X4_count : GoodIn wsL_count wsX4_count := goodIn_ca (goodIn_r _ [6, 7, 8, 9, 10, 11, 12, 13, 14, 15, 16, 17, 18, 19, 20, 21, 22, 23, 24, 25, 26, 27, 28, 29, 30, 31, 32, 33, 34, 35, 36, 37, 38, 39, 40, 41, 42, 43, 44, 45, 46, 47, 48, 49, 50, 51, 52, 53, 54, 55, 56, 57, 58, 59, 60, 61, 62, 63, 64, 65] (by decide +kernel) (by decide +kernel)) (goodIn_sub (fun _ h => List.mem_cons_of_mem _ (List.mem_append_right _ h)) (by decide +kernel))
set_option maxRecDepth 20000 in
theorem gL_count_X4_count : GoodIn wsL_count (wsV RL 51 RX4 yX4_count wsX4_count) := goodIn_app (goodIn_of _ (by decide +kernel)) ggL_count_X4_count
theorem dL_count_0 : decode cL_count 0 = .ok (.aload_n 2, 1) := by decide +kernel
theorem dL_count_1 : decode cL_count 1 = .ok (.iconst 0, 1) := by decide +kernel
theorem dL_count_2 : decode cL_count 2 = .ok (.aload_n 0, 1) := by decide +kernel
theorem dL_count_3 : decode cL_count 3 = .ok (.iload_n 1, 1) := by decide +kernel
theorem dL_count_4 : decode cL_count 4 = .ok (.invokevirtual 51, 3) := by decide +kernel
theorem dL_count_7 : decode cL_count 7 = .ok (.i2l, 1) := by decide +kernel
theorem dL_count_8 : decode cL_count 8 = .ok (.lastore, 1) := by decide +kernel
theorem dL_count_9 : decode cL_count 9 = .ok (.goto 6, 3) := by decide +kernel
theorem dL_count_12 : decode cL_count 12 = .ok (.astore_n 3, 1) := by decide +kernel
theorem dL_count_13 : decode cL_count 13 = .ok (.iconst 1, 1) := by decide +kernel
theorem dL_count_14 : decode cL_count 14 = .ok (.ireturn, 1) := by decide +kernel
theorem dL_count_15 : decode cL_count 15 = .ok (.iconst 0, 1) := by decide +kernel
theorem dL_count_16 : decode cL_count 16 = .ok (.ireturn, 1) := by decide +kernel
set_option maxRecDepth 20000 in
theorem ggL_whyNot_X4_whyNot : GoodIn wsL_whyNot wsX4_whyNot := goodIn_ca (goodIn_r _ [6, 7, 8, 9, 10, 11, 5, 12, 13, 14, 15, 16, 17, 18, 19, 20, 21, 22, 23, 24, 25, 26, 27, 28, 29, 30, 31, 32, 33, 34, 35, 36, 37, 38, 39, 40, 41, 42, 43, 44, 45, 46, 47, 48, 49, 50, 51] (by decide +kernel) (by decide +kernel)) (goodIn_sub (fun _ h => List.mem_cons_of_mem _ (List.mem_append_right _ h)) (by decide +kernel))
set_option maxRecDepth 20000 in
theorem gL_whyNot_X4_whyNot : GoodIn wsL_whyNot (wsV RL 54 RX4 yX4_whyNot wsX4_whyNot) := goodIn_app (goodIn_of _ (by decide +kernel)) ggL_whyNot_X4_whyNot
theorem dL_whyNot_0 : decode cL_whyNot 0 = .ok (.aload_n 2, 1) := by decide +kernel
theorem dL_whyNot_1 : decode cL_whyNot 1 = .ok (.iconst 0, 1) := by decide +kernel
theorem dL_whyNot_2 : decode cL_whyNot 2 = .ok (.aload_n 0, 1) := by decide +kernel
theorem dL_whyNot_3 : decode cL_whyNot 3 = .ok (.iload_n 1, 1) := by decide +kernel
theorem dL_whyNot_4 : decode cL_whyNot 4 = .ok (.invokevirtual 54, 3) := by decide +kernel
theorem dL_whyNot_7 : decode cL_whyNot 7 = .ok (.i2l, 1) := by decide +kernel
theorem dL_whyNot_8 : decode cL_whyNot 8 = .ok (.lastore, 1) := by decide +kernel
theorem dL_whyNot_9 : decode cL_whyNot 9 = .ok (.goto 6, 3) := by decide +kernel
theorem dL_whyNot_12 : decode cL_whyNot 12 = .ok (.astore_n 3, 1) := by decide +kernel
theorem dL_whyNot_13 : decode cL_whyNot 13 = .ok (.iconst 1, 1) := by decide +kernel
theorem dL_whyNot_14 : decode cL_whyNot 14 = .ok (.ireturn, 1) := by decide +kernel
theorem dL_whyNot_15 : decode cL_whyNot 15 = .ok (.iconst 0, 1) := by decide +kernel
theorem dL_whyNot_16 : decode cL_whyNot 16 = .ok (.ireturn, 1) := by decide +kernel
set_option maxRecDepth 20000 in
theorem ggL_ifRaised_X4_ifRaised : GoodIn wsL_ifRaised wsX4_ifRaised := goodIn_ca (goodIn_r _ [6, 7, 8, 9, 10, 11, 5, 12, 13, 14, 15, 16, 17, 18, 19, 20, 21, 22, 23, 24, 25, 26, 27, 28, 29, 30, 31, 32, 33, 34, 35, 36, 37, 38, 39, 40, 41, 42, 43, 44, 45, 46, 47, 48, 49, 50, 51, 52, 53, 54, 55, 56, 57, 58, 59, 60, 61, 62, 63, 64] (by decide +kernel) (by decide +kernel)) (goodIn_sub (fun _ h => List.mem_cons_of_mem _ (List.mem_append_right _ h)) (by decide +kernel))
set_option maxRecDepth 20000 in
theorem gL_ifRaised_X4_ifRaised : GoodIn wsL_ifRaised (wsV RL 57 RX4 yX4_ifRaised wsX4_ifRaised) := goodIn_app (goodIn_of _ (by decide +kernel)) ggL_ifRaised_X4_ifRaised
theorem dL_ifRaised_0 : decode cL_ifRaised 0 = .ok (.aload_n 2, 1) := by decide +kernel
theorem dL_ifRaised_1 : decode cL_ifRaised 1 = .ok (.iconst 0, 1) := by decide +kernel
theorem dL_ifRaised_2 : decode cL_ifRaised 2 = .ok (.aload_n 0, 1) := by decide +kernel
theorem dL_ifRaised_3 : decode cL_ifRaised 3 = .ok (.iload_n 1, 1) := by decide +kernel
theorem dL_ifRaised_4 : decode cL_ifRaised 4 = .ok (.invokevirtual 57, 3) := by decide +kernel
theorem dL_ifRaised_7 : decode cL_ifRaised 7 = .ok (.i2l, 1) := by decide +kernel
theorem dL_ifRaised_8 : decode cL_ifRaised 8 = .ok (.lastore, 1) := by decide +kernel
theorem dL_ifRaised_9 : decode cL_ifRaised 9 = .ok (.goto 6, 3) := by decide +kernel
theorem dL_ifRaised_12 : decode cL_ifRaised 12 = .ok (.astore_n 3, 1) := by decide +kernel
theorem dL_ifRaised_13 : decode cL_ifRaised 13 = .ok (.iconst 1, 1) := by decide +kernel
theorem dL_ifRaised_14 : decode cL_ifRaised 14 = .ok (.ireturn, 1) := by decide +kernel
theorem dL_ifRaised_15 : decode cL_ifRaised 15 = .ok (.iconst 0, 1) := by decide +kernel
theorem dL_ifRaised_16 : decode cL_ifRaised 16 = .ok (.ireturn, 1) := by decide +kernel
set_option maxRecDepth 20000 in
theorem ggL_needed_X4_needed : GoodIn wsL_needed wsX4_needed := goodIn_ca (goodIn_r _ [6, 7, 8, 9, 10, 11, 5, 12, 13, 14, 15, 16, 17, 18, 19, 20, 21, 22, 23, 24, 25, 26, 27, 28, 29, 30, 31, 32, 33, 34, 35, 36, 37, 38, 39, 40, 41] (by decide +kernel) (by decide +kernel)) (goodIn_sub (fun _ h => List.mem_cons_of_mem _ (List.mem_append_right _ h)) (by decide +kernel))
set_option maxRecDepth 20000 in
theorem gL_needed_X4_needed : GoodIn wsL_needed (wsV RL 60 RX4 yX4_needed wsX4_needed) := goodIn_app (goodIn_of _ (by decide +kernel)) ggL_needed_X4_needed
theorem dL_needed_0 : decode cL_needed 0 = .ok (.aload_n 3, 1) := by decide +kernel
theorem dL_needed_1 : decode cL_needed 1 = .ok (.iconst 0, 1) := by decide +kernel
theorem dL_needed_2 : decode cL_needed 2 = .ok (.aload_n 0, 1) := by decide +kernel
theorem dL_needed_3 : decode cL_needed 3 = .ok (.iload_n 1, 1) := by decide +kernel
theorem dL_needed_4 : decode cL_needed 4 = .ok (.iload_n 2, 1) := by decide +kernel
theorem dL_needed_5 : decode cL_needed 5 = .ok (.invokevirtual 60, 3) := by decide +kernel
theorem dL_needed_8 : decode cL_needed 8 = .ok (.i2l, 1) := by decide +kernel
theorem dL_needed_9 : decode cL_needed 9 = .ok (.lastore, 1) := by decide +kernel
theorem dL_needed_10 : decode cL_needed 10 = .ok (.goto 7, 3) := by decide +kernel
theorem dL_needed_13 : decode cL_needed 13 = .ok (.astore 4, 2) := by decide +kernel
theorem dL_needed_15 : decode cL_needed 15 = .ok (.iconst 1, 1) := by decide +kernel
theorem dL_needed_16 : decode cL_needed 16 = .ok (.ireturn, 1) := by decide +kernel
theorem dL_needed_17 : decode cL_needed 17 = .ok (.iconst 0, 1) := by decide +kernel
theorem dL_needed_18 : decode cL_needed 18 = .ok (.ireturn, 1) := by decide +kernel
set_option maxRecDepth 20000 in
theorem ggL_law_X4_init : GoodIn wsL_law wsX4_init := goodIn_r _ [9, 10, 11, 12, 13, 14, 15, 16, 17, 18, 19, 20, 21, 22, 23, 24, 25, 26, 27, 28, 29, 30, 31, 32, 33, 34, 35, 36, 37, 38, 39, 40, 41, 42, 43, 44, 664, 665, 666, 667, 668, 669, 670, 671, 650, 651, 652, 653, 654, 672, 673, 674, 675, 676] (by decide +kernel) (by decide +kernel)
set_option maxRecDepth 20000 in
theorem gL_law_X4_init : GoodIn wsL_law (wsX4_init) := ggL_law_X4_init
set_option maxRecDepth 20000 in
theorem ggL_law_X5_init : GoodIn wsL_law wsX5_init := goodIn_r _ [47, 48, 11, 12, 25, 49, 50, 51, 27, 52, 53, 655, 656, 657, 658, 659, 660, 661, 662, 663] (by decide +kernel) (by decide +kernel)
set_option maxRecDepth 20000 in
theorem gL_law_X5_init : GoodIn wsL_law (wsX5_init) := ggL_law_X5_init
set_option maxRecDepth 20000 in
theorem ggL_law_L_raise : GoodIn wsL_law wsL_raise := goodIn_ca (goodIn_r _ [57, 58, 59, 60, 61, 2, 62, 63, 64, 24, 16, 65, 66, 67, 68, 69, 70, 23, 71, 44, 72, 73, 74, 75, 76, 77, 78, 79, 80, 15, 81, 33, 82, 83, 84, 85, 34, 35, 36, 86, 87, 88, 89, 90, 91, 92, 93, 94, 95, 96, 97, 98, 99, 100, 101, 102, 103, 104, 105, 106, 107, 108, 109, 110, 111, 112, 113, 114, 115, 116, 117, 118, 119, 120, 121, 122, 650, 651, 652, 653, 654, 664, 665, 666, 667, 668, 669, 670, 671, 674, 675, 676] (by decide +kernel) (by decide +kernel)) (goodIn_sub (fun _ h => List.mem_append_left _ (List.mem_append_left _ (List.mem_append_right _ h))) (by decide +kernel))
set_option maxRecDepth 20000 in
theorem gL_law_L_raise : GoodIn wsL_law (va_wsS RL 67 yL_raise wsL_raise) := goodIn_app (goodIn_of _ (by decide +kernel)) ggL_law_L_raise
set_option maxRecDepth 20000 in
theorem ggL_law_X5_raise : GoodIn wsL_law wsX5_raise := goodIn_r _ [126, 49, 127, 128, 5, 129, 130, 131, 132, 133, 134, 135, 136, 137, 138, 139, 140, 141, 142, 50, 143, 144, 145, 146, 147, 148, 149, 150, 151, 152, 153, 154, 155, 156, 157, 158, 159, 160, 161, 162, 163, 164, 165, 166, 167, 168, 169, 170, 171, 172, 173, 174, 175, 176, 177, 178, 179, 180, 181, 182, 655, 656, 657, 658, 659, 660, 661, 662, 663] (by decide +kernel) (by decide +kernel)
set_option maxRecDepth 20000 in
theorem gL_law_X5_raise : GoodIn wsL_law (wsV RL 72 RX5 yX5_raise wsX5_raise) := goodIn_app (goodIn_of _ (by decide +kernel)) ggL_law_X5_raise
set_option maxRecDepth 20000 in
theorem ggL_law_X5_thrown : GoodIn wsL_law wsX5_thrown := goodIn_r _ [186, 137, 655, 656, 657, 658, 659, 660, 661, 662, 663] (by decide +kernel) (by decide +kernel)
set_option maxRecDepth 20000 in
theorem gL_law_X5_thrown : GoodIn wsL_law (wsV RL 73 RX5 yX5_thrown wsX5_thrown) := goodIn_app (goodIn_of _ (by decide +kernel)) ggL_law_X5_thrown
set_option maxRecDepth 20000 in
theorem ggL_law_X4_rest : GoodIn wsL_law wsX4_rest := goodIn_r _ [190, 24, 16, 68, 69, 70, 23, 71, 44, 72, 73, 74, 75, 76, 77, 78, 79, 80, 15, 81, 33, 82, 83, 84, 85, 34, 35, 36, 86, 87, 88, 89, 191, 120, 121, 122, 94, 95, 96, 97, 98, 99, 100, 101, 102, 103, 104, 105, 106, 107, 108, 109, 110, 115, 116, 117, 118, 119, 650, 651, 652, 653, 654, 664, 665, 666, 667, 668, 669, 670, 671, 674, 675, 676] (by decide +kernel) (by decide +kernel)
set_option maxRecDepth 20000 in
theorem gL_law_X4_rest : GoodIn wsL_law (wsV RL 76 RX4 yX4_rest wsX4_rest) := goodIn_app (goodIn_of _ (by decide +kernel)) ggL_law_X4_rest
set_option maxRecDepth 20000 in
theorem ggL_law_X5_rest : GoodIn wsL_law wsX5_rest := goodIn_r _ [195, 137, 49, 138, 139, 140, 5, 141, 142, 50, 179, 180, 181, 182, 147, 148, 149, 150, 151, 152, 153, 154, 155, 156, 157, 158, 159, 160, 161, 162, 163, 164, 165, 166, 167, 168, 169, 170, 175, 176, 177, 178, 655, 656, 657, 658, 659, 660, 661, 662, 663] (by decide +kernel) (by decide +kernel)
set_option maxRecDepth 20000 in
theorem gL_law_X5_rest : GoodIn wsL_law (wsV RL 79 RX5 yX5_rest wsX5_rest) := goodIn_app (goodIn_of _ (by decide +kernel)) ggL_law_X5_rest
set_option maxRecDepth 20000 in
theorem ggL_law_L_crowd : GoodIn wsL_law wsL_crowd := goodIn_ca (goodIn_ca (goodIn_r _ [198, 58, 199, 200, 201, 202, 2, 203, 63, 64, 204, 205, 24, 16, 65, 66, 67, 68, 69, 70, 23, 71, 44, 72, 73, 74, 75, 76, 77, 78, 79, 80, 15, 81, 33, 82, 83, 84, 85, 34, 35, 36, 86, 87, 88, 89, 650, 651, 652, 653, 654, 664, 665, 666, 667, 668, 669, 670, 671, 674, 675, 676] (by decide +kernel) (by decide +kernel)) (goodIn_sub (fun _ h => List.mem_append_left _ (List.mem_append_left _ (List.mem_append_right _ h))) (by decide +kernel))) (goodIn_sub (fun _ h => List.mem_append_left _ (List.mem_append_right _ h)) (by decide +kernel))
set_option maxRecDepth 20000 in
theorem gL_law_L_crowd : GoodIn wsL_law (va_wsS RL 80 yL_crowd wsL_crowd) := goodIn_app (goodIn_of _ (by decide +kernel)) ggL_law_L_crowd
set_option maxRecDepth 20000 in
theorem ggL_law_X5_crowd : GoodIn wsL_law wsX5_crowd := goodIn_r _ [209, 49, 127, 128, 5, 129, 130, 131, 132, 133, 134, 135, 136, 137, 138, 139, 140, 141, 142, 50, 655, 656, 657, 658, 659, 660, 661, 662, 663] (by decide +kernel) (by decide +kernel)
set_option maxRecDepth 20000 in
theorem gL_law_X5_crowd : GoodIn wsL_law (wsV RL 83 RX5 yX5_crowd wsX5_crowd) := goodIn_app (goodIn_of _ (by decide +kernel)) ggL_law_X5_crowd
set_option maxRecDepth 20000 in
theorem ggL_law_L_tear : GoodIn wsL_law wsL_tear := goodIn_ca (goodIn_r _ [212, 58, 213, 214, 215, 2, 216, 63, 64, 24, 16, 65, 66, 67, 68, 69, 70, 23, 71, 44, 72, 73, 74, 75, 76, 77, 78, 79, 80, 15, 81, 33, 82, 83, 84, 85, 34, 35, 36, 86, 87, 88, 89, 111, 112, 113, 114, 650, 651, 652, 653, 654, 664, 665, 666, 667, 668, 669, 670, 671, 674, 675, 676] (by decide +kernel) (by decide +kernel)) (goodIn_sub (fun _ h => List.mem_append_left _ (List.mem_append_left _ (List.mem_append_right _ h))) (by decide +kernel))
set_option maxRecDepth 20000 in
theorem gL_law_L_tear : GoodIn wsL_law (va_wsS RL 84 yL_tear wsL_tear) := goodIn_app (goodIn_of _ (by decide +kernel)) ggL_law_L_tear
set_option maxRecDepth 20000 in
theorem ggL_law_X5_tear : GoodIn wsL_law wsX5_tear := goodIn_r _ [220, 49, 127, 128, 5, 129, 130, 131, 132, 133, 134, 135, 136, 137, 138, 139, 140, 141, 142, 50, 655, 656, 657, 658, 659, 660, 661, 662, 663] (by decide +kernel) (by decide +kernel)
set_option maxRecDepth 20000 in
theorem gL_law_X5_tear : GoodIn wsL_law (wsV RL 86 RX5 yX5_tear wsX5_tear) := goodIn_app (goodIn_of _ (by decide +kernel)) ggL_law_X5_tear
set_option maxRecDepth 20000 in
theorem ggL_law_L_hour : GoodIn wsL_law wsL_hour := goodIn_ca (goodIn_r _ [223, 199, 224, 225, 226, 2, 227, 204, 205, 24, 16, 68, 69, 70, 23, 71, 44, 72, 73, 74, 75, 76, 77, 78, 79, 80, 15, 81, 33, 82, 83, 84, 85, 34, 35, 36, 86, 87, 88, 89, 650, 651, 652, 653, 654, 664, 665, 666, 667, 668, 669, 670, 671, 674, 675, 676] (by decide +kernel) (by decide +kernel)) (goodIn_sub (fun _ h => List.mem_append_left _ (List.mem_append_right _ h)) (by decide +kernel))
set_option maxRecDepth 20000 in
theorem gL_law_L_hour : GoodIn wsL_law (va_wsS RL 87 yL_hour wsL_hour) := goodIn_app (goodIn_of _ (by decide +kernel)) ggL_law_L_hour
set_option maxRecDepth 20000 in
theorem ggL_law_X5_hour : GoodIn wsL_law wsX5_hour := goodIn_r _ [231, 49, 130, 131, 5, 132, 133, 134, 135, 136, 137, 138, 139, 140, 141, 142, 50, 655, 656, 657, 658, 659, 660, 661, 662, 663] (by decide +kernel) (by decide +kernel)
set_option maxRecDepth 20000 in
theorem gL_law_X5_hour : GoodIn wsL_law (wsV RL 89 RX5 yX5_hour wsX5_hour) := goodIn_app (goodIn_of _ (by decide +kernel)) ggL_law_X5_hour
set_option maxRecDepth 20000 in
theorem ggL_law_L_append : GoodIn wsL_law wsL_append := goodIn_ca (goodIn_ca (goodIn_r _ [234, 199, 235, 236, 237, 238, 2, 239, 204, 205, 240, 241, 20, 242, 243, 244, 19, 245, 246, 247, 248, 249, 250, 40, 650, 651, 652, 653, 654, 672, 673] (by decide +kernel) (by decide +kernel)) (goodIn_sub (fun _ h => List.mem_append_left _ (List.mem_append_right _ h)) (by decide +kernel))) (goodIn_sub (fun _ h => List.mem_append_right _ h) (by decide +kernel))
set_option maxRecDepth 20000 in
theorem gL_law_L_append : GoodIn wsL_law (va_wsS RL 90 yL_append wsL_append) := goodIn_app (goodIn_of _ (by decide +kernel)) ggL_law_L_append
set_option maxRecDepth 20000 in
theorem ggL_law_X5_append : GoodIn wsL_law wsX5_append := goodIn_r _ [254, 255, 53, 130, 131, 5, 132, 133, 134, 135, 136, 137, 655, 656, 657, 658, 659, 660, 661, 662, 663] (by decide +kernel) (by decide +kernel)
set_option maxRecDepth 20000 in
theorem gL_law_X5_append : GoodIn wsL_law (wsV RL 92 RX5 yX5_append wsX5_append) := goodIn_app (goodIn_of _ (by decide +kernel)) ggL_law_X5_append
set_option maxRecDepth 20000 in
theorem ggL_law_X4_clearBuffer : GoodIn wsL_law wsX4_clearBuffer := goodIn_r _ [259, 20, 650, 651, 652, 653, 654, 672, 673] (by decide +kernel) (by decide +kernel)
set_option maxRecDepth 20000 in
theorem gL_law_X4_clearBuffer : GoodIn wsL_law (wsV RL 93 RX4 yX4_clearBuffer wsX4_clearBuffer) := goodIn_app (goodIn_of _ (by decide +kernel)) ggL_law_X4_clearBuffer
set_option maxRecDepth 20000 in
theorem ggL_law_X5_clearBuffer : GoodIn wsL_law wsX5_clearBuffer := goodIn_r _ [263, 137, 255, 655, 656, 657, 658, 659, 660, 661, 662, 663] (by decide +kernel) (by decide +kernel)
set_option maxRecDepth 20000 in
theorem gL_law_X5_clearBuffer : GoodIn wsL_law (wsV RL 96 RX5 yX5_clearBuffer wsX5_clearBuffer) := goodIn_app (goodIn_of _ (by decide +kernel)) ggL_law_X5_clearBuffer
set_option maxRecDepth 20000 in
theorem ggL_law_X4_firstError : GoodIn wsL_law wsX4_firstError := goodIn_r _ [267, 20, 268, 269, 270, 19, 271, 246, 272, 273, 274, 275, 40, 276, 277, 278, 650, 651, 652, 653, 654, 672, 673] (by decide +kernel) (by decide +kernel)
set_option maxRecDepth 20000 in
theorem gL_law_X4_firstError : GoodIn wsL_law (wsV RL 97 RX4 yX4_firstError wsX4_firstError) := goodIn_app (goodIn_of _ (by decide +kernel)) ggL_law_X4_firstError
set_option maxRecDepth 20000 in
theorem ggL_law_X5_firstError : GoodIn wsL_law wsX5_firstError := goodIn_r _ [282, 137, 283, 284, 285, 5, 286, 255, 287, 288, 289, 290, 53, 130, 131, 132, 655, 656, 657, 658, 659, 660, 661, 662, 663] (by decide +kernel) (by decide +kernel)
set_option maxRecDepth 20000 in
theorem gL_law_X5_firstError : GoodIn wsL_law (wsV RL 100 RX5 yX5_firstError wsX5_firstError) := goodIn_app (goodIn_of _ (by decide +kernel)) ggL_law_X5_firstError
set_option maxRecDepth 20000 in
theorem ggL_law_L_load : GoodIn wsL_law wsL_load := goodIn_ca (goodIn_r _ [293, 199, 294, 295, 296, 2, 297, 204, 205, 20, 24, 16, 298, 299, 300, 19, 301, 246, 302, 269, 270, 271, 272, 273, 274, 275, 40, 276, 277, 278, 68, 69, 70, 23, 71, 44, 72, 73, 74, 75, 76, 77, 78, 79, 80, 15, 81, 33, 82, 83, 84, 85, 34, 35, 36, 86, 87, 88, 89, 303, 304, 305, 306, 307, 308, 309, 310, 311, 312, 313, 314, 315, 316, 317, 318, 319, 320, 321, 322, 111, 112, 113, 114, 323, 324, 325, 326, 327, 328, 329, 330, 650, 651, 652, 653, 654, 672, 673, 674, 675, 676, 664, 665, 666, 667, 668, 669, 670, 671] (by decide +kernel) (by decide +kernel)) (goodIn_sub (fun _ h => List.mem_append_left _ (List.mem_append_right _ h)) (by decide +kernel))
set_option maxRecDepth 20000 in
theorem gL_law_L_load : GoodIn wsL_law (va_wsS RL 101 yL_load wsL_load) := goodIn_app (goodIn_of _ (by decide +kernel)) ggL_law_L_load
set_option maxRecDepth 20000 in
theorem ggL_law_X5_load : GoodIn wsL_law wsX5_load := goodIn_r _ [334, 255, 53, 49, 283, 284, 285, 5, 286, 287, 288, 289, 290, 130, 131, 132, 133, 134, 135, 136, 137, 138, 139, 140, 141, 142, 50, 335, 336, 337, 338, 655, 656, 657, 658, 659, 660, 661, 662, 663] (by decide +kernel) (by decide +kernel)
set_option maxRecDepth 20000 in
theorem gL_law_X5_load : GoodIn wsL_law (wsV RL 104 RX5 yX5_load wsX5_load) := goodIn_app (goodIn_of _ (by decide +kernel)) ggL_law_X5_load
set_option maxRecDepth 20000 in
theorem ggL_law_L_keep : GoodIn wsL_law wsL_keep := goodIn_ca (goodIn_r _ [341, 199, 342, 343, 344, 2, 345, 204, 205, 16, 26, 28, 346, 79, 80, 15, 81, 33, 82, 83, 84, 85, 34, 35, 36, 86, 87, 88, 89, 323, 324, 325, 326, 327, 328, 329, 330, 650, 651, 652, 653, 654, 664, 665, 666, 667, 668, 669, 670, 671] (by decide +kernel) (by decide +kernel)) (goodIn_sub (fun _ h => List.mem_append_left _ (List.mem_append_right _ h)) (by decide +kernel))
set_option maxRecDepth 20000 in
theorem gL_law_L_keep : GoodIn wsL_law (va_wsS RL 105 yL_keep wsL_keep) := goodIn_app (goodIn_of _ (by decide +kernel)) ggL_law_L_keep
set_option maxRecDepth 20000 in
theorem ggL_law_X5_keep : GoodIn wsL_law wsX5_keep := goodIn_r _ [350, 51, 49, 52, 130, 131, 5, 132, 133, 134, 135, 136, 137, 335, 336, 337, 338, 655, 656, 657, 658, 659, 660, 661, 662, 663] (by decide +kernel) (by decide +kernel)
set_option maxRecDepth 20000 in
theorem gL_law_X5_keep : GoodIn wsL_law (wsV RL 107 RX5 yX5_keep wsX5_keep) := goodIn_app (goodIn_of _ (by decide +kernel)) ggL_law_X5_keep
set_option maxRecDepth 20000 in
theorem ggL_law_L_goBack : GoodIn wsL_law wsL_goBack := goodIn_ca (goodIn_ca (goodIn_r _ [353, 199, 235, 354, 355, 356, 2, 357, 204, 205, 240, 241, 28, 24, 16, 26, 68, 69, 70, 23, 71, 44, 72, 73, 74, 75, 76, 77, 78, 79, 80, 15, 81, 33, 82, 83, 84, 85, 34, 35, 36, 86, 87, 88, 89, 358, 359, 360, 361, 323, 324, 325, 326, 327, 328, 329, 330, 650, 651, 652, 653, 654, 674, 675, 676, 664, 665, 666, 667, 668, 669, 670, 671] (by decide +kernel) (by decide +kernel)) (goodIn_sub (fun _ h => List.mem_append_left _ (List.mem_append_right _ h)) (by decide +kernel))) (goodIn_sub (fun _ h => List.mem_append_right _ h) (by decide +kernel))
set_option maxRecDepth 20000 in
theorem gL_law_L_goBack : GoodIn wsL_law (va_wsS RL 108 yL_goBack wsL_goBack) := goodIn_app (goodIn_of _ (by decide +kernel)) ggL_law_L_goBack
set_option maxRecDepth 20000 in
theorem ggL_law_X5_goBack : GoodIn wsL_law wsX5_goBack := goodIn_r _ [365, 52, 49, 51, 130, 131, 5, 132, 133, 134, 135, 136, 137, 138, 139, 140, 141, 142, 50, 335, 336, 337, 338, 655, 656, 657, 658, 659, 660, 661, 662, 663] (by decide +kernel) (by decide +kernel)
set_option maxRecDepth 20000 in
theorem gL_law_X5_goBack : GoodIn wsL_law (wsV RL 110 RX5 yX5_goBack wsX5_goBack) := goodIn_app (goodIn_of _ (by decide +kernel)) ggL_law_X5_goBack
set_option maxRecDepth 20000 in
theorem ggL_law_L_undo : GoodIn wsL_law wsL_undo := goodIn_ca (goodIn_r _ [368, 235, 369, 370, 371, 2, 372, 240, 241, 24, 16, 373, 374, 375, 23, 376, 72, 44, 74, 75, 76, 77, 73, 377, 359, 360, 15, 361, 33, 82, 83, 84, 85, 34, 35, 36, 86, 87, 88, 89, 650, 651, 652, 653, 654, 674, 675, 676, 664, 665, 666, 667, 668, 669, 670, 671] (by decide +kernel) (by decide +kernel)) (goodIn_sub (fun _ h => List.mem_append_right _ h) (by decide +kernel))
set_option maxRecDepth 20000 in
theorem gL_law_L_undo : GoodIn wsL_law (va_wsS RL 111 yL_undo wsL_undo) := goodIn_app (goodIn_of _ (by decide +kernel)) ggL_law_L_undo
set_option maxRecDepth 20000 in
theorem ggL_law_X5_undo : GoodIn wsL_law wsX5_undo := goodIn_r _ [381, 142, 49, 50, 133, 134, 135, 5, 136, 137, 655, 656, 657, 658, 659, 660, 661, 662, 663] (by decide +kernel) (by decide +kernel)
set_option maxRecDepth 20000 in
theorem gL_law_X5_undo : GoodIn wsL_law (wsV RL 113 RX5 yX5_undo wsX5_undo) := goodIn_app (goodIn_of _ (by decide +kernel)) ggL_law_X5_undo
set_option maxRecDepth 20000 in
theorem ggL_law_L_squareOf : GoodIn wsL_law wsL_squareOf := goodIn_ca (goodIn_ca (goodIn_r _ [384, 58, 199, 385, 386, 387, 2, 388, 63, 64, 204, 205, 16, 65, 66, 67, 389, 95, 96, 15, 97, 33, 98, 99, 100, 101, 102, 103, 104, 105, 106, 107, 108, 109, 110, 390, 391, 392, 393, 394, 395, 396, 397, 398, 399, 400, 401, 86, 34, 402, 403, 404, 405, 406, 407, 408, 409, 94, 650, 651, 652, 653, 654, 664, 665, 666, 667, 668, 669, 670, 671] (by decide +kernel) (by decide +kernel)) (goodIn_sub (fun _ h => List.mem_append_left _ (List.mem_append_left _ (List.mem_append_right _ h))) (by decide +kernel))) (goodIn_sub (fun _ h => List.mem_append_left _ (List.mem_append_right _ h)) (by decide +kernel))
set_option maxRecDepth 20000 in
theorem gL_law_L_squareOf : GoodIn wsL_law (va_wsS RL 114 yL_squareOf wsL_squareOf) := goodIn_app (goodIn_of _ (by decide +kernel)) ggL_law_L_squareOf
set_option maxRecDepth 20000 in
theorem ggL_law_X5_squareOf : GoodIn wsL_law wsX5_squareOf := goodIn_r _ [413, 127, 128, 5, 129, 130, 131, 132, 133, 134, 135, 136, 137, 414, 415, 416, 417, 49, 147, 148, 149, 150, 151, 152, 153, 154, 155, 156, 157, 158, 159, 160, 161, 162, 163, 164, 165, 166, 167, 168, 169, 170, 418, 419, 420, 421, 422, 423, 424, 425, 426, 427, 428, 429, 655, 656, 657, 658, 659, 660, 661, 662, 663] (by decide +kernel) (by decide +kernel)
set_option maxRecDepth 20000 in
theorem gL_law_X5_squareOf : GoodIn wsL_law (wsV RL 116 RX5 yX5_squareOf wsX5_squareOf) := goodIn_app (goodIn_of _ (by decide +kernel)) ggL_law_X5_squareOf
set_option maxRecDepth 20000 in
theorem ggL_law_L_playerOf : GoodIn wsL_law wsL_playerOf := goodIn_ca (goodIn_ca (goodIn_r _ [432, 58, 199, 433, 434, 435, 2, 436, 63, 64, 204, 205, 16, 437, 328, 329, 15, 330, 34, 438, 439, 440, 441, 33, 442, 443, 444, 445, 86, 94, 95, 96, 97, 98, 99, 100, 101, 102, 103, 104, 105, 106, 107, 108, 109, 110, 191, 120, 121, 122, 35, 446, 447, 448, 449, 450, 399, 400, 401, 650, 651, 652, 653, 654, 664, 665, 666, 667, 668, 669, 670, 671] (by decide +kernel) (by decide +kernel)) (goodIn_sub (fun _ h => List.mem_append_left _ (List.mem_append_left _ (List.mem_append_right _ h))) (by decide +kernel))) (goodIn_sub (fun _ h => List.mem_append_left _ (List.mem_append_right _ h)) (by decide +kernel))
set_option maxRecDepth 20000 in
theorem gL_law_L_playerOf : GoodIn wsL_law (va_wsS RL 117 yL_playerOf wsL_playerOf) := goodIn_app (goodIn_of _ (by decide +kernel)) ggL_law_L_playerOf
set_option maxRecDepth 20000 in
theorem ggL_law_X5_playerOf : GoodIn wsL_law wsX5_playerOf := goodIn_r _ [454, 130, 131, 5, 132, 133, 134, 135, 136, 137, 455, 456, 457, 458, 49, 335, 336, 337, 338, 179, 180, 181, 182, 147, 148, 149, 150, 151, 152, 153, 154, 155, 156, 157, 158, 159, 160, 161, 162, 163, 164, 165, 166, 167, 168, 169, 170, 459, 460, 461, 462, 463, 464, 465, 466, 655, 656, 657, 658, 659, 660, 661, 662, 663] (by decide +kernel) (by decide +kernel)
set_option maxRecDepth 20000 in
theorem gL_law_X5_playerOf : GoodIn wsL_law (wsV RL 119 RX5 yX5_playerOf wsX5_playerOf) := goodIn_app (goodIn_of _ (by decide +kernel)) ggL_law_X5_playerOf
set_option maxRecDepth 20000 in
theorem ggL_law_L_count : GoodIn wsL_law wsL_count := goodIn_ca (goodIn_r _ [469, 199, 470, 471, 472, 2, 473, 204, 205, 16, 24, 474, 99, 100, 101, 475, 103, 104, 476, 477, 478, 15, 479, 94, 95, 96, 97, 33, 98, 102, 105, 106, 107, 108, 109, 110, 323, 324, 325, 326, 327, 328, 329, 330, 34, 480, 481, 482, 483, 35, 650, 651, 652, 653, 654, 664, 665, 666, 667, 668, 669, 670, 671, 674, 675, 676] (by decide +kernel) (by decide +kernel)) (goodIn_sub (fun _ h => List.mem_append_left _ (List.mem_append_right _ h)) (by decide +kernel))
set_option maxRecDepth 20000 in
theorem gL_law_L_count : GoodIn wsL_law (va_wsS RL 120 yL_count wsL_count) := goodIn_app (goodIn_of _ (by decide +kernel)) ggL_law_L_count
set_option maxRecDepth 20000 in
theorem ggL_law_X5_count : GoodIn wsL_law wsX5_count := goodIn_r _ [487, 130, 131, 5, 132, 133, 134, 135, 136, 137, 488, 489, 490, 491, 49, 142, 155, 156, 157, 168, 169, 170, 492, 493, 494, 495, 147, 148, 149, 150, 151, 152, 153, 154, 158, 159, 160, 161, 162, 163, 164, 165, 166, 167, 335, 336, 337, 338, 496, 497, 498, 499, 655, 656, 657, 658, 659, 660, 661, 662, 663] (by decide +kernel) (by decide +kernel)
set_option maxRecDepth 20000 in
theorem gL_law_X5_count : GoodIn wsL_law (wsV RL 122 RX5 yX5_count wsX5_count) := goodIn_app (goodIn_of _ (by decide +kernel)) ggL_law_X5_count
set_option maxRecDepth 20000 in
theorem ggL_law_L_whyNot : GoodIn wsL_law wsL_whyNot := goodIn_ca (goodIn_r _ [502, 58, 503, 504, 505, 2, 506, 63, 64, 16, 65, 66, 67, 90, 91, 92, 15, 93, 34, 87, 33, 86, 94, 95, 96, 97, 98, 99, 100, 101, 102, 103, 104, 105, 106, 107, 108, 109, 110, 650, 651, 652, 653, 654, 664, 665, 666, 667, 668, 669, 670, 671] (by decide +kernel) (by decide +kernel)) (goodIn_sub (fun _ h => List.mem_append_left _ (List.mem_append_left _ (List.mem_append_right _ h))) (by decide +kernel))
set_option maxRecDepth 20000 in
theorem gL_law_L_whyNot : GoodIn wsL_law (va_wsS RL 123 yL_whyNot wsL_whyNot) := goodIn_app (goodIn_of _ (by decide +kernel)) ggL_law_L_whyNot
set_option maxRecDepth 20000 in
theorem ggL_law_X5_whyNot : GoodIn wsL_law wsX5_whyNot := goodIn_r _ [510, 127, 128, 5, 129, 130, 131, 132, 133, 134, 135, 136, 137, 143, 144, 145, 146, 49, 147, 148, 149, 150, 151, 152, 153, 154, 155, 156, 157, 158, 159, 160, 161, 162, 163, 164, 165, 166, 167, 168, 169, 170, 655, 656, 657, 658, 659, 660, 661, 662, 663] (by decide +kernel) (by decide +kernel)
set_option maxRecDepth 20000 in
theorem gL_law_X5_whyNot : GoodIn wsL_law (wsV RL 125 RX5 yX5_whyNot wsX5_whyNot) := goodIn_app (goodIn_of _ (by decide +kernel)) ggL_law_X5_whyNot
set_option maxRecDepth 20000 in
theorem ggL_law_L_ifRaised : GoodIn wsL_law wsL_ifRaised := goodIn_ca (goodIn_r _ [513, 58, 514, 515, 516, 2, 517, 63, 64, 16, 65, 66, 67, 518, 519, 520, 15, 521, 34, 33, 87, 522, 91, 92, 93, 86, 94, 95, 96, 97, 98, 99, 100, 101, 102, 103, 104, 105, 106, 107, 108, 109, 110, 523, 112, 113, 114, 119, 120, 121, 122, 35, 650, 651, 652, 653, 654, 664, 665, 666, 667, 668, 669, 670, 671] (by decide +kernel) (by decide +kernel)) (goodIn_sub (fun _ h => List.mem_append_left _ (List.mem_append_left _ (List.mem_append_right _ h))) (by decide +kernel))
set_option maxRecDepth 20000 in
theorem gL_law_L_ifRaised : GoodIn wsL_law (va_wsS RL 126 yL_ifRaised wsL_ifRaised) := goodIn_app (goodIn_of _ (by decide +kernel)) ggL_law_L_ifRaised
set_option maxRecDepth 20000 in
theorem ggL_law_X5_ifRaised : GoodIn wsL_law wsX5_ifRaised := goodIn_r _ [527, 127, 128, 5, 129, 130, 131, 132, 133, 134, 135, 136, 137, 528, 529, 530, 531, 49, 143, 144, 145, 146, 147, 148, 149, 150, 151, 152, 153, 154, 155, 156, 157, 158, 159, 160, 161, 162, 163, 164, 165, 166, 167, 168, 169, 170, 532, 533, 534, 535, 171, 172, 173, 174, 179, 180, 181, 182, 655, 656, 657, 658, 659, 660, 661, 662, 663] (by decide +kernel) (by decide +kernel)
set_option maxRecDepth 20000 in
theorem gL_law_X5_ifRaised : GoodIn wsL_law (wsV RL 128 RX5 yX5_ifRaised wsX5_ifRaised) := goodIn_app (goodIn_of _ (by decide +kernel)) ggL_law_X5_ifRaised
set_option maxRecDepth 20000 in
theorem ggL_law_X4_bestSquare : GoodIn wsL_law wsX4_bestSquare := goodIn_r _ [539, 16, 518, 519, 520, 15, 521, 34, 33, 87, 522, 91, 92, 93, 86, 94, 95, 96, 97, 98, 99, 100, 101, 102, 103, 104, 105, 106, 107, 108, 109, 110, 523, 112, 113, 114, 119, 120, 121, 122, 35, 650, 651, 652, 653, 654, 664, 665, 666, 667, 668, 669, 670, 671] (by decide +kernel) (by decide +kernel)
set_option maxRecDepth 20000 in
theorem gL_law_X4_bestSquare : GoodIn wsL_law (wsV RL 129 RX4 yX4_bestSquare wsX4_bestSquare) := goodIn_app (goodIn_of _ (by decide +kernel)) ggL_law_X4_bestSquare
set_option maxRecDepth 20000 in
theorem ggL_law_X5_bestSquare : GoodIn wsL_law wsX5_bestSquare := goodIn_r _ [543, 137, 544, 545, 546, 5, 547, 528, 529, 530, 531, 49, 143, 144, 145, 146, 147, 148, 149, 150, 151, 152, 153, 154, 155, 156, 157, 158, 159, 160, 161, 162, 163, 164, 165, 166, 167, 168, 169, 170, 532, 533, 534, 535, 171, 172, 173, 174, 179, 180, 181, 182, 655, 656, 657, 658, 659, 660, 661, 662, 663] (by decide +kernel) (by decide +kernel)
set_option maxRecDepth 20000 in
theorem gL_law_X5_bestSquare : GoodIn wsL_law (wsV RL 132 RX5 yX5_bestSquare wsX5_bestSquare) := goodIn_app (goodIn_of _ (by decide +kernel)) ggL_law_X5_bestSquare
set_option maxRecDepth 20000 in
theorem ggL_law_L_needed : GoodIn wsL_law wsL_needed := goodIn_ca (goodIn_r _ [550, 58, 551, 552, 553, 2, 554, 63, 64, 16, 65, 66, 67, 474, 99, 100, 101, 555, 556, 557, 558, 106, 107, 559, 109, 110, 475, 103, 104, 650, 651, 652, 653, 654, 664, 665, 666, 667, 668, 669, 670, 671] (by decide +kernel) (by decide +kernel)) (goodIn_sub (fun _ h => List.mem_append_left _ (List.mem_append_left _ (List.mem_append_right _ h))) (by decide +kernel))
set_option maxRecDepth 20000 in
theorem gL_law_L_needed : GoodIn wsL_law (va_wsS RL 133 yL_needed wsL_needed) := goodIn_app (goodIn_of _ (by decide +kernel)) ggL_law_L_needed
set_option maxRecDepth 20000 in
theorem ggL_law_X5_needed : GoodIn wsL_law wsX5_needed := goodIn_r _ [563, 127, 128, 5, 129, 130, 131, 132, 133, 134, 135, 136, 137, 564, 565, 566, 567, 49, 155, 156, 157, 165, 166, 167, 158, 159, 160, 168, 169, 170, 655, 656, 657, 658, 659, 660, 661, 662, 663] (by decide +kernel) (by decide +kernel)
set_option maxRecDepth 20000 in
theorem gL_law_X5_needed : GoodIn wsL_law (wsV RL 135 RX5 yX5_needed wsX5_needed) := goodIn_app (goodIn_of _ (by decide +kernel)) ggL_law_X5_needed
set_option maxRecDepth 20000 in
theorem ggL_law_X4_darkestHour : GoodIn wsL_law wsX4_darkestHour := goodIn_r _ [571, 16, 476, 477, 478, 15, 479, 94, 95, 96, 97, 33, 98, 99, 100, 101, 102, 103, 104, 105, 106, 107, 108, 109, 110, 650, 651, 652, 653, 654, 664, 665, 666, 667, 668, 669, 670, 671] (by decide +kernel) (by decide +kernel)
set_option maxRecDepth 20000 in
theorem gL_law_X4_darkestHour : GoodIn wsL_law (wsV RL 136 RX4 yX4_darkestHour wsX4_darkestHour) := goodIn_app (goodIn_of _ (by decide +kernel)) ggL_law_X4_darkestHour
set_option maxRecDepth 20000 in
theorem ggL_law_X5_darkestHour : GoodIn wsL_law wsX5_darkestHour := goodIn_r _ [575, 137, 576, 577, 578, 5, 579, 492, 493, 494, 495, 147, 148, 149, 150, 151, 152, 153, 154, 155, 156, 157, 158, 159, 160, 161, 162, 163, 164, 49, 165, 166, 167, 168, 169, 170, 655, 656, 657, 658, 659, 660, 661, 662, 663] (by decide +kernel) (by decide +kernel)
set_option maxRecDepth 20000 in
theorem gL_law_X5_darkestHour : GoodIn wsL_law (wsV RL 139 RX5 yX5_darkestHour wsX5_darkestHour) := goodIn_app (goodIn_of _ (by decide +kernel)) ggL_law_X5_darkestHour
set_option maxRecDepth 20000 in
theorem ggL_law_X4_darkShare : GoodIn wsL_law wsX4_darkShare := goodIn_r _ [583, 16, 584, 476, 477, 478, 15, 479, 94, 95, 96, 97, 33, 98, 99, 100, 101, 102, 103, 104, 105, 106, 107, 108, 109, 110, 650, 651, 652, 653, 654, 664, 665, 666, 667, 668, 669, 670, 671] (by decide +kernel) (by decide +kernel)
set_option maxRecDepth 20000 in
theorem gL_law_X4_darkShare : GoodIn wsL_law (wsV RL 140 RX4 yX4_darkShare wsX4_darkShare) := goodIn_app (goodIn_of _ (by decide +kernel)) ggL_law_X4_darkShare
set_option maxRecDepth 20000 in
theorem ggL_law_X5_darkShare : GoodIn wsL_law wsX5_darkShare := goodIn_r _ [588, 137, 49, 589, 492, 493, 494, 5, 495, 147, 148, 149, 150, 151, 152, 153, 154, 155, 156, 157, 158, 159, 160, 161, 162, 163, 164, 165, 166, 167, 168, 169, 170, 655, 656, 657, 658, 659, 660, 661, 662, 663] (by decide +kernel) (by decide +kernel)
set_option maxRecDepth 20000 in
theorem gL_law_X5_darkShare : GoodIn wsL_law (wsV RL 144 RX5 yX5_darkShare wsX5_darkShare) := goodIn_app (goodIn_of _ (by decide +kernel)) ggL_law_X5_darkShare
set_option maxRecDepth 20000 in
theorem ggL_law_X4_digest : GoodIn wsL_law wsX4_digest := goodIn_ca (goodIn_ca (goodIn_r _ [593, 594, 595, 28, 596, 471, 472, 2, 473, 204, 205, 16, 24, 474, 99, 100, 101, 475, 103, 104, 476, 477, 478, 15, 479, 94, 95, 96, 97, 33, 98, 102, 105, 106, 107, 108, 109, 110, 323, 324, 325, 326, 327, 328, 329, 330, 34, 480, 481, 482, 483, 35, 597, 598, 599, 600, 601, 386, 387, 388, 63, 64, 65, 66, 67, 389, 390, 391, 392, 393, 394, 395, 396, 397, 398, 399, 400, 401, 86, 402, 403, 404, 405, 406, 407, 408, 409, 602, 504, 505, 506, 90, 91, 92, 93, 87, 603, 515, 516, 517, 518, 519, 520, 521, 522, 523, 112, 113, 114, 119, 120, 121, 122, 604, 605, 606, 607, 608, 434, 435, 436, 437, 438, 439, 440, 441, 442, 443, 444, 445, 191, 446, 447, 448, 449, 450, 609, 537, 538, 539, 610, 552, 553, 554, 555, 556, 557, 558, 559, 611, 569, 570, 571, 612, 581, 582, 583, 584, 613, 614, 615, 616, 617, 618, 619, 620, 621, 622, 20, 650, 651, 652, 653, 654, 664, 665, 666, 667, 668, 669, 670, 671, 674, 675, 676, 672, 673] (by decide +kernel) (by decide +kernel)) (goodIn_sub (fun _ h => List.mem_append_left _ (List.mem_append_right _ h)) (by decide +kernel))) (goodIn_sub (fun _ h => List.mem_append_left _ (List.mem_append_left _ (List.mem_append_right _ h))) (by decide +kernel))
set_option maxRecDepth 20000 in
theorem gL_law_X4_digest : GoodIn wsL_law (wsV RL 145 RX4 yX4_digest wsX4_digest) := goodIn_app (goodIn_of _ (by decide +kernel)) ggL_law_X4_digest
set_option maxRecDepth 20000 in
theorem ggL_law_X5_digest : GoodIn wsL_law wsX5_digest := goodIn_r _ [626, 137, 627, 628, 49, 589, 52, 255, 53, 488, 489, 490, 5, 491, 142, 155, 156, 157, 168, 169, 170, 492, 493, 494, 495, 147, 148, 149, 150, 151, 152, 153, 154, 158, 159, 160, 161, 162, 163, 164, 165, 166, 167, 335, 336, 337, 338, 496, 497, 498, 499, 629, 630, 631, 632, 633, 634, 635, 636, 637, 414, 415, 416, 417, 418, 419, 420, 421, 422, 423, 424, 425, 426, 427, 428, 429, 143, 144, 145, 146, 528, 529, 530, 531, 532, 533, 534, 535, 171, 172, 173, 174, 179, 180, 181, 182, 455, 456, 457, 458, 459, 460, 461, 462, 463, 464, 465, 466, 544, 545, 546, 547, 564, 565, 566, 567, 576, 577, 578, 579, 638, 639, 640, 641, 642, 643, 644, 645, 646, 647, 648, 649, 655, 656, 657, 658, 659, 660, 661, 662, 663] (by decide +kernel) (by decide +kernel)
set_option maxRecDepth 20000 in
theorem gL_law_X5_digest : GoodIn wsL_law (wsV RL 149 RX5 yX5_digest wsX5_digest) := goodIn_app (goodIn_of _ (by decide +kernel)) ggL_law_X5_digest
theorem dL_law_0 : decode cL_law 0 = .ok (.new 8, 3) := by decide +kernel
theorem dL_law_3 : decode cL_law 3 = .ok (.dup, 1) := by decide +kernel
theorem dL_law_4 : decode cL_law 4 = .ok (.invokespecial 63, 3) := by decide +kernel
theorem dL_law_7 : decode cL_law 7 = .ok (.astore_n 1, 1) := by decide +kernel
theorem dL_law_8 : decode cL_law 8 = .ok (.new 64, 3) := by decide +kernel
theorem dL_law_11 : decode cL_law 11 = .ok (.dup, 1) := by decide +kernel
theorem dL_law_12 : decode cL_law 12 = .ok (.invokespecial 66, 3) := by decide +kernel
theorem dL_law_15 : decode cL_law 15 = .ok (.astore_n 2, 1) := by decide +kernel
theorem dL_law_16 : decode cL_law 16 = .ok (.iconst 1, 1) := by decide +kernel
theorem dL_law_17 : decode cL_law 17 = .ok (.newarray .long, 2) := by decide +kernel
theorem dL_law_19 : decode cL_law 19 = .ok (.astore_n 3, 1) := by decide +kernel
theorem dL_law_20 : decode cL_law 20 = .ok (.iconst 0, 1) := by decide +kernel
theorem dL_law_21 : decode cL_law 21 = .ok (.istore 4, 2) := by decide +kernel
theorem dL_law_23 : decode cL_law 23 = .ok (.iload 4, 2) := by decide +kernel
theorem dL_law_25 : decode cL_law 25 = .ok (.aload_n 0, 1) := by decide +kernel
theorem dL_law_26 : decode cL_law 26 = .ok (.arraylength, 1) := by decide +kernel
theorem dL_law_27 : decode cL_law 27 = .ok (.iconst 3, 1) := by decide +kernel
theorem dL_law_28 : decode cL_law 28 = .ok (.isub, 1) := by decide +kernel
theorem dL_law_29 : decode cL_law 29 = .ok (.if_icmp .gt 1101, 3) := by decide +kernel
theorem dL_law_32 : decode cL_law 32 = .ok (.aload_n 0, 1) := by decide +kernel
theorem dL_law_33 : decode cL_law 33 = .ok (.iload 4, 2) := by decide +kernel
theorem dL_law_35 : decode cL_law 35 = .ok (.iaload, 1) := by decide +kernel
theorem dL_law_36 : decode cL_law 36 = .ok (.bipush 31, 2) := by decide +kernel
theorem dL_law_38 : decode cL_law 38 = .ok (.iand, 1) := by decide +kernel
theorem dL_law_39 : decode cL_law 39 = .ok (.tableswitch 1085 0 21 #[101, 157, 170, 238, 294, 350, 406, 419, 432, 476, 532, 588, 632, 700, 768, 824, 880, 936, 949, 1017, 1030, 1071], 101) := by decide +kernel
theorem dL_law_140 : decode cL_law 140 = .ok (.aload_n 1, 1) := by decide +kernel
theorem dL_law_141 : decode cL_law 141 = .ok (.aload_n 0, 1) := by decide +kernel
theorem dL_law_142 : decode cL_law 142 = .ok (.iload 4, 2) := by decide +kernel
theorem dL_law_144 : decode cL_law 144 = .ok (.iconst 1, 1) := by decide +kernel
theorem dL_law_145 : decode cL_law 145 = .ok (.iadd, 1) := by decide +kernel
theorem dL_law_146 : decode cL_law 146 = .ok (.iaload, 1) := by decide +kernel
theorem dL_law_147 : decode cL_law 147 = .ok (.aload_n 3, 1) := by decide +kernel
theorem dL_law_148 : decode cL_law 148 = .ok (.invokestatic 67, 3) := by decide +kernel
theorem dL_law_151 : decode cL_law 151 = .ok (.istore 5, 2) := by decide +kernel
theorem dL_law_153 : decode cL_law 153 = .ok (.aload_n 2, 1) := by decide +kernel
theorem dL_law_154 : decode cL_law 154 = .ok (.aload_n 0, 1) := by decide +kernel
theorem dL_law_155 : decode cL_law 155 = .ok (.iload 4, 2) := by decide +kernel
theorem dL_law_157 : decode cL_law 157 = .ok (.iconst 1, 1) := by decide +kernel
theorem dL_law_158 : decode cL_law 158 = .ok (.iadd, 1) := by decide +kernel
theorem dL_law_159 : decode cL_law 159 = .ok (.iaload, 1) := by decide +kernel
theorem dL_law_160 : decode cL_law 160 = .ok (.invokevirtual 72, 3) := by decide +kernel
theorem dL_law_163 : decode cL_law 163 = .ok (.istore 6, 2) := by decide +kernel
theorem dL_law_165 : decode cL_law 165 = .ok (.aload_n 2, 1) := by decide +kernel
theorem dL_law_166 : decode cL_law 166 = .ok (.invokevirtual 73, 3) := by decide +kernel
theorem dL_law_169 : decode cL_law 169 = .ok (.iload 5, 2) := by decide +kernel
theorem dL_law_171 : decode cL_law 171 = .ok (.if_icmp .eq 5, 3) := by decide +kernel
theorem dL_law_174 : decode cL_law 174 = .ok (.iconst 0, 1) := by decide +kernel
theorem dL_law_175 : decode cL_law 175 = .ok (.ireturn, 1) := by decide +kernel
theorem dL_law_176 : decode cL_law 176 = .ok (.iload 5, 2) := by decide +kernel
theorem dL_law_178 : decode cL_law 178 = .ok (.ifCond .ne 15, 3) := by decide +kernel
theorem dL_law_181 : decode cL_law 181 = .ok (.aload_n 3, 1) := by decide +kernel
theorem dL_law_182 : decode cL_law 182 = .ok (.iconst 0, 1) := by decide +kernel
theorem dL_law_183 : decode cL_law 183 = .ok (.laload, 1) := by decide +kernel
theorem dL_law_184 : decode cL_law 184 = .ok (.iload 6, 2) := by decide +kernel
theorem dL_law_186 : decode cL_law 186 = .ok (.i2l, 1) := by decide +kernel
theorem dL_law_187 : decode cL_law 187 = .ok (.lcmp, 1) := by decide +kernel
theorem dL_law_188 : decode cL_law 188 = .ok (.ifCond .eq 5, 3) := by decide +kernel
theorem dL_law_191 : decode cL_law 191 = .ok (.iconst 0, 1) := by decide +kernel
theorem dL_law_192 : decode cL_law 192 = .ok (.ireturn, 1) := by decide +kernel
theorem dL_law_193 : decode cL_law 193 = .ok (.goto 931, 3) := by decide +kernel
theorem dL_law_196 : decode cL_law 196 = .ok (.aload_n 1, 1) := by decide +kernel
theorem dL_law_197 : decode cL_law 197 = .ok (.invokevirtual 76, 3) := by decide +kernel
theorem dL_law_200 : decode cL_law 200 = .ok (.aload_n 2, 1) := by decide +kernel
theorem dL_law_201 : decode cL_law 201 = .ok (.invokevirtual 79, 3) := by decide +kernel
theorem dL_law_204 : decode cL_law 204 = .ok (.if_icmp .eq 920, 3) := by decide +kernel
theorem dL_law_207 : decode cL_law 207 = .ok (.iconst 0, 1) := by decide +kernel
theorem dL_law_208 : decode cL_law 208 = .ok (.ireturn, 1) := by decide +kernel
theorem dL_law_209 : decode cL_law 209 = .ok (.aload_n 1, 1) := by decide +kernel
theorem dL_law_210 : decode cL_law 210 = .ok (.aload_n 0, 1) := by decide +kernel
theorem dL_law_211 : decode cL_law 211 = .ok (.iload 4, 2) := by decide +kernel
theorem dL_law_213 : decode cL_law 213 = .ok (.iconst 1, 1) := by decide +kernel
theorem dL_law_214 : decode cL_law 214 = .ok (.iadd, 1) := by decide +kernel
theorem dL_law_215 : decode cL_law 215 = .ok (.iaload, 1) := by decide +kernel
theorem dL_law_216 : decode cL_law 216 = .ok (.aload_n 0, 1) := by decide +kernel
theorem dL_law_217 : decode cL_law 217 = .ok (.iload 4, 2) := by decide +kernel
theorem dL_law_219 : decode cL_law 219 = .ok (.iconst 2, 1) := by decide +kernel
theorem dL_law_220 : decode cL_law 220 = .ok (.iadd, 1) := by decide +kernel
theorem dL_law_221 : decode cL_law 221 = .ok (.iaload, 1) := by decide +kernel
theorem dL_law_222 : decode cL_law 222 = .ok (.aload_n 3, 1) := by decide +kernel
theorem dL_law_223 : decode cL_law 223 = .ok (.invokestatic 80, 3) := by decide +kernel
theorem dL_law_226 : decode cL_law 226 = .ok (.istore 5, 2) := by decide +kernel
theorem dL_law_228 : decode cL_law 228 = .ok (.aload_n 2, 1) := by decide +kernel
theorem dL_law_229 : decode cL_law 229 = .ok (.aload_n 0, 1) := by decide +kernel
theorem dL_law_230 : decode cL_law 230 = .ok (.iload 4, 2) := by decide +kernel
theorem dL_law_232 : decode cL_law 232 = .ok (.iconst 1, 1) := by decide +kernel
theorem dL_law_233 : decode cL_law 233 = .ok (.iadd, 1) := by decide +kernel
theorem dL_law_234 : decode cL_law 234 = .ok (.iaload, 1) := by decide +kernel
theorem dL_law_235 : decode cL_law 235 = .ok (.aload_n 0, 1) := by decide +kernel
theorem dL_law_236 : decode cL_law 236 = .ok (.iload 4, 2) := by decide +kernel
theorem dL_law_238 : decode cL_law 238 = .ok (.iconst 2, 1) := by decide +kernel
theorem dL_law_239 : decode cL_law 239 = .ok (.iadd, 1) := by decide +kernel
theorem dL_law_240 : decode cL_law 240 = .ok (.iaload, 1) := by decide +kernel
theorem dL_law_241 : decode cL_law 241 = .ok (.invokevirtual 83, 3) := by decide +kernel
theorem dL_law_244 : decode cL_law 244 = .ok (.istore 6, 2) := by decide +kernel
theorem dL_law_246 : decode cL_law 246 = .ok (.aload_n 2, 1) := by decide +kernel
theorem dL_law_247 : decode cL_law 247 = .ok (.invokevirtual 73, 3) := by decide +kernel
theorem dL_law_250 : decode cL_law 250 = .ok (.iload 5, 2) := by decide +kernel
theorem dL_law_252 : decode cL_law 252 = .ok (.if_icmp .eq 5, 3) := by decide +kernel
theorem dL_law_255 : decode cL_law 255 = .ok (.iconst 0, 1) := by decide +kernel
theorem dL_law_256 : decode cL_law 256 = .ok (.ireturn, 1) := by decide +kernel
theorem dL_law_257 : decode cL_law 257 = .ok (.iload 5, 2) := by decide +kernel
theorem dL_law_259 : decode cL_law 259 = .ok (.ifCond .ne 15, 3) := by decide +kernel
theorem dL_law_262 : decode cL_law 262 = .ok (.aload_n 3, 1) := by decide +kernel
theorem dL_law_263 : decode cL_law 263 = .ok (.iconst 0, 1) := by decide +kernel
theorem dL_law_264 : decode cL_law 264 = .ok (.laload, 1) := by decide +kernel
theorem dL_law_265 : decode cL_law 265 = .ok (.iload 6, 2) := by decide +kernel
theorem dL_law_267 : decode cL_law 267 = .ok (.i2l, 1) := by decide +kernel
theorem dL_law_268 : decode cL_law 268 = .ok (.lcmp, 1) := by decide +kernel
theorem dL_law_269 : decode cL_law 269 = .ok (.ifCond .eq 5, 3) := by decide +kernel
theorem dL_law_272 : decode cL_law 272 = .ok (.iconst 0, 1) := by decide +kernel
theorem dL_law_273 : decode cL_law 273 = .ok (.ireturn, 1) := by decide +kernel
theorem dL_law_274 : decode cL_law 274 = .ok (.goto 850, 3) := by decide +kernel
theorem dL_law_277 : decode cL_law 277 = .ok (.aload_n 1, 1) := by decide +kernel
theorem dL_law_278 : decode cL_law 278 = .ok (.aload_n 0, 1) := by decide +kernel
theorem dL_law_279 : decode cL_law 279 = .ok (.iload 4, 2) := by decide +kernel
theorem dL_law_281 : decode cL_law 281 = .ok (.iconst 1, 1) := by decide +kernel
theorem dL_law_282 : decode cL_law 282 = .ok (.iadd, 1) := by decide +kernel
theorem dL_law_283 : decode cL_law 283 = .ok (.iaload, 1) := by decide +kernel
theorem dL_law_284 : decode cL_law 284 = .ok (.aload_n 3, 1) := by decide +kernel
theorem dL_law_285 : decode cL_law 285 = .ok (.invokestatic 84, 3) := by decide +kernel
theorem dL_law_288 : decode cL_law 288 = .ok (.istore 5, 2) := by decide +kernel
theorem dL_law_290 : decode cL_law 290 = .ok (.aload_n 2, 1) := by decide +kernel
theorem dL_law_291 : decode cL_law 291 = .ok (.aload_n 0, 1) := by decide +kernel
theorem dL_law_292 : decode cL_law 292 = .ok (.iload 4, 2) := by decide +kernel
theorem dL_law_294 : decode cL_law 294 = .ok (.iconst 1, 1) := by decide +kernel
theorem dL_law_295 : decode cL_law 295 = .ok (.iadd, 1) := by decide +kernel
theorem dL_law_296 : decode cL_law 296 = .ok (.iaload, 1) := by decide +kernel
theorem dL_law_297 : decode cL_law 297 = .ok (.invokevirtual 86, 3) := by decide +kernel
theorem dL_law_300 : decode cL_law 300 = .ok (.istore 6, 2) := by decide +kernel
theorem dL_law_302 : decode cL_law 302 = .ok (.aload_n 2, 1) := by decide +kernel
theorem dL_law_303 : decode cL_law 303 = .ok (.invokevirtual 73, 3) := by decide +kernel
theorem dL_law_306 : decode cL_law 306 = .ok (.iload 5, 2) := by decide +kernel
theorem dL_law_308 : decode cL_law 308 = .ok (.if_icmp .eq 5, 3) := by decide +kernel
theorem dL_law_311 : decode cL_law 311 = .ok (.iconst 0, 1) := by decide +kernel
theorem dL_law_312 : decode cL_law 312 = .ok (.ireturn, 1) := by decide +kernel
theorem dL_law_313 : decode cL_law 313 = .ok (.iload 5, 2) := by decide +kernel
theorem dL_law_315 : decode cL_law 315 = .ok (.ifCond .ne 15, 3) := by decide +kernel
theorem dL_law_318 : decode cL_law 318 = .ok (.aload_n 3, 1) := by decide +kernel
theorem dL_law_319 : decode cL_law 319 = .ok (.iconst 0, 1) := by decide +kernel
theorem dL_law_320 : decode cL_law 320 = .ok (.laload, 1) := by decide +kernel
theorem dL_law_321 : decode cL_law 321 = .ok (.iload 6, 2) := by decide +kernel
theorem dL_law_323 : decode cL_law 323 = .ok (.i2l, 1) := by decide +kernel
theorem dL_law_324 : decode cL_law 324 = .ok (.lcmp, 1) := by decide +kernel
theorem dL_law_325 : decode cL_law 325 = .ok (.ifCond .eq 5, 3) := by decide +kernel
theorem dL_law_328 : decode cL_law 328 = .ok (.iconst 0, 1) := by decide +kernel
theorem dL_law_329 : decode cL_law 329 = .ok (.ireturn, 1) := by decide +kernel
theorem dL_law_330 : decode cL_law 330 = .ok (.goto 794, 3) := by decide +kernel
theorem dL_law_333 : decode cL_law 333 = .ok (.aload_n 1, 1) := by decide +kernel
theorem dL_law_334 : decode cL_law 334 = .ok (.aload_n 0, 1) := by decide +kernel
theorem dL_law_335 : decode cL_law 335 = .ok (.iload 4, 2) := by decide +kernel
theorem dL_law_337 : decode cL_law 337 = .ok (.iconst 1, 1) := by decide +kernel
theorem dL_law_338 : decode cL_law 338 = .ok (.iadd, 1) := by decide +kernel
theorem dL_law_339 : decode cL_law 339 = .ok (.iaload, 1) := by decide +kernel
theorem dL_law_340 : decode cL_law 340 = .ok (.aload_n 3, 1) := by decide +kernel
theorem dL_law_341 : decode cL_law 341 = .ok (.invokestatic 87, 3) := by decide +kernel
theorem dL_law_344 : decode cL_law 344 = .ok (.istore 5, 2) := by decide +kernel
theorem dL_law_346 : decode cL_law 346 = .ok (.aload_n 2, 1) := by decide +kernel
theorem dL_law_347 : decode cL_law 347 = .ok (.aload_n 0, 1) := by decide +kernel
theorem dL_law_348 : decode cL_law 348 = .ok (.iload 4, 2) := by decide +kernel
theorem dL_law_350 : decode cL_law 350 = .ok (.iconst 1, 1) := by decide +kernel
theorem dL_law_351 : decode cL_law 351 = .ok (.iadd, 1) := by decide +kernel
theorem dL_law_352 : decode cL_law 352 = .ok (.iaload, 1) := by decide +kernel
theorem dL_law_353 : decode cL_law 353 = .ok (.invokevirtual 89, 3) := by decide +kernel
theorem dL_law_356 : decode cL_law 356 = .ok (.istore 6, 2) := by decide +kernel
theorem dL_law_358 : decode cL_law 358 = .ok (.aload_n 2, 1) := by decide +kernel
theorem dL_law_359 : decode cL_law 359 = .ok (.invokevirtual 73, 3) := by decide +kernel
theorem dL_law_362 : decode cL_law 362 = .ok (.iload 5, 2) := by decide +kernel
theorem dL_law_364 : decode cL_law 364 = .ok (.if_icmp .eq 5, 3) := by decide +kernel
theorem dL_law_367 : decode cL_law 367 = .ok (.iconst 0, 1) := by decide +kernel
theorem dL_law_368 : decode cL_law 368 = .ok (.ireturn, 1) := by decide +kernel
theorem dL_law_369 : decode cL_law 369 = .ok (.iload 5, 2) := by decide +kernel
theorem dL_law_371 : decode cL_law 371 = .ok (.ifCond .ne 15, 3) := by decide +kernel
theorem dL_law_374 : decode cL_law 374 = .ok (.aload_n 3, 1) := by decide +kernel
theorem dL_law_375 : decode cL_law 375 = .ok (.iconst 0, 1) := by decide +kernel
theorem dL_law_376 : decode cL_law 376 = .ok (.laload, 1) := by decide +kernel
theorem dL_law_377 : decode cL_law 377 = .ok (.iload 6, 2) := by decide +kernel
theorem dL_law_379 : decode cL_law 379 = .ok (.i2l, 1) := by decide +kernel
theorem dL_law_380 : decode cL_law 380 = .ok (.lcmp, 1) := by decide +kernel
theorem dL_law_381 : decode cL_law 381 = .ok (.ifCond .eq 5, 3) := by decide +kernel
theorem dL_law_384 : decode cL_law 384 = .ok (.iconst 0, 1) := by decide +kernel
theorem dL_law_385 : decode cL_law 385 = .ok (.ireturn, 1) := by decide +kernel
theorem dL_law_386 : decode cL_law 386 = .ok (.goto 738, 3) := by decide +kernel
theorem dL_law_389 : decode cL_law 389 = .ok (.aload_n 1, 1) := by decide +kernel
theorem dL_law_390 : decode cL_law 390 = .ok (.aload_n 0, 1) := by decide +kernel
theorem dL_law_391 : decode cL_law 391 = .ok (.iload 4, 2) := by decide +kernel
theorem dL_law_393 : decode cL_law 393 = .ok (.iconst 1, 1) := by decide +kernel
theorem dL_law_394 : decode cL_law 394 = .ok (.iadd, 1) := by decide +kernel
theorem dL_law_395 : decode cL_law 395 = .ok (.iaload, 1) := by decide +kernel
theorem dL_law_396 : decode cL_law 396 = .ok (.aload_n 3, 1) := by decide +kernel
theorem dL_law_397 : decode cL_law 397 = .ok (.invokestatic 90, 3) := by decide +kernel
theorem dL_law_400 : decode cL_law 400 = .ok (.istore 5, 2) := by decide +kernel
theorem dL_law_402 : decode cL_law 402 = .ok (.aload_n 2, 1) := by decide +kernel
theorem dL_law_403 : decode cL_law 403 = .ok (.aload_n 0, 1) := by decide +kernel
theorem dL_law_404 : decode cL_law 404 = .ok (.iload 4, 2) := by decide +kernel
theorem dL_law_406 : decode cL_law 406 = .ok (.iconst 1, 1) := by decide +kernel
theorem dL_law_407 : decode cL_law 407 = .ok (.iadd, 1) := by decide +kernel
theorem dL_law_408 : decode cL_law 408 = .ok (.iaload, 1) := by decide +kernel
theorem dL_law_409 : decode cL_law 409 = .ok (.invokevirtual 92, 3) := by decide +kernel
theorem dL_law_412 : decode cL_law 412 = .ok (.istore 6, 2) := by decide +kernel
theorem dL_law_414 : decode cL_law 414 = .ok (.aload_n 2, 1) := by decide +kernel
theorem dL_law_415 : decode cL_law 415 = .ok (.invokevirtual 73, 3) := by decide +kernel
theorem dL_law_418 : decode cL_law 418 = .ok (.iload 5, 2) := by decide +kernel
theorem dL_law_420 : decode cL_law 420 = .ok (.if_icmp .eq 5, 3) := by decide +kernel
theorem dL_law_423 : decode cL_law 423 = .ok (.iconst 0, 1) := by decide +kernel
theorem dL_law_424 : decode cL_law 424 = .ok (.ireturn, 1) := by decide +kernel
theorem dL_law_425 : decode cL_law 425 = .ok (.iload 5, 2) := by decide +kernel
theorem dL_law_427 : decode cL_law 427 = .ok (.ifCond .ne 15, 3) := by decide +kernel
theorem dL_law_430 : decode cL_law 430 = .ok (.aload_n 3, 1) := by decide +kernel
theorem dL_law_431 : decode cL_law 431 = .ok (.iconst 0, 1) := by decide +kernel
theorem dL_law_432 : decode cL_law 432 = .ok (.laload, 1) := by decide +kernel
theorem dL_law_433 : decode cL_law 433 = .ok (.iload 6, 2) := by decide +kernel
theorem dL_law_435 : decode cL_law 435 = .ok (.i2l, 1) := by decide +kernel
theorem dL_law_436 : decode cL_law 436 = .ok (.lcmp, 1) := by decide +kernel
theorem dL_law_437 : decode cL_law 437 = .ok (.ifCond .eq 5, 3) := by decide +kernel
theorem dL_law_440 : decode cL_law 440 = .ok (.iconst 0, 1) := by decide +kernel
theorem dL_law_441 : decode cL_law 441 = .ok (.ireturn, 1) := by decide +kernel
theorem dL_law_442 : decode cL_law 442 = .ok (.goto 682, 3) := by decide +kernel
theorem dL_law_445 : decode cL_law 445 = .ok (.aload_n 1, 1) := by decide +kernel
theorem dL_law_446 : decode cL_law 446 = .ok (.invokevirtual 93, 3) := by decide +kernel
theorem dL_law_449 : decode cL_law 449 = .ok (.aload_n 2, 1) := by decide +kernel
theorem dL_law_450 : decode cL_law 450 = .ok (.invokevirtual 96, 3) := by decide +kernel
theorem dL_law_453 : decode cL_law 453 = .ok (.if_icmp .eq 671, 3) := by decide +kernel
theorem dL_law_456 : decode cL_law 456 = .ok (.iconst 0, 1) := by decide +kernel
theorem dL_law_457 : decode cL_law 457 = .ok (.ireturn, 1) := by decide +kernel
theorem dL_law_458 : decode cL_law 458 = .ok (.aload_n 1, 1) := by decide +kernel
theorem dL_law_459 : decode cL_law 459 = .ok (.invokevirtual 97, 3) := by decide +kernel
theorem dL_law_462 : decode cL_law 462 = .ok (.aload_n 2, 1) := by decide +kernel
theorem dL_law_463 : decode cL_law 463 = .ok (.invokevirtual 100, 3) := by decide +kernel
theorem dL_law_466 : decode cL_law 466 = .ok (.if_icmp .eq 658, 3) := by decide +kernel
theorem dL_law_469 : decode cL_law 469 = .ok (.iconst 0, 1) := by decide +kernel
theorem dL_law_470 : decode cL_law 470 = .ok (.ireturn, 1) := by decide +kernel
theorem dL_law_471 : decode cL_law 471 = .ok (.aload_n 1, 1) := by decide +kernel
theorem dL_law_472 : decode cL_law 472 = .ok (.aload_n 3, 1) := by decide +kernel
theorem dL_law_473 : decode cL_law 473 = .ok (.invokestatic 101, 3) := by decide +kernel
theorem dL_law_476 : decode cL_law 476 = .ok (.istore 5, 2) := by decide +kernel
theorem dL_law_478 : decode cL_law 478 = .ok (.aload_n 2, 1) := by decide +kernel
theorem dL_law_479 : decode cL_law 479 = .ok (.invokevirtual 104, 3) := by decide +kernel
theorem dL_law_482 : decode cL_law 482 = .ok (.istore 6, 2) := by decide +kernel
theorem dL_law_484 : decode cL_law 484 = .ok (.aload_n 2, 1) := by decide +kernel
theorem dL_law_485 : decode cL_law 485 = .ok (.invokevirtual 73, 3) := by decide +kernel
theorem dL_law_488 : decode cL_law 488 = .ok (.iload 5, 2) := by decide +kernel
theorem dL_law_490 : decode cL_law 490 = .ok (.if_icmp .eq 5, 3) := by decide +kernel
theorem dL_law_493 : decode cL_law 493 = .ok (.iconst 0, 1) := by decide +kernel
theorem dL_law_494 : decode cL_law 494 = .ok (.ireturn, 1) := by decide +kernel
theorem dL_law_495 : decode cL_law 495 = .ok (.iload 5, 2) := by decide +kernel
theorem dL_law_497 : decode cL_law 497 = .ok (.ifCond .ne 15, 3) := by decide +kernel
theorem dL_law_500 : decode cL_law 500 = .ok (.aload_n 3, 1) := by decide +kernel
theorem dL_law_501 : decode cL_law 501 = .ok (.iconst 0, 1) := by decide +kernel
theorem dL_law_502 : decode cL_law 502 = .ok (.laload, 1) := by decide +kernel
theorem dL_law_503 : decode cL_law 503 = .ok (.iload 6, 2) := by decide +kernel
theorem dL_law_505 : decode cL_law 505 = .ok (.i2l, 1) := by decide +kernel
theorem dL_law_506 : decode cL_law 506 = .ok (.lcmp, 1) := by decide +kernel
theorem dL_law_507 : decode cL_law 507 = .ok (.ifCond .eq 5, 3) := by decide +kernel
theorem dL_law_510 : decode cL_law 510 = .ok (.iconst 0, 1) := by decide +kernel
theorem dL_law_511 : decode cL_law 511 = .ok (.ireturn, 1) := by decide +kernel
theorem dL_law_512 : decode cL_law 512 = .ok (.goto 612, 3) := by decide +kernel
theorem dL_law_515 : decode cL_law 515 = .ok (.aload_n 1, 1) := by decide +kernel
theorem dL_law_516 : decode cL_law 516 = .ok (.aload_n 0, 1) := by decide +kernel
theorem dL_law_517 : decode cL_law 517 = .ok (.iload 4, 2) := by decide +kernel
theorem dL_law_519 : decode cL_law 519 = .ok (.iconst 1, 1) := by decide +kernel
theorem dL_law_520 : decode cL_law 520 = .ok (.iadd, 1) := by decide +kernel
theorem dL_law_521 : decode cL_law 521 = .ok (.iaload, 1) := by decide +kernel
theorem dL_law_522 : decode cL_law 522 = .ok (.aload_n 3, 1) := by decide +kernel
theorem dL_law_523 : decode cL_law 523 = .ok (.invokestatic 105, 3) := by decide +kernel
theorem dL_law_526 : decode cL_law 526 = .ok (.istore 5, 2) := by decide +kernel
theorem dL_law_528 : decode cL_law 528 = .ok (.aload_n 2, 1) := by decide +kernel
theorem dL_law_529 : decode cL_law 529 = .ok (.aload_n 0, 1) := by decide +kernel
theorem dL_law_530 : decode cL_law 530 = .ok (.iload 4, 2) := by decide +kernel
theorem dL_law_532 : decode cL_law 532 = .ok (.iconst 1, 1) := by decide +kernel
theorem dL_law_533 : decode cL_law 533 = .ok (.iadd, 1) := by decide +kernel
theorem dL_law_534 : decode cL_law 534 = .ok (.iaload, 1) := by decide +kernel
theorem dL_law_535 : decode cL_law 535 = .ok (.invokevirtual 107, 3) := by decide +kernel
theorem dL_law_538 : decode cL_law 538 = .ok (.istore 6, 2) := by decide +kernel
theorem dL_law_540 : decode cL_law 540 = .ok (.aload_n 2, 1) := by decide +kernel
theorem dL_law_541 : decode cL_law 541 = .ok (.invokevirtual 73, 3) := by decide +kernel
theorem dL_law_544 : decode cL_law 544 = .ok (.iload 5, 2) := by decide +kernel
theorem dL_law_546 : decode cL_law 546 = .ok (.if_icmp .eq 5, 3) := by decide +kernel
theorem dL_law_549 : decode cL_law 549 = .ok (.iconst 0, 1) := by decide +kernel
theorem dL_law_550 : decode cL_law 550 = .ok (.ireturn, 1) := by decide +kernel
theorem dL_law_551 : decode cL_law 551 = .ok (.iload 5, 2) := by decide +kernel
theorem dL_law_553 : decode cL_law 553 = .ok (.ifCond .ne 15, 3) := by decide +kernel
theorem dL_law_556 : decode cL_law 556 = .ok (.aload_n 3, 1) := by decide +kernel
theorem dL_law_557 : decode cL_law 557 = .ok (.iconst 0, 1) := by decide +kernel
theorem dL_law_558 : decode cL_law 558 = .ok (.laload, 1) := by decide +kernel
theorem dL_law_559 : decode cL_law 559 = .ok (.iload 6, 2) := by decide +kernel
theorem dL_law_561 : decode cL_law 561 = .ok (.i2l, 1) := by decide +kernel
theorem dL_law_562 : decode cL_law 562 = .ok (.lcmp, 1) := by decide +kernel
theorem dL_law_563 : decode cL_law 563 = .ok (.ifCond .eq 5, 3) := by decide +kernel
theorem dL_law_566 : decode cL_law 566 = .ok (.iconst 0, 1) := by decide +kernel
theorem dL_law_567 : decode cL_law 567 = .ok (.ireturn, 1) := by decide +kernel
theorem dL_law_568 : decode cL_law 568 = .ok (.goto 556, 3) := by decide +kernel
theorem dL_law_571 : decode cL_law 571 = .ok (.aload_n 1, 1) := by decide +kernel
theorem dL_law_572 : decode cL_law 572 = .ok (.aload_n 0, 1) := by decide +kernel
theorem dL_law_573 : decode cL_law 573 = .ok (.iload 4, 2) := by decide +kernel
theorem dL_law_575 : decode cL_law 575 = .ok (.iconst 1, 1) := by decide +kernel
theorem dL_law_576 : decode cL_law 576 = .ok (.iadd, 1) := by decide +kernel
theorem dL_law_577 : decode cL_law 577 = .ok (.iaload, 1) := by decide +kernel
theorem dL_law_578 : decode cL_law 578 = .ok (.aload_n 3, 1) := by decide +kernel
theorem dL_law_579 : decode cL_law 579 = .ok (.invokestatic 108, 3) := by decide +kernel
theorem dL_law_582 : decode cL_law 582 = .ok (.istore 5, 2) := by decide +kernel
theorem dL_law_584 : decode cL_law 584 = .ok (.aload_n 2, 1) := by decide +kernel
theorem dL_law_585 : decode cL_law 585 = .ok (.aload_n 0, 1) := by decide +kernel
theorem dL_law_586 : decode cL_law 586 = .ok (.iload 4, 2) := by decide +kernel
theorem dL_law_588 : decode cL_law 588 = .ok (.iconst 1, 1) := by decide +kernel
theorem dL_law_589 : decode cL_law 589 = .ok (.iadd, 1) := by decide +kernel
theorem dL_law_590 : decode cL_law 590 = .ok (.iaload, 1) := by decide +kernel
theorem dL_law_591 : decode cL_law 591 = .ok (.invokevirtual 110, 3) := by decide +kernel
theorem dL_law_594 : decode cL_law 594 = .ok (.istore 6, 2) := by decide +kernel
theorem dL_law_596 : decode cL_law 596 = .ok (.aload_n 2, 1) := by decide +kernel
theorem dL_law_597 : decode cL_law 597 = .ok (.invokevirtual 73, 3) := by decide +kernel
theorem dL_law_600 : decode cL_law 600 = .ok (.iload 5, 2) := by decide +kernel
theorem dL_law_602 : decode cL_law 602 = .ok (.if_icmp .eq 5, 3) := by decide +kernel
theorem dL_law_605 : decode cL_law 605 = .ok (.iconst 0, 1) := by decide +kernel
theorem dL_law_606 : decode cL_law 606 = .ok (.ireturn, 1) := by decide +kernel
theorem dL_law_607 : decode cL_law 607 = .ok (.iload 5, 2) := by decide +kernel
theorem dL_law_609 : decode cL_law 609 = .ok (.ifCond .ne 15, 3) := by decide +kernel
theorem dL_law_612 : decode cL_law 612 = .ok (.aload_n 3, 1) := by decide +kernel
theorem dL_law_613 : decode cL_law 613 = .ok (.iconst 0, 1) := by decide +kernel
theorem dL_law_614 : decode cL_law 614 = .ok (.laload, 1) := by decide +kernel
theorem dL_law_615 : decode cL_law 615 = .ok (.iload 6, 2) := by decide +kernel
theorem dL_law_617 : decode cL_law 617 = .ok (.i2l, 1) := by decide +kernel
theorem dL_law_618 : decode cL_law 618 = .ok (.lcmp, 1) := by decide +kernel
theorem dL_law_619 : decode cL_law 619 = .ok (.ifCond .eq 5, 3) := by decide +kernel
theorem dL_law_622 : decode cL_law 622 = .ok (.iconst 0, 1) := by decide +kernel
theorem dL_law_623 : decode cL_law 623 = .ok (.ireturn, 1) := by decide +kernel
theorem dL_law_624 : decode cL_law 624 = .ok (.goto 500, 3) := by decide +kernel
theorem dL_law_627 : decode cL_law 627 = .ok (.aload_n 1, 1) := by decide +kernel
theorem dL_law_628 : decode cL_law 628 = .ok (.aload_n 3, 1) := by decide +kernel
theorem dL_law_629 : decode cL_law 629 = .ok (.invokestatic 111, 3) := by decide +kernel
theorem dL_law_632 : decode cL_law 632 = .ok (.istore 5, 2) := by decide +kernel
theorem dL_law_634 : decode cL_law 634 = .ok (.aload_n 2, 1) := by decide +kernel
theorem dL_law_635 : decode cL_law 635 = .ok (.invokevirtual 113, 3) := by decide +kernel
theorem dL_law_638 : decode cL_law 638 = .ok (.istore 6, 2) := by decide +kernel
theorem dL_law_640 : decode cL_law 640 = .ok (.aload_n 2, 1) := by decide +kernel
theorem dL_law_641 : decode cL_law 641 = .ok (.invokevirtual 73, 3) := by decide +kernel
theorem dL_law_644 : decode cL_law 644 = .ok (.iload 5, 2) := by decide +kernel
theorem dL_law_646 : decode cL_law 646 = .ok (.if_icmp .eq 5, 3) := by decide +kernel
theorem dL_law_649 : decode cL_law 649 = .ok (.iconst 0, 1) := by decide +kernel
theorem dL_law_650 : decode cL_law 650 = .ok (.ireturn, 1) := by decide +kernel
theorem dL_law_651 : decode cL_law 651 = .ok (.iload 5, 2) := by decide +kernel
theorem dL_law_653 : decode cL_law 653 = .ok (.ifCond .ne 15, 3) := by decide +kernel
theorem dL_law_656 : decode cL_law 656 = .ok (.aload_n 3, 1) := by decide +kernel
theorem dL_law_657 : decode cL_law 657 = .ok (.iconst 0, 1) := by decide +kernel
theorem dL_law_658 : decode cL_law 658 = .ok (.laload, 1) := by decide +kernel
theorem dL_law_659 : decode cL_law 659 = .ok (.iload 6, 2) := by decide +kernel
theorem dL_law_661 : decode cL_law 661 = .ok (.i2l, 1) := by decide +kernel
theorem dL_law_662 : decode cL_law 662 = .ok (.lcmp, 1) := by decide +kernel
theorem dL_law_663 : decode cL_law 663 = .ok (.ifCond .eq 5, 3) := by decide +kernel
theorem dL_law_666 : decode cL_law 666 = .ok (.iconst 0, 1) := by decide +kernel
theorem dL_law_667 : decode cL_law 667 = .ok (.ireturn, 1) := by decide +kernel
theorem dL_law_668 : decode cL_law 668 = .ok (.goto 456, 3) := by decide +kernel
theorem dL_law_671 : decode cL_law 671 = .ok (.aload_n 1, 1) := by decide +kernel
theorem dL_law_672 : decode cL_law 672 = .ok (.aload_n 0, 1) := by decide +kernel
theorem dL_law_673 : decode cL_law 673 = .ok (.iload 4, 2) := by decide +kernel
theorem dL_law_675 : decode cL_law 675 = .ok (.iconst 1, 1) := by decide +kernel
theorem dL_law_676 : decode cL_law 676 = .ok (.iadd, 1) := by decide +kernel
theorem dL_law_677 : decode cL_law 677 = .ok (.iaload, 1) := by decide +kernel
theorem dL_law_678 : decode cL_law 678 = .ok (.aload_n 0, 1) := by decide +kernel
theorem dL_law_679 : decode cL_law 679 = .ok (.iload 4, 2) := by decide +kernel
theorem dL_law_681 : decode cL_law 681 = .ok (.iconst 2, 1) := by decide +kernel
theorem dL_law_682 : decode cL_law 682 = .ok (.iadd, 1) := by decide +kernel
theorem dL_law_683 : decode cL_law 683 = .ok (.iaload, 1) := by decide +kernel
theorem dL_law_684 : decode cL_law 684 = .ok (.aload_n 3, 1) := by decide +kernel
theorem dL_law_685 : decode cL_law 685 = .ok (.invokestatic 114, 3) := by decide +kernel
theorem dL_law_688 : decode cL_law 688 = .ok (.istore 5, 2) := by decide +kernel
theorem dL_law_690 : decode cL_law 690 = .ok (.aload_n 2, 1) := by decide +kernel
theorem dL_law_691 : decode cL_law 691 = .ok (.aload_n 0, 1) := by decide +kernel
theorem dL_law_692 : decode cL_law 692 = .ok (.iload 4, 2) := by decide +kernel
theorem dL_law_694 : decode cL_law 694 = .ok (.iconst 1, 1) := by decide +kernel
theorem dL_law_695 : decode cL_law 695 = .ok (.iadd, 1) := by decide +kernel
theorem dL_law_696 : decode cL_law 696 = .ok (.iaload, 1) := by decide +kernel
theorem dL_law_697 : decode cL_law 697 = .ok (.aload_n 0, 1) := by decide +kernel
theorem dL_law_698 : decode cL_law 698 = .ok (.iload 4, 2) := by decide +kernel
theorem dL_law_700 : decode cL_law 700 = .ok (.iconst 2, 1) := by decide +kernel
theorem dL_law_701 : decode cL_law 701 = .ok (.iadd, 1) := by decide +kernel
theorem dL_law_702 : decode cL_law 702 = .ok (.iaload, 1) := by decide +kernel
theorem dL_law_703 : decode cL_law 703 = .ok (.invokevirtual 116, 3) := by decide +kernel
theorem dL_law_706 : decode cL_law 706 = .ok (.istore 6, 2) := by decide +kernel
theorem dL_law_708 : decode cL_law 708 = .ok (.aload_n 2, 1) := by decide +kernel
theorem dL_law_709 : decode cL_law 709 = .ok (.invokevirtual 73, 3) := by decide +kernel
theorem dL_law_712 : decode cL_law 712 = .ok (.iload 5, 2) := by decide +kernel
theorem dL_law_714 : decode cL_law 714 = .ok (.if_icmp .eq 5, 3) := by decide +kernel
theorem dL_law_717 : decode cL_law 717 = .ok (.iconst 0, 1) := by decide +kernel
theorem dL_law_718 : decode cL_law 718 = .ok (.ireturn, 1) := by decide +kernel
theorem dL_law_719 : decode cL_law 719 = .ok (.iload 5, 2) := by decide +kernel
theorem dL_law_721 : decode cL_law 721 = .ok (.ifCond .ne 15, 3) := by decide +kernel
theorem dL_law_724 : decode cL_law 724 = .ok (.aload_n 3, 1) := by decide +kernel
theorem dL_law_725 : decode cL_law 725 = .ok (.iconst 0, 1) := by decide +kernel
theorem dL_law_726 : decode cL_law 726 = .ok (.laload, 1) := by decide +kernel
theorem dL_law_727 : decode cL_law 727 = .ok (.iload 6, 2) := by decide +kernel
theorem dL_law_729 : decode cL_law 729 = .ok (.i2l, 1) := by decide +kernel
theorem dL_law_730 : decode cL_law 730 = .ok (.lcmp, 1) := by decide +kernel
theorem dL_law_731 : decode cL_law 731 = .ok (.ifCond .eq 5, 3) := by decide +kernel
theorem dL_law_734 : decode cL_law 734 = .ok (.iconst 0, 1) := by decide +kernel
theorem dL_law_735 : decode cL_law 735 = .ok (.ireturn, 1) := by decide +kernel
theorem dL_law_736 : decode cL_law 736 = .ok (.goto 388, 3) := by decide +kernel
theorem dL_law_739 : decode cL_law 739 = .ok (.aload_n 1, 1) := by decide +kernel
theorem dL_law_740 : decode cL_law 740 = .ok (.aload_n 0, 1) := by decide +kernel
theorem dL_law_741 : decode cL_law 741 = .ok (.iload 4, 2) := by decide +kernel
theorem dL_law_743 : decode cL_law 743 = .ok (.iconst 1, 1) := by decide +kernel
theorem dL_law_744 : decode cL_law 744 = .ok (.iadd, 1) := by decide +kernel
theorem dL_law_745 : decode cL_law 745 = .ok (.iaload, 1) := by decide +kernel
theorem dL_law_746 : decode cL_law 746 = .ok (.aload_n 0, 1) := by decide +kernel
theorem dL_law_747 : decode cL_law 747 = .ok (.iload 4, 2) := by decide +kernel
theorem dL_law_749 : decode cL_law 749 = .ok (.iconst 2, 1) := by decide +kernel
theorem dL_law_750 : decode cL_law 750 = .ok (.iadd, 1) := by decide +kernel
theorem dL_law_751 : decode cL_law 751 = .ok (.iaload, 1) := by decide +kernel
theorem dL_law_752 : decode cL_law 752 = .ok (.aload_n 3, 1) := by decide +kernel
theorem dL_law_753 : decode cL_law 753 = .ok (.invokestatic 117, 3) := by decide +kernel
theorem dL_law_756 : decode cL_law 756 = .ok (.istore 5, 2) := by decide +kernel
theorem dL_law_758 : decode cL_law 758 = .ok (.aload_n 2, 1) := by decide +kernel
theorem dL_law_759 : decode cL_law 759 = .ok (.aload_n 0, 1) := by decide +kernel
theorem dL_law_760 : decode cL_law 760 = .ok (.iload 4, 2) := by decide +kernel
theorem dL_law_762 : decode cL_law 762 = .ok (.iconst 1, 1) := by decide +kernel
theorem dL_law_763 : decode cL_law 763 = .ok (.iadd, 1) := by decide +kernel
theorem dL_law_764 : decode cL_law 764 = .ok (.iaload, 1) := by decide +kernel
theorem dL_law_765 : decode cL_law 765 = .ok (.aload_n 0, 1) := by decide +kernel
theorem dL_law_766 : decode cL_law 766 = .ok (.iload 4, 2) := by decide +kernel
theorem dL_law_768 : decode cL_law 768 = .ok (.iconst 2, 1) := by decide +kernel
theorem dL_law_769 : decode cL_law 769 = .ok (.iadd, 1) := by decide +kernel
theorem dL_law_770 : decode cL_law 770 = .ok (.iaload, 1) := by decide +kernel
theorem dL_law_771 : decode cL_law 771 = .ok (.invokevirtual 119, 3) := by decide +kernel
theorem dL_law_774 : decode cL_law 774 = .ok (.istore 6, 2) := by decide +kernel
theorem dL_law_776 : decode cL_law 776 = .ok (.aload_n 2, 1) := by decide +kernel
theorem dL_law_777 : decode cL_law 777 = .ok (.invokevirtual 73, 3) := by decide +kernel
theorem dL_law_780 : decode cL_law 780 = .ok (.iload 5, 2) := by decide +kernel
theorem dL_law_782 : decode cL_law 782 = .ok (.if_icmp .eq 5, 3) := by decide +kernel
theorem dL_law_785 : decode cL_law 785 = .ok (.iconst 0, 1) := by decide +kernel
theorem dL_law_786 : decode cL_law 786 = .ok (.ireturn, 1) := by decide +kernel
theorem dL_law_787 : decode cL_law 787 = .ok (.iload 5, 2) := by decide +kernel
theorem dL_law_789 : decode cL_law 789 = .ok (.ifCond .ne 15, 3) := by decide +kernel
theorem dL_law_792 : decode cL_law 792 = .ok (.aload_n 3, 1) := by decide +kernel
theorem dL_law_793 : decode cL_law 793 = .ok (.iconst 0, 1) := by decide +kernel
theorem dL_law_794 : decode cL_law 794 = .ok (.laload, 1) := by decide +kernel
theorem dL_law_795 : decode cL_law 795 = .ok (.iload 6, 2) := by decide +kernel
theorem dL_law_797 : decode cL_law 797 = .ok (.i2l, 1) := by decide +kernel
theorem dL_law_798 : decode cL_law 798 = .ok (.lcmp, 1) := by decide +kernel
theorem dL_law_799 : decode cL_law 799 = .ok (.ifCond .eq 5, 3) := by decide +kernel
theorem dL_law_802 : decode cL_law 802 = .ok (.iconst 0, 1) := by decide +kernel
theorem dL_law_803 : decode cL_law 803 = .ok (.ireturn, 1) := by decide +kernel
theorem dL_law_804 : decode cL_law 804 = .ok (.goto 320, 3) := by decide +kernel
theorem dL_law_807 : decode cL_law 807 = .ok (.aload_n 1, 1) := by decide +kernel
theorem dL_law_808 : decode cL_law 808 = .ok (.aload_n 0, 1) := by decide +kernel
theorem dL_law_809 : decode cL_law 809 = .ok (.iload 4, 2) := by decide +kernel
theorem dL_law_811 : decode cL_law 811 = .ok (.iconst 1, 1) := by decide +kernel
theorem dL_law_812 : decode cL_law 812 = .ok (.iadd, 1) := by decide +kernel
theorem dL_law_813 : decode cL_law 813 = .ok (.iaload, 1) := by decide +kernel
theorem dL_law_814 : decode cL_law 814 = .ok (.aload_n 3, 1) := by decide +kernel
theorem dL_law_815 : decode cL_law 815 = .ok (.invokestatic 120, 3) := by decide +kernel
theorem dL_law_818 : decode cL_law 818 = .ok (.istore 5, 2) := by decide +kernel
theorem dL_law_820 : decode cL_law 820 = .ok (.aload_n 2, 1) := by decide +kernel
theorem dL_law_821 : decode cL_law 821 = .ok (.aload_n 0, 1) := by decide +kernel
theorem dL_law_822 : decode cL_law 822 = .ok (.iload 4, 2) := by decide +kernel
theorem dL_law_824 : decode cL_law 824 = .ok (.iconst 1, 1) := by decide +kernel
theorem dL_law_825 : decode cL_law 825 = .ok (.iadd, 1) := by decide +kernel
theorem dL_law_826 : decode cL_law 826 = .ok (.iaload, 1) := by decide +kernel
theorem dL_law_827 : decode cL_law 827 = .ok (.invokevirtual 122, 3) := by decide +kernel
theorem dL_law_830 : decode cL_law 830 = .ok (.istore 6, 2) := by decide +kernel
theorem dL_law_832 : decode cL_law 832 = .ok (.aload_n 2, 1) := by decide +kernel
theorem dL_law_833 : decode cL_law 833 = .ok (.invokevirtual 73, 3) := by decide +kernel
theorem dL_law_836 : decode cL_law 836 = .ok (.iload 5, 2) := by decide +kernel
theorem dL_law_838 : decode cL_law 838 = .ok (.if_icmp .eq 5, 3) := by decide +kernel
theorem dL_law_841 : decode cL_law 841 = .ok (.iconst 0, 1) := by decide +kernel
theorem dL_law_842 : decode cL_law 842 = .ok (.ireturn, 1) := by decide +kernel
theorem dL_law_843 : decode cL_law 843 = .ok (.iload 5, 2) := by decide +kernel
theorem dL_law_845 : decode cL_law 845 = .ok (.ifCond .ne 15, 3) := by decide +kernel
theorem dL_law_848 : decode cL_law 848 = .ok (.aload_n 3, 1) := by decide +kernel
theorem dL_law_849 : decode cL_law 849 = .ok (.iconst 0, 1) := by decide +kernel
theorem dL_law_850 : decode cL_law 850 = .ok (.laload, 1) := by decide +kernel
theorem dL_law_851 : decode cL_law 851 = .ok (.iload 6, 2) := by decide +kernel
theorem dL_law_853 : decode cL_law 853 = .ok (.i2l, 1) := by decide +kernel
theorem dL_law_854 : decode cL_law 854 = .ok (.lcmp, 1) := by decide +kernel
theorem dL_law_855 : decode cL_law 855 = .ok (.ifCond .eq 5, 3) := by decide +kernel
theorem dL_law_858 : decode cL_law 858 = .ok (.iconst 0, 1) := by decide +kernel
theorem dL_law_859 : decode cL_law 859 = .ok (.ireturn, 1) := by decide +kernel
theorem dL_law_860 : decode cL_law 860 = .ok (.goto 264, 3) := by decide +kernel
theorem dL_law_863 : decode cL_law 863 = .ok (.aload_n 1, 1) := by decide +kernel
theorem dL_law_864 : decode cL_law 864 = .ok (.aload_n 0, 1) := by decide +kernel
theorem dL_law_865 : decode cL_law 865 = .ok (.iload 4, 2) := by decide +kernel
theorem dL_law_867 : decode cL_law 867 = .ok (.iconst 1, 1) := by decide +kernel
theorem dL_law_868 : decode cL_law 868 = .ok (.iadd, 1) := by decide +kernel
theorem dL_law_869 : decode cL_law 869 = .ok (.iaload, 1) := by decide +kernel
theorem dL_law_870 : decode cL_law 870 = .ok (.aload_n 3, 1) := by decide +kernel
theorem dL_law_871 : decode cL_law 871 = .ok (.invokestatic 123, 3) := by decide +kernel
theorem dL_law_874 : decode cL_law 874 = .ok (.istore 5, 2) := by decide +kernel
theorem dL_law_876 : decode cL_law 876 = .ok (.aload_n 2, 1) := by decide +kernel
theorem dL_law_877 : decode cL_law 877 = .ok (.aload_n 0, 1) := by decide +kernel
theorem dL_law_878 : decode cL_law 878 = .ok (.iload 4, 2) := by decide +kernel
theorem dL_law_880 : decode cL_law 880 = .ok (.iconst 1, 1) := by decide +kernel
theorem dL_law_881 : decode cL_law 881 = .ok (.iadd, 1) := by decide +kernel
theorem dL_law_882 : decode cL_law 882 = .ok (.iaload, 1) := by decide +kernel
theorem dL_law_883 : decode cL_law 883 = .ok (.invokevirtual 125, 3) := by decide +kernel
theorem dL_law_886 : decode cL_law 886 = .ok (.istore 6, 2) := by decide +kernel
theorem dL_law_888 : decode cL_law 888 = .ok (.aload_n 2, 1) := by decide +kernel
theorem dL_law_889 : decode cL_law 889 = .ok (.invokevirtual 73, 3) := by decide +kernel
theorem dL_law_892 : decode cL_law 892 = .ok (.iload 5, 2) := by decide +kernel
theorem dL_law_894 : decode cL_law 894 = .ok (.if_icmp .eq 5, 3) := by decide +kernel
theorem dL_law_897 : decode cL_law 897 = .ok (.iconst 0, 1) := by decide +kernel
theorem dL_law_898 : decode cL_law 898 = .ok (.ireturn, 1) := by decide +kernel
theorem dL_law_899 : decode cL_law 899 = .ok (.iload 5, 2) := by decide +kernel
theorem dL_law_901 : decode cL_law 901 = .ok (.ifCond .ne 15, 3) := by decide +kernel
theorem dL_law_904 : decode cL_law 904 = .ok (.aload_n 3, 1) := by decide +kernel
theorem dL_law_905 : decode cL_law 905 = .ok (.iconst 0, 1) := by decide +kernel
theorem dL_law_906 : decode cL_law 906 = .ok (.laload, 1) := by decide +kernel
theorem dL_law_907 : decode cL_law 907 = .ok (.iload 6, 2) := by decide +kernel
theorem dL_law_909 : decode cL_law 909 = .ok (.i2l, 1) := by decide +kernel
theorem dL_law_910 : decode cL_law 910 = .ok (.lcmp, 1) := by decide +kernel
theorem dL_law_911 : decode cL_law 911 = .ok (.ifCond .eq 5, 3) := by decide +kernel
theorem dL_law_914 : decode cL_law 914 = .ok (.iconst 0, 1) := by decide +kernel
theorem dL_law_915 : decode cL_law 915 = .ok (.ireturn, 1) := by decide +kernel
theorem dL_law_916 : decode cL_law 916 = .ok (.goto 208, 3) := by decide +kernel
theorem dL_law_919 : decode cL_law 919 = .ok (.aload_n 1, 1) := by decide +kernel
theorem dL_law_920 : decode cL_law 920 = .ok (.aload_n 0, 1) := by decide +kernel
theorem dL_law_921 : decode cL_law 921 = .ok (.iload 4, 2) := by decide +kernel
theorem dL_law_923 : decode cL_law 923 = .ok (.iconst 1, 1) := by decide +kernel
theorem dL_law_924 : decode cL_law 924 = .ok (.iadd, 1) := by decide +kernel
theorem dL_law_925 : decode cL_law 925 = .ok (.iaload, 1) := by decide +kernel
theorem dL_law_926 : decode cL_law 926 = .ok (.aload_n 3, 1) := by decide +kernel
theorem dL_law_927 : decode cL_law 927 = .ok (.invokestatic 126, 3) := by decide +kernel
theorem dL_law_930 : decode cL_law 930 = .ok (.istore 5, 2) := by decide +kernel
theorem dL_law_932 : decode cL_law 932 = .ok (.aload_n 2, 1) := by decide +kernel
theorem dL_law_933 : decode cL_law 933 = .ok (.aload_n 0, 1) := by decide +kernel
theorem dL_law_934 : decode cL_law 934 = .ok (.iload 4, 2) := by decide +kernel
theorem dL_law_936 : decode cL_law 936 = .ok (.iconst 1, 1) := by decide +kernel
theorem dL_law_937 : decode cL_law 937 = .ok (.iadd, 1) := by decide +kernel
theorem dL_law_938 : decode cL_law 938 = .ok (.iaload, 1) := by decide +kernel
theorem dL_law_939 : decode cL_law 939 = .ok (.invokevirtual 128, 3) := by decide +kernel
theorem dL_law_942 : decode cL_law 942 = .ok (.istore 6, 2) := by decide +kernel
theorem dL_law_944 : decode cL_law 944 = .ok (.aload_n 2, 1) := by decide +kernel
theorem dL_law_945 : decode cL_law 945 = .ok (.invokevirtual 73, 3) := by decide +kernel
theorem dL_law_948 : decode cL_law 948 = .ok (.iload 5, 2) := by decide +kernel
theorem dL_law_950 : decode cL_law 950 = .ok (.if_icmp .eq 5, 3) := by decide +kernel
theorem dL_law_953 : decode cL_law 953 = .ok (.iconst 0, 1) := by decide +kernel
theorem dL_law_954 : decode cL_law 954 = .ok (.ireturn, 1) := by decide +kernel
theorem dL_law_955 : decode cL_law 955 = .ok (.iload 5, 2) := by decide +kernel
theorem dL_law_957 : decode cL_law 957 = .ok (.ifCond .ne 15, 3) := by decide +kernel
theorem dL_law_960 : decode cL_law 960 = .ok (.aload_n 3, 1) := by decide +kernel
theorem dL_law_961 : decode cL_law 961 = .ok (.iconst 0, 1) := by decide +kernel
theorem dL_law_962 : decode cL_law 962 = .ok (.laload, 1) := by decide +kernel
theorem dL_law_963 : decode cL_law 963 = .ok (.iload 6, 2) := by decide +kernel
theorem dL_law_965 : decode cL_law 965 = .ok (.i2l, 1) := by decide +kernel
theorem dL_law_966 : decode cL_law 966 = .ok (.lcmp, 1) := by decide +kernel
theorem dL_law_967 : decode cL_law 967 = .ok (.ifCond .eq 5, 3) := by decide +kernel
theorem dL_law_970 : decode cL_law 970 = .ok (.iconst 0, 1) := by decide +kernel
theorem dL_law_971 : decode cL_law 971 = .ok (.ireturn, 1) := by decide +kernel
theorem dL_law_972 : decode cL_law 972 = .ok (.goto 152, 3) := by decide +kernel
theorem dL_law_975 : decode cL_law 975 = .ok (.aload_n 1, 1) := by decide +kernel
theorem dL_law_976 : decode cL_law 976 = .ok (.invokevirtual 129, 3) := by decide +kernel
theorem dL_law_979 : decode cL_law 979 = .ok (.aload_n 2, 1) := by decide +kernel
theorem dL_law_980 : decode cL_law 980 = .ok (.invokevirtual 132, 3) := by decide +kernel
theorem dL_law_983 : decode cL_law 983 = .ok (.if_icmp .eq 141, 3) := by decide +kernel
theorem dL_law_986 : decode cL_law 986 = .ok (.iconst 0, 1) := by decide +kernel
theorem dL_law_987 : decode cL_law 987 = .ok (.ireturn, 1) := by decide +kernel
theorem dL_law_988 : decode cL_law 988 = .ok (.aload_n 1, 1) := by decide +kernel
theorem dL_law_989 : decode cL_law 989 = .ok (.aload_n 0, 1) := by decide +kernel
theorem dL_law_990 : decode cL_law 990 = .ok (.iload 4, 2) := by decide +kernel
theorem dL_law_992 : decode cL_law 992 = .ok (.iconst 1, 1) := by decide +kernel
theorem dL_law_993 : decode cL_law 993 = .ok (.iadd, 1) := by decide +kernel
theorem dL_law_994 : decode cL_law 994 = .ok (.iaload, 1) := by decide +kernel
theorem dL_law_995 : decode cL_law 995 = .ok (.aload_n 0, 1) := by decide +kernel
theorem dL_law_996 : decode cL_law 996 = .ok (.iload 4, 2) := by decide +kernel
theorem dL_law_998 : decode cL_law 998 = .ok (.iconst 2, 1) := by decide +kernel
theorem dL_law_999 : decode cL_law 999 = .ok (.iadd, 1) := by decide +kernel
theorem dL_law_1000 : decode cL_law 1000 = .ok (.iaload, 1) := by decide +kernel
theorem dL_law_1001 : decode cL_law 1001 = .ok (.aload_n 3, 1) := by decide +kernel
theorem dL_law_1002 : decode cL_law 1002 = .ok (.invokestatic 133, 3) := by decide +kernel
theorem dL_law_1005 : decode cL_law 1005 = .ok (.istore 5, 2) := by decide +kernel
theorem dL_law_1007 : decode cL_law 1007 = .ok (.aload_n 2, 1) := by decide +kernel
theorem dL_law_1008 : decode cL_law 1008 = .ok (.aload_n 0, 1) := by decide +kernel
theorem dL_law_1009 : decode cL_law 1009 = .ok (.iload 4, 2) := by decide +kernel
theorem dL_law_1011 : decode cL_law 1011 = .ok (.iconst 1, 1) := by decide +kernel
theorem dL_law_1012 : decode cL_law 1012 = .ok (.iadd, 1) := by decide +kernel
theorem dL_law_1013 : decode cL_law 1013 = .ok (.iaload, 1) := by decide +kernel
theorem dL_law_1014 : decode cL_law 1014 = .ok (.aload_n 0, 1) := by decide +kernel
theorem dL_law_1015 : decode cL_law 1015 = .ok (.iload 4, 2) := by decide +kernel
theorem dL_law_1017 : decode cL_law 1017 = .ok (.iconst 2, 1) := by decide +kernel
theorem dL_law_1018 : decode cL_law 1018 = .ok (.iadd, 1) := by decide +kernel
theorem dL_law_1019 : decode cL_law 1019 = .ok (.iaload, 1) := by decide +kernel
theorem dL_law_1020 : decode cL_law 1020 = .ok (.invokevirtual 135, 3) := by decide +kernel
theorem dL_law_1023 : decode cL_law 1023 = .ok (.istore 6, 2) := by decide +kernel
theorem dL_law_1025 : decode cL_law 1025 = .ok (.aload_n 2, 1) := by decide +kernel
theorem dL_law_1026 : decode cL_law 1026 = .ok (.invokevirtual 73, 3) := by decide +kernel
theorem dL_law_1029 : decode cL_law 1029 = .ok (.iload 5, 2) := by decide +kernel
theorem dL_law_1031 : decode cL_law 1031 = .ok (.if_icmp .eq 5, 3) := by decide +kernel
theorem dL_law_1034 : decode cL_law 1034 = .ok (.iconst 0, 1) := by decide +kernel
theorem dL_law_1035 : decode cL_law 1035 = .ok (.ireturn, 1) := by decide +kernel
theorem dL_law_1036 : decode cL_law 1036 = .ok (.iload 5, 2) := by decide +kernel
theorem dL_law_1038 : decode cL_law 1038 = .ok (.ifCond .ne 15, 3) := by decide +kernel
theorem dL_law_1041 : decode cL_law 1041 = .ok (.aload_n 3, 1) := by decide +kernel
theorem dL_law_1042 : decode cL_law 1042 = .ok (.iconst 0, 1) := by decide +kernel
theorem dL_law_1043 : decode cL_law 1043 = .ok (.laload, 1) := by decide +kernel
theorem dL_law_1044 : decode cL_law 1044 = .ok (.iload 6, 2) := by decide +kernel
theorem dL_law_1046 : decode cL_law 1046 = .ok (.i2l, 1) := by decide +kernel
theorem dL_law_1047 : decode cL_law 1047 = .ok (.lcmp, 1) := by decide +kernel
theorem dL_law_1048 : decode cL_law 1048 = .ok (.ifCond .eq 5, 3) := by decide +kernel
theorem dL_law_1051 : decode cL_law 1051 = .ok (.iconst 0, 1) := by decide +kernel
theorem dL_law_1052 : decode cL_law 1052 = .ok (.ireturn, 1) := by decide +kernel
theorem dL_law_1053 : decode cL_law 1053 = .ok (.goto 71, 3) := by decide +kernel
theorem dL_law_1056 : decode cL_law 1056 = .ok (.aload_n 1, 1) := by decide +kernel
theorem dL_law_1057 : decode cL_law 1057 = .ok (.invokevirtual 136, 3) := by decide +kernel
theorem dL_law_1060 : decode cL_law 1060 = .ok (.aload_n 2, 1) := by decide +kernel
theorem dL_law_1061 : decode cL_law 1061 = .ok (.invokevirtual 139, 3) := by decide +kernel
theorem dL_law_1064 : decode cL_law 1064 = .ok (.if_icmp .eq 60, 3) := by decide +kernel
theorem dL_law_1067 : decode cL_law 1067 = .ok (.iconst 0, 1) := by decide +kernel
theorem dL_law_1068 : decode cL_law 1068 = .ok (.ireturn, 1) := by decide +kernel
theorem dL_law_1069 : decode cL_law 1069 = .ok (.aload_n 1, 1) := by decide +kernel
theorem dL_law_1070 : decode cL_law 1070 = .ok (.invokevirtual 140, 3) := by decide +kernel
theorem dL_law_1073 : decode cL_law 1073 = .ok (.dstore 5, 2) := by decide +kernel
theorem dL_law_1075 : decode cL_law 1075 = .ok (.aload_n 2, 1) := by decide +kernel
theorem dL_law_1076 : decode cL_law 1076 = .ok (.invokevirtual 144, 3) := by decide +kernel
theorem dL_law_1079 : decode cL_law 1079 = .ok (.dstore 7, 2) := by decide +kernel
theorem dL_law_1081 : decode cL_law 1081 = .ok (.dload 5, 2) := by decide +kernel
theorem dL_law_1083 : decode cL_law 1083 = .ok (.dload 7, 2) := by decide +kernel
theorem dL_law_1085 : decode cL_law 1085 = .ok (.dcmp .l, 1) := by decide +kernel
theorem dL_law_1086 : decode cL_law 1086 = .ok (.ifCond .eq 21, 3) := by decide +kernel
theorem dL_law_1089 : decode cL_law 1089 = .ok (.dload 5, 2) := by decide +kernel
theorem dL_law_1091 : decode cL_law 1091 = .ok (.dload 5, 2) := by decide +kernel
theorem dL_law_1093 : decode cL_law 1093 = .ok (.dcmp .l, 1) := by decide +kernel
theorem dL_law_1094 : decode cL_law 1094 = .ok (.ifCond .eq 11, 3) := by decide +kernel
theorem dL_law_1097 : decode cL_law 1097 = .ok (.dload 7, 2) := by decide +kernel
theorem dL_law_1099 : decode cL_law 1099 = .ok (.dload 7, 2) := by decide +kernel
theorem dL_law_1101 : decode cL_law 1101 = .ok (.dcmp .l, 1) := by decide +kernel
theorem dL_law_1102 : decode cL_law 1102 = .ok (.ifCond .ne 5, 3) := by decide +kernel
theorem dL_law_1105 : decode cL_law 1105 = .ok (.iconst 0, 1) := by decide +kernel
theorem dL_law_1106 : decode cL_law 1106 = .ok (.ireturn, 1) := by decide +kernel
theorem dL_law_1107 : decode cL_law 1107 = .ok (.goto 17, 3) := by decide +kernel
theorem dL_law_1110 : decode cL_law 1110 = .ok (.aload_n 1, 1) := by decide +kernel
theorem dL_law_1111 : decode cL_law 1111 = .ok (.invokevirtual 145, 3) := by decide +kernel
theorem dL_law_1114 : decode cL_law 1114 = .ok (.aload_n 2, 1) := by decide +kernel
theorem dL_law_1115 : decode cL_law 1115 = .ok (.invokevirtual 149, 3) := by decide +kernel
theorem dL_law_1118 : decode cL_law 1118 = .ok (.lcmp, 1) := by decide +kernel
theorem dL_law_1119 : decode cL_law 1119 = .ok (.ifCond .eq 5, 3) := by decide +kernel
theorem dL_law_1122 : decode cL_law 1122 = .ok (.iconst 0, 1) := by decide +kernel
theorem dL_law_1123 : decode cL_law 1123 = .ok (.ireturn, 1) := by decide +kernel
theorem dL_law_1124 : decode cL_law 1124 = .ok (.iinc 4 3, 3) := by decide +kernel
theorem dL_law_1127 : decode cL_law 1127 = .ok (.goto (-1104), 3) := by decide +kernel
theorem dL_law_1130 : decode cL_law 1130 = .ok (.iconst 1, 1) := by decide +kernel
theorem dL_law_1131 : decode cL_law 1131 = .ok (.ireturn, 1) := by decide +kernel
abbrev vwCl : List vw_C := [(RX0, TX0, 8), (RX1, TX1, 2), (RX2, TX2, 3), (RX4, TX4, 5), (RX5, TX5, 9)]
