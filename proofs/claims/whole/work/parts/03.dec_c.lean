theorem dX0_init_0 : decode cX0_init 0 = .ok (.aload_n 0, 1) := by decide +kernel
theorem dX0_init_1 : decode cX0_init 1 = .ok (.invokespecial 3, 3) := by decide +kernel
theorem dX0_init_4 : decode cX0_init 4 = .ok (.aload_n 0, 1) := by decide +kernel
theorem dX0_init_5 : decode cX0_init 5 = .ok (.bipush 10, 2) := by decide +kernel
theorem dX0_init_7 : decode cX0_init 7 = .ok (.newarray .int, 2) := by decide +kernel
theorem dX0_init_9 : decode cX0_init 9 = .ok (.putfield 9, 3) := by decide +kernel
theorem dX0_init_12 : decode cX0_init 12 = .ok (.aload_n 0, 1) := by decide +kernel
theorem dX0_init_13 : decode cX0_init 13 = .ok (.bipush 10, 2) := by decide +kernel
theorem dX0_init_15 : decode cX0_init 15 = .ok (.newarray .int, 2) := by decide +kernel
theorem dX0_init_17 : decode cX0_init 17 = .ok (.putfield 15, 3) := by decide +kernel
theorem dX0_init_20 : decode cX0_init 20 = .ok (.aload_n 0, 1) := by decide +kernel
theorem dX0_init_21 : decode cX0_init 21 = .ok (.iconst 0, 1) := by decide +kernel
theorem dX0_init_22 : decode cX0_init 22 = .ok (.putfield 18, 3) := by decide +kernel
theorem dX0_init_25 : decode cX0_init 25 = .ok (.aload_n 0, 1) := by decide +kernel
theorem dX0_init_26 : decode cX0_init 26 = .ok (.sipush 400, 3) := by decide +kernel
theorem dX0_init_29 : decode cX0_init 29 = .ok (.putfield 22, 3) := by decide +kernel
theorem dX0_init_32 : decode cX0_init 32 = .ok (.aload_n 0, 1) := by decide +kernel
theorem dX0_init_33 : decode cX0_init 33 = .ok (.sipush 2000, 3) := by decide +kernel
theorem dX0_init_36 : decode cX0_init 36 = .ok (.putfield 25, 3) := by decide +kernel
theorem dX0_init_39 : decode cX0_init 39 = .ok (.aload_n 0, 1) := by decide +kernel
theorem dX0_init_40 : decode cX0_init 40 = .ok (.bipush 8, 2) := by decide +kernel
theorem dX0_init_42 : decode cX0_init 42 = .ok (.anewarray 28, 3) := by decide +kernel
theorem dX0_init_45 : decode cX0_init 45 = .ok (.putfield 30, 3) := by decide +kernel
theorem dX0_init_48 : decode cX0_init 48 = .ok (.aload_n 0, 1) := by decide +kernel
theorem dX0_init_49 : decode cX0_init 49 = .ok (.iconst 0, 1) := by decide +kernel
theorem dX0_init_50 : decode cX0_init 50 = .ok (.putfield 34, 3) := by decide +kernel
theorem dX0_init_53 : decode cX0_init 53 = .ok (.aload_n 0, 1) := by decide +kernel
theorem dX0_init_54 : decode cX0_init 54 = .ok (.bipush 24, 2) := by decide +kernel
theorem dX0_init_56 : decode cX0_init 56 = .ok (.newarray .int, 2) := by decide +kernel
theorem dX0_init_58 : decode cX0_init 58 = .ok (.putfield 37, 3) := by decide +kernel
theorem dX0_init_61 : decode cX0_init 61 = .ok (.aload_n 0, 1) := by decide +kernel
theorem dX0_init_62 : decode cX0_init 62 = .ok (.iconst 0, 1) := by decide +kernel
theorem dX0_init_63 : decode cX0_init 63 = .ok (.putfield 40, 3) := by decide +kernel
theorem dX0_init_66 : decode cX0_init 66 = .ok (.aload_n 0, 1) := by decide +kernel
theorem dX0_init_67 : decode cX0_init 67 = .ok (.iconst 4, 1) := by decide +kernel
theorem dX0_init_68 : decode cX0_init 68 = .ok (.newarray .int, 2) := by decide +kernel
theorem dX0_init_70 : decode cX0_init 70 = .ok (.putfield 43, 3) := by decide +kernel
theorem dX0_init_73 : decode cX0_init 73 = .ok (.return_, 1) := by decide +kernel
theorem dX0_become_0 : decode cX0_become 0 = .ok (.aload_n 1, 1) := by decide +kernel
theorem dX0_become_1 : decode cX0_become 1 = .ok (.getfield 9, 3) := by decide +kernel
theorem dX0_become_4 : decode cX0_become 4 = .ok (.iconst 0, 1) := by decide +kernel
theorem dX0_become_5 : decode cX0_become 5 = .ok (.aload_n 0, 1) := by decide +kernel
theorem dX0_become_6 : decode cX0_become 6 = .ok (.getfield 9, 3) := by decide +kernel
theorem dX0_become_9 : decode cX0_become 9 = .ok (.iconst 0, 1) := by decide +kernel
theorem dX0_become_10 : decode cX0_become 10 = .ok (.bipush 10, 2) := by decide +kernel
theorem dX0_become_12 : decode cX0_become 12 = .ok (.invokestatic 46, 3) := by decide +kernel
theorem dX0_become_15 : decode cX0_become 15 = .ok (.aload_n 1, 1) := by decide +kernel
theorem dX0_become_16 : decode cX0_become 16 = .ok (.getfield 15, 3) := by decide +kernel
theorem dX0_become_19 : decode cX0_become 19 = .ok (.iconst 0, 1) := by decide +kernel
theorem dX0_become_20 : decode cX0_become 20 = .ok (.aload_n 0, 1) := by decide +kernel
theorem dX0_become_21 : decode cX0_become 21 = .ok (.getfield 15, 3) := by decide +kernel
theorem dX0_become_24 : decode cX0_become 24 = .ok (.iconst 0, 1) := by decide +kernel
theorem dX0_become_25 : decode cX0_become 25 = .ok (.bipush 10, 2) := by decide +kernel
theorem dX0_become_27 : decode cX0_become 27 = .ok (.invokestatic 46, 3) := by decide +kernel
theorem dX0_become_30 : decode cX0_become 30 = .ok (.aload_n 1, 1) := by decide +kernel
theorem dX0_become_31 : decode cX0_become 31 = .ok (.getfield 37, 3) := by decide +kernel
theorem dX0_become_34 : decode cX0_become 34 = .ok (.iconst 0, 1) := by decide +kernel
theorem dX0_become_35 : decode cX0_become 35 = .ok (.aload_n 0, 1) := by decide +kernel
theorem dX0_become_36 : decode cX0_become 36 = .ok (.getfield 37, 3) := by decide +kernel
theorem dX0_become_39 : decode cX0_become 39 = .ok (.iconst 0, 1) := by decide +kernel
theorem dX0_become_40 : decode cX0_become 40 = .ok (.bipush 24, 2) := by decide +kernel
theorem dX0_become_42 : decode cX0_become 42 = .ok (.invokestatic 46, 3) := by decide +kernel
theorem dX0_become_45 : decode cX0_become 45 = .ok (.iconst 0, 1) := by decide +kernel
theorem dX0_become_46 : decode cX0_become 46 = .ok (.istore_n 2, 1) := by decide +kernel
theorem dX0_become_47 : decode cX0_become 47 = .ok (.iload_n 2, 1) := by decide +kernel
theorem dX0_become_48 : decode cX0_become 48 = .ok (.bipush 8, 2) := by decide +kernel
theorem dX0_become_50 : decode cX0_become 50 = .ok (.if_icmp .ge 21, 3) := by decide +kernel
theorem dX0_become_53 : decode cX0_become 53 = .ok (.aload_n 0, 1) := by decide +kernel
theorem dX0_become_54 : decode cX0_become 54 = .ok (.getfield 30, 3) := by decide +kernel
theorem dX0_become_57 : decode cX0_become 57 = .ok (.iload_n 2, 1) := by decide +kernel
theorem dX0_become_58 : decode cX0_become 58 = .ok (.aload_n 1, 1) := by decide +kernel
theorem dX0_become_59 : decode cX0_become 59 = .ok (.getfield 30, 3) := by decide +kernel
theorem dX0_become_62 : decode cX0_become 62 = .ok (.iload_n 2, 1) := by decide +kernel
theorem dX0_become_63 : decode cX0_become 63 = .ok (.aaload, 1) := by decide +kernel
theorem dX0_become_64 : decode cX0_become 64 = .ok (.aastore, 1) := by decide +kernel
theorem dX0_become_65 : decode cX0_become 65 = .ok (.iinc 2 1, 3) := by decide +kernel
theorem dX0_become_68 : decode cX0_become 68 = .ok (.goto (-21), 3) := by decide +kernel
theorem dX0_become_71 : decode cX0_become 71 = .ok (.aload_n 0, 1) := by decide +kernel
theorem dX0_become_72 : decode cX0_become 72 = .ok (.aload_n 1, 1) := by decide +kernel
theorem dX0_become_73 : decode cX0_become 73 = .ok (.getfield 18, 3) := by decide +kernel
theorem dX0_become_76 : decode cX0_become 76 = .ok (.putfield 18, 3) := by decide +kernel
theorem dX0_become_79 : decode cX0_become 79 = .ok (.aload_n 0, 1) := by decide +kernel
theorem dX0_become_80 : decode cX0_become 80 = .ok (.aload_n 1, 1) := by decide +kernel
theorem dX0_become_81 : decode cX0_become 81 = .ok (.getfield 22, 3) := by decide +kernel
theorem dX0_become_84 : decode cX0_become 84 = .ok (.putfield 22, 3) := by decide +kernel
theorem dX0_become_87 : decode cX0_become 87 = .ok (.aload_n 0, 1) := by decide +kernel
theorem dX0_become_88 : decode cX0_become 88 = .ok (.aload_n 1, 1) := by decide +kernel
theorem dX0_become_89 : decode cX0_become 89 = .ok (.getfield 25, 3) := by decide +kernel
theorem dX0_become_92 : decode cX0_become 92 = .ok (.putfield 25, 3) := by decide +kernel
theorem dX0_become_95 : decode cX0_become 95 = .ok (.aload_n 0, 1) := by decide +kernel
theorem dX0_become_96 : decode cX0_become 96 = .ok (.aload_n 1, 1) := by decide +kernel
theorem dX0_become_97 : decode cX0_become 97 = .ok (.getfield 34, 3) := by decide +kernel
theorem dX0_become_100 : decode cX0_become 100 = .ok (.putfield 34, 3) := by decide +kernel
theorem dX0_become_103 : decode cX0_become 103 = .ok (.aload_n 0, 1) := by decide +kernel
theorem dX0_become_104 : decode cX0_become 104 = .ok (.aload_n 1, 1) := by decide +kernel
theorem dX0_become_105 : decode cX0_become 105 = .ok (.getfield 40, 3) := by decide +kernel
theorem dX0_become_108 : decode cX0_become 108 = .ok (.putfield 40, 3) := by decide +kernel
theorem dX0_become_111 : decode cX0_become 111 = .ok (.return_, 1) := by decide +kernel
theorem dX0_fallerAt_0 : decode cX0_fallerAt 0 = .ok (.iload_n 1, 1) := by decide +kernel
theorem dX0_fallerAt_1 : decode cX0_fallerAt 1 = .ok (.ifCond .lt 26, 3) := by decide +kernel
theorem dX0_fallerAt_4 : decode cX0_fallerAt 4 = .ok (.iload_n 1, 1) := by decide +kernel
theorem dX0_fallerAt_5 : decode cX0_fallerAt 5 = .ok (.aload_n 0, 1) := by decide +kernel
theorem dX0_fallerAt_6 : decode cX0_fallerAt 6 = .ok (.getfield 34, 3) := by decide +kernel
theorem dX0_fallerAt_9 : decode cX0_fallerAt 9 = .ok (.if_icmp .ge 18, 3) := by decide +kernel
theorem dX0_fallerAt_12 : decode cX0_fallerAt 12 = .ok (.iload_n 1, 1) := by decide +kernel
theorem dX0_fallerAt_13 : decode cX0_fallerAt 13 = .ok (.bipush 8, 2) := by decide +kernel
theorem dX0_fallerAt_15 : decode cX0_fallerAt 15 = .ok (.if_icmp .ge 12, 3) := by decide +kernel
theorem dX0_fallerAt_18 : decode cX0_fallerAt 18 = .ok (.aload_n 0, 1) := by decide +kernel
theorem dX0_fallerAt_19 : decode cX0_fallerAt 19 = .ok (.getfield 30, 3) := by decide +kernel
theorem dX0_fallerAt_22 : decode cX0_fallerAt 22 = .ok (.iload_n 1, 1) := by decide +kernel
theorem dX0_fallerAt_23 : decode cX0_fallerAt 23 = .ok (.aaload, 1) := by decide +kernel
theorem dX0_fallerAt_24 : decode cX0_fallerAt 24 = .ok (.goto 4, 3) := by decide +kernel
theorem dX0_fallerAt_27 : decode cX0_fallerAt 27 = .ok (.aconst_null, 1) := by decide +kernel
theorem dX0_fallerAt_28 : decode cX0_fallerAt 28 = .ok (.areturn, 1) := by decide +kernel
theorem dX0_bars_0 : decode cX0_bars 0 = .ok (.iconst 0, 1) := by decide +kernel
theorem dX0_bars_1 : decode cX0_bars 1 = .ok (.istore_n 3, 1) := by decide +kernel
theorem dX0_bars_2 : decode cX0_bars 2 = .ok (.iload_n 3, 1) := by decide +kernel
theorem dX0_bars_3 : decode cX0_bars 3 = .ok (.aload_n 0, 1) := by decide +kernel
theorem dX0_bars_4 : decode cX0_bars 4 = .ok (.getfield 40, 3) := by decide +kernel
theorem dX0_bars_7 : decode cX0_bars 7 = .ok (.if_icmp .ge 69, 3) := by decide +kernel
theorem dX0_bars_10 : decode cX0_bars 10 = .ok (.iload_n 3, 1) := by decide +kernel
theorem dX0_bars_11 : decode cX0_bars 11 = .ok (.bipush 6, 2) := by decide +kernel
theorem dX0_bars_13 : decode cX0_bars 13 = .ok (.if_icmp .ge 63, 3) := by decide +kernel
theorem dX0_bars_16 : decode cX0_bars 16 = .ok (.aload_n 0, 1) := by decide +kernel
theorem dX0_bars_17 : decode cX0_bars 17 = .ok (.getfield 37, 3) := by decide +kernel
theorem dX0_bars_20 : decode cX0_bars 20 = .ok (.iconst 4, 1) := by decide +kernel
theorem dX0_bars_21 : decode cX0_bars 21 = .ok (.iload_n 3, 1) := by decide +kernel
theorem dX0_bars_22 : decode cX0_bars 22 = .ok (.imul, 1) := by decide +kernel
theorem dX0_bars_23 : decode cX0_bars 23 = .ok (.iaload, 1) := by decide +kernel
theorem dX0_bars_24 : decode cX0_bars 24 = .ok (.iload_n 1, 1) := by decide +kernel
theorem dX0_bars_25 : decode cX0_bars 25 = .ok (.aload_n 0, 1) := by decide +kernel
theorem dX0_bars_26 : decode cX0_bars 26 = .ok (.getfield 37, 3) := by decide +kernel
theorem dX0_bars_29 : decode cX0_bars 29 = .ok (.iconst 4, 1) := by decide +kernel
theorem dX0_bars_30 : decode cX0_bars 30 = .ok (.iload_n 3, 1) := by decide +kernel
theorem dX0_bars_31 : decode cX0_bars 31 = .ok (.imul, 1) := by decide +kernel
theorem dX0_bars_32 : decode cX0_bars 32 = .ok (.iconst 2, 1) := by decide +kernel
theorem dX0_bars_33 : decode cX0_bars 33 = .ok (.iadd, 1) := by decide +kernel
theorem dX0_bars_34 : decode cX0_bars 34 = .ok (.iaload, 1) := by decide +kernel
theorem dX0_bars_35 : decode cX0_bars 35 = .ok (.invokestatic 52, 3) := by decide +kernel
theorem dX0_bars_38 : decode cX0_bars 38 = .ok (.ifCond .eq 32, 3) := by decide +kernel
theorem dX0_bars_41 : decode cX0_bars 41 = .ok (.aload_n 0, 1) := by decide +kernel
theorem dX0_bars_42 : decode cX0_bars 42 = .ok (.getfield 37, 3) := by decide +kernel
theorem dX0_bars_45 : decode cX0_bars 45 = .ok (.iconst 4, 1) := by decide +kernel
theorem dX0_bars_46 : decode cX0_bars 46 = .ok (.iload_n 3, 1) := by decide +kernel
theorem dX0_bars_47 : decode cX0_bars 47 = .ok (.imul, 1) := by decide +kernel
theorem dX0_bars_48 : decode cX0_bars 48 = .ok (.iconst 1, 1) := by decide +kernel
theorem dX0_bars_49 : decode cX0_bars 49 = .ok (.iadd, 1) := by decide +kernel
theorem dX0_bars_50 : decode cX0_bars 50 = .ok (.iaload, 1) := by decide +kernel
theorem dX0_bars_51 : decode cX0_bars 51 = .ok (.iload_n 2, 1) := by decide +kernel
theorem dX0_bars_52 : decode cX0_bars 52 = .ok (.aload_n 0, 1) := by decide +kernel
theorem dX0_bars_53 : decode cX0_bars 53 = .ok (.getfield 37, 3) := by decide +kernel
theorem dX0_bars_56 : decode cX0_bars 56 = .ok (.iconst 4, 1) := by decide +kernel
theorem dX0_bars_57 : decode cX0_bars 57 = .ok (.iload_n 3, 1) := by decide +kernel
theorem dX0_bars_58 : decode cX0_bars 58 = .ok (.imul, 1) := by decide +kernel
theorem dX0_bars_59 : decode cX0_bars 59 = .ok (.iconst 3, 1) := by decide +kernel
theorem dX0_bars_60 : decode cX0_bars 60 = .ok (.iadd, 1) := by decide +kernel
theorem dX0_bars_61 : decode cX0_bars 61 = .ok (.iaload, 1) := by decide +kernel
theorem dX0_bars_62 : decode cX0_bars 62 = .ok (.invokestatic 52, 3) := by decide +kernel
theorem dX0_bars_65 : decode cX0_bars 65 = .ok (.ifCond .eq 5, 3) := by decide +kernel
theorem dX0_bars_68 : decode cX0_bars 68 = .ok (.iconst 1, 1) := by decide +kernel
theorem dX0_bars_69 : decode cX0_bars 69 = .ok (.ireturn, 1) := by decide +kernel
theorem dX0_bars_70 : decode cX0_bars 70 = .ok (.iinc 3 1, 3) := by decide +kernel
theorem dX0_bars_73 : decode cX0_bars 73 = .ok (.goto (-71), 3) := by decide +kernel
theorem dX0_bars_76 : decode cX0_bars 76 = .ok (.iconst 0, 1) := by decide +kernel
theorem dX0_bars_77 : decode cX0_bars 77 = .ok (.ireturn, 1) := by decide +kernel
theorem dX0_windyLayers_0 : decode cX0_windyLayers 0 = .ok (.iconst 0, 1) := by decide +kernel
theorem dX0_windyLayers_1 : decode cX0_windyLayers 1 = .ok (.istore_n 1, 1) := by decide +kernel
theorem dX0_windyLayers_2 : decode cX0_windyLayers 2 = .ok (.iconst 0, 1) := by decide +kernel
theorem dX0_windyLayers_3 : decode cX0_windyLayers 3 = .ok (.istore_n 2, 1) := by decide +kernel
theorem dX0_windyLayers_4 : decode cX0_windyLayers 4 = .ok (.iload_n 2, 1) := by decide +kernel
theorem dX0_windyLayers_5 : decode cX0_windyLayers 5 = .ok (.bipush 10, 2) := by decide +kernel
theorem dX0_windyLayers_7 : decode cX0_windyLayers 7 = .ok (.if_icmp .ge 30, 3) := by decide +kernel
theorem dX0_windyLayers_10 : decode cX0_windyLayers 10 = .ok (.aload_n 0, 1) := by decide +kernel
theorem dX0_windyLayers_11 : decode cX0_windyLayers 11 = .ok (.getfield 9, 3) := by decide +kernel
theorem dX0_windyLayers_14 : decode cX0_windyLayers 14 = .ok (.iload_n 2, 1) := by decide +kernel
theorem dX0_windyLayers_15 : decode cX0_windyLayers 15 = .ok (.iaload, 1) := by decide +kernel
theorem dX0_windyLayers_16 : decode cX0_windyLayers 16 = .ok (.ifCond .ne 12, 3) := by decide +kernel
theorem dX0_windyLayers_19 : decode cX0_windyLayers 19 = .ok (.aload_n 0, 1) := by decide +kernel
theorem dX0_windyLayers_20 : decode cX0_windyLayers 20 = .ok (.getfield 15, 3) := by decide +kernel
theorem dX0_windyLayers_23 : decode cX0_windyLayers 23 = .ok (.iload_n 2, 1) := by decide +kernel
theorem dX0_windyLayers_24 : decode cX0_windyLayers 24 = .ok (.iaload, 1) := by decide +kernel
theorem dX0_windyLayers_25 : decode cX0_windyLayers 25 = .ok (.ifCond .eq 6, 3) := by decide +kernel
theorem dX0_windyLayers_28 : decode cX0_windyLayers 28 = .ok (.iinc 1 1, 3) := by decide +kernel
theorem dX0_windyLayers_31 : decode cX0_windyLayers 31 = .ok (.iinc 2 1, 3) := by decide +kernel
theorem dX0_windyLayers_34 : decode cX0_windyLayers 34 = .ok (.goto (-30), 3) := by decide +kernel
theorem dX0_windyLayers_37 : decode cX0_windyLayers 37 = .ok (.iload_n 1, 1) := by decide +kernel
theorem dX0_windyLayers_38 : decode cX0_windyLayers 38 = .ok (.ireturn, 1) := by decide +kernel
theorem dX0_readFrom_0 : decode cX0_readFrom 0 = .ok (.iconst 0, 1) := by decide +kernel
theorem dX0_readFrom_1 : decode cX0_readFrom 1 = .ok (.istore_n 2, 1) := by decide +kernel
theorem dX0_readFrom_2 : decode cX0_readFrom 2 = .ok (.iconst 0, 1) := by decide +kernel
theorem dX0_readFrom_3 : decode cX0_readFrom 3 = .ok (.istore_n 3, 1) := by decide +kernel
theorem dX0_readFrom_4 : decode cX0_readFrom 4 = .ok (.iconst (-1), 1) := by decide +kernel
theorem dX0_readFrom_5 : decode cX0_readFrom 5 = .ok (.istore 4, 2) := by decide +kernel
theorem dX0_readFrom_7 : decode cX0_readFrom 7 = .ok (.iload_n 2, 1) := by decide +kernel
theorem dX0_readFrom_8 : decode cX0_readFrom 8 = .ok (.bipush 100, 2) := by decide +kernel
theorem dX0_readFrom_10 : decode cX0_readFrom 10 = .ok (.if_icmp .ge 83, 3) := by decide +kernel
theorem dX0_readFrom_13 : decode cX0_readFrom 13 = .ok (.iload_n 2, 1) := by decide +kernel
theorem dX0_readFrom_14 : decode cX0_readFrom 14 = .ok (.ifCond .eq 11, 3) := by decide +kernel
theorem dX0_readFrom_17 : decode cX0_readFrom 17 = .ok (.iload_n 3, 1) := by decide +kernel
theorem dX0_readFrom_18 : decode cX0_readFrom 18 = .ok (.aload_n 1, 1) := by decide +kernel
theorem dX0_readFrom_19 : decode cX0_readFrom 19 = .ok (.getfield 56, 3) := by decide +kernel
theorem dX0_readFrom_22 : decode cX0_readFrom 22 = .ok (.if_icmp .ge 71, 3) := by decide +kernel
theorem dX0_readFrom_25 : decode cX0_readFrom 25 = .ok (.aload_n 0, 1) := by decide +kernel
theorem dX0_readFrom_26 : decode cX0_readFrom 26 = .ok (.aload_n 1, 1) := by decide +kernel
theorem dX0_readFrom_27 : decode cX0_readFrom 27 = .ok (.iload_n 3, 1) := by decide +kernel
theorem dX0_readFrom_28 : decode cX0_readFrom 28 = .ok (.invokevirtual 61, 3) := by decide +kernel
theorem dX0_readFrom_31 : decode cX0_readFrom 31 = .ok (.istore 5, 2) := by decide +kernel
theorem dX0_readFrom_33 : decode cX0_readFrom 33 = .ok (.iload 5, 2) := by decide +kernel
theorem dX0_readFrom_35 : decode cX0_readFrom 35 = .ok (.ifCond .ge 12, 3) := by decide +kernel
theorem dX0_readFrom_38 : decode cX0_readFrom 38 = .ok (.sipush (-1000), 3) := by decide +kernel
theorem dX0_readFrom_41 : decode cX0_readFrom 41 = .ok (.iload 5, 2) := by decide +kernel
theorem dX0_readFrom_43 : decode cX0_readFrom 43 = .ok (.iconst (-1), 1) := by decide +kernel
theorem dX0_readFrom_44 : decode cX0_readFrom 44 = .ok (.ixor, 1) := by decide +kernel
theorem dX0_readFrom_45 : decode cX0_readFrom 45 = .ok (.isub, 1) := by decide +kernel
theorem dX0_readFrom_46 : decode cX0_readFrom 46 = .ok (.ireturn, 1) := by decide +kernel
theorem dX0_readFrom_47 : decode cX0_readFrom 47 = .ok (.iload 4, 2) := by decide +kernel
theorem dX0_readFrom_49 : decode cX0_readFrom 49 = .ok (.ifCond .ge 27, 3) := by decide +kernel
theorem dX0_readFrom_52 : decode cX0_readFrom 52 = .ok (.aload_n 0, 1) := by decide +kernel
theorem dX0_readFrom_53 : decode cX0_readFrom 53 = .ok (.aload_n 1, 1) := by decide +kernel
theorem dX0_readFrom_54 : decode cX0_readFrom 54 = .ok (.iload_n 3, 1) := by decide +kernel
theorem dX0_readFrom_55 : decode cX0_readFrom 55 = .ok (.invokevirtual 65, 3) := by decide +kernel
theorem dX0_readFrom_58 : decode cX0_readFrom 58 = .ok (.invokevirtual 69, 3) := by decide +kernel
theorem dX0_readFrom_61 : decode cX0_readFrom 61 = .ok (.ifCond .eq 15, 3) := by decide +kernel
theorem dX0_readFrom_64 : decode cX0_readFrom 64 = .ok (.aload_n 0, 1) := by decide +kernel
theorem dX0_readFrom_65 : decode cX0_readFrom 65 = .ok (.aload_n 1, 1) := by decide +kernel
theorem dX0_readFrom_66 : decode cX0_readFrom 66 = .ok (.iload_n 3, 1) := by decide +kernel
theorem dX0_readFrom_67 : decode cX0_readFrom 67 = .ok (.invokevirtual 65, 3) := by decide +kernel
theorem dX0_readFrom_70 : decode cX0_readFrom 70 = .ok (.invokevirtual 73, 3) := by decide +kernel
theorem dX0_readFrom_73 : decode cX0_readFrom 73 = .ok (.goto 11, 3) := by decide +kernel
theorem dX0_readFrom_76 : decode cX0_readFrom 76 = .ok (.iload 4, 2) := by decide +kernel
theorem dX0_readFrom_78 : decode cX0_readFrom 78 = .ok (.ifCond .ge 6, 3) := by decide +kernel
theorem dX0_readFrom_81 : decode cX0_readFrom 81 = .ok (.iload_n 3, 1) := by decide +kernel
theorem dX0_readFrom_82 : decode cX0_readFrom 82 = .ok (.istore 4, 2) := by decide +kernel
theorem dX0_readFrom_84 : decode cX0_readFrom 84 = .ok (.iload 5, 2) := by decide +kernel
theorem dX0_readFrom_86 : decode cX0_readFrom 86 = .ok (.istore_n 3, 1) := by decide +kernel
theorem dX0_readFrom_87 : decode cX0_readFrom 87 = .ok (.iinc 2 1, 3) := by decide +kernel
theorem dX0_readFrom_90 : decode cX0_readFrom 90 = .ok (.goto (-83), 3) := by decide +kernel
theorem dX0_readFrom_93 : decode cX0_readFrom 93 = .ok (.iload 4, 2) := by decide +kernel
theorem dX0_readFrom_95 : decode cX0_readFrom 95 = .ok (.ifCond .ge 7, 3) := by decide +kernel
theorem dX0_readFrom_98 : decode cX0_readFrom 98 = .ok (.iload_n 2, 1) := by decide +kernel
theorem dX0_readFrom_99 : decode cX0_readFrom 99 = .ok (.goto 9, 3) := by decide +kernel
theorem dX0_readFrom_102 : decode cX0_readFrom 102 = .ok (.sipush (-2000), 3) := by decide +kernel
theorem dX0_readFrom_105 : decode cX0_readFrom 105 = .ok (.iload 4, 2) := by decide +kernel
theorem dX0_readFrom_107 : decode cX0_readFrom 107 = .ok (.isub, 1) := by decide +kernel
theorem dX0_readFrom_108 : decode cX0_readFrom 108 = .ok (.ireturn, 1) := by decide +kernel
theorem dX0_scan_0 : decode cX0_scan 0 = .ok (.aload_n 1, 1) := by decide +kernel
theorem dX0_scan_1 : decode cX0_scan 1 = .ok (.iload_n 2, 1) := by decide +kernel
theorem dX0_scan_2 : decode cX0_scan 2 = .ok (.invokevirtual 65, 3) := by decide +kernel
theorem dX0_scan_5 : decode cX0_scan 5 = .ok (.invokestatic 77, 3) := by decide +kernel
theorem dX0_scan_8 : decode cX0_scan 8 = .ok (.astore_n 3, 1) := by decide +kernel
theorem dX0_scan_9 : decode cX0_scan 9 = .ok (.aload_n 3, 1) := by decide +kernel
theorem dX0_scan_10 : decode cX0_scan 10 = .ok (.invokevirtual 81, 3) := by decide +kernel
theorem dX0_scan_13 : decode cX0_scan 13 = .ok (.ifCond .eq 7, 3) := by decide +kernel
theorem dX0_scan_16 : decode cX0_scan 16 = .ok (.iload_n 2, 1) := by decide +kernel
theorem dX0_scan_17 : decode cX0_scan 17 = .ok (.iconst (-1), 1) := by decide +kernel
theorem dX0_scan_18 : decode cX0_scan 18 = .ok (.ixor, 1) := by decide +kernel
theorem dX0_scan_19 : decode cX0_scan 19 = .ok (.ireturn, 1) := by decide +kernel
theorem dX0_scan_20 : decode cX0_scan 20 = .ok (.iload_n 2, 1) := by decide +kernel
theorem dX0_scan_21 : decode cX0_scan 21 = .ok (.iconst 1, 1) := by decide +kernel
theorem dX0_scan_22 : decode cX0_scan 22 = .ok (.iadd, 1) := by decide +kernel
theorem dX0_scan_23 : decode cX0_scan 23 = .ok (.istore 4, 2) := by decide +kernel
theorem dX0_scan_25 : decode cX0_scan 25 = .ok (.iconst 0, 1) := by decide +kernel
theorem dX0_scan_26 : decode cX0_scan 26 = .ok (.istore 5, 2) := by decide +kernel
theorem dX0_scan_28 : decode cX0_scan 28 = .ok (.iconst 0, 1) := by decide +kernel
theorem dX0_scan_29 : decode cX0_scan 29 = .ok (.istore 6, 2) := by decide +kernel
theorem dX0_scan_31 : decode cX0_scan 31 = .ok (.iconst 0, 1) := by decide +kernel
theorem dX0_scan_32 : decode cX0_scan 32 = .ok (.istore 7, 2) := by decide +kernel
theorem dX0_scan_34 : decode cX0_scan 34 = .ok (.iload 7, 2) := by decide +kernel
theorem dX0_scan_36 : decode cX0_scan 36 = .ok (.aload_n 3, 1) := by decide +kernel
theorem dX0_scan_37 : decode cX0_scan 37 = .ok (.invokevirtual 87, 3) := by decide +kernel
theorem dX0_scan_40 : decode cX0_scan 40 = .ok (.if_icmp .ge 144, 3) := by decide +kernel
theorem dX0_scan_43 : decode cX0_scan 43 = .ok (.aload_n 3, 1) := by decide +kernel
theorem dX0_scan_44 : decode cX0_scan 44 = .ok (.iload 7, 2) := by decide +kernel
theorem dX0_scan_46 : decode cX0_scan 46 = .ok (.invokevirtual 91, 3) := by decide +kernel
theorem dX0_scan_49 : decode cX0_scan 49 = .ok (.istore 8, 2) := by decide +kernel
theorem dX0_scan_51 : decode cX0_scan 51 = .ok (.aload_n 1, 1) := by decide +kernel
theorem dX0_scan_52 : decode cX0_scan 52 = .ok (.iload 4, 2) := by decide +kernel
theorem dX0_scan_54 : decode cX0_scan 54 = .ok (.invokevirtual 65, 3) := by decide +kernel
theorem dX0_scan_57 : decode cX0_scan 57 = .ok (.istore 9, 2) := by decide +kernel
theorem dX0_scan_59 : decode cX0_scan 59 = .ok (.iload 8, 2) := by decide +kernel
theorem dX0_scan_61 : decode cX0_scan 61 = .ok (.iload 9, 2) := by decide +kernel
theorem dX0_scan_63 : decode cX0_scan 63 = .ok (.invokestatic 95, 3) := by decide +kernel
theorem dX0_scan_66 : decode cX0_scan 66 = .ok (.ifCond .ne 8, 3) := by decide +kernel
theorem dX0_scan_69 : decode cX0_scan 69 = .ok (.iload 4, 2) := by decide +kernel
theorem dX0_scan_71 : decode cX0_scan 71 = .ok (.iconst (-1), 1) := by decide +kernel
theorem dX0_scan_72 : decode cX0_scan 72 = .ok (.ixor, 1) := by decide +kernel
theorem dX0_scan_73 : decode cX0_scan 73 = .ok (.ireturn, 1) := by decide +kernel
theorem dX0_scan_74 : decode cX0_scan 74 = .ok (.iload 8, 2) := by decide +kernel
theorem dX0_scan_76 : decode cX0_scan 76 = .ok (.bipush 110, 2) := by decide +kernel
theorem dX0_scan_78 : decode cX0_scan 78 = .ok (.if_icmp .ne 12, 3) := by decide +kernel
theorem dX0_scan_81 : decode cX0_scan 81 = .ok (.aload_n 1, 1) := by decide +kernel
theorem dX0_scan_82 : decode cX0_scan 82 = .ok (.iload 4, 2) := by decide +kernel
theorem dX0_scan_84 : decode cX0_scan 84 = .ok (.invokestatic 99, 3) := by decide +kernel
theorem dX0_scan_87 : decode cX0_scan 87 = .ok (.goto 7, 3) := by decide +kernel
theorem dX0_scan_90 : decode cX0_scan 90 = .ok (.iload 4, 2) := by decide +kernel
theorem dX0_scan_92 : decode cX0_scan 92 = .ok (.iconst 1, 1) := by decide +kernel
theorem dX0_scan_93 : decode cX0_scan 93 = .ok (.iadd, 1) := by decide +kernel
theorem dX0_scan_94 : decode cX0_scan 94 = .ok (.istore 10, 2) := by decide +kernel
theorem dX0_scan_96 : decode cX0_scan 96 = .ok (.iload 8, 2) := by decide +kernel
theorem dX0_scan_98 : decode cX0_scan 98 = .ok (.bipush 110, 2) := by decide +kernel
theorem dX0_scan_100 : decode cX0_scan 100 = .ok (.if_icmp .eq 10, 3) := by decide +kernel
theorem dX0_scan_103 : decode cX0_scan 103 = .ok (.iload 8, 2) := by decide +kernel
theorem dX0_scan_105 : decode cX0_scan 105 = .ok (.bipush 100, 2) := by decide +kernel
theorem dX0_scan_107 : decode cX0_scan 107 = .ok (.if_icmp .ne 46, 3) := by decide +kernel
theorem dX0_scan_110 : decode cX0_scan 110 = .ok (.iload 5, 2) := by decide +kernel
theorem dX0_scan_112 : decode cX0_scan 112 = .ok (.aload_n 0, 1) := by decide +kernel
theorem dX0_scan_113 : decode cX0_scan 113 = .ok (.getfield 43, 3) := by decide +kernel
theorem dX0_scan_116 : decode cX0_scan 116 = .ok (.arraylength, 1) := by decide +kernel
theorem dX0_scan_117 : decode cX0_scan 117 = .ok (.if_icmp .ge 36, 3) := by decide +kernel
theorem dX0_scan_120 : decode cX0_scan 120 = .ok (.aload_n 1, 1) := by decide +kernel
theorem dX0_scan_121 : decode cX0_scan 121 = .ok (.iload 4, 2) := by decide +kernel
theorem dX0_scan_123 : decode cX0_scan 123 = .ok (.iload 10, 2) := by decide +kernel
theorem dX0_scan_125 : decode cX0_scan 125 = .ok (.invokestatic 102, 3) := by decide +kernel
theorem dX0_scan_128 : decode cX0_scan 128 = .ok (.istore 11, 2) := by decide +kernel
theorem dX0_scan_130 : decode cX0_scan 130 = .ok (.aload_n 0, 1) := by decide +kernel
theorem dX0_scan_131 : decode cX0_scan 131 = .ok (.getfield 43, 3) := by decide +kernel
theorem dX0_scan_134 : decode cX0_scan 134 = .ok (.iload 5, 2) := by decide +kernel
theorem dX0_scan_136 : decode cX0_scan 136 = .ok (.iload 6, 2) := by decide +kernel
theorem dX0_scan_138 : decode cX0_scan 138 = .ok (.ifCond .eq 9, 3) := by decide +kernel
theorem dX0_scan_141 : decode cX0_scan 141 = .ok (.iload 11, 2) := by decide +kernel
theorem dX0_scan_143 : decode cX0_scan 143 = .ok (.ineg, 1) := by decide +kernel
theorem dX0_scan_144 : decode cX0_scan 144 = .ok (.goto 5, 3) := by decide +kernel
theorem dX0_scan_147 : decode cX0_scan 147 = .ok (.iload 11, 2) := by decide +kernel
theorem dX0_scan_149 : decode cX0_scan 149 = .ok (.iastore, 1) := by decide +kernel
theorem dX0_scan_150 : decode cX0_scan 150 = .ok (.iinc 5 1, 3) := by decide +kernel
theorem dX0_scan_153 : decode cX0_scan 153 = .ok (.iload 8, 2) := by decide +kernel
theorem dX0_scan_155 : decode cX0_scan 155 = .ok (.bipush 115, 2) := by decide +kernel
theorem dX0_scan_157 : decode cX0_scan 157 = .ok (.if_icmp .ne 14, 3) := by decide +kernel
theorem dX0_scan_160 : decode cX0_scan 160 = .ok (.iload 9, 2) := by decide +kernel
theorem dX0_scan_162 : decode cX0_scan 162 = .ok (.bipush 45, 2) := by decide +kernel
theorem dX0_scan_164 : decode cX0_scan 164 = .ok (.if_icmp .ne 7, 3) := by decide +kernel
theorem dX0_scan_167 : decode cX0_scan 167 = .ok (.iconst 1, 1) := by decide +kernel
theorem dX0_scan_168 : decode cX0_scan 168 = .ok (.goto 4, 3) := by decide +kernel
theorem dX0_scan_171 : decode cX0_scan 171 = .ok (.iconst 0, 1) := by decide +kernel
theorem dX0_scan_172 : decode cX0_scan 172 = .ok (.istore 6, 2) := by decide +kernel
theorem dX0_scan_174 : decode cX0_scan 174 = .ok (.iload 10, 2) := by decide +kernel
theorem dX0_scan_176 : decode cX0_scan 176 = .ok (.istore 4, 2) := by decide +kernel
theorem dX0_scan_178 : decode cX0_scan 178 = .ok (.iinc 7 1, 3) := by decide +kernel
theorem dX0_scan_181 : decode cX0_scan 181 = .ok (.goto (-147), 3) := by decide +kernel
theorem dX0_scan_184 : decode cX0_scan 184 = .ok (.iload 4, 2) := by decide +kernel
theorem dX0_scan_186 : decode cX0_scan 186 = .ok (.ireturn, 1) := by decide +kernel
theorem dX0_formOf_0 : decode cX0_formOf 0 = .ok (.iload_n 0, 1) := by decide +kernel
theorem dX0_formOf_1 : decode cX0_formOf 1 = .ok (.tableswitch 78 97 108 #[69, 75, 78, 78, 78, 72, 66, 78, 78, 78, 78, 63], 63) := by decide +kernel
theorem dX0_formOf_64 : decode cX0_formOf 64 = .ok (.ldc 106, 2) := by decide +kernel
theorem dX0_formOf_66 : decode cX0_formOf 66 = .ok (.areturn, 1) := by decide +kernel
theorem dX0_formOf_67 : decode cX0_formOf 67 = .ok (.ldc 108, 2) := by decide +kernel
theorem dX0_formOf_69 : decode cX0_formOf 69 = .ok (.areturn, 1) := by decide +kernel
theorem dX0_formOf_70 : decode cX0_formOf 70 = .ok (.ldc 110, 2) := by decide +kernel
theorem dX0_formOf_72 : decode cX0_formOf 72 = .ok (.areturn, 1) := by decide +kernel
theorem dX0_formOf_73 : decode cX0_formOf 73 = .ok (.ldc 112, 2) := by decide +kernel
theorem dX0_formOf_75 : decode cX0_formOf 75 = .ok (.areturn, 1) := by decide +kernel
theorem dX0_formOf_76 : decode cX0_formOf 76 = .ok (.ldc 114, 2) := by decide +kernel
theorem dX0_formOf_78 : decode cX0_formOf 78 = .ok (.areturn, 1) := by decide +kernel
theorem dX0_formOf_79 : decode cX0_formOf 79 = .ok (.ldc 116, 2) := by decide +kernel
theorem dX0_formOf_81 : decode cX0_formOf 81 = .ok (.areturn, 1) := by decide +kernel
theorem dX0_isAsFormed_0 : decode cX0_isAsFormed 0 = .ok (.iload_n 0, 1) := by decide +kernel
theorem dX0_isAsFormed_1 : decode cX0_isAsFormed 1 = .ok (.lookupswitch 58 #[(100, 35), (110, 35), (115, 40)], 35) := by decide +kernel
theorem dX0_isAsFormed_36 : decode cX0_isAsFormed 36 = .ok (.iload_n 1, 1) := by decide +kernel
theorem dX0_isAsFormed_37 : decode cX0_isAsFormed 37 = .ok (.invokestatic 118, 3) := by decide +kernel
theorem dX0_isAsFormed_40 : decode cX0_isAsFormed 40 = .ok (.ireturn, 1) := by decide +kernel
theorem dX0_isAsFormed_41 : decode cX0_isAsFormed 41 = .ok (.iload_n 1, 1) := by decide +kernel
theorem dX0_isAsFormed_42 : decode cX0_isAsFormed 42 = .ok (.bipush 43, 2) := by decide +kernel
theorem dX0_isAsFormed_44 : decode cX0_isAsFormed 44 = .ok (.if_icmp .eq 9, 3) := by decide +kernel
theorem dX0_isAsFormed_47 : decode cX0_isAsFormed 47 = .ok (.iload_n 1, 1) := by decide +kernel
theorem dX0_isAsFormed_48 : decode cX0_isAsFormed 48 = .ok (.bipush 45, 2) := by decide +kernel
theorem dX0_isAsFormed_50 : decode cX0_isAsFormed 50 = .ok (.if_icmp .ne 7, 3) := by decide +kernel
theorem dX0_isAsFormed_53 : decode cX0_isAsFormed 53 = .ok (.iconst 1, 1) := by decide +kernel
theorem dX0_isAsFormed_54 : decode cX0_isAsFormed 54 = .ok (.goto 4, 3) := by decide +kernel
theorem dX0_isAsFormed_57 : decode cX0_isAsFormed 57 = .ok (.iconst 0, 1) := by decide +kernel
theorem dX0_isAsFormed_58 : decode cX0_isAsFormed 58 = .ok (.ireturn, 1) := by decide +kernel
theorem dX0_isAsFormed_59 : decode cX0_isAsFormed 59 = .ok (.iload_n 1, 1) := by decide +kernel
theorem dX0_isAsFormed_60 : decode cX0_isAsFormed 60 = .ok (.iload_n 0, 1) := by decide +kernel
theorem dX0_isAsFormed_61 : decode cX0_isAsFormed 61 = .ok (.if_icmp .ne 7, 3) := by decide +kernel
theorem dX0_isAsFormed_64 : decode cX0_isAsFormed 64 = .ok (.iconst 1, 1) := by decide +kernel
theorem dX0_isAsFormed_65 : decode cX0_isAsFormed 65 = .ok (.goto 4, 3) := by decide +kernel
theorem dX0_isAsFormed_68 : decode cX0_isAsFormed 68 = .ok (.iconst 0, 1) := by decide +kernel
theorem dX0_isAsFormed_69 : decode cX0_isAsFormed 69 = .ok (.ireturn, 1) := by decide +kernel
theorem dX0_isDigit_0 : decode cX0_isDigit 0 = .ok (.bipush 48, 2) := by decide +kernel
theorem dX0_isDigit_2 : decode cX0_isDigit 2 = .ok (.iload_n 0, 1) := by decide +kernel
theorem dX0_isDigit_3 : decode cX0_isDigit 3 = .ok (.bipush 57, 2) := by decide +kernel
theorem dX0_isDigit_5 : decode cX0_isDigit 5 = .ok (.invokestatic 52, 3) := by decide +kernel
theorem dX0_isDigit_8 : decode cX0_isDigit 8 = .ok (.ireturn, 1) := by decide +kernel
theorem dX0_behindNumber_0 : decode cX0_behindNumber 0 = .ok (.aload_n 0, 1) := by decide +kernel
theorem dX0_behindNumber_1 : decode cX0_behindNumber 1 = .ok (.iload_n 1, 1) := by decide +kernel
theorem dX0_behindNumber_2 : decode cX0_behindNumber 2 = .ok (.invokevirtual 65, 3) := by decide +kernel
theorem dX0_behindNumber_5 : decode cX0_behindNumber 5 = .ok (.bipush 48, 2) := by decide +kernel
theorem dX0_behindNumber_7 : decode cX0_behindNumber 7 = .ok (.if_icmp .ne 7, 3) := by decide +kernel
theorem dX0_behindNumber_10 : decode cX0_behindNumber 10 = .ok (.iconst 1, 1) := by decide +kernel
theorem dX0_behindNumber_11 : decode cX0_behindNumber 11 = .ok (.goto 4, 3) := by decide +kernel
theorem dX0_behindNumber_14 : decode cX0_behindNumber 14 = .ok (.iconst 4, 1) := by decide +kernel
theorem dX0_behindNumber_15 : decode cX0_behindNumber 15 = .ok (.istore_n 2, 1) := by decide +kernel
theorem dX0_behindNumber_16 : decode cX0_behindNumber 16 = .ok (.iconst 0, 1) := by decide +kernel
theorem dX0_behindNumber_17 : decode cX0_behindNumber 17 = .ok (.istore_n 3, 1) := by decide +kernel
theorem dX0_behindNumber_18 : decode cX0_behindNumber 18 = .ok (.iload_n 3, 1) := by decide +kernel
theorem dX0_behindNumber_19 : decode cX0_behindNumber 19 = .ok (.iload_n 2, 1) := by decide +kernel
theorem dX0_behindNumber_20 : decode cX0_behindNumber 20 = .ok (.if_icmp .ge 22, 3) := by decide +kernel
theorem dX0_behindNumber_23 : decode cX0_behindNumber 23 = .ok (.aload_n 0, 1) := by decide +kernel
theorem dX0_behindNumber_24 : decode cX0_behindNumber 24 = .ok (.iload_n 1, 1) := by decide +kernel
theorem dX0_behindNumber_25 : decode cX0_behindNumber 25 = .ok (.iload_n 3, 1) := by decide +kernel
theorem dX0_behindNumber_26 : decode cX0_behindNumber 26 = .ok (.iadd, 1) := by decide +kernel
theorem dX0_behindNumber_27 : decode cX0_behindNumber 27 = .ok (.invokevirtual 65, 3) := by decide +kernel
theorem dX0_behindNumber_30 : decode cX0_behindNumber 30 = .ok (.invokestatic 118, 3) := by decide +kernel
theorem dX0_behindNumber_33 : decode cX0_behindNumber 33 = .ok (.ifCond .eq 9, 3) := by decide +kernel
theorem dX0_behindNumber_36 : decode cX0_behindNumber 36 = .ok (.iinc 3 1, 3) := by decide +kernel
theorem dX0_behindNumber_39 : decode cX0_behindNumber 39 = .ok (.goto (-21), 3) := by decide +kernel
theorem dX0_behindNumber_42 : decode cX0_behindNumber 42 = .ok (.iload_n 1, 1) := by decide +kernel
theorem dX0_behindNumber_43 : decode cX0_behindNumber 43 = .ok (.iload_n 3, 1) := by decide +kernel
theorem dX0_behindNumber_44 : decode cX0_behindNumber 44 = .ok (.iadd, 1) := by decide +kernel
theorem dX0_behindNumber_45 : decode cX0_behindNumber 45 = .ok (.ireturn, 1) := by decide +kernel
theorem dX0_numberBetween_0 : decode cX0_numberBetween 0 = .ok (.iconst 0, 1) := by decide +kernel
theorem dX0_numberBetween_1 : decode cX0_numberBetween 1 = .ok (.istore_n 3, 1) := by decide +kernel
theorem dX0_numberBetween_2 : decode cX0_numberBetween 2 = .ok (.iload_n 1, 1) := by decide +kernel
theorem dX0_numberBetween_3 : decode cX0_numberBetween 3 = .ok (.istore 4, 2) := by decide +kernel
theorem dX0_numberBetween_5 : decode cX0_numberBetween 5 = .ok (.iload 4, 2) := by decide +kernel
theorem dX0_numberBetween_7 : decode cX0_numberBetween 7 = .ok (.iload_n 2, 1) := by decide +kernel
theorem dX0_numberBetween_8 : decode cX0_numberBetween 8 = .ok (.if_icmp .ge 24, 3) := by decide +kernel
theorem dX0_numberBetween_11 : decode cX0_numberBetween 11 = .ok (.iload_n 3, 1) := by decide +kernel
theorem dX0_numberBetween_12 : decode cX0_numberBetween 12 = .ok (.bipush 10, 2) := by decide +kernel
theorem dX0_numberBetween_14 : decode cX0_numberBetween 14 = .ok (.imul, 1) := by decide +kernel
theorem dX0_numberBetween_15 : decode cX0_numberBetween 15 = .ok (.aload_n 0, 1) := by decide +kernel
theorem dX0_numberBetween_16 : decode cX0_numberBetween 16 = .ok (.iload 4, 2) := by decide +kernel
theorem dX0_numberBetween_18 : decode cX0_numberBetween 18 = .ok (.invokevirtual 65, 3) := by decide +kernel
theorem dX0_numberBetween_21 : decode cX0_numberBetween 21 = .ok (.iadd, 1) := by decide +kernel
theorem dX0_numberBetween_22 : decode cX0_numberBetween 22 = .ok (.bipush 48, 2) := by decide +kernel
theorem dX0_numberBetween_24 : decode cX0_numberBetween 24 = .ok (.isub, 1) := by decide +kernel
theorem dX0_numberBetween_25 : decode cX0_numberBetween 25 = .ok (.istore_n 3, 1) := by decide +kernel
theorem dX0_numberBetween_26 : decode cX0_numberBetween 26 = .ok (.iinc 4 1, 3) := by decide +kernel
theorem dX0_numberBetween_29 : decode cX0_numberBetween 29 = .ok (.goto (-24), 3) := by decide +kernel
theorem dX0_numberBetween_32 : decode cX0_numberBetween 32 = .ok (.iload_n 3, 1) := by decide +kernel
theorem dX0_numberBetween_33 : decode cX0_numberBetween 33 = .ok (.ireturn, 1) := by decide +kernel
theorem dX0_isAsTold_0 : decode cX0_isAsTold 0 = .ok (.iload_n 1, 1) := by decide +kernel
theorem dX0_isAsTold_1 : decode cX0_isAsTold 1 = .ok (.lookupswitch 183 #[(97, 98), (102, 138), (103, 85), (108, 43)], 43) := by decide +kernel
theorem dX0_isAsTold_44 : decode cX0_isAsTold 44 = .ok (.aload_n 0, 1) := by decide +kernel
theorem dX0_isAsTold_45 : decode cX0_isAsTold 45 = .ok (.getfield 43, 3) := by decide +kernel
theorem dX0_isAsTold_48 : decode cX0_isAsTold 48 = .ok (.iconst 0, 1) := by decide +kernel
theorem dX0_isAsTold_49 : decode cX0_isAsTold 49 = .ok (.iaload, 1) := by decide +kernel
theorem dX0_isAsTold_50 : decode cX0_isAsTold 50 = .ok (.invokestatic 121, 3) := by decide +kernel
theorem dX0_isAsTold_53 : decode cX0_isAsTold 53 = .ok (.ifCond .eq 31, 3) := by decide +kernel
theorem dX0_isAsTold_56 : decode cX0_isAsTold 56 = .ok (.aload_n 0, 1) := by decide +kernel
theorem dX0_isAsTold_57 : decode cX0_isAsTold 57 = .ok (.getfield 43, 3) := by decide +kernel
theorem dX0_isAsTold_60 : decode cX0_isAsTold 60 = .ok (.iconst 1, 1) := by decide +kernel
theorem dX0_isAsTold_61 : decode cX0_isAsTold 61 = .ok (.iaload, 1) := by decide +kernel
theorem dX0_isAsTold_62 : decode cX0_isAsTold 62 = .ok (.invokestatic 124, 3) := by decide +kernel
theorem dX0_isAsTold_65 : decode cX0_isAsTold 65 = .ok (.ifCond .eq 19, 3) := by decide +kernel
theorem dX0_isAsTold_68 : decode cX0_isAsTold 68 = .ok (.aload_n 0, 1) := by decide +kernel
theorem dX0_isAsTold_69 : decode cX0_isAsTold 69 = .ok (.getfield 43, 3) := by decide +kernel
theorem dX0_isAsTold_72 : decode cX0_isAsTold 72 = .ok (.iconst 2, 1) := by decide +kernel
theorem dX0_isAsTold_73 : decode cX0_isAsTold 73 = .ok (.iaload, 1) := by decide +kernel
theorem dX0_isAsTold_74 : decode cX0_isAsTold 74 = .ok (.invokestatic 124, 3) := by decide +kernel
theorem dX0_isAsTold_77 : decode cX0_isAsTold 77 = .ok (.ifCond .eq 7, 3) := by decide +kernel
theorem dX0_isAsTold_80 : decode cX0_isAsTold 80 = .ok (.iconst 1, 1) := by decide +kernel
theorem dX0_isAsTold_81 : decode cX0_isAsTold 81 = .ok (.goto 4, 3) := by decide +kernel
theorem dX0_isAsTold_84 : decode cX0_isAsTold 84 = .ok (.iconst 0, 1) := by decide +kernel
theorem dX0_isAsTold_85 : decode cX0_isAsTold 85 = .ok (.ireturn, 1) := by decide +kernel
theorem dX0_isAsTold_86 : decode cX0_isAsTold 86 = .ok (.iconst 0, 1) := by decide +kernel
theorem dX0_isAsTold_87 : decode cX0_isAsTold 87 = .ok (.aload_n 0, 1) := by decide +kernel
theorem dX0_isAsTold_88 : decode cX0_isAsTold 88 = .ok (.getfield 43, 3) := by decide +kernel
theorem dX0_isAsTold_91 : decode cX0_isAsTold 91 = .ok (.iconst 0, 1) := by decide +kernel
theorem dX0_isAsTold_92 : decode cX0_isAsTold 92 = .ok (.iaload, 1) := by decide +kernel
theorem dX0_isAsTold_93 : decode cX0_isAsTold 93 = .ok (.bipush 30, 2) := by decide +kernel
theorem dX0_isAsTold_95 : decode cX0_isAsTold 95 = .ok (.invokestatic 52, 3) := by decide +kernel
theorem dX0_isAsTold_98 : decode cX0_isAsTold 98 = .ok (.ireturn, 1) := by decide +kernel
theorem dX0_isAsTold_99 : decode cX0_isAsTold 99 = .ok (.iconst 0, 1) := by decide +kernel
theorem dX0_isAsTold_100 : decode cX0_isAsTold 100 = .ok (.aload_n 0, 1) := by decide +kernel
theorem dX0_isAsTold_101 : decode cX0_isAsTold 101 = .ok (.getfield 43, 3) := by decide +kernel
theorem dX0_isAsTold_104 : decode cX0_isAsTold 104 = .ok (.iconst 0, 1) := by decide +kernel
theorem dX0_isAsTold_105 : decode cX0_isAsTold 105 = .ok (.iaload, 1) := by decide +kernel
theorem dX0_isAsTold_106 : decode cX0_isAsTold 106 = .ok (.sipush 900, 3) := by decide +kernel
theorem dX0_isAsTold_109 : decode cX0_isAsTold 109 = .ok (.invokestatic 52, 3) := by decide +kernel
theorem dX0_isAsTold_112 : decode cX0_isAsTold 112 = .ok (.ifCond .eq 25, 3) := by decide +kernel
theorem dX0_isAsTold_115 : decode cX0_isAsTold 115 = .ok (.sipush 300, 3) := by decide +kernel
theorem dX0_isAsTold_118 : decode cX0_isAsTold 118 = .ok (.aload_n 0, 1) := by decide +kernel
theorem dX0_isAsTold_119 : decode cX0_isAsTold 119 = .ok (.getfield 43, 3) := by decide +kernel
theorem dX0_isAsTold_122 : decode cX0_isAsTold 122 = .ok (.iconst 1, 1) := by decide +kernel
theorem dX0_isAsTold_123 : decode cX0_isAsTold 123 = .ok (.iaload, 1) := by decide +kernel
theorem dX0_isAsTold_124 : decode cX0_isAsTold 124 = .ok (.sipush 3000, 3) := by decide +kernel
theorem dX0_isAsTold_127 : decode cX0_isAsTold 127 = .ok (.invokestatic 52, 3) := by decide +kernel
theorem dX0_isAsTold_130 : decode cX0_isAsTold 130 = .ok (.ifCond .eq 7, 3) := by decide +kernel
theorem dX0_isAsTold_133 : decode cX0_isAsTold 133 = .ok (.iconst 1, 1) := by decide +kernel
theorem dX0_isAsTold_134 : decode cX0_isAsTold 134 = .ok (.goto 4, 3) := by decide +kernel
theorem dX0_isAsTold_137 : decode cX0_isAsTold 137 = .ok (.iconst 0, 1) := by decide +kernel
theorem dX0_isAsTold_138 : decode cX0_isAsTold 138 = .ok (.ireturn, 1) := by decide +kernel
theorem dX0_isAsTold_139 : decode cX0_isAsTold 139 = .ok (.iconst 0, 1) := by decide +kernel
theorem dX0_isAsTold_140 : decode cX0_isAsTold 140 = .ok (.aload_n 0, 1) := by decide +kernel
theorem dX0_isAsTold_141 : decode cX0_isAsTold 141 = .ok (.getfield 43, 3) := by decide +kernel
theorem dX0_isAsTold_144 : decode cX0_isAsTold 144 = .ok (.iconst 0, 1) := by decide +kernel
theorem dX0_isAsTold_145 : decode cX0_isAsTold 145 = .ok (.iaload, 1) := by decide +kernel
theorem dX0_isAsTold_146 : decode cX0_isAsTold 146 = .ok (.bipush 7, 2) := by decide +kernel
theorem dX0_isAsTold_148 : decode cX0_isAsTold 148 = .ok (.invokestatic 52, 3) := by decide +kernel
theorem dX0_isAsTold_151 : decode cX0_isAsTold 151 = .ok (.ifCond .eq 31, 3) := by decide +kernel
theorem dX0_isAsTold_154 : decode cX0_isAsTold 154 = .ok (.iconst 0, 1) := by decide +kernel
theorem dX0_isAsTold_155 : decode cX0_isAsTold 155 = .ok (.aload_n 0, 1) := by decide +kernel
theorem dX0_isAsTold_156 : decode cX0_isAsTold 156 = .ok (.getfield 43, 3) := by decide +kernel
theorem dX0_isAsTold_159 : decode cX0_isAsTold 159 = .ok (.iconst 2, 1) := by decide +kernel
theorem dX0_isAsTold_160 : decode cX0_isAsTold 160 = .ok (.iaload, 1) := by decide +kernel
theorem dX0_isAsTold_161 : decode cX0_isAsTold 161 = .ok (.bipush 20, 2) := by decide +kernel
theorem dX0_isAsTold_163 : decode cX0_isAsTold 163 = .ok (.invokestatic 52, 3) := by decide +kernel
theorem dX0_isAsTold_166 : decode cX0_isAsTold 166 = .ok (.ifCond .eq 16, 3) := by decide +kernel
theorem dX0_isAsTold_169 : decode cX0_isAsTold 169 = .ok (.aload_n 0, 1) := by decide +kernel
theorem dX0_isAsTold_170 : decode cX0_isAsTold 170 = .ok (.getfield 34, 3) := by decide +kernel
theorem dX0_isAsTold_173 : decode cX0_isAsTold 173 = .ok (.bipush 8, 2) := by decide +kernel
theorem dX0_isAsTold_175 : decode cX0_isAsTold 175 = .ok (.if_icmp .ge 7, 3) := by decide +kernel
theorem dX0_isAsTold_178 : decode cX0_isAsTold 178 = .ok (.iconst 1, 1) := by decide +kernel
theorem dX0_isAsTold_179 : decode cX0_isAsTold 179 = .ok (.goto 4, 3) := by decide +kernel
theorem dX0_isAsTold_182 : decode cX0_isAsTold 182 = .ok (.iconst 0, 1) := by decide +kernel
theorem dX0_isAsTold_183 : decode cX0_isAsTold 183 = .ok (.ireturn, 1) := by decide +kernel
theorem dX0_isAsTold_184 : decode cX0_isAsTold 184 = .ok (.aload_n 0, 1) := by decide +kernel
theorem dX0_isAsTold_185 : decode cX0_isAsTold 185 = .ok (.getfield 43, 3) := by decide +kernel
theorem dX0_isAsTold_188 : decode cX0_isAsTold 188 = .ok (.iconst 0, 1) := by decide +kernel
theorem dX0_isAsTold_189 : decode cX0_isAsTold 189 = .ok (.iaload, 1) := by decide +kernel
theorem dX0_isAsTold_190 : decode cX0_isAsTold 190 = .ok (.invokestatic 127, 3) := by decide +kernel
theorem dX0_isAsTold_193 : decode cX0_isAsTold 193 = .ok (.ifCond .eq 52, 3) := by decide +kernel
theorem dX0_isAsTold_196 : decode cX0_isAsTold 196 = .ok (.aload_n 0, 1) := by decide +kernel
theorem dX0_isAsTold_197 : decode cX0_isAsTold 197 = .ok (.getfield 43, 3) := by decide +kernel
theorem dX0_isAsTold_200 : decode cX0_isAsTold 200 = .ok (.iconst 1, 1) := by decide +kernel
theorem dX0_isAsTold_201 : decode cX0_isAsTold 201 = .ok (.iaload, 1) := by decide +kernel
theorem dX0_isAsTold_202 : decode cX0_isAsTold 202 = .ok (.invokestatic 127, 3) := by decide +kernel
theorem dX0_isAsTold_205 : decode cX0_isAsTold 205 = .ok (.ifCond .eq 40, 3) := by decide +kernel
theorem dX0_isAsTold_208 : decode cX0_isAsTold 208 = .ok (.aload_n 0, 1) := by decide +kernel
theorem dX0_isAsTold_209 : decode cX0_isAsTold 209 = .ok (.getfield 43, 3) := by decide +kernel
theorem dX0_isAsTold_212 : decode cX0_isAsTold 212 = .ok (.iconst 2, 1) := by decide +kernel
theorem dX0_isAsTold_213 : decode cX0_isAsTold 213 = .ok (.iaload, 1) := by decide +kernel
theorem dX0_isAsTold_214 : decode cX0_isAsTold 214 = .ok (.invokestatic 127, 3) := by decide +kernel
theorem dX0_isAsTold_217 : decode cX0_isAsTold 217 = .ok (.ifCond .eq 28, 3) := by decide +kernel
theorem dX0_isAsTold_220 : decode cX0_isAsTold 220 = .ok (.aload_n 0, 1) := by decide +kernel
theorem dX0_isAsTold_221 : decode cX0_isAsTold 221 = .ok (.getfield 43, 3) := by decide +kernel
theorem dX0_isAsTold_224 : decode cX0_isAsTold 224 = .ok (.iconst 3, 1) := by decide +kernel
theorem dX0_isAsTold_225 : decode cX0_isAsTold 225 = .ok (.iaload, 1) := by decide +kernel
theorem dX0_isAsTold_226 : decode cX0_isAsTold 226 = .ok (.invokestatic 127, 3) := by decide +kernel
theorem dX0_isAsTold_229 : decode cX0_isAsTold 229 = .ok (.ifCond .eq 16, 3) := by decide +kernel
theorem dX0_isAsTold_232 : decode cX0_isAsTold 232 = .ok (.aload_n 0, 1) := by decide +kernel
theorem dX0_isAsTold_233 : decode cX0_isAsTold 233 = .ok (.getfield 40, 3) := by decide +kernel
theorem dX0_isAsTold_236 : decode cX0_isAsTold 236 = .ok (.bipush 6, 2) := by decide +kernel
theorem dX0_isAsTold_238 : decode cX0_isAsTold 238 = .ok (.if_icmp .ge 7, 3) := by decide +kernel
theorem dX0_isAsTold_241 : decode cX0_isAsTold 241 = .ok (.iconst 1, 1) := by decide +kernel
theorem dX0_isAsTold_242 : decode cX0_isAsTold 242 = .ok (.goto 4, 3) := by decide +kernel
theorem dX0_isAsTold_245 : decode cX0_isAsTold 245 = .ok (.iconst 0, 1) := by decide +kernel
theorem dX0_isAsTold_246 : decode cX0_isAsTold 246 = .ok (.ireturn, 1) := by decide +kernel
theorem dX0_takeUp_0 : decode cX0_takeUp 0 = .ok (.iload_n 1, 1) := by decide +kernel
theorem dX0_takeUp_1 : decode cX0_takeUp 1 = .ok (.lookupswitch 163 #[(97, 93), (102, 116), (103, 80), (108, 43)], 43) := by decide +kernel
theorem dX0_takeUp_44 : decode cX0_takeUp 44 = .ok (.aload_n 0, 1) := by decide +kernel
theorem dX0_takeUp_45 : decode cX0_takeUp 45 = .ok (.getfield 9, 3) := by decide +kernel
theorem dX0_takeUp_48 : decode cX0_takeUp 48 = .ok (.aload_n 0, 1) := by decide +kernel
theorem dX0_takeUp_49 : decode cX0_takeUp 49 = .ok (.getfield 43, 3) := by decide +kernel
theorem dX0_takeUp_52 : decode cX0_takeUp 52 = .ok (.iconst 0, 1) := by decide +kernel
theorem dX0_takeUp_53 : decode cX0_takeUp 53 = .ok (.iaload, 1) := by decide +kernel
theorem dX0_takeUp_54 : decode cX0_takeUp 54 = .ok (.aload_n 0, 1) := by decide +kernel
theorem dX0_takeUp_55 : decode cX0_takeUp 55 = .ok (.getfield 43, 3) := by decide +kernel
theorem dX0_takeUp_58 : decode cX0_takeUp 58 = .ok (.iconst 1, 1) := by decide +kernel
theorem dX0_takeUp_59 : decode cX0_takeUp 59 = .ok (.iaload, 1) := by decide +kernel
theorem dX0_takeUp_60 : decode cX0_takeUp 60 = .ok (.iastore, 1) := by decide +kernel
theorem dX0_takeUp_61 : decode cX0_takeUp 61 = .ok (.aload_n 0, 1) := by decide +kernel
theorem dX0_takeUp_62 : decode cX0_takeUp 62 = .ok (.getfield 15, 3) := by decide +kernel
theorem dX0_takeUp_65 : decode cX0_takeUp 65 = .ok (.aload_n 0, 1) := by decide +kernel
theorem dX0_takeUp_66 : decode cX0_takeUp 66 = .ok (.getfield 43, 3) := by decide +kernel
theorem dX0_takeUp_69 : decode cX0_takeUp 69 = .ok (.iconst 0, 1) := by decide +kernel
theorem dX0_takeUp_70 : decode cX0_takeUp 70 = .ok (.iaload, 1) := by decide +kernel
theorem dX0_takeUp_71 : decode cX0_takeUp 71 = .ok (.aload_n 0, 1) := by decide +kernel
theorem dX0_takeUp_72 : decode cX0_takeUp 72 = .ok (.getfield 43, 3) := by decide +kernel
theorem dX0_takeUp_75 : decode cX0_takeUp 75 = .ok (.iconst 2, 1) := by decide +kernel
theorem dX0_takeUp_76 : decode cX0_takeUp 76 = .ok (.iaload, 1) := by decide +kernel
theorem dX0_takeUp_77 : decode cX0_takeUp 77 = .ok (.iastore, 1) := by decide +kernel
theorem dX0_takeUp_78 : decode cX0_takeUp 78 = .ok (.goto 218, 3) := by decide +kernel
theorem dX0_takeUp_81 : decode cX0_takeUp 81 = .ok (.aload_n 0, 1) := by decide +kernel
theorem dX0_takeUp_82 : decode cX0_takeUp 82 = .ok (.aload_n 0, 1) := by decide +kernel
theorem dX0_takeUp_83 : decode cX0_takeUp 83 = .ok (.getfield 43, 3) := by decide +kernel
theorem dX0_takeUp_86 : decode cX0_takeUp 86 = .ok (.iconst 0, 1) := by decide +kernel
theorem dX0_takeUp_87 : decode cX0_takeUp 87 = .ok (.iaload, 1) := by decide +kernel
theorem dX0_takeUp_88 : decode cX0_takeUp 88 = .ok (.putfield 18, 3) := by decide +kernel
theorem dX0_takeUp_91 : decode cX0_takeUp 91 = .ok (.goto 205, 3) := by decide +kernel
theorem dX0_takeUp_94 : decode cX0_takeUp 94 = .ok (.aload_n 0, 1) := by decide +kernel
theorem dX0_takeUp_95 : decode cX0_takeUp 95 = .ok (.aload_n 0, 1) := by decide +kernel
theorem dX0_takeUp_96 : decode cX0_takeUp 96 = .ok (.getfield 43, 3) := by decide +kernel
theorem dX0_takeUp_99 : decode cX0_takeUp 99 = .ok (.iconst 0, 1) := by decide +kernel
theorem dX0_takeUp_100 : decode cX0_takeUp 100 = .ok (.iaload, 1) := by decide +kernel
theorem dX0_takeUp_101 : decode cX0_takeUp 101 = .ok (.putfield 22, 3) := by decide +kernel
theorem dX0_takeUp_104 : decode cX0_takeUp 104 = .ok (.aload_n 0, 1) := by decide +kernel
theorem dX0_takeUp_105 : decode cX0_takeUp 105 = .ok (.aload_n 0, 1) := by decide +kernel
theorem dX0_takeUp_106 : decode cX0_takeUp 106 = .ok (.getfield 43, 3) := by decide +kernel
theorem dX0_takeUp_109 : decode cX0_takeUp 109 = .ok (.iconst 1, 1) := by decide +kernel
theorem dX0_takeUp_110 : decode cX0_takeUp 110 = .ok (.iaload, 1) := by decide +kernel
theorem dX0_takeUp_111 : decode cX0_takeUp 111 = .ok (.putfield 25, 3) := by decide +kernel
theorem dX0_takeUp_114 : decode cX0_takeUp 114 = .ok (.goto 182, 3) := by decide +kernel
theorem dX0_takeUp_117 : decode cX0_takeUp 117 = .ok (.aload_n 0, 1) := by decide +kernel
theorem dX0_takeUp_118 : decode cX0_takeUp 118 = .ok (.getfield 30, 3) := by decide +kernel
theorem dX0_takeUp_121 : decode cX0_takeUp 121 = .ok (.aload_n 0, 1) := by decide +kernel
theorem dX0_takeUp_122 : decode cX0_takeUp 122 = .ok (.getfield 34, 3) := by decide +kernel
theorem dX0_takeUp_125 : decode cX0_takeUp 125 = .ok (.aload_n 0, 1) := by decide +kernel
theorem dX0_takeUp_126 : decode cX0_takeUp 126 = .ok (.getfield 43, 3) := by decide +kernel
theorem dX0_takeUp_129 : decode cX0_takeUp 129 = .ok (.iconst 0, 1) := by decide +kernel
theorem dX0_takeUp_130 : decode cX0_takeUp 130 = .ok (.iaload, 1) := by decide +kernel
theorem dX0_takeUp_131 : decode cX0_takeUp 131 = .ok (.aload_n 0, 1) := by decide +kernel
theorem dX0_takeUp_132 : decode cX0_takeUp 132 = .ok (.getfield 34, 3) := by decide +kernel
theorem dX0_takeUp_135 : decode cX0_takeUp 135 = .ok (.aload_n 0, 1) := by decide +kernel
theorem dX0_takeUp_136 : decode cX0_takeUp 136 = .ok (.getfield 43, 3) := by decide +kernel
theorem dX0_takeUp_139 : decode cX0_takeUp 139 = .ok (.iconst 1, 1) := by decide +kernel
theorem dX0_takeUp_140 : decode cX0_takeUp 140 = .ok (.iaload, 1) := by decide +kernel
theorem dX0_takeUp_141 : decode cX0_takeUp 141 = .ok (.aload_n 0, 1) := by decide +kernel
theorem dX0_takeUp_142 : decode cX0_takeUp 142 = .ok (.getfield 43, 3) := by decide +kernel
theorem dX0_takeUp_145 : decode cX0_takeUp 145 = .ok (.iconst 2, 1) := by decide +kernel
theorem dX0_takeUp_146 : decode cX0_takeUp 146 = .ok (.iaload, 1) := by decide +kernel
theorem dX0_takeUp_147 : decode cX0_takeUp 147 = .ok (.invokestatic 130, 3) := by decide +kernel
theorem dX0_takeUp_150 : decode cX0_takeUp 150 = .ok (.aastore, 1) := by decide +kernel
theorem dX0_takeUp_151 : decode cX0_takeUp 151 = .ok (.aload_n 0, 1) := by decide +kernel
theorem dX0_takeUp_152 : decode cX0_takeUp 152 = .ok (.dup, 1) := by decide +kernel
theorem dX0_takeUp_153 : decode cX0_takeUp 153 = .ok (.getfield 34, 3) := by decide +kernel
theorem dX0_takeUp_156 : decode cX0_takeUp 156 = .ok (.iconst 1, 1) := by decide +kernel
theorem dX0_takeUp_157 : decode cX0_takeUp 157 = .ok (.iadd, 1) := by decide +kernel
theorem dX0_takeUp_158 : decode cX0_takeUp 158 = .ok (.putfield 34, 3) := by decide +kernel
theorem dX0_takeUp_161 : decode cX0_takeUp 161 = .ok (.goto 135, 3) := by decide +kernel
theorem dX0_takeUp_164 : decode cX0_takeUp 164 = .ok (.aload_n 0, 1) := by decide +kernel
theorem dX0_takeUp_165 : decode cX0_takeUp 165 = .ok (.getfield 37, 3) := by decide +kernel
theorem dX0_takeUp_168 : decode cX0_takeUp 168 = .ok (.iconst 4, 1) := by decide +kernel
theorem dX0_takeUp_169 : decode cX0_takeUp 169 = .ok (.aload_n 0, 1) := by decide +kernel
theorem dX0_takeUp_170 : decode cX0_takeUp 170 = .ok (.getfield 40, 3) := by decide +kernel
theorem dX0_takeUp_173 : decode cX0_takeUp 173 = .ok (.imul, 1) := by decide +kernel
theorem dX0_takeUp_174 : decode cX0_takeUp 174 = .ok (.bipush 10, 2) := by decide +kernel
theorem dX0_takeUp_176 : decode cX0_takeUp 176 = .ok (.aload_n 0, 1) := by decide +kernel
theorem dX0_takeUp_177 : decode cX0_takeUp 177 = .ok (.getfield 43, 3) := by decide +kernel
theorem dX0_takeUp_180 : decode cX0_takeUp 180 = .ok (.iconst 0, 1) := by decide +kernel
theorem dX0_takeUp_181 : decode cX0_takeUp 181 = .ok (.iaload, 1) := by decide +kernel
theorem dX0_takeUp_182 : decode cX0_takeUp 182 = .ok (.aload_n 0, 1) := by decide +kernel
theorem dX0_takeUp_183 : decode cX0_takeUp 183 = .ok (.getfield 43, 3) := by decide +kernel
theorem dX0_takeUp_186 : decode cX0_takeUp 186 = .ok (.iconst 2, 1) := by decide +kernel
theorem dX0_takeUp_187 : decode cX0_takeUp 187 = .ok (.iaload, 1) := by decide +kernel
theorem dX0_takeUp_188 : decode cX0_takeUp 188 = .ok (.invokestatic 134, 3) := by decide +kernel
theorem dX0_takeUp_191 : decode cX0_takeUp 191 = .ok (.imul, 1) := by decide +kernel
theorem dX0_takeUp_192 : decode cX0_takeUp 192 = .ok (.iastore, 1) := by decide +kernel
theorem dX0_takeUp_193 : decode cX0_takeUp 193 = .ok (.aload_n 0, 1) := by decide +kernel
theorem dX0_takeUp_194 : decode cX0_takeUp 194 = .ok (.getfield 37, 3) := by decide +kernel
theorem dX0_takeUp_197 : decode cX0_takeUp 197 = .ok (.iconst 4, 1) := by decide +kernel
theorem dX0_takeUp_198 : decode cX0_takeUp 198 = .ok (.aload_n 0, 1) := by decide +kernel
theorem dX0_takeUp_199 : decode cX0_takeUp 199 = .ok (.getfield 40, 3) := by decide +kernel
theorem dX0_takeUp_202 : decode cX0_takeUp 202 = .ok (.imul, 1) := by decide +kernel
theorem dX0_takeUp_203 : decode cX0_takeUp 203 = .ok (.iconst 1, 1) := by decide +kernel
theorem dX0_takeUp_204 : decode cX0_takeUp 204 = .ok (.iadd, 1) := by decide +kernel
theorem dX0_takeUp_205 : decode cX0_takeUp 205 = .ok (.bipush 10, 2) := by decide +kernel
theorem dX0_takeUp_207 : decode cX0_takeUp 207 = .ok (.aload_n 0, 1) := by decide +kernel
theorem dX0_takeUp_208 : decode cX0_takeUp 208 = .ok (.getfield 43, 3) := by decide +kernel
theorem dX0_takeUp_211 : decode cX0_takeUp 211 = .ok (.iconst 1, 1) := by decide +kernel
theorem dX0_takeUp_212 : decode cX0_takeUp 212 = .ok (.iaload, 1) := by decide +kernel
theorem dX0_takeUp_213 : decode cX0_takeUp 213 = .ok (.aload_n 0, 1) := by decide +kernel
theorem dX0_takeUp_214 : decode cX0_takeUp 214 = .ok (.getfield 43, 3) := by decide +kernel
theorem dX0_takeUp_217 : decode cX0_takeUp 217 = .ok (.iconst 3, 1) := by decide +kernel
theorem dX0_takeUp_218 : decode cX0_takeUp 218 = .ok (.iaload, 1) := by decide +kernel
theorem dX0_takeUp_219 : decode cX0_takeUp 219 = .ok (.invokestatic 134, 3) := by decide +kernel
theorem dX0_takeUp_222 : decode cX0_takeUp 222 = .ok (.imul, 1) := by decide +kernel
theorem dX0_takeUp_223 : decode cX0_takeUp 223 = .ok (.iastore, 1) := by decide +kernel
theorem dX0_takeUp_224 : decode cX0_takeUp 224 = .ok (.aload_n 0, 1) := by decide +kernel
theorem dX0_takeUp_225 : decode cX0_takeUp 225 = .ok (.getfield 37, 3) := by decide +kernel
theorem dX0_takeUp_228 : decode cX0_takeUp 228 = .ok (.iconst 4, 1) := by decide +kernel
theorem dX0_takeUp_229 : decode cX0_takeUp 229 = .ok (.aload_n 0, 1) := by decide +kernel
theorem dX0_takeUp_230 : decode cX0_takeUp 230 = .ok (.getfield 40, 3) := by decide +kernel
theorem dX0_takeUp_233 : decode cX0_takeUp 233 = .ok (.imul, 1) := by decide +kernel
theorem dX0_takeUp_234 : decode cX0_takeUp 234 = .ok (.iconst 2, 1) := by decide +kernel
theorem dX0_takeUp_235 : decode cX0_takeUp 235 = .ok (.iadd, 1) := by decide +kernel
theorem dX0_takeUp_236 : decode cX0_takeUp 236 = .ok (.bipush 10, 2) := by decide +kernel
theorem dX0_takeUp_238 : decode cX0_takeUp 238 = .ok (.aload_n 0, 1) := by decide +kernel
theorem dX0_takeUp_239 : decode cX0_takeUp 239 = .ok (.getfield 43, 3) := by decide +kernel
theorem dX0_takeUp_242 : decode cX0_takeUp 242 = .ok (.iconst 0, 1) := by decide +kernel
theorem dX0_takeUp_243 : decode cX0_takeUp 243 = .ok (.iaload, 1) := by decide +kernel
theorem dX0_takeUp_244 : decode cX0_takeUp 244 = .ok (.aload_n 0, 1) := by decide +kernel
theorem dX0_takeUp_245 : decode cX0_takeUp 245 = .ok (.getfield 43, 3) := by decide +kernel
theorem dX0_takeUp_248 : decode cX0_takeUp 248 = .ok (.iconst 2, 1) := by decide +kernel
theorem dX0_takeUp_249 : decode cX0_takeUp 249 = .ok (.iaload, 1) := by decide +kernel
theorem dX0_takeUp_250 : decode cX0_takeUp 250 = .ok (.invokestatic 140, 3) := by decide +kernel
theorem dX0_takeUp_253 : decode cX0_takeUp 253 = .ok (.imul, 1) := by decide +kernel
theorem dX0_takeUp_254 : decode cX0_takeUp 254 = .ok (.iastore, 1) := by decide +kernel
theorem dX0_takeUp_255 : decode cX0_takeUp 255 = .ok (.aload_n 0, 1) := by decide +kernel
theorem dX0_takeUp_256 : decode cX0_takeUp 256 = .ok (.getfield 37, 3) := by decide +kernel
theorem dX0_takeUp_259 : decode cX0_takeUp 259 = .ok (.iconst 4, 1) := by decide +kernel
theorem dX0_takeUp_260 : decode cX0_takeUp 260 = .ok (.aload_n 0, 1) := by decide +kernel
theorem dX0_takeUp_261 : decode cX0_takeUp 261 = .ok (.getfield 40, 3) := by decide +kernel
theorem dX0_takeUp_264 : decode cX0_takeUp 264 = .ok (.imul, 1) := by decide +kernel
theorem dX0_takeUp_265 : decode cX0_takeUp 265 = .ok (.iconst 3, 1) := by decide +kernel
theorem dX0_takeUp_266 : decode cX0_takeUp 266 = .ok (.iadd, 1) := by decide +kernel
theorem dX0_takeUp_267 : decode cX0_takeUp 267 = .ok (.bipush 10, 2) := by decide +kernel
theorem dX0_takeUp_269 : decode cX0_takeUp 269 = .ok (.aload_n 0, 1) := by decide +kernel
theorem dX0_takeUp_270 : decode cX0_takeUp 270 = .ok (.getfield 43, 3) := by decide +kernel
theorem dX0_takeUp_273 : decode cX0_takeUp 273 = .ok (.iconst 1, 1) := by decide +kernel
theorem dX0_takeUp_274 : decode cX0_takeUp 274 = .ok (.iaload, 1) := by decide +kernel
theorem dX0_takeUp_275 : decode cX0_takeUp 275 = .ok (.aload_n 0, 1) := by decide +kernel
theorem dX0_takeUp_276 : decode cX0_takeUp 276 = .ok (.getfield 43, 3) := by decide +kernel
theorem dX0_takeUp_279 : decode cX0_takeUp 279 = .ok (.iconst 3, 1) := by decide +kernel
theorem dX0_takeUp_280 : decode cX0_takeUp 280 = .ok (.iaload, 1) := by decide +kernel
theorem dX0_takeUp_281 : decode cX0_takeUp 281 = .ok (.invokestatic 140, 3) := by decide +kernel
theorem dX0_takeUp_284 : decode cX0_takeUp 284 = .ok (.imul, 1) := by decide +kernel
theorem dX0_takeUp_285 : decode cX0_takeUp 285 = .ok (.iastore, 1) := by decide +kernel
theorem dX0_takeUp_286 : decode cX0_takeUp 286 = .ok (.aload_n 0, 1) := by decide +kernel
theorem dX0_takeUp_287 : decode cX0_takeUp 287 = .ok (.dup, 1) := by decide +kernel
theorem dX0_takeUp_288 : decode cX0_takeUp 288 = .ok (.getfield 40, 3) := by decide +kernel
theorem dX0_takeUp_291 : decode cX0_takeUp 291 = .ok (.iconst 1, 1) := by decide +kernel
theorem dX0_takeUp_292 : decode cX0_takeUp 292 = .ok (.iadd, 1) := by decide +kernel
theorem dX0_takeUp_293 : decode cX0_takeUp 293 = .ok (.putfield 40, 3) := by decide +kernel
theorem dX0_takeUp_296 : decode cX0_takeUp 296 = .ok (.return_, 1) := by decide +kernel
theorem dX0_isWind_0 : decode cX0_isWind 0 = .ok (.bipush (-90), 2) := by decide +kernel
theorem dX0_isWind_2 : decode cX0_isWind 2 = .ok (.iload_n 0, 1) := by decide +kernel
theorem dX0_isWind_3 : decode cX0_isWind 3 = .ok (.bipush 90, 2) := by decide +kernel
theorem dX0_isWind_5 : decode cX0_isWind 5 = .ok (.invokestatic 52, 3) := by decide +kernel
theorem dX0_isWind_8 : decode cX0_isWind 8 = .ok (.ireturn, 1) := by decide +kernel
theorem dX0_isYards_0 : decode cX0_isYards 0 = .ok (.sipush (-3000), 3) := by decide +kernel
theorem dX0_isYards_3 : decode cX0_isYards 3 = .ok (.iload_n 0, 1) := by decide +kernel
theorem dX0_isYards_4 : decode cX0_isYards 4 = .ok (.sipush 3000, 3) := by decide +kernel
theorem dX0_isYards_7 : decode cX0_isYards 7 = .ok (.invokestatic 52, 3) := by decide +kernel
theorem dX0_isYards_10 : decode cX0_isYards 10 = .ok (.ireturn, 1) := by decide +kernel
theorem dX1_init_0 : decode cX1_init 0 = .ok (.aload_n 0, 1) := by decide +kernel
theorem dX1_init_1 : decode cX1_init 1 = .ok (.iload_n 1, 1) := by decide +kernel
theorem dX1_init_2 : decode cX1_init 2 = .ok (.iload_n 2, 1) := by decide +kernel
theorem dX1_init_3 : decode cX1_init 3 = .ok (.iload_n 3, 1) := by decide +kernel
theorem dX1_init_4 : decode cX1_init 4 = .ok (.invokespecial 1, 3) := by decide +kernel
theorem dX1_init_7 : decode cX1_init 7 = .ok (.aload_n 0, 1) := by decide +kernel
theorem dX1_init_8 : decode cX1_init 8 = .ok (.iconst 5, 1) := by decide +kernel
theorem dX1_init_9 : decode cX1_init 9 = .ok (.putfield 7, 3) := by decide +kernel
theorem dX1_init_12 : decode cX1_init 12 = .ok (.aload_n 0, 1) := by decide +kernel
theorem dX1_init_13 : decode cX1_init 13 = .ok (.dup, 1) := by decide +kernel
theorem dX1_init_14 : decode cX1_init 14 = .ok (.getfield 13, 3) := by decide +kernel
theorem dX1_init_17 : decode cX1_init 17 = .ok (.iconst 2, 1) := by decide +kernel
theorem dX1_init_18 : decode cX1_init 18 = .ok (.isub, 1) := by decide +kernel
theorem dX1_init_19 : decode cX1_init 19 = .ok (.putfield 13, 3) := by decide +kernel
theorem dX1_init_22 : decode cX1_init 22 = .ok (.aload_n 0, 1) := by decide +kernel
theorem dX1_init_23 : decode cX1_init 23 = .ok (.dup, 1) := by decide +kernel
theorem dX1_init_24 : decode cX1_init 24 = .ok (.getfield 16, 3) := by decide +kernel
theorem dX1_init_27 : decode cX1_init 27 = .ok (.bipush 10, 2) := by decide +kernel
theorem dX1_init_29 : decode cX1_init 29 = .ok (.iadd, 1) := by decide +kernel
theorem dX1_init_30 : decode cX1_init 30 = .ok (.putfield 16, 3) := by decide +kernel
theorem dX1_init_33 : decode cX1_init 33 = .ok (.aload_n 0, 1) := by decide +kernel
theorem dX1_init_34 : decode cX1_init 34 = .ok (.dup, 1) := by decide +kernel
theorem dX1_init_35 : decode cX1_init 35 = .ok (.getfield 19, 3) := by decide +kernel
theorem dX1_init_38 : decode cX1_init 38 = .ok (.iconst 3, 1) := by decide +kernel
theorem dX1_init_39 : decode cX1_init 39 = .ok (.iadd, 1) := by decide +kernel
theorem dX1_init_40 : decode cX1_init 40 = .ok (.putfield 19, 3) := by decide +kernel
theorem dX1_init_43 : decode cX1_init 43 = .ok (.return_, 1) := by decide +kernel
theorem dX1_steersAlongX_0 : decode cX1_steersAlongX 0 = .ok (.iload 4, 2) := by decide +kernel
theorem dX1_steersAlongX_2 : decode cX1_steersAlongX 2 = .ok (.invokestatic 22, 3) := by decide +kernel
theorem dX1_steersAlongX_5 : decode cX1_steersAlongX 5 = .ok (.iload_n 3, 1) := by decide +kernel
theorem dX1_steersAlongX_6 : decode cX1_steersAlongX 6 = .ok (.invokestatic 22, 3) := by decide +kernel
theorem dX1_steersAlongX_9 : decode cX1_steersAlongX 9 = .ok (.if_icmp .le 7, 3) := by decide +kernel
theorem dX1_steersAlongX_12 : decode cX1_steersAlongX 12 = .ok (.iconst 1, 1) := by decide +kernel
theorem dX1_steersAlongX_13 : decode cX1_steersAlongX 13 = .ok (.goto 4, 3) := by decide +kernel
theorem dX1_steersAlongX_16 : decode cX1_steersAlongX 16 = .ok (.iconst 0, 1) := by decide +kernel
theorem dX1_steersAlongX_17 : decode cX1_steersAlongX 17 = .ok (.ireturn, 1) := by decide +kernel
theorem dX1_fail_0 : decode cX1_fail 0 = .ok (.aload_n 0, 1) := by decide +kernel
theorem dX1_fail_1 : decode cX1_fail 1 = .ok (.getfield 28, 3) := by decide +kernel
theorem dX1_fail_4 : decode cX1_fail 4 = .ok (.ifCond .eq 13, 3) := by decide +kernel
theorem dX1_fail_7 : decode cX1_fail 7 = .ok (.new 31, 3) := by decide +kernel
theorem dX1_fail_10 : decode cX1_fail 10 = .ok (.dup, 1) := by decide +kernel
theorem dX1_fail_11 : decode cX1_fail 11 = .ok (.ldc 33, 2) := by decide +kernel
theorem dX1_fail_13 : decode cX1_fail 13 = .ok (.invokespecial 35, 3) := by decide +kernel
theorem dX1_fail_16 : decode cX1_fail 16 = .ok (.athrow, 1) := by decide +kernel
theorem dX1_fail_17 : decode cX1_fail 17 = .ok (.return_, 1) := by decide +kernel
theorem dX2_init_0 : decode cX2_init 0 = .ok (.aload_n 0, 1) := by decide +kernel
theorem dX2_init_1 : decode cX2_init 1 = .ok (.iload_n 1, 1) := by decide +kernel
theorem dX2_init_2 : decode cX2_init 2 = .ok (.iload_n 2, 1) := by decide +kernel
theorem dX2_init_3 : decode cX2_init 3 = .ok (.iload_n 3, 1) := by decide +kernel
theorem dX2_init_4 : decode cX2_init 4 = .ok (.invokespecial 1, 3) := by decide +kernel
theorem dX2_init_7 : decode cX2_init 7 = .ok (.aload_n 0, 1) := by decide +kernel
theorem dX2_init_8 : decode cX2_init 8 = .ok (.bipush 6, 2) := by decide +kernel
theorem dX2_init_10 : decode cX2_init 10 = .ok (.putfield 7, 3) := by decide +kernel
theorem dX2_init_13 : decode cX2_init 13 = .ok (.aload_n 0, 1) := by decide +kernel
theorem dX2_init_14 : decode cX2_init 14 = .ok (.dup, 1) := by decide +kernel
theorem dX2_init_15 : decode cX2_init 15 = .ok (.getfield 13, 3) := by decide +kernel
theorem dX2_init_18 : decode cX2_init 18 = .ok (.iconst 2, 1) := by decide +kernel
theorem dX2_init_19 : decode cX2_init 19 = .ok (.iadd, 1) := by decide +kernel
theorem dX2_init_20 : decode cX2_init 20 = .ok (.putfield 13, 3) := by decide +kernel
theorem dX2_init_23 : decode cX2_init 23 = .ok (.aload_n 0, 1) := by decide +kernel
theorem dX2_init_24 : decode cX2_init 24 = .ok (.dup, 1) := by decide +kernel
theorem dX2_init_25 : decode cX2_init 25 = .ok (.getfield 16, 3) := by decide +kernel
theorem dX2_init_28 : decode cX2_init 28 = .ok (.iload_n 2, 1) := by decide +kernel
theorem dX2_init_29 : decode cX2_init 29 = .ok (.iconst 3, 1) := by decide +kernel
theorem dX2_init_30 : decode cX2_init 30 = .ok (.imul, 1) := by decide +kernel
theorem dX2_init_31 : decode cX2_init 31 = .ok (.iadd, 1) := by decide +kernel
theorem dX2_init_32 : decode cX2_init 32 = .ok (.putfield 16, 3) := by decide +kernel
theorem dX2_init_35 : decode cX2_init 35 = .ok (.aload_n 0, 1) := by decide +kernel
theorem dX2_init_36 : decode cX2_init 36 = .ok (.dup, 1) := by decide +kernel
theorem dX2_init_37 : decode cX2_init 37 = .ok (.getfield 19, 3) := by decide +kernel
theorem dX2_init_40 : decode cX2_init 40 = .ok (.iload_n 2, 1) := by decide +kernel
theorem dX2_init_41 : decode cX2_init 41 = .ok (.imul, 1) := by decide +kernel
theorem dX2_init_42 : decode cX2_init 42 = .ok (.putfield 19, 3) := by decide +kernel
theorem dX2_init_45 : decode cX2_init 45 = .ok (.return_, 1) := by decide +kernel
theorem dX2_steersAlongX_0 : decode cX2_steersAlongX 0 = .ok (.iload_n 3, 1) := by decide +kernel
theorem dX2_steersAlongX_1 : decode cX2_steersAlongX 1 = .ok (.invokestatic 22, 3) := by decide +kernel
theorem dX2_steersAlongX_4 : decode cX2_steersAlongX 4 = .ok (.iload 4, 2) := by decide +kernel
theorem dX2_steersAlongX_6 : decode cX2_steersAlongX 6 = .ok (.invokestatic 22, 3) := by decide +kernel
theorem dX2_steersAlongX_9 : decode cX2_steersAlongX 9 = .ok (.if_icmp .lt 7, 3) := by decide +kernel
theorem dX2_steersAlongX_12 : decode cX2_steersAlongX 12 = .ok (.iconst 1, 1) := by decide +kernel
theorem dX2_steersAlongX_13 : decode cX2_steersAlongX 13 = .ok (.goto 4, 3) := by decide +kernel
theorem dX2_steersAlongX_16 : decode cX2_steersAlongX 16 = .ok (.iconst 0, 1) := by decide +kernel
theorem dX2_steersAlongX_17 : decode cX2_steersAlongX 17 = .ok (.ireturn, 1) := by decide +kernel
theorem dX2_stepAlong_0 : decode cX2_stepAlong 0 = .ok (.iload_n 2, 1) := by decide +kernel
theorem dX2_stepAlong_1 : decode cX2_stepAlong 1 = .ok (.invokestatic 28, 3) := by decide +kernel
theorem dX2_stepAlong_4 : decode cX2_stepAlong 4 = .ok (.aload_n 0, 1) := by decide +kernel
theorem dX2_stepAlong_5 : decode cX2_stepAlong 5 = .ok (.getfield 16, 3) := by decide +kernel
theorem dX2_stepAlong_8 : decode cX2_stepAlong 8 = .ok (.imul, 1) := by decide +kernel
theorem dX2_stepAlong_9 : decode cX2_stepAlong 9 = .ok (.ireturn, 1) := by decide +kernel
theorem dX3_init_0 : decode cX3_init 0 = .ok (.aload_n 0, 1) := by decide +kernel
theorem dX3_init_1 : decode cX3_init 1 = .ok (.invokespecial 3, 3) := by decide +kernel
theorem dX3_init_4 : decode cX3_init 4 = .ok (.aload_n 0, 1) := by decide +kernel
theorem dX3_init_5 : decode cX3_init 5 = .ok (.new 9, 3) := by decide +kernel
theorem dX3_init_8 : decode cX3_init 8 = .ok (.dup, 1) := by decide +kernel
theorem dX3_init_9 : decode cX3_init 9 = .ok (.iconst 0, 1) := by decide +kernel
theorem dX3_init_10 : decode cX3_init 10 = .ok (.iconst 0, 1) := by decide +kernel
theorem dX3_init_11 : decode cX3_init 11 = .ok (.iconst 0, 1) := by decide +kernel
theorem dX3_init_12 : decode cX3_init 12 = .ok (.invokespecial 11, 3) := by decide +kernel
theorem dX3_init_15 : decode cX3_init 15 = .ok (.putfield 14, 3) := by decide +kernel
theorem dX3_init_18 : decode cX3_init 18 = .ok (.aload_n 0, 1) := by decide +kernel
theorem dX3_init_19 : decode cX3_init 19 = .ok (.iconst 0, 1) := by decide +kernel
theorem dX3_init_20 : decode cX3_init 20 = .ok (.putfield 20, 3) := by decide +kernel
theorem dX3_init_23 : decode cX3_init 23 = .ok (.aload_n 0, 1) := by decide +kernel
theorem dX3_init_24 : decode cX3_init 24 = .ok (.iconst 0, 1) := by decide +kernel
theorem dX3_init_25 : decode cX3_init 25 = .ok (.putfield 24, 3) := by decide +kernel
theorem dX3_init_28 : decode cX3_init 28 = .ok (.aload_n 0, 1) := by decide +kernel
theorem dX3_init_29 : decode cX3_init 29 = .ok (.iconst 0, 1) := by decide +kernel
theorem dX3_init_30 : decode cX3_init 30 = .ok (.putfield 27, 3) := by decide +kernel
theorem dX3_init_33 : decode cX3_init 33 = .ok (.aload_n 0, 1) := by decide +kernel
theorem dX3_init_34 : decode cX3_init 34 = .ok (.iconst 0, 1) := by decide +kernel
theorem dX3_init_35 : decode cX3_init 35 = .ok (.putfield 30, 3) := by decide +kernel
theorem dX3_init_38 : decode cX3_init 38 = .ok (.aload_n 0, 1) := by decide +kernel
theorem dX3_init_39 : decode cX3_init 39 = .ok (.iconst 0, 1) := by decide +kernel
theorem dX3_init_40 : decode cX3_init 40 = .ok (.putfield 33, 3) := by decide +kernel
theorem dX3_init_43 : decode cX3_init 43 = .ok (.aload_n 0, 1) := by decide +kernel
theorem dX3_init_44 : decode cX3_init 44 = .ok (.iconst 0, 1) := by decide +kernel
theorem dX3_init_45 : decode cX3_init 45 = .ok (.putfield 36, 3) := by decide +kernel
theorem dX3_init_48 : decode cX3_init 48 = .ok (.aload_n 0, 1) := by decide +kernel
theorem dX3_init_49 : decode cX3_init 49 = .ok (.iconst 0, 1) := by decide +kernel
theorem dX3_init_50 : decode cX3_init 50 = .ok (.putfield 39, 3) := by decide +kernel
theorem dX3_init_53 : decode cX3_init 53 = .ok (.aload_n 0, 1) := by decide +kernel
theorem dX3_init_54 : decode cX3_init 54 = .ok (.iconst 0, 1) := by decide +kernel
theorem dX3_init_55 : decode cX3_init 55 = .ok (.putfield 42, 3) := by decide +kernel
theorem dX3_init_58 : decode cX3_init 58 = .ok (.aload_n 0, 1) := by decide +kernel
theorem dX3_init_59 : decode cX3_init 59 = .ok (.iconst 0, 1) := by decide +kernel
theorem dX3_init_60 : decode cX3_init 60 = .ok (.putfield 46, 3) := by decide +kernel
theorem dX3_init_63 : decode cX3_init 63 = .ok (.aload_n 0, 1) := by decide +kernel
theorem dX3_init_64 : decode cX3_init 64 = .ok (.iconst 0, 1) := by decide +kernel
theorem dX3_init_65 : decode cX3_init 65 = .ok (.putfield 49, 3) := by decide +kernel
theorem dX3_init_68 : decode cX3_init 68 = .ok (.aload_n 0, 1) := by decide +kernel
theorem dX3_init_69 : decode cX3_init 69 = .ok (.aload_n 1, 1) := by decide +kernel
theorem dX3_init_70 : decode cX3_init 70 = .ok (.putfield 52, 3) := by decide +kernel
theorem dX3_init_73 : decode cX3_init 73 = .ok (.return_, 1) := by decide +kernel
theorem dX3_held_0 : decode cX3_held 0 = .ok (.sipush (-30000), 3) := by decide +kernel
theorem dX3_held_3 : decode cX3_held 3 = .ok (.iload_n 0, 1) := by decide +kernel
theorem dX3_held_4 : decode cX3_held 4 = .ok (.sipush 30000, 3) := by decide +kernel
theorem dX3_held_7 : decode cX3_held 7 = .ok (.invokestatic 56, 3) := by decide +kernel
theorem dX3_held_10 : decode cX3_held 10 = .ok (.invokestatic 62, 3) := by decide +kernel
theorem dX3_held_13 : decode cX3_held 13 = .ok (.ireturn, 1) := by decide +kernel
theorem dX3_begin_0 : decode cX3_begin 0 = .ok (.aload_n 0, 1) := by decide +kernel
theorem dX3_begin_1 : decode cX3_begin 1 = .ok (.aload_n 1, 1) := by decide +kernel
theorem dX3_begin_2 : decode cX3_begin 2 = .ok (.putfield 14, 3) := by decide +kernel
theorem dX3_begin_5 : decode cX3_begin 5 = .ok (.aload_n 0, 1) := by decide +kernel
theorem dX3_begin_6 : decode cX3_begin 6 = .ok (.iload_n 2, 1) := by decide +kernel
theorem dX3_begin_7 : decode cX3_begin 7 = .ok (.putfield 20, 3) := by decide +kernel
theorem dX3_begin_10 : decode cX3_begin 10 = .ok (.aload_n 0, 1) := by decide +kernel
theorem dX3_begin_11 : decode cX3_begin 11 = .ok (.iload_n 3, 1) := by decide +kernel
theorem dX3_begin_12 : decode cX3_begin 12 = .ok (.putfield 24, 3) := by decide +kernel
theorem dX3_begin_15 : decode cX3_begin 15 = .ok (.aload_n 0, 1) := by decide +kernel
theorem dX3_begin_16 : decode cX3_begin 16 = .ok (.iload 4, 2) := by decide +kernel
theorem dX3_begin_18 : decode cX3_begin 18 = .ok (.putfield 39, 3) := by decide +kernel
theorem dX3_begin_21 : decode cX3_begin 21 = .ok (.aload_n 0, 1) := by decide +kernel
theorem dX3_begin_22 : decode cX3_begin 22 = .ok (.aload_n 0, 1) := by decide +kernel
theorem dX3_begin_23 : decode cX3_begin 23 = .ok (.getfield 52, 3) := by decide +kernel
theorem dX3_begin_26 : decode cX3_begin 26 = .ok (.getfield 65, 3) := by decide +kernel
theorem dX3_begin_29 : decode cX3_begin 29 = .ok (.putfield 27, 3) := by decide +kernel
theorem dX3_begin_32 : decode cX3_begin 32 = .ok (.aload_n 0, 1) := by decide +kernel
theorem dX3_begin_33 : decode cX3_begin 33 = .ok (.aload_n 0, 1) := by decide +kernel
theorem dX3_begin_34 : decode cX3_begin 34 = .ok (.getfield 52, 3) := by decide +kernel
theorem dX3_begin_37 : decode cX3_begin 37 = .ok (.getfield 70, 3) := by decide +kernel
theorem dX3_begin_40 : decode cX3_begin 40 = .ok (.putfield 33, 3) := by decide +kernel
theorem dX3_begin_43 : decode cX3_begin 43 = .ok (.aload_n 0, 1) := by decide +kernel
theorem dX3_begin_44 : decode cX3_begin 44 = .ok (.aload_n 1, 1) := by decide +kernel
theorem dX3_begin_45 : decode cX3_begin 45 = .ok (.getfield 71, 3) := by decide +kernel
theorem dX3_begin_48 : decode cX3_begin 48 = .ok (.putfield 36, 3) := by decide +kernel
theorem dX3_begin_51 : decode cX3_begin 51 = .ok (.aload_n 0, 1) := by decide +kernel
theorem dX3_begin_52 : decode cX3_begin 52 = .ok (.iconst 0, 1) := by decide +kernel
theorem dX3_begin_53 : decode cX3_begin 53 = .ok (.putfield 30, 3) := by decide +kernel
theorem dX3_begin_56 : decode cX3_begin 56 = .ok (.aload_n 0, 1) := by decide +kernel
theorem dX3_begin_57 : decode cX3_begin 57 = .ok (.iconst 0, 1) := by decide +kernel
theorem dX3_begin_58 : decode cX3_begin 58 = .ok (.putfield 42, 3) := by decide +kernel
theorem dX3_begin_61 : decode cX3_begin 61 = .ok (.return_, 1) := by decide +kernel
theorem dX3_holdWay_0 : decode cX3_holdWay 0 = .ok (.aload_n 0, 1) := by decide +kernel
theorem dX3_holdWay_1 : decode cX3_holdWay 1 = .ok (.iconst 1, 1) := by decide +kernel
theorem dX3_holdWay_2 : decode cX3_holdWay 2 = .ok (.putfield 42, 3) := by decide +kernel
theorem dX3_holdWay_5 : decode cX3_holdWay 5 = .ok (.aload_n 0, 1) := by decide +kernel
theorem dX3_holdWay_6 : decode cX3_holdWay 6 = .ok (.iload_n 1, 1) := by decide +kernel
theorem dX3_holdWay_7 : decode cX3_holdWay 7 = .ok (.putfield 46, 3) := by decide +kernel
theorem dX3_holdWay_10 : decode cX3_holdWay 10 = .ok (.aload_n 0, 1) := by decide +kernel
theorem dX3_holdWay_11 : decode cX3_holdWay 11 = .ok (.iload_n 2, 1) := by decide +kernel
theorem dX3_holdWay_12 : decode cX3_holdWay 12 = .ok (.putfield 49, 3) := by decide +kernel
theorem dX3_holdWay_15 : decode cX3_holdWay 15 = .ok (.return_, 1) := by decide +kernel
theorem dX3_openAt_0 : decode cX3_openAt 0 = .ok (.aload_n 0, 1) := by decide +kernel
theorem dX3_openAt_1 : decode cX3_openAt 1 = .ok (.iload_n 1, 1) := by decide +kernel
theorem dX3_openAt_2 : decode cX3_openAt 2 = .ok (.putfield 27, 3) := by decide +kernel
theorem dX3_openAt_5 : decode cX3_openAt 5 = .ok (.aload_n 0, 1) := by decide +kernel
theorem dX3_openAt_6 : decode cX3_openAt 6 = .ok (.iconst 0, 1) := by decide +kernel
theorem dX3_openAt_7 : decode cX3_openAt 7 = .ok (.putfield 36, 3) := by decide +kernel
theorem dX3_openAt_10 : decode cX3_openAt 10 = .ok (.return_, 1) := by decide +kernel
theorem dX3_hasLanded_0 : decode cX3_hasLanded 0 = .ok (.aload_n 0, 1) := by decide +kernel
theorem dX3_hasLanded_1 : decode cX3_hasLanded 1 = .ok (.getfield 27, 3) := by decide +kernel
theorem dX3_hasLanded_4 : decode cX3_hasLanded 4 = .ok (.ifCond .gt 7, 3) := by decide +kernel
theorem dX3_hasLanded_7 : decode cX3_hasLanded 7 = .ok (.iconst 1, 1) := by decide +kernel
theorem dX3_hasLanded_8 : decode cX3_hasLanded 8 = .ok (.goto 4, 3) := by decide +kernel
theorem dX3_hasLanded_11 : decode cX3_hasLanded 11 = .ok (.iconst 0, 1) := by decide +kernel
theorem dX3_hasLanded_12 : decode cX3_hasLanded 12 = .ok (.ireturn, 1) := by decide +kernel
theorem dX3_land_0 : decode cX3_land 0 = .ok (.aload_n 0, 1) := by decide +kernel
theorem dX3_land_1 : decode cX3_land 1 = .ok (.sipush 400, 3) := by decide +kernel
theorem dX3_land_4 : decode cX3_land 4 = .ok (.invokevirtual 72, 3) := by decide +kernel
theorem dX3_land_7 : decode cX3_land 7 = .ok (.return_, 1) := by decide +kernel
theorem dX3_offFrom_0 : decode cX3_offFrom 0 = .ok (.aload_n 0, 1) := by decide +kernel
theorem dX3_offFrom_1 : decode cX3_offFrom 1 = .ok (.aload_n 1, 1) := by decide +kernel
theorem dX3_offFrom_2 : decode cX3_offFrom 2 = .ok (.iload_n 2, 1) := by decide +kernel
theorem dX3_offFrom_3 : decode cX3_offFrom 3 = .ok (.iload_n 3, 1) := by decide +kernel
theorem dX3_offFrom_4 : decode cX3_offFrom 4 = .ok (.iconst 1, 1) := by decide +kernel
theorem dX3_offFrom_5 : decode cX3_offFrom 5 = .ok (.invokevirtual 76, 3) := by decide +kernel
theorem dX3_offFrom_8 : decode cX3_offFrom 8 = .ok (.aload_n 0, 1) := by decide +kernel
theorem dX3_offFrom_9 : decode cX3_offFrom 9 = .ok (.sipush 400, 3) := by decide +kernel
theorem dX3_offFrom_12 : decode cX3_offFrom 12 = .ok (.invokevirtual 72, 3) := by decide +kernel
theorem dX3_offFrom_15 : decode cX3_offFrom 15 = .ok (.aload_n 0, 1) := by decide +kernel
theorem dX3_offFrom_16 : decode cX3_offFrom 16 = .ok (.invokevirtual 80, 3) := by decide +kernel
theorem dX3_offFrom_19 : decode cX3_offFrom 19 = .ok (.ireturn, 1) := by decide +kernel
theorem dX3_goOn_0 : decode cX3_goOn 0 = .ok (.iconst 0, 1) := by decide +kernel
theorem dX3_goOn_1 : decode cX3_goOn 1 = .ok (.istore_n 2, 1) := by decide +kernel
theorem dX3_goOn_2 : decode cX3_goOn 2 = .ok (.iload_n 2, 1) := by decide +kernel
theorem dX3_goOn_3 : decode cX3_goOn 3 = .ok (.iload_n 1, 1) := by decide +kernel
theorem dX3_goOn_4 : decode cX3_goOn 4 = .ok (.if_icmp .ge 149, 3) := by decide +kernel
theorem dX3_goOn_7 : decode cX3_goOn 7 = .ok (.aload_n 0, 1) := by decide +kernel
theorem dX3_goOn_8 : decode cX3_goOn 8 = .ok (.getfield 27, 3) := by decide +kernel
theorem dX3_goOn_11 : decode cX3_goOn 11 = .ok (.ifCond .le 142, 3) := by decide +kernel
theorem dX3_goOn_14 : decode cX3_goOn 14 = .ok (.iconst 0, 1) := by decide +kernel
theorem dX3_goOn_15 : decode cX3_goOn 15 = .ok (.aload_n 0, 1) := by decide +kernel
theorem dX3_goOn_16 : decode cX3_goOn 16 = .ok (.getfield 27, 3) := by decide +kernel
theorem dX3_goOn_19 : decode cX3_goOn 19 = .ok (.sipush 300, 3) := by decide +kernel
theorem dX3_goOn_22 : decode cX3_goOn 22 = .ok (.idiv, 1) := by decide +kernel
theorem dX3_goOn_23 : decode cX3_goOn 23 = .ok (.bipush 9, 2) := by decide +kernel
theorem dX3_goOn_25 : decode cX3_goOn 25 = .ok (.invokestatic 56, 3) := by decide +kernel
theorem dX3_goOn_28 : decode cX3_goOn 28 = .ok (.invokestatic 62, 3) := by decide +kernel
theorem dX3_goOn_31 : decode cX3_goOn 31 = .ok (.istore_n 3, 1) := by decide +kernel
theorem dX3_goOn_32 : decode cX3_goOn 32 = .ok (.aload_n 0, 1) := by decide +kernel
theorem dX3_goOn_33 : decode cX3_goOn 33 = .ok (.getfield 30, 3) := by decide +kernel
theorem dX3_goOn_36 : decode cX3_goOn 36 = .ok (.aload_n 0, 1) := by decide +kernel
theorem dX3_goOn_37 : decode cX3_goOn 37 = .ok (.getfield 36, 3) := by decide +kernel
theorem dX3_goOn_40 : decode cX3_goOn 40 = .ok (.if_icmp .ge 28, 3) := by decide +kernel
theorem dX3_goOn_43 : decode cX3_goOn 43 = .ok (.aload_n 0, 1) := by decide +kernel
theorem dX3_goOn_44 : decode cX3_goOn 44 = .ok (.aload_n 0, 1) := by decide +kernel
theorem dX3_goOn_45 : decode cX3_goOn 45 = .ok (.getfield 52, 3) := by decide +kernel
theorem dX3_goOn_48 : decode cX3_goOn 48 = .ok (.getfield 84, 3) := by decide +kernel
theorem dX3_goOn_51 : decode cX3_goOn 51 = .ok (.iload_n 3, 1) := by decide +kernel
theorem dX3_goOn_52 : decode cX3_goOn 52 = .ok (.iaload, 1) := by decide +kernel
theorem dX3_goOn_53 : decode cX3_goOn 53 = .ok (.aload_n 0, 1) := by decide +kernel
theorem dX3_goOn_54 : decode cX3_goOn 54 = .ok (.getfield 52, 3) := by decide +kernel
theorem dX3_goOn_57 : decode cX3_goOn 57 = .ok (.getfield 88, 3) := by decide +kernel
theorem dX3_goOn_60 : decode cX3_goOn 60 = .ok (.iload_n 3, 1) := by decide +kernel
theorem dX3_goOn_61 : decode cX3_goOn 61 = .ok (.iaload, 1) := by decide +kernel
theorem dX3_goOn_62 : decode cX3_goOn 62 = .ok (.invokevirtual 91, 3) := by decide +kernel
theorem dX3_goOn_65 : decode cX3_goOn 65 = .ok (.goto 38, 3) := by decide +kernel
theorem dX3_goOn_68 : decode cX3_goOn 68 = .ok (.aload_n 0, 1) := by decide +kernel
theorem dX3_goOn_69 : decode cX3_goOn 69 = .ok (.aload_n 0, 1) := by decide +kernel
theorem dX3_goOn_70 : decode cX3_goOn 70 = .ok (.getfield 52, 3) := by decide +kernel
theorem dX3_goOn_73 : decode cX3_goOn 73 = .ok (.getfield 84, 3) := by decide +kernel
theorem dX3_goOn_76 : decode cX3_goOn 76 = .ok (.iload_n 3, 1) := by decide +kernel
theorem dX3_goOn_77 : decode cX3_goOn 77 = .ok (.iaload, 1) := by decide +kernel
theorem dX3_goOn_78 : decode cX3_goOn 78 = .ok (.iload_n 3, 1) := by decide +kernel
theorem dX3_goOn_79 : decode cX3_goOn 79 = .ok (.ifCond .ne 10, 3) := by decide +kernel
theorem dX3_goOn_82 : decode cX3_goOn 82 = .ok (.aload_n 0, 1) := by decide +kernel
theorem dX3_goOn_83 : decode cX3_goOn 83 = .ok (.invokevirtual 95, 3) := by decide +kernel
theorem dX3_goOn_86 : decode cX3_goOn 86 = .ok (.goto 4, 3) := by decide +kernel
theorem dX3_goOn_89 : decode cX3_goOn 89 = .ok (.iconst 0, 1) := by decide +kernel
theorem dX3_goOn_90 : decode cX3_goOn 90 = .ok (.iadd, 1) := by decide +kernel
theorem dX3_goOn_91 : decode cX3_goOn 91 = .ok (.aload_n 0, 1) := by decide +kernel
theorem dX3_goOn_92 : decode cX3_goOn 92 = .ok (.getfield 52, 3) := by decide +kernel
theorem dX3_goOn_95 : decode cX3_goOn 95 = .ok (.getfield 88, 3) := by decide +kernel
theorem dX3_goOn_98 : decode cX3_goOn 98 = .ok (.iload_n 3, 1) := by decide +kernel
theorem dX3_goOn_99 : decode cX3_goOn 99 = .ok (.iaload, 1) := by decide +kernel
theorem dX3_goOn_100 : decode cX3_goOn 100 = .ok (.invokevirtual 98, 3) := by decide +kernel
theorem dX3_goOn_103 : decode cX3_goOn 103 = .ok (.aload_n 0, 1) := by decide +kernel
theorem dX3_goOn_104 : decode cX3_goOn 104 = .ok (.dup, 1) := by decide +kernel
theorem dX3_goOn_105 : decode cX3_goOn 105 = .ok (.getfield 30, 3) := by decide +kernel
theorem dX3_goOn_108 : decode cX3_goOn 108 = .ok (.iconst 1, 1) := by decide +kernel
theorem dX3_goOn_109 : decode cX3_goOn 109 = .ok (.iadd, 1) := by decide +kernel
theorem dX3_goOn_110 : decode cX3_goOn 110 = .ok (.putfield 30, 3) := by decide +kernel
theorem dX3_goOn_113 : decode cX3_goOn 113 = .ok (.aload_n 0, 1) := by decide +kernel
theorem dX3_goOn_114 : decode cX3_goOn 114 = .ok (.aload_n 0, 1) := by decide +kernel
theorem dX3_goOn_115 : decode cX3_goOn 115 = .ok (.getfield 20, 3) := by decide +kernel
theorem dX3_goOn_118 : decode cX3_goOn 118 = .ok (.invokestatic 101, 3) := by decide +kernel
theorem dX3_goOn_121 : decode cX3_goOn 121 = .ok (.putfield 20, 3) := by decide +kernel
theorem dX3_goOn_124 : decode cX3_goOn 124 = .ok (.aload_n 0, 1) := by decide +kernel
theorem dX3_goOn_125 : decode cX3_goOn 125 = .ok (.aload_n 0, 1) := by decide +kernel
theorem dX3_goOn_126 : decode cX3_goOn 126 = .ok (.getfield 24, 3) := by decide +kernel
theorem dX3_goOn_129 : decode cX3_goOn 129 = .ok (.invokestatic 101, 3) := by decide +kernel
theorem dX3_goOn_132 : decode cX3_goOn 132 = .ok (.putfield 24, 3) := by decide +kernel
theorem dX3_goOn_135 : decode cX3_goOn 135 = .ok (.aload_n 0, 1) := by decide +kernel
theorem dX3_goOn_136 : decode cX3_goOn 136 = .ok (.iconst 0, 1) := by decide +kernel
theorem dX3_goOn_137 : decode cX3_goOn 137 = .ok (.aload_n 0, 1) := by decide +kernel
theorem dX3_goOn_138 : decode cX3_goOn 138 = .ok (.getfield 27, 3) := by decide +kernel
theorem dX3_goOn_141 : decode cX3_goOn 141 = .ok (.invokestatic 62, 3) := by decide +kernel
theorem dX3_goOn_144 : decode cX3_goOn 144 = .ok (.putfield 27, 3) := by decide +kernel
theorem dX3_goOn_147 : decode cX3_goOn 147 = .ok (.iinc 2 1, 3) := by decide +kernel
theorem dX3_goOn_150 : decode cX3_goOn 150 = .ok (.goto (-148), 3) := by decide +kernel
theorem dX3_goOn_153 : decode cX3_goOn 153 = .ok (.return_, 1) := by decide +kernel
theorem dX3_plunge_0 : decode cX3_plunge 0 = .ok (.aload_n 0, 1) := by decide +kernel
theorem dX3_plunge_1 : decode cX3_plunge 1 = .ok (.dup, 1) := by decide +kernel
theorem dX3_plunge_2 : decode cX3_plunge 2 = .ok (.getfield 20, 3) := by decide +kernel
theorem dX3_plunge_5 : decode cX3_plunge 5 = .ok (.aload_n 0, 1) := by decide +kernel
theorem dX3_plunge_6 : decode cX3_plunge 6 = .ok (.getfield 52, 3) := by decide +kernel
theorem dX3_plunge_9 : decode cX3_plunge 9 = .ok (.getfield 105, 3) := by decide +kernel
theorem dX3_plunge_12 : decode cX3_plunge 12 = .ok (.iconst 0, 1) := by decide +kernel
theorem dX3_plunge_13 : decode cX3_plunge 13 = .ok (.bipush 10, 2) := by decide +kernel
theorem dX3_plunge_15 : decode cX3_plunge 15 = .ok (.aload_n 0, 1) := by decide +kernel
theorem dX3_plunge_16 : decode cX3_plunge 16 = .ok (.getfield 30, 3) := by decide +kernel
theorem dX3_plunge_19 : decode cX3_plunge 19 = .ok (.isub, 1) := by decide +kernel
theorem dX3_plunge_20 : decode cX3_plunge 20 = .ok (.invokestatic 62, 3) := by decide +kernel
theorem dX3_plunge_23 : decode cX3_plunge 23 = .ok (.imul, 1) := by decide +kernel
theorem dX3_plunge_24 : decode cX3_plunge 24 = .ok (.bipush 10, 2) := by decide +kernel
theorem dX3_plunge_26 : decode cX3_plunge 26 = .ok (.idiv, 1) := by decide +kernel
theorem dX3_plunge_27 : decode cX3_plunge 27 = .ok (.aload_n 0, 1) := by decide +kernel
theorem dX3_plunge_28 : decode cX3_plunge 28 = .ok (.getfield 14, 3) := by decide +kernel
theorem dX3_plunge_31 : decode cX3_plunge 31 = .ok (.iload_n 1, 1) := by decide +kernel
theorem dX3_plunge_32 : decode cX3_plunge 32 = .ok (.invokevirtual 108, 3) := by decide +kernel
theorem dX3_plunge_35 : decode cX3_plunge 35 = .ok (.iconst 2, 1) := by decide +kernel
theorem dX3_plunge_36 : decode cX3_plunge 36 = .ok (.idiv, 1) := by decide +kernel
theorem dX3_plunge_37 : decode cX3_plunge 37 = .ok (.iadd, 1) := by decide +kernel
theorem dX3_plunge_38 : decode cX3_plunge 38 = .ok (.iadd, 1) := by decide +kernel
theorem dX3_plunge_39 : decode cX3_plunge 39 = .ok (.putfield 20, 3) := by decide +kernel
theorem dX3_plunge_42 : decode cX3_plunge 42 = .ok (.aload_n 0, 1) := by decide +kernel
theorem dX3_plunge_43 : decode cX3_plunge 43 = .ok (.dup, 1) := by decide +kernel
theorem dX3_plunge_44 : decode cX3_plunge 44 = .ok (.getfield 24, 3) := by decide +kernel
theorem dX3_plunge_47 : decode cX3_plunge 47 = .ok (.aload_n 0, 1) := by decide +kernel
theorem dX3_plunge_48 : decode cX3_plunge 48 = .ok (.getfield 14, 3) := by decide +kernel
theorem dX3_plunge_51 : decode cX3_plunge 51 = .ok (.iload_n 2, 1) := by decide +kernel
theorem dX3_plunge_52 : decode cX3_plunge 52 = .ok (.invokevirtual 108, 3) := by decide +kernel
theorem dX3_plunge_55 : decode cX3_plunge 55 = .ok (.iconst 2, 1) := by decide +kernel
theorem dX3_plunge_56 : decode cX3_plunge 56 = .ok (.idiv, 1) := by decide +kernel
theorem dX3_plunge_57 : decode cX3_plunge 57 = .ok (.iadd, 1) := by decide +kernel
theorem dX3_plunge_58 : decode cX3_plunge 58 = .ok (.putfield 24, 3) := by decide +kernel
theorem dX3_plunge_61 : decode cX3_plunge 61 = .ok (.aload_n 0, 1) := by decide +kernel
theorem dX3_plunge_62 : decode cX3_plunge 62 = .ok (.dup, 1) := by decide +kernel
theorem dX3_plunge_63 : decode cX3_plunge 63 = .ok (.getfield 27, 3) := by decide +kernel
theorem dX3_plunge_66 : decode cX3_plunge 66 = .ok (.aload_n 0, 1) := by decide +kernel
theorem dX3_plunge_67 : decode cX3_plunge 67 = .ok (.getfield 14, 3) := by decide +kernel
theorem dX3_plunge_70 : decode cX3_plunge 70 = .ok (.getfield 111, 3) := by decide +kernel
theorem dX3_plunge_73 : decode cX3_plunge 73 = .ok (.isub, 1) := by decide +kernel
theorem dX3_plunge_74 : decode cX3_plunge 74 = .ok (.putfield 27, 3) := by decide +kernel
theorem dX3_plunge_77 : decode cX3_plunge 77 = .ok (.return_, 1) := by decide +kernel
theorem dX3_sink_0 : decode cX3_sink 0 = .ok (.aload_n 0, 1) := by decide +kernel
theorem dX3_sink_1 : decode cX3_sink 1 = .ok (.getfield 42, 3) := by decide +kernel
theorem dX3_sink_4 : decode cX3_sink 4 = .ok (.ifCond .eq 10, 3) := by decide +kernel
theorem dX3_sink_7 : decode cX3_sink 7 = .ok (.aload_n 0, 1) := by decide +kernel
theorem dX3_sink_8 : decode cX3_sink 8 = .ok (.getfield 46, 3) := by decide +kernel
theorem dX3_sink_11 : decode cX3_sink 11 = .ok (.goto 20, 3) := by decide +kernel
theorem dX3_sink_14 : decode cX3_sink 14 = .ok (.aload_n 0, 1) := by decide +kernel
theorem dX3_sink_15 : decode cX3_sink 15 = .ok (.getfield 14, 3) := by decide +kernel
theorem dX3_sink_18 : decode cX3_sink 18 = .ok (.aload_n 0, 1) := by decide +kernel
theorem dX3_sink_19 : decode cX3_sink 19 = .ok (.getfield 20, 3) := by decide +kernel
theorem dX3_sink_22 : decode cX3_sink 22 = .ok (.aload_n 0, 1) := by decide +kernel
theorem dX3_sink_23 : decode cX3_sink 23 = .ok (.getfield 24, 3) := by decide +kernel
theorem dX3_sink_26 : decode cX3_sink 26 = .ok (.iload_n 1, 1) := by decide +kernel
theorem dX3_sink_27 : decode cX3_sink 27 = .ok (.iload_n 2, 1) := by decide +kernel
theorem dX3_sink_28 : decode cX3_sink 28 = .ok (.invokevirtual 114, 3) := by decide +kernel
theorem dX3_sink_31 : decode cX3_sink 31 = .ok (.istore_n 3, 1) := by decide +kernel
theorem dX3_sink_32 : decode cX3_sink 32 = .ok (.aload_n 0, 1) := by decide +kernel
theorem dX3_sink_33 : decode cX3_sink 33 = .ok (.getfield 42, 3) := by decide +kernel
theorem dX3_sink_36 : decode cX3_sink 36 = .ok (.ifCond .eq 10, 3) := by decide +kernel
theorem dX3_sink_39 : decode cX3_sink 39 = .ok (.aload_n 0, 1) := by decide +kernel
theorem dX3_sink_40 : decode cX3_sink 40 = .ok (.getfield 49, 3) := by decide +kernel
theorem dX3_sink_43 : decode cX3_sink 43 = .ok (.goto 20, 3) := by decide +kernel
theorem dX3_sink_46 : decode cX3_sink 46 = .ok (.aload_n 0, 1) := by decide +kernel
theorem dX3_sink_47 : decode cX3_sink 47 = .ok (.getfield 14, 3) := by decide +kernel
theorem dX3_sink_50 : decode cX3_sink 50 = .ok (.aload_n 0, 1) := by decide +kernel
theorem dX3_sink_51 : decode cX3_sink 51 = .ok (.getfield 20, 3) := by decide +kernel
theorem dX3_sink_54 : decode cX3_sink 54 = .ok (.aload_n 0, 1) := by decide +kernel
theorem dX3_sink_55 : decode cX3_sink 55 = .ok (.getfield 24, 3) := by decide +kernel
theorem dX3_sink_58 : decode cX3_sink 58 = .ok (.iload_n 1, 1) := by decide +kernel
theorem dX3_sink_59 : decode cX3_sink 59 = .ok (.iload_n 2, 1) := by decide +kernel
theorem dX3_sink_60 : decode cX3_sink 60 = .ok (.invokevirtual 118, 3) := by decide +kernel
theorem dX3_sink_63 : decode cX3_sink 63 = .ok (.istore 4, 2) := by decide +kernel
theorem dX3_sink_65 : decode cX3_sink 65 = .ok (.aload_n 0, 1) := by decide +kernel
theorem dX3_sink_66 : decode cX3_sink 66 = .ok (.dup, 1) := by decide +kernel
theorem dX3_sink_67 : decode cX3_sink 67 = .ok (.getfield 20, 3) := by decide +kernel
theorem dX3_sink_70 : decode cX3_sink 70 = .ok (.iload_n 3, 1) := by decide +kernel
theorem dX3_sink_71 : decode cX3_sink 71 = .ok (.aload_n 0, 1) := by decide +kernel
theorem dX3_sink_72 : decode cX3_sink 72 = .ok (.getfield 14, 3) := by decide +kernel
theorem dX3_sink_75 : decode cX3_sink 75 = .ok (.iload_n 1, 1) := by decide +kernel
theorem dX3_sink_76 : decode cX3_sink 76 = .ok (.invokevirtual 108, 3) := by decide +kernel
theorem dX3_sink_79 : decode cX3_sink 79 = .ok (.iadd, 1) := by decide +kernel
theorem dX3_sink_80 : decode cX3_sink 80 = .ok (.iadd, 1) := by decide +kernel
theorem dX3_sink_81 : decode cX3_sink 81 = .ok (.putfield 20, 3) := by decide +kernel
theorem dX3_sink_84 : decode cX3_sink 84 = .ok (.aload_n 0, 1) := by decide +kernel
theorem dX3_sink_85 : decode cX3_sink 85 = .ok (.dup, 1) := by decide +kernel
theorem dX3_sink_86 : decode cX3_sink 86 = .ok (.getfield 24, 3) := by decide +kernel
theorem dX3_sink_89 : decode cX3_sink 89 = .ok (.iload 4, 2) := by decide +kernel
theorem dX3_sink_91 : decode cX3_sink 91 = .ok (.aload_n 0, 1) := by decide +kernel
theorem dX3_sink_92 : decode cX3_sink 92 = .ok (.getfield 14, 3) := by decide +kernel
theorem dX3_sink_95 : decode cX3_sink 95 = .ok (.iload_n 2, 1) := by decide +kernel
theorem dX3_sink_96 : decode cX3_sink 96 = .ok (.invokevirtual 108, 3) := by decide +kernel
theorem dX3_sink_99 : decode cX3_sink 99 = .ok (.iadd, 1) := by decide +kernel
theorem dX3_sink_100 : decode cX3_sink 100 = .ok (.iadd, 1) := by decide +kernel
theorem dX3_sink_101 : decode cX3_sink 101 = .ok (.putfield 24, 3) := by decide +kernel
theorem dX3_sink_104 : decode cX3_sink 104 = .ok (.aload_n 0, 1) := by decide +kernel
theorem dX3_sink_105 : decode cX3_sink 105 = .ok (.dup, 1) := by decide +kernel
theorem dX3_sink_106 : decode cX3_sink 106 = .ok (.getfield 27, 3) := by decide +kernel
theorem dX3_sink_109 : decode cX3_sink 109 = .ok (.aload_n 0, 1) := by decide +kernel
theorem dX3_sink_110 : decode cX3_sink 110 = .ok (.getfield 14, 3) := by decide +kernel
theorem dX3_sink_113 : decode cX3_sink 113 = .ok (.getfield 121, 3) := by decide +kernel
theorem dX3_sink_116 : decode cX3_sink 116 = .ok (.isub, 1) := by decide +kernel
theorem dX3_sink_117 : decode cX3_sink 117 = .ok (.putfield 27, 3) := by decide +kernel
theorem dX3_sink_120 : decode cX3_sink 120 = .ok (.return_, 1) := by decide +kernel
theorem dX3_puff_0 : decode cX3_puff 0 = .ok (.aload_n 0, 1) := by decide +kernel
theorem dX3_puff_1 : decode cX3_puff 1 = .ok (.getfield 33, 3) := by decide +kernel
theorem dX3_puff_4 : decode cX3_puff 4 = .ok (.ifCond .gt 5, 3) := by decide +kernel
theorem dX3_puff_7 : decode cX3_puff 7 = .ok (.iconst 0, 1) := by decide +kernel
theorem dX3_puff_8 : decode cX3_puff 8 = .ok (.ireturn, 1) := by decide +kernel
theorem dX3_puff_9 : decode cX3_puff 9 = .ok (.aload_n 0, 1) := by decide +kernel
theorem dX3_puff_10 : decode cX3_puff 10 = .ok (.aload_n 0, 1) := by decide +kernel
theorem dX3_puff_11 : decode cX3_puff 11 = .ok (.getfield 39, 3) := by decide +kernel
theorem dX3_puff_14 : decode cX3_puff 14 = .ok (.ldc 124, 2) := by decide +kernel
theorem dX3_puff_16 : decode cX3_puff 16 = .ok (.imul, 1) := by decide +kernel
theorem dX3_puff_17 : decode cX3_puff 17 = .ok (.sipush 12345, 3) := by decide +kernel
theorem dX3_puff_20 : decode cX3_puff 20 = .ok (.iadd, 1) := by decide +kernel
theorem dX3_puff_21 : decode cX3_puff 21 = .ok (.putfield 39, 3) := by decide +kernel
theorem dX3_puff_24 : decode cX3_puff 24 = .ok (.aload_n 0, 1) := by decide +kernel
theorem dX3_puff_25 : decode cX3_puff 25 = .ok (.getfield 39, 3) := by decide +kernel
theorem dX3_puff_28 : decode cX3_puff 28 = .ok (.ldc 127, 2) := by decide +kernel
theorem dX3_puff_30 : decode cX3_puff 30 = .ok (.iand, 1) := by decide +kernel
theorem dX3_puff_31 : decode cX3_puff 31 = .ok (.ldc 128, 2) := by decide +kernel
theorem dX3_puff_33 : decode cX3_puff 33 = .ok (.idiv, 1) := by decide +kernel
theorem dX3_puff_34 : decode cX3_puff 34 = .ok (.iconst 2, 1) := by decide +kernel
theorem dX3_puff_35 : decode cX3_puff 35 = .ok (.aload_n 0, 1) := by decide +kernel
theorem dX3_puff_36 : decode cX3_puff 36 = .ok (.getfield 33, 3) := by decide +kernel
theorem dX3_puff_39 : decode cX3_puff 39 = .ok (.imul, 1) := by decide +kernel
theorem dX3_puff_40 : decode cX3_puff 40 = .ok (.iconst 1, 1) := by decide +kernel
theorem dX3_puff_41 : decode cX3_puff 41 = .ok (.iadd, 1) := by decide +kernel
theorem dX3_puff_42 : decode cX3_puff 42 = .ok (.irem, 1) := by decide +kernel
theorem dX3_puff_43 : decode cX3_puff 43 = .ok (.aload_n 0, 1) := by decide +kernel
theorem dX3_puff_44 : decode cX3_puff 44 = .ok (.getfield 33, 3) := by decide +kernel
theorem dX3_puff_47 : decode cX3_puff 47 = .ok (.isub, 1) := by decide +kernel
theorem dX3_puff_48 : decode cX3_puff 48 = .ok (.ireturn, 1) := by decide +kernel
theorem dX3_off_0 : decode cX3_off 0 = .ok (.aload_n 0, 1) := by decide +kernel
theorem dX3_off_1 : decode cX3_off 1 = .ok (.getfield 20, 3) := by decide +kernel
theorem dX3_off_4 : decode cX3_off 4 = .ok (.invokestatic 129, 3) := by decide +kernel
theorem dX3_off_7 : decode cX3_off 7 = .ok (.aload_n 0, 1) := by decide +kernel
theorem dX3_off_8 : decode cX3_off 8 = .ok (.getfield 24, 3) := by decide +kernel
theorem dX3_off_11 : decode cX3_off 11 = .ok (.invokestatic 129, 3) := by decide +kernel
theorem dX3_off_14 : decode cX3_off 14 = .ok (.iadd, 1) := by decide +kernel
theorem dX3_off_15 : decode cX3_off 15 = .ok (.ireturn, 1) := by decide +kernel
theorem dX3_apartFrom_0 : decode cX3_apartFrom 0 = .ok (.aload_n 0, 1) := by decide +kernel
theorem dX3_apartFrom_1 : decode cX3_apartFrom 1 = .ok (.getfield 20, 3) := by decide +kernel
theorem dX3_apartFrom_4 : decode cX3_apartFrom 4 = .ok (.aload_n 1, 1) := by decide +kernel
theorem dX3_apartFrom_5 : decode cX3_apartFrom 5 = .ok (.getfield 20, 3) := by decide +kernel
theorem dX3_apartFrom_8 : decode cX3_apartFrom 8 = .ok (.isub, 1) := by decide +kernel
theorem dX3_apartFrom_9 : decode cX3_apartFrom 9 = .ok (.invokestatic 129, 3) := by decide +kernel
theorem dX3_apartFrom_12 : decode cX3_apartFrom 12 = .ok (.aload_n 0, 1) := by decide +kernel
theorem dX3_apartFrom_13 : decode cX3_apartFrom 13 = .ok (.getfield 24, 3) := by decide +kernel
theorem dX3_apartFrom_16 : decode cX3_apartFrom 16 = .ok (.aload_n 1, 1) := by decide +kernel
theorem dX3_apartFrom_17 : decode cX3_apartFrom 17 = .ok (.getfield 24, 3) := by decide +kernel
theorem dX3_apartFrom_20 : decode cX3_apartFrom 20 = .ok (.isub, 1) := by decide +kernel
theorem dX3_apartFrom_21 : decode cX3_apartFrom 21 = .ok (.invokestatic 129, 3) := by decide +kernel
theorem dX3_apartFrom_24 : decode cX3_apartFrom 24 = .ok (.iadd, 1) := by decide +kernel
theorem dX3_apartFrom_25 : decode cX3_apartFrom 25 = .ok (.aload_n 0, 1) := by decide +kernel
theorem dX3_apartFrom_26 : decode cX3_apartFrom 26 = .ok (.getfield 27, 3) := by decide +kernel
theorem dX3_apartFrom_29 : decode cX3_apartFrom 29 = .ok (.aload_n 1, 1) := by decide +kernel
theorem dX3_apartFrom_30 : decode cX3_apartFrom 30 = .ok (.getfield 27, 3) := by decide +kernel
theorem dX3_apartFrom_33 : decode cX3_apartFrom 33 = .ok (.isub, 1) := by decide +kernel
theorem dX3_apartFrom_34 : decode cX3_apartFrom 34 = .ok (.invokestatic 129, 3) := by decide +kernel
theorem dX3_apartFrom_37 : decode cX3_apartFrom 37 = .ok (.iadd, 1) := by decide +kernel
theorem dX3_apartFrom_38 : decode cX3_apartFrom 38 = .ok (.ireturn, 1) := by decide +kernel
theorem dX4_init_0 : decode cX4_init 0 = .ok (.aload_n 0, 1) := by decide +kernel
theorem dX4_init_1 : decode cX4_init 1 = .ok (.invokespecial 1, 3) := by decide +kernel
theorem dX4_init_4 : decode cX4_init 4 = .ok (.aload_n 0, 1) := by decide +kernel
theorem dX4_init_5 : decode cX4_init 5 = .ok (.iconst 0, 1) := by decide +kernel
theorem dX4_init_6 : decode cX4_init 6 = .ok (.putfield 7, 3) := by decide +kernel
theorem dX4_init_9 : decode cX4_init 9 = .ok (.aload_n 0, 1) := by decide +kernel
theorem dX4_init_10 : decode cX4_init 10 = .ok (.bipush 120, 2) := by decide +kernel
theorem dX4_init_12 : decode cX4_init 12 = .ok (.putfield 13, 3) := by decide +kernel
theorem dX4_init_15 : decode cX4_init 15 = .ok (.aload_n 0, 1) := by decide +kernel
theorem dX4_init_16 : decode cX4_init 16 = .ok (.bipush 16, 2) := by decide +kernel
theorem dX4_init_18 : decode cX4_init 18 = .ok (.putfield 16, 3) := by decide +kernel
theorem dX4_init_21 : decode cX4_init 21 = .ok (.aload_n 0, 1) := by decide +kernel
theorem dX4_init_22 : decode cX4_init 22 = .ok (.bipush 40, 2) := by decide +kernel
theorem dX4_init_24 : decode cX4_init 24 = .ok (.putfield 19, 3) := by decide +kernel
theorem dX4_init_27 : decode cX4_init 27 = .ok (.aload_n 0, 1) := by decide +kernel
theorem dX4_init_28 : decode cX4_init 28 = .ok (.bipush 10, 2) := by decide +kernel
theorem dX4_init_30 : decode cX4_init 30 = .ok (.putfield 22, 3) := by decide +kernel
theorem dX4_init_33 : decode cX4_init 33 = .ok (.aload_n 0, 1) := by decide +kernel
theorem dX4_init_34 : decode cX4_init 34 = .ok (.iload_n 1, 1) := by decide +kernel
theorem dX4_init_35 : decode cX4_init 35 = .ok (.putfield 25, 3) := by decide +kernel
theorem dX4_init_38 : decode cX4_init 38 = .ok (.aload_n 0, 1) := by decide +kernel
theorem dX4_init_39 : decode cX4_init 39 = .ok (.iload_n 2, 1) := by decide +kernel
theorem dX4_init_40 : decode cX4_init 40 = .ok (.putfield 28, 3) := by decide +kernel
theorem dX4_init_43 : decode cX4_init 43 = .ok (.aload_n 0, 1) := by decide +kernel
theorem dX4_init_44 : decode cX4_init 44 = .ok (.iload_n 3, 1) := by decide +kernel
theorem dX4_init_45 : decode cX4_init 45 = .ok (.putfield 31, 3) := by decide +kernel
theorem dX4_init_48 : decode cX4_init 48 = .ok (.return_, 1) := by decide +kernel
theorem dX4_ofKind_0 : decode cX4_ofKind 0 = .ok (.iload_n 0, 1) := by decide +kernel
theorem dX4_ofKind_1 : decode cX4_ofKind 1 = .ok (.tableswitch 120 1 7 #[43, 54, 65, 76, 87, 98, 109], 43) := by decide +kernel
theorem dX4_ofKind_44 : decode cX4_ofKind 44 = .ok (.new 34, 3) := by decide +kernel
theorem dX4_ofKind_47 : decode cX4_ofKind 47 = .ok (.dup, 1) := by decide +kernel
theorem dX4_ofKind_48 : decode cX4_ofKind 48 = .ok (.iload_n 1, 1) := by decide +kernel
theorem dX4_ofKind_49 : decode cX4_ofKind 49 = .ok (.iload_n 2, 1) := by decide +kernel
theorem dX4_ofKind_50 : decode cX4_ofKind 50 = .ok (.iload_n 3, 1) := by decide +kernel
theorem dX4_ofKind_51 : decode cX4_ofKind 51 = .ok (.invokespecial 36, 3) := by decide +kernel
theorem dX4_ofKind_54 : decode cX4_ofKind 54 = .ok (.areturn, 1) := by decide +kernel
theorem dX4_ofKind_55 : decode cX4_ofKind 55 = .ok (.new 39, 3) := by decide +kernel
theorem dX4_ofKind_58 : decode cX4_ofKind 58 = .ok (.dup, 1) := by decide +kernel
theorem dX4_ofKind_59 : decode cX4_ofKind 59 = .ok (.iload_n 1, 1) := by decide +kernel
theorem dX4_ofKind_60 : decode cX4_ofKind 60 = .ok (.iload_n 2, 1) := by decide +kernel
theorem dX4_ofKind_61 : decode cX4_ofKind 61 = .ok (.iload_n 3, 1) := by decide +kernel
theorem dX4_ofKind_62 : decode cX4_ofKind 62 = .ok (.invokespecial 41, 3) := by decide +kernel
theorem dX4_ofKind_65 : decode cX4_ofKind 65 = .ok (.areturn, 1) := by decide +kernel
theorem dX4_ofKind_66 : decode cX4_ofKind 66 = .ok (.new 42, 3) := by decide +kernel
theorem dX4_ofKind_69 : decode cX4_ofKind 69 = .ok (.dup, 1) := by decide +kernel
theorem dX4_ofKind_70 : decode cX4_ofKind 70 = .ok (.iload_n 1, 1) := by decide +kernel
theorem dX4_ofKind_71 : decode cX4_ofKind 71 = .ok (.iload_n 2, 1) := by decide +kernel
theorem dX4_ofKind_72 : decode cX4_ofKind 72 = .ok (.iload_n 3, 1) := by decide +kernel
theorem dX4_ofKind_73 : decode cX4_ofKind 73 = .ok (.invokespecial 44, 3) := by decide +kernel
theorem dX4_ofKind_76 : decode cX4_ofKind 76 = .ok (.areturn, 1) := by decide +kernel
theorem dX4_ofKind_77 : decode cX4_ofKind 77 = .ok (.new 45, 3) := by decide +kernel
theorem dX4_ofKind_80 : decode cX4_ofKind 80 = .ok (.dup, 1) := by decide +kernel
theorem dX4_ofKind_81 : decode cX4_ofKind 81 = .ok (.iload_n 1, 1) := by decide +kernel
theorem dX4_ofKind_82 : decode cX4_ofKind 82 = .ok (.iload_n 2, 1) := by decide +kernel
theorem dX4_ofKind_83 : decode cX4_ofKind 83 = .ok (.iload_n 3, 1) := by decide +kernel
theorem dX4_ofKind_84 : decode cX4_ofKind 84 = .ok (.invokespecial 47, 3) := by decide +kernel
theorem dX4_ofKind_87 : decode cX4_ofKind 87 = .ok (.areturn, 1) := by decide +kernel
theorem dX4_ofKind_88 : decode cX4_ofKind 88 = .ok (.new 48, 3) := by decide +kernel
theorem dX4_ofKind_91 : decode cX4_ofKind 91 = .ok (.dup, 1) := by decide +kernel
theorem dX4_ofKind_92 : decode cX4_ofKind 92 = .ok (.iload_n 1, 1) := by decide +kernel
theorem dX4_ofKind_93 : decode cX4_ofKind 93 = .ok (.iload_n 2, 1) := by decide +kernel
theorem dX4_ofKind_94 : decode cX4_ofKind 94 = .ok (.iload_n 3, 1) := by decide +kernel
theorem dX4_ofKind_95 : decode cX4_ofKind 95 = .ok (.invokespecial 50, 3) := by decide +kernel
theorem dX4_ofKind_98 : decode cX4_ofKind 98 = .ok (.areturn, 1) := by decide +kernel
theorem dX4_ofKind_99 : decode cX4_ofKind 99 = .ok (.new 51, 3) := by decide +kernel
theorem dX4_ofKind_102 : decode cX4_ofKind 102 = .ok (.dup, 1) := by decide +kernel
theorem dX4_ofKind_103 : decode cX4_ofKind 103 = .ok (.iload_n 1, 1) := by decide +kernel
theorem dX4_ofKind_104 : decode cX4_ofKind 104 = .ok (.iload_n 2, 1) := by decide +kernel
theorem dX4_ofKind_105 : decode cX4_ofKind 105 = .ok (.iload_n 3, 1) := by decide +kernel
theorem dX4_ofKind_106 : decode cX4_ofKind 106 = .ok (.invokespecial 53, 3) := by decide +kernel
theorem dX4_ofKind_109 : decode cX4_ofKind 109 = .ok (.areturn, 1) := by decide +kernel
theorem dX4_ofKind_110 : decode cX4_ofKind 110 = .ok (.new 54, 3) := by decide +kernel
theorem dX4_ofKind_113 : decode cX4_ofKind 113 = .ok (.dup, 1) := by decide +kernel
theorem dX4_ofKind_114 : decode cX4_ofKind 114 = .ok (.iload_n 1, 1) := by decide +kernel
theorem dX4_ofKind_115 : decode cX4_ofKind 115 = .ok (.iload_n 2, 1) := by decide +kernel
theorem dX4_ofKind_116 : decode cX4_ofKind 116 = .ok (.iload_n 3, 1) := by decide +kernel
theorem dX4_ofKind_117 : decode cX4_ofKind 117 = .ok (.invokespecial 56, 3) := by decide +kernel
theorem dX4_ofKind_120 : decode cX4_ofKind 120 = .ok (.areturn, 1) := by decide +kernel
theorem dX4_ofKind_121 : decode cX4_ofKind 121 = .ok (.new 8, 3) := by decide +kernel
theorem dX4_ofKind_124 : decode cX4_ofKind 124 = .ok (.dup, 1) := by decide +kernel
theorem dX4_ofKind_125 : decode cX4_ofKind 125 = .ok (.iload_n 1, 1) := by decide +kernel
theorem dX4_ofKind_126 : decode cX4_ofKind 126 = .ok (.iload_n 2, 1) := by decide +kernel
theorem dX4_ofKind_127 : decode cX4_ofKind 127 = .ok (.iload_n 3, 1) := by decide +kernel
theorem dX4_ofKind_128 : decode cX4_ofKind 128 = .ok (.invokespecial 57, 3) := by decide +kernel
theorem dX4_ofKind_131 : decode cX4_ofKind 131 = .ok (.areturn, 1) := by decide +kernel
theorem dX4_driftOf_0 : decode cX4_driftOf 0 = .ok (.iload_n 1, 1) := by decide +kernel
theorem dX4_driftOf_1 : decode cX4_driftOf 1 = .ok (.ireturn, 1) := by decide +kernel
theorem dX4_isToSteer_0 : decode cX4_isToSteer 0 = .ok (.iconst 1, 1) := by decide +kernel
theorem dX4_isToSteer_1 : decode cX4_isToSteer 1 = .ok (.ireturn, 1) := by decide +kernel
theorem dX4_steersAlongX_0 : decode cX4_steersAlongX 0 = .ok (.iload_n 1, 1) := by decide +kernel
theorem dX4_steersAlongX_1 : decode cX4_steersAlongX 1 = .ok (.invokestatic 58, 3) := by decide +kernel
theorem dX4_steersAlongX_4 : decode cX4_steersAlongX 4 = .ok (.iload_n 2, 1) := by decide +kernel
theorem dX4_steersAlongX_5 : decode cX4_steersAlongX 5 = .ok (.invokestatic 58, 3) := by decide +kernel
theorem dX4_steersAlongX_8 : decode cX4_steersAlongX 8 = .ok (.if_icmp .lt 7, 3) := by decide +kernel
theorem dX4_steersAlongX_11 : decode cX4_steersAlongX 11 = .ok (.iconst 1, 1) := by decide +kernel
theorem dX4_steersAlongX_12 : decode cX4_steersAlongX 12 = .ok (.goto 4, 3) := by decide +kernel
theorem dX4_steersAlongX_15 : decode cX4_steersAlongX 15 = .ok (.iconst 0, 1) := by decide +kernel
theorem dX4_steersAlongX_16 : decode cX4_steersAlongX 16 = .ok (.ireturn, 1) := by decide +kernel
theorem dX4_stepAlong_0 : decode cX4_stepAlong 0 = .ok (.aload_n 0, 1) := by decide +kernel
theorem dX4_stepAlong_1 : decode cX4_stepAlong 1 = .ok (.getfield 19, 3) := by decide +kernel
theorem dX4_stepAlong_4 : decode cX4_stepAlong 4 = .ok (.iload_n 1, 1) := by decide +kernel
theorem dX4_stepAlong_5 : decode cX4_stepAlong 5 = .ok (.invokestatic 58, 3) := by decide +kernel
theorem dX4_stepAlong_8 : decode cX4_stepAlong 8 = .ok (.invokestatic 64, 3) := by decide +kernel
theorem dX4_stepAlong_11 : decode cX4_stepAlong 11 = .ok (.istore_n 3, 1) := by decide +kernel
theorem dX4_stepAlong_12 : decode cX4_stepAlong 12 = .ok (.iload_n 1, 1) := by decide +kernel
theorem dX4_stepAlong_13 : decode cX4_stepAlong 13 = .ok (.ifCond .le 8, 3) := by decide +kernel
theorem dX4_stepAlong_16 : decode cX4_stepAlong 16 = .ok (.iload_n 3, 1) := by decide +kernel
theorem dX4_stepAlong_17 : decode cX4_stepAlong 17 = .ok (.ineg, 1) := by decide +kernel
theorem dX4_stepAlong_18 : decode cX4_stepAlong 18 = .ok (.goto 4, 3) := by decide +kernel
theorem dX4_stepAlong_21 : decode cX4_stepAlong 21 = .ok (.iload_n 3, 1) := by decide +kernel
theorem dX4_stepAlong_22 : decode cX4_stepAlong 22 = .ok (.ireturn, 1) := by decide +kernel
theorem dX4_steerEast_0 : decode cX4_steerEast 0 = .ok (.aload_n 0, 1) := by decide +kernel
theorem dX4_steerEast_1 : decode cX4_steerEast 1 = .ok (.iload_n 1, 1) := by decide +kernel
theorem dX4_steerEast_2 : decode cX4_steerEast 2 = .ok (.iload_n 2, 1) := by decide +kernel
theorem dX4_steerEast_3 : decode cX4_steerEast 3 = .ok (.invokevirtual 68, 3) := by decide +kernel
theorem dX4_steerEast_6 : decode cX4_steerEast 6 = .ok (.ifCond .eq 24, 3) := by decide +kernel
theorem dX4_steerEast_9 : decode cX4_steerEast 9 = .ok (.aload_n 0, 1) := by decide +kernel
theorem dX4_steerEast_10 : decode cX4_steerEast 10 = .ok (.iload_n 1, 1) := by decide +kernel
theorem dX4_steerEast_11 : decode cX4_steerEast 11 = .ok (.iload_n 2, 1) := by decide +kernel
theorem dX4_steerEast_12 : decode cX4_steerEast 12 = .ok (.iload_n 3, 1) := by decide +kernel
theorem dX4_steerEast_13 : decode cX4_steerEast 13 = .ok (.iload 4, 2) := by decide +kernel
theorem dX4_steerEast_15 : decode cX4_steerEast 15 = .ok (.invokevirtual 72, 3) := by decide +kernel
theorem dX4_steerEast_18 : decode cX4_steerEast 18 = .ok (.ifCond .eq 12, 3) := by decide +kernel
theorem dX4_steerEast_21 : decode cX4_steerEast 21 = .ok (.aload_n 0, 1) := by decide +kernel
theorem dX4_steerEast_22 : decode cX4_steerEast 22 = .ok (.iload_n 1, 1) := by decide +kernel
theorem dX4_steerEast_23 : decode cX4_steerEast 23 = .ok (.iload_n 3, 1) := by decide +kernel
theorem dX4_steerEast_24 : decode cX4_steerEast 24 = .ok (.invokevirtual 76, 3) := by decide +kernel
theorem dX4_steerEast_27 : decode cX4_steerEast 27 = .ok (.goto 4, 3) := by decide +kernel
theorem dX4_steerEast_30 : decode cX4_steerEast 30 = .ok (.iconst 0, 1) := by decide +kernel
theorem dX4_steerEast_31 : decode cX4_steerEast 31 = .ok (.ireturn, 1) := by decide +kernel
theorem dX4_steerNorth_0 : decode cX4_steerNorth 0 = .ok (.aload_n 0, 1) := by decide +kernel
theorem dX4_steerNorth_1 : decode cX4_steerNorth 1 = .ok (.iload_n 1, 1) := by decide +kernel
theorem dX4_steerNorth_2 : decode cX4_steerNorth 2 = .ok (.iload_n 2, 1) := by decide +kernel
theorem dX4_steerNorth_3 : decode cX4_steerNorth 3 = .ok (.invokevirtual 68, 3) := by decide +kernel
theorem dX4_steerNorth_6 : decode cX4_steerNorth 6 = .ok (.ifCond .eq 25, 3) := by decide +kernel
theorem dX4_steerNorth_9 : decode cX4_steerNorth 9 = .ok (.aload_n 0, 1) := by decide +kernel
theorem dX4_steerNorth_10 : decode cX4_steerNorth 10 = .ok (.iload_n 1, 1) := by decide +kernel
theorem dX4_steerNorth_11 : decode cX4_steerNorth 11 = .ok (.iload_n 2, 1) := by decide +kernel
theorem dX4_steerNorth_12 : decode cX4_steerNorth 12 = .ok (.iload_n 3, 1) := by decide +kernel
theorem dX4_steerNorth_13 : decode cX4_steerNorth 13 = .ok (.iload 4, 2) := by decide +kernel
theorem dX4_steerNorth_15 : decode cX4_steerNorth 15 = .ok (.invokevirtual 72, 3) := by decide +kernel
theorem dX4_steerNorth_18 : decode cX4_steerNorth 18 = .ok (.ifCond .ne 13, 3) := by decide +kernel
theorem dX4_steerNorth_21 : decode cX4_steerNorth 21 = .ok (.aload_n 0, 1) := by decide +kernel
theorem dX4_steerNorth_22 : decode cX4_steerNorth 22 = .ok (.iload_n 2, 1) := by decide +kernel
theorem dX4_steerNorth_23 : decode cX4_steerNorth 23 = .ok (.iload 4, 2) := by decide +kernel
theorem dX4_steerNorth_25 : decode cX4_steerNorth 25 = .ok (.invokevirtual 76, 3) := by decide +kernel
theorem dX4_steerNorth_28 : decode cX4_steerNorth 28 = .ok (.goto 4, 3) := by decide +kernel
theorem dX4_steerNorth_31 : decode cX4_steerNorth 31 = .ok (.iconst 0, 1) := by decide +kernel
theorem dX4_steerNorth_32 : decode cX4_steerNorth 32 = .ok (.ireturn, 1) := by decide +kernel
theorem dX4_fail_0 : decode cX4_fail 0 = .ok (.aload_n 0, 1) := by decide +kernel
theorem dX4_fail_1 : decode cX4_fail 1 = .ok (.getfield 28, 3) := by decide +kernel
theorem dX4_fail_4 : decode cX4_fail 4 = .ok (.ifCond .eq 13, 3) := by decide +kernel
theorem dX4_fail_7 : decode cX4_fail 7 = .ok (.new 79, 3) := by decide +kernel
theorem dX4_fail_10 : decode cX4_fail 10 = .ok (.dup, 1) := by decide +kernel
theorem dX4_fail_11 : decode cX4_fail 11 = .ok (.ldc 81, 2) := by decide +kernel
theorem dX4_fail_13 : decode cX4_fail 13 = .ok (.invokespecial 83, 3) := by decide +kernel
theorem dX4_fail_16 : decode cX4_fail 16 = .ok (.athrow, 1) := by decide +kernel
theorem dX4_fail_17 : decode cX4_fail 17 = .ok (.return_, 1) := by decide +kernel
theorem dX5_init_0 : decode cX5_init 0 = .ok (.aload_n 0, 1) := by decide +kernel
theorem dX5_init_1 : decode cX5_init 1 = .ok (.iload_n 1, 1) := by decide +kernel
theorem dX5_init_2 : decode cX5_init 2 = .ok (.iload_n 2, 1) := by decide +kernel
theorem dX5_init_3 : decode cX5_init 3 = .ok (.iload_n 3, 1) := by decide +kernel
theorem dX5_init_4 : decode cX5_init 4 = .ok (.invokespecial 1, 3) := by decide +kernel
theorem dX5_init_7 : decode cX5_init 7 = .ok (.aload_n 0, 1) := by decide +kernel
theorem dX5_init_8 : decode cX5_init 8 = .ok (.iconst 3, 1) := by decide +kernel
theorem dX5_init_9 : decode cX5_init 9 = .ok (.putfield 7, 3) := by decide +kernel
theorem dX5_init_12 : decode cX5_init 12 = .ok (.aload_n 0, 1) := by decide +kernel
theorem dX5_init_13 : decode cX5_init 13 = .ok (.dup, 1) := by decide +kernel
theorem dX5_init_14 : decode cX5_init 14 = .ok (.getfield 13, 3) := by decide +kernel
theorem dX5_init_17 : decode cX5_init 17 = .ok (.bipush 25, 2) := by decide +kernel
theorem dX5_init_19 : decode cX5_init 19 = .ok (.iadd, 1) := by decide +kernel
theorem dX5_init_20 : decode cX5_init 20 = .ok (.putfield 13, 3) := by decide +kernel
theorem dX5_init_23 : decode cX5_init 23 = .ok (.aload_n 0, 1) := by decide +kernel
theorem dX5_init_24 : decode cX5_init 24 = .ok (.dup, 1) := by decide +kernel
theorem dX5_init_25 : decode cX5_init 25 = .ok (.getfield 16, 3) := by decide +kernel
theorem dX5_init_28 : decode cX5_init 28 = .ok (.iconst 5, 1) := by decide +kernel
theorem dX5_init_29 : decode cX5_init 29 = .ok (.iadd, 1) := by decide +kernel
theorem dX5_init_30 : decode cX5_init 30 = .ok (.putfield 16, 3) := by decide +kernel
theorem dX5_init_33 : decode cX5_init 33 = .ok (.aload_n 0, 1) := by decide +kernel
theorem dX5_init_34 : decode cX5_init 34 = .ok (.dup, 1) := by decide +kernel
theorem dX5_init_35 : decode cX5_init 35 = .ok (.getfield 19, 3) := by decide +kernel
theorem dX5_init_38 : decode cX5_init 38 = .ok (.iconst 4, 1) := by decide +kernel
theorem dX5_init_39 : decode cX5_init 39 = .ok (.iadd, 1) := by decide +kernel
theorem dX5_init_40 : decode cX5_init 40 = .ok (.putfield 19, 3) := by decide +kernel
theorem dX5_init_43 : decode cX5_init 43 = .ok (.aload_n 0, 1) := by decide +kernel
theorem dX5_init_44 : decode cX5_init 44 = .ok (.dup, 1) := by decide +kernel
theorem dX5_init_45 : decode cX5_init 45 = .ok (.getfield 22, 3) := by decide +kernel
theorem dX5_init_48 : decode cX5_init 48 = .ok (.iconst 2, 1) := by decide +kernel
theorem dX5_init_49 : decode cX5_init 49 = .ok (.imul, 1) := by decide +kernel
theorem dX5_init_50 : decode cX5_init 50 = .ok (.putfield 22, 3) := by decide +kernel
theorem dX5_init_53 : decode cX5_init 53 = .ok (.return_, 1) := by decide +kernel
theorem dX5_driftOf_0 : decode cX5_driftOf 0 = .ok (.aload_n 0, 1) := by decide +kernel
theorem dX5_driftOf_1 : decode cX5_driftOf 1 = .ok (.iload_n 1, 1) := by decide +kernel
theorem dX5_driftOf_2 : decode cX5_driftOf 2 = .ok (.invokespecial 25, 3) := by decide +kernel
theorem dX5_driftOf_5 : decode cX5_driftOf 5 = .ok (.iconst 4, 1) := by decide +kernel
theorem dX5_driftOf_6 : decode cX5_driftOf 6 = .ok (.imul, 1) := by decide +kernel
theorem dX5_driftOf_7 : decode cX5_driftOf 7 = .ok (.iconst 5, 1) := by decide +kernel
theorem dX5_driftOf_8 : decode cX5_driftOf 8 = .ok (.idiv, 1) := by decide +kernel
theorem dX5_driftOf_9 : decode cX5_driftOf 9 = .ok (.ireturn, 1) := by decide +kernel
theorem dX6_init_0 : decode cX6_init 0 = .ok (.aload_n 0, 1) := by decide +kernel
theorem dX6_init_1 : decode cX6_init 1 = .ok (.iload_n 1, 1) := by decide +kernel
theorem dX6_init_2 : decode cX6_init 2 = .ok (.iload_n 2, 1) := by decide +kernel
theorem dX6_init_3 : decode cX6_init 3 = .ok (.iload_n 3, 1) := by decide +kernel
theorem dX6_init_4 : decode cX6_init 4 = .ok (.invokespecial 1, 3) := by decide +kernel
theorem dX6_init_7 : decode cX6_init 7 = .ok (.aload_n 0, 1) := by decide +kernel
theorem dX6_init_8 : decode cX6_init 8 = .ok (.iconst 4, 1) := by decide +kernel
theorem dX6_init_9 : decode cX6_init 9 = .ok (.putfield 7, 3) := by decide +kernel
theorem dX6_init_12 : decode cX6_init 12 = .ok (.aload_n 0, 1) := by decide +kernel
theorem dX6_init_13 : decode cX6_init 13 = .ok (.dup, 1) := by decide +kernel
theorem dX6_init_14 : decode cX6_init 14 = .ok (.getfield 13, 3) := by decide +kernel
theorem dX6_init_17 : decode cX6_init 17 = .ok (.iload_n 2, 1) := by decide +kernel
theorem dX6_init_18 : decode cX6_init 18 = .ok (.iadd, 1) := by decide +kernel
theorem dX6_init_19 : decode cX6_init 19 = .ok (.putfield 13, 3) := by decide +kernel
theorem dX6_init_22 : decode cX6_init 22 = .ok (.aload_n 0, 1) := by decide +kernel
theorem dX6_init_23 : decode cX6_init 23 = .ok (.dup, 1) := by decide +kernel
theorem dX6_init_24 : decode cX6_init 24 = .ok (.getfield 16, 3) := by decide +kernel
theorem dX6_init_27 : decode cX6_init 27 = .ok (.iconst 2, 1) := by decide +kernel
theorem dX6_init_28 : decode cX6_init 28 = .ok (.idiv, 1) := by decide +kernel
theorem dX6_init_29 : decode cX6_init 29 = .ok (.putfield 16, 3) := by decide +kernel
theorem dX6_init_32 : decode cX6_init 32 = .ok (.aload_n 0, 1) := by decide +kernel
theorem dX6_init_33 : decode cX6_init 33 = .ok (.dup, 1) := by decide +kernel
theorem dX6_init_34 : decode cX6_init 34 = .ok (.getfield 19, 3) := by decide +kernel
theorem dX6_init_37 : decode cX6_init 37 = .ok (.iload_n 3, 1) := by decide +kernel
theorem dX6_init_38 : decode cX6_init 38 = .ok (.iadd, 1) := by decide +kernel
theorem dX6_init_39 : decode cX6_init 39 = .ok (.putfield 19, 3) := by decide +kernel
theorem dX6_init_42 : decode cX6_init 42 = .ok (.return_, 1) := by decide +kernel
theorem dX6_isToSteer_0 : decode cX6_isToSteer 0 = .ok (.iload_n 1, 1) := by decide +kernel
theorem dX6_isToSteer_1 : decode cX6_isToSteer 1 = .ok (.invokestatic 22, 3) := by decide +kernel
theorem dX6_isToSteer_4 : decode cX6_isToSteer 4 = .ok (.bipush 100, 2) := by decide +kernel
theorem dX6_isToSteer_6 : decode cX6_isToSteer 6 = .ok (.aload_n 0, 1) := by decide +kernel
theorem dX6_isToSteer_7 : decode cX6_isToSteer 7 = .ok (.getfield 28, 3) := by decide +kernel
theorem dX6_isToSteer_10 : decode cX6_isToSteer 10 = .ok (.imul, 1) := by decide +kernel
theorem dX6_isToSteer_11 : decode cX6_isToSteer 11 = .ok (.if_icmp .gt 17, 3) := by decide +kernel
theorem dX6_isToSteer_14 : decode cX6_isToSteer 14 = .ok (.iload_n 2, 1) := by decide +kernel
theorem dX6_isToSteer_15 : decode cX6_isToSteer 15 = .ok (.invokestatic 22, 3) := by decide +kernel
theorem dX6_isToSteer_18 : decode cX6_isToSteer 18 = .ok (.bipush 100, 2) := by decide +kernel
theorem dX6_isToSteer_20 : decode cX6_isToSteer 20 = .ok (.aload_n 0, 1) := by decide +kernel
theorem dX6_isToSteer_21 : decode cX6_isToSteer 21 = .ok (.getfield 28, 3) := by decide +kernel
theorem dX6_isToSteer_24 : decode cX6_isToSteer 24 = .ok (.imul, 1) := by decide +kernel
theorem dX6_isToSteer_25 : decode cX6_isToSteer 25 = .ok (.if_icmp .le 7, 3) := by decide +kernel
theorem dX6_isToSteer_28 : decode cX6_isToSteer 28 = .ok (.iconst 1, 1) := by decide +kernel
theorem dX6_isToSteer_29 : decode cX6_isToSteer 29 = .ok (.goto 4, 3) := by decide +kernel
theorem dX6_isToSteer_32 : decode cX6_isToSteer 32 = .ok (.iconst 0, 1) := by decide +kernel
theorem dX6_isToSteer_33 : decode cX6_isToSteer 33 = .ok (.ireturn, 1) := by decide +kernel
theorem dX7_init_0 : decode cX7_init 0 = .ok (.aload_n 0, 1) := by decide +kernel
theorem dX7_init_1 : decode cX7_init 1 = .ok (.iload_n 1, 1) := by decide +kernel
theorem dX7_init_2 : decode cX7_init 2 = .ok (.iload_n 2, 1) := by decide +kernel
theorem dX7_init_3 : decode cX7_init 3 = .ok (.iload_n 3, 1) := by decide +kernel
theorem dX7_init_4 : decode cX7_init 4 = .ok (.invokespecial 1, 3) := by decide +kernel
theorem dX7_init_7 : decode cX7_init 7 = .ok (.aload_n 0, 1) := by decide +kernel
theorem dX7_init_8 : decode cX7_init 8 = .ok (.iconst 2, 1) := by decide +kernel
theorem dX7_init_9 : decode cX7_init 9 = .ok (.putfield 7, 3) := by decide +kernel
theorem dX7_init_12 : decode cX7_init 12 = .ok (.aload_n 0, 1) := by decide +kernel
theorem dX7_init_13 : decode cX7_init 13 = .ok (.dup, 1) := by decide +kernel
theorem dX7_init_14 : decode cX7_init 14 = .ok (.getfield 13, 3) := by decide +kernel
theorem dX7_init_17 : decode cX7_init 17 = .ok (.bipush 20, 2) := by decide +kernel
theorem dX7_init_19 : decode cX7_init 19 = .ok (.isub, 1) := by decide +kernel
theorem dX7_init_20 : decode cX7_init 20 = .ok (.putfield 13, 3) := by decide +kernel
theorem dX7_init_23 : decode cX7_init 23 = .ok (.aload_n 0, 1) := by decide +kernel
theorem dX7_init_24 : decode cX7_init 24 = .ok (.dup, 1) := by decide +kernel
theorem dX7_init_25 : decode cX7_init 25 = .ok (.getfield 16, 3) := by decide +kernel
theorem dX7_init_28 : decode cX7_init 28 = .ok (.iconst 3, 1) := by decide +kernel
theorem dX7_init_29 : decode cX7_init 29 = .ok (.isub, 1) := by decide +kernel
theorem dX7_init_30 : decode cX7_init 30 = .ok (.putfield 16, 3) := by decide +kernel
theorem dX7_init_33 : decode cX7_init 33 = .ok (.aload_n 0, 1) := by decide +kernel
theorem dX7_init_34 : decode cX7_init 34 = .ok (.dup, 1) := by decide +kernel
theorem dX7_init_35 : decode cX7_init 35 = .ok (.getfield 19, 3) := by decide +kernel
theorem dX7_init_38 : decode cX7_init 38 = .ok (.bipush 6, 2) := by decide +kernel
theorem dX7_init_40 : decode cX7_init 40 = .ok (.isub, 1) := by decide +kernel
theorem dX7_init_41 : decode cX7_init 41 = .ok (.putfield 19, 3) := by decide +kernel
theorem dX7_init_44 : decode cX7_init 44 = .ok (.aload_n 0, 1) := by decide +kernel
theorem dX7_init_45 : decode cX7_init 45 = .ok (.dup, 1) := by decide +kernel
theorem dX7_init_46 : decode cX7_init 46 = .ok (.getfield 22, 3) := by decide +kernel
theorem dX7_init_49 : decode cX7_init 49 = .ok (.iload_n 2, 1) := by decide +kernel
theorem dX7_init_50 : decode cX7_init 50 = .ok (.iadd, 1) := by decide +kernel
theorem dX7_init_51 : decode cX7_init 51 = .ok (.putfield 22, 3) := by decide +kernel
theorem dX7_init_54 : decode cX7_init 54 = .ok (.return_, 1) := by decide +kernel
theorem dX7_driftOf_0 : decode cX7_driftOf 0 = .ok (.aload_n 0, 1) := by decide +kernel
theorem dX7_driftOf_1 : decode cX7_driftOf 1 = .ok (.iload_n 1, 1) := by decide +kernel
theorem dX7_driftOf_2 : decode cX7_driftOf 2 = .ok (.invokespecial 25, 3) := by decide +kernel
theorem dX7_driftOf_5 : decode cX7_driftOf 5 = .ok (.iconst 5, 1) := by decide +kernel
theorem dX7_driftOf_6 : decode cX7_driftOf 6 = .ok (.imul, 1) := by decide +kernel
theorem dX7_driftOf_7 : decode cX7_driftOf 7 = .ok (.iconst 4, 1) := by decide +kernel
theorem dX7_driftOf_8 : decode cX7_driftOf 8 = .ok (.idiv, 1) := by decide +kernel
theorem dX7_driftOf_9 : decode cX7_driftOf 9 = .ok (.ireturn, 1) := by decide +kernel
theorem dX8_init_0 : decode cX8_init 0 = .ok (.aload_n 0, 1) := by decide +kernel
theorem dX8_init_1 : decode cX8_init 1 = .ok (.iload_n 1, 1) := by decide +kernel
theorem dX8_init_2 : decode cX8_init 2 = .ok (.iload_n 2, 1) := by decide +kernel
theorem dX8_init_3 : decode cX8_init 3 = .ok (.iload_n 3, 1) := by decide +kernel
theorem dX8_init_4 : decode cX8_init 4 = .ok (.invokespecial 1, 3) := by decide +kernel
theorem dX8_init_7 : decode cX8_init 7 = .ok (.aload_n 0, 1) := by decide +kernel
theorem dX8_init_8 : decode cX8_init 8 = .ok (.iconst 1, 1) := by decide +kernel
theorem dX8_init_9 : decode cX8_init 9 = .ok (.putfield 7, 3) := by decide +kernel
theorem dX8_init_12 : decode cX8_init 12 = .ok (.aload_n 0, 1) := by decide +kernel
theorem dX8_init_13 : decode cX8_init 13 = .ok (.dup, 1) := by decide +kernel
theorem dX8_init_14 : decode cX8_init 14 = .ok (.getfield 13, 3) := by decide +kernel
theorem dX8_init_17 : decode cX8_init 17 = .ok (.iconst 4, 1) := by decide +kernel
theorem dX8_init_18 : decode cX8_init 18 = .ok (.iadd, 1) := by decide +kernel
theorem dX8_init_19 : decode cX8_init 19 = .ok (.putfield 13, 3) := by decide +kernel
theorem dX8_init_22 : decode cX8_init 22 = .ok (.aload_n 0, 1) := by decide +kernel
theorem dX8_init_23 : decode cX8_init 23 = .ok (.iconst 0, 1) := by decide +kernel
theorem dX8_init_24 : decode cX8_init 24 = .ok (.putfield 16, 3) := by decide +kernel
theorem dX8_init_27 : decode cX8_init 27 = .ok (.aload_n 0, 1) := by decide +kernel
theorem dX8_init_28 : decode cX8_init 28 = .ok (.dup, 1) := by decide +kernel
theorem dX8_init_29 : decode cX8_init 29 = .ok (.getfield 19, 3) := by decide +kernel
theorem dX8_init_32 : decode cX8_init 32 = .ok (.bipush 9, 2) := by decide +kernel
theorem dX8_init_34 : decode cX8_init 34 = .ok (.isub, 1) := by decide +kernel
theorem dX8_init_35 : decode cX8_init 35 = .ok (.putfield 19, 3) := by decide +kernel
theorem dX8_init_38 : decode cX8_init 38 = .ok (.return_, 1) := by decide +kernel
theorem dX8_isToSteer_0 : decode cX8_isToSteer 0 = .ok (.iconst 0, 1) := by decide +kernel
theorem dX8_isToSteer_1 : decode cX8_isToSteer 1 = .ok (.ireturn, 1) := by decide +kernel
theorem dX8_fail_0 : decode cX8_fail 0 = .ok (.return_, 1) := by decide +kernel
theorem dX9_init_0 : decode cX9_init 0 = .ok (.aload_n 0, 1) := by decide +kernel
theorem dX9_init_1 : decode cX9_init 1 = .ok (.invokespecial 3, 3) := by decide +kernel
theorem dX9_init_4 : decode cX9_init 4 = .ok (.aload_n 0, 1) := by decide +kernel
theorem dX9_init_5 : decode cX9_init 5 = .ok (.aconst_null, 1) := by decide +kernel
theorem dX9_init_6 : decode cX9_init 6 = .ok (.putfield 9, 3) := by decide +kernel
theorem dX9_init_9 : decode cX9_init 9 = .ok (.aload_n 0, 1) := by decide +kernel
theorem dX9_init_10 : decode cX9_init 10 = .ok (.iconst 0, 1) := by decide +kernel
theorem dX9_init_11 : decode cX9_init 11 = .ok (.putfield 15, 3) := by decide +kernel
theorem dX9_init_14 : decode cX9_init 14 = .ok (.aload_n 0, 1) := by decide +kernel
theorem dX9_init_15 : decode cX9_init 15 = .ok (.iconst 0, 1) := by decide +kernel
theorem dX9_init_16 : decode cX9_init 16 = .ok (.putfield 19, 3) := by decide +kernel
theorem dX9_init_19 : decode cX9_init 19 = .ok (.aload_n 0, 1) := by decide +kernel
theorem dX9_init_20 : decode cX9_init 20 = .ok (.iconst 0, 1) := by decide +kernel
theorem dX9_init_21 : decode cX9_init 21 = .ok (.putfield 23, 3) := by decide +kernel
theorem dX9_init_24 : decode cX9_init 24 = .ok (.aload_n 0, 1) := by decide +kernel
theorem dX9_init_25 : decode cX9_init 25 = .ok (.bipush 100, 2) := by decide +kernel
theorem dX9_init_27 : decode cX9_init 27 = .ok (.newarray .int, 2) := by decide +kernel
theorem dX9_init_29 : decode cX9_init 29 = .ok (.putfield 26, 3) := by decide +kernel
theorem dX9_init_32 : decode cX9_init 32 = .ok (.return_, 1) := by decide +kernel
theorem dX9_isEmpty_0 : decode cX9_isEmpty 0 = .ok (.aload_n 0, 1) := by decide +kernel
theorem dX9_isEmpty_1 : decode cX9_isEmpty 1 = .ok (.getfield 9, 3) := by decide +kernel
theorem dX9_isEmpty_4 : decode cX9_isEmpty 4 = .ok (.ifnonnull 14, 3) := by decide +kernel
theorem dX9_isEmpty_7 : decode cX9_isEmpty 7 = .ok (.aload_n 0, 1) := by decide +kernel
theorem dX9_isEmpty_8 : decode cX9_isEmpty 8 = .ok (.getfield 15, 3) := by decide +kernel
theorem dX9_isEmpty_11 : decode cX9_isEmpty 11 = .ok (.ifCond .ne 7, 3) := by decide +kernel
theorem dX9_isEmpty_14 : decode cX9_isEmpty 14 = .ok (.iconst 1, 1) := by decide +kernel
theorem dX9_isEmpty_15 : decode cX9_isEmpty 15 = .ok (.goto 4, 3) := by decide +kernel
theorem dX9_isEmpty_18 : decode cX9_isEmpty 18 = .ok (.iconst 0, 1) := by decide +kernel
theorem dX9_isEmpty_19 : decode cX9_isEmpty 19 = .ok (.ireturn, 1) := by decide +kernel
theorem dX9_empty_0 : decode cX9_empty 0 = .ok (.aload_n 0, 1) := by decide +kernel
theorem dX9_empty_1 : decode cX9_empty 1 = .ok (.aconst_null, 1) := by decide +kernel
theorem dX9_empty_2 : decode cX9_empty 2 = .ok (.putfield 9, 3) := by decide +kernel
theorem dX9_empty_5 : decode cX9_empty 5 = .ok (.aload_n 0, 1) := by decide +kernel
theorem dX9_empty_6 : decode cX9_empty 6 = .ok (.iconst 0, 1) := by decide +kernel
theorem dX9_empty_7 : decode cX9_empty 7 = .ok (.putfield 15, 3) := by decide +kernel
theorem dX9_empty_10 : decode cX9_empty 10 = .ok (.aload_n 0, 1) := by decide +kernel
theorem dX9_empty_11 : decode cX9_empty 11 = .ok (.iconst 0, 1) := by decide +kernel
theorem dX9_empty_12 : decode cX9_empty 12 = .ok (.putfield 23, 3) := by decide +kernel
theorem dX9_empty_15 : decode cX9_empty 15 = .ok (.return_, 1) := by decide +kernel
theorem dX9_hold_0 : decode cX9_hold 0 = .ok (.aload_n 0, 1) := by decide +kernel
theorem dX9_hold_1 : decode cX9_hold 1 = .ok (.invokevirtual 30, 3) := by decide +kernel
theorem dX9_hold_4 : decode cX9_hold 4 = .ok (.aload_n 0, 1) := by decide +kernel
theorem dX9_hold_5 : decode cX9_hold 5 = .ok (.aload_n 1, 1) := by decide +kernel
theorem dX9_hold_6 : decode cX9_hold 6 = .ok (.putfield 9, 3) := by decide +kernel
theorem dX9_hold_9 : decode cX9_hold 9 = .ok (.return_, 1) := by decide +kernel
theorem dX9_holdRow_0 : decode cX9_holdRow 0 = .ok (.aload_n 0, 1) := by decide +kernel
theorem dX9_holdRow_1 : decode cX9_holdRow 1 = .ok (.invokevirtual 30, 3) := by decide +kernel
theorem dX9_holdRow_4 : decode cX9_holdRow 4 = .ok (.aload_n 0, 1) := by decide +kernel
theorem dX9_holdRow_5 : decode cX9_holdRow 5 = .ok (.iconst 1, 1) := by decide +kernel
theorem dX9_holdRow_6 : decode cX9_holdRow 6 = .ok (.putfield 15, 3) := by decide +kernel
theorem dX9_holdRow_9 : decode cX9_holdRow 9 = .ok (.aload_n 0, 1) := by decide +kernel
theorem dX9_holdRow_10 : decode cX9_holdRow 10 = .ok (.iload_n 1, 1) := by decide +kernel
theorem dX9_holdRow_11 : decode cX9_holdRow 11 = .ok (.putfield 19, 3) := by decide +kernel
theorem dX9_holdRow_14 : decode cX9_holdRow 14 = .ok (.aload_n 0, 1) := by decide +kernel
theorem dX9_holdRow_15 : decode cX9_holdRow 15 = .ok (.iconst 0, 1) := by decide +kernel
theorem dX9_holdRow_16 : decode cX9_holdRow 16 = .ok (.iload_n 2, 1) := by decide +kernel
theorem dX9_holdRow_17 : decode cX9_holdRow 17 = .ok (.bipush 100, 2) := by decide +kernel
theorem dX9_holdRow_19 : decode cX9_holdRow 19 = .ok (.invokestatic 33, 3) := by decide +kernel
theorem dX9_holdRow_22 : decode cX9_holdRow 22 = .ok (.invokestatic 39, 3) := by decide +kernel
theorem dX9_holdRow_25 : decode cX9_holdRow 25 = .ok (.putfield 23, 3) := by decide +kernel
theorem dX9_holdRow_28 : decode cX9_holdRow 28 = .ok (.iconst 0, 1) := by decide +kernel
theorem dX9_holdRow_29 : decode cX9_holdRow 29 = .ok (.istore_n 3, 1) := by decide +kernel
theorem dX9_holdRow_30 : decode cX9_holdRow 30 = .ok (.iload_n 3, 1) := by decide +kernel
theorem dX9_holdRow_31 : decode cX9_holdRow 31 = .ok (.aload_n 0, 1) := by decide +kernel
theorem dX9_holdRow_32 : decode cX9_holdRow 32 = .ok (.getfield 23, 3) := by decide +kernel
theorem dX9_holdRow_35 : decode cX9_holdRow 35 = .ok (.if_icmp .ge 16, 3) := by decide +kernel
theorem dX9_holdRow_38 : decode cX9_holdRow 38 = .ok (.aload_n 0, 1) := by decide +kernel
theorem dX9_holdRow_39 : decode cX9_holdRow 39 = .ok (.getfield 26, 3) := by decide +kernel
theorem dX9_holdRow_42 : decode cX9_holdRow 42 = .ok (.iload_n 3, 1) := by decide +kernel
theorem dX9_holdRow_43 : decode cX9_holdRow 43 = .ok (.iconst 0, 1) := by decide +kernel
theorem dX9_holdRow_44 : decode cX9_holdRow 44 = .ok (.iastore, 1) := by decide +kernel
theorem dX9_holdRow_45 : decode cX9_holdRow 45 = .ok (.iinc 3 1, 3) := by decide +kernel
theorem dX9_holdRow_48 : decode cX9_holdRow 48 = .ok (.goto (-18), 3) := by decide +kernel
theorem dX9_holdRow_51 : decode cX9_holdRow 51 = .ok (.return_, 1) := by decide +kernel
theorem dX9_hasPlaces_0 : decode cX9_hasPlaces 0 = .ok (.iload_n 1, 1) := by decide +kernel
theorem dX9_hasPlaces_1 : decode cX9_hasPlaces 1 = .ok (.ifCond .lt 29, 3) := by decide +kernel
theorem dX9_hasPlaces_4 : decode cX9_hasPlaces 4 = .ok (.iload_n 2, 1) := by decide +kernel
theorem dX9_hasPlaces_5 : decode cX9_hasPlaces 5 = .ok (.ifCond .lt 25, 3) := by decide +kernel
theorem dX9_hasPlaces_8 : decode cX9_hasPlaces 8 = .ok (.iload_n 2, 1) := by decide +kernel
theorem dX9_hasPlaces_9 : decode cX9_hasPlaces 9 = .ok (.aload_n 0, 1) := by decide +kernel
theorem dX9_hasPlaces_10 : decode cX9_hasPlaces 10 = .ok (.getfield 23, 3) := by decide +kernel
theorem dX9_hasPlaces_13 : decode cX9_hasPlaces 13 = .ok (.if_icmp .gt 17, 3) := by decide +kernel
theorem dX9_hasPlaces_16 : decode cX9_hasPlaces 16 = .ok (.iload_n 1, 1) := by decide +kernel
theorem dX9_hasPlaces_17 : decode cX9_hasPlaces 17 = .ok (.aload_n 0, 1) := by decide +kernel
theorem dX9_hasPlaces_18 : decode cX9_hasPlaces 18 = .ok (.getfield 23, 3) := by decide +kernel
theorem dX9_hasPlaces_21 : decode cX9_hasPlaces 21 = .ok (.iload_n 2, 1) := by decide +kernel
theorem dX9_hasPlaces_22 : decode cX9_hasPlaces 22 = .ok (.isub, 1) := by decide +kernel
theorem dX9_hasPlaces_23 : decode cX9_hasPlaces 23 = .ok (.if_icmp .gt 7, 3) := by decide +kernel
theorem dX9_hasPlaces_26 : decode cX9_hasPlaces 26 = .ok (.iconst 1, 1) := by decide +kernel
theorem dX9_hasPlaces_27 : decode cX9_hasPlaces 27 = .ok (.goto 4, 3) := by decide +kernel
theorem dX9_hasPlaces_30 : decode cX9_hasPlaces 30 = .ok (.iconst 0, 1) := by decide +kernel
theorem dX9_hasPlaces_31 : decode cX9_hasPlaces 31 = .ok (.ireturn, 1) := by decide +kernel
theorem dX9_store_0 : decode cX9_store 0 = .ok (.aload_n 0, 1) := by decide +kernel
theorem dX9_store_1 : decode cX9_store 1 = .ok (.iload_n 1, 1) := by decide +kernel
theorem dX9_store_2 : decode cX9_store 2 = .ok (.iconst 1, 1) := by decide +kernel
theorem dX9_store_3 : decode cX9_store 3 = .ok (.invokevirtual 42, 3) := by decide +kernel
theorem dX9_store_6 : decode cX9_store 6 = .ok (.ifCond .eq 35, 3) := by decide +kernel
theorem dX9_store_9 : decode cX9_store 9 = .ok (.aload_n 0, 1) := by decide +kernel
theorem dX9_store_10 : decode cX9_store 10 = .ok (.getfield 26, 3) := by decide +kernel
theorem dX9_store_13 : decode cX9_store 13 = .ok (.iload_n 1, 1) := by decide +kernel
theorem dX9_store_14 : decode cX9_store 14 = .ok (.aload_n 0, 1) := by decide +kernel
theorem dX9_store_15 : decode cX9_store 15 = .ok (.getfield 19, 3) := by decide +kernel
theorem dX9_store_18 : decode cX9_store 18 = .ok (.ifCond .ne 8, 3) := by decide +kernel
theorem dX9_store_21 : decode cX9_store 21 = .ok (.iload_n 2, 1) := by decide +kernel
theorem dX9_store_22 : decode cX9_store 22 = .ok (.i2b, 1) := by decide +kernel
theorem dX9_store_23 : decode cX9_store 23 = .ok (.goto 17, 3) := by decide +kernel
theorem dX9_store_26 : decode cX9_store 26 = .ok (.aload_n 0, 1) := by decide +kernel
theorem dX9_store_27 : decode cX9_store 27 = .ok (.getfield 19, 3) := by decide +kernel
theorem dX9_store_30 : decode cX9_store 30 = .ok (.iconst 1, 1) := by decide +kernel
theorem dX9_store_31 : decode cX9_store 31 = .ok (.if_icmp .ne 8, 3) := by decide +kernel
theorem dX9_store_34 : decode cX9_store 34 = .ok (.iload_n 2, 1) := by decide +kernel
theorem dX9_store_35 : decode cX9_store 35 = .ok (.i2s, 1) := by decide +kernel
theorem dX9_store_36 : decode cX9_store 36 = .ok (.goto 4, 3) := by decide +kernel
theorem dX9_store_39 : decode cX9_store 39 = .ok (.iload_n 2, 1) := by decide +kernel
theorem dX9_store_40 : decode cX9_store 40 = .ok (.iastore, 1) := by decide +kernel
theorem dX9_store_41 : decode cX9_store 41 = .ok (.return_, 1) := by decide +kernel
theorem dX9_valueAt_0 : decode cX9_valueAt 0 = .ok (.aload_n 0, 1) := by decide +kernel
theorem dX9_valueAt_1 : decode cX9_valueAt 1 = .ok (.iload_n 1, 1) := by decide +kernel
theorem dX9_valueAt_2 : decode cX9_valueAt 2 = .ok (.iconst 1, 1) := by decide +kernel
theorem dX9_valueAt_3 : decode cX9_valueAt 3 = .ok (.invokevirtual 42, 3) := by decide +kernel
theorem dX9_valueAt_6 : decode cX9_valueAt 6 = .ok (.ifCond .eq 12, 3) := by decide +kernel
theorem dX9_valueAt_9 : decode cX9_valueAt 9 = .ok (.aload_n 0, 1) := by decide +kernel
theorem dX9_valueAt_10 : decode cX9_valueAt 10 = .ok (.getfield 26, 3) := by decide +kernel
theorem dX9_valueAt_13 : decode cX9_valueAt 13 = .ok (.iload_n 1, 1) := by decide +kernel
theorem dX9_valueAt_14 : decode cX9_valueAt 14 = .ok (.iaload, 1) := by decide +kernel
theorem dX9_valueAt_15 : decode cX9_valueAt 15 = .ok (.goto 4, 3) := by decide +kernel
theorem dX9_valueAt_18 : decode cX9_valueAt 18 = .ok (.iconst (-1), 1) := by decide +kernel
theorem dX9_valueAt_19 : decode cX9_valueAt 19 = .ok (.ireturn, 1) := by decide +kernel
theorem dX9_leastOfSort_0 : decode cX9_leastOfSort 0 = .ok (.aload_n 0, 1) := by decide +kernel
theorem dX9_leastOfSort_1 : decode cX9_leastOfSort 1 = .ok (.getfield 19, 3) := by decide +kernel
theorem dX9_leastOfSort_4 : decode cX9_leastOfSort 4 = .ok (.ifCond .ne 8, 3) := by decide +kernel
theorem dX9_leastOfSort_7 : decode cX9_leastOfSort 7 = .ok (.bipush (-128), 2) := by decide +kernel
theorem dX9_leastOfSort_9 : decode cX9_leastOfSort 9 = .ok (.goto 19, 3) := by decide +kernel
theorem dX9_leastOfSort_12 : decode cX9_leastOfSort 12 = .ok (.aload_n 0, 1) := by decide +kernel
theorem dX9_leastOfSort_13 : decode cX9_leastOfSort 13 = .ok (.getfield 19, 3) := by decide +kernel
theorem dX9_leastOfSort_16 : decode cX9_leastOfSort 16 = .ok (.iconst 1, 1) := by decide +kernel
theorem dX9_leastOfSort_17 : decode cX9_leastOfSort 17 = .ok (.if_icmp .ne 9, 3) := by decide +kernel
theorem dX9_leastOfSort_20 : decode cX9_leastOfSort 20 = .ok (.sipush (-32768), 3) := by decide +kernel
theorem dX9_leastOfSort_23 : decode cX9_leastOfSort 23 = .ok (.goto 5, 3) := by decide +kernel
theorem dX9_leastOfSort_26 : decode cX9_leastOfSort 26 = .ok (.ldc 48, 2) := by decide +kernel
theorem dX9_leastOfSort_28 : decode cX9_leastOfSort 28 = .ok (.ireturn, 1) := by decide +kernel
theorem dX10_init_0 : decode cX10_init 0 = .ok (.aload_n 0, 1) := by decide +kernel
theorem dX10_init_1 : decode cX10_init 1 = .ok (.iload_n 1, 1) := by decide +kernel
theorem dX10_init_2 : decode cX10_init 2 = .ok (.iload_n 2, 1) := by decide +kernel
theorem dX10_init_3 : decode cX10_init 3 = .ok (.iload_n 3, 1) := by decide +kernel
theorem dX10_init_4 : decode cX10_init 4 = .ok (.invokespecial 1, 3) := by decide +kernel
theorem dX10_init_7 : decode cX10_init 7 = .ok (.aload_n 0, 1) := by decide +kernel
theorem dX10_init_8 : decode cX10_init 8 = .ok (.bipush 7, 2) := by decide +kernel
theorem dX10_init_10 : decode cX10_init 10 = .ok (.putfield 7, 3) := by decide +kernel
theorem dX10_init_13 : decode cX10_init 13 = .ok (.aload_n 0, 1) := by decide +kernel
theorem dX10_init_14 : decode cX10_init 14 = .ok (.dup, 1) := by decide +kernel
theorem dX10_init_15 : decode cX10_init 15 = .ok (.getfield 13, 3) := by decide +kernel
theorem dX10_init_18 : decode cX10_init 18 = .ok (.bipush 10, 2) := by decide +kernel
theorem dX10_init_20 : decode cX10_init 20 = .ok (.iadd, 1) := by decide +kernel
theorem dX10_init_21 : decode cX10_init 21 = .ok (.putfield 13, 3) := by decide +kernel
theorem dX10_init_24 : decode cX10_init 24 = .ok (.aload_n 0, 1) := by decide +kernel
theorem dX10_init_25 : decode cX10_init 25 = .ok (.iconst 0, 1) := by decide +kernel
theorem dX10_init_26 : decode cX10_init 26 = .ok (.putfield 16, 3) := by decide +kernel
theorem dX10_init_29 : decode cX10_init 29 = .ok (.aload_n 0, 1) := by decide +kernel
theorem dX10_init_30 : decode cX10_init 30 = .ok (.dup, 1) := by decide +kernel
theorem dX10_init_31 : decode cX10_init 31 = .ok (.getfield 19, 3) := by decide +kernel
theorem dX10_init_34 : decode cX10_init 34 = .ok (.bipush 50, 2) := by decide +kernel
theorem dX10_init_36 : decode cX10_init 36 = .ok (.iadd, 1) := by decide +kernel
theorem dX10_init_37 : decode cX10_init 37 = .ok (.putfield 19, 3) := by decide +kernel
theorem dX10_init_40 : decode cX10_init 40 = .ok (.return_, 1) := by decide +kernel
theorem dX10_driftOf_0 : decode cX10_driftOf 0 = .ok (.aload_n 0, 1) := by decide +kernel
theorem dX10_driftOf_1 : decode cX10_driftOf 1 = .ok (.iload_n 1, 1) := by decide +kernel
theorem dX10_driftOf_2 : decode cX10_driftOf 2 = .ok (.invokespecial 22, 3) := by decide +kernel
theorem dX10_driftOf_5 : decode cX10_driftOf 5 = .ok (.iconst 2, 1) := by decide +kernel
theorem dX10_driftOf_6 : decode cX10_driftOf 6 = .ok (.idiv, 1) := by decide +kernel
theorem dX10_driftOf_7 : decode cX10_driftOf 7 = .ok (.ireturn, 1) := by decide +kernel
theorem dX10_isToSteer_0 : decode cX10_isToSteer 0 = .ok (.iconst 0, 1) := by decide +kernel
theorem dX10_isToSteer_1 : decode cX10_isToSteer 1 = .ok (.ireturn, 1) := by decide +kernel
theorem dX10_fail_0 : decode cX10_fail 0 = .ok (.aload_n 0, 1) := by decide +kernel
theorem dX10_fail_1 : decode cX10_fail 1 = .ok (.getfield 26, 3) := by decide +kernel
theorem dX10_fail_4 : decode cX10_fail 4 = .ok (.ifCond .eq 13, 3) := by decide +kernel
theorem dX10_fail_7 : decode cX10_fail 7 = .ok (.new 29, 3) := by decide +kernel
theorem dX10_fail_10 : decode cX10_fail 10 = .ok (.dup, 1) := by decide +kernel
theorem dX10_fail_11 : decode cX10_fail 11 = .ok (.ldc 31, 2) := by decide +kernel
theorem dX10_fail_13 : decode cX10_fail 13 = .ok (.invokespecial 33, 3) := by decide +kernel
theorem dX10_fail_16 : decode cX10_fail 16 = .ok (.athrow, 1) := by decide +kernel
theorem dX10_fail_17 : decode cX10_fail 17 = .ok (.return_, 1) := by decide +kernel
theorem dX11_init_0 : decode cX11_init 0 = .ok (.aload_n 0, 1) := by decide +kernel
theorem dX11_init_1 : decode cX11_init 1 = .ok (.invokespecial 1, 3) := by decide +kernel
theorem dX11_init_4 : decode cX11_init 4 = .ok (.aload_n 0, 1) := by decide +kernel
theorem dX11_init_5 : decode cX11_init 5 = .ok (.new 7, 3) := by decide +kernel
theorem dX11_init_8 : decode cX11_init 8 = .ok (.dup, 1) := by decide +kernel
theorem dX11_init_9 : decode cX11_init 9 = .ok (.invokespecial 9, 3) := by decide +kernel
theorem dX11_init_12 : decode cX11_init 12 = .ok (.putfield 10, 3) := by decide +kernel
theorem dX11_init_15 : decode cX11_init 15 = .ok (.aload_n 0, 1) := by decide +kernel
theorem dX11_init_16 : decode cX11_init 16 = .ok (.new 7, 3) := by decide +kernel
theorem dX11_init_19 : decode cX11_init 19 = .ok (.dup, 1) := by decide +kernel
theorem dX11_init_20 : decode cX11_init 20 = .ok (.invokespecial 9, 3) := by decide +kernel
theorem dX11_init_23 : decode cX11_init 23 = .ok (.putfield 16, 3) := by decide +kernel
theorem dX11_init_26 : decode cX11_init 26 = .ok (.aload_n 0, 1) := by decide +kernel
theorem dX11_init_27 : decode cX11_init 27 = .ok (.new 7, 3) := by decide +kernel
theorem dX11_init_30 : decode cX11_init 30 = .ok (.dup, 1) := by decide +kernel
theorem dX11_init_31 : decode cX11_init 31 = .ok (.invokespecial 9, 3) := by decide +kernel
theorem dX11_init_34 : decode cX11_init 34 = .ok (.putfield 19, 3) := by decide +kernel
theorem dX11_init_37 : decode cX11_init 37 = .ok (.aload_n 0, 1) := by decide +kernel
theorem dX11_init_38 : decode cX11_init 38 = .ok (.iconst 0, 1) := by decide +kernel
theorem dX11_init_39 : decode cX11_init 39 = .ok (.putfield 22, 3) := by decide +kernel
theorem dX11_init_42 : decode cX11_init 42 = .ok (.aload_n 0, 1) := by decide +kernel
theorem dX11_init_43 : decode cX11_init 43 = .ok (.new 26, 3) := by decide +kernel
theorem dX11_init_46 : decode cX11_init 46 = .ok (.dup, 1) := by decide +kernel
theorem dX11_init_47 : decode cX11_init 47 = .ok (.aload_n 0, 1) := by decide +kernel
theorem dX11_init_48 : decode cX11_init 48 = .ok (.getfield 10, 3) := by decide +kernel
theorem dX11_init_51 : decode cX11_init 51 = .ok (.invokespecial 28, 3) := by decide +kernel
theorem dX11_init_54 : decode cX11_init 54 = .ok (.putfield 31, 3) := by decide +kernel
theorem dX11_init_57 : decode cX11_init 57 = .ok (.aload_n 0, 1) := by decide +kernel
theorem dX11_init_58 : decode cX11_init 58 = .ok (.new 26, 3) := by decide +kernel
theorem dX11_init_61 : decode cX11_init 61 = .ok (.dup, 1) := by decide +kernel
theorem dX11_init_62 : decode cX11_init 62 = .ok (.aload_n 0, 1) := by decide +kernel
theorem dX11_init_63 : decode cX11_init 63 = .ok (.getfield 10, 3) := by decide +kernel
theorem dX11_init_66 : decode cX11_init 66 = .ok (.invokespecial 28, 3) := by decide +kernel
theorem dX11_init_69 : decode cX11_init 69 = .ok (.putfield 35, 3) := by decide +kernel
theorem dX11_init_72 : decode cX11_init 72 = .ok (.aload_n 0, 1) := by decide +kernel
theorem dX11_init_73 : decode cX11_init 73 = .ok (.bipush 8, 2) := by decide +kernel
theorem dX11_init_75 : decode cX11_init 75 = .ok (.anewarray 38, 3) := by decide +kernel
theorem dX11_init_78 : decode cX11_init 78 = .ok (.putfield 40, 3) := by decide +kernel
theorem dX11_init_81 : decode cX11_init 81 = .ok (.aload_n 0, 1) := by decide +kernel
theorem dX11_init_82 : decode cX11_init 82 = .ok (.bipush 25, 2) := by decide +kernel
theorem dX11_init_84 : decode cX11_init 84 = .ok (.newarray .int, 2) := by decide +kernel
theorem dX11_init_86 : decode cX11_init 86 = .ok (.putfield 44, 3) := by decide +kernel
theorem dX11_init_89 : decode cX11_init 89 = .ok (.aload_n 0, 1) := by decide +kernel
theorem dX11_init_90 : decode cX11_init 90 = .ok (.iconst 5, 1) := by decide +kernel
theorem dX11_init_91 : decode cX11_init 91 = .ok (.newarray .int, 2) := by decide +kernel
theorem dX11_init_93 : decode cX11_init 93 = .ok (.putfield 48, 3) := by decide +kernel
theorem dX11_init_96 : decode cX11_init 96 = .ok (.aload_n 0, 1) := by decide +kernel
theorem dX11_init_97 : decode cX11_init 97 = .ok (.iconst 5, 1) := by decide +kernel
theorem dX11_init_98 : decode cX11_init 98 = .ok (.newarray .int, 2) := by decide +kernel
theorem dX11_init_100 : decode cX11_init 100 = .ok (.putfield 51, 3) := by decide +kernel
theorem dX11_init_103 : decode cX11_init 103 = .ok (.aload_n 0, 1) := by decide +kernel
theorem dX11_init_104 : decode cX11_init 104 = .ok (.iconst 5, 1) := by decide +kernel
theorem dX11_init_105 : decode cX11_init 105 = .ok (.newarray .int, 2) := by decide +kernel
theorem dX11_init_107 : decode cX11_init 107 = .ok (.putfield 54, 3) := by decide +kernel
theorem dX11_init_110 : decode cX11_init 110 = .ok (.iconst 0, 1) := by decide +kernel
theorem dX11_init_111 : decode cX11_init 111 = .ok (.istore_n 1, 1) := by decide +kernel
theorem dX11_init_112 : decode cX11_init 112 = .ok (.iload_n 1, 1) := by decide +kernel
theorem dX11_init_113 : decode cX11_init 113 = .ok (.bipush 8, 2) := by decide +kernel
theorem dX11_init_115 : decode cX11_init 115 = .ok (.if_icmp .ge 22, 3) := by decide +kernel
theorem dX11_init_118 : decode cX11_init 118 = .ok (.aload_n 0, 1) := by decide +kernel
theorem dX11_init_119 : decode cX11_init 119 = .ok (.getfield 40, 3) := by decide +kernel
theorem dX11_init_122 : decode cX11_init 122 = .ok (.iload_n 1, 1) := by decide +kernel
theorem dX11_init_123 : decode cX11_init 123 = .ok (.new 38, 3) := by decide +kernel
theorem dX11_init_126 : decode cX11_init 126 = .ok (.dup, 1) := by decide +kernel
theorem dX11_init_127 : decode cX11_init 127 = .ok (.invokespecial 57, 3) := by decide +kernel
theorem dX11_init_130 : decode cX11_init 130 = .ok (.aastore, 1) := by decide +kernel
theorem dX11_init_131 : decode cX11_init 131 = .ok (.iinc 1 1, 3) := by decide +kernel
theorem dX11_init_134 : decode cX11_init 134 = .ok (.goto (-22), 3) := by decide +kernel
theorem dX11_init_137 : decode cX11_init 137 = .ok (.return_, 1) := by decide +kernel
theorem dX11_air_0 : decode cX11_air 0 = .ok (.aload_n 0, 1) := by decide +kernel
theorem dX11_air_1 : decode cX11_air 1 = .ok (.iload_n 1, 1) := by decide +kernel
theorem dX11_air_2 : decode cX11_air 2 = .ok (.invokevirtual 58, 3) := by decide +kernel
theorem dX11_air_5 : decode cX11_air 5 = .ok (.astore_n 2, 1) := by decide +kernel
theorem dX11_air_6 : decode cX11_air 6 = .ok (.aload_n 2, 1) := by decide +kernel
theorem dX11_air_7 : decode cX11_air 7 = .ok (.ifnonnull 5, 3) := by decide +kernel
theorem dX11_air_10 : decode cX11_air 10 = .ok (.iconst (-1), 1) := by decide +kernel
theorem dX11_air_11 : decode cX11_air 11 = .ok (.ireturn, 1) := by decide +kernel
theorem dX11_air_12 : decode cX11_air 12 = .ok (.aload_n 2, 1) := by decide +kernel
theorem dX11_air_13 : decode cX11_air 13 = .ok (.invokestatic 62, 3) := by decide +kernel
theorem dX11_air_16 : decode cX11_air 16 = .ok (.istore_n 3, 1) := by decide +kernel
theorem dX11_air_17 : decode cX11_air 17 = .ok (.iload_n 3, 1) := by decide +kernel
theorem dX11_air_18 : decode cX11_air 18 = .ok (.ifCond .eq 5, 3) := by decide +kernel
theorem dX11_air_21 : decode cX11_air 21 = .ok (.iload_n 3, 1) := by decide +kernel
theorem dX11_air_22 : decode cX11_air 22 = .ok (.ireturn, 1) := by decide +kernel
theorem dX11_air_23 : decode cX11_air 23 = .ok (.aload_n 0, 1) := by decide +kernel
theorem dX11_air_24 : decode cX11_air 24 = .ok (.getfield 16, 3) := by decide +kernel
theorem dX11_air_27 : decode cX11_air 27 = .ok (.aload_n 0, 1) := by decide +kernel
theorem dX11_air_28 : decode cX11_air 28 = .ok (.getfield 10, 3) := by decide +kernel
theorem dX11_air_31 : decode cX11_air 31 = .ok (.invokevirtual 66, 3) := by decide +kernel
theorem dX11_air_34 : decode cX11_air 34 = .ok (.aload_n 0, 1) := by decide +kernel
theorem dX11_air_35 : decode cX11_air 35 = .ok (.getfield 16, 3) := by decide +kernel
theorem dX11_air_38 : decode cX11_air 38 = .ok (.aload_n 2, 1) := by decide +kernel
theorem dX11_air_39 : decode cX11_air 39 = .ok (.invokevirtual 69, 3) := by decide +kernel
theorem dX11_air_42 : decode cX11_air 42 = .ok (.istore 4, 2) := by decide +kernel
theorem dX11_air_44 : decode cX11_air 44 = .ok (.iload 4, 2) := by decide +kernel
theorem dX11_air_46 : decode cX11_air 46 = .ok (.ifCond .le 14, 3) := by decide +kernel
theorem dX11_air_49 : decode cX11_air 49 = .ok (.aload_n 0, 1) := by decide +kernel
theorem dX11_air_50 : decode cX11_air 50 = .ok (.getfield 10, 3) := by decide +kernel
theorem dX11_air_53 : decode cX11_air 53 = .ok (.aload_n 0, 1) := by decide +kernel
theorem dX11_air_54 : decode cX11_air 54 = .ok (.getfield 16, 3) := by decide +kernel
theorem dX11_air_57 : decode cX11_air 57 = .ok (.invokevirtual 66, 3) := by decide +kernel
theorem dX11_air_60 : decode cX11_air 60 = .ok (.iload 4, 2) := by decide +kernel
theorem dX11_air_62 : decode cX11_air 62 = .ok (.ireturn, 1) := by decide +kernel
theorem dX11_wind_0 : decode cX11_wind 0 = .ok (.iload_n 1, 1) := by decide +kernel
theorem dX11_wind_1 : decode cX11_wind 1 = .ok (.invokestatic 72, 3) := by decide +kernel
theorem dX11_wind_4 : decode cX11_wind 4 = .ok (.ifCond .ne 6, 3) := by decide +kernel
theorem dX11_wind_7 : decode cX11_wind 7 = .ok (.ldc 76, 2) := by decide +kernel
theorem dX11_wind_9 : decode cX11_wind 9 = .ok (.ireturn, 1) := by decide +kernel
theorem dX11_wind_10 : decode cX11_wind 10 = .ok (.iload_n 2, 1) := by decide +kernel
theorem dX11_wind_11 : decode cX11_wind 11 = .ok (.ifCond .eq 15, 3) := by decide +kernel
theorem dX11_wind_14 : decode cX11_wind 14 = .ok (.aload_n 0, 1) := by decide +kernel
theorem dX11_wind_15 : decode cX11_wind 15 = .ok (.getfield 10, 3) := by decide +kernel
theorem dX11_wind_18 : decode cX11_wind 18 = .ok (.getfield 77, 3) := by decide +kernel
theorem dX11_wind_21 : decode cX11_wind 21 = .ok (.iload_n 1, 1) := by decide +kernel
theorem dX11_wind_22 : decode cX11_wind 22 = .ok (.iaload, 1) := by decide +kernel
theorem dX11_wind_23 : decode cX11_wind 23 = .ok (.goto 12, 3) := by decide +kernel
theorem dX11_wind_26 : decode cX11_wind 26 = .ok (.aload_n 0, 1) := by decide +kernel
theorem dX11_wind_27 : decode cX11_wind 27 = .ok (.getfield 10, 3) := by decide +kernel
theorem dX11_wind_30 : decode cX11_wind 30 = .ok (.getfield 80, 3) := by decide +kernel
theorem dX11_wind_33 : decode cX11_wind 33 = .ok (.iload_n 1, 1) := by decide +kernel
theorem dX11_wind_34 : decode cX11_wind 34 = .ok (.iaload, 1) := by decide +kernel
theorem dX11_wind_35 : decode cX11_wind 35 = .ok (.ireturn, 1) := by decide +kernel
theorem dX11_set_0 : decode cX11_set 0 = .ok (.iconst (-1), 1) := by decide +kernel
theorem dX11_set_1 : decode cX11_set 1 = .ok (.istore_n 3, 1) := by decide +kernel
theorem dX11_set_2 : decode cX11_set 2 = .ok (.iload_n 1, 1) := by decide +kernel
theorem dX11_set_3 : decode cX11_set 3 = .ok (.ifCond .ne 32, 3) := by decide +kernel
theorem dX11_set_6 : decode cX11_set 6 = .ok (.iconst 0, 1) := by decide +kernel
theorem dX11_set_7 : decode cX11_set 7 = .ok (.iload_n 2, 1) := by decide +kernel
theorem dX11_set_8 : decode cX11_set 8 = .ok (.bipush 30, 2) := by decide +kernel
theorem dX11_set_10 : decode cX11_set 10 = .ok (.invokestatic 83, 3) := by decide +kernel
theorem dX11_set_13 : decode cX11_set 13 = .ok (.ifCond .eq 22, 3) := by decide +kernel
theorem dX11_set_16 : decode cX11_set 16 = .ok (.aload_n 0, 1) := by decide +kernel
theorem dX11_set_17 : decode cX11_set 17 = .ok (.getfield 10, 3) := by decide +kernel
theorem dX11_set_20 : decode cX11_set 20 = .ok (.getfield 87, 3) := by decide +kernel
theorem dX11_set_23 : decode cX11_set 23 = .ok (.istore_n 3, 1) := by decide +kernel
theorem dX11_set_24 : decode cX11_set 24 = .ok (.aload_n 0, 1) := by decide +kernel
theorem dX11_set_25 : decode cX11_set 25 = .ok (.getfield 10, 3) := by decide +kernel
theorem dX11_set_28 : decode cX11_set 28 = .ok (.iload_n 2, 1) := by decide +kernel
theorem dX11_set_29 : decode cX11_set 29 = .ok (.putfield 87, 3) := by decide +kernel
theorem dX11_set_32 : decode cX11_set 32 = .ok (.goto 72, 3) := by decide +kernel
theorem dX11_set_35 : decode cX11_set 35 = .ok (.iload_n 1, 1) := by decide +kernel
theorem dX11_set_36 : decode cX11_set 36 = .ok (.iconst 1, 1) := by decide +kernel
theorem dX11_set_37 : decode cX11_set 37 = .ok (.if_icmp .ne 33, 3) := by decide +kernel
theorem dX11_set_40 : decode cX11_set 40 = .ok (.iconst 0, 1) := by decide +kernel
theorem dX11_set_41 : decode cX11_set 41 = .ok (.iload_n 2, 1) := by decide +kernel
theorem dX11_set_42 : decode cX11_set 42 = .ok (.sipush 900, 3) := by decide +kernel
theorem dX11_set_45 : decode cX11_set 45 = .ok (.invokestatic 83, 3) := by decide +kernel
theorem dX11_set_48 : decode cX11_set 48 = .ok (.ifCond .eq 22, 3) := by decide +kernel
theorem dX11_set_51 : decode cX11_set 51 = .ok (.aload_n 0, 1) := by decide +kernel
theorem dX11_set_52 : decode cX11_set 52 = .ok (.getfield 10, 3) := by decide +kernel
theorem dX11_set_55 : decode cX11_set 55 = .ok (.getfield 91, 3) := by decide +kernel
theorem dX11_set_58 : decode cX11_set 58 = .ok (.istore_n 3, 1) := by decide +kernel
theorem dX11_set_59 : decode cX11_set 59 = .ok (.aload_n 0, 1) := by decide +kernel
theorem dX11_set_60 : decode cX11_set 60 = .ok (.getfield 10, 3) := by decide +kernel
theorem dX11_set_63 : decode cX11_set 63 = .ok (.iload_n 2, 1) := by decide +kernel
theorem dX11_set_64 : decode cX11_set 64 = .ok (.putfield 91, 3) := by decide +kernel
theorem dX11_set_67 : decode cX11_set 67 = .ok (.goto 37, 3) := by decide +kernel
theorem dX11_set_70 : decode cX11_set 70 = .ok (.iload_n 1, 1) := by decide +kernel
theorem dX11_set_71 : decode cX11_set 71 = .ok (.iconst 2, 1) := by decide +kernel
theorem dX11_set_72 : decode cX11_set 72 = .ok (.if_icmp .ne 32, 3) := by decide +kernel
theorem dX11_set_75 : decode cX11_set 75 = .ok (.sipush 300, 3) := by decide +kernel
theorem dX11_set_78 : decode cX11_set 78 = .ok (.iload_n 2, 1) := by decide +kernel
theorem dX11_set_79 : decode cX11_set 79 = .ok (.sipush 3000, 3) := by decide +kernel
theorem dX11_set_82 : decode cX11_set 82 = .ok (.invokestatic 83, 3) := by decide +kernel
theorem dX11_set_85 : decode cX11_set 85 = .ok (.ifCond .eq 19, 3) := by decide +kernel
theorem dX11_set_88 : decode cX11_set 88 = .ok (.aload_n 0, 1) := by decide +kernel
theorem dX11_set_89 : decode cX11_set 89 = .ok (.getfield 10, 3) := by decide +kernel
theorem dX11_set_92 : decode cX11_set 92 = .ok (.getfield 94, 3) := by decide +kernel
theorem dX11_set_95 : decode cX11_set 95 = .ok (.istore_n 3, 1) := by decide +kernel
theorem dX11_set_96 : decode cX11_set 96 = .ok (.aload_n 0, 1) := by decide +kernel
theorem dX11_set_97 : decode cX11_set 97 = .ok (.getfield 10, 3) := by decide +kernel
theorem dX11_set_100 : decode cX11_set 100 = .ok (.iload_n 2, 1) := by decide +kernel
theorem dX11_set_101 : decode cX11_set 101 = .ok (.putfield 94, 3) := by decide +kernel
theorem dX11_set_104 : decode cX11_set 104 = .ok (.iload_n 3, 1) := by decide +kernel
theorem dX11_set_105 : decode cX11_set 105 = .ok (.ireturn, 1) := by decide +kernel
theorem dX11_faller_0 : decode cX11_faller 0 = .ok (.aload_n 0, 1) := by decide +kernel
theorem dX11_faller_1 : decode cX11_faller 1 = .ok (.getfield 10, 3) := by decide +kernel
theorem dX11_faller_4 : decode cX11_faller 4 = .ok (.iload_n 1, 1) := by decide +kernel
theorem dX11_faller_5 : decode cX11_faller 5 = .ok (.invokevirtual 97, 3) := by decide +kernel
theorem dX11_faller_8 : decode cX11_faller 8 = .ok (.astore_n 3, 1) := by decide +kernel
theorem dX11_faller_9 : decode cX11_faller 9 = .ok (.aload_n 3, 1) := by decide +kernel
theorem dX11_faller_10 : decode cX11_faller 10 = .ok (.ifnonnull 5, 3) := by decide +kernel
theorem dX11_faller_13 : decode cX11_faller 13 = .ok (.iconst (-1), 1) := by decide +kernel
theorem dX11_faller_14 : decode cX11_faller 14 = .ok (.ireturn, 1) := by decide +kernel
theorem dX11_faller_15 : decode cX11_faller 15 = .ok (.iload_n 2, 1) := by decide +kernel
theorem dX11_faller_16 : decode cX11_faller 16 = .ok (.tableswitch 70 0 5 #[40, 45, 50, 55, 60, 65], 40) := by decide +kernel
theorem dX11_faller_56 : decode cX11_faller 56 = .ok (.aload_n 3, 1) := by decide +kernel
theorem dX11_faller_57 : decode cX11_faller 57 = .ok (.getfield 101, 3) := by decide +kernel
theorem dX11_faller_60 : decode cX11_faller 60 = .ok (.ireturn, 1) := by decide +kernel
theorem dX11_faller_61 : decode cX11_faller 61 = .ok (.aload_n 3, 1) := by decide +kernel
theorem dX11_faller_62 : decode cX11_faller 62 = .ok (.getfield 106, 3) := by decide +kernel
theorem dX11_faller_65 : decode cX11_faller 65 = .ok (.ireturn, 1) := by decide +kernel
theorem dX11_faller_66 : decode cX11_faller 66 = .ok (.aload_n 3, 1) := by decide +kernel
theorem dX11_faller_67 : decode cX11_faller 67 = .ok (.getfield 109, 3) := by decide +kernel
theorem dX11_faller_70 : decode cX11_faller 70 = .ok (.ireturn, 1) := by decide +kernel
theorem dX11_faller_71 : decode cX11_faller 71 = .ok (.aload_n 3, 1) := by decide +kernel
theorem dX11_faller_72 : decode cX11_faller 72 = .ok (.getfield 112, 3) := by decide +kernel
theorem dX11_faller_75 : decode cX11_faller 75 = .ok (.ireturn, 1) := by decide +kernel
theorem dX11_faller_76 : decode cX11_faller 76 = .ok (.aload_n 3, 1) := by decide +kernel
theorem dX11_faller_77 : decode cX11_faller 77 = .ok (.getfield 115, 3) := by decide +kernel
theorem dX11_faller_80 : decode cX11_faller 80 = .ok (.ireturn, 1) := by decide +kernel
theorem dX11_faller_81 : decode cX11_faller 81 = .ok (.aload_n 3, 1) := by decide +kernel
theorem dX11_faller_82 : decode cX11_faller 82 = .ok (.getfield 118, 3) := by decide +kernel
theorem dX11_faller_85 : decode cX11_faller 85 = .ok (.ireturn, 1) := by decide +kernel
theorem dX11_faller_86 : decode cX11_faller 86 = .ok (.iconst (-1), 1) := by decide +kernel
theorem dX11_faller_87 : decode cX11_faller 87 = .ok (.ireturn, 1) := by decide +kernel
theorem dX11_drift_0 : decode cX11_drift 0 = .ok (.aload_n 0, 1) := by decide +kernel
theorem dX11_drift_1 : decode cX11_drift 1 = .ok (.getfield 10, 3) := by decide +kernel
theorem dX11_drift_4 : decode cX11_drift 4 = .ok (.iload_n 1, 1) := by decide +kernel
theorem dX11_drift_5 : decode cX11_drift 5 = .ok (.invokevirtual 97, 3) := by decide +kernel
theorem dX11_drift_8 : decode cX11_drift 8 = .ok (.astore_n 3, 1) := by decide +kernel
theorem dX11_drift_9 : decode cX11_drift 9 = .ok (.aload_n 3, 1) := by decide +kernel
theorem dX11_drift_10 : decode cX11_drift 10 = .ok (.ifnull 14, 3) := by decide +kernel
theorem dX11_drift_13 : decode cX11_drift 13 = .ok (.bipush (-120), 2) := by decide +kernel
theorem dX11_drift_15 : decode cX11_drift 15 = .ok (.iload_n 2, 1) := by decide +kernel
theorem dX11_drift_16 : decode cX11_drift 16 = .ok (.bipush 120, 2) := by decide +kernel
theorem dX11_drift_18 : decode cX11_drift 18 = .ok (.invokestatic 83, 3) := by decide +kernel
theorem dX11_drift_21 : decode cX11_drift 21 = .ok (.ifCond .ne 6, 3) := by decide +kernel
theorem dX11_drift_24 : decode cX11_drift 24 = .ok (.ldc 76, 2) := by decide +kernel
theorem dX11_drift_26 : decode cX11_drift 26 = .ok (.ireturn, 1) := by decide +kernel
theorem dX11_drift_27 : decode cX11_drift 27 = .ok (.aload_n 3, 1) := by decide +kernel
theorem dX11_drift_28 : decode cX11_drift 28 = .ok (.iload_n 2, 1) := by decide +kernel
theorem dX11_drift_29 : decode cX11_drift 29 = .ok (.invokevirtual 121, 3) := by decide +kernel
theorem dX11_drift_32 : decode cX11_drift 32 = .ok (.ireturn, 1) := by decide +kernel
theorem dX11_steers_0 : decode cX11_steers 0 = .ok (.aload_n 0, 1) := by decide +kernel
theorem dX11_steers_1 : decode cX11_steers 1 = .ok (.getfield 10, 3) := by decide +kernel
theorem dX11_steers_4 : decode cX11_steers 4 = .ok (.iload_n 1, 1) := by decide +kernel
theorem dX11_steers_5 : decode cX11_steers 5 = .ok (.invokevirtual 97, 3) := by decide +kernel
theorem dX11_steers_8 : decode cX11_steers 8 = .ok (.astore 6, 2) := by decide +kernel
theorem dX11_steers_10 : decode cX11_steers 10 = .ok (.aload 6, 2) := by decide +kernel
theorem dX11_steers_12 : decode cX11_steers 12 = .ok (.ifnull 19, 3) := by decide +kernel
theorem dX11_steers_15 : decode cX11_steers 15 = .ok (.iload_n 2, 1) := by decide +kernel
theorem dX11_steers_16 : decode cX11_steers 16 = .ok (.iload_n 3, 1) := by decide +kernel
theorem dX11_steers_17 : decode cX11_steers 17 = .ok (.invokestatic 125, 3) := by decide +kernel
theorem dX11_steers_20 : decode cX11_steers 20 = .ok (.ifCond .eq 11, 3) := by decide +kernel
theorem dX11_steers_23 : decode cX11_steers 23 = .ok (.iload 4, 2) := by decide +kernel
theorem dX11_steers_25 : decode cX11_steers 25 = .ok (.invokestatic 72, 3) := by decide +kernel
theorem dX11_steers_28 : decode cX11_steers 28 = .ok (.ifCond .ne 6, 3) := by decide +kernel
theorem dX11_steers_31 : decode cX11_steers 31 = .ok (.ldc 76, 2) := by decide +kernel
theorem dX11_steers_33 : decode cX11_steers 33 = .ok (.ireturn, 1) := by decide +kernel
theorem dX11_steers_34 : decode cX11_steers 34 = .ok (.aload_n 0, 1) := by decide +kernel
theorem dX11_steers_35 : decode cX11_steers 35 = .ok (.getfield 10, 3) := by decide +kernel
theorem dX11_steers_38 : decode cX11_steers 38 = .ok (.getfield 80, 3) := by decide +kernel
theorem dX11_steers_41 : decode cX11_steers 41 = .ok (.iload 4, 2) := by decide +kernel
theorem dX11_steers_43 : decode cX11_steers 43 = .ok (.iaload, 1) := by decide +kernel
theorem dX11_steers_44 : decode cX11_steers 44 = .ok (.istore 7, 2) := by decide +kernel
theorem dX11_steers_46 : decode cX11_steers 46 = .ok (.aload_n 0, 1) := by decide +kernel
theorem dX11_steers_47 : decode cX11_steers 47 = .ok (.getfield 10, 3) := by decide +kernel
theorem dX11_steers_50 : decode cX11_steers 50 = .ok (.getfield 77, 3) := by decide +kernel
theorem dX11_steers_53 : decode cX11_steers 53 = .ok (.iload 4, 2) := by decide +kernel
theorem dX11_steers_55 : decode cX11_steers 55 = .ok (.iaload, 1) := by decide +kernel
theorem dX11_steers_56 : decode cX11_steers 56 = .ok (.istore 8, 2) := by decide +kernel
theorem dX11_steers_58 : decode cX11_steers 58 = .ok (.iload 5, 2) := by decide +kernel
theorem dX11_steers_60 : decode cX11_steers 60 = .ok (.ifCond .eq 17, 3) := by decide +kernel
theorem dX11_steers_63 : decode cX11_steers 63 = .ok (.aload 6, 2) := by decide +kernel
theorem dX11_steers_65 : decode cX11_steers 65 = .ok (.iload_n 2, 1) := by decide +kernel
theorem dX11_steers_66 : decode cX11_steers 66 = .ok (.iload_n 3, 1) := by decide +kernel
theorem dX11_steers_67 : decode cX11_steers 67 = .ok (.iload 7, 2) := by decide +kernel
theorem dX11_steers_69 : decode cX11_steers 69 = .ok (.iload 8, 2) := by decide +kernel
theorem dX11_steers_71 : decode cX11_steers 71 = .ok (.invokevirtual 129, 3) := by decide +kernel
theorem dX11_steers_74 : decode cX11_steers 74 = .ok (.goto 14, 3) := by decide +kernel
theorem dX11_steers_77 : decode cX11_steers 77 = .ok (.aload 6, 2) := by decide +kernel
theorem dX11_steers_79 : decode cX11_steers 79 = .ok (.iload_n 2, 1) := by decide +kernel
theorem dX11_steers_80 : decode cX11_steers 80 = .ok (.iload_n 3, 1) := by decide +kernel
theorem dX11_steers_81 : decode cX11_steers 81 = .ok (.iload 7, 2) := by decide +kernel
theorem dX11_steers_83 : decode cX11_steers 83 = .ok (.iload 8, 2) := by decide +kernel
theorem dX11_steers_85 : decode cX11_steers 85 = .ok (.invokevirtual 133, 3) := by decide +kernel
theorem dX11_steers_88 : decode cX11_steers 88 = .ok (.ireturn, 1) := by decide +kernel
theorem dX11_barred_0 : decode cX11_barred 0 = .ok (.iload_n 1, 1) := by decide +kernel
theorem dX11_barred_1 : decode cX11_barred 1 = .ok (.iload_n 2, 1) := by decide +kernel
theorem dX11_barred_2 : decode cX11_barred 2 = .ok (.invokestatic 125, 3) := by decide +kernel
theorem dX11_barred_5 : decode cX11_barred 5 = .ok (.ifCond .ne 5, 3) := by decide +kernel
theorem dX11_barred_8 : decode cX11_barred 8 = .ok (.iconst (-1), 1) := by decide +kernel
theorem dX11_barred_9 : decode cX11_barred 9 = .ok (.ireturn, 1) := by decide +kernel
theorem dX11_barred_10 : decode cX11_barred 10 = .ok (.aload_n 0, 1) := by decide +kernel
theorem dX11_barred_11 : decode cX11_barred 11 = .ok (.getfield 10, 3) := by decide +kernel
theorem dX11_barred_14 : decode cX11_barred 14 = .ok (.iload_n 1, 1) := by decide +kernel
theorem dX11_barred_15 : decode cX11_barred 15 = .ok (.iload_n 2, 1) := by decide +kernel
theorem dX11_barred_16 : decode cX11_barred 16 = .ok (.invokevirtual 136, 3) := by decide +kernel
theorem dX11_barred_19 : decode cX11_barred 19 = .ok (.ifCond .eq 7, 3) := by decide +kernel
theorem dX11_barred_22 : decode cX11_barred 22 = .ok (.iconst 1, 1) := by decide +kernel
theorem dX11_barred_23 : decode cX11_barred 23 = .ok (.goto 4, 3) := by decide +kernel
theorem dX11_barred_26 : decode cX11_barred 26 = .ok (.iconst 0, 1) := by decide +kernel
theorem dX11_barred_27 : decode cX11_barred 27 = .ok (.ireturn, 1) := by decide +kernel
theorem dX11_fall_0 : decode cX11_fall 0 = .ok (.aload_n 0, 1) := by decide +kernel
theorem dX11_fall_1 : decode cX11_fall 1 = .ok (.iload_n 1, 1) := by decide +kernel
theorem dX11_fall_2 : decode cX11_fall 2 = .ok (.iload_n 2, 1) := by decide +kernel
theorem dX11_fall_3 : decode cX11_fall 3 = .ok (.iload_n 3, 1) := by decide +kernel
theorem dX11_fall_4 : decode cX11_fall 4 = .ok (.iconst 1, 1) := by decide +kernel
theorem dX11_fall_5 : decode cX11_fall 5 = .ok (.iload 4, 2) := by decide +kernel
theorem dX11_fall_7 : decode cX11_fall 7 = .ok (.invokevirtual 139, 3) := by decide +kernel
theorem dX11_fall_10 : decode cX11_fall 10 = .ok (.ireturn, 1) := by decide +kernel
theorem dX11_fallBy_0 : decode cX11_fallBy 0 = .ok (.aload_n 0, 1) := by decide +kernel
theorem dX11_fallBy_1 : decode cX11_fallBy 1 = .ok (.iload_n 1, 1) := by decide +kernel
theorem dX11_fallBy_2 : decode cX11_fallBy 2 = .ok (.iload_n 2, 1) := by decide +kernel
theorem dX11_fallBy_3 : decode cX11_fallBy 3 = .ok (.iload_n 3, 1) := by decide +kernel
theorem dX11_fallBy_4 : decode cX11_fallBy 4 = .ok (.iload 4, 2) := by decide +kernel
theorem dX11_fallBy_6 : decode cX11_fallBy 6 = .ok (.iload 5, 2) := by decide +kernel
theorem dX11_fallBy_8 : decode cX11_fallBy 8 = .ok (.invokevirtual 139, 3) := by decide +kernel
theorem dX11_fallBy_11 : decode cX11_fallBy 11 = .ok (.ireturn, 1) := by decide +kernel
theorem dX11_at_0 : decode cX11_at 0 = .ok (.aload_n 0, 1) := by decide +kernel
theorem dX11_at_1 : decode cX11_at 1 = .ok (.getfield 10, 3) := by decide +kernel
theorem dX11_at_4 : decode cX11_at 4 = .ok (.iload_n 1, 1) := by decide +kernel
theorem dX11_at_5 : decode cX11_at 5 = .ok (.invokevirtual 97, 3) := by decide +kernel
theorem dX11_at_8 : decode cX11_at 8 = .ok (.astore 6, 2) := by decide +kernel
theorem dX11_at_10 : decode cX11_at 10 = .ok (.aload 6, 2) := by decide +kernel
theorem dX11_at_12 : decode cX11_at 12 = .ok (.ifnull 33, 3) := by decide +kernel
theorem dX11_at_15 : decode cX11_at 15 = .ok (.iload_n 2, 1) := by decide +kernel
theorem dX11_at_16 : decode cX11_at 16 = .ok (.iload_n 3, 1) := by decide +kernel
theorem dX11_at_17 : decode cX11_at 17 = .ok (.invokestatic 125, 3) := by decide +kernel
theorem dX11_at_20 : decode cX11_at 20 = .ok (.ifCond .eq 25, 3) := by decide +kernel
theorem dX11_at_23 : decode cX11_at 23 = .ok (.iconst 0, 1) := by decide +kernel
theorem dX11_at_24 : decode cX11_at 24 = .ok (.iload 4, 2) := by decide +kernel
theorem dX11_at_26 : decode cX11_at 26 = .ok (.sipush 400, 3) := by decide +kernel
theorem dX11_at_29 : decode cX11_at 29 = .ok (.invokestatic 83, 3) := by decide +kernel
theorem dX11_at_32 : decode cX11_at 32 = .ok (.ifCond .eq 13, 3) := by decide +kernel
theorem dX11_at_35 : decode cX11_at 35 = .ok (.iconst 0, 1) := by decide +kernel
theorem dX11_at_36 : decode cX11_at 36 = .ok (.iload 5, 2) := by decide +kernel
theorem dX11_at_38 : decode cX11_at 38 = .ok (.iconst 2, 1) := by decide +kernel
theorem dX11_at_39 : decode cX11_at 39 = .ok (.invokestatic 83, 3) := by decide +kernel
theorem dX11_at_42 : decode cX11_at 42 = .ok (.ifCond .ne 6, 3) := by decide +kernel
theorem dX11_at_45 : decode cX11_at 45 = .ok (.ldc 76, 2) := by decide +kernel
theorem dX11_at_47 : decode cX11_at 47 = .ok (.ireturn, 1) := by decide +kernel
theorem dX11_at_48 : decode cX11_at 48 = .ok (.aload_n 0, 1) := by decide +kernel
theorem dX11_at_49 : decode cX11_at 49 = .ok (.getfield 31, 3) := by decide +kernel
theorem dX11_at_52 : decode cX11_at 52 = .ok (.aload 6, 2) := by decide +kernel
theorem dX11_at_54 : decode cX11_at 54 = .ok (.iload_n 2, 1) := by decide +kernel
theorem dX11_at_55 : decode cX11_at 55 = .ok (.iload_n 3, 1) := by decide +kernel
theorem dX11_at_56 : decode cX11_at 56 = .ok (.iconst 1, 1) := by decide +kernel
theorem dX11_at_57 : decode cX11_at 57 = .ok (.invokevirtual 143, 3) := by decide +kernel
theorem dX11_at_60 : decode cX11_at 60 = .ok (.aload_n 0, 1) := by decide +kernel
theorem dX11_at_61 : decode cX11_at 61 = .ok (.getfield 31, 3) := by decide +kernel
theorem dX11_at_64 : decode cX11_at 64 = .ok (.iload 4, 2) := by decide +kernel
theorem dX11_at_66 : decode cX11_at 66 = .ok (.invokevirtual 147, 3) := by decide +kernel
theorem dX11_at_69 : decode cX11_at 69 = .ok (.iload 5, 2) := by decide +kernel
theorem dX11_at_71 : decode cX11_at 71 = .ok (.ifCond .ne 13, 3) := by decide +kernel
theorem dX11_at_74 : decode cX11_at 74 = .ok (.aload_n 0, 1) := by decide +kernel
theorem dX11_at_75 : decode cX11_at 75 = .ok (.getfield 31, 3) := by decide +kernel
theorem dX11_at_78 : decode cX11_at 78 = .ok (.getfield 151, 3) := by decide +kernel
theorem dX11_at_81 : decode cX11_at 81 = .ok (.goto 26, 3) := by decide +kernel
theorem dX11_at_84 : decode cX11_at 84 = .ok (.iload 5, 2) := by decide +kernel
theorem dX11_at_86 : decode cX11_at 86 = .ok (.iconst 1, 1) := by decide +kernel
theorem dX11_at_87 : decode cX11_at 87 = .ok (.if_icmp .ne 13, 3) := by decide +kernel
theorem dX11_at_90 : decode cX11_at 90 = .ok (.aload_n 0, 1) := by decide +kernel
theorem dX11_at_91 : decode cX11_at 91 = .ok (.getfield 31, 3) := by decide +kernel
theorem dX11_at_94 : decode cX11_at 94 = .ok (.getfield 154, 3) := by decide +kernel
theorem dX11_at_97 : decode cX11_at 97 = .ok (.goto 10, 3) := by decide +kernel
theorem dX11_at_100 : decode cX11_at 100 = .ok (.aload_n 0, 1) := by decide +kernel
theorem dX11_at_101 : decode cX11_at 101 = .ok (.getfield 31, 3) := by decide +kernel
theorem dX11_at_104 : decode cX11_at 104 = .ok (.getfield 157, 3) := by decide +kernel
theorem dX11_at_107 : decode cX11_at 107 = .ok (.ireturn, 1) := by decide +kernel
theorem dX11_mean_0 : decode cX11_mean 0 = .ok (.aload_n 0, 1) := by decide +kernel
theorem dX11_mean_1 : decode cX11_mean 1 = .ok (.getfield 10, 3) := by decide +kernel
theorem dX11_mean_4 : decode cX11_mean 4 = .ok (.iload_n 1, 1) := by decide +kernel
theorem dX11_mean_5 : decode cX11_mean 5 = .ok (.invokevirtual 97, 3) := by decide +kernel
theorem dX11_mean_8 : decode cX11_mean 8 = .ok (.astore 5, 2) := by decide +kernel
theorem dX11_mean_10 : decode cX11_mean 10 = .ok (.aload 5, 2) := by decide +kernel
theorem dX11_mean_12 : decode cX11_mean 12 = .ok (.ifnull 11, 3) := by decide +kernel
theorem dX11_mean_15 : decode cX11_mean 15 = .ok (.iload_n 2, 1) := by decide +kernel
theorem dX11_mean_16 : decode cX11_mean 16 = .ok (.iload_n 3, 1) := by decide +kernel
theorem dX11_mean_17 : decode cX11_mean 17 = .ok (.invokestatic 125, 3) := by decide +kernel
theorem dX11_mean_20 : decode cX11_mean 20 = .ok (.ifCond .ne 6, 3) := by decide +kernel
theorem dX11_mean_23 : decode cX11_mean 23 = .ok (.ldc 76, 2) := by decide +kernel
theorem dX11_mean_25 : decode cX11_mean 25 = .ok (.ireturn, 1) := by decide +kernel
theorem dX11_mean_26 : decode cX11_mean 26 = .ok (.aload_n 0, 1) := by decide +kernel
theorem dX11_mean_27 : decode cX11_mean 27 = .ok (.getfield 31, 3) := by decide +kernel
theorem dX11_mean_30 : decode cX11_mean 30 = .ok (.aload 5, 2) := by decide +kernel
theorem dX11_mean_32 : decode cX11_mean 32 = .ok (.iload_n 2, 1) := by decide +kernel
theorem dX11_mean_33 : decode cX11_mean 33 = .ok (.iload_n 3, 1) := by decide +kernel
theorem dX11_mean_34 : decode cX11_mean 34 = .ok (.iconst 1, 1) := by decide +kernel
theorem dX11_mean_35 : decode cX11_mean 35 = .ok (.invokevirtual 143, 3) := by decide +kernel
theorem dX11_mean_38 : decode cX11_mean 38 = .ok (.aload_n 0, 1) := by decide +kernel
theorem dX11_mean_39 : decode cX11_mean 39 = .ok (.getfield 31, 3) := by decide +kernel
theorem dX11_mean_42 : decode cX11_mean 42 = .ok (.iconst 0, 1) := by decide +kernel
theorem dX11_mean_43 : decode cX11_mean 43 = .ok (.iconst 0, 1) := by decide +kernel
theorem dX11_mean_44 : decode cX11_mean 44 = .ok (.invokevirtual 160, 3) := by decide +kernel
theorem dX11_mean_47 : decode cX11_mean 47 = .ok (.aload_n 0, 1) := by decide +kernel
theorem dX11_mean_48 : decode cX11_mean 48 = .ok (.getfield 31, 3) := by decide +kernel
theorem dX11_mean_51 : decode cX11_mean 51 = .ok (.aload 5, 2) := by decide +kernel
theorem dX11_mean_53 : decode cX11_mean 53 = .ok (.getfield 109, 3) := by decide +kernel
theorem dX11_mean_56 : decode cX11_mean 56 = .ok (.invokevirtual 147, 3) := by decide +kernel
theorem dX11_mean_59 : decode cX11_mean 59 = .ok (.iload 4, 2) := by decide +kernel
theorem dX11_mean_61 : decode cX11_mean 61 = .ok (.ifCond .eq 13, 3) := by decide +kernel
theorem dX11_mean_64 : decode cX11_mean 64 = .ok (.aload_n 0, 1) := by decide +kernel
theorem dX11_mean_65 : decode cX11_mean 65 = .ok (.getfield 31, 3) := by decide +kernel
theorem dX11_mean_68 : decode cX11_mean 68 = .ok (.getfield 154, 3) := by decide +kernel
theorem dX11_mean_71 : decode cX11_mean 71 = .ok (.goto 10, 3) := by decide +kernel
theorem dX11_mean_74 : decode cX11_mean 74 = .ok (.aload_n 0, 1) := by decide +kernel
theorem dX11_mean_75 : decode cX11_mean 75 = .ok (.getfield 31, 3) := by decide +kernel
theorem dX11_mean_78 : decode cX11_mean 78 = .ok (.getfield 151, 3) := by decide +kernel
theorem dX11_mean_81 : decode cX11_mean 81 = .ok (.istore 6, 2) := by decide +kernel
theorem dX11_mean_83 : decode cX11_mean 83 = .ok (.aload_n 0, 1) := by decide +kernel
theorem dX11_mean_84 : decode cX11_mean 84 = .ok (.getfield 31, 3) := by decide +kernel
theorem dX11_mean_87 : decode cX11_mean 87 = .ok (.getfield 164, 3) := by decide +kernel
theorem dX11_mean_90 : decode cX11_mean 90 = .ok (.istore 7, 2) := by decide +kernel
theorem dX11_mean_92 : decode cX11_mean 92 = .ok (.aload_n 0, 1) := by decide +kernel
theorem dX11_mean_93 : decode cX11_mean 93 = .ok (.getfield 31, 3) := by decide +kernel
theorem dX11_mean_96 : decode cX11_mean 96 = .ok (.invokevirtual 167, 3) := by decide +kernel
theorem dX11_mean_99 : decode cX11_mean 99 = .ok (.aload_n 0, 1) := by decide +kernel
theorem dX11_mean_100 : decode cX11_mean 100 = .ok (.getfield 31, 3) := by decide +kernel
theorem dX11_mean_103 : decode cX11_mean 103 = .ok (.getfield 164, 3) := by decide +kernel
theorem dX11_mean_106 : decode cX11_mean 106 = .ok (.iload 7, 2) := by decide +kernel
theorem dX11_mean_108 : decode cX11_mean 108 = .ok (.isub, 1) := by decide +kernel
theorem dX11_mean_109 : decode cX11_mean 109 = .ok (.istore 8, 2) := by decide +kernel
theorem dX11_mean_111 : decode cX11_mean 111 = .ok (.iload 8, 2) := by decide +kernel
theorem dX11_mean_113 : decode cX11_mean 113 = .ok (.ifCond .gt 5, 3) := by decide +kernel
theorem dX11_mean_116 : decode cX11_mean 116 = .ok (.iconst 0, 1) := by decide +kernel
theorem dX11_mean_117 : decode cX11_mean 117 = .ok (.ireturn, 1) := by decide +kernel
theorem dX11_mean_118 : decode cX11_mean 118 = .ok (.iload 4, 2) := by decide +kernel
theorem dX11_mean_120 : decode cX11_mean 120 = .ok (.ifCond .eq 13, 3) := by decide +kernel
theorem dX11_mean_123 : decode cX11_mean 123 = .ok (.aload_n 0, 1) := by decide +kernel
theorem dX11_mean_124 : decode cX11_mean 124 = .ok (.getfield 31, 3) := by decide +kernel
theorem dX11_mean_127 : decode cX11_mean 127 = .ok (.getfield 154, 3) := by decide +kernel
theorem dX11_mean_130 : decode cX11_mean 130 = .ok (.goto 10, 3) := by decide +kernel
theorem dX11_mean_133 : decode cX11_mean 133 = .ok (.aload_n 0, 1) := by decide +kernel
theorem dX11_mean_134 : decode cX11_mean 134 = .ok (.getfield 31, 3) := by decide +kernel
theorem dX11_mean_137 : decode cX11_mean 137 = .ok (.getfield 151, 3) := by decide +kernel
theorem dX11_mean_140 : decode cX11_mean 140 = .ok (.iload 6, 2) := by decide +kernel
theorem dX11_mean_142 : decode cX11_mean 142 = .ok (.isub, 1) := by decide +kernel
theorem dX11_mean_143 : decode cX11_mean 143 = .ok (.iload 8, 2) := by decide +kernel
theorem dX11_mean_145 : decode cX11_mean 145 = .ok (.idiv, 1) := by decide +kernel
theorem dX11_mean_146 : decode cX11_mean 146 = .ok (.ireturn, 1) := by decide +kernel
theorem dX11_exit_0 : decode cX11_exit 0 = .ok (.aload_n 0, 1) := by decide +kernel
theorem dX11_exit_1 : decode cX11_exit 1 = .ok (.getfield 10, 3) := by decide +kernel
theorem dX11_exit_4 : decode cX11_exit 4 = .ok (.iload_n 1, 1) := by decide +kernel
theorem dX11_exit_5 : decode cX11_exit 5 = .ok (.invokevirtual 97, 3) := by decide +kernel
theorem dX11_exit_8 : decode cX11_exit 8 = .ok (.astore_n 3, 1) := by decide +kernel
theorem dX11_exit_9 : decode cX11_exit 9 = .ok (.aload_n 3, 1) := by decide +kernel
theorem dX11_exit_10 : decode cX11_exit 10 = .ok (.ifnull 12, 3) := by decide +kernel
theorem dX11_exit_13 : decode cX11_exit 13 = .ok (.iconst 0, 1) := by decide +kernel
theorem dX11_exit_14 : decode cX11_exit 14 = .ok (.iload_n 2, 1) := by decide +kernel
theorem dX11_exit_15 : decode cX11_exit 15 = .ok (.iconst 2, 1) := by decide +kernel
theorem dX11_exit_16 : decode cX11_exit 16 = .ok (.invokestatic 83, 3) := by decide +kernel
theorem dX11_exit_19 : decode cX11_exit 19 = .ok (.ifCond .ne 6, 3) := by decide +kernel
theorem dX11_exit_22 : decode cX11_exit 22 = .ok (.ldc 76, 2) := by decide +kernel
theorem dX11_exit_24 : decode cX11_exit 24 = .ok (.ireturn, 1) := by decide +kernel
theorem dX11_exit_25 : decode cX11_exit 25 = .ok (.ldc 172, 2) := by decide +kernel
theorem dX11_exit_27 : decode cX11_exit 27 = .ok (.istore 4, 2) := by decide +kernel
theorem dX11_exit_29 : decode cX11_exit 29 = .ok (.iconst 0, 1) := by decide +kernel
theorem dX11_exit_30 : decode cX11_exit 30 = .ok (.istore 5, 2) := by decide +kernel
theorem dX11_exit_32 : decode cX11_exit 32 = .ok (.iconst 0, 1) := by decide +kernel
theorem dX11_exit_33 : decode cX11_exit 33 = .ok (.istore 6, 2) := by decide +kernel
theorem dX11_exit_35 : decode cX11_exit 35 = .ok (.sipush (-10000), 3) := by decide +kernel
theorem dX11_exit_38 : decode cX11_exit 38 = .ok (.istore 7, 2) := by decide +kernel
theorem dX11_exit_40 : decode cX11_exit 40 = .ok (.iload 7, 2) := by decide +kernel
theorem dX11_exit_42 : decode cX11_exit 42 = .ok (.sipush 10000, 3) := by decide +kernel
theorem dX11_exit_45 : decode cX11_exit 45 = .ok (.if_icmp .gt 67, 3) := by decide +kernel
theorem dX11_exit_48 : decode cX11_exit 48 = .ok (.sipush (-10000), 3) := by decide +kernel
theorem dX11_exit_51 : decode cX11_exit 51 = .ok (.istore 8, 2) := by decide +kernel
theorem dX11_exit_53 : decode cX11_exit 53 = .ok (.iload 8, 2) := by decide +kernel
theorem dX11_exit_55 : decode cX11_exit 55 = .ok (.sipush 10000, 3) := by decide +kernel
theorem dX11_exit_58 : decode cX11_exit 58 = .ok (.if_icmp .gt 45, 3) := by decide +kernel
theorem dX11_exit_61 : decode cX11_exit 61 = .ok (.aload_n 0, 1) := by decide +kernel
theorem dX11_exit_62 : decode cX11_exit 62 = .ok (.getfield 31, 3) := by decide +kernel
theorem dX11_exit_65 : decode cX11_exit 65 = .ok (.aload_n 3, 1) := by decide +kernel
theorem dX11_exit_66 : decode cX11_exit 66 = .ok (.iload 7, 2) := by decide +kernel
theorem dX11_exit_68 : decode cX11_exit 68 = .ok (.iload 8, 2) := by decide +kernel
theorem dX11_exit_70 : decode cX11_exit 70 = .ok (.invokevirtual 173, 3) := by decide +kernel
theorem dX11_exit_73 : decode cX11_exit 73 = .ok (.istore 9, 2) := by decide +kernel
theorem dX11_exit_75 : decode cX11_exit 75 = .ok (.iload 9, 2) := by decide +kernel
theorem dX11_exit_77 : decode cX11_exit 77 = .ok (.iload 4, 2) := by decide +kernel
theorem dX11_exit_79 : decode cX11_exit 79 = .ok (.if_icmp .ge 15, 3) := by decide +kernel
theorem dX11_exit_82 : decode cX11_exit 82 = .ok (.iload 9, 2) := by decide +kernel
theorem dX11_exit_84 : decode cX11_exit 84 = .ok (.istore 4, 2) := by decide +kernel
theorem dX11_exit_86 : decode cX11_exit 86 = .ok (.iload 7, 2) := by decide +kernel
theorem dX11_exit_88 : decode cX11_exit 88 = .ok (.istore 5, 2) := by decide +kernel
theorem dX11_exit_90 : decode cX11_exit 90 = .ok (.iload 8, 2) := by decide +kernel
theorem dX11_exit_92 : decode cX11_exit 92 = .ok (.istore 6, 2) := by decide +kernel
theorem dX11_exit_94 : decode cX11_exit 94 = .ok (.iinc 8 1000, 6) := by decide +kernel
theorem dX11_exit_100 : decode cX11_exit 100 = .ok (.goto (-47), 3) := by decide +kernel
theorem dX11_exit_103 : decode cX11_exit 103 = .ok (.iinc 7 1000, 6) := by decide +kernel
theorem dX11_exit_109 : decode cX11_exit 109 = .ok (.goto (-69), 3) := by decide +kernel
theorem dX11_exit_112 : decode cX11_exit 112 = .ok (.iload_n 2, 1) := by decide +kernel
theorem dX11_exit_113 : decode cX11_exit 113 = .ok (.ifCond .ne 8, 3) := by decide +kernel
theorem dX11_exit_116 : decode cX11_exit 116 = .ok (.iload 5, 2) := by decide +kernel
theorem dX11_exit_118 : decode cX11_exit 118 = .ok (.goto 15, 3) := by decide +kernel
theorem dX11_exit_121 : decode cX11_exit 121 = .ok (.iload_n 2, 1) := by decide +kernel
theorem dX11_exit_122 : decode cX11_exit 122 = .ok (.iconst 1, 1) := by decide +kernel
theorem dX11_exit_123 : decode cX11_exit 123 = .ok (.if_icmp .ne 8, 3) := by decide +kernel
theorem dX11_exit_126 : decode cX11_exit 126 = .ok (.iload 6, 2) := by decide +kernel
theorem dX11_exit_128 : decode cX11_exit 128 = .ok (.goto 5, 3) := by decide +kernel
theorem dX11_exit_131 : decode cX11_exit 131 = .ok (.iload 4, 2) := by decide +kernel
theorem dX11_exit_133 : decode cX11_exit 133 = .ok (.ireturn, 1) := by decide +kernel
theorem dX11_load_0 : decode cX11_load 0 = .ok (.aload_n 0, 1) := by decide +kernel
theorem dX11_load_1 : decode cX11_load 1 = .ok (.iload_n 1, 1) := by decide +kernel
theorem dX11_load_2 : decode cX11_load 2 = .ok (.invokevirtual 58, 3) := by decide +kernel
theorem dX11_load_5 : decode cX11_load 5 = .ok (.astore 6, 2) := by decide +kernel
theorem dX11_load_7 : decode cX11_load 7 = .ok (.aload 6, 2) := by decide +kernel
theorem dX11_load_9 : decode cX11_load 9 = .ok (.ifnull 30, 3) := by decide +kernel
theorem dX11_load_12 : decode cX11_load 12 = .ok (.iload_n 2, 1) := by decide +kernel
theorem dX11_load_13 : decode cX11_load 13 = .ok (.iload_n 3, 1) := by decide +kernel
theorem dX11_load_14 : decode cX11_load 14 = .ok (.invokestatic 125, 3) := by decide +kernel
theorem dX11_load_17 : decode cX11_load 17 = .ok (.ifCond .eq 22, 3) := by decide +kernel
theorem dX11_load_20 : decode cX11_load 20 = .ok (.iload 4, 2) := by decide +kernel
theorem dX11_load_22 : decode cX11_load 22 = .ok (.invokestatic 177, 3) := by decide +kernel
theorem dX11_load_25 : decode cX11_load 25 = .ok (.ifCond .eq 14, 3) := by decide +kernel
theorem dX11_load_28 : decode cX11_load 28 = .ok (.iconst 0, 1) := by decide +kernel
theorem dX11_load_29 : decode cX11_load 29 = .ok (.iload 5, 2) := by decide +kernel
theorem dX11_load_31 : decode cX11_load 31 = .ok (.ldc 180, 2) := by decide +kernel
theorem dX11_load_33 : decode cX11_load 33 = .ok (.invokestatic 83, 3) := by decide +kernel
theorem dX11_load_36 : decode cX11_load 36 = .ok (.ifCond .ne 5, 3) := by decide +kernel
theorem dX11_load_39 : decode cX11_load 39 = .ok (.iconst (-1), 1) := by decide +kernel
theorem dX11_load_40 : decode cX11_load 40 = .ok (.ireturn, 1) := by decide +kernel
theorem dX11_load_41 : decode cX11_load 41 = .ok (.aload_n 0, 1) := by decide +kernel
theorem dX11_load_42 : decode cX11_load 42 = .ok (.aload 6, 2) := by decide +kernel
theorem dX11_load_44 : decode cX11_load 44 = .ok (.invokevirtual 181, 3) := by decide +kernel
theorem dX11_load_47 : decode cX11_load 47 = .ok (.istore 7, 2) := by decide +kernel
theorem dX11_load_49 : decode cX11_load 49 = .ok (.iload 7, 2) := by decide +kernel
theorem dX11_load_51 : decode cX11_load 51 = .ok (.ifCond .eq 6, 3) := by decide +kernel
theorem dX11_load_54 : decode cX11_load 54 = .ok (.iload 7, 2) := by decide +kernel
theorem dX11_load_56 : decode cX11_load 56 = .ok (.ireturn, 1) := by decide +kernel
theorem dX11_load_57 : decode cX11_load 57 = .ok (.aload_n 0, 1) := by decide +kernel
theorem dX11_load_58 : decode cX11_load 58 = .ok (.aload 6, 2) := by decide +kernel
theorem dX11_load_60 : decode cX11_load 60 = .ok (.iload_n 2, 1) := by decide +kernel
theorem dX11_load_61 : decode cX11_load 61 = .ok (.iload_n 3, 1) := by decide +kernel
theorem dX11_load_62 : decode cX11_load 62 = .ok (.iload 4, 2) := by decide +kernel
theorem dX11_load_64 : decode cX11_load 64 = .ok (.iload 5, 2) := by decide +kernel
theorem dX11_load_66 : decode cX11_load 66 = .ok (.invokevirtual 184, 3) := by decide +kernel
theorem dX11_load_69 : decode cX11_load 69 = .ok (.ireturn, 1) := by decide +kernel
theorem dX11_bestLoad_0 : decode cX11_bestLoad 0 = .ok (.aload_n 0, 1) := by decide +kernel
theorem dX11_bestLoad_1 : decode cX11_bestLoad 1 = .ok (.iload_n 1, 1) := by decide +kernel
theorem dX11_bestLoad_2 : decode cX11_bestLoad 2 = .ok (.invokevirtual 58, 3) := by decide +kernel
theorem dX11_bestLoad_5 : decode cX11_bestLoad 5 = .ok (.astore 5, 2) := by decide +kernel
theorem dX11_bestLoad_7 : decode cX11_bestLoad 7 = .ok (.aload 5, 2) := by decide +kernel
theorem dX11_bestLoad_9 : decode cX11_bestLoad 9 = .ok (.ifnull 31, 3) := by decide +kernel
theorem dX11_bestLoad_12 : decode cX11_bestLoad 12 = .ok (.iconst 0, 1) := by decide +kernel
theorem dX11_bestLoad_13 : decode cX11_bestLoad 13 = .ok (.iload_n 2, 1) := by decide +kernel
theorem dX11_bestLoad_14 : decode cX11_bestLoad 14 = .ok (.invokestatic 125, 3) := by decide +kernel
theorem dX11_bestLoad_17 : decode cX11_bestLoad 17 = .ok (.ifCond .eq 23, 3) := by decide +kernel
theorem dX11_bestLoad_20 : decode cX11_bestLoad 20 = .ok (.iconst 0, 1) := by decide +kernel
theorem dX11_bestLoad_21 : decode cX11_bestLoad 21 = .ok (.iload_n 3, 1) := by decide +kernel
theorem dX11_bestLoad_22 : decode cX11_bestLoad 22 = .ok (.ldc 180, 2) := by decide +kernel
theorem dX11_bestLoad_24 : decode cX11_bestLoad 24 = .ok (.invokestatic 83, 3) := by decide +kernel
theorem dX11_bestLoad_27 : decode cX11_bestLoad 27 = .ok (.ifCond .eq 13, 3) := by decide +kernel
theorem dX11_bestLoad_30 : decode cX11_bestLoad 30 = .ok (.iconst 0, 1) := by decide +kernel
theorem dX11_bestLoad_31 : decode cX11_bestLoad 31 = .ok (.iload 4, 2) := by decide +kernel
theorem dX11_bestLoad_33 : decode cX11_bestLoad 33 = .ok (.iconst 2, 1) := by decide +kernel
theorem dX11_bestLoad_34 : decode cX11_bestLoad 34 = .ok (.invokestatic 83, 3) := by decide +kernel
theorem dX11_bestLoad_37 : decode cX11_bestLoad 37 = .ok (.ifCond .ne 6, 3) := by decide +kernel
theorem dX11_bestLoad_40 : decode cX11_bestLoad 40 = .ok (.ldc 76, 2) := by decide +kernel
theorem dX11_bestLoad_42 : decode cX11_bestLoad 42 = .ok (.ireturn, 1) := by decide +kernel
theorem dX11_bestLoad_43 : decode cX11_bestLoad 43 = .ok (.aload_n 0, 1) := by decide +kernel
theorem dX11_bestLoad_44 : decode cX11_bestLoad 44 = .ok (.aload 5, 2) := by decide +kernel
theorem dX11_bestLoad_46 : decode cX11_bestLoad 46 = .ok (.invokevirtual 181, 3) := by decide +kernel
theorem dX11_bestLoad_49 : decode cX11_bestLoad 49 = .ok (.istore 6, 2) := by decide +kernel
theorem dX11_bestLoad_51 : decode cX11_bestLoad 51 = .ok (.iload 6, 2) := by decide +kernel
theorem dX11_bestLoad_53 : decode cX11_bestLoad 53 = .ok (.ifCond .eq 9, 3) := by decide +kernel
theorem dX11_bestLoad_56 : decode cX11_bestLoad 56 = .ok (.ldc 188, 2) := by decide +kernel
theorem dX11_bestLoad_58 : decode cX11_bestLoad 58 = .ok (.iload 6, 2) := by decide +kernel
theorem dX11_bestLoad_60 : decode cX11_bestLoad 60 = .ok (.iadd, 1) := by decide +kernel
theorem dX11_bestLoad_61 : decode cX11_bestLoad 61 = .ok (.ireturn, 1) := by decide +kernel
theorem dX11_bestLoad_62 : decode cX11_bestLoad 62 = .ok (.iconst (-1), 1) := by decide +kernel
theorem dX11_bestLoad_63 : decode cX11_bestLoad 63 = .ok (.istore 7, 2) := by decide +kernel
theorem dX11_bestLoad_65 : decode cX11_bestLoad 65 = .ok (.iconst 0, 1) := by decide +kernel
theorem dX11_bestLoad_66 : decode cX11_bestLoad 66 = .ok (.istore 8, 2) := by decide +kernel
theorem dX11_bestLoad_68 : decode cX11_bestLoad 68 = .ok (.iconst 0, 1) := by decide +kernel
theorem dX11_bestLoad_69 : decode cX11_bestLoad 69 = .ok (.istore 9, 2) := by decide +kernel
theorem dX11_bestLoad_71 : decode cX11_bestLoad 71 = .ok (.iconst 1, 1) := by decide +kernel
theorem dX11_bestLoad_72 : decode cX11_bestLoad 72 = .ok (.istore 10, 2) := by decide +kernel
theorem dX11_bestLoad_74 : decode cX11_bestLoad 74 = .ok (.iload 10, 2) := by decide +kernel
theorem dX11_bestLoad_76 : decode cX11_bestLoad 76 = .ok (.bipush 10, 2) := by decide +kernel
theorem dX11_bestLoad_78 : decode cX11_bestLoad 78 = .ok (.if_icmp .gt 84, 3) := by decide +kernel
theorem dX11_bestLoad_81 : decode cX11_bestLoad 81 = .ok (.iload 7, 2) := by decide +kernel
theorem dX11_bestLoad_83 : decode cX11_bestLoad 83 = .ok (.aload 5, 2) := by decide +kernel
theorem dX11_bestLoad_85 : decode cX11_bestLoad 85 = .ok (.getfield 189, 3) := by decide +kernel
theorem dX11_bestLoad_88 : decode cX11_bestLoad 88 = .ok (.if_icmp .ge 74, 3) := by decide +kernel
theorem dX11_bestLoad_91 : decode cX11_bestLoad 91 = .ok (.sipush (-10000), 3) := by decide +kernel
theorem dX11_bestLoad_94 : decode cX11_bestLoad 94 = .ok (.istore 11, 2) := by decide +kernel
theorem dX11_bestLoad_96 : decode cX11_bestLoad 96 = .ok (.iload 11, 2) := by decide +kernel
theorem dX11_bestLoad_98 : decode cX11_bestLoad 98 = .ok (.sipush 10000, 3) := by decide +kernel
theorem dX11_bestLoad_101 : decode cX11_bestLoad 101 = .ok (.if_icmp .gt 55, 3) := by decide +kernel
theorem dX11_bestLoad_104 : decode cX11_bestLoad 104 = .ok (.iload 7, 2) := by decide +kernel
theorem dX11_bestLoad_106 : decode cX11_bestLoad 106 = .ok (.aload 5, 2) := by decide +kernel
theorem dX11_bestLoad_108 : decode cX11_bestLoad 108 = .ok (.getfield 189, 3) := by decide +kernel
theorem dX11_bestLoad_111 : decode cX11_bestLoad 111 = .ok (.if_icmp .ge 45, 3) := by decide +kernel
theorem dX11_bestLoad_114 : decode cX11_bestLoad 114 = .ok (.aload_n 0, 1) := by decide +kernel
theorem dX11_bestLoad_115 : decode cX11_bestLoad 115 = .ok (.aload 5, 2) := by decide +kernel
theorem dX11_bestLoad_117 : decode cX11_bestLoad 117 = .ok (.iload 11, 2) := by decide +kernel
theorem dX11_bestLoad_119 : decode cX11_bestLoad 119 = .ok (.iload_n 2, 1) := by decide +kernel
theorem dX11_bestLoad_120 : decode cX11_bestLoad 120 = .ok (.iload 10, 2) := by decide +kernel
theorem dX11_bestLoad_122 : decode cX11_bestLoad 122 = .ok (.iload_n 3, 1) := by decide +kernel
theorem dX11_bestLoad_123 : decode cX11_bestLoad 123 = .ok (.invokevirtual 184, 3) := by decide +kernel
theorem dX11_bestLoad_126 : decode cX11_bestLoad 126 = .ok (.istore 12, 2) := by decide +kernel
theorem dX11_bestLoad_128 : decode cX11_bestLoad 128 = .ok (.iload 12, 2) := by decide +kernel
theorem dX11_bestLoad_130 : decode cX11_bestLoad 130 = .ok (.iload 7, 2) := by decide +kernel
theorem dX11_bestLoad_132 : decode cX11_bestLoad 132 = .ok (.if_icmp .le 15, 3) := by decide +kernel
theorem dX11_bestLoad_135 : decode cX11_bestLoad 135 = .ok (.iload 12, 2) := by decide +kernel
theorem dX11_bestLoad_137 : decode cX11_bestLoad 137 = .ok (.istore 7, 2) := by decide +kernel
theorem dX11_bestLoad_139 : decode cX11_bestLoad 139 = .ok (.iload 11, 2) := by decide +kernel
theorem dX11_bestLoad_141 : decode cX11_bestLoad 141 = .ok (.istore 8, 2) := by decide +kernel
theorem dX11_bestLoad_143 : decode cX11_bestLoad 143 = .ok (.iload 10, 2) := by decide +kernel
theorem dX11_bestLoad_145 : decode cX11_bestLoad 145 = .ok (.istore 9, 2) := by decide +kernel
theorem dX11_bestLoad_147 : decode cX11_bestLoad 147 = .ok (.iinc 11 1000, 6) := by decide +kernel
theorem dX11_bestLoad_153 : decode cX11_bestLoad 153 = .ok (.goto (-57), 3) := by decide +kernel
theorem dX11_bestLoad_156 : decode cX11_bestLoad 156 = .ok (.iinc 10 1, 3) := by decide +kernel
theorem dX11_bestLoad_159 : decode cX11_bestLoad 159 = .ok (.goto (-85), 3) := by decide +kernel
theorem dX11_bestLoad_162 : decode cX11_bestLoad 162 = .ok (.iload 4, 2) := by decide +kernel
theorem dX11_bestLoad_164 : decode cX11_bestLoad 164 = .ok (.ifCond .ne 8, 3) := by decide +kernel
theorem dX11_bestLoad_167 : decode cX11_bestLoad 167 = .ok (.iload 8, 2) := by decide +kernel
theorem dX11_bestLoad_169 : decode cX11_bestLoad 169 = .ok (.goto 16, 3) := by decide +kernel
theorem dX11_bestLoad_172 : decode cX11_bestLoad 172 = .ok (.iload 4, 2) := by decide +kernel
theorem dX11_bestLoad_174 : decode cX11_bestLoad 174 = .ok (.iconst 1, 1) := by decide +kernel
theorem dX11_bestLoad_175 : decode cX11_bestLoad 175 = .ok (.if_icmp .ne 8, 3) := by decide +kernel
theorem dX11_bestLoad_178 : decode cX11_bestLoad 178 = .ok (.iload 9, 2) := by decide +kernel
theorem dX11_bestLoad_180 : decode cX11_bestLoad 180 = .ok (.goto 5, 3) := by decide +kernel
theorem dX11_bestLoad_183 : decode cX11_bestLoad 183 = .ok (.iload 7, 2) := by decide +kernel
theorem dX11_bestLoad_185 : decode cX11_bestLoad 185 = .ok (.ireturn, 1) := by decide +kernel
theorem dX11_order_0 : decode cX11_order 0 = .ok (.aload_n 0, 1) := by decide +kernel
theorem dX11_order_1 : decode cX11_order 1 = .ok (.iload_n 1, 1) := by decide +kernel
theorem dX11_order_2 : decode cX11_order 2 = .ok (.invokevirtual 58, 3) := by decide +kernel
theorem dX11_order_5 : decode cX11_order 5 = .ok (.astore 6, 2) := by decide +kernel
theorem dX11_order_7 : decode cX11_order 7 = .ok (.aload 6, 2) := by decide +kernel
theorem dX11_order_9 : decode cX11_order 9 = .ok (.ifnull 29, 3) := by decide +kernel
theorem dX11_order_12 : decode cX11_order 12 = .ok (.iload_n 2, 1) := by decide +kernel
theorem dX11_order_13 : decode cX11_order 13 = .ok (.iload_n 3, 1) := by decide +kernel
theorem dX11_order_14 : decode cX11_order 14 = .ok (.invokestatic 125, 3) := by decide +kernel
theorem dX11_order_17 : decode cX11_order 17 = .ok (.ifCond .eq 21, 3) := by decide +kernel
theorem dX11_order_20 : decode cX11_order 20 = .ok (.iload 4, 2) := by decide +kernel
theorem dX11_order_22 : decode cX11_order 22 = .ok (.invokestatic 177, 3) := by decide +kernel
theorem dX11_order_25 : decode cX11_order 25 = .ok (.ifCond .eq 13, 3) := by decide +kernel
theorem dX11_order_28 : decode cX11_order 28 = .ok (.iconst 0, 1) := by decide +kernel
theorem dX11_order_29 : decode cX11_order 29 = .ok (.iload 5, 2) := by decide +kernel
theorem dX11_order_31 : decode cX11_order 31 = .ok (.iconst 1, 1) := by decide +kernel
theorem dX11_order_32 : decode cX11_order 32 = .ok (.invokestatic 83, 3) := by decide +kernel
theorem dX11_order_35 : decode cX11_order 35 = .ok (.ifCond .ne 5, 3) := by decide +kernel
theorem dX11_order_38 : decode cX11_order 38 = .ok (.iconst (-1), 1) := by decide +kernel
theorem dX11_order_39 : decode cX11_order 39 = .ok (.ireturn, 1) := by decide +kernel
theorem dX11_order_40 : decode cX11_order 40 = .ok (.aload_n 0, 1) := by decide +kernel
theorem dX11_order_41 : decode cX11_order 41 = .ok (.aload 6, 2) := by decide +kernel
theorem dX11_order_43 : decode cX11_order 43 = .ok (.invokevirtual 181, 3) := by decide +kernel
theorem dX11_order_46 : decode cX11_order 46 = .ok (.istore 7, 2) := by decide +kernel
theorem dX11_order_48 : decode cX11_order 48 = .ok (.iload 7, 2) := by decide +kernel
theorem dX11_order_50 : decode cX11_order 50 = .ok (.ifCond .eq 6, 3) := by decide +kernel
theorem dX11_order_53 : decode cX11_order 53 = .ok (.iload 7, 2) := by decide +kernel
theorem dX11_order_55 : decode cX11_order 55 = .ok (.ireturn, 1) := by decide +kernel
theorem dX11_order_56 : decode cX11_order 56 = .ok (.aload_n 0, 1) := by decide +kernel
theorem dX11_order_57 : decode cX11_order 57 = .ok (.aload 6, 2) := by decide +kernel
theorem dX11_order_59 : decode cX11_order 59 = .ok (.iload_n 2, 1) := by decide +kernel
theorem dX11_order_60 : decode cX11_order 60 = .ok (.iload_n 3, 1) := by decide +kernel
theorem dX11_order_61 : decode cX11_order 61 = .ok (.iload 4, 2) := by decide +kernel
theorem dX11_order_63 : decode cX11_order 63 = .ok (.invokevirtual 192, 3) := by decide +kernel
theorem dX11_order_66 : decode cX11_order 66 = .ok (.aload 6, 2) := by decide +kernel
theorem dX11_order_68 : decode cX11_order 68 = .ok (.getfield 189, 3) := by decide +kernel
theorem dX11_order_71 : decode cX11_order 71 = .ok (.iconst 5, 1) := by decide +kernel
theorem dX11_order_72 : decode cX11_order 72 = .ok (.invokestatic 196, 3) := by decide +kernel
theorem dX11_order_75 : decode cX11_order 75 = .ok (.istore 8, 2) := by decide +kernel
theorem dX11_order_77 : decode cX11_order 77 = .ok (.iconst 0, 1) := by decide +kernel
theorem dX11_order_78 : decode cX11_order 78 = .ok (.istore 9, 2) := by decide +kernel
theorem dX11_order_80 : decode cX11_order 80 = .ok (.iload 9, 2) := by decide +kernel
theorem dX11_order_82 : decode cX11_order 82 = .ok (.iconst 5, 1) := by decide +kernel
theorem dX11_order_83 : decode cX11_order 83 = .ok (.if_icmp .ge 18, 3) := by decide +kernel
theorem dX11_order_86 : decode cX11_order 86 = .ok (.aload_n 0, 1) := by decide +kernel
theorem dX11_order_87 : decode cX11_order 87 = .ok (.getfield 48, 3) := by decide +kernel
theorem dX11_order_90 : decode cX11_order 90 = .ok (.iload 9, 2) := by decide +kernel
theorem dX11_order_92 : decode cX11_order 92 = .ok (.iload 9, 2) := by decide +kernel
theorem dX11_order_94 : decode cX11_order 94 = .ok (.iastore, 1) := by decide +kernel
theorem dX11_order_95 : decode cX11_order 95 = .ok (.iinc 9 1, 3) := by decide +kernel
theorem dX11_order_98 : decode cX11_order 98 = .ok (.goto (-18), 3) := by decide +kernel
theorem dX11_order_101 : decode cX11_order 101 = .ok (.ldc 172, 2) := by decide +kernel
theorem dX11_order_103 : decode cX11_order 103 = .ok (.istore 9, 2) := by decide +kernel
theorem dX11_order_105 : decode cX11_order 105 = .ok (.iconst 0, 1) := by decide +kernel
theorem dX11_order_106 : decode cX11_order 106 = .ok (.istore 10, 2) := by decide +kernel
theorem dX11_order_108 : decode cX11_order 108 = .ok (.iconst 1, 1) := by decide +kernel
theorem dX11_order_109 : decode cX11_order 109 = .ok (.istore 11, 2) := by decide +kernel
theorem dX11_order_111 : decode cX11_order 111 = .ok (.iconst 0, 1) := by decide +kernel
theorem dX11_order_112 : decode cX11_order 112 = .ok (.istore 12, 2) := by decide +kernel
theorem dX11_order_114 : decode cX11_order 114 = .ok (.iload 12, 2) := by decide +kernel
theorem dX11_order_116 : decode cX11_order 116 = .ok (.bipush 120, 2) := by decide +kernel
theorem dX11_order_118 : decode cX11_order 118 = .ok (.if_icmp .ge 49, 3) := by decide +kernel
theorem dX11_order_121 : decode cX11_order 121 = .ok (.iload 11, 2) := by decide +kernel
theorem dX11_order_123 : decode cX11_order 123 = .ok (.ifCond .eq 44, 3) := by decide +kernel
theorem dX11_order_126 : decode cX11_order 126 = .ok (.aload_n 0, 1) := by decide +kernel
theorem dX11_order_127 : decode cX11_order 127 = .ok (.iload 8, 2) := by decide +kernel
theorem dX11_order_129 : decode cX11_order 129 = .ok (.invokevirtual 202, 3) := by decide +kernel
theorem dX11_order_132 : decode cX11_order 132 = .ok (.istore 13, 2) := by decide +kernel
theorem dX11_order_134 : decode cX11_order 134 = .ok (.iload 13, 2) := by decide +kernel
theorem dX11_order_136 : decode cX11_order 136 = .ok (.iload 9, 2) := by decide +kernel
theorem dX11_order_138 : decode cX11_order 138 = .ok (.if_icmp .ge 15, 3) := by decide +kernel
theorem dX11_order_141 : decode cX11_order 141 = .ok (.iload 13, 2) := by decide +kernel
theorem dX11_order_143 : decode cX11_order 143 = .ok (.istore 9, 2) := by decide +kernel
theorem dX11_order_145 : decode cX11_order 145 = .ok (.aload_n 0, 1) := by decide +kernel
theorem dX11_order_146 : decode cX11_order 146 = .ok (.iload 8, 2) := by decide +kernel
theorem dX11_order_148 : decode cX11_order 148 = .ok (.invokevirtual 205, 3) := by decide +kernel
theorem dX11_order_151 : decode cX11_order 151 = .ok (.istore 10, 2) := by decide +kernel
theorem dX11_order_153 : decode cX11_order 153 = .ok (.aload_n 0, 1) := by decide +kernel
theorem dX11_order_154 : decode cX11_order 154 = .ok (.iload 8, 2) := by decide +kernel
theorem dX11_order_156 : decode cX11_order 156 = .ok (.invokevirtual 208, 3) := by decide +kernel
theorem dX11_order_159 : decode cX11_order 159 = .ok (.istore 11, 2) := by decide +kernel
theorem dX11_order_161 : decode cX11_order 161 = .ok (.iinc 12 1, 3) := by decide +kernel
theorem dX11_order_164 : decode cX11_order 164 = .ok (.goto (-50), 3) := by decide +kernel
theorem dX11_order_167 : decode cX11_order 167 = .ok (.iload 5, 2) := by decide +kernel
theorem dX11_order_169 : decode cX11_order 169 = .ok (.ifCond .ne 8, 3) := by decide +kernel
theorem dX11_order_172 : decode cX11_order 172 = .ok (.iload 10, 2) := by decide +kernel
theorem dX11_order_174 : decode cX11_order 174 = .ok (.goto 5, 3) := by decide +kernel
theorem dX11_order_177 : decode cX11_order 177 = .ok (.iload 9, 2) := by decide +kernel
theorem dX11_order_179 : decode cX11_order 179 = .ok (.ireturn, 1) := by decide +kernel
theorem dX11_cone_0 : decode cX11_cone 0 = .ok (.aload_n 0, 1) := by decide +kernel
theorem dX11_cone_1 : decode cX11_cone 1 = .ok (.getfield 10, 3) := by decide +kernel
theorem dX11_cone_4 : decode cX11_cone 4 = .ok (.iload_n 1, 1) := by decide +kernel
theorem dX11_cone_5 : decode cX11_cone 5 = .ok (.invokevirtual 97, 3) := by decide +kernel
theorem dX11_cone_8 : decode cX11_cone 8 = .ok (.astore 4, 2) := by decide +kernel
theorem dX11_cone_10 : decode cX11_cone 10 = .ok (.aload 4, 2) := by decide +kernel
theorem dX11_cone_12 : decode cX11_cone 12 = .ok (.ifnull 24, 3) := by decide +kernel
theorem dX11_cone_15 : decode cX11_cone 15 = .ok (.iconst 1, 1) := by decide +kernel
theorem dX11_cone_16 : decode cX11_cone 16 = .ok (.iload_n 2, 1) := by decide +kernel
theorem dX11_cone_17 : decode cX11_cone 17 = .ok (.sipush 3000, 3) := by decide +kernel
theorem dX11_cone_20 : decode cX11_cone 20 = .ok (.invokestatic 83, 3) := by decide +kernel
theorem dX11_cone_23 : decode cX11_cone 23 = .ok (.ifCond .eq 13, 3) := by decide +kernel
theorem dX11_cone_26 : decode cX11_cone 26 = .ok (.iconst 0, 1) := by decide +kernel
theorem dX11_cone_27 : decode cX11_cone 27 = .ok (.iload_n 3, 1) := by decide +kernel
theorem dX11_cone_28 : decode cX11_cone 28 = .ok (.ldc 180, 2) := by decide +kernel
theorem dX11_cone_30 : decode cX11_cone 30 = .ok (.invokestatic 83, 3) := by decide +kernel
theorem dX11_cone_33 : decode cX11_cone 33 = .ok (.ifCond .ne 5, 3) := by decide +kernel
theorem dX11_cone_36 : decode cX11_cone 36 = .ok (.iconst (-1), 1) := by decide +kernel
theorem dX11_cone_37 : decode cX11_cone 37 = .ok (.ireturn, 1) := by decide +kernel
theorem dX11_cone_38 : decode cX11_cone 38 = .ok (.iconst 0, 1) := by decide +kernel
theorem dX11_cone_39 : decode cX11_cone 39 = .ok (.istore 5, 2) := by decide +kernel
theorem dX11_cone_41 : decode cX11_cone 41 = .ok (.sipush (-5000), 3) := by decide +kernel
theorem dX11_cone_44 : decode cX11_cone 44 = .ok (.istore 6, 2) := by decide +kernel
theorem dX11_cone_46 : decode cX11_cone 46 = .ok (.iload 6, 2) := by decide +kernel
theorem dX11_cone_48 : decode cX11_cone 48 = .ok (.sipush 5000, 3) := by decide +kernel
theorem dX11_cone_51 : decode cX11_cone 51 = .ok (.if_icmp .gt 77, 3) := by decide +kernel
theorem dX11_cone_54 : decode cX11_cone 54 = .ok (.sipush (-5000), 3) := by decide +kernel
theorem dX11_cone_57 : decode cX11_cone 57 = .ok (.istore 7, 2) := by decide +kernel
theorem dX11_cone_59 : decode cX11_cone 59 = .ok (.iload 7, 2) := by decide +kernel
theorem dX11_cone_61 : decode cX11_cone 61 = .ok (.sipush 5000, 3) := by decide +kernel
theorem dX11_cone_64 : decode cX11_cone 64 = .ok (.if_icmp .gt 55, 3) := by decide +kernel
theorem dX11_cone_67 : decode cX11_cone 67 = .ok (.aload_n 0, 1) := by decide +kernel
theorem dX11_cone_68 : decode cX11_cone 68 = .ok (.getfield 31, 3) := by decide +kernel
theorem dX11_cone_71 : decode cX11_cone 71 = .ok (.aload 4, 2) := by decide +kernel
theorem dX11_cone_73 : decode cX11_cone 73 = .ok (.iload 6, 2) := by decide +kernel
theorem dX11_cone_75 : decode cX11_cone 75 = .ok (.iload 7, 2) := by decide +kernel
theorem dX11_cone_77 : decode cX11_cone 77 = .ok (.iconst 1, 1) := by decide +kernel
theorem dX11_cone_78 : decode cX11_cone 78 = .ok (.invokevirtual 143, 3) := by decide +kernel
theorem dX11_cone_81 : decode cX11_cone 81 = .ok (.aload_n 0, 1) := by decide +kernel
theorem dX11_cone_82 : decode cX11_cone 82 = .ok (.getfield 31, 3) := by decide +kernel
theorem dX11_cone_85 : decode cX11_cone 85 = .ok (.iload_n 2, 1) := by decide +kernel
theorem dX11_cone_86 : decode cX11_cone 86 = .ok (.invokevirtual 211, 3) := by decide +kernel
theorem dX11_cone_89 : decode cX11_cone 89 = .ok (.aload_n 0, 1) := by decide +kernel
theorem dX11_cone_90 : decode cX11_cone 90 = .ok (.getfield 31, 3) := by decide +kernel
theorem dX11_cone_93 : decode cX11_cone 93 = .ok (.invokevirtual 167, 3) := by decide +kernel
theorem dX11_cone_96 : decode cX11_cone 96 = .ok (.aload_n 0, 1) := by decide +kernel
theorem dX11_cone_97 : decode cX11_cone 97 = .ok (.getfield 31, 3) := by decide +kernel
theorem dX11_cone_100 : decode cX11_cone 100 = .ok (.invokevirtual 214, 3) := by decide +kernel
theorem dX11_cone_103 : decode cX11_cone 103 = .ok (.iload_n 3, 1) := by decide +kernel
theorem dX11_cone_104 : decode cX11_cone 104 = .ok (.if_icmp .gt 6, 3) := by decide +kernel
theorem dX11_cone_107 : decode cX11_cone 107 = .ok (.iinc 5 1, 3) := by decide +kernel
theorem dX11_cone_110 : decode cX11_cone 110 = .ok (.iinc 7 500, 6) := by decide +kernel
theorem dX11_cone_116 : decode cX11_cone 116 = .ok (.goto (-57), 3) := by decide +kernel
theorem dX11_cone_119 : decode cX11_cone 119 = .ok (.iinc 6 500, 6) := by decide +kernel
theorem dX11_cone_125 : decode cX11_cone 125 = .ok (.goto (-79), 3) := by decide +kernel
theorem dX11_cone_128 : decode cX11_cone 128 = .ok (.iload 5, 2) := by decide +kernel
theorem dX11_cone_130 : decode cX11_cone 130 = .ok (.ireturn, 1) := by decide +kernel
theorem dX11_steering_0 : decode cX11_steering 0 = .ok (.aload_n 0, 1) := by decide +kernel
theorem dX11_steering_1 : decode cX11_steering 1 = .ok (.getfield 10, 3) := by decide +kernel
theorem dX11_steering_4 : decode cX11_steering 4 = .ok (.iload_n 1, 1) := by decide +kernel
theorem dX11_steering_5 : decode cX11_steering 5 = .ok (.invokevirtual 97, 3) := by decide +kernel
theorem dX11_steering_8 : decode cX11_steering 8 = .ok (.astore 5, 2) := by decide +kernel
theorem dX11_steering_10 : decode cX11_steering 10 = .ok (.aload 5, 2) := by decide +kernel
theorem dX11_steering_12 : decode cX11_steering 12 = .ok (.ifnull 21, 3) := by decide +kernel
theorem dX11_steering_15 : decode cX11_steering 15 = .ok (.iload_n 2, 1) := by decide +kernel
theorem dX11_steering_16 : decode cX11_steering 16 = .ok (.iload_n 3, 1) := by decide +kernel
theorem dX11_steering_17 : decode cX11_steering 17 = .ok (.invokestatic 125, 3) := by decide +kernel
theorem dX11_steering_20 : decode cX11_steering 20 = .ok (.ifCond .eq 13, 3) := by decide +kernel
theorem dX11_steering_23 : decode cX11_steering 23 = .ok (.iconst 0, 1) := by decide +kernel
theorem dX11_steering_24 : decode cX11_steering 24 = .ok (.iload 4, 2) := by decide +kernel
theorem dX11_steering_26 : decode cX11_steering 26 = .ok (.iconst 1, 1) := by decide +kernel
theorem dX11_steering_27 : decode cX11_steering 27 = .ok (.invokestatic 83, 3) := by decide +kernel
theorem dX11_steering_30 : decode cX11_steering 30 = .ok (.ifCond .ne 5, 3) := by decide +kernel
theorem dX11_steering_33 : decode cX11_steering 33 = .ok (.iconst (-1), 1) := by decide +kernel
theorem dX11_steering_34 : decode cX11_steering 34 = .ok (.ireturn, 1) := by decide +kernel
theorem dX11_steering_35 : decode cX11_steering 35 = .ok (.ldc 172, 2) := by decide +kernel
theorem dX11_steering_37 : decode cX11_steering 37 = .ok (.istore 6, 2) := by decide +kernel
theorem dX11_steering_39 : decode cX11_steering 39 = .ok (.iconst 0, 1) := by decide +kernel
theorem dX11_steering_40 : decode cX11_steering 40 = .ok (.istore 7, 2) := by decide +kernel
theorem dX11_steering_42 : decode cX11_steering 42 = .ok (.iconst 0, 1) := by decide +kernel
theorem dX11_steering_43 : decode cX11_steering 43 = .ok (.istore 8, 2) := by decide +kernel
theorem dX11_steering_45 : decode cX11_steering 45 = .ok (.iload 8, 2) := by decide +kernel
theorem dX11_steering_47 : decode cX11_steering 47 = .ok (.bipush 8, 2) := by decide +kernel
theorem dX11_steering_49 : decode cX11_steering 49 = .ok (.if_icmp .gt 81, 3) := by decide +kernel
theorem dX11_steering_52 : decode cX11_steering 52 = .ok (.aload_n 0, 1) := by decide +kernel
theorem dX11_steering_53 : decode cX11_steering 53 = .ok (.getfield 31, 3) := by decide +kernel
theorem dX11_steering_56 : decode cX11_steering 56 = .ok (.aload 5, 2) := by decide +kernel
theorem dX11_steering_58 : decode cX11_steering 58 = .ok (.iload_n 2, 1) := by decide +kernel
theorem dX11_steering_59 : decode cX11_steering 59 = .ok (.iload_n 3, 1) := by decide +kernel
theorem dX11_steering_60 : decode cX11_steering 60 = .ok (.iconst 1, 1) := by decide +kernel
theorem dX11_steering_61 : decode cX11_steering 61 = .ok (.invokevirtual 143, 3) := by decide +kernel
theorem dX11_steering_64 : decode cX11_steering 64 = .ok (.aload_n 0, 1) := by decide +kernel
theorem dX11_steering_65 : decode cX11_steering 65 = .ok (.getfield 31, 3) := by decide +kernel
theorem dX11_steering_68 : decode cX11_steering 68 = .ok (.iload 8, 2) := by decide +kernel
theorem dX11_steering_70 : decode cX11_steering 70 = .ok (.invokestatic 218, 3) := by decide +kernel
theorem dX11_steering_73 : decode cX11_steering 73 = .ok (.aload 5, 2) := by decide +kernel
theorem dX11_steering_75 : decode cX11_steering 75 = .ok (.getfield 118, 3) := by decide +kernel
theorem dX11_steering_78 : decode cX11_steering 78 = .ok (.imul, 1) := by decide +kernel
theorem dX11_steering_79 : decode cX11_steering 79 = .ok (.iload 8, 2) := by decide +kernel
theorem dX11_steering_81 : decode cX11_steering 81 = .ok (.invokestatic 221, 3) := by decide +kernel
theorem dX11_steering_84 : decode cX11_steering 84 = .ok (.aload 5, 2) := by decide +kernel
theorem dX11_steering_86 : decode cX11_steering 86 = .ok (.getfield 118, 3) := by decide +kernel
theorem dX11_steering_89 : decode cX11_steering 89 = .ok (.imul, 1) := by decide +kernel
theorem dX11_steering_90 : decode cX11_steering 90 = .ok (.invokevirtual 160, 3) := by decide +kernel
theorem dX11_steering_93 : decode cX11_steering 93 = .ok (.aload_n 0, 1) := by decide +kernel
theorem dX11_steering_94 : decode cX11_steering 94 = .ok (.getfield 31, 3) := by decide +kernel
theorem dX11_steering_97 : decode cX11_steering 97 = .ok (.invokevirtual 167, 3) := by decide +kernel
theorem dX11_steering_100 : decode cX11_steering 100 = .ok (.aload_n 0, 1) := by decide +kernel
theorem dX11_steering_101 : decode cX11_steering 101 = .ok (.getfield 31, 3) := by decide +kernel
theorem dX11_steering_104 : decode cX11_steering 104 = .ok (.invokevirtual 214, 3) := by decide +kernel
theorem dX11_steering_107 : decode cX11_steering 107 = .ok (.istore 9, 2) := by decide +kernel
theorem dX11_steering_109 : decode cX11_steering 109 = .ok (.iload 9, 2) := by decide +kernel
theorem dX11_steering_111 : decode cX11_steering 111 = .ok (.iload 6, 2) := by decide +kernel
theorem dX11_steering_113 : decode cX11_steering 113 = .ok (.if_icmp .ge 11, 3) := by decide +kernel
theorem dX11_steering_116 : decode cX11_steering 116 = .ok (.iload 9, 2) := by decide +kernel
theorem dX11_steering_118 : decode cX11_steering 118 = .ok (.istore 6, 2) := by decide +kernel
theorem dX11_steering_120 : decode cX11_steering 120 = .ok (.iload 8, 2) := by decide +kernel
theorem dX11_steering_122 : decode cX11_steering 122 = .ok (.istore 7, 2) := by decide +kernel
theorem dX11_steering_124 : decode cX11_steering 124 = .ok (.iinc 8 1, 3) := by decide +kernel
theorem dX11_steering_127 : decode cX11_steering 127 = .ok (.goto (-82), 3) := by decide +kernel
theorem dX11_steering_130 : decode cX11_steering 130 = .ok (.iload 4, 2) := by decide +kernel
theorem dX11_steering_132 : decode cX11_steering 132 = .ok (.ifCond .ne 8, 3) := by decide +kernel
theorem dX11_steering_135 : decode cX11_steering 135 = .ok (.iload 7, 2) := by decide +kernel
theorem dX11_steering_137 : decode cX11_steering 137 = .ok (.goto 5, 3) := by decide +kernel
theorem dX11_steering_140 : decode cX11_steering 140 = .ok (.iload 6, 2) := by decide +kernel
theorem dX11_steering_142 : decode cX11_steering 142 = .ok (.ireturn, 1) := by decide +kernel
theorem dX11_last_0 : decode cX11_last 0 = .ok (.aload_n 0, 1) := by decide +kernel
theorem dX11_last_1 : decode cX11_last 1 = .ok (.getfield 10, 3) := by decide +kernel
theorem dX11_last_4 : decode cX11_last 4 = .ok (.iload_n 1, 1) := by decide +kernel
theorem dX11_last_5 : decode cX11_last 5 = .ok (.invokevirtual 97, 3) := by decide +kernel
theorem dX11_last_8 : decode cX11_last 8 = .ok (.astore_n 2, 1) := by decide +kernel
theorem dX11_last_9 : decode cX11_last 9 = .ok (.aload_n 2, 1) := by decide +kernel
theorem dX11_last_10 : decode cX11_last 10 = .ok (.ifnonnull 5, 3) := by decide +kernel
theorem dX11_last_13 : decode cX11_last 13 = .ok (.iconst (-1), 1) := by decide +kernel
theorem dX11_last_14 : decode cX11_last 14 = .ok (.ireturn, 1) := by decide +kernel
theorem dX11_last_15 : decode cX11_last 15 = .ok (.bipush (-4), 2) := by decide +kernel
theorem dX11_last_17 : decode cX11_last 17 = .ok (.istore_n 3, 1) := by decide +kernel
theorem dX11_last_18 : decode cX11_last 18 = .ok (.iconst 0, 1) := by decide +kernel
theorem dX11_last_19 : decode cX11_last 19 = .ok (.istore 4, 2) := by decide +kernel
theorem dX11_last_21 : decode cX11_last 21 = .ok (.iload 4, 2) := by decide +kernel
theorem dX11_last_23 : decode cX11_last 23 = .ok (.bipush 20, 2) := by decide +kernel
theorem dX11_last_25 : decode cX11_last 25 = .ok (.if_icmp .gt 33, 3) := by decide +kernel
theorem dX11_last_28 : decode cX11_last 28 = .ok (.aload_n 0, 1) := by decide +kernel
theorem dX11_last_29 : decode cX11_last 29 = .ok (.getfield 10, 3) := by decide +kernel
theorem dX11_last_32 : decode cX11_last 32 = .ok (.getfield 94, 3) := by decide +kernel
theorem dX11_last_35 : decode cX11_last 35 = .ok (.iload 4, 2) := by decide +kernel
theorem dX11_last_37 : decode cX11_last 37 = .ok (.aload_n 2, 1) := by decide +kernel
theorem dX11_last_38 : decode cX11_last 38 = .ok (.getfield 112, 3) := by decide +kernel
theorem dX11_last_41 : decode cX11_last 41 = .ok (.imul, 1) := by decide +kernel
theorem dX11_last_42 : decode cX11_last 42 = .ok (.isub, 1) := by decide +kernel
theorem dX11_last_43 : decode cX11_last 43 = .ok (.sipush 200, 3) := by decide +kernel
theorem dX11_last_46 : decode cX11_last 46 = .ok (.if_icmp .lt 6, 3) := by decide +kernel
theorem dX11_last_49 : decode cX11_last 49 = .ok (.iload 4, 2) := by decide +kernel
theorem dX11_last_51 : decode cX11_last 51 = .ok (.istore_n 3, 1) := by decide +kernel
theorem dX11_last_52 : decode cX11_last 52 = .ok (.iinc 4 1, 3) := by decide +kernel
theorem dX11_last_55 : decode cX11_last 55 = .ok (.goto (-34), 3) := by decide +kernel
theorem dX11_last_58 : decode cX11_last 58 = .ok (.iload_n 3, 1) := by decide +kernel
theorem dX11_last_59 : decode cX11_last 59 = .ok (.ireturn, 1) := by decide +kernel
theorem dX11_safe_0 : decode cX11_safe 0 = .ok (.iload_n 1, 1) := by decide +kernel
theorem dX11_safe_1 : decode cX11_safe 1 = .ok (.iload_n 2, 1) := by decide +kernel
theorem dX11_safe_2 : decode cX11_safe 2 = .ok (.invokestatic 125, 3) := by decide +kernel
theorem dX11_safe_5 : decode cX11_safe 5 = .ok (.ifCond .eq 12, 3) := by decide +kernel
theorem dX11_safe_8 : decode cX11_safe 8 = .ok (.iconst 0, 1) := by decide +kernel
theorem dX11_safe_9 : decode cX11_safe 9 = .ok (.iload_n 3, 1) := by decide +kernel
theorem dX11_safe_10 : decode cX11_safe 10 = .ok (.iconst 1, 1) := by decide +kernel
theorem dX11_safe_11 : decode cX11_safe 11 = .ok (.invokestatic 83, 3) := by decide +kernel
theorem dX11_safe_14 : decode cX11_safe 14 = .ok (.ifCond .ne 6, 3) := by decide +kernel
theorem dX11_safe_17 : decode cX11_safe 17 = .ok (.ldc 76, 2) := by decide +kernel
theorem dX11_safe_19 : decode cX11_safe 19 = .ok (.ireturn, 1) := by decide +kernel
theorem dX11_safe_20 : decode cX11_safe 20 = .ok (.ldc 172, 2) := by decide +kernel
theorem dX11_safe_22 : decode cX11_safe 22 = .ok (.istore 4, 2) := by decide +kernel
theorem dX11_safe_24 : decode cX11_safe 24 = .ok (.ldc 224, 2) := by decide +kernel
theorem dX11_safe_26 : decode cX11_safe 26 = .ok (.istore 5, 2) := by decide +kernel
theorem dX11_safe_28 : decode cX11_safe 28 = .ok (.sipush (-3000), 3) := by decide +kernel
theorem dX11_safe_31 : decode cX11_safe 31 = .ok (.istore 6, 2) := by decide +kernel
theorem dX11_safe_33 : decode cX11_safe 33 = .ok (.iload 6, 2) := by decide +kernel
theorem dX11_safe_35 : decode cX11_safe 35 = .ok (.sipush 3000, 3) := by decide +kernel
theorem dX11_safe_38 : decode cX11_safe 38 = .ok (.if_icmp .gt 95, 3) := by decide +kernel
theorem dX11_safe_41 : decode cX11_safe 41 = .ok (.sipush (-3000), 3) := by decide +kernel
theorem dX11_safe_44 : decode cX11_safe 44 = .ok (.istore 7, 2) := by decide +kernel
theorem dX11_safe_46 : decode cX11_safe 46 = .ok (.iload 7, 2) := by decide +kernel
theorem dX11_safe_48 : decode cX11_safe 48 = .ok (.sipush 3000, 3) := by decide +kernel
theorem dX11_safe_51 : decode cX11_safe 51 = .ok (.if_icmp .gt 76, 3) := by decide +kernel
theorem dX11_safe_54 : decode cX11_safe 54 = .ok (.iload 6, 2) := by decide +kernel
theorem dX11_safe_56 : decode cX11_safe 56 = .ok (.bipush 10, 2) := by decide +kernel
theorem dX11_safe_58 : decode cX11_safe 58 = .ok (.imul, 1) := by decide +kernel
theorem dX11_safe_59 : decode cX11_safe 59 = .ok (.iload_n 1, 1) := by decide +kernel
theorem dX11_safe_60 : decode cX11_safe 60 = .ok (.isub, 1) := by decide +kernel
theorem dX11_safe_61 : decode cX11_safe 61 = .ok (.invokestatic 225, 3) := by decide +kernel
theorem dX11_safe_64 : decode cX11_safe 64 = .ok (.iload 7, 2) := by decide +kernel
theorem dX11_safe_66 : decode cX11_safe 66 = .ok (.bipush 10, 2) := by decide +kernel
theorem dX11_safe_68 : decode cX11_safe 68 = .ok (.imul, 1) := by decide +kernel
theorem dX11_safe_69 : decode cX11_safe 69 = .ok (.iload_n 2, 1) := by decide +kernel
theorem dX11_safe_70 : decode cX11_safe 70 = .ok (.isub, 1) := by decide +kernel
theorem dX11_safe_71 : decode cX11_safe 71 = .ok (.invokestatic 225, 3) := by decide +kernel
theorem dX11_safe_74 : decode cX11_safe 74 = .ok (.iadd, 1) := by decide +kernel
theorem dX11_safe_75 : decode cX11_safe 75 = .ok (.istore 8, 2) := by decide +kernel
theorem dX11_safe_77 : decode cX11_safe 77 = .ok (.iload 8, 2) := by decide +kernel
theorem dX11_safe_79 : decode cX11_safe 79 = .ok (.iload 4, 2) := by decide +kernel
theorem dX11_safe_81 : decode cX11_safe 81 = .ok (.if_icmp .ge 40, 3) := by decide +kernel
theorem dX11_safe_84 : decode cX11_safe 84 = .ok (.aload_n 0, 1) := by decide +kernel
theorem dX11_safe_85 : decode cX11_safe 85 = .ok (.getfield 10, 3) := by decide +kernel
theorem dX11_safe_88 : decode cX11_safe 88 = .ok (.iload 6, 2) := by decide +kernel
theorem dX11_safe_90 : decode cX11_safe 90 = .ok (.bipush 10, 2) := by decide +kernel
theorem dX11_safe_92 : decode cX11_safe 92 = .ok (.imul, 1) := by decide +kernel
theorem dX11_safe_93 : decode cX11_safe 93 = .ok (.iload 7, 2) := by decide +kernel
theorem dX11_safe_95 : decode cX11_safe 95 = .ok (.bipush 10, 2) := by decide +kernel
theorem dX11_safe_97 : decode cX11_safe 97 = .ok (.imul, 1) := by decide +kernel
theorem dX11_safe_98 : decode cX11_safe 98 = .ok (.invokevirtual 136, 3) := by decide +kernel
theorem dX11_safe_101 : decode cX11_safe 101 = .ok (.ifCond .ne 20, 3) := by decide +kernel
theorem dX11_safe_104 : decode cX11_safe 104 = .ok (.iload 8, 2) := by decide +kernel
theorem dX11_safe_106 : decode cX11_safe 106 = .ok (.istore 4, 2) := by decide +kernel
theorem dX11_safe_108 : decode cX11_safe 108 = .ok (.iload_n 3, 1) := by decide +kernel
theorem dX11_safe_109 : decode cX11_safe 109 = .ok (.ifCond .ne 8, 3) := by decide +kernel
theorem dX11_safe_112 : decode cX11_safe 112 = .ok (.iload 6, 2) := by decide +kernel
theorem dX11_safe_114 : decode cX11_safe 114 = .ok (.goto 5, 3) := by decide +kernel
theorem dX11_safe_117 : decode cX11_safe 117 = .ok (.iload 7, 2) := by decide +kernel
theorem dX11_safe_119 : decode cX11_safe 119 = .ok (.istore 5, 2) := by decide +kernel
theorem dX11_safe_121 : decode cX11_safe 121 = .ok (.iinc 7 100, 3) := by decide +kernel
theorem dX11_safe_124 : decode cX11_safe 124 = .ok (.goto (-78), 3) := by decide +kernel
theorem dX11_safe_127 : decode cX11_safe 127 = .ok (.iinc 6 100, 3) := by decide +kernel
theorem dX11_safe_130 : decode cX11_safe 130 = .ok (.goto (-97), 3) := by decide +kernel
theorem dX11_safe_133 : decode cX11_safe 133 = .ok (.iload 5, 2) := by decide +kernel
theorem dX11_safe_135 : decode cX11_safe 135 = .ok (.ireturn, 1) := by decide +kernel
theorem dX11_within_0 : decode cX11_within 0 = .ok (.aload_n 0, 1) := by decide +kernel
theorem dX11_within_1 : decode cX11_within 1 = .ok (.getfield 10, 3) := by decide +kernel
theorem dX11_within_4 : decode cX11_within 4 = .ok (.iload_n 1, 1) := by decide +kernel
theorem dX11_within_5 : decode cX11_within 5 = .ok (.invokevirtual 97, 3) := by decide +kernel
theorem dX11_within_8 : decode cX11_within 8 = .ok (.astore 7, 2) := by decide +kernel
theorem dX11_within_10 : decode cX11_within 10 = .ok (.aload 7, 2) := by decide +kernel
theorem dX11_within_12 : decode cX11_within 12 = .ok (.ifnull 33, 3) := by decide +kernel
theorem dX11_within_15 : decode cX11_within 15 = .ok (.iload_n 2, 1) := by decide +kernel
theorem dX11_within_16 : decode cX11_within 16 = .ok (.iload_n 3, 1) := by decide +kernel
theorem dX11_within_17 : decode cX11_within 17 = .ok (.invokestatic 125, 3) := by decide +kernel
theorem dX11_within_20 : decode cX11_within 20 = .ok (.ifCond .eq 25, 3) := by decide +kernel
theorem dX11_within_23 : decode cX11_within 23 = .ok (.iconst 0, 1) := by decide +kernel
theorem dX11_within_24 : decode cX11_within 24 = .ok (.iload 4, 2) := by decide +kernel
theorem dX11_within_26 : decode cX11_within 26 = .ok (.ldc 180, 2) := by decide +kernel
theorem dX11_within_28 : decode cX11_within 28 = .ok (.invokestatic 83, 3) := by decide +kernel
theorem dX11_within_31 : decode cX11_within 31 = .ok (.ifCond .eq 14, 3) := by decide +kernel
theorem dX11_within_34 : decode cX11_within 34 = .ok (.iconst 1, 1) := by decide +kernel
theorem dX11_within_35 : decode cX11_within 35 = .ok (.iload 5, 2) := by decide +kernel
theorem dX11_within_37 : decode cX11_within 37 = .ok (.bipush 20, 2) := by decide +kernel
theorem dX11_within_39 : decode cX11_within 39 = .ok (.invokestatic 83, 3) := by decide +kernel
theorem dX11_within_42 : decode cX11_within 42 = .ok (.ifCond .ne 5, 3) := by decide +kernel
theorem dX11_within_45 : decode cX11_within 45 = .ok (.iconst (-1), 1) := by decide +kernel
theorem dX11_within_46 : decode cX11_within 46 = .ok (.ireturn, 1) := by decide +kernel
theorem dX11_within_47 : decode cX11_within 47 = .ok (.aload_n 0, 1) := by decide +kernel
theorem dX11_within_48 : decode cX11_within 48 = .ok (.aload 7, 2) := by decide +kernel
theorem dX11_within_50 : decode cX11_within 50 = .ok (.iload_n 2, 1) := by decide +kernel
theorem dX11_within_51 : decode cX11_within 51 = .ok (.iload_n 3, 1) := by decide +kernel
theorem dX11_within_52 : decode cX11_within 52 = .ok (.iload 4, 2) := by decide +kernel
theorem dX11_within_54 : decode cX11_within 54 = .ok (.iload 5, 2) := by decide +kernel
theorem dX11_within_56 : decode cX11_within 56 = .ok (.iload 6, 2) := by decide +kernel
theorem dX11_within_58 : decode cX11_within 58 = .ok (.aload_n 0, 1) := by decide +kernel
theorem dX11_within_59 : decode cX11_within 59 = .ok (.getfield 10, 3) := by decide +kernel
theorem dX11_within_62 : decode cX11_within 62 = .ok (.getfield 87, 3) := by decide +kernel
theorem dX11_within_65 : decode cX11_within 65 = .ok (.invokevirtual 228, 3) := by decide +kernel
theorem dX11_within_68 : decode cX11_within 68 = .ok (.ireturn, 1) := by decide +kernel
theorem dX11_stop_0 : decode cX11_stop 0 = .ok (.aload_n 0, 1) := by decide +kernel
theorem dX11_stop_1 : decode cX11_stop 1 = .ok (.getfield 10, 3) := by decide +kernel
theorem dX11_stop_4 : decode cX11_stop 4 = .ok (.iload_n 1, 1) := by decide +kernel
theorem dX11_stop_5 : decode cX11_stop 5 = .ok (.invokevirtual 97, 3) := by decide +kernel
theorem dX11_stop_8 : decode cX11_stop 8 = .ok (.astore 7, 2) := by decide +kernel
theorem dX11_stop_10 : decode cX11_stop 10 = .ok (.aload 7, 2) := by decide +kernel
theorem dX11_stop_12 : decode cX11_stop 12 = .ok (.ifnull 33, 3) := by decide +kernel
theorem dX11_stop_15 : decode cX11_stop 15 = .ok (.iload_n 2, 1) := by decide +kernel
theorem dX11_stop_16 : decode cX11_stop 16 = .ok (.iload_n 3, 1) := by decide +kernel
theorem dX11_stop_17 : decode cX11_stop 17 = .ok (.invokestatic 125, 3) := by decide +kernel
theorem dX11_stop_20 : decode cX11_stop 20 = .ok (.ifCond .eq 25, 3) := by decide +kernel
theorem dX11_stop_23 : decode cX11_stop 23 = .ok (.iconst 0, 1) := by decide +kernel
theorem dX11_stop_24 : decode cX11_stop 24 = .ok (.iload 4, 2) := by decide +kernel
theorem dX11_stop_26 : decode cX11_stop 26 = .ok (.ldc 180, 2) := by decide +kernel
theorem dX11_stop_28 : decode cX11_stop 28 = .ok (.invokestatic 83, 3) := by decide +kernel
theorem dX11_stop_31 : decode cX11_stop 31 = .ok (.ifCond .eq 14, 3) := by decide +kernel
theorem dX11_stop_34 : decode cX11_stop 34 = .ok (.iconst 1, 1) := by decide +kernel
theorem dX11_stop_35 : decode cX11_stop 35 = .ok (.iload 5, 2) := by decide +kernel
theorem dX11_stop_37 : decode cX11_stop 37 = .ok (.bipush 20, 2) := by decide +kernel
theorem dX11_stop_39 : decode cX11_stop 39 = .ok (.invokestatic 83, 3) := by decide +kernel
theorem dX11_stop_42 : decode cX11_stop 42 = .ok (.ifCond .ne 5, 3) := by decide +kernel
theorem dX11_stop_45 : decode cX11_stop 45 = .ok (.iconst (-1), 1) := by decide +kernel
theorem dX11_stop_46 : decode cX11_stop 46 = .ok (.ireturn, 1) := by decide +kernel
theorem dX11_stop_47 : decode cX11_stop 47 = .ok (.iconst 0, 1) := by decide +kernel
theorem dX11_stop_48 : decode cX11_stop 48 = .ok (.istore 8, 2) := by decide +kernel
theorem dX11_stop_50 : decode cX11_stop 50 = .ok (.iload 8, 2) := by decide +kernel
theorem dX11_stop_52 : decode cX11_stop 52 = .ok (.bipush 30, 2) := by decide +kernel
theorem dX11_stop_54 : decode cX11_stop 54 = .ok (.if_icmp .gt 35, 3) := by decide +kernel
theorem dX11_stop_57 : decode cX11_stop 57 = .ok (.iconst 2, 1) := by decide +kernel
theorem dX11_stop_58 : decode cX11_stop 58 = .ok (.aload_n 0, 1) := by decide +kernel
theorem dX11_stop_59 : decode cX11_stop 59 = .ok (.aload 7, 2) := by decide +kernel
theorem dX11_stop_61 : decode cX11_stop 61 = .ok (.iload_n 2, 1) := by decide +kernel
theorem dX11_stop_62 : decode cX11_stop 62 = .ok (.iload_n 3, 1) := by decide +kernel
theorem dX11_stop_63 : decode cX11_stop 63 = .ok (.iload 4, 2) := by decide +kernel
theorem dX11_stop_65 : decode cX11_stop 65 = .ok (.iload 5, 2) := by decide +kernel
theorem dX11_stop_67 : decode cX11_stop 67 = .ok (.iload 6, 2) := by decide +kernel
theorem dX11_stop_69 : decode cX11_stop 69 = .ok (.iload 8, 2) := by decide +kernel
theorem dX11_stop_71 : decode cX11_stop 71 = .ok (.invokevirtual 228, 3) := by decide +kernel
theorem dX11_stop_74 : decode cX11_stop 74 = .ok (.imul, 1) := by decide +kernel
theorem dX11_stop_75 : decode cX11_stop 75 = .ok (.iload 5, 2) := by decide +kernel
theorem dX11_stop_77 : decode cX11_stop 77 = .ok (.if_icmp .ge 6, 3) := by decide +kernel
theorem dX11_stop_80 : decode cX11_stop 80 = .ok (.iload 8, 2) := by decide +kernel
theorem dX11_stop_82 : decode cX11_stop 82 = .ok (.ireturn, 1) := by decide +kernel
theorem dX11_stop_83 : decode cX11_stop 83 = .ok (.iinc 8 1, 3) := by decide +kernel
theorem dX11_stop_86 : decode cX11_stop 86 = .ok (.goto (-36), 3) := by decide +kernel
theorem dX11_stop_89 : decode cX11_stop 89 = .ok (.bipush (-4), 2) := by decide +kernel
theorem dX11_stop_91 : decode cX11_stop 91 = .ok (.ireturn, 1) := by decide +kernel
theorem dX11_knew_0 : decode cX11_knew 0 = .ok (.aload_n 0, 1) := by decide +kernel
theorem dX11_knew_1 : decode cX11_knew 1 = .ok (.getfield 10, 3) := by decide +kernel
theorem dX11_knew_4 : decode cX11_knew 4 = .ok (.iload_n 1, 1) := by decide +kernel
theorem dX11_knew_5 : decode cX11_knew 5 = .ok (.invokevirtual 97, 3) := by decide +kernel
theorem dX11_knew_8 : decode cX11_knew 8 = .ok (.astore 5, 2) := by decide +kernel
theorem dX11_knew_10 : decode cX11_knew 10 = .ok (.aload_n 0, 1) := by decide +kernel
theorem dX11_knew_11 : decode cX11_knew 11 = .ok (.getfield 10, 3) := by decide +kernel
theorem dX11_knew_14 : decode cX11_knew 14 = .ok (.iload_n 2, 1) := by decide +kernel
theorem dX11_knew_15 : decode cX11_knew 15 = .ok (.invokevirtual 97, 3) := by decide +kernel
theorem dX11_knew_18 : decode cX11_knew 18 = .ok (.astore 6, 2) := by decide +kernel
theorem dX11_knew_20 : decode cX11_knew 20 = .ok (.aload 5, 2) := by decide +kernel
theorem dX11_knew_22 : decode cX11_knew 22 = .ok (.ifnull 22, 3) := by decide +kernel
theorem dX11_knew_25 : decode cX11_knew 25 = .ok (.aload 6, 2) := by decide +kernel
theorem dX11_knew_27 : decode cX11_knew 27 = .ok (.ifnull 17, 3) := by decide +kernel
theorem dX11_knew_30 : decode cX11_knew 30 = .ok (.iload_n 1, 1) := by decide +kernel
theorem dX11_knew_31 : decode cX11_knew 31 = .ok (.iload_n 2, 1) := by decide +kernel
theorem dX11_knew_32 : decode cX11_knew 32 = .ok (.if_icmp .eq 12, 3) := by decide +kernel
theorem dX11_knew_35 : decode cX11_knew 35 = .ok (.iload_n 3, 1) := by decide +kernel
theorem dX11_knew_36 : decode cX11_knew 36 = .ok (.iload 4, 2) := by decide +kernel
theorem dX11_knew_38 : decode cX11_knew 38 = .ok (.invokestatic 125, 3) := by decide +kernel
theorem dX11_knew_41 : decode cX11_knew 41 = .ok (.ifCond .ne 6, 3) := by decide +kernel
theorem dX11_knew_44 : decode cX11_knew 44 = .ok (.ldc 76, 2) := by decide +kernel
theorem dX11_knew_46 : decode cX11_knew 46 = .ok (.ireturn, 1) := by decide +kernel
theorem dX11_knew_47 : decode cX11_knew 47 = .ok (.aload_n 0, 1) := by decide +kernel
theorem dX11_knew_48 : decode cX11_knew 48 = .ok (.getfield 31, 3) := by decide +kernel
theorem dX11_knew_51 : decode cX11_knew 51 = .ok (.aload 5, 2) := by decide +kernel
theorem dX11_knew_53 : decode cX11_knew 53 = .ok (.iload_n 3, 1) := by decide +kernel
theorem dX11_knew_54 : decode cX11_knew 54 = .ok (.iload 4, 2) := by decide +kernel
theorem dX11_knew_56 : decode cX11_knew 56 = .ok (.invokevirtual 173, 3) := by decide +kernel
theorem dX11_knew_59 : decode cX11_knew 59 = .ok (.istore 7, 2) := by decide +kernel
theorem dX11_knew_61 : decode cX11_knew 61 = .ok (.aload_n 0, 1) := by decide +kernel
theorem dX11_knew_62 : decode cX11_knew 62 = .ok (.getfield 31, 3) := by decide +kernel
theorem dX11_knew_65 : decode cX11_knew 65 = .ok (.aload 6, 2) := by decide +kernel
theorem dX11_knew_67 : decode cX11_knew 67 = .ok (.iload_n 3, 1) := by decide +kernel
theorem dX11_knew_68 : decode cX11_knew 68 = .ok (.iload 4, 2) := by decide +kernel
theorem dX11_knew_70 : decode cX11_knew 70 = .ok (.invokevirtual 173, 3) := by decide +kernel
theorem dX11_knew_73 : decode cX11_knew 73 = .ok (.pop, 1) := by decide +kernel
theorem dX11_knew_74 : decode cX11_knew 74 = .ok (.iload_n 3, 1) := by decide +kernel
theorem dX11_knew_75 : decode cX11_knew 75 = .ok (.aload_n 0, 1) := by decide +kernel
theorem dX11_knew_76 : decode cX11_knew 76 = .ok (.getfield 31, 3) := by decide +kernel
theorem dX11_knew_79 : decode cX11_knew 79 = .ok (.getfield 151, 3) := by decide +kernel
theorem dX11_knew_82 : decode cX11_knew 82 = .ok (.isub, 1) := by decide +kernel
theorem dX11_knew_83 : decode cX11_knew 83 = .ok (.invokestatic 232, 3) := by decide +kernel
theorem dX11_knew_86 : decode cX11_knew 86 = .ok (.istore 8, 2) := by decide +kernel
theorem dX11_knew_88 : decode cX11_knew 88 = .ok (.iload 4, 2) := by decide +kernel
theorem dX11_knew_90 : decode cX11_knew 90 = .ok (.aload_n 0, 1) := by decide +kernel
theorem dX11_knew_91 : decode cX11_knew 91 = .ok (.getfield 31, 3) := by decide +kernel
theorem dX11_knew_94 : decode cX11_knew 94 = .ok (.getfield 154, 3) := by decide +kernel
theorem dX11_knew_97 : decode cX11_knew 97 = .ok (.isub, 1) := by decide +kernel
theorem dX11_knew_98 : decode cX11_knew 98 = .ok (.invokestatic 232, 3) := by decide +kernel
theorem dX11_knew_101 : decode cX11_knew 101 = .ok (.istore 9, 2) := by decide +kernel
theorem dX11_knew_103 : decode cX11_knew 103 = .ok (.iload 7, 2) := by decide +kernel
theorem dX11_knew_105 : decode cX11_knew 105 = .ok (.aload_n 0, 1) := by decide +kernel
theorem dX11_knew_106 : decode cX11_knew 106 = .ok (.getfield 31, 3) := by decide +kernel
theorem dX11_knew_109 : decode cX11_knew 109 = .ok (.aload 5, 2) := by decide +kernel
theorem dX11_knew_111 : decode cX11_knew 111 = .ok (.iload 8, 2) := by decide +kernel
theorem dX11_knew_113 : decode cX11_knew 113 = .ok (.iload 9, 2) := by decide +kernel
theorem dX11_knew_115 : decode cX11_knew 115 = .ok (.invokevirtual 173, 3) := by decide +kernel
theorem dX11_knew_118 : decode cX11_knew 118 = .ok (.isub, 1) := by decide +kernel
theorem dX11_knew_119 : decode cX11_knew 119 = .ok (.ireturn, 1) := by decide +kernel
theorem dX11_two_0 : decode cX11_two 0 = .ok (.aload_n 0, 1) := by decide +kernel
theorem dX11_two_1 : decode cX11_two 1 = .ok (.getfield 10, 3) := by decide +kernel
theorem dX11_two_4 : decode cX11_two 4 = .ok (.iload_n 1, 1) := by decide +kernel
theorem dX11_two_5 : decode cX11_two 5 = .ok (.invokevirtual 97, 3) := by decide +kernel
theorem dX11_two_8 : decode cX11_two 8 = .ok (.astore 6, 2) := by decide +kernel
theorem dX11_two_10 : decode cX11_two 10 = .ok (.aload_n 0, 1) := by decide +kernel
theorem dX11_two_11 : decode cX11_two 11 = .ok (.getfield 10, 3) := by decide +kernel
theorem dX11_two_14 : decode cX11_two 14 = .ok (.iload_n 2, 1) := by decide +kernel
theorem dX11_two_15 : decode cX11_two 15 = .ok (.invokevirtual 97, 3) := by decide +kernel
theorem dX11_two_18 : decode cX11_two 18 = .ok (.astore 7, 2) := by decide +kernel
theorem dX11_two_20 : decode cX11_two 20 = .ok (.aload 6, 2) := by decide +kernel
theorem dX11_two_22 : decode cX11_two 22 = .ok (.ifnull 30, 3) := by decide +kernel
theorem dX11_two_25 : decode cX11_two 25 = .ok (.aload 7, 2) := by decide +kernel
theorem dX11_two_27 : decode cX11_two 27 = .ok (.ifnull 25, 3) := by decide +kernel
theorem dX11_two_30 : decode cX11_two 30 = .ok (.iload_n 1, 1) := by decide +kernel
theorem dX11_two_31 : decode cX11_two 31 = .ok (.iload_n 2, 1) := by decide +kernel
theorem dX11_two_32 : decode cX11_two 32 = .ok (.if_icmp .eq 20, 3) := by decide +kernel
theorem dX11_two_35 : decode cX11_two 35 = .ok (.iload_n 3, 1) := by decide +kernel
theorem dX11_two_36 : decode cX11_two 36 = .ok (.invokestatic 177, 3) := by decide +kernel
theorem dX11_two_39 : decode cX11_two 39 = .ok (.ifCond .eq 13, 3) := by decide +kernel
theorem dX11_two_42 : decode cX11_two 42 = .ok (.iload 4, 2) := by decide +kernel
theorem dX11_two_44 : decode cX11_two 44 = .ok (.iload 5, 2) := by decide +kernel
theorem dX11_two_46 : decode cX11_two 46 = .ok (.invokestatic 125, 3) := by decide +kernel
theorem dX11_two_49 : decode cX11_two 49 = .ok (.ifCond .ne 5, 3) := by decide +kernel
theorem dX11_two_52 : decode cX11_two 52 = .ok (.iconst (-1), 1) := by decide +kernel
theorem dX11_two_53 : decode cX11_two 53 = .ok (.ireturn, 1) := by decide +kernel
theorem dX11_two_54 : decode cX11_two 54 = .ok (.aload_n 0, 1) := by decide +kernel
theorem dX11_two_55 : decode cX11_two 55 = .ok (.getfield 31, 3) := by decide +kernel
theorem dX11_two_58 : decode cX11_two 58 = .ok (.aload 6, 2) := by decide +kernel
theorem dX11_two_60 : decode cX11_two 60 = .ok (.iload 4, 2) := by decide +kernel
theorem dX11_two_62 : decode cX11_two 62 = .ok (.iload 5, 2) := by decide +kernel
theorem dX11_two_64 : decode cX11_two 64 = .ok (.iconst 1, 1) := by decide +kernel
theorem dX11_two_65 : decode cX11_two 65 = .ok (.invokevirtual 143, 3) := by decide +kernel
theorem dX11_two_68 : decode cX11_two 68 = .ok (.aload_n 0, 1) := by decide +kernel
theorem dX11_two_69 : decode cX11_two 69 = .ok (.getfield 31, 3) := by decide +kernel
theorem dX11_two_72 : decode cX11_two 72 = .ok (.iload_n 3, 1) := by decide +kernel
theorem dX11_two_73 : decode cX11_two 73 = .ok (.invokevirtual 147, 3) := by decide +kernel
theorem dX11_two_76 : decode cX11_two 76 = .ok (.aload_n 0, 1) := by decide +kernel
theorem dX11_two_77 : decode cX11_two 77 = .ok (.getfield 35, 3) := by decide +kernel
theorem dX11_two_80 : decode cX11_two 80 = .ok (.aload 7, 2) := by decide +kernel
theorem dX11_two_82 : decode cX11_two 82 = .ok (.iload 4, 2) := by decide +kernel
theorem dX11_two_84 : decode cX11_two 84 = .ok (.aload_n 0, 1) := by decide +kernel
theorem dX11_two_85 : decode cX11_two 85 = .ok (.getfield 10, 3) := by decide +kernel
theorem dX11_two_88 : decode cX11_two 88 = .ok (.getfield 91, 3) := by decide +kernel
theorem dX11_two_91 : decode cX11_two 91 = .ok (.iload_n 3, 1) := by decide +kernel
theorem dX11_two_92 : decode cX11_two 92 = .ok (.imul, 1) := by decide +kernel
theorem dX11_two_93 : decode cX11_two 93 = .ok (.iadd, 1) := by decide +kernel
theorem dX11_two_94 : decode cX11_two 94 = .ok (.invokestatic 232, 3) := by decide +kernel
theorem dX11_two_97 : decode cX11_two 97 = .ok (.iload 5, 2) := by decide +kernel
theorem dX11_two_99 : decode cX11_two 99 = .ok (.iconst 1, 1) := by decide +kernel
theorem dX11_two_100 : decode cX11_two 100 = .ok (.invokevirtual 143, 3) := by decide +kernel
theorem dX11_two_103 : decode cX11_two 103 = .ok (.bipush (-4), 2) := by decide +kernel
theorem dX11_two_105 : decode cX11_two 105 = .ok (.istore 8, 2) := by decide +kernel
theorem dX11_two_107 : decode cX11_two 107 = .ok (.iconst 0, 1) := by decide +kernel
theorem dX11_two_108 : decode cX11_two 108 = .ok (.istore 9, 2) := by decide +kernel
theorem dX11_two_110 : decode cX11_two 110 = .ok (.iload 9, 2) := by decide +kernel
theorem dX11_two_112 : decode cX11_two 112 = .ok (.sipush 400, 3) := by decide +kernel
theorem dX11_two_115 : decode cX11_two 115 = .ok (.if_icmp .ge 76, 3) := by decide +kernel
theorem dX11_two_118 : decode cX11_two 118 = .ok (.aload_n 0, 1) := by decide +kernel
theorem dX11_two_119 : decode cX11_two 119 = .ok (.getfield 31, 3) := by decide +kernel
theorem dX11_two_122 : decode cX11_two 122 = .ok (.invokevirtual 235, 3) := by decide +kernel
theorem dX11_two_125 : decode cX11_two 125 = .ok (.ifCond .ne 66, 3) := by decide +kernel
theorem dX11_two_128 : decode cX11_two 128 = .ok (.aload_n 0, 1) := by decide +kernel
theorem dX11_two_129 : decode cX11_two 129 = .ok (.getfield 35, 3) := by decide +kernel
theorem dX11_two_132 : decode cX11_two 132 = .ok (.invokevirtual 235, 3) := by decide +kernel
theorem dX11_two_135 : decode cX11_two 135 = .ok (.ifCond .ne 56, 3) := by decide +kernel
theorem dX11_two_138 : decode cX11_two 138 = .ok (.aload_n 0, 1) := by decide +kernel
theorem dX11_two_139 : decode cX11_two 139 = .ok (.getfield 31, 3) := by decide +kernel
theorem dX11_two_142 : decode cX11_two 142 = .ok (.aload_n 0, 1) := by decide +kernel
theorem dX11_two_143 : decode cX11_two 143 = .ok (.getfield 35, 3) := by decide +kernel
theorem dX11_two_146 : decode cX11_two 146 = .ok (.invokevirtual 239, 3) := by decide +kernel
theorem dX11_two_149 : decode cX11_two 149 = .ok (.istore 10, 2) := by decide +kernel
theorem dX11_two_151 : decode cX11_two 151 = .ok (.iload 8, 2) := by decide +kernel
theorem dX11_two_153 : decode cX11_two 153 = .ok (.bipush (-4), 2) := by decide +kernel
theorem dX11_two_155 : decode cX11_two 155 = .ok (.if_icmp .eq 10, 3) := by decide +kernel
theorem dX11_two_158 : decode cX11_two 158 = .ok (.iload 10, 2) := by decide +kernel
theorem dX11_two_160 : decode cX11_two 160 = .ok (.iload 8, 2) := by decide +kernel
theorem dX11_two_162 : decode cX11_two 162 = .ok (.if_icmp .ge 7, 3) := by decide +kernel
theorem dX11_two_165 : decode cX11_two 165 = .ok (.iload 10, 2) := by decide +kernel
theorem dX11_two_167 : decode cX11_two 167 = .ok (.istore 8, 2) := by decide +kernel
theorem dX11_two_169 : decode cX11_two 169 = .ok (.aload_n 0, 1) := by decide +kernel
theorem dX11_two_170 : decode cX11_two 170 = .ok (.getfield 31, 3) := by decide +kernel
theorem dX11_two_173 : decode cX11_two 173 = .ok (.iconst 1, 1) := by decide +kernel
theorem dX11_two_174 : decode cX11_two 174 = .ok (.invokevirtual 147, 3) := by decide +kernel
theorem dX11_two_177 : decode cX11_two 177 = .ok (.aload_n 0, 1) := by decide +kernel
theorem dX11_two_178 : decode cX11_two 178 = .ok (.getfield 35, 3) := by decide +kernel
theorem dX11_two_181 : decode cX11_two 181 = .ok (.iconst 1, 1) := by decide +kernel
theorem dX11_two_182 : decode cX11_two 182 = .ok (.invokevirtual 147, 3) := by decide +kernel
theorem dX11_two_185 : decode cX11_two 185 = .ok (.iinc 9 1, 3) := by decide +kernel
theorem dX11_two_188 : decode cX11_two 188 = .ok (.goto (-78), 3) := by decide +kernel
theorem dX11_two_191 : decode cX11_two 191 = .ok (.iload 8, 2) := by decide +kernel
theorem dX11_two_193 : decode cX11_two 193 = .ok (.ireturn, 1) := by decide +kernel
theorem dX11_habits_0 : decode cX11_habits 0 = .ok (.iload_n 1, 1) := by decide +kernel
theorem dX11_habits_1 : decode cX11_habits 1 = .ok (.bipush 100, 2) := by decide +kernel
theorem dX11_habits_3 : decode cX11_habits 3 = .ok (.idiv, 1) := by decide +kernel
theorem dX11_habits_4 : decode cX11_habits 4 = .ok (.istore 7, 2) := by decide +kernel
theorem dX11_habits_6 : decode cX11_habits 6 = .ok (.iload_n 1, 1) := by decide +kernel
theorem dX11_habits_7 : decode cX11_habits 7 = .ok (.bipush 100, 2) := by decide +kernel
theorem dX11_habits_9 : decode cX11_habits 9 = .ok (.irem, 1) := by decide +kernel
theorem dX11_habits_10 : decode cX11_habits 10 = .ok (.istore 8, 2) := by decide +kernel
theorem dX11_habits_12 : decode cX11_habits 12 = .ok (.iload_n 1, 1) := by decide +kernel
theorem dX11_habits_13 : decode cX11_habits 13 = .ok (.ifCond .lt 17, 3) := by decide +kernel
theorem dX11_habits_16 : decode cX11_habits 16 = .ok (.iload 7, 2) := by decide +kernel
theorem dX11_habits_18 : decode cX11_habits 18 = .ok (.bipush 9, 2) := by decide +kernel
theorem dX11_habits_20 : decode cX11_habits 20 = .ok (.if_icmp .gt 10, 3) := by decide +kernel
theorem dX11_habits_23 : decode cX11_habits 23 = .ok (.iload 8, 2) := by decide +kernel
theorem dX11_habits_25 : decode cX11_habits 25 = .ok (.bipush 20, 2) := by decide +kernel
theorem dX11_habits_27 : decode cX11_habits 27 = .ok (.if_icmp .le 5, 3) := by decide +kernel
theorem dX11_habits_30 : decode cX11_habits 30 = .ok (.iconst (-1), 1) := by decide +kernel
theorem dX11_habits_31 : decode cX11_habits 31 = .ok (.ireturn, 1) := by decide +kernel
theorem dX11_habits_32 : decode cX11_habits 32 = .ok (.iload_n 2, 1) := by decide +kernel
theorem dX11_habits_33 : decode cX11_habits 33 = .ok (.iload_n 3, 1) := by decide +kernel
theorem dX11_habits_34 : decode cX11_habits 34 = .ok (.invokestatic 125, 3) := by decide +kernel
theorem dX11_habits_37 : decode cX11_habits 37 = .ok (.ifCond .eq 25, 3) := by decide +kernel
theorem dX11_habits_40 : decode cX11_habits 40 = .ok (.iload 4, 2) := by decide +kernel
theorem dX11_habits_42 : decode cX11_habits 42 = .ok (.iload 5, 2) := by decide +kernel
theorem dX11_habits_44 : decode cX11_habits 44 = .ok (.invokestatic 125, 3) := by decide +kernel
theorem dX11_habits_47 : decode cX11_habits 47 = .ok (.ifCond .eq 15, 3) := by decide +kernel
theorem dX11_habits_50 : decode cX11_habits 50 = .ok (.iconst 0, 1) := by decide +kernel
theorem dX11_habits_51 : decode cX11_habits 51 = .ok (.iload 6, 2) := by decide +kernel
theorem dX11_habits_53 : decode cX11_habits 53 = .ok (.sipush 9999, 3) := by decide +kernel
theorem dX11_habits_56 : decode cX11_habits 56 = .ok (.invokestatic 83, 3) := by decide +kernel
theorem dX11_habits_59 : decode cX11_habits 59 = .ok (.ifCond .ne 5, 3) := by decide +kernel
theorem dX11_habits_62 : decode cX11_habits 62 = .ok (.iconst (-1), 1) := by decide +kernel
theorem dX11_habits_63 : decode cX11_habits 63 = .ok (.ireturn, 1) := by decide +kernel
theorem dX11_habits_64 : decode cX11_habits 64 = .ok (.iconst 0, 1) := by decide +kernel
theorem dX11_habits_65 : decode cX11_habits 65 = .ok (.istore 9, 2) := by decide +kernel
theorem dX11_habits_67 : decode cX11_habits 67 = .ok (.iconst 0, 1) := by decide +kernel
theorem dX11_habits_68 : decode cX11_habits 68 = .ok (.istore 10, 2) := by decide +kernel
theorem dX11_habits_70 : decode cX11_habits 70 = .ok (.iload 10, 2) := by decide +kernel
theorem dX11_habits_72 : decode cX11_habits 72 = .ok (.bipush 8, 2) := by decide +kernel
theorem dX11_habits_74 : decode cX11_habits 74 = .ok (.if_icmp .ge 74, 3) := by decide +kernel
theorem dX11_habits_77 : decode cX11_habits 77 = .ok (.aload_n 0, 1) := by decide +kernel
theorem dX11_habits_78 : decode cX11_habits 78 = .ok (.getfield 31, 3) := by decide +kernel
theorem dX11_habits_81 : decode cX11_habits 81 = .ok (.iload 10, 2) := by decide +kernel
theorem dX11_habits_83 : decode cX11_habits 83 = .ok (.iconst 0, 1) := by decide +kernel
theorem dX11_habits_84 : decode cX11_habits 84 = .ok (.iload 7, 2) := by decide +kernel
theorem dX11_habits_86 : decode cX11_habits 86 = .ok (.iload 8, 2) := by decide +kernel
theorem dX11_habits_88 : decode cX11_habits 88 = .ok (.invokestatic 243, 3) := by decide +kernel
theorem dX11_habits_91 : decode cX11_habits 91 = .ok (.iload_n 2, 1) := by decide +kernel
theorem dX11_habits_92 : decode cX11_habits 92 = .ok (.iload_n 3, 1) := by decide +kernel
theorem dX11_habits_93 : decode cX11_habits 93 = .ok (.invokevirtual 173, 3) := by decide +kernel
theorem dX11_habits_96 : decode cX11_habits 96 = .ok (.pop, 1) := by decide +kernel
theorem dX11_habits_97 : decode cX11_habits 97 = .ok (.aload_n 0, 1) := by decide +kernel
theorem dX11_habits_98 : decode cX11_habits 98 = .ok (.getfield 31, 3) := by decide +kernel
theorem dX11_habits_101 : decode cX11_habits 101 = .ok (.getfield 151, 3) := by decide +kernel
theorem dX11_habits_104 : decode cX11_habits 104 = .ok (.iload 4, 2) := by decide +kernel
theorem dX11_habits_106 : decode cX11_habits 106 = .ok (.isub, 1) := by decide +kernel
theorem dX11_habits_107 : decode cX11_habits 107 = .ok (.invokestatic 225, 3) := by decide +kernel
theorem dX11_habits_110 : decode cX11_habits 110 = .ok (.iload 6, 2) := by decide +kernel
theorem dX11_habits_112 : decode cX11_habits 112 = .ok (.if_icmp .gt 30, 3) := by decide +kernel
theorem dX11_habits_115 : decode cX11_habits 115 = .ok (.aload_n 0, 1) := by decide +kernel
theorem dX11_habits_116 : decode cX11_habits 116 = .ok (.getfield 31, 3) := by decide +kernel
theorem dX11_habits_119 : decode cX11_habits 119 = .ok (.getfield 154, 3) := by decide +kernel
theorem dX11_habits_122 : decode cX11_habits 122 = .ok (.iload 5, 2) := by decide +kernel
theorem dX11_habits_124 : decode cX11_habits 124 = .ok (.isub, 1) := by decide +kernel
theorem dX11_habits_125 : decode cX11_habits 125 = .ok (.invokestatic 225, 3) := by decide +kernel
theorem dX11_habits_128 : decode cX11_habits 128 = .ok (.iload 6, 2) := by decide +kernel
theorem dX11_habits_130 : decode cX11_habits 130 = .ok (.if_icmp .gt 12, 3) := by decide +kernel
theorem dX11_habits_133 : decode cX11_habits 133 = .ok (.iload 9, 2) := by decide +kernel
theorem dX11_habits_135 : decode cX11_habits 135 = .ok (.iconst 1, 1) := by decide +kernel
theorem dX11_habits_136 : decode cX11_habits 136 = .ok (.iload 10, 2) := by decide +kernel
theorem dX11_habits_138 : decode cX11_habits 138 = .ok (.ishl, 1) := by decide +kernel
theorem dX11_habits_139 : decode cX11_habits 139 = .ok (.ior, 1) := by decide +kernel
theorem dX11_habits_140 : decode cX11_habits 140 = .ok (.istore 9, 2) := by decide +kernel
theorem dX11_habits_142 : decode cX11_habits 142 = .ok (.iinc 10 1, 3) := by decide +kernel
theorem dX11_habits_145 : decode cX11_habits 145 = .ok (.goto (-75), 3) := by decide +kernel
theorem dX11_habits_148 : decode cX11_habits 148 = .ok (.iload 9, 2) := by decide +kernel
theorem dX11_habits_150 : decode cX11_habits 150 = .ok (.ireturn, 1) := by decide +kernel
theorem dX11_crates_0 : decode cX11_crates 0 = .ok (.iconst 1, 1) := by decide +kernel
theorem dX11_crates_1 : decode cX11_crates 1 = .ok (.iload_n 1, 1) := by decide +kernel
theorem dX11_crates_2 : decode cX11_crates 2 = .ok (.iconst 5, 1) := by decide +kernel
theorem dX11_crates_3 : decode cX11_crates 3 = .ok (.invokestatic 83, 3) := by decide +kernel
theorem dX11_crates_6 : decode cX11_crates 6 = .ok (.ifCond .eq 11, 3) := by decide +kernel
theorem dX11_crates_9 : decode cX11_crates 9 = .ok (.iload_n 2, 1) := by decide +kernel
theorem dX11_crates_10 : decode cX11_crates 10 = .ok (.iload_n 3, 1) := by decide +kernel
theorem dX11_crates_11 : decode cX11_crates 11 = .ok (.invokestatic 125, 3) := by decide +kernel
theorem dX11_crates_14 : decode cX11_crates 14 = .ok (.ifCond .ne 5, 3) := by decide +kernel
theorem dX11_crates_17 : decode cX11_crates 17 = .ok (.iconst (-1), 1) := by decide +kernel
theorem dX11_crates_18 : decode cX11_crates 18 = .ok (.ireturn, 1) := by decide +kernel
theorem dX11_crates_19 : decode cX11_crates 19 = .ok (.new 247, 3) := by decide +kernel
theorem dX11_crates_22 : decode cX11_crates 22 = .ok (.dup, 1) := by decide +kernel
theorem dX11_crates_23 : decode cX11_crates 23 = .ok (.iconst 0, 1) := by decide +kernel
theorem dX11_crates_24 : decode cX11_crates 24 = .ok (.iconst 0, 1) := by decide +kernel
theorem dX11_crates_25 : decode cX11_crates 25 = .ok (.iconst 0, 1) := by decide +kernel
theorem dX11_crates_26 : decode cX11_crates 26 = .ok (.invokespecial 249, 3) := by decide +kernel
theorem dX11_crates_29 : decode cX11_crates 29 = .ok (.astore 5, 2) := by decide +kernel
theorem dX11_crates_31 : decode cX11_crates 31 = .ok (.iconst 0, 1) := by decide +kernel
theorem dX11_crates_32 : decode cX11_crates 32 = .ok (.istore 6, 2) := by decide +kernel
theorem dX11_crates_34 : decode cX11_crates 34 = .ok (.iconst 0, 1) := by decide +kernel
theorem dX11_crates_35 : decode cX11_crates 35 = .ok (.istore 7, 2) := by decide +kernel
theorem dX11_crates_37 : decode cX11_crates 37 = .ok (.iload 7, 2) := by decide +kernel
theorem dX11_crates_39 : decode cX11_crates 39 = .ok (.iload_n 1, 1) := by decide +kernel
theorem dX11_crates_40 : decode cX11_crates 40 = .ok (.if_icmp .ge 124, 3) := by decide +kernel
theorem dX11_crates_43 : decode cX11_crates 43 = .ok (.aload_n 0, 1) := by decide +kernel
theorem dX11_crates_44 : decode cX11_crates 44 = .ok (.getfield 31, 3) := by decide +kernel
theorem dX11_crates_47 : decode cX11_crates 47 = .ok (.aload 5, 2) := by decide +kernel
theorem dX11_crates_49 : decode cX11_crates 49 = .ok (.iload_n 2, 1) := by decide +kernel
theorem dX11_crates_50 : decode cX11_crates 50 = .ok (.iload_n 3, 1) := by decide +kernel
theorem dX11_crates_51 : decode cX11_crates 51 = .ok (.iload 4, 2) := by decide +kernel
theorem dX11_crates_53 : decode cX11_crates 53 = .ok (.iload 7, 2) := by decide +kernel
theorem dX11_crates_55 : decode cX11_crates 55 = .ok (.iadd, 1) := by decide +kernel
theorem dX11_crates_56 : decode cX11_crates 56 = .ok (.invokevirtual 143, 3) := by decide +kernel
theorem dX11_crates_59 : decode cX11_crates 59 = .ok (.aload_n 0, 1) := by decide +kernel
theorem dX11_crates_60 : decode cX11_crates 60 = .ok (.getfield 31, 3) := by decide +kernel
theorem dX11_crates_63 : decode cX11_crates 63 = .ok (.invokevirtual 167, 3) := by decide +kernel
theorem dX11_crates_66 : decode cX11_crates 66 = .ok (.aload_n 0, 1) := by decide +kernel
theorem dX11_crates_67 : decode cX11_crates 67 = .ok (.getfield 51, 3) := by decide +kernel
theorem dX11_crates_70 : decode cX11_crates 70 = .ok (.iload 7, 2) := by decide +kernel
theorem dX11_crates_72 : decode cX11_crates 72 = .ok (.aload_n 0, 1) := by decide +kernel
theorem dX11_crates_73 : decode cX11_crates 73 = .ok (.getfield 31, 3) := by decide +kernel
theorem dX11_crates_76 : decode cX11_crates 76 = .ok (.getfield 151, 3) := by decide +kernel
theorem dX11_crates_79 : decode cX11_crates 79 = .ok (.iastore, 1) := by decide +kernel
theorem dX11_crates_80 : decode cX11_crates 80 = .ok (.aload_n 0, 1) := by decide +kernel
theorem dX11_crates_81 : decode cX11_crates 81 = .ok (.getfield 54, 3) := by decide +kernel
theorem dX11_crates_84 : decode cX11_crates 84 = .ok (.iload 7, 2) := by decide +kernel
theorem dX11_crates_86 : decode cX11_crates 86 = .ok (.aload_n 0, 1) := by decide +kernel
theorem dX11_crates_87 : decode cX11_crates 87 = .ok (.getfield 31, 3) := by decide +kernel
theorem dX11_crates_90 : decode cX11_crates 90 = .ok (.getfield 154, 3) := by decide +kernel
theorem dX11_crates_93 : decode cX11_crates 93 = .ok (.iastore, 1) := by decide +kernel
theorem dX11_crates_94 : decode cX11_crates 94 = .ok (.iconst 0, 1) := by decide +kernel
theorem dX11_crates_95 : decode cX11_crates 95 = .ok (.istore 8, 2) := by decide +kernel
theorem dX11_crates_97 : decode cX11_crates 97 = .ok (.iload 8, 2) := by decide +kernel
theorem dX11_crates_99 : decode cX11_crates 99 = .ok (.iload 7, 2) := by decide +kernel
theorem dX11_crates_101 : decode cX11_crates 101 = .ok (.if_icmp .ge 57, 3) := by decide +kernel
theorem dX11_crates_104 : decode cX11_crates 104 = .ok (.aload_n 0, 1) := by decide +kernel
theorem dX11_crates_105 : decode cX11_crates 105 = .ok (.getfield 51, 3) := by decide +kernel
theorem dX11_crates_108 : decode cX11_crates 108 = .ok (.iload 7, 2) := by decide +kernel
theorem dX11_crates_110 : decode cX11_crates 110 = .ok (.iaload, 1) := by decide +kernel
theorem dX11_crates_111 : decode cX11_crates 111 = .ok (.aload_n 0, 1) := by decide +kernel
theorem dX11_crates_112 : decode cX11_crates 112 = .ok (.getfield 51, 3) := by decide +kernel
theorem dX11_crates_115 : decode cX11_crates 115 = .ok (.iload 8, 2) := by decide +kernel
theorem dX11_crates_117 : decode cX11_crates 117 = .ok (.iaload, 1) := by decide +kernel
theorem dX11_crates_118 : decode cX11_crates 118 = .ok (.isub, 1) := by decide +kernel
theorem dX11_crates_119 : decode cX11_crates 119 = .ok (.invokestatic 225, 3) := by decide +kernel
theorem dX11_crates_122 : decode cX11_crates 122 = .ok (.aload_n 0, 1) := by decide +kernel
theorem dX11_crates_123 : decode cX11_crates 123 = .ok (.getfield 54, 3) := by decide +kernel
theorem dX11_crates_126 : decode cX11_crates 126 = .ok (.iload 7, 2) := by decide +kernel
theorem dX11_crates_128 : decode cX11_crates 128 = .ok (.iaload, 1) := by decide +kernel
theorem dX11_crates_129 : decode cX11_crates 129 = .ok (.aload_n 0, 1) := by decide +kernel
theorem dX11_crates_130 : decode cX11_crates 130 = .ok (.getfield 54, 3) := by decide +kernel
theorem dX11_crates_133 : decode cX11_crates 133 = .ok (.iload 8, 2) := by decide +kernel
theorem dX11_crates_135 : decode cX11_crates 135 = .ok (.iaload, 1) := by decide +kernel
theorem dX11_crates_136 : decode cX11_crates 136 = .ok (.isub, 1) := by decide +kernel
theorem dX11_crates_137 : decode cX11_crates 137 = .ok (.invokestatic 225, 3) := by decide +kernel
theorem dX11_crates_140 : decode cX11_crates 140 = .ok (.iadd, 1) := by decide +kernel
theorem dX11_crates_141 : decode cX11_crates 141 = .ok (.istore 9, 2) := by decide +kernel
theorem dX11_crates_143 : decode cX11_crates 143 = .ok (.iload 6, 2) := by decide +kernel
theorem dX11_crates_145 : decode cX11_crates 145 = .ok (.iload 9, 2) := by decide +kernel
theorem dX11_crates_147 : decode cX11_crates 147 = .ok (.invokestatic 252, 3) := by decide +kernel
theorem dX11_crates_150 : decode cX11_crates 150 = .ok (.istore 6, 2) := by decide +kernel
theorem dX11_crates_152 : decode cX11_crates 152 = .ok (.iinc 8 1, 3) := by decide +kernel
theorem dX11_crates_155 : decode cX11_crates 155 = .ok (.goto (-58), 3) := by decide +kernel
theorem dX11_crates_158 : decode cX11_crates 158 = .ok (.iinc 7 1, 3) := by decide +kernel
theorem dX11_crates_161 : decode cX11_crates 161 = .ok (.goto (-124), 3) := by decide +kernel
theorem dX11_crates_164 : decode cX11_crates 164 = .ok (.iload 6, 2) := by decide +kernel
theorem dX11_crates_166 : decode cX11_crates 166 = .ok (.ireturn, 1) := by decide +kernel
theorem dX11_judge_0 : decode cX11_judge 0 = .ok (.aload_n 0, 1) := by decide +kernel
theorem dX11_judge_1 : decode cX11_judge 1 = .ok (.getfield 10, 3) := by decide +kernel
theorem dX11_judge_4 : decode cX11_judge 4 = .ok (.iload_n 1, 1) := by decide +kernel
theorem dX11_judge_5 : decode cX11_judge 5 = .ok (.invokevirtual 97, 3) := by decide +kernel
theorem dX11_judge_8 : decode cX11_judge 8 = .ok (.astore 4, 2) := by decide +kernel
theorem dX11_judge_10 : decode cX11_judge 10 = .ok (.aload_n 0, 1) := by decide +kernel
theorem dX11_judge_11 : decode cX11_judge 11 = .ok (.iload_n 3, 1) := by decide +kernel
theorem dX11_judge_12 : decode cX11_judge 12 = .ok (.invokevirtual 58, 3) := by decide +kernel
theorem dX11_judge_15 : decode cX11_judge 15 = .ok (.astore 5, 2) := by decide +kernel
theorem dX11_judge_17 : decode cX11_judge 17 = .ok (.aload 4, 2) := by decide +kernel
theorem dX11_judge_19 : decode cX11_judge 19 = .ok (.ifnull 16, 3) := by decide +kernel
theorem dX11_judge_22 : decode cX11_judge 22 = .ok (.aload 5, 2) := by decide +kernel
theorem dX11_judge_24 : decode cX11_judge 24 = .ok (.ifnull 11, 3) := by decide +kernel
theorem dX11_judge_27 : decode cX11_judge 27 = .ok (.iconst 0, 1) := by decide +kernel
theorem dX11_judge_28 : decode cX11_judge 28 = .ok (.iload_n 2, 1) := by decide +kernel
theorem dX11_judge_29 : decode cX11_judge 29 = .ok (.invokestatic 125, 3) := by decide +kernel
theorem dX11_judge_32 : decode cX11_judge 32 = .ok (.ifCond .ne 5, 3) := by decide +kernel
theorem dX11_judge_35 : decode cX11_judge 35 = .ok (.iconst (-1), 1) := by decide +kernel
theorem dX11_judge_36 : decode cX11_judge 36 = .ok (.ireturn, 1) := by decide +kernel
theorem dX11_judge_37 : decode cX11_judge 37 = .ok (.aload 5, 2) := by decide +kernel
theorem dX11_judge_39 : decode cX11_judge 39 = .ok (.invokestatic 255, 3) := by decide +kernel
theorem dX11_judge_42 : decode cX11_judge 42 = .ok (.istore 6, 2) := by decide +kernel
theorem dX11_judge_44 : decode cX11_judge 44 = .ok (.iload 6, 2) := by decide +kernel
theorem dX11_judge_46 : decode cX11_judge 46 = .ok (.ifCond .eq 6, 3) := by decide +kernel
theorem dX11_judge_49 : decode cX11_judge 49 = .ok (.iload 6, 2) := by decide +kernel
theorem dX11_judge_51 : decode cX11_judge 51 = .ok (.ireturn, 1) := by decide +kernel
theorem dX11_judge_52 : decode cX11_judge 52 = .ok (.aload 5, 2) := by decide +kernel
theorem dX11_judge_54 : decode cX11_judge 54 = .ok (.getfield 189, 3) := by decide +kernel
theorem dX11_judge_57 : decode cX11_judge 57 = .ok (.bipush 31, 2) := by decide +kernel
theorem dX11_judge_59 : decode cX11_judge 59 = .ok (.if_icmp .le 6, 3) := by decide +kernel
theorem dX11_judge_62 : decode cX11_judge 62 = .ok (.bipush (-13), 2) := by decide +kernel
theorem dX11_judge_64 : decode cX11_judge 64 = .ok (.ireturn, 1) := by decide +kernel
theorem dX11_judge_65 : decode cX11_judge 65 = .ok (.iconst 0, 1) := by decide +kernel
theorem dX11_judge_66 : decode cX11_judge 66 = .ok (.istore 7, 2) := by decide +kernel
theorem dX11_judge_68 : decode cX11_judge 68 = .ok (.iload 7, 2) := by decide +kernel
theorem dX11_judge_70 : decode cX11_judge 70 = .ok (.aload 5, 2) := by decide +kernel
theorem dX11_judge_72 : decode cX11_judge 72 = .ok (.getfield 189, 3) := by decide +kernel
theorem dX11_judge_75 : decode cX11_judge 75 = .ok (.if_icmp .ge 52, 3) := by decide +kernel
theorem dX11_judge_78 : decode cX11_judge 78 = .ok (.aload 5, 2) := by decide +kernel
theorem dX11_judge_80 : decode cX11_judge 80 = .ok (.iload 7, 2) := by decide +kernel
theorem dX11_judge_82 : decode cX11_judge 82 = .ok (.invokevirtual 258, 3) := by decide +kernel
theorem dX11_judge_85 : decode cX11_judge 85 = .ok (.istore 8, 2) := by decide +kernel
theorem dX11_judge_87 : decode cX11_judge 87 = .ok (.iload 8, 2) := by decide +kernel
theorem dX11_judge_89 : decode cX11_judge 89 = .ok (.aload 5, 2) := by decide +kernel
theorem dX11_judge_91 : decode cX11_judge 91 = .ok (.invokevirtual 261, 3) := by decide +kernel
theorem dX11_judge_94 : decode cX11_judge 94 = .ok (.if_icmp .eq 27, 3) := by decide +kernel
theorem dX11_judge_97 : decode cX11_judge 97 = .ok (.iload 8, 2) := by decide +kernel
theorem dX11_judge_99 : decode cX11_judge 99 = .ok (.aload_n 0, 1) := by decide +kernel
theorem dX11_judge_100 : decode cX11_judge 100 = .ok (.getfield 31, 3) := by decide +kernel
theorem dX11_judge_103 : decode cX11_judge 103 = .ok (.aload 4, 2) := by decide +kernel
theorem dX11_judge_105 : decode cX11_judge 105 = .ok (.iload 7, 2) := by decide +kernel
theorem dX11_judge_107 : decode cX11_judge 107 = .ok (.sipush 1000, 3) := by decide +kernel
theorem dX11_judge_110 : decode cX11_judge 110 = .ok (.imul, 1) := by decide +kernel
theorem dX11_judge_111 : decode cX11_judge 111 = .ok (.iload_n 2, 1) := by decide +kernel
theorem dX11_judge_112 : decode cX11_judge 112 = .ok (.invokevirtual 173, 3) := by decide +kernel
theorem dX11_judge_115 : decode cX11_judge 115 = .ok (.if_icmp .eq 6, 3) := by decide +kernel
theorem dX11_judge_118 : decode cX11_judge 118 = .ok (.iload 7, 2) := by decide +kernel
theorem dX11_judge_120 : decode cX11_judge 120 = .ok (.ireturn, 1) := by decide +kernel
theorem dX11_judge_121 : decode cX11_judge 121 = .ok (.iinc 7 1, 3) := by decide +kernel
theorem dX11_judge_124 : decode cX11_judge 124 = .ok (.goto (-56), 3) := by decide +kernel
theorem dX11_judge_127 : decode cX11_judge 127 = .ok (.bipush (-4), 2) := by decide +kernel
theorem dX11_judge_129 : decode cX11_judge 129 = .ok (.ireturn, 1) := by decide +kernel
theorem dX11_image_0 : decode cX11_image 0 = .ok (.aload_n 0, 1) := by decide +kernel
theorem dX11_image_1 : decode cX11_image 1 = .ok (.getfield 19, 3) := by decide +kernel
theorem dX11_image_4 : decode cX11_image 4 = .ok (.aload_n 0, 1) := by decide +kernel
theorem dX11_image_5 : decode cX11_image 5 = .ok (.getfield 10, 3) := by decide +kernel
theorem dX11_image_8 : decode cX11_image 8 = .ok (.invokevirtual 66, 3) := by decide +kernel
theorem dX11_image_11 : decode cX11_image 11 = .ok (.aload_n 0, 1) := by decide +kernel
theorem dX11_image_12 : decode cX11_image 12 = .ok (.iconst 1, 1) := by decide +kernel
theorem dX11_image_13 : decode cX11_image 13 = .ok (.putfield 22, 3) := by decide +kernel
theorem dX11_image_16 : decode cX11_image 16 = .ok (.aload_n 0, 1) := by decide +kernel
theorem dX11_image_17 : decode cX11_image 17 = .ok (.getfield 10, 3) := by decide +kernel
theorem dX11_image_20 : decode cX11_image 20 = .ok (.getfield 264, 3) := by decide +kernel
theorem dX11_image_23 : decode cX11_image 23 = .ok (.ireturn, 1) := by decide +kernel
theorem dX11_restore_0 : decode cX11_restore 0 = .ok (.aload_n 0, 1) := by decide +kernel
theorem dX11_restore_1 : decode cX11_restore 1 = .ok (.getfield 22, 3) := by decide +kernel
theorem dX11_restore_4 : decode cX11_restore 4 = .ok (.ifCond .ne 6, 3) := by decide +kernel
theorem dX11_restore_7 : decode cX11_restore 7 = .ok (.bipush (-3), 2) := by decide +kernel
theorem dX11_restore_9 : decode cX11_restore 9 = .ok (.ireturn, 1) := by decide +kernel
theorem dX11_restore_10 : decode cX11_restore 10 = .ok (.aload_n 0, 1) := by decide +kernel
theorem dX11_restore_11 : decode cX11_restore 11 = .ok (.getfield 10, 3) := by decide +kernel
theorem dX11_restore_14 : decode cX11_restore 14 = .ok (.aload_n 0, 1) := by decide +kernel
theorem dX11_restore_15 : decode cX11_restore 15 = .ok (.getfield 19, 3) := by decide +kernel
theorem dX11_restore_18 : decode cX11_restore 18 = .ok (.invokevirtual 66, 3) := by decide +kernel
theorem dX11_restore_21 : decode cX11_restore 21 = .ok (.aload_n 0, 1) := by decide +kernel
theorem dX11_restore_22 : decode cX11_restore 22 = .ok (.getfield 10, 3) := by decide +kernel
theorem dX11_restore_25 : decode cX11_restore 25 = .ok (.getfield 264, 3) := by decide +kernel
theorem dX11_restore_28 : decode cX11_restore 28 = .ok (.ireturn, 1) := by decide +kernel
theorem dX11_count_0 : decode cX11_count 0 = .ok (.iload_n 1, 1) := by decide +kernel
theorem dX11_count_1 : decode cX11_count 1 = .ok (.tableswitch 87 0 5 #[39, 47, 55, 63, 71, 79], 39) := by decide +kernel
theorem dX11_count_40 : decode cX11_count 40 = .ok (.aload_n 0, 1) := by decide +kernel
theorem dX11_count_41 : decode cX11_count 41 = .ok (.getfield 10, 3) := by decide +kernel
theorem dX11_count_44 : decode cX11_count 44 = .ok (.getfield 264, 3) := by decide +kernel
theorem dX11_count_47 : decode cX11_count 47 = .ok (.ireturn, 1) := by decide +kernel
theorem dX11_count_48 : decode cX11_count 48 = .ok (.aload_n 0, 1) := by decide +kernel
theorem dX11_count_49 : decode cX11_count 49 = .ok (.getfield 10, 3) := by decide +kernel
theorem dX11_count_52 : decode cX11_count 52 = .ok (.getfield 267, 3) := by decide +kernel
theorem dX11_count_55 : decode cX11_count 55 = .ok (.ireturn, 1) := by decide +kernel
theorem dX11_count_56 : decode cX11_count 56 = .ok (.aload_n 0, 1) := by decide +kernel
theorem dX11_count_57 : decode cX11_count 57 = .ok (.getfield 10, 3) := by decide +kernel
theorem dX11_count_60 : decode cX11_count 60 = .ok (.invokevirtual 270, 3) := by decide +kernel
theorem dX11_count_63 : decode cX11_count 63 = .ok (.ireturn, 1) := by decide +kernel
theorem dX11_count_64 : decode cX11_count 64 = .ok (.aload_n 0, 1) := by decide +kernel
theorem dX11_count_65 : decode cX11_count 65 = .ok (.getfield 10, 3) := by decide +kernel
theorem dX11_count_68 : decode cX11_count 68 = .ok (.getfield 87, 3) := by decide +kernel
theorem dX11_count_71 : decode cX11_count 71 = .ok (.ireturn, 1) := by decide +kernel
theorem dX11_count_72 : decode cX11_count 72 = .ok (.aload_n 0, 1) := by decide +kernel
theorem dX11_count_73 : decode cX11_count 73 = .ok (.getfield 10, 3) := by decide +kernel
theorem dX11_count_76 : decode cX11_count 76 = .ok (.getfield 91, 3) := by decide +kernel
theorem dX11_count_79 : decode cX11_count 79 = .ok (.ireturn, 1) := by decide +kernel
theorem dX11_count_80 : decode cX11_count 80 = .ok (.aload_n 0, 1) := by decide +kernel
theorem dX11_count_81 : decode cX11_count 81 = .ok (.getfield 10, 3) := by decide +kernel
theorem dX11_count_84 : decode cX11_count 84 = .ok (.getfield 94, 3) := by decide +kernel
theorem dX11_count_87 : decode cX11_count 87 = .ok (.ireturn, 1) := by decide +kernel
theorem dX11_count_88 : decode cX11_count 88 = .ok (.iconst (-1), 1) := by decide +kernel
theorem dX11_count_89 : decode cX11_count 89 = .ok (.ireturn, 1) := by decide +kernel
theorem dX11_keep_0 : decode cX11_keep 0 = .ok (.aload_n 0, 1) := by decide +kernel
theorem dX11_keep_1 : decode cX11_keep 1 = .ok (.iload_n 1, 1) := by decide +kernel
theorem dX11_keep_2 : decode cX11_keep 2 = .ok (.invokevirtual 58, 3) := by decide +kernel
theorem dX11_keep_5 : decode cX11_keep 5 = .ok (.astore 4, 2) := by decide +kernel
theorem dX11_keep_7 : decode cX11_keep 7 = .ok (.aload 4, 2) := by decide +kernel
theorem dX11_keep_9 : decode cX11_keep 9 = .ok (.ifnull 12, 3) := by decide +kernel
theorem dX11_keep_12 : decode cX11_keep 12 = .ok (.iconst 0, 1) := by decide +kernel
theorem dX11_keep_13 : decode cX11_keep 13 = .ok (.iload_n 2, 1) := by decide +kernel
theorem dX11_keep_14 : decode cX11_keep 14 = .ok (.iconst 1, 1) := by decide +kernel
theorem dX11_keep_15 : decode cX11_keep 15 = .ok (.invokestatic 83, 3) := by decide +kernel
theorem dX11_keep_18 : decode cX11_keep 18 = .ok (.ifCond .ne 5, 3) := by decide +kernel
theorem dX11_keep_21 : decode cX11_keep 21 = .ok (.iconst (-1), 1) := by decide +kernel
theorem dX11_keep_22 : decode cX11_keep 22 = .ok (.ireturn, 1) := by decide +kernel
theorem dX11_keep_23 : decode cX11_keep 23 = .ok (.iload_n 2, 1) := by decide +kernel
theorem dX11_keep_24 : decode cX11_keep 24 = .ok (.ifCond .ne 10, 3) := by decide +kernel
theorem dX11_keep_27 : decode cX11_keep 27 = .ok (.aload 4, 2) := by decide +kernel
theorem dX11_keep_29 : decode cX11_keep 29 = .ok (.invokevirtual 273, 3) := by decide +kernel
theorem dX11_keep_32 : decode cX11_keep 32 = .ok (.iconst 0, 1) := by decide +kernel
theorem dX11_keep_33 : decode cX11_keep 33 = .ok (.ireturn, 1) := by decide +kernel
theorem dX11_keep_34 : decode cX11_keep 34 = .ok (.aload_n 0, 1) := by decide +kernel
theorem dX11_keep_35 : decode cX11_keep 35 = .ok (.getfield 10, 3) := by decide +kernel
theorem dX11_keep_38 : decode cX11_keep 38 = .ok (.iload_n 3, 1) := by decide +kernel
theorem dX11_keep_39 : decode cX11_keep 39 = .ok (.invokevirtual 97, 3) := by decide +kernel
theorem dX11_keep_42 : decode cX11_keep 42 = .ok (.astore 5, 2) := by decide +kernel
theorem dX11_keep_44 : decode cX11_keep 44 = .ok (.aload 5, 2) := by decide +kernel
theorem dX11_keep_46 : decode cX11_keep 46 = .ok (.ifnonnull 5, 3) := by decide +kernel
theorem dX11_keep_49 : decode cX11_keep 49 = .ok (.iconst (-1), 1) := by decide +kernel
theorem dX11_keep_50 : decode cX11_keep 50 = .ok (.ireturn, 1) := by decide +kernel
theorem dX11_keep_51 : decode cX11_keep 51 = .ok (.aload 4, 2) := by decide +kernel
theorem dX11_keep_53 : decode cX11_keep 53 = .ok (.aload 5, 2) := by decide +kernel
theorem dX11_keep_55 : decode cX11_keep 55 = .ok (.invokevirtual 276, 3) := by decide +kernel
theorem dX11_keep_58 : decode cX11_keep 58 = .ok (.iconst 0, 1) := by decide +kernel
theorem dX11_keep_59 : decode cX11_keep 59 = .ok (.ireturn, 1) := by decide +kernel
theorem dX11_row_0 : decode cX11_row 0 = .ok (.aload_n 0, 1) := by decide +kernel
theorem dX11_row_1 : decode cX11_row 1 = .ok (.iload_n 1, 1) := by decide +kernel
theorem dX11_row_2 : decode cX11_row 2 = .ok (.invokevirtual 58, 3) := by decide +kernel
theorem dX11_row_5 : decode cX11_row 5 = .ok (.astore 4, 2) := by decide +kernel
theorem dX11_row_7 : decode cX11_row 7 = .ok (.aload 4, 2) := by decide +kernel
theorem dX11_row_9 : decode cX11_row 9 = .ok (.ifnull 18, 3) := by decide +kernel
theorem dX11_row_12 : decode cX11_row 12 = .ok (.iconst 0, 1) := by decide +kernel
theorem dX11_row_13 : decode cX11_row 13 = .ok (.iload_n 2, 1) := by decide +kernel
theorem dX11_row_14 : decode cX11_row 14 = .ok (.iconst 2, 1) := by decide +kernel
theorem dX11_row_15 : decode cX11_row 15 = .ok (.invokestatic 83, 3) := by decide +kernel
theorem dX11_row_18 : decode cX11_row 18 = .ok (.ifCond .eq 9, 3) := by decide +kernel
theorem dX11_row_21 : decode cX11_row 21 = .ok (.iload_n 3, 1) := by decide +kernel
theorem dX11_row_22 : decode cX11_row 22 = .ok (.bipush 100, 2) := by decide +kernel
theorem dX11_row_24 : decode cX11_row 24 = .ok (.if_icmp .le 5, 3) := by decide +kernel
theorem dX11_row_27 : decode cX11_row 27 = .ok (.iconst (-1), 1) := by decide +kernel
theorem dX11_row_28 : decode cX11_row 28 = .ok (.ireturn, 1) := by decide +kernel
theorem dX11_row_29 : decode cX11_row 29 = .ok (.iload_n 3, 1) := by decide +kernel
theorem dX11_row_30 : decode cX11_row 30 = .ok (.ifCond .ge 6, 3) := by decide +kernel
theorem dX11_row_33 : decode cX11_row 33 = .ok (.bipush (-14), 2) := by decide +kernel
theorem dX11_row_35 : decode cX11_row 35 = .ok (.ireturn, 1) := by decide +kernel
theorem dX11_row_36 : decode cX11_row 36 = .ok (.aload 4, 2) := by decide +kernel
theorem dX11_row_38 : decode cX11_row 38 = .ok (.iload_n 2, 1) := by decide +kernel
theorem dX11_row_39 : decode cX11_row 39 = .ok (.iload_n 3, 1) := by decide +kernel
theorem dX11_row_40 : decode cX11_row 40 = .ok (.invokevirtual 280, 3) := by decide +kernel
theorem dX11_row_43 : decode cX11_row 43 = .ok (.iconst 0, 1) := by decide +kernel
theorem dX11_row_44 : decode cX11_row 44 = .ok (.ireturn, 1) := by decide +kernel
theorem dX11_put_0 : decode cX11_put 0 = .ok (.aload_n 0, 1) := by decide +kernel
theorem dX11_put_1 : decode cX11_put 1 = .ok (.iload_n 1, 1) := by decide +kernel
theorem dX11_put_2 : decode cX11_put 2 = .ok (.invokevirtual 58, 3) := by decide +kernel
theorem dX11_put_5 : decode cX11_put 5 = .ok (.astore 4, 2) := by decide +kernel
theorem dX11_put_7 : decode cX11_put 7 = .ok (.aload 4, 2) := by decide +kernel
theorem dX11_put_9 : decode cX11_put 9 = .ok (.ifnonnull 5, 3) := by decide +kernel
theorem dX11_put_12 : decode cX11_put 12 = .ok (.iconst (-1), 1) := by decide +kernel
theorem dX11_put_13 : decode cX11_put 13 = .ok (.ireturn, 1) := by decide +kernel
theorem dX11_put_14 : decode cX11_put 14 = .ok (.aload 4, 2) := by decide +kernel
theorem dX11_put_16 : decode cX11_put 16 = .ok (.invokestatic 255, 3) := by decide +kernel
theorem dX11_put_19 : decode cX11_put 19 = .ok (.istore 5, 2) := by decide +kernel
theorem dX11_put_21 : decode cX11_put 21 = .ok (.iload 5, 2) := by decide +kernel
theorem dX11_put_23 : decode cX11_put 23 = .ok (.ifCond .eq 6, 3) := by decide +kernel
theorem dX11_put_26 : decode cX11_put 26 = .ok (.iload 5, 2) := by decide +kernel
theorem dX11_put_28 : decode cX11_put 28 = .ok (.ireturn, 1) := by decide +kernel
theorem dX11_put_29 : decode cX11_put 29 = .ok (.aload 4, 2) := by decide +kernel
theorem dX11_put_31 : decode cX11_put 31 = .ok (.iload_n 2, 1) := by decide +kernel
theorem dX11_put_32 : decode cX11_put 32 = .ok (.iconst 1, 1) := by decide +kernel
theorem dX11_put_33 : decode cX11_put 33 = .ok (.invokevirtual 283, 3) := by decide +kernel
theorem dX11_put_36 : decode cX11_put 36 = .ok (.ifCond .ne 6, 3) := by decide +kernel
theorem dX11_put_39 : decode cX11_put 39 = .ok (.bipush (-13), 2) := by decide +kernel
theorem dX11_put_41 : decode cX11_put 41 = .ok (.ireturn, 1) := by decide +kernel
theorem dX11_put_42 : decode cX11_put 42 = .ok (.aload 4, 2) := by decide +kernel
theorem dX11_put_44 : decode cX11_put 44 = .ok (.iload_n 2, 1) := by decide +kernel
theorem dX11_put_45 : decode cX11_put 45 = .ok (.iload_n 3, 1) := by decide +kernel
theorem dX11_put_46 : decode cX11_put 46 = .ok (.invokevirtual 286, 3) := by decide +kernel
theorem dX11_put_49 : decode cX11_put 49 = .ok (.iconst 0, 1) := by decide +kernel
theorem dX11_put_50 : decode cX11_put 50 = .ok (.ireturn, 1) := by decide +kernel
theorem dX11_element_0 : decode cX11_element 0 = .ok (.aload_n 0, 1) := by decide +kernel
theorem dX11_element_1 : decode cX11_element 1 = .ok (.iload_n 1, 1) := by decide +kernel
theorem dX11_element_2 : decode cX11_element 2 = .ok (.invokevirtual 58, 3) := by decide +kernel
theorem dX11_element_5 : decode cX11_element 5 = .ok (.astore_n 3, 1) := by decide +kernel
theorem dX11_element_6 : decode cX11_element 6 = .ok (.aload_n 3, 1) := by decide +kernel
theorem dX11_element_7 : decode cX11_element 7 = .ok (.ifnonnull 14, 3) := by decide +kernel
theorem dX11_element_10 : decode cX11_element 10 = .ok (.new 289, 3) := by decide +kernel
theorem dX11_element_13 : decode cX11_element 13 = .ok (.dup, 1) := by decide +kernel
theorem dX11_element_14 : decode cX11_element 14 = .ok (.ldc_w 291, 3) := by decide +kernel
theorem dX11_element_17 : decode cX11_element 17 = .ok (.invokespecial 293, 3) := by decide +kernel
theorem dX11_element_20 : decode cX11_element 20 = .ok (.athrow, 1) := by decide +kernel
theorem dX11_element_21 : decode cX11_element 21 = .ok (.aload_n 3, 1) := by decide +kernel
theorem dX11_element_22 : decode cX11_element 22 = .ok (.getfield 296, 3) := by decide +kernel
theorem dX11_element_25 : decode cX11_element 25 = .ok (.ifCond .ne 14, 3) := by decide +kernel
theorem dX11_element_28 : decode cX11_element 28 = .ok (.new 299, 3) := by decide +kernel
theorem dX11_element_31 : decode cX11_element 31 = .ok (.dup, 1) := by decide +kernel
theorem dX11_element_32 : decode cX11_element 32 = .ok (.ldc_w 301, 3) := by decide +kernel
theorem dX11_element_35 : decode cX11_element 35 = .ok (.invokespecial 303, 3) := by decide +kernel
theorem dX11_element_38 : decode cX11_element 38 = .ok (.athrow, 1) := by decide +kernel
theorem dX11_element_39 : decode cX11_element 39 = .ok (.aload_n 3, 1) := by decide +kernel
theorem dX11_element_40 : decode cX11_element 40 = .ok (.iload_n 2, 1) := by decide +kernel
theorem dX11_element_41 : decode cX11_element 41 = .ok (.iconst 1, 1) := by decide +kernel
theorem dX11_element_42 : decode cX11_element 42 = .ok (.invokevirtual 283, 3) := by decide +kernel
theorem dX11_element_45 : decode cX11_element 45 = .ok (.ifCond .ne 14, 3) := by decide +kernel
theorem dX11_element_48 : decode cX11_element 48 = .ok (.new 299, 3) := by decide +kernel
theorem dX11_element_51 : decode cX11_element 51 = .ok (.dup, 1) := by decide +kernel
theorem dX11_element_52 : decode cX11_element 52 = .ok (.ldc_w 304, 3) := by decide +kernel
theorem dX11_element_55 : decode cX11_element 55 = .ok (.invokespecial 303, 3) := by decide +kernel
theorem dX11_element_58 : decode cX11_element 58 = .ok (.athrow, 1) := by decide +kernel
theorem dX11_element_59 : decode cX11_element 59 = .ok (.aload_n 3, 1) := by decide +kernel
theorem dX11_element_60 : decode cX11_element 60 = .ok (.iload_n 2, 1) := by decide +kernel
theorem dX11_element_61 : decode cX11_element 61 = .ok (.invokevirtual 258, 3) := by decide +kernel
theorem dX11_element_64 : decode cX11_element 64 = .ok (.i2l, 1) := by decide +kernel
theorem dX11_element_65 : decode cX11_element 65 = .ok (.lreturn, 1) := by decide +kernel
theorem dX11_copy_0 : decode cX11_copy 0 = .ok (.aload_n 0, 1) := by decide +kernel
theorem dX11_copy_1 : decode cX11_copy 1 = .ok (.iload_n 1, 1) := by decide +kernel
theorem dX11_copy_2 : decode cX11_copy 2 = .ok (.invokevirtual 58, 3) := by decide +kernel
theorem dX11_copy_5 : decode cX11_copy 5 = .ok (.astore 6, 2) := by decide +kernel
theorem dX11_copy_7 : decode cX11_copy 7 = .ok (.aload_n 0, 1) := by decide +kernel
theorem dX11_copy_8 : decode cX11_copy 8 = .ok (.iload_n 3, 1) := by decide +kernel
theorem dX11_copy_9 : decode cX11_copy 9 = .ok (.invokevirtual 58, 3) := by decide +kernel
theorem dX11_copy_12 : decode cX11_copy 12 = .ok (.astore 7, 2) := by decide +kernel
theorem dX11_copy_14 : decode cX11_copy 14 = .ok (.aload 6, 2) := by decide +kernel
theorem dX11_copy_16 : decode cX11_copy 16 = .ok (.ifnull 8, 3) := by decide +kernel
theorem dX11_copy_19 : decode cX11_copy 19 = .ok (.aload 7, 2) := by decide +kernel
theorem dX11_copy_21 : decode cX11_copy 21 = .ok (.ifnonnull 5, 3) := by decide +kernel
theorem dX11_copy_24 : decode cX11_copy 24 = .ok (.iconst (-1), 1) := by decide +kernel
theorem dX11_copy_25 : decode cX11_copy 25 = .ok (.ireturn, 1) := by decide +kernel
theorem dX11_copy_26 : decode cX11_copy 26 = .ok (.aload 6, 2) := by decide +kernel
theorem dX11_copy_28 : decode cX11_copy 28 = .ok (.invokevirtual 306, 3) := by decide +kernel
theorem dX11_copy_31 : decode cX11_copy 31 = .ok (.ifCond .ne 11, 3) := by decide +kernel
theorem dX11_copy_34 : decode cX11_copy 34 = .ok (.aload 7, 2) := by decide +kernel
theorem dX11_copy_36 : decode cX11_copy 36 = .ok (.invokevirtual 306, 3) := by decide +kernel
theorem dX11_copy_39 : decode cX11_copy 39 = .ok (.ifCond .eq 6, 3) := by decide +kernel
theorem dX11_copy_42 : decode cX11_copy 42 = .ok (.bipush (-11), 2) := by decide +kernel
theorem dX11_copy_44 : decode cX11_copy 44 = .ok (.ireturn, 1) := by decide +kernel
theorem dX11_copy_45 : decode cX11_copy 45 = .ok (.aload 6, 2) := by decide +kernel
theorem dX11_copy_47 : decode cX11_copy 47 = .ok (.getfield 296, 3) := by decide +kernel
theorem dX11_copy_50 : decode cX11_copy 50 = .ok (.ifCond .eq 24, 3) := by decide +kernel
theorem dX11_copy_53 : decode cX11_copy 53 = .ok (.aload 7, 2) := by decide +kernel
theorem dX11_copy_55 : decode cX11_copy 55 = .ok (.getfield 296, 3) := by decide +kernel
theorem dX11_copy_58 : decode cX11_copy 58 = .ok (.ifCond .eq 16, 3) := by decide +kernel
theorem dX11_copy_61 : decode cX11_copy 61 = .ok (.aload 6, 2) := by decide +kernel
theorem dX11_copy_63 : decode cX11_copy 63 = .ok (.getfield 309, 3) := by decide +kernel
theorem dX11_copy_66 : decode cX11_copy 66 = .ok (.aload 7, 2) := by decide +kernel
theorem dX11_copy_68 : decode cX11_copy 68 = .ok (.getfield 309, 3) := by decide +kernel
theorem dX11_copy_71 : decode cX11_copy 71 = .ok (.if_icmp .eq 6, 3) := by decide +kernel
theorem dX11_copy_74 : decode cX11_copy 74 = .ok (.bipush (-12), 2) := by decide +kernel
theorem dX11_copy_76 : decode cX11_copy 76 = .ok (.ireturn, 1) := by decide +kernel
theorem dX11_copy_77 : decode cX11_copy 77 = .ok (.aload 6, 2) := by decide +kernel
theorem dX11_copy_79 : decode cX11_copy 79 = .ok (.iload_n 2, 1) := by decide +kernel
theorem dX11_copy_80 : decode cX11_copy 80 = .ok (.iload 5, 2) := by decide +kernel
theorem dX11_copy_82 : decode cX11_copy 82 = .ok (.invokevirtual 283, 3) := by decide +kernel
theorem dX11_copy_85 : decode cX11_copy 85 = .ok (.ifCond .eq 15, 3) := by decide +kernel
theorem dX11_copy_88 : decode cX11_copy 88 = .ok (.aload 7, 2) := by decide +kernel
theorem dX11_copy_90 : decode cX11_copy 90 = .ok (.iload 4, 2) := by decide +kernel
theorem dX11_copy_92 : decode cX11_copy 92 = .ok (.iload 5, 2) := by decide +kernel
theorem dX11_copy_94 : decode cX11_copy 94 = .ok (.invokevirtual 283, 3) := by decide +kernel
theorem dX11_copy_97 : decode cX11_copy 97 = .ok (.ifCond .ne 6, 3) := by decide +kernel
theorem dX11_copy_100 : decode cX11_copy 100 = .ok (.bipush (-13), 2) := by decide +kernel
theorem dX11_copy_102 : decode cX11_copy 102 = .ok (.ireturn, 1) := by decide +kernel
theorem dX11_copy_103 : decode cX11_copy 103 = .ok (.aload 6, 2) := by decide +kernel
theorem dX11_copy_105 : decode cX11_copy 105 = .ok (.getfield 312, 3) := by decide +kernel
theorem dX11_copy_108 : decode cX11_copy 108 = .ok (.iload_n 2, 1) := by decide +kernel
theorem dX11_copy_109 : decode cX11_copy 109 = .ok (.aload 7, 2) := by decide +kernel
theorem dX11_copy_111 : decode cX11_copy 111 = .ok (.getfield 312, 3) := by decide +kernel
theorem dX11_copy_114 : decode cX11_copy 114 = .ok (.iload 4, 2) := by decide +kernel
theorem dX11_copy_116 : decode cX11_copy 116 = .ok (.iload 5, 2) := by decide +kernel
theorem dX11_copy_118 : decode cX11_copy 118 = .ok (.invokestatic 315, 3) := by decide +kernel
theorem dX11_copy_121 : decode cX11_copy 121 = .ok (.iload 5, 2) := by decide +kernel
theorem dX11_copy_123 : decode cX11_copy 123 = .ok (.ireturn, 1) := by decide +kernel
theorem dX11_care_0 : decode cX11_care 0 = .ok (.aload_n 0, 1) := by decide +kernel
theorem dX11_care_1 : decode cX11_care 1 = .ok (.iload_n 1, 1) := by decide +kernel
theorem dX11_care_2 : decode cX11_care 2 = .ok (.invokevirtual 58, 3) := by decide +kernel
theorem dX11_care_5 : decode cX11_care 5 = .ok (.astore_n 2, 1) := by decide +kernel
theorem dX11_care_6 : decode cX11_care 6 = .ok (.aload_n 2, 1) := by decide +kernel
theorem dX11_care_7 : decode cX11_care 7 = .ok (.ifnonnull 5, 3) := by decide +kernel
theorem dX11_care_10 : decode cX11_care 10 = .ok (.iconst (-1), 1) := by decide +kernel
theorem dX11_care_11 : decode cX11_care 11 = .ok (.ireturn, 1) := by decide +kernel
theorem dX11_care_12 : decode cX11_care 12 = .ok (.aload_n 2, 1) := by decide +kernel
theorem dX11_care_13 : decode cX11_care 13 = .ok (.getfield 321, 3) := by decide +kernel
theorem dX11_care_16 : decode cX11_care 16 = .ok (.astore_n 3, 1) := by decide +kernel
theorem dX11_care_17 : decode cX11_care 17 = .ok (.aload_n 3, 1) := by decide +kernel
theorem dX11_care_18 : decode cX11_care 18 = .ok (.ifnonnull 18, 3) := by decide +kernel
theorem dX11_care_21 : decode cX11_care 21 = .ok (.aload_n 2, 1) := by decide +kernel
theorem dX11_care_22 : decode cX11_care 22 = .ok (.getfield 296, 3) := by decide +kernel
theorem dX11_care_25 : decode cX11_care 25 = .ok (.ifCond .eq 8, 3) := by decide +kernel
theorem dX11_care_28 : decode cX11_care 28 = .ok (.bipush (-12), 2) := by decide +kernel
theorem dX11_care_30 : decode cX11_care 30 = .ok (.goto 5, 3) := by decide +kernel
theorem dX11_care_33 : decode cX11_care 33 = .ok (.bipush (-11), 2) := by decide +kernel
theorem dX11_care_35 : decode cX11_care 35 = .ok (.ireturn, 1) := by decide +kernel
theorem dX11_care_36 : decode cX11_care 36 = .ok (.aload_n 3, 1) := by decide +kernel
theorem dX11_care_37 : decode cX11_care 37 = .ok (.getfield 325, 3) := by decide +kernel
theorem dX11_care_40 : decode cX11_care 40 = .ok (.ireturn, 1) := by decide +kernel
theorem dX11_toss_0 : decode cX11_toss 0 = .ok (.aload_n 0, 1) := by decide +kernel
theorem dX11_toss_1 : decode cX11_toss 1 = .ok (.iload_n 1, 1) := by decide +kernel
theorem dX11_toss_2 : decode cX11_toss 2 = .ok (.invokevirtual 58, 3) := by decide +kernel
theorem dX11_toss_5 : decode cX11_toss 5 = .ok (.astore_n 2, 1) := by decide +kernel
theorem dX11_toss_6 : decode cX11_toss 6 = .ok (.aload_n 2, 1) := by decide +kernel
theorem dX11_toss_7 : decode cX11_toss 7 = .ok (.ifnonnull 5, 3) := by decide +kernel
theorem dX11_toss_10 : decode cX11_toss 10 = .ok (.iconst (-1), 1) := by decide +kernel
theorem dX11_toss_11 : decode cX11_toss 11 = .ok (.ireturn, 1) := by decide +kernel
theorem dX11_toss_12 : decode cX11_toss 12 = .ok (.aload_n 2, 1) := by decide +kernel
theorem dX11_toss_13 : decode cX11_toss 13 = .ok (.getfield 321, 3) := by decide +kernel
theorem dX11_toss_16 : decode cX11_toss 16 = .ok (.astore_n 3, 1) := by decide +kernel
theorem dX11_toss_17 : decode cX11_toss 17 = .ok (.aload_n 3, 1) := by decide +kernel
theorem dX11_toss_18 : decode cX11_toss 18 = .ok (.ifnonnull 18, 3) := by decide +kernel
theorem dX11_toss_21 : decode cX11_toss 21 = .ok (.aload_n 2, 1) := by decide +kernel
theorem dX11_toss_22 : decode cX11_toss 22 = .ok (.getfield 296, 3) := by decide +kernel
theorem dX11_toss_25 : decode cX11_toss 25 = .ok (.ifCond .eq 8, 3) := by decide +kernel
theorem dX11_toss_28 : decode cX11_toss 28 = .ok (.bipush (-12), 2) := by decide +kernel
theorem dX11_toss_30 : decode cX11_toss 30 = .ok (.goto 5, 3) := by decide +kernel
theorem dX11_toss_33 : decode cX11_toss 33 = .ok (.bipush (-11), 2) := by decide +kernel
theorem dX11_toss_35 : decode cX11_toss 35 = .ok (.ireturn, 1) := by decide +kernel
theorem dX11_toss_36 : decode cX11_toss 36 = .ok (.aload_n 3, 1) := by decide +kernel
theorem dX11_toss_37 : decode cX11_toss 37 = .ok (.invokevirtual 328, 3) := by decide +kernel
theorem dX11_toss_40 : decode cX11_toss 40 = .ok (.goto 31, 3) := by decide +kernel
theorem dX11_toss_43 : decode cX11_toss 43 = .ok (.astore 4, 2) := by decide +kernel
theorem dX11_toss_45 : decode cX11_toss 45 = .ok (.aload_n 3, 1) := by decide +kernel
theorem dX11_toss_46 : decode cX11_toss 46 = .ok (.getfield 331, 3) := by decide +kernel
theorem dX11_toss_49 : decode cX11_toss 49 = .ok (.ireturn, 1) := by decide +kernel
theorem dX11_toss_50 : decode cX11_toss 50 = .ok (.astore 4, 2) := by decide +kernel
theorem dX11_toss_52 : decode cX11_toss 52 = .ok (.aload_n 3, 1) := by decide +kernel
theorem dX11_toss_53 : decode cX11_toss 53 = .ok (.getfield 331, 3) := by decide +kernel
theorem dX11_toss_56 : decode cX11_toss 56 = .ok (.bipush 100, 2) := by decide +kernel
theorem dX11_toss_58 : decode cX11_toss 58 = .ok (.iadd, 1) := by decide +kernel
theorem dX11_toss_59 : decode cX11_toss 59 = .ok (.ireturn, 1) := by decide +kernel
theorem dX11_toss_60 : decode cX11_toss 60 = .ok (.astore 4, 2) := by decide +kernel
theorem dX11_toss_62 : decode cX11_toss 62 = .ok (.sipush 200, 3) := by decide +kernel
theorem dX11_toss_65 : decode cX11_toss 65 = .ok (.aload_n 3, 1) := by decide +kernel
theorem dX11_toss_66 : decode cX11_toss 66 = .ok (.getfield 325, 3) := by decide +kernel
theorem dX11_toss_69 : decode cX11_toss 69 = .ok (.iadd, 1) := by decide +kernel
theorem dX11_toss_70 : decode cX11_toss 70 = .ok (.ireturn, 1) := by decide +kernel
theorem dX11_toss_71 : decode cX11_toss 71 = .ok (.bipush (-15), 2) := by decide +kernel
theorem dX11_toss_73 : decode cX11_toss 73 = .ok (.ireturn, 1) := by decide +kernel
theorem dX11_isFrom_0 : decode cX11_isFrom 0 = .ok (.iload_n 0, 1) := by decide +kernel
theorem dX11_isFrom_1 : decode cX11_isFrom 1 = .ok (.iload_n 1, 1) := by decide +kernel
theorem dX11_isFrom_2 : decode cX11_isFrom 2 = .ok (.if_icmp .gt 12, 3) := by decide +kernel
theorem dX11_isFrom_5 : decode cX11_isFrom 5 = .ok (.iload_n 1, 1) := by decide +kernel
theorem dX11_isFrom_6 : decode cX11_isFrom 6 = .ok (.iload_n 2, 1) := by decide +kernel
theorem dX11_isFrom_7 : decode cX11_isFrom 7 = .ok (.if_icmp .gt 7, 3) := by decide +kernel
theorem dX11_isFrom_10 : decode cX11_isFrom 10 = .ok (.iconst 1, 1) := by decide +kernel
theorem dX11_isFrom_11 : decode cX11_isFrom 11 = .ok (.goto 4, 3) := by decide +kernel
theorem dX11_isFrom_14 : decode cX11_isFrom 14 = .ok (.iconst 0, 1) := by decide +kernel
theorem dX11_isFrom_15 : decode cX11_isFrom 15 = .ok (.ireturn, 1) := by decide +kernel
theorem dX11_isPlace_0 : decode cX11_isPlace 0 = .ok (.sipush (-30000), 3) := by decide +kernel
theorem dX11_isPlace_3 : decode cX11_isPlace 3 = .ok (.iload_n 0, 1) := by decide +kernel
theorem dX11_isPlace_4 : decode cX11_isPlace 4 = .ok (.sipush 30000, 3) := by decide +kernel
theorem dX11_isPlace_7 : decode cX11_isPlace 7 = .ok (.invokestatic 83, 3) := by decide +kernel
theorem dX11_isPlace_10 : decode cX11_isPlace 10 = .ok (.ifCond .eq 20, 3) := by decide +kernel
theorem dX11_isPlace_13 : decode cX11_isPlace 13 = .ok (.sipush (-30000), 3) := by decide +kernel
theorem dX11_isPlace_16 : decode cX11_isPlace 16 = .ok (.iload_n 1, 1) := by decide +kernel
theorem dX11_isPlace_17 : decode cX11_isPlace 17 = .ok (.sipush 30000, 3) := by decide +kernel
theorem dX11_isPlace_20 : decode cX11_isPlace 20 = .ok (.invokestatic 83, 3) := by decide +kernel
theorem dX11_isPlace_23 : decode cX11_isPlace 23 = .ok (.ifCond .eq 7, 3) := by decide +kernel
theorem dX11_isPlace_26 : decode cX11_isPlace 26 = .ok (.iconst 1, 1) := by decide +kernel
theorem dX11_isPlace_27 : decode cX11_isPlace 27 = .ok (.goto 4, 3) := by decide +kernel
theorem dX11_isPlace_30 : decode cX11_isPlace 30 = .ok (.iconst 0, 1) := by decide +kernel
theorem dX11_isPlace_31 : decode cX11_isPlace 31 = .ok (.ireturn, 1) := by decide +kernel
theorem dX11_isLayer_0 : decode cX11_isLayer 0 = .ok (.iconst 0, 1) := by decide +kernel
theorem dX11_isLayer_1 : decode cX11_isLayer 1 = .ok (.iload_n 0, 1) := by decide +kernel
theorem dX11_isLayer_2 : decode cX11_isLayer 2 = .ok (.bipush 9, 2) := by decide +kernel
theorem dX11_isLayer_4 : decode cX11_isLayer 4 = .ok (.invokestatic 83, 3) := by decide +kernel
theorem dX11_isLayer_7 : decode cX11_isLayer 7 = .ok (.ireturn, 1) := by decide +kernel
theorem dX11_isGap_0 : decode cX11_isGap 0 = .ok (.iconst 1, 1) := by decide +kernel
theorem dX11_isGap_1 : decode cX11_isGap 1 = .ok (.iload_n 0, 1) := by decide +kernel
theorem dX11_isGap_2 : decode cX11_isGap 2 = .ok (.bipush 20, 2) := by decide +kernel
theorem dX11_isGap_4 : decode cX11_isGap 4 = .ok (.invokestatic 83, 3) := by decide +kernel
theorem dX11_isGap_7 : decode cX11_isGap 7 = .ok (.ireturn, 1) := by decide +kernel
theorem dX11_shelfAt_0 : decode cX11_shelfAt 0 = .ok (.iconst 0, 1) := by decide +kernel
theorem dX11_shelfAt_1 : decode cX11_shelfAt 1 = .ok (.iload_n 1, 1) := by decide +kernel
theorem dX11_shelfAt_2 : decode cX11_shelfAt 2 = .ok (.bipush 7, 2) := by decide +kernel
theorem dX11_shelfAt_4 : decode cX11_shelfAt 4 = .ok (.invokestatic 83, 3) := by decide +kernel
theorem dX11_shelfAt_7 : decode cX11_shelfAt 7 = .ok (.ifCond .eq 12, 3) := by decide +kernel
theorem dX11_shelfAt_10 : decode cX11_shelfAt 10 = .ok (.aload_n 0, 1) := by decide +kernel
theorem dX11_shelfAt_11 : decode cX11_shelfAt 11 = .ok (.getfield 40, 3) := by decide +kernel
theorem dX11_shelfAt_14 : decode cX11_shelfAt 14 = .ok (.iload_n 1, 1) := by decide +kernel
theorem dX11_shelfAt_15 : decode cX11_shelfAt 15 = .ok (.aaload, 1) := by decide +kernel
theorem dX11_shelfAt_16 : decode cX11_shelfAt 16 = .ok (.goto 4, 3) := by decide +kernel
theorem dX11_shelfAt_19 : decode cX11_shelfAt 19 = .ok (.aconst_null, 1) := by decide +kernel
theorem dX11_shelfAt_20 : decode cX11_shelfAt 20 = .ok (.areturn, 1) := by decide +kernel
theorem dX11_refusalOfRow_0 : decode cX11_refusalOfRow 0 = .ok (.aload_n 0, 1) := by decide +kernel
theorem dX11_refusalOfRow_1 : decode cX11_refusalOfRow 1 = .ok (.invokevirtual 306, 3) := by decide +kernel
theorem dX11_refusalOfRow_4 : decode cX11_refusalOfRow 4 = .ok (.ifCond .eq 6, 3) := by decide +kernel
theorem dX11_refusalOfRow_7 : decode cX11_refusalOfRow 7 = .ok (.bipush (-11), 2) := by decide +kernel
theorem dX11_refusalOfRow_9 : decode cX11_refusalOfRow 9 = .ok (.ireturn, 1) := by decide +kernel
theorem dX11_refusalOfRow_10 : decode cX11_refusalOfRow 10 = .ok (.aload_n 0, 1) := by decide +kernel
theorem dX11_refusalOfRow_11 : decode cX11_refusalOfRow 11 = .ok (.getfield 296, 3) := by decide +kernel
theorem dX11_refusalOfRow_14 : decode cX11_refusalOfRow 14 = .ok (.ifCond .eq 7, 3) := by decide +kernel
theorem dX11_refusalOfRow_17 : decode cX11_refusalOfRow 17 = .ok (.iconst 0, 1) := by decide +kernel
theorem dX11_refusalOfRow_18 : decode cX11_refusalOfRow 18 = .ok (.goto 5, 3) := by decide +kernel
theorem dX11_refusalOfRow_21 : decode cX11_refusalOfRow 21 = .ok (.bipush (-12), 2) := by decide +kernel
theorem dX11_refusalOfRow_23 : decode cX11_refusalOfRow 23 = .ok (.ireturn, 1) := by decide +kernel
theorem dX11_refusalOfBytes_0 : decode cX11_refusalOfBytes 0 = .ok (.aload_n 0, 1) := by decide +kernel
theorem dX11_refusalOfBytes_1 : decode cX11_refusalOfBytes 1 = .ok (.invokestatic 255, 3) := by decide +kernel
theorem dX11_refusalOfBytes_4 : decode cX11_refusalOfBytes 4 = .ok (.istore_n 1, 1) := by decide +kernel
theorem dX11_refusalOfBytes_5 : decode cX11_refusalOfBytes 5 = .ok (.iload_n 1, 1) := by decide +kernel
theorem dX11_refusalOfBytes_6 : decode cX11_refusalOfBytes 6 = .ok (.ifCond .ne 13, 3) := by decide +kernel
theorem dX11_refusalOfBytes_9 : decode cX11_refusalOfBytes 9 = .ok (.aload_n 0, 1) := by decide +kernel
theorem dX11_refusalOfBytes_10 : decode cX11_refusalOfBytes 10 = .ok (.getfield 309, 3) := by decide +kernel
theorem dX11_refusalOfBytes_13 : decode cX11_refusalOfBytes 13 = .ok (.ifCond .eq 6, 3) := by decide +kernel
theorem dX11_refusalOfBytes_16 : decode cX11_refusalOfBytes 16 = .ok (.bipush (-12), 2) := by decide +kernel
theorem dX11_refusalOfBytes_18 : decode cX11_refusalOfBytes 18 = .ok (.ireturn, 1) := by decide +kernel
theorem dX11_refusalOfBytes_19 : decode cX11_refusalOfBytes 19 = .ok (.iload_n 1, 1) := by decide +kernel
theorem dX11_refusalOfBytes_20 : decode cX11_refusalOfBytes 20 = .ok (.ireturn, 1) := by decide +kernel
theorem dX11_refusalOfLoad_0 : decode cX11_refusalOfLoad 0 = .ok (.aload_n 1, 1) := by decide +kernel
theorem dX11_refusalOfLoad_1 : decode cX11_refusalOfLoad 1 = .ok (.invokestatic 62, 3) := by decide +kernel
theorem dX11_refusalOfLoad_4 : decode cX11_refusalOfLoad 4 = .ok (.istore_n 2, 1) := by decide +kernel
theorem dX11_refusalOfLoad_5 : decode cX11_refusalOfLoad 5 = .ok (.iload_n 2, 1) := by decide +kernel
theorem dX11_refusalOfLoad_6 : decode cX11_refusalOfLoad 6 = .ok (.ifCond .eq 5, 3) := by decide +kernel
theorem dX11_refusalOfLoad_9 : decode cX11_refusalOfLoad 9 = .ok (.iload_n 2, 1) := by decide +kernel
theorem dX11_refusalOfLoad_10 : decode cX11_refusalOfLoad 10 = .ok (.ireturn, 1) := by decide +kernel
theorem dX11_refusalOfLoad_11 : decode cX11_refusalOfLoad 11 = .ok (.iconst 1, 1) := by decide +kernel
theorem dX11_refusalOfLoad_12 : decode cX11_refusalOfLoad 12 = .ok (.aload_n 1, 1) := by decide +kernel
theorem dX11_refusalOfLoad_13 : decode cX11_refusalOfLoad 13 = .ok (.getfield 189, 3) := by decide +kernel
theorem dX11_refusalOfLoad_16 : decode cX11_refusalOfLoad 16 = .ok (.iconst 5, 1) := by decide +kernel
theorem dX11_refusalOfLoad_17 : decode cX11_refusalOfLoad 17 = .ok (.invokestatic 83, 3) := by decide +kernel
theorem dX11_refusalOfLoad_20 : decode cX11_refusalOfLoad 20 = .ok (.ifCond .ne 6, 3) := by decide +kernel
theorem dX11_refusalOfLoad_23 : decode cX11_refusalOfLoad 23 = .ok (.bipush (-13), 2) := by decide +kernel
theorem dX11_refusalOfLoad_25 : decode cX11_refusalOfLoad 25 = .ok (.ireturn, 1) := by decide +kernel
theorem dX11_refusalOfLoad_26 : decode cX11_refusalOfLoad 26 = .ok (.iconst 0, 1) := by decide +kernel
theorem dX11_refusalOfLoad_27 : decode cX11_refusalOfLoad 27 = .ok (.istore_n 3, 1) := by decide +kernel
theorem dX11_refusalOfLoad_28 : decode cX11_refusalOfLoad 28 = .ok (.iload_n 3, 1) := by decide +kernel
theorem dX11_refusalOfLoad_29 : decode cX11_refusalOfLoad 29 = .ok (.aload_n 1, 1) := by decide +kernel
theorem dX11_refusalOfLoad_30 : decode cX11_refusalOfLoad 30 = .ok (.getfield 189, 3) := by decide +kernel
theorem dX11_refusalOfLoad_33 : decode cX11_refusalOfLoad 33 = .ok (.if_icmp .ge 27, 3) := by decide +kernel
theorem dX11_refusalOfLoad_36 : decode cX11_refusalOfLoad 36 = .ok (.aload_n 0, 1) := by decide +kernel
theorem dX11_refusalOfLoad_37 : decode cX11_refusalOfLoad 37 = .ok (.getfield 10, 3) := by decide +kernel
theorem dX11_refusalOfLoad_40 : decode cX11_refusalOfLoad 40 = .ok (.aload_n 1, 1) := by decide +kernel
theorem dX11_refusalOfLoad_41 : decode cX11_refusalOfLoad 41 = .ok (.iload_n 3, 1) := by decide +kernel
theorem dX11_refusalOfLoad_42 : decode cX11_refusalOfLoad 42 = .ok (.invokevirtual 258, 3) := by decide +kernel
theorem dX11_refusalOfLoad_45 : decode cX11_refusalOfLoad 45 = .ok (.invokevirtual 97, 3) := by decide +kernel
theorem dX11_refusalOfLoad_48 : decode cX11_refusalOfLoad 48 = .ok (.ifnonnull 6, 3) := by decide +kernel
theorem dX11_refusalOfLoad_51 : decode cX11_refusalOfLoad 51 = .ok (.bipush (-13), 2) := by decide +kernel
theorem dX11_refusalOfLoad_53 : decode cX11_refusalOfLoad 53 = .ok (.ireturn, 1) := by decide +kernel
theorem dX11_refusalOfLoad_54 : decode cX11_refusalOfLoad 54 = .ok (.iinc 3 1, 3) := by decide +kernel
theorem dX11_refusalOfLoad_57 : decode cX11_refusalOfLoad 57 = .ok (.goto (-29), 3) := by decide +kernel
theorem dX11_refusalOfLoad_60 : decode cX11_refusalOfLoad 60 = .ok (.iconst 0, 1) := by decide +kernel
theorem dX11_refusalOfLoad_61 : decode cX11_refusalOfLoad 61 = .ok (.ireturn, 1) := by decide +kernel
theorem dX11_landing_0 : decode cX11_landing 0 = .ok (.aload_n 0, 1) := by decide +kernel
theorem dX11_landing_1 : decode cX11_landing 1 = .ok (.getfield 10, 3) := by decide +kernel
theorem dX11_landing_4 : decode cX11_landing 4 = .ok (.iload_n 1, 1) := by decide +kernel
theorem dX11_landing_5 : decode cX11_landing 5 = .ok (.invokevirtual 97, 3) := by decide +kernel
theorem dX11_landing_8 : decode cX11_landing 8 = .ok (.astore 6, 2) := by decide +kernel
theorem dX11_landing_10 : decode cX11_landing 10 = .ok (.aload 6, 2) := by decide +kernel
theorem dX11_landing_12 : decode cX11_landing 12 = .ok (.ifnull 21, 3) := by decide +kernel
theorem dX11_landing_15 : decode cX11_landing 15 = .ok (.iload_n 2, 1) := by decide +kernel
theorem dX11_landing_16 : decode cX11_landing 16 = .ok (.iload_n 3, 1) := by decide +kernel
theorem dX11_landing_17 : decode cX11_landing 17 = .ok (.invokestatic 125, 3) := by decide +kernel
theorem dX11_landing_20 : decode cX11_landing 20 = .ok (.ifCond .eq 13, 3) := by decide +kernel
theorem dX11_landing_23 : decode cX11_landing 23 = .ok (.iconst 0, 1) := by decide +kernel
theorem dX11_landing_24 : decode cX11_landing 24 = .ok (.iload 5, 2) := by decide +kernel
theorem dX11_landing_26 : decode cX11_landing 26 = .ok (.iconst 4, 1) := by decide +kernel
theorem dX11_landing_27 : decode cX11_landing 27 = .ok (.invokestatic 83, 3) := by decide +kernel
theorem dX11_landing_30 : decode cX11_landing 30 = .ok (.ifCond .ne 6, 3) := by decide +kernel
theorem dX11_landing_33 : decode cX11_landing 33 = .ok (.ldc 76, 2) := by decide +kernel
theorem dX11_landing_35 : decode cX11_landing 35 = .ok (.ireturn, 1) := by decide +kernel
theorem dX11_landing_36 : decode cX11_landing 36 = .ok (.aload_n 0, 1) := by decide +kernel
theorem dX11_landing_37 : decode cX11_landing 37 = .ok (.getfield 31, 3) := by decide +kernel
theorem dX11_landing_40 : decode cX11_landing 40 = .ok (.aload 6, 2) := by decide +kernel
theorem dX11_landing_42 : decode cX11_landing 42 = .ok (.iload_n 2, 1) := by decide +kernel
theorem dX11_landing_43 : decode cX11_landing 43 = .ok (.iload_n 3, 1) := by decide +kernel
theorem dX11_landing_44 : decode cX11_landing 44 = .ok (.iload 4, 2) := by decide +kernel
theorem dX11_landing_46 : decode cX11_landing 46 = .ok (.invokevirtual 143, 3) := by decide +kernel
theorem dX11_landing_49 : decode cX11_landing 49 = .ok (.aload_n 0, 1) := by decide +kernel
theorem dX11_landing_50 : decode cX11_landing 50 = .ok (.getfield 31, 3) := by decide +kernel
theorem dX11_landing_53 : decode cX11_landing 53 = .ok (.invokevirtual 167, 3) := by decide +kernel
theorem dX11_landing_56 : decode cX11_landing 56 = .ok (.iload 5, 2) := by decide +kernel
theorem dX11_landing_58 : decode cX11_landing 58 = .ok (.tableswitch 62 0 3 #[30, 38, 46, 54], 30) := by decide +kernel
theorem dX11_landing_88 : decode cX11_landing 88 = .ok (.aload_n 0, 1) := by decide +kernel
theorem dX11_landing_89 : decode cX11_landing 89 = .ok (.getfield 31, 3) := by decide +kernel
theorem dX11_landing_92 : decode cX11_landing 92 = .ok (.getfield 151, 3) := by decide +kernel
theorem dX11_landing_95 : decode cX11_landing 95 = .ok (.ireturn, 1) := by decide +kernel
theorem dX11_landing_96 : decode cX11_landing 96 = .ok (.aload_n 0, 1) := by decide +kernel
theorem dX11_landing_97 : decode cX11_landing 97 = .ok (.getfield 31, 3) := by decide +kernel
theorem dX11_landing_100 : decode cX11_landing 100 = .ok (.getfield 154, 3) := by decide +kernel
theorem dX11_landing_103 : decode cX11_landing 103 = .ok (.ireturn, 1) := by decide +kernel
theorem dX11_landing_104 : decode cX11_landing 104 = .ok (.aload_n 0, 1) := by decide +kernel
theorem dX11_landing_105 : decode cX11_landing 105 = .ok (.getfield 31, 3) := by decide +kernel
theorem dX11_landing_108 : decode cX11_landing 108 = .ok (.getfield 164, 3) := by decide +kernel
theorem dX11_landing_111 : decode cX11_landing 111 = .ok (.ireturn, 1) := by decide +kernel
theorem dX11_landing_112 : decode cX11_landing 112 = .ok (.aload_n 0, 1) := by decide +kernel
theorem dX11_landing_113 : decode cX11_landing 113 = .ok (.getfield 31, 3) := by decide +kernel
theorem dX11_landing_116 : decode cX11_landing 116 = .ok (.invokevirtual 214, 3) := by decide +kernel
theorem dX11_landing_119 : decode cX11_landing 119 = .ok (.ireturn, 1) := by decide +kernel
theorem dX11_landing_120 : decode cX11_landing 120 = .ok (.aload_n 0, 1) := by decide +kernel
theorem dX11_landing_121 : decode cX11_landing 121 = .ok (.getfield 10, 3) := by decide +kernel
theorem dX11_landing_124 : decode cX11_landing 124 = .ok (.aload_n 0, 1) := by decide +kernel
theorem dX11_landing_125 : decode cX11_landing 125 = .ok (.getfield 31, 3) := by decide +kernel
theorem dX11_landing_128 : decode cX11_landing 128 = .ok (.getfield 151, 3) := by decide +kernel
theorem dX11_landing_131 : decode cX11_landing 131 = .ok (.aload_n 0, 1) := by decide +kernel
theorem dX11_landing_132 : decode cX11_landing 132 = .ok (.getfield 31, 3) := by decide +kernel
theorem dX11_landing_135 : decode cX11_landing 135 = .ok (.getfield 154, 3) := by decide +kernel
theorem dX11_landing_138 : decode cX11_landing 138 = .ok (.invokevirtual 136, 3) := by decide +kernel
theorem dX11_landing_141 : decode cX11_landing 141 = .ok (.ifCond .eq 7, 3) := by decide +kernel
theorem dX11_landing_144 : decode cX11_landing 144 = .ok (.iconst 1, 1) := by decide +kernel
theorem dX11_landing_145 : decode cX11_landing 145 = .ok (.goto 4, 3) := by decide +kernel
theorem dX11_landing_148 : decode cX11_landing 148 = .ok (.iconst 0, 1) := by decide +kernel
theorem dX11_landing_149 : decode cX11_landing 149 = .ok (.ireturn, 1) := by decide +kernel
theorem dX11_loadWithin_0 : decode cX11_loadWithin 0 = .ok (.iconst 0, 1) := by decide +kernel
theorem dX11_loadWithin_1 : decode cX11_loadWithin 1 = .ok (.istore 6, 2) := by decide +kernel
theorem dX11_loadWithin_3 : decode cX11_loadWithin 3 = .ok (.iconst 0, 1) := by decide +kernel
theorem dX11_loadWithin_4 : decode cX11_loadWithin 4 = .ok (.istore 7, 2) := by decide +kernel
theorem dX11_loadWithin_6 : decode cX11_loadWithin 6 = .ok (.iload 7, 2) := by decide +kernel
theorem dX11_loadWithin_8 : decode cX11_loadWithin 8 = .ok (.aload_n 1, 1) := by decide +kernel
theorem dX11_loadWithin_9 : decode cX11_loadWithin 9 = .ok (.getfield 189, 3) := by decide +kernel
theorem dX11_loadWithin_12 : decode cX11_loadWithin 12 = .ok (.if_icmp .ge 89, 3) := by decide +kernel
theorem dX11_loadWithin_15 : decode cX11_loadWithin 15 = .ok (.aload_n 0, 1) := by decide +kernel
theorem dX11_loadWithin_16 : decode cX11_loadWithin 16 = .ok (.getfield 10, 3) := by decide +kernel
theorem dX11_loadWithin_19 : decode cX11_loadWithin 19 = .ok (.aload_n 1, 1) := by decide +kernel
theorem dX11_loadWithin_20 : decode cX11_loadWithin 20 = .ok (.iload 7, 2) := by decide +kernel
theorem dX11_loadWithin_22 : decode cX11_loadWithin 22 = .ok (.invokevirtual 258, 3) := by decide +kernel
theorem dX11_loadWithin_25 : decode cX11_loadWithin 25 = .ok (.invokevirtual 97, 3) := by decide +kernel
theorem dX11_loadWithin_28 : decode cX11_loadWithin 28 = .ok (.astore 8, 2) := by decide +kernel
theorem dX11_loadWithin_30 : decode cX11_loadWithin 30 = .ok (.aload 8, 2) := by decide +kernel
theorem dX11_loadWithin_32 : decode cX11_loadWithin 32 = .ok (.ifnull 63, 3) := by decide +kernel
theorem dX11_loadWithin_35 : decode cX11_loadWithin 35 = .ok (.aload_n 0, 1) := by decide +kernel
theorem dX11_loadWithin_36 : decode cX11_loadWithin 36 = .ok (.getfield 31, 3) := by decide +kernel
theorem dX11_loadWithin_39 : decode cX11_loadWithin 39 = .ok (.aload 8, 2) := by decide +kernel
theorem dX11_loadWithin_41 : decode cX11_loadWithin 41 = .ok (.iload_n 2, 1) := by decide +kernel
theorem dX11_loadWithin_42 : decode cX11_loadWithin 42 = .ok (.iload 7, 2) := by decide +kernel
theorem dX11_loadWithin_44 : decode cX11_loadWithin 44 = .ok (.iload 4, 2) := by decide +kernel
theorem dX11_loadWithin_46 : decode cX11_loadWithin 46 = .ok (.imul, 1) := by decide +kernel
theorem dX11_loadWithin_47 : decode cX11_loadWithin 47 = .ok (.aload_n 0, 1) := by decide +kernel
theorem dX11_loadWithin_48 : decode cX11_loadWithin 48 = .ok (.getfield 10, 3) := by decide +kernel
theorem dX11_loadWithin_51 : decode cX11_loadWithin 51 = .ok (.getfield 91, 3) := by decide +kernel
theorem dX11_loadWithin_54 : decode cX11_loadWithin 54 = .ok (.imul, 1) := by decide +kernel
theorem dX11_loadWithin_55 : decode cX11_loadWithin 55 = .ok (.iadd, 1) := by decide +kernel
theorem dX11_loadWithin_56 : decode cX11_loadWithin 56 = .ok (.invokestatic 232, 3) := by decide +kernel
theorem dX11_loadWithin_59 : decode cX11_loadWithin 59 = .ok (.iload_n 3, 1) := by decide +kernel
theorem dX11_loadWithin_60 : decode cX11_loadWithin 60 = .ok (.invokevirtual 173, 3) := by decide +kernel
theorem dX11_loadWithin_63 : decode cX11_loadWithin 63 = .ok (.iload 5, 2) := by decide +kernel
theorem dX11_loadWithin_65 : decode cX11_loadWithin 65 = .ok (.if_icmp .gt 30, 3) := by decide +kernel
theorem dX11_loadWithin_68 : decode cX11_loadWithin 68 = .ok (.aload_n 0, 1) := by decide +kernel
theorem dX11_loadWithin_69 : decode cX11_loadWithin 69 = .ok (.getfield 10, 3) := by decide +kernel
theorem dX11_loadWithin_72 : decode cX11_loadWithin 72 = .ok (.aload_n 0, 1) := by decide +kernel
theorem dX11_loadWithin_73 : decode cX11_loadWithin 73 = .ok (.getfield 31, 3) := by decide +kernel
theorem dX11_loadWithin_76 : decode cX11_loadWithin 76 = .ok (.getfield 151, 3) := by decide +kernel
theorem dX11_loadWithin_79 : decode cX11_loadWithin 79 = .ok (.aload_n 0, 1) := by decide +kernel
theorem dX11_loadWithin_80 : decode cX11_loadWithin 80 = .ok (.getfield 31, 3) := by decide +kernel
theorem dX11_loadWithin_83 : decode cX11_loadWithin 83 = .ok (.getfield 154, 3) := by decide +kernel
theorem dX11_loadWithin_86 : decode cX11_loadWithin 86 = .ok (.invokevirtual 136, 3) := by decide +kernel
theorem dX11_loadWithin_89 : decode cX11_loadWithin 89 = .ok (.ifCond .ne 6, 3) := by decide +kernel
theorem dX11_loadWithin_92 : decode cX11_loadWithin 92 = .ok (.iinc 6 1, 3) := by decide +kernel
theorem dX11_loadWithin_95 : decode cX11_loadWithin 95 = .ok (.iinc 7 1, 3) := by decide +kernel
theorem dX11_loadWithin_98 : decode cX11_loadWithin 98 = .ok (.goto (-92), 3) := by decide +kernel
theorem dX11_loadWithin_101 : decode cX11_loadWithin 101 = .ok (.iload 6, 2) := by decide +kernel
theorem dX11_loadWithin_103 : decode cX11_loadWithin 103 = .ok (.ireturn, 1) := by decide +kernel
theorem dX11_goodBySeeds_0 : decode cX11_goodBySeeds 0 = .ok (.iconst 0, 1) := by decide +kernel
theorem dX11_goodBySeeds_1 : decode cX11_goodBySeeds 1 = .ok (.istore 8, 2) := by decide +kernel
theorem dX11_goodBySeeds_3 : decode cX11_goodBySeeds 3 = .ok (.iconst 0, 1) := by decide +kernel
theorem dX11_goodBySeeds_4 : decode cX11_goodBySeeds 4 = .ok (.istore 9, 2) := by decide +kernel
theorem dX11_goodBySeeds_6 : decode cX11_goodBySeeds 6 = .ok (.iload 9, 2) := by decide +kernel
theorem dX11_goodBySeeds_8 : decode cX11_goodBySeeds 8 = .ok (.iload 5, 2) := by decide +kernel
theorem dX11_goodBySeeds_10 : decode cX11_goodBySeeds 10 = .ok (.if_icmp .ge 55, 3) := by decide +kernel
theorem dX11_goodBySeeds_13 : decode cX11_goodBySeeds 13 = .ok (.aload_n 0, 1) := by decide +kernel
theorem dX11_goodBySeeds_14 : decode cX11_goodBySeeds 14 = .ok (.getfield 31, 3) := by decide +kernel
theorem dX11_goodBySeeds_17 : decode cX11_goodBySeeds 17 = .ok (.aload_n 1, 1) := by decide +kernel
theorem dX11_goodBySeeds_18 : decode cX11_goodBySeeds 18 = .ok (.iload_n 2, 1) := by decide +kernel
theorem dX11_goodBySeeds_19 : decode cX11_goodBySeeds 19 = .ok (.iload_n 3, 1) := by decide +kernel
theorem dX11_goodBySeeds_20 : decode cX11_goodBySeeds 20 = .ok (.iload 6, 2) := by decide +kernel
theorem dX11_goodBySeeds_22 : decode cX11_goodBySeeds 22 = .ok (.iload 9, 2) := by decide +kernel
theorem dX11_goodBySeeds_24 : decode cX11_goodBySeeds 24 = .ok (.iadd, 1) := by decide +kernel
theorem dX11_goodBySeeds_25 : decode cX11_goodBySeeds 25 = .ok (.invokevirtual 143, 3) := by decide +kernel
theorem dX11_goodBySeeds_28 : decode cX11_goodBySeeds 28 = .ok (.aload_n 0, 1) := by decide +kernel
theorem dX11_goodBySeeds_29 : decode cX11_goodBySeeds 29 = .ok (.getfield 31, 3) := by decide +kernel
theorem dX11_goodBySeeds_32 : decode cX11_goodBySeeds 32 = .ok (.iload 7, 2) := by decide +kernel
theorem dX11_goodBySeeds_34 : decode cX11_goodBySeeds 34 = .ok (.putfield 336, 3) := by decide +kernel
theorem dX11_goodBySeeds_37 : decode cX11_goodBySeeds 37 = .ok (.aload_n 0, 1) := by decide +kernel
theorem dX11_goodBySeeds_38 : decode cX11_goodBySeeds 38 = .ok (.getfield 31, 3) := by decide +kernel
theorem dX11_goodBySeeds_41 : decode cX11_goodBySeeds 41 = .ok (.invokevirtual 167, 3) := by decide +kernel
theorem dX11_goodBySeeds_44 : decode cX11_goodBySeeds 44 = .ok (.aload_n 0, 1) := by decide +kernel
theorem dX11_goodBySeeds_45 : decode cX11_goodBySeeds 45 = .ok (.getfield 31, 3) := by decide +kernel
theorem dX11_goodBySeeds_48 : decode cX11_goodBySeeds 48 = .ok (.invokevirtual 214, 3) := by decide +kernel
theorem dX11_goodBySeeds_51 : decode cX11_goodBySeeds 51 = .ok (.iload 4, 2) := by decide +kernel
theorem dX11_goodBySeeds_53 : decode cX11_goodBySeeds 53 = .ok (.if_icmp .gt 6, 3) := by decide +kernel
theorem dX11_goodBySeeds_56 : decode cX11_goodBySeeds 56 = .ok (.iinc 8 1, 3) := by decide +kernel
theorem dX11_goodBySeeds_59 : decode cX11_goodBySeeds 59 = .ok (.iinc 9 1, 3) := by decide +kernel
theorem dX11_goodBySeeds_62 : decode cX11_goodBySeeds 62 = .ok (.goto (-56), 3) := by decide +kernel
theorem dX11_goodBySeeds_65 : decode cX11_goodBySeeds 65 = .ok (.iload 8, 2) := by decide +kernel
theorem dX11_goodBySeeds_67 : decode cX11_goodBySeeds 67 = .ok (.ireturn, 1) := by decide +kernel
theorem dX11_tellOffs_0 : decode cX11_tellOffs 0 = .ok (.aload_n 1, 1) := by decide +kernel
theorem dX11_tellOffs_1 : decode cX11_tellOffs 1 = .ok (.getfield 189, 3) := by decide +kernel
theorem dX11_tellOffs_4 : decode cX11_tellOffs 4 = .ok (.iconst 5, 1) := by decide +kernel
theorem dX11_tellOffs_5 : decode cX11_tellOffs 5 = .ok (.invokestatic 196, 3) := by decide +kernel
theorem dX11_tellOffs_8 : decode cX11_tellOffs 8 = .ok (.istore 5, 2) := by decide +kernel
theorem dX11_tellOffs_10 : decode cX11_tellOffs 10 = .ok (.iconst 0, 1) := by decide +kernel
theorem dX11_tellOffs_11 : decode cX11_tellOffs 11 = .ok (.istore 6, 2) := by decide +kernel
theorem dX11_tellOffs_13 : decode cX11_tellOffs 13 = .ok (.iload 6, 2) := by decide +kernel
theorem dX11_tellOffs_15 : decode cX11_tellOffs 15 = .ok (.iload 5, 2) := by decide +kernel
theorem dX11_tellOffs_17 : decode cX11_tellOffs 17 = .ok (.if_icmp .ge 85, 3) := by decide +kernel
theorem dX11_tellOffs_20 : decode cX11_tellOffs 20 = .ok (.aload_n 0, 1) := by decide +kernel
theorem dX11_tellOffs_21 : decode cX11_tellOffs 21 = .ok (.getfield 10, 3) := by decide +kernel
theorem dX11_tellOffs_24 : decode cX11_tellOffs 24 = .ok (.aload_n 1, 1) := by decide +kernel
theorem dX11_tellOffs_25 : decode cX11_tellOffs 25 = .ok (.iload 6, 2) := by decide +kernel
theorem dX11_tellOffs_27 : decode cX11_tellOffs 27 = .ok (.invokevirtual 258, 3) := by decide +kernel
theorem dX11_tellOffs_30 : decode cX11_tellOffs 30 = .ok (.invokevirtual 97, 3) := by decide +kernel
theorem dX11_tellOffs_33 : decode cX11_tellOffs 33 = .ok (.astore 7, 2) := by decide +kernel
theorem dX11_tellOffs_35 : decode cX11_tellOffs 35 = .ok (.iconst 0, 1) := by decide +kernel
theorem dX11_tellOffs_36 : decode cX11_tellOffs 36 = .ok (.istore 8, 2) := by decide +kernel
theorem dX11_tellOffs_38 : decode cX11_tellOffs 38 = .ok (.iload 8, 2) := by decide +kernel
theorem dX11_tellOffs_40 : decode cX11_tellOffs 40 = .ok (.iload 5, 2) := by decide +kernel
theorem dX11_tellOffs_42 : decode cX11_tellOffs 42 = .ok (.if_icmp .ge 54, 3) := by decide +kernel
theorem dX11_tellOffs_45 : decode cX11_tellOffs 45 = .ok (.aload 7, 2) := by decide +kernel
theorem dX11_tellOffs_47 : decode cX11_tellOffs 47 = .ok (.ifnull 49, 3) := by decide +kernel
theorem dX11_tellOffs_50 : decode cX11_tellOffs 50 = .ok (.aload_n 0, 1) := by decide +kernel
theorem dX11_tellOffs_51 : decode cX11_tellOffs 51 = .ok (.getfield 44, 3) := by decide +kernel
theorem dX11_tellOffs_54 : decode cX11_tellOffs 54 = .ok (.iload 6, 2) := by decide +kernel
theorem dX11_tellOffs_56 : decode cX11_tellOffs 56 = .ok (.iconst 5, 1) := by decide +kernel
theorem dX11_tellOffs_57 : decode cX11_tellOffs 57 = .ok (.imul, 1) := by decide +kernel
theorem dX11_tellOffs_58 : decode cX11_tellOffs 58 = .ok (.iload 8, 2) := by decide +kernel
theorem dX11_tellOffs_60 : decode cX11_tellOffs 60 = .ok (.iadd, 1) := by decide +kernel
theorem dX11_tellOffs_61 : decode cX11_tellOffs 61 = .ok (.aload_n 0, 1) := by decide +kernel
theorem dX11_tellOffs_62 : decode cX11_tellOffs 62 = .ok (.getfield 31, 3) := by decide +kernel
theorem dX11_tellOffs_65 : decode cX11_tellOffs 65 = .ok (.aload 7, 2) := by decide +kernel
theorem dX11_tellOffs_67 : decode cX11_tellOffs 67 = .ok (.iload_n 2, 1) := by decide +kernel
theorem dX11_tellOffs_68 : decode cX11_tellOffs 68 = .ok (.iload 8, 2) := by decide +kernel
theorem dX11_tellOffs_70 : decode cX11_tellOffs 70 = .ok (.iload 4, 2) := by decide +kernel
theorem dX11_tellOffs_72 : decode cX11_tellOffs 72 = .ok (.imul, 1) := by decide +kernel
theorem dX11_tellOffs_73 : decode cX11_tellOffs 73 = .ok (.aload_n 0, 1) := by decide +kernel
theorem dX11_tellOffs_74 : decode cX11_tellOffs 74 = .ok (.getfield 10, 3) := by decide +kernel
theorem dX11_tellOffs_77 : decode cX11_tellOffs 77 = .ok (.getfield 91, 3) := by decide +kernel
theorem dX11_tellOffs_80 : decode cX11_tellOffs 80 = .ok (.imul, 1) := by decide +kernel
theorem dX11_tellOffs_81 : decode cX11_tellOffs 81 = .ok (.iadd, 1) := by decide +kernel
theorem dX11_tellOffs_82 : decode cX11_tellOffs 82 = .ok (.invokestatic 232, 3) := by decide +kernel
theorem dX11_tellOffs_85 : decode cX11_tellOffs 85 = .ok (.iload_n 3, 1) := by decide +kernel
theorem dX11_tellOffs_86 : decode cX11_tellOffs 86 = .ok (.invokevirtual 173, 3) := by decide +kernel
theorem dX11_tellOffs_89 : decode cX11_tellOffs 89 = .ok (.iastore, 1) := by decide +kernel
theorem dX11_tellOffs_90 : decode cX11_tellOffs 90 = .ok (.iinc 8 1, 3) := by decide +kernel
theorem dX11_tellOffs_93 : decode cX11_tellOffs 93 = .ok (.goto (-55), 3) := by decide +kernel
theorem dX11_tellOffs_96 : decode cX11_tellOffs 96 = .ok (.iinc 6 1, 3) := by decide +kernel
theorem dX11_tellOffs_99 : decode cX11_tellOffs 99 = .ok (.goto (-86), 3) := by decide +kernel
theorem dX11_tellOffs_102 : decode cX11_tellOffs 102 = .ok (.return_, 1) := by decide +kernel
theorem dX11_sumOfOrder_0 : decode cX11_sumOfOrder 0 = .ok (.iconst 0, 1) := by decide +kernel
theorem dX11_sumOfOrder_1 : decode cX11_sumOfOrder 1 = .ok (.istore_n 2, 1) := by decide +kernel
theorem dX11_sumOfOrder_2 : decode cX11_sumOfOrder 2 = .ok (.iconst 0, 1) := by decide +kernel
theorem dX11_sumOfOrder_3 : decode cX11_sumOfOrder 3 = .ok (.istore_n 3, 1) := by decide +kernel
theorem dX11_sumOfOrder_4 : decode cX11_sumOfOrder 4 = .ok (.iload_n 3, 1) := by decide +kernel
theorem dX11_sumOfOrder_5 : decode cX11_sumOfOrder 5 = .ok (.iload_n 1, 1) := by decide +kernel
theorem dX11_sumOfOrder_6 : decode cX11_sumOfOrder 6 = .ok (.if_icmp .ge 27, 3) := by decide +kernel
theorem dX11_sumOfOrder_9 : decode cX11_sumOfOrder 9 = .ok (.iload_n 2, 1) := by decide +kernel
theorem dX11_sumOfOrder_10 : decode cX11_sumOfOrder 10 = .ok (.aload_n 0, 1) := by decide +kernel
theorem dX11_sumOfOrder_11 : decode cX11_sumOfOrder 11 = .ok (.getfield 44, 3) := by decide +kernel
theorem dX11_sumOfOrder_14 : decode cX11_sumOfOrder 14 = .ok (.aload_n 0, 1) := by decide +kernel
theorem dX11_sumOfOrder_15 : decode cX11_sumOfOrder 15 = .ok (.getfield 48, 3) := by decide +kernel
theorem dX11_sumOfOrder_18 : decode cX11_sumOfOrder 18 = .ok (.iload_n 3, 1) := by decide +kernel
theorem dX11_sumOfOrder_19 : decode cX11_sumOfOrder 19 = .ok (.iaload, 1) := by decide +kernel
theorem dX11_sumOfOrder_20 : decode cX11_sumOfOrder 20 = .ok (.iconst 5, 1) := by decide +kernel
theorem dX11_sumOfOrder_21 : decode cX11_sumOfOrder 21 = .ok (.imul, 1) := by decide +kernel
theorem dX11_sumOfOrder_22 : decode cX11_sumOfOrder 22 = .ok (.iload_n 3, 1) := by decide +kernel
theorem dX11_sumOfOrder_23 : decode cX11_sumOfOrder 23 = .ok (.iadd, 1) := by decide +kernel
theorem dX11_sumOfOrder_24 : decode cX11_sumOfOrder 24 = .ok (.iaload, 1) := by decide +kernel
theorem dX11_sumOfOrder_25 : decode cX11_sumOfOrder 25 = .ok (.iadd, 1) := by decide +kernel
theorem dX11_sumOfOrder_26 : decode cX11_sumOfOrder 26 = .ok (.istore_n 2, 1) := by decide +kernel
theorem dX11_sumOfOrder_27 : decode cX11_sumOfOrder 27 = .ok (.iinc 3 1, 3) := by decide +kernel
theorem dX11_sumOfOrder_30 : decode cX11_sumOfOrder 30 = .ok (.goto (-26), 3) := by decide +kernel
theorem dX11_sumOfOrder_33 : decode cX11_sumOfOrder 33 = .ok (.iload_n 2, 1) := by decide +kernel
theorem dX11_sumOfOrder_34 : decode cX11_sumOfOrder 34 = .ok (.ireturn, 1) := by decide +kernel
theorem dX11_digitsOfOrder_0 : decode cX11_digitsOfOrder 0 = .ok (.iconst 0, 1) := by decide +kernel
theorem dX11_digitsOfOrder_1 : decode cX11_digitsOfOrder 1 = .ok (.istore_n 2, 1) := by decide +kernel
theorem dX11_digitsOfOrder_2 : decode cX11_digitsOfOrder 2 = .ok (.iconst 1, 1) := by decide +kernel
theorem dX11_digitsOfOrder_3 : decode cX11_digitsOfOrder 3 = .ok (.istore_n 3, 1) := by decide +kernel
theorem dX11_digitsOfOrder_4 : decode cX11_digitsOfOrder 4 = .ok (.iconst 0, 1) := by decide +kernel
theorem dX11_digitsOfOrder_5 : decode cX11_digitsOfOrder 5 = .ok (.istore 4, 2) := by decide +kernel
theorem dX11_digitsOfOrder_7 : decode cX11_digitsOfOrder 7 = .ok (.iload 4, 2) := by decide +kernel
theorem dX11_digitsOfOrder_9 : decode cX11_digitsOfOrder 9 = .ok (.iload_n 1, 1) := by decide +kernel
theorem dX11_digitsOfOrder_10 : decode cX11_digitsOfOrder 10 = .ok (.if_icmp .ge 26, 3) := by decide +kernel
theorem dX11_digitsOfOrder_13 : decode cX11_digitsOfOrder 13 = .ok (.iload_n 2, 1) := by decide +kernel
theorem dX11_digitsOfOrder_14 : decode cX11_digitsOfOrder 14 = .ok (.aload_n 0, 1) := by decide +kernel
theorem dX11_digitsOfOrder_15 : decode cX11_digitsOfOrder 15 = .ok (.getfield 48, 3) := by decide +kernel
theorem dX11_digitsOfOrder_18 : decode cX11_digitsOfOrder 18 = .ok (.iload 4, 2) := by decide +kernel
theorem dX11_digitsOfOrder_20 : decode cX11_digitsOfOrder 20 = .ok (.iaload, 1) := by decide +kernel
theorem dX11_digitsOfOrder_21 : decode cX11_digitsOfOrder 21 = .ok (.iload_n 3, 1) := by decide +kernel
theorem dX11_digitsOfOrder_22 : decode cX11_digitsOfOrder 22 = .ok (.imul, 1) := by decide +kernel
theorem dX11_digitsOfOrder_23 : decode cX11_digitsOfOrder 23 = .ok (.iadd, 1) := by decide +kernel
theorem dX11_digitsOfOrder_24 : decode cX11_digitsOfOrder 24 = .ok (.istore_n 2, 1) := by decide +kernel
theorem dX11_digitsOfOrder_25 : decode cX11_digitsOfOrder 25 = .ok (.iload_n 3, 1) := by decide +kernel
theorem dX11_digitsOfOrder_26 : decode cX11_digitsOfOrder 26 = .ok (.bipush 10, 2) := by decide +kernel
theorem dX11_digitsOfOrder_28 : decode cX11_digitsOfOrder 28 = .ok (.imul, 1) := by decide +kernel
theorem dX11_digitsOfOrder_29 : decode cX11_digitsOfOrder 29 = .ok (.istore_n 3, 1) := by decide +kernel
theorem dX11_digitsOfOrder_30 : decode cX11_digitsOfOrder 30 = .ok (.iinc 4 1, 3) := by decide +kernel
theorem dX11_digitsOfOrder_33 : decode cX11_digitsOfOrder 33 = .ok (.goto (-26), 3) := by decide +kernel
theorem dX11_digitsOfOrder_36 : decode cX11_digitsOfOrder 36 = .ok (.iload_n 2, 1) := by decide +kernel
theorem dX11_digitsOfOrder_37 : decode cX11_digitsOfOrder 37 = .ok (.ireturn, 1) := by decide +kernel
theorem dX11_nextOrder_0 : decode cX11_nextOrder 0 = .ok (.iload_n 1, 1) := by decide +kernel
theorem dX11_nextOrder_1 : decode cX11_nextOrder 1 = .ok (.iconst 2, 1) := by decide +kernel
theorem dX11_nextOrder_2 : decode cX11_nextOrder 2 = .ok (.isub, 1) := by decide +kernel
theorem dX11_nextOrder_3 : decode cX11_nextOrder 3 = .ok (.istore_n 2, 1) := by decide +kernel
theorem dX11_nextOrder_4 : decode cX11_nextOrder 4 = .ok (.iload_n 2, 1) := by decide +kernel
theorem dX11_nextOrder_5 : decode cX11_nextOrder 5 = .ok (.ifCond .lt 26, 3) := by decide +kernel
theorem dX11_nextOrder_8 : decode cX11_nextOrder 8 = .ok (.aload_n 0, 1) := by decide +kernel
theorem dX11_nextOrder_9 : decode cX11_nextOrder 9 = .ok (.getfield 48, 3) := by decide +kernel
theorem dX11_nextOrder_12 : decode cX11_nextOrder 12 = .ok (.iload_n 2, 1) := by decide +kernel
theorem dX11_nextOrder_13 : decode cX11_nextOrder 13 = .ok (.iaload, 1) := by decide +kernel
theorem dX11_nextOrder_14 : decode cX11_nextOrder 14 = .ok (.aload_n 0, 1) := by decide +kernel
theorem dX11_nextOrder_15 : decode cX11_nextOrder 15 = .ok (.getfield 48, 3) := by decide +kernel
theorem dX11_nextOrder_18 : decode cX11_nextOrder 18 = .ok (.iload_n 2, 1) := by decide +kernel
theorem dX11_nextOrder_19 : decode cX11_nextOrder 19 = .ok (.iconst 1, 1) := by decide +kernel
theorem dX11_nextOrder_20 : decode cX11_nextOrder 20 = .ok (.iadd, 1) := by decide +kernel
theorem dX11_nextOrder_21 : decode cX11_nextOrder 21 = .ok (.iaload, 1) := by decide +kernel
theorem dX11_nextOrder_22 : decode cX11_nextOrder 22 = .ok (.if_icmp .le 9, 3) := by decide +kernel
theorem dX11_nextOrder_25 : decode cX11_nextOrder 25 = .ok (.iinc 2 (-1), 3) := by decide +kernel
theorem dX11_nextOrder_28 : decode cX11_nextOrder 28 = .ok (.goto (-24), 3) := by decide +kernel
theorem dX11_nextOrder_31 : decode cX11_nextOrder 31 = .ok (.iload_n 2, 1) := by decide +kernel
theorem dX11_nextOrder_32 : decode cX11_nextOrder 32 = .ok (.ifCond .ge 5, 3) := by decide +kernel
theorem dX11_nextOrder_35 : decode cX11_nextOrder 35 = .ok (.iconst 0, 1) := by decide +kernel
theorem dX11_nextOrder_36 : decode cX11_nextOrder 36 = .ok (.ireturn, 1) := by decide +kernel
theorem dX11_nextOrder_37 : decode cX11_nextOrder 37 = .ok (.iload_n 2, 1) := by decide +kernel
theorem dX11_nextOrder_38 : decode cX11_nextOrder 38 = .ok (.iconst 1, 1) := by decide +kernel
theorem dX11_nextOrder_39 : decode cX11_nextOrder 39 = .ok (.iadd, 1) := by decide +kernel
theorem dX11_nextOrder_40 : decode cX11_nextOrder 40 = .ok (.istore_n 3, 1) := by decide +kernel
theorem dX11_nextOrder_41 : decode cX11_nextOrder 41 = .ok (.iload_n 2, 1) := by decide +kernel
theorem dX11_nextOrder_42 : decode cX11_nextOrder 42 = .ok (.iconst 2, 1) := by decide +kernel
theorem dX11_nextOrder_43 : decode cX11_nextOrder 43 = .ok (.iadd, 1) := by decide +kernel
theorem dX11_nextOrder_44 : decode cX11_nextOrder 44 = .ok (.istore 4, 2) := by decide +kernel
theorem dX11_nextOrder_46 : decode cX11_nextOrder 46 = .ok (.iload 4, 2) := by decide +kernel
theorem dX11_nextOrder_48 : decode cX11_nextOrder 48 = .ok (.iload_n 1, 1) := by decide +kernel
theorem dX11_nextOrder_49 : decode cX11_nextOrder 49 = .ok (.if_icmp .ge 28, 3) := by decide +kernel
theorem dX11_nextOrder_52 : decode cX11_nextOrder 52 = .ok (.aload_n 0, 1) := by decide +kernel
theorem dX11_nextOrder_53 : decode cX11_nextOrder 53 = .ok (.getfield 48, 3) := by decide +kernel
theorem dX11_nextOrder_56 : decode cX11_nextOrder 56 = .ok (.iload 4, 2) := by decide +kernel
theorem dX11_nextOrder_58 : decode cX11_nextOrder 58 = .ok (.iaload, 1) := by decide +kernel
theorem dX11_nextOrder_59 : decode cX11_nextOrder 59 = .ok (.aload_n 0, 1) := by decide +kernel
theorem dX11_nextOrder_60 : decode cX11_nextOrder 60 = .ok (.getfield 48, 3) := by decide +kernel
theorem dX11_nextOrder_63 : decode cX11_nextOrder 63 = .ok (.iload_n 2, 1) := by decide +kernel
theorem dX11_nextOrder_64 : decode cX11_nextOrder 64 = .ok (.iaload, 1) := by decide +kernel
theorem dX11_nextOrder_65 : decode cX11_nextOrder 65 = .ok (.if_icmp .le 6, 3) := by decide +kernel
theorem dX11_nextOrder_68 : decode cX11_nextOrder 68 = .ok (.iload 4, 2) := by decide +kernel
theorem dX11_nextOrder_70 : decode cX11_nextOrder 70 = .ok (.istore_n 3, 1) := by decide +kernel
theorem dX11_nextOrder_71 : decode cX11_nextOrder 71 = .ok (.iinc 4 1, 3) := by decide +kernel
theorem dX11_nextOrder_74 : decode cX11_nextOrder 74 = .ok (.goto (-28), 3) := by decide +kernel
theorem dX11_nextOrder_77 : decode cX11_nextOrder 77 = .ok (.aload_n 0, 1) := by decide +kernel
theorem dX11_nextOrder_78 : decode cX11_nextOrder 78 = .ok (.iload_n 2, 1) := by decide +kernel
theorem dX11_nextOrder_79 : decode cX11_nextOrder 79 = .ok (.iload_n 3, 1) := by decide +kernel
theorem dX11_nextOrder_80 : decode cX11_nextOrder 80 = .ok (.invokevirtual 337, 3) := by decide +kernel
theorem dX11_nextOrder_83 : decode cX11_nextOrder 83 = .ok (.iload_n 2, 1) := by decide +kernel
theorem dX11_nextOrder_84 : decode cX11_nextOrder 84 = .ok (.iconst 1, 1) := by decide +kernel
theorem dX11_nextOrder_85 : decode cX11_nextOrder 85 = .ok (.iadd, 1) := by decide +kernel
theorem dX11_nextOrder_86 : decode cX11_nextOrder 86 = .ok (.istore 4, 2) := by decide +kernel
theorem dX11_nextOrder_88 : decode cX11_nextOrder 88 = .ok (.iload_n 1, 1) := by decide +kernel
theorem dX11_nextOrder_89 : decode cX11_nextOrder 89 = .ok (.iconst 1, 1) := by decide +kernel
theorem dX11_nextOrder_90 : decode cX11_nextOrder 90 = .ok (.isub, 1) := by decide +kernel
theorem dX11_nextOrder_91 : decode cX11_nextOrder 91 = .ok (.istore 5, 2) := by decide +kernel
theorem dX11_nextOrder_93 : decode cX11_nextOrder 93 = .ok (.iload 4, 2) := by decide +kernel
theorem dX11_nextOrder_95 : decode cX11_nextOrder 95 = .ok (.iload 5, 2) := by decide +kernel
theorem dX11_nextOrder_97 : decode cX11_nextOrder 97 = .ok (.if_icmp .ge 20, 3) := by decide +kernel
theorem dX11_nextOrder_100 : decode cX11_nextOrder 100 = .ok (.aload_n 0, 1) := by decide +kernel
theorem dX11_nextOrder_101 : decode cX11_nextOrder 101 = .ok (.iload 4, 2) := by decide +kernel
theorem dX11_nextOrder_103 : decode cX11_nextOrder 103 = .ok (.iload 5, 2) := by decide +kernel
theorem dX11_nextOrder_105 : decode cX11_nextOrder 105 = .ok (.invokevirtual 337, 3) := by decide +kernel
theorem dX11_nextOrder_108 : decode cX11_nextOrder 108 = .ok (.iinc 4 1, 3) := by decide +kernel
theorem dX11_nextOrder_111 : decode cX11_nextOrder 111 = .ok (.iinc 5 (-1), 3) := by decide +kernel
theorem dX11_nextOrder_114 : decode cX11_nextOrder 114 = .ok (.goto (-21), 3) := by decide +kernel
theorem dX11_nextOrder_117 : decode cX11_nextOrder 117 = .ok (.iconst 1, 1) := by decide +kernel
theorem dX11_nextOrder_118 : decode cX11_nextOrder 118 = .ok (.ireturn, 1) := by decide +kernel
theorem dX11_swapPlaces_0 : decode cX11_swapPlaces 0 = .ok (.aload_n 0, 1) := by decide +kernel
theorem dX11_swapPlaces_1 : decode cX11_swapPlaces 1 = .ok (.getfield 48, 3) := by decide +kernel
theorem dX11_swapPlaces_4 : decode cX11_swapPlaces 4 = .ok (.iload_n 1, 1) := by decide +kernel
theorem dX11_swapPlaces_5 : decode cX11_swapPlaces 5 = .ok (.iaload, 1) := by decide +kernel
theorem dX11_swapPlaces_6 : decode cX11_swapPlaces 6 = .ok (.istore_n 3, 1) := by decide +kernel
theorem dX11_swapPlaces_7 : decode cX11_swapPlaces 7 = .ok (.aload_n 0, 1) := by decide +kernel
theorem dX11_swapPlaces_8 : decode cX11_swapPlaces 8 = .ok (.getfield 48, 3) := by decide +kernel
theorem dX11_swapPlaces_11 : decode cX11_swapPlaces 11 = .ok (.iload_n 1, 1) := by decide +kernel
theorem dX11_swapPlaces_12 : decode cX11_swapPlaces 12 = .ok (.aload_n 0, 1) := by decide +kernel
theorem dX11_swapPlaces_13 : decode cX11_swapPlaces 13 = .ok (.getfield 48, 3) := by decide +kernel
theorem dX11_swapPlaces_16 : decode cX11_swapPlaces 16 = .ok (.iload_n 2, 1) := by decide +kernel
theorem dX11_swapPlaces_17 : decode cX11_swapPlaces 17 = .ok (.iaload, 1) := by decide +kernel
theorem dX11_swapPlaces_18 : decode cX11_swapPlaces 18 = .ok (.iastore, 1) := by decide +kernel
theorem dX11_swapPlaces_19 : decode cX11_swapPlaces 19 = .ok (.aload_n 0, 1) := by decide +kernel
theorem dX11_swapPlaces_20 : decode cX11_swapPlaces 20 = .ok (.getfield 48, 3) := by decide +kernel
theorem dX11_swapPlaces_23 : decode cX11_swapPlaces 23 = .ok (.iload_n 2, 1) := by decide +kernel
theorem dX11_swapPlaces_24 : decode cX11_swapPlaces 24 = .ok (.iload_n 3, 1) := by decide +kernel
theorem dX11_swapPlaces_25 : decode cX11_swapPlaces 25 = .ok (.iastore, 1) := by decide +kernel
theorem dX11_swapPlaces_26 : decode cX11_swapPlaces 26 = .ok (.return_, 1) := by decide +kernel
theorem dX11_eastOfWay_0 : decode cX11_eastOfWay 0 = .ok (.iload_n 0, 1) := by decide +kernel
theorem dX11_eastOfWay_1 : decode cX11_eastOfWay 1 = .ok (.tableswitch 51 1 8 #[47, 49, 51, 51, 47, 49, 47, 49], 47) := by decide +kernel
theorem dX11_eastOfWay_48 : decode cX11_eastOfWay 48 = .ok (.iconst 1, 1) := by decide +kernel
theorem dX11_eastOfWay_49 : decode cX11_eastOfWay 49 = .ok (.ireturn, 1) := by decide +kernel
theorem dX11_eastOfWay_50 : decode cX11_eastOfWay 50 = .ok (.iconst (-1), 1) := by decide +kernel
theorem dX11_eastOfWay_51 : decode cX11_eastOfWay 51 = .ok (.ireturn, 1) := by decide +kernel
theorem dX11_eastOfWay_52 : decode cX11_eastOfWay 52 = .ok (.iconst 0, 1) := by decide +kernel
theorem dX11_eastOfWay_53 : decode cX11_eastOfWay 53 = .ok (.ireturn, 1) := by decide +kernel
theorem dX11_northOfWay_0 : decode cX11_northOfWay 0 = .ok (.iload_n 0, 1) := by decide +kernel
theorem dX11_northOfWay_1 : decode cX11_northOfWay 1 = .ok (.tableswitch 43 3 8 #[39, 41, 39, 39, 41, 41], 39) := by decide +kernel
theorem dX11_northOfWay_40 : decode cX11_northOfWay 40 = .ok (.iconst 1, 1) := by decide +kernel
theorem dX11_northOfWay_41 : decode cX11_northOfWay 41 = .ok (.ireturn, 1) := by decide +kernel
theorem dX11_northOfWay_42 : decode cX11_northOfWay 42 = .ok (.iconst (-1), 1) := by decide +kernel
theorem dX11_northOfWay_43 : decode cX11_northOfWay 43 = .ok (.ireturn, 1) := by decide +kernel
theorem dX11_northOfWay_44 : decode cX11_northOfWay 44 = .ok (.iconst 0, 1) := by decide +kernel
theorem dX11_northOfWay_45 : decode cX11_northOfWay 45 = .ok (.ireturn, 1) := by decide +kernel
theorem dJ6_signum_0f7a4_0 : decode cJ6_signum_0f7a4 0 = .ok (.iload_n 0, 1) := by decide +kernel
theorem dJ6_signum_0f7a4_1 : decode cJ6_signum_0f7a4 1 = .ok (.bipush 31, 2) := by decide +kernel
theorem dJ6_signum_0f7a4_3 : decode cJ6_signum_0f7a4 3 = .ok (.ishr, 1) := by decide +kernel
theorem dJ6_signum_0f7a4_4 : decode cJ6_signum_0f7a4 4 = .ok (.iload_n 0, 1) := by decide +kernel
theorem dJ6_signum_0f7a4_5 : decode cJ6_signum_0f7a4 5 = .ok (.ineg, 1) := by decide +kernel
theorem dJ6_signum_0f7a4_6 : decode cJ6_signum_0f7a4 6 = .ok (.bipush 31, 2) := by decide +kernel
theorem dJ6_signum_0f7a4_8 : decode cJ6_signum_0f7a4 8 = .ok (.iushr, 1) := by decide +kernel
theorem dJ6_signum_0f7a4_9 : decode cJ6_signum_0f7a4 9 = .ok (.ior, 1) := by decide +kernel
theorem dJ6_signum_0f7a4_10 : decode cJ6_signum_0f7a4 10 = .ok (.ireturn, 1) := by decide +kernel
theorem dJ9_abs_0f7a4_0 : decode cJ9_abs_0f7a4 0 = .ok (.iload_n 0, 1) := by decide +kernel
theorem dJ9_abs_0f7a4_1 : decode cJ9_abs_0f7a4 1 = .ok (.ifCond .ge 8, 3) := by decide +kernel
theorem dJ9_abs_0f7a4_4 : decode cJ9_abs_0f7a4 4 = .ok (.iload_n 0, 1) := by decide +kernel
theorem dJ9_abs_0f7a4_5 : decode cJ9_abs_0f7a4 5 = .ok (.ineg, 1) := by decide +kernel
theorem dJ9_abs_0f7a4_6 : decode cJ9_abs_0f7a4 6 = .ok (.goto 4, 3) := by decide +kernel
theorem dJ9_abs_0f7a4_9 : decode cJ9_abs_0f7a4 9 = .ok (.iload_n 0, 1) := by decide +kernel
theorem dJ9_abs_0f7a4_10 : decode cJ9_abs_0f7a4 10 = .ok (.ireturn, 1) := by decide +kernel
theorem dJ9_max_7cf53_0 : decode cJ9_max_7cf53 0 = .ok (.iload_n 0, 1) := by decide +kernel
theorem dJ9_max_7cf53_1 : decode cJ9_max_7cf53 1 = .ok (.iload_n 1, 1) := by decide +kernel
theorem dJ9_max_7cf53_2 : decode cJ9_max_7cf53 2 = .ok (.if_icmp .lt 7, 3) := by decide +kernel
theorem dJ9_max_7cf53_5 : decode cJ9_max_7cf53 5 = .ok (.iload_n 0, 1) := by decide +kernel
theorem dJ9_max_7cf53_6 : decode cJ9_max_7cf53 6 = .ok (.goto 4, 3) := by decide +kernel
theorem dJ9_max_7cf53_9 : decode cJ9_max_7cf53 9 = .ok (.iload_n 1, 1) := by decide +kernel
theorem dJ9_max_7cf53_10 : decode cJ9_max_7cf53 10 = .ok (.ireturn, 1) := by decide +kernel
theorem dJ9_min_7cf53_0 : decode cJ9_min_7cf53 0 = .ok (.iload_n 0, 1) := by decide +kernel
theorem dJ9_min_7cf53_1 : decode cJ9_min_7cf53 1 = .ok (.iload_n 1, 1) := by decide +kernel
theorem dJ9_min_7cf53_2 : decode cJ9_min_7cf53 2 = .ok (.if_icmp .gt 7, 3) := by decide +kernel
theorem dJ9_min_7cf53_5 : decode cJ9_min_7cf53 5 = .ok (.iload_n 0, 1) := by decide +kernel
theorem dJ9_min_7cf53_6 : decode cJ9_min_7cf53 6 = .ok (.goto 4, 3) := by decide +kernel
theorem dJ9_min_7cf53_9 : decode cJ9_min_7cf53 9 = .ok (.iload_n 1, 1) := by decide +kernel
theorem dJ9_min_7cf53_10 : decode cJ9_min_7cf53 10 = .ok (.ireturn, 1) := by decide +kernel
theorem dJ0_length_8abf5_0 : decode cJ0_length_8abf5 0 = .ok (.aload_n 0, 1) := by decide +kernel
theorem dJ0_length_8abf5_1 : decode cJ0_length_8abf5 1 = .ok (.getfield 9, 3) := by decide +kernel
theorem dJ0_length_8abf5_4 : decode cJ0_length_8abf5 4 = .ok (.arraylength, 1) := by decide +kernel
theorem dJ0_length_8abf5_5 : decode cJ0_length_8abf5 5 = .ok (.aload_n 0, 1) := by decide +kernel
theorem dJ0_length_8abf5_6 : decode cJ0_length_8abf5 6 = .ok (.invokevirtual 335, 3) := by decide +kernel
theorem dJ0_length_8abf5_9 : decode cJ0_length_8abf5 9 = .ok (.ishr, 1) := by decide +kernel
theorem dJ0_length_8abf5_10 : decode cJ0_length_8abf5 10 = .ok (.ireturn, 1) := by decide +kernel
theorem dJ0_isEmpty_aae02_0 : decode cJ0_isEmpty_aae02 0 = .ok (.aload_n 0, 1) := by decide +kernel
theorem dJ0_isEmpty_aae02_1 : decode cJ0_isEmpty_aae02 1 = .ok (.getfield 9, 3) := by decide +kernel
theorem dJ0_isEmpty_aae02_4 : decode cJ0_isEmpty_aae02 4 = .ok (.arraylength, 1) := by decide +kernel
theorem dJ0_isEmpty_aae02_5 : decode cJ0_isEmpty_aae02 5 = .ok (.ifCond .ne 7, 3) := by decide +kernel
theorem dJ0_isEmpty_aae02_8 : decode cJ0_isEmpty_aae02 8 = .ok (.iconst 1, 1) := by decide +kernel
theorem dJ0_isEmpty_aae02_9 : decode cJ0_isEmpty_aae02 9 = .ok (.goto 4, 3) := by decide +kernel
theorem dJ0_isEmpty_aae02_12 : decode cJ0_isEmpty_aae02 12 = .ok (.iconst 0, 1) := by decide +kernel
theorem dJ0_isEmpty_aae02_13 : decode cJ0_isEmpty_aae02 13 = .ok (.ireturn, 1) := by decide +kernel
theorem dJ0_charAt_5068e_0 : decode cJ0_charAt_5068e 0 = .ok (.aload_n 0, 1) := by decide +kernel
theorem dJ0_charAt_5068e_1 : decode cJ0_charAt_5068e 1 = .ok (.invokevirtual 492, 3) := by decide +kernel
theorem dJ0_charAt_5068e_4 : decode cJ0_charAt_5068e 4 = .ok (.ifCond .eq 12, 3) := by decide +kernel
theorem dJ0_charAt_5068e_7 : decode cJ0_charAt_5068e 7 = .ok (.aload_n 0, 1) := by decide +kernel
theorem dJ0_charAt_5068e_8 : decode cJ0_charAt_5068e 8 = .ok (.getfield 9, 3) := by decide +kernel
theorem dJ0_charAt_5068e_11 : decode cJ0_charAt_5068e 11 = .ok (.iload_n 1, 1) := by decide +kernel
theorem dJ0_charAt_5068e_12 : decode cJ0_charAt_5068e 12 = .ok (.invokestatic 495, 3) := by decide +kernel
theorem dJ0_charAt_5068e_15 : decode cJ0_charAt_5068e 15 = .ok (.ireturn, 1) := by decide +kernel
theorem dJ0_charAt_5068e_16 : decode cJ0_charAt_5068e 16 = .ok (.aload_n 0, 1) := by decide +kernel
theorem dJ0_charAt_5068e_17 : decode cJ0_charAt_5068e 17 = .ok (.getfield 9, 3) := by decide +kernel
theorem dJ0_charAt_5068e_20 : decode cJ0_charAt_5068e 20 = .ok (.iload_n 1, 1) := by decide +kernel
theorem dJ0_charAt_5068e_21 : decode cJ0_charAt_5068e 21 = .ok (.invokestatic 498, 3) := by decide +kernel
theorem dJ0_charAt_5068e_24 : decode cJ0_charAt_5068e 24 = .ok (.ireturn, 1) := by decide +kernel
theorem dJ0_coder_7d493_0 : decode cJ0_coder_7d493 0 = .ok (.getstatic 38, 3) := by decide +kernel
theorem dJ0_coder_7d493_3 : decode cJ0_coder_7d493 3 = .ok (.ifCond .eq 10, 3) := by decide +kernel
theorem dJ0_coder_7d493_6 : decode cJ0_coder_7d493 6 = .ok (.aload_n 0, 1) := by decide +kernel
theorem dJ0_coder_7d493_7 : decode cJ0_coder_7d493 7 = .ok (.getfield 15, 3) := by decide +kernel
theorem dJ0_coder_7d493_10 : decode cJ0_coder_7d493 10 = .ok (.goto 4, 3) := by decide +kernel
theorem dJ0_coder_7d493_13 : decode cJ0_coder_7d493 13 = .ok (.iconst 1, 1) := by decide +kernel
theorem dJ0_coder_7d493_14 : decode cJ0_coder_7d493 14 = .ok (.ireturn, 1) := by decide +kernel
theorem dJ0_isLatin1_aae02_0 : decode cJ0_isLatin1_aae02 0 = .ok (.getstatic 38, 3) := by decide +kernel
theorem dJ0_isLatin1_aae02_3 : decode cJ0_isLatin1_aae02 3 = .ok (.ifCond .eq 14, 3) := by decide +kernel
theorem dJ0_isLatin1_aae02_6 : decode cJ0_isLatin1_aae02 6 = .ok (.aload_n 0, 1) := by decide +kernel
theorem dJ0_isLatin1_aae02_7 : decode cJ0_isLatin1_aae02 7 = .ok (.getfield 15, 3) := by decide +kernel
theorem dJ0_isLatin1_aae02_10 : decode cJ0_isLatin1_aae02 10 = .ok (.ifCond .ne 7, 3) := by decide +kernel
theorem dJ0_isLatin1_aae02_13 : decode cJ0_isLatin1_aae02 13 = .ok (.iconst 1, 1) := by decide +kernel
theorem dJ0_isLatin1_aae02_14 : decode cJ0_isLatin1_aae02 14 = .ok (.goto 4, 3) := by decide +kernel
theorem dJ0_isLatin1_aae02_17 : decode cJ0_isLatin1_aae02 17 = .ok (.iconst 0, 1) := by decide +kernel
theorem dJ0_isLatin1_aae02_18 : decode cJ0_isLatin1_aae02 18 = .ok (.ireturn, 1) := by decide +kernel
theorem dJ0_checkIndex_df160_0 : decode cJ0_checkIndex_df160 0 = .ok (.iload_n 0, 1) := by decide +kernel
theorem dJ0_checkIndex_df160_1 : decode cJ0_checkIndex_df160 1 = .ok (.iload_n 1, 1) := by decide +kernel
theorem dJ0_checkIndex_df160_2 : decode cJ0_checkIndex_df160 2 = .ok (.getstatic 1053, 3) := by decide +kernel
theorem dJ0_checkIndex_df160_5 : decode cJ0_checkIndex_df160 5 = .ok (.invokestatic 1059, 3) := by decide +kernel
theorem dJ0_checkIndex_df160_8 : decode cJ0_checkIndex_df160 8 = .ok (.pop, 1) := by decide +kernel
theorem dJ0_checkIndex_df160_9 : decode cJ0_checkIndex_df160 9 = .ok (.return_, 1) := by decide +kernel
theorem dJ1_charAt_3b067_0 : decode cJ1_charAt_3b067 0 = .ok (.iload_n 1, 1) := by decide +kernel
theorem dJ1_charAt_3b067_1 : decode cJ1_charAt_3b067 1 = .ok (.aload_n 0, 1) := by decide +kernel
theorem dJ1_charAt_3b067_2 : decode cJ1_charAt_3b067 2 = .ok (.arraylength, 1) := by decide +kernel
theorem dJ1_charAt_3b067_3 : decode cJ1_charAt_3b067 3 = .ok (.invokestatic 9, 3) := by decide +kernel
theorem dJ1_charAt_3b067_6 : decode cJ1_charAt_3b067 6 = .ok (.aload_n 0, 1) := by decide +kernel
theorem dJ1_charAt_3b067_7 : decode cJ1_charAt_3b067 7 = .ok (.iload_n 1, 1) := by decide +kernel
theorem dJ1_charAt_3b067_8 : decode cJ1_charAt_3b067 8 = .ok (.baload, 1) := by decide +kernel
theorem dJ1_charAt_3b067_9 : decode cJ1_charAt_3b067 9 = .ok (.sipush 255, 3) := by decide +kernel
theorem dJ1_charAt_3b067_12 : decode cJ1_charAt_3b067 12 = .ok (.iand, 1) := by decide +kernel
theorem dJ1_charAt_3b067_13 : decode cJ1_charAt_3b067 13 = .ok (.i2c, 1) := by decide +kernel
theorem dJ1_charAt_3b067_14 : decode cJ1_charAt_3b067 14 = .ok (.ireturn, 1) := by decide +kernel
theorem dJ2_getChar_3b067_0 : decode cJ2_getChar_3b067 0 = .ok (.getstatic 44, 3) := by decide +kernel
theorem dJ2_getChar_3b067_3 : decode cJ2_getChar_3b067 3 = .ok (.ifCond .ne 25, 3) := by decide +kernel
theorem dJ2_getChar_3b067_6 : decode cJ2_getChar_3b067 6 = .ok (.iload_n 1, 1) := by decide +kernel
theorem dJ2_getChar_3b067_7 : decode cJ2_getChar_3b067 7 = .ok (.ifCond .lt 11, 3) := by decide +kernel
theorem dJ2_getChar_3b067_10 : decode cJ2_getChar_3b067 10 = .ok (.iload_n 1, 1) := by decide +kernel
theorem dJ2_getChar_3b067_11 : decode cJ2_getChar_3b067 11 = .ok (.aload_n 0, 1) := by decide +kernel
theorem dJ2_getChar_3b067_12 : decode cJ2_getChar_3b067 12 = .ok (.invokestatic 48, 3) := by decide +kernel
theorem dJ2_getChar_3b067_15 : decode cJ2_getChar_3b067 15 = .ok (.if_icmp .lt 13, 3) := by decide +kernel
theorem dJ2_getChar_3b067_18 : decode cJ2_getChar_3b067 18 = .ok (.new 52, 3) := by decide +kernel
theorem dJ2_getChar_3b067_21 : decode cJ2_getChar_3b067 21 = .ok (.dup, 1) := by decide +kernel
theorem dJ2_getChar_3b067_22 : decode cJ2_getChar_3b067 22 = .ok (.ldc 54, 2) := by decide +kernel
theorem dJ2_getChar_3b067_24 : decode cJ2_getChar_3b067 24 = .ok (.invokespecial 56, 3) := by decide +kernel
theorem dJ2_getChar_3b067_27 : decode cJ2_getChar_3b067 27 = .ok (.athrow, 1) := by decide +kernel
theorem dJ2_getChar_3b067_28 : decode cJ2_getChar_3b067 28 = .ok (.iload_n 1, 1) := by decide +kernel
theorem dJ2_getChar_3b067_29 : decode cJ2_getChar_3b067 29 = .ok (.iconst 1, 1) := by decide +kernel
theorem dJ2_getChar_3b067_30 : decode cJ2_getChar_3b067 30 = .ok (.ishl, 1) := by decide +kernel
theorem dJ2_getChar_3b067_31 : decode cJ2_getChar_3b067 31 = .ok (.istore_n 1, 1) := by decide +kernel
theorem dJ2_getChar_3b067_32 : decode cJ2_getChar_3b067 32 = .ok (.aload_n 0, 1) := by decide +kernel
theorem dJ2_getChar_3b067_33 : decode cJ2_getChar_3b067 33 = .ok (.iload_n 1, 1) := by decide +kernel
theorem dJ2_getChar_3b067_34 : decode cJ2_getChar_3b067 34 = .ok (.iinc 1 1, 3) := by decide +kernel
theorem dJ2_getChar_3b067_37 : decode cJ2_getChar_3b067 37 = .ok (.baload, 1) := by decide +kernel
theorem dJ2_getChar_3b067_38 : decode cJ2_getChar_3b067 38 = .ok (.sipush 255, 3) := by decide +kernel
theorem dJ2_getChar_3b067_41 : decode cJ2_getChar_3b067 41 = .ok (.iand, 1) := by decide +kernel
theorem dJ2_getChar_3b067_42 : decode cJ2_getChar_3b067 42 = .ok (.getstatic 59, 3) := by decide +kernel
theorem dJ2_getChar_3b067_45 : decode cJ2_getChar_3b067 45 = .ok (.ishl, 1) := by decide +kernel
theorem dJ2_getChar_3b067_46 : decode cJ2_getChar_3b067 46 = .ok (.aload_n 0, 1) := by decide +kernel
theorem dJ2_getChar_3b067_47 : decode cJ2_getChar_3b067 47 = .ok (.iload_n 1, 1) := by decide +kernel
theorem dJ2_getChar_3b067_48 : decode cJ2_getChar_3b067 48 = .ok (.baload, 1) := by decide +kernel
theorem dJ2_getChar_3b067_49 : decode cJ2_getChar_3b067 49 = .ok (.sipush 255, 3) := by decide +kernel
theorem dJ2_getChar_3b067_52 : decode cJ2_getChar_3b067 52 = .ok (.iand, 1) := by decide +kernel
theorem dJ2_getChar_3b067_53 : decode cJ2_getChar_3b067 53 = .ok (.getstatic 63, 3) := by decide +kernel
theorem dJ2_getChar_3b067_56 : decode cJ2_getChar_3b067 56 = .ok (.ishl, 1) := by decide +kernel
theorem dJ2_getChar_3b067_57 : decode cJ2_getChar_3b067 57 = .ok (.ior, 1) := by decide +kernel
theorem dJ2_getChar_3b067_58 : decode cJ2_getChar_3b067 58 = .ok (.i2c, 1) := by decide +kernel
theorem dJ2_getChar_3b067_59 : decode cJ2_getChar_3b067 59 = .ok (.ireturn, 1) := by decide +kernel
theorem dJ2_length_9d52b_0 : decode cJ2_length_9d52b 0 = .ok (.aload_n 0, 1) := by decide +kernel
theorem dJ2_length_9d52b_1 : decode cJ2_length_9d52b 1 = .ok (.arraylength, 1) := by decide +kernel
theorem dJ2_length_9d52b_2 : decode cJ2_length_9d52b 2 = .ok (.iconst 1, 1) := by decide +kernel
theorem dJ2_length_9d52b_3 : decode cJ2_length_9d52b 3 = .ok (.ishr, 1) := by decide +kernel
theorem dJ2_length_9d52b_4 : decode cJ2_length_9d52b 4 = .ok (.ireturn, 1) := by decide +kernel
theorem dJ2_charAt_3b067_0 : decode cJ2_charAt_3b067 0 = .ok (.iload_n 1, 1) := by decide +kernel
theorem dJ2_charAt_3b067_1 : decode cJ2_charAt_3b067 1 = .ok (.aload_n 0, 1) := by decide +kernel
theorem dJ2_charAt_3b067_2 : decode cJ2_charAt_3b067 2 = .ok (.invokestatic 67, 3) := by decide +kernel
theorem dJ2_charAt_3b067_5 : decode cJ2_charAt_3b067 5 = .ok (.aload_n 0, 1) := by decide +kernel
theorem dJ2_charAt_3b067_6 : decode cJ2_charAt_3b067 6 = .ok (.iload_n 1, 1) := by decide +kernel
theorem dJ2_charAt_3b067_7 : decode cJ2_charAt_3b067 7 = .ok (.invokestatic 71, 3) := by decide +kernel
theorem dJ2_charAt_3b067_10 : decode cJ2_charAt_3b067 10 = .ok (.ireturn, 1) := by decide +kernel
theorem dJ2_checkIndex_2214a_0 : decode cJ2_checkIndex_2214a 0 = .ok (.iload_n 0, 1) := by decide +kernel
theorem dJ2_checkIndex_2214a_1 : decode cJ2_checkIndex_2214a 1 = .ok (.aload_n 1, 1) := by decide +kernel
theorem dJ2_checkIndex_2214a_2 : decode cJ2_checkIndex_2214a 2 = .ok (.invokestatic 48, 3) := by decide +kernel
theorem dJ2_checkIndex_2214a_5 : decode cJ2_checkIndex_2214a 5 = .ok (.invokestatic 414, 3) := by decide +kernel
theorem dJ2_checkIndex_2214a_8 : decode cJ2_checkIndex_2214a 8 = .ok (.return_, 1) := by decide +kernel
theorem dJ3_checkIndex_8e157_0 : decode cJ3_checkIndex_8e157 0 = .ok (.iload_n 0, 1) := by decide +kernel
theorem dJ3_checkIndex_8e157_1 : decode cJ3_checkIndex_8e157 1 = .ok (.ifCond .lt 8, 3) := by decide +kernel
theorem dJ3_checkIndex_8e157_4 : decode cJ3_checkIndex_8e157 4 = .ok (.iload_n 0, 1) := by decide +kernel
theorem dJ3_checkIndex_8e157_5 : decode cJ3_checkIndex_8e157 5 = .ok (.iload_n 1, 1) := by decide +kernel
theorem dJ3_checkIndex_8e157_6 : decode cJ3_checkIndex_8e157 6 = .ok (.if_icmp .lt 10, 3) := by decide +kernel
theorem dJ3_checkIndex_8e157_9 : decode cJ3_checkIndex_8e157 9 = .ok (.aload_n 2, 1) := by decide +kernel
theorem dJ3_checkIndex_8e157_10 : decode cJ3_checkIndex_8e157 10 = .ok (.iload_n 0, 1) := by decide +kernel
theorem dJ3_checkIndex_8e157_11 : decode cJ3_checkIndex_8e157 11 = .ok (.iload_n 1, 1) := by decide +kernel
theorem dJ3_checkIndex_8e157_12 : decode cJ3_checkIndex_8e157 12 = .ok (.invokestatic 95, 3) := by decide +kernel
theorem dJ3_checkIndex_8e157_15 : decode cJ3_checkIndex_8e157 15 = .ok (.athrow, 1) := by decide +kernel
theorem dJ3_checkIndex_8e157_16 : decode cJ3_checkIndex_8e157 16 = .ok (.iload_n 0, 1) := by decide +kernel
theorem dJ3_checkIndex_8e157_17 : decode cJ3_checkIndex_8e157 17 = .ok (.ireturn, 1) := by decide +kernel
