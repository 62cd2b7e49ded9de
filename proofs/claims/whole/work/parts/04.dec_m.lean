theorem dX12_init_0 : decode cX12_init 0 = .ok (.aload_n 0, 1) := by decide +kernel
theorem dX12_init_1 : decode cX12_init 1 = .ok (.invokespecial 1, 3) := by decide +kernel
theorem dX12_init_4 : decode cX12_init 4 = .ok (.aload_n 0, 1) := by decide +kernel
theorem dX12_init_5 : decode cX12_init 5 = .ok (.bipush 73, 2) := by decide +kernel
theorem dX12_init_7 : decode cX12_init 7 = .ok (.newarray .int, 2) := by decide +kernel
theorem dX12_init_9 : decode cX12_init 9 = .ok (.putfield 9, 3) := by decide +kernel
theorem dX12_init_12 : decode cX12_init 12 = .ok (.aload_n 0, 1) := by decide +kernel
theorem dX12_init_13 : decode cX12_init 13 = .ok (.bipush 73, 2) := by decide +kernel
theorem dX12_init_15 : decode cX12_init 15 = .ok (.newarray .int, 2) := by decide +kernel
theorem dX12_init_17 : decode cX12_init 17 = .ok (.putfield 13, 3) := by decide +kernel
theorem dX12_init_20 : decode cX12_init 20 = .ok (.aload_n 0, 1) := by decide +kernel
theorem dX12_init_21 : decode cX12_init 21 = .ok (.bipush 73, 2) := by decide +kernel
theorem dX12_init_23 : decode cX12_init 23 = .ok (.newarray .int, 2) := by decide +kernel
theorem dX12_init_25 : decode cX12_init 25 = .ok (.putfield 16, 3) := by decide +kernel
theorem dX12_init_28 : decode cX12_init 28 = .ok (.aload_n 0, 1) := by decide +kernel
theorem dX12_init_29 : decode cX12_init 29 = .ok (.bipush 8, 2) := by decide +kernel
theorem dX12_init_31 : decode cX12_init 31 = .ok (.newarray .int, 2) := by decide +kernel
theorem dX12_init_33 : decode cX12_init 33 = .ok (.putfield 19, 3) := by decide +kernel
theorem dX12_init_36 : decode cX12_init 36 = .ok (.aload_n 0, 1) := by decide +kernel
theorem dX12_init_37 : decode cX12_init 37 = .ok (.bipush 8, 2) := by decide +kernel
theorem dX12_init_39 : decode cX12_init 39 = .ok (.newarray .int, 2) := by decide +kernel
theorem dX12_init_41 : decode cX12_init 41 = .ok (.putfield 22, 3) := by decide +kernel
theorem dX12_init_44 : decode cX12_init 44 = .ok (.aload_n 0, 1) := by decide +kernel
theorem dX12_init_45 : decode cX12_init 45 = .ok (.bipush 8, 2) := by decide +kernel
theorem dX12_init_47 : decode cX12_init 47 = .ok (.newarray .int, 2) := by decide +kernel
theorem dX12_init_49 : decode cX12_init 49 = .ok (.putfield 25, 3) := by decide +kernel
theorem dX12_init_52 : decode cX12_init 52 = .ok (.aload_n 0, 1) := by decide +kernel
theorem dX12_init_53 : decode cX12_init 53 = .ok (.sipush 800, 3) := by decide +kernel
theorem dX12_init_56 : decode cX12_init 56 = .ok (.newarray .int, 2) := by decide +kernel
theorem dX12_init_58 : decode cX12_init 58 = .ok (.putfield 28, 3) := by decide +kernel
theorem dX12_init_61 : decode cX12_init 61 = .ok (.aload_n 0, 1) := by decide +kernel
theorem dX12_init_62 : decode cX12_init 62 = .ok (.bipush 8, 2) := by decide +kernel
theorem dX12_init_64 : decode cX12_init 64 = .ok (.newarray .int, 2) := by decide +kernel
theorem dX12_init_66 : decode cX12_init 66 = .ok (.putfield 31, 3) := by decide +kernel
theorem dX12_init_69 : decode cX12_init 69 = .ok (.aload_n 0, 1) := by decide +kernel
theorem dX12_init_70 : decode cX12_init 70 = .ok (.bipush 8, 2) := by decide +kernel
theorem dX12_init_72 : decode cX12_init 72 = .ok (.newarray .int, 2) := by decide +kernel
theorem dX12_init_74 : decode cX12_init 74 = .ok (.putfield 34, 3) := by decide +kernel
theorem dX12_init_77 : decode cX12_init 77 = .ok (.aload_n 0, 1) := by decide +kernel
theorem dX12_init_78 : decode cX12_init 78 = .ok (.iconst 4, 1) := by decide +kernel
theorem dX12_init_79 : decode cX12_init 79 = .ok (.newarray .int, 2) := by decide +kernel
theorem dX12_init_81 : decode cX12_init 81 = .ok (.putfield 37, 3) := by decide +kernel
theorem dX12_init_84 : decode cX12_init 84 = .ok (.aload_n 0, 1) := by decide +kernel
theorem dX12_init_85 : decode cX12_init 85 = .ok (.bipush 25, 2) := by decide +kernel
theorem dX12_init_87 : decode cX12_init 87 = .ok (.newarray .int, 2) := by decide +kernel
theorem dX12_init_89 : decode cX12_init 89 = .ok (.putfield 40, 3) := by decide +kernel
theorem dX12_init_92 : decode cX12_init 92 = .ok (.aload_n 0, 1) := by decide +kernel
theorem dX12_init_93 : decode cX12_init 93 = .ok (.iconst 5, 1) := by decide +kernel
theorem dX12_init_94 : decode cX12_init 94 = .ok (.newarray .int, 2) := by decide +kernel
theorem dX12_init_96 : decode cX12_init 96 = .ok (.putfield 43, 3) := by decide +kernel
theorem dX12_init_99 : decode cX12_init 99 = .ok (.aload_n 0, 1) := by decide +kernel
theorem dX12_init_100 : decode cX12_init 100 = .ok (.iconst 5, 1) := by decide +kernel
theorem dX12_init_101 : decode cX12_init 101 = .ok (.newarray .int, 2) := by decide +kernel
theorem dX12_init_103 : decode cX12_init 103 = .ok (.putfield 46, 3) := by decide +kernel
theorem dX12_init_106 : decode cX12_init 106 = .ok (.aload_n 0, 1) := by decide +kernel
theorem dX12_init_107 : decode cX12_init 107 = .ok (.iconst 5, 1) := by decide +kernel
theorem dX12_init_108 : decode cX12_init 108 = .ok (.newarray .int, 2) := by decide +kernel
theorem dX12_init_110 : decode cX12_init 110 = .ok (.putfield 49, 3) := by decide +kernel
theorem dX12_init_113 : decode cX12_init 113 = .ok (.aload_n 0, 1) := by decide +kernel
theorem dX12_init_114 : decode cX12_init 114 = .ok (.getfield 9, 3) := by decide +kernel
theorem dX12_init_117 : decode cX12_init 117 = .ok (.iconst 1, 1) := by decide +kernel
theorem dX12_init_118 : decode cX12_init 118 = .ok (.sipush 400, 3) := by decide +kernel
theorem dX12_init_121 : decode cX12_init 121 = .ok (.iastore, 1) := by decide +kernel
theorem dX12_init_122 : decode cX12_init 122 = .ok (.aload_n 0, 1) := by decide +kernel
theorem dX12_init_123 : decode cX12_init 123 = .ok (.getfield 9, 3) := by decide +kernel
theorem dX12_init_126 : decode cX12_init 126 = .ok (.iconst 2, 1) := by decide +kernel
theorem dX12_init_127 : decode cX12_init 127 = .ok (.sipush 2000, 3) := by decide +kernel
theorem dX12_init_130 : decode cX12_init 130 = .ok (.iastore, 1) := by decide +kernel
theorem dX12_init_131 : decode cX12_init 131 = .ok (.return_, 1) := by decide +kernel
theorem dX12_thrown_0 : decode cX12_thrown 0 = .ok (.aload_n 0, 1) := by decide +kernel
theorem dX12_thrown_1 : decode cX12_thrown 1 = .ok (.getfield 52, 3) := by decide +kernel
theorem dX12_thrown_4 : decode cX12_thrown 4 = .ok (.ireturn, 1) := by decide +kernel
theorem dX12_isIn_0 : decode cX12_isIn 0 = .ok (.lload_n 0, 1) := by decide +kernel
theorem dX12_isIn_1 : decode cX12_isIn 1 = .ok (.lload_n 2, 1) := by decide +kernel
theorem dX12_isIn_2 : decode cX12_isIn 2 = .ok (.lcmp, 1) := by decide +kernel
theorem dX12_isIn_3 : decode cX12_isIn 3 = .ok (.ifCond .lt 14, 3) := by decide +kernel
theorem dX12_isIn_6 : decode cX12_isIn 6 = .ok (.lload_n 0, 1) := by decide +kernel
theorem dX12_isIn_7 : decode cX12_isIn 7 = .ok (.lload 4, 2) := by decide +kernel
theorem dX12_isIn_9 : decode cX12_isIn 9 = .ok (.lcmp, 1) := by decide +kernel
theorem dX12_isIn_10 : decode cX12_isIn 10 = .ok (.ifCond .gt 7, 3) := by decide +kernel
theorem dX12_isIn_13 : decode cX12_isIn 13 = .ok (.iconst 1, 1) := by decide +kernel
theorem dX12_isIn_14 : decode cX12_isIn 14 = .ok (.goto 4, 3) := by decide +kernel
theorem dX12_isIn_17 : decode cX12_isIn 17 = .ok (.iconst 0, 1) := by decide +kernel
theorem dX12_isIn_18 : decode cX12_isIn 18 = .ok (.ireturn, 1) := by decide +kernel
theorem dX12_isFaller_0 : decode cX12_isFaller 0 = .ok (.iload_n 1, 1) := by decide +kernel
theorem dX12_isFaller_1 : decode cX12_isFaller 1 = .ok (.i2l, 1) := by decide +kernel
theorem dX12_isFaller_2 : decode cX12_isFaller 2 = .ok (.lconst 0, 1) := by decide +kernel
theorem dX12_isFaller_3 : decode cX12_isFaller 3 = .ok (.aload_n 0, 1) := by decide +kernel
theorem dX12_isFaller_4 : decode cX12_isFaller 4 = .ok (.getfield 9, 3) := by decide +kernel
theorem dX12_isFaller_7 : decode cX12_isFaller 7 = .ok (.iconst 3, 1) := by decide +kernel
theorem dX12_isFaller_8 : decode cX12_isFaller 8 = .ok (.iaload, 1) := by decide +kernel
theorem dX12_isFaller_9 : decode cX12_isFaller 9 = .ok (.iconst 1, 1) := by decide +kernel
theorem dX12_isFaller_10 : decode cX12_isFaller 10 = .ok (.isub, 1) := by decide +kernel
theorem dX12_isFaller_11 : decode cX12_isFaller 11 = .ok (.i2l, 1) := by decide +kernel
theorem dX12_isFaller_12 : decode cX12_isFaller 12 = .ok (.invokestatic 56, 3) := by decide +kernel
theorem dX12_isFaller_15 : decode cX12_isFaller 15 = .ok (.ireturn, 1) := by decide +kernel
theorem dX12_isShelf_0 : decode cX12_isShelf 0 = .ok (.iload_n 0, 1) := by decide +kernel
theorem dX12_isShelf_1 : decode cX12_isShelf 1 = .ok (.i2l, 1) := by decide +kernel
theorem dX12_isShelf_2 : decode cX12_isShelf 2 = .ok (.lconst 0, 1) := by decide +kernel
theorem dX12_isShelf_3 : decode cX12_isShelf 3 = .ok (.ldc2_w 60, 3) := by decide +kernel
theorem dX12_isShelf_6 : decode cX12_isShelf 6 = .ok (.invokestatic 56, 3) := by decide +kernel
theorem dX12_isShelf_9 : decode cX12_isShelf 9 = .ok (.ireturn, 1) := by decide +kernel
theorem dX12_isEdge_0 : decode cX12_isEdge 0 = .ok (.iload_n 0, 1) := by decide +kernel
theorem dX12_isEdge_1 : decode cX12_isEdge 1 = .ok (.i2l, 1) := by decide +kernel
theorem dX12_isEdge_2 : decode cX12_isEdge 2 = .ok (.ldc2_w 62, 3) := by decide +kernel
theorem dX12_isEdge_5 : decode cX12_isEdge 5 = .ok (.ldc2_w 64, 3) := by decide +kernel
theorem dX12_isEdge_8 : decode cX12_isEdge 8 = .ok (.invokestatic 56, 3) := by decide +kernel
theorem dX12_isEdge_11 : decode cX12_isEdge 11 = .ok (.ireturn, 1) := by decide +kernel
theorem dX12_of_0 : decode cX12_of 0 = .ok (.aload_n 0, 1) := by decide +kernel
theorem dX12_of_1 : decode cX12_of 1 = .ok (.getfield 9, 3) := by decide +kernel
theorem dX12_of_4 : decode cX12_of 4 = .ok (.bipush 25, 2) := by decide +kernel
theorem dX12_of_6 : decode cX12_of 6 = .ok (.iconst 3, 1) := by decide +kernel
theorem dX12_of_7 : decode cX12_of 7 = .ok (.iload_n 1, 1) := by decide +kernel
theorem dX12_of_8 : decode cX12_of 8 = .ok (.imul, 1) := by decide +kernel
theorem dX12_of_9 : decode cX12_of 9 = .ok (.iadd, 1) := by decide +kernel
theorem dX12_of_10 : decode cX12_of 10 = .ok (.iload_n 2, 1) := by decide +kernel
theorem dX12_of_11 : decode cX12_of 11 = .ok (.iadd, 1) := by decide +kernel
theorem dX12_of_12 : decode cX12_of 12 = .ok (.iaload, 1) := by decide +kernel
theorem dX12_of_13 : decode cX12_of 13 = .ok (.ireturn, 1) := by decide +kernel
theorem dX12_amount_0 : decode cX12_amount 0 = .ok (.iload_n 0, 1) := by decide +kernel
theorem dX12_amount_1 : decode cX12_amount 1 = .ok (.ifCond .ge 8, 3) := by decide +kernel
theorem dX12_amount_4 : decode cX12_amount 4 = .ok (.iload_n 0, 1) := by decide +kernel
theorem dX12_amount_5 : decode cX12_amount 5 = .ok (.ineg, 1) := by decide +kernel
theorem dX12_amount_6 : decode cX12_amount 6 = .ok (.goto 4, 3) := by decide +kernel
theorem dX12_amount_9 : decode cX12_amount 9 = .ok (.iload_n 0, 1) := by decide +kernel
theorem dX12_amount_10 : decode cX12_amount 10 = .ok (.ireturn, 1) := by decide +kernel
theorem dX12_lesser_0 : decode cX12_lesser 0 = .ok (.iload_n 0, 1) := by decide +kernel
theorem dX12_lesser_1 : decode cX12_lesser 1 = .ok (.iload_n 1, 1) := by decide +kernel
theorem dX12_lesser_2 : decode cX12_lesser 2 = .ok (.if_icmp .ge 7, 3) := by decide +kernel
theorem dX12_lesser_5 : decode cX12_lesser 5 = .ok (.iload_n 0, 1) := by decide +kernel
theorem dX12_lesser_6 : decode cX12_lesser 6 = .ok (.goto 4, 3) := by decide +kernel
theorem dX12_lesser_9 : decode cX12_lesser 9 = .ok (.iload_n 1, 1) := by decide +kernel
theorem dX12_lesser_10 : decode cX12_lesser 10 = .ok (.ireturn, 1) := by decide +kernel
theorem dX12_held_0 : decode cX12_held 0 = .ok (.iload_n 0, 1) := by decide +kernel
theorem dX12_held_1 : decode cX12_held 1 = .ok (.sipush (-30000), 3) := by decide +kernel
theorem dX12_held_4 : decode cX12_held 4 = .ok (.if_icmp .ge 9, 3) := by decide +kernel
theorem dX12_held_7 : decode cX12_held 7 = .ok (.sipush (-30000), 3) := by decide +kernel
theorem dX12_held_10 : decode cX12_held 10 = .ok (.goto 17, 3) := by decide +kernel
theorem dX12_held_13 : decode cX12_held 13 = .ok (.iload_n 0, 1) := by decide +kernel
theorem dX12_held_14 : decode cX12_held 14 = .ok (.sipush 30000, 3) := by decide +kernel
theorem dX12_held_17 : decode cX12_held 17 = .ok (.if_icmp .le 9, 3) := by decide +kernel
theorem dX12_held_20 : decode cX12_held 20 = .ok (.sipush 30000, 3) := by decide +kernel
theorem dX12_held_23 : decode cX12_held 23 = .ok (.goto 4, 3) := by decide +kernel
theorem dX12_held_26 : decode cX12_held 26 = .ok (.iload_n 0, 1) := by decide +kernel
theorem dX12_held_27 : decode cX12_held 27 = .ok (.ireturn, 1) := by decide +kernel
theorem dX12_here_0 : decode cX12_here 0 = .ok (.aload_n 0, 1) := by decide +kernel
theorem dX12_here_1 : decode cX12_here 1 = .ok (.getfield 66, 3) := by decide +kernel
theorem dX12_here_4 : decode cX12_here 4 = .ok (.aload_n 0, 1) := by decide +kernel
theorem dX12_here_5 : decode cX12_here 5 = .ok (.getfield 69, 3) := by decide +kernel
theorem dX12_here_8 : decode cX12_here 8 = .ok (.if_icmp .ge 20, 3) := by decide +kernel
theorem dX12_here_11 : decode cX12_here 11 = .ok (.aload_n 0, 1) := by decide +kernel
theorem dX12_here_12 : decode cX12_here 12 = .ok (.getfield 28, 3) := by decide +kernel
theorem dX12_here_15 : decode cX12_here 15 = .ok (.aload_n 0, 1) := by decide +kernel
theorem dX12_here_16 : decode cX12_here 16 = .ok (.getfield 72, 3) := by decide +kernel
theorem dX12_here_19 : decode cX12_here 19 = .ok (.aload_n 0, 1) := by decide +kernel
theorem dX12_here_20 : decode cX12_here 20 = .ok (.getfield 66, 3) := by decide +kernel
theorem dX12_here_23 : decode cX12_here 23 = .ok (.iadd, 1) := by decide +kernel
theorem dX12_here_24 : decode cX12_here 24 = .ok (.iaload, 1) := by decide +kernel
theorem dX12_here_25 : decode cX12_here 25 = .ok (.goto 6, 3) := by decide +kernel
theorem dX12_here_28 : decode cX12_here 28 = .ok (.sipush (-1000), 3) := by decide +kernel
theorem dX12_here_31 : decode cX12_here 31 = .ok (.ireturn, 1) := by decide +kernel
theorem dX12_isDigit_0 : decode cX12_isDigit 0 = .ok (.aload_n 0, 1) := by decide +kernel
theorem dX12_isDigit_1 : decode cX12_isDigit 1 = .ok (.invokevirtual 75, 3) := by decide +kernel
theorem dX12_isDigit_4 : decode cX12_isDigit 4 = .ok (.i2l, 1) := by decide +kernel
theorem dX12_isDigit_5 : decode cX12_isDigit 5 = .ok (.ldc2_w 79, 3) := by decide +kernel
theorem dX12_isDigit_8 : decode cX12_isDigit 8 = .ok (.ldc2_w 81, 3) := by decide +kernel
theorem dX12_isDigit_11 : decode cX12_isDigit 11 = .ok (.invokestatic 56, 3) := by decide +kernel
theorem dX12_isDigit_14 : decode cX12_isDigit 14 = .ok (.ireturn, 1) := by decide +kernel
theorem dX12_takes_0 : decode cX12_takes 0 = .ok (.aload_n 0, 1) := by decide +kernel
theorem dX12_takes_1 : decode cX12_takes 1 = .ok (.invokevirtual 75, 3) := by decide +kernel
theorem dX12_takes_4 : decode cX12_takes 4 = .ok (.iload_n 1, 1) := by decide +kernel
theorem dX12_takes_5 : decode cX12_takes 5 = .ok (.if_icmp .eq 5, 3) := by decide +kernel
theorem dX12_takes_8 : decode cX12_takes 8 = .ok (.iconst 0, 1) := by decide +kernel
theorem dX12_takes_9 : decode cX12_takes 9 = .ok (.ireturn, 1) := by decide +kernel
theorem dX12_takes_10 : decode cX12_takes 10 = .ok (.aload_n 0, 1) := by decide +kernel
theorem dX12_takes_11 : decode cX12_takes 11 = .ok (.dup, 1) := by decide +kernel
theorem dX12_takes_12 : decode cX12_takes 12 = .ok (.getfield 66, 3) := by decide +kernel
theorem dX12_takes_15 : decode cX12_takes 15 = .ok (.iconst 1, 1) := by decide +kernel
theorem dX12_takes_16 : decode cX12_takes 16 = .ok (.iadd, 1) := by decide +kernel
theorem dX12_takes_17 : decode cX12_takes 17 = .ok (.putfield 66, 3) := by decide +kernel
theorem dX12_takes_20 : decode cX12_takes 20 = .ok (.iconst 1, 1) := by decide +kernel
theorem dX12_takes_21 : decode cX12_takes 21 = .ok (.ireturn, 1) := by decide +kernel
theorem dX12_readsDigit_0 : decode cX12_readsDigit 0 = .ok (.aload_n 0, 1) := by decide +kernel
theorem dX12_readsDigit_1 : decode cX12_readsDigit 1 = .ok (.invokevirtual 83, 3) := by decide +kernel
theorem dX12_readsDigit_4 : decode cX12_readsDigit 4 = .ok (.ifCond .ne 5, 3) := by decide +kernel
theorem dX12_readsDigit_7 : decode cX12_readsDigit 7 = .ok (.iconst 0, 1) := by decide +kernel
theorem dX12_readsDigit_8 : decode cX12_readsDigit 8 = .ok (.ireturn, 1) := by decide +kernel
theorem dX12_readsDigit_9 : decode cX12_readsDigit 9 = .ok (.aload_n 0, 1) := by decide +kernel
theorem dX12_readsDigit_10 : decode cX12_readsDigit 10 = .ok (.getfield 37, 3) := by decide +kernel
theorem dX12_readsDigit_13 : decode cX12_readsDigit 13 = .ok (.aload_n 0, 1) := by decide +kernel
theorem dX12_readsDigit_14 : decode cX12_readsDigit 14 = .ok (.getfield 87, 3) := by decide +kernel
theorem dX12_readsDigit_17 : decode cX12_readsDigit 17 = .ok (.aload_n 0, 1) := by decide +kernel
theorem dX12_readsDigit_18 : decode cX12_readsDigit 18 = .ok (.invokevirtual 75, 3) := by decide +kernel
theorem dX12_readsDigit_21 : decode cX12_readsDigit 21 = .ok (.bipush 48, 2) := by decide +kernel
theorem dX12_readsDigit_23 : decode cX12_readsDigit 23 = .ok (.isub, 1) := by decide +kernel
theorem dX12_readsDigit_24 : decode cX12_readsDigit 24 = .ok (.iastore, 1) := by decide +kernel
theorem dX12_readsDigit_25 : decode cX12_readsDigit 25 = .ok (.aload_n 0, 1) := by decide +kernel
theorem dX12_readsDigit_26 : decode cX12_readsDigit 26 = .ok (.dup, 1) := by decide +kernel
theorem dX12_readsDigit_27 : decode cX12_readsDigit 27 = .ok (.getfield 87, 3) := by decide +kernel
theorem dX12_readsDigit_30 : decode cX12_readsDigit 30 = .ok (.iconst 1, 1) := by decide +kernel
theorem dX12_readsDigit_31 : decode cX12_readsDigit 31 = .ok (.iadd, 1) := by decide +kernel
theorem dX12_readsDigit_32 : decode cX12_readsDigit 32 = .ok (.putfield 87, 3) := by decide +kernel
theorem dX12_readsDigit_35 : decode cX12_readsDigit 35 = .ok (.aload_n 0, 1) := by decide +kernel
theorem dX12_readsDigit_36 : decode cX12_readsDigit 36 = .ok (.dup, 1) := by decide +kernel
theorem dX12_readsDigit_37 : decode cX12_readsDigit 37 = .ok (.getfield 66, 3) := by decide +kernel
theorem dX12_readsDigit_40 : decode cX12_readsDigit 40 = .ok (.iconst 1, 1) := by decide +kernel
theorem dX12_readsDigit_41 : decode cX12_readsDigit 41 = .ok (.iadd, 1) := by decide +kernel
theorem dX12_readsDigit_42 : decode cX12_readsDigit 42 = .ok (.putfield 66, 3) := by decide +kernel
theorem dX12_readsDigit_45 : decode cX12_readsDigit 45 = .ok (.iconst 1, 1) := by decide +kernel
theorem dX12_readsDigit_46 : decode cX12_readsDigit 46 = .ok (.ireturn, 1) := by decide +kernel
theorem dX12_readsNumber_0 : decode cX12_readsNumber 0 = .ok (.aload_n 0, 1) := by decide +kernel
theorem dX12_readsNumber_1 : decode cX12_readsNumber 1 = .ok (.invokevirtual 90, 3) := by decide +kernel
theorem dX12_readsNumber_4 : decode cX12_readsNumber 4 = .ok (.ifCond .ne 5, 3) := by decide +kernel
theorem dX12_readsNumber_7 : decode cX12_readsNumber 7 = .ok (.iconst 0, 1) := by decide +kernel
theorem dX12_readsNumber_8 : decode cX12_readsNumber 8 = .ok (.ireturn, 1) := by decide +kernel
theorem dX12_readsNumber_9 : decode cX12_readsNumber 9 = .ok (.iconst 1, 1) := by decide +kernel
theorem dX12_readsNumber_10 : decode cX12_readsNumber 10 = .ok (.istore_n 1, 1) := by decide +kernel
theorem dX12_readsNumber_11 : decode cX12_readsNumber 11 = .ok (.iload_n 1, 1) := by decide +kernel
theorem dX12_readsNumber_12 : decode cX12_readsNumber 12 = .ok (.iconst 4, 1) := by decide +kernel
theorem dX12_readsNumber_13 : decode cX12_readsNumber 13 = .ok (.if_icmp .ge 73, 3) := by decide +kernel
theorem dX12_readsNumber_16 : decode cX12_readsNumber 16 = .ok (.aload_n 0, 1) := by decide +kernel
theorem dX12_readsNumber_17 : decode cX12_readsNumber 17 = .ok (.getfield 37, 3) := by decide +kernel
theorem dX12_readsNumber_20 : decode cX12_readsNumber 20 = .ok (.aload_n 0, 1) := by decide +kernel
theorem dX12_readsNumber_21 : decode cX12_readsNumber 21 = .ok (.getfield 87, 3) := by decide +kernel
theorem dX12_readsNumber_24 : decode cX12_readsNumber 24 = .ok (.iconst 1, 1) := by decide +kernel
theorem dX12_readsNumber_25 : decode cX12_readsNumber 25 = .ok (.isub, 1) := by decide +kernel
theorem dX12_readsNumber_26 : decode cX12_readsNumber 26 = .ok (.iaload, 1) := by decide +kernel
theorem dX12_readsNumber_27 : decode cX12_readsNumber 27 = .ok (.ifCond .le 59, 3) := by decide +kernel
theorem dX12_readsNumber_30 : decode cX12_readsNumber 30 = .ok (.aload_n 0, 1) := by decide +kernel
theorem dX12_readsNumber_31 : decode cX12_readsNumber 31 = .ok (.invokevirtual 83, 3) := by decide +kernel
theorem dX12_readsNumber_34 : decode cX12_readsNumber 34 = .ok (.ifCond .eq 52, 3) := by decide +kernel
theorem dX12_readsNumber_37 : decode cX12_readsNumber 37 = .ok (.aload_n 0, 1) := by decide +kernel
theorem dX12_readsNumber_38 : decode cX12_readsNumber 38 = .ok (.getfield 37, 3) := by decide +kernel
theorem dX12_readsNumber_41 : decode cX12_readsNumber 41 = .ok (.aload_n 0, 1) := by decide +kernel
theorem dX12_readsNumber_42 : decode cX12_readsNumber 42 = .ok (.getfield 87, 3) := by decide +kernel
theorem dX12_readsNumber_45 : decode cX12_readsNumber 45 = .ok (.iconst 1, 1) := by decide +kernel
theorem dX12_readsNumber_46 : decode cX12_readsNumber 46 = .ok (.isub, 1) := by decide +kernel
theorem dX12_readsNumber_47 : decode cX12_readsNumber 47 = .ok (.bipush 10, 2) := by decide +kernel
theorem dX12_readsNumber_49 : decode cX12_readsNumber 49 = .ok (.aload_n 0, 1) := by decide +kernel
theorem dX12_readsNumber_50 : decode cX12_readsNumber 50 = .ok (.getfield 37, 3) := by decide +kernel
theorem dX12_readsNumber_53 : decode cX12_readsNumber 53 = .ok (.aload_n 0, 1) := by decide +kernel
theorem dX12_readsNumber_54 : decode cX12_readsNumber 54 = .ok (.getfield 87, 3) := by decide +kernel
theorem dX12_readsNumber_57 : decode cX12_readsNumber 57 = .ok (.iconst 1, 1) := by decide +kernel
theorem dX12_readsNumber_58 : decode cX12_readsNumber 58 = .ok (.isub, 1) := by decide +kernel
theorem dX12_readsNumber_59 : decode cX12_readsNumber 59 = .ok (.iaload, 1) := by decide +kernel
theorem dX12_readsNumber_60 : decode cX12_readsNumber 60 = .ok (.imul, 1) := by decide +kernel
theorem dX12_readsNumber_61 : decode cX12_readsNumber 61 = .ok (.aload_n 0, 1) := by decide +kernel
theorem dX12_readsNumber_62 : decode cX12_readsNumber 62 = .ok (.invokevirtual 75, 3) := by decide +kernel
theorem dX12_readsNumber_65 : decode cX12_readsNumber 65 = .ok (.iadd, 1) := by decide +kernel
theorem dX12_readsNumber_66 : decode cX12_readsNumber 66 = .ok (.bipush 48, 2) := by decide +kernel
theorem dX12_readsNumber_68 : decode cX12_readsNumber 68 = .ok (.isub, 1) := by decide +kernel
theorem dX12_readsNumber_69 : decode cX12_readsNumber 69 = .ok (.iastore, 1) := by decide +kernel
theorem dX12_readsNumber_70 : decode cX12_readsNumber 70 = .ok (.aload_n 0, 1) := by decide +kernel
theorem dX12_readsNumber_71 : decode cX12_readsNumber 71 = .ok (.dup, 1) := by decide +kernel
theorem dX12_readsNumber_72 : decode cX12_readsNumber 72 = .ok (.getfield 66, 3) := by decide +kernel
theorem dX12_readsNumber_75 : decode cX12_readsNumber 75 = .ok (.iconst 1, 1) := by decide +kernel
theorem dX12_readsNumber_76 : decode cX12_readsNumber 76 = .ok (.iadd, 1) := by decide +kernel
theorem dX12_readsNumber_77 : decode cX12_readsNumber 77 = .ok (.putfield 66, 3) := by decide +kernel
theorem dX12_readsNumber_80 : decode cX12_readsNumber 80 = .ok (.iinc 1 1, 3) := by decide +kernel
theorem dX12_readsNumber_83 : decode cX12_readsNumber 83 = .ok (.goto (-72), 3) := by decide +kernel
theorem dX12_readsNumber_86 : decode cX12_readsNumber 86 = .ok (.iconst 1, 1) := by decide +kernel
theorem dX12_readsNumber_87 : decode cX12_readsNumber 87 = .ok (.ireturn, 1) := by decide +kernel
theorem dX12_readsSigned_0 : decode cX12_readsSigned 0 = .ok (.aload_n 0, 1) := by decide +kernel
theorem dX12_readsSigned_1 : decode cX12_readsSigned 1 = .ok (.invokevirtual 75, 3) := by decide +kernel
theorem dX12_readsSigned_4 : decode cX12_readsSigned 4 = .ok (.istore_n 1, 1) := by decide +kernel
theorem dX12_readsSigned_5 : decode cX12_readsSigned 5 = .ok (.iload_n 1, 1) := by decide +kernel
theorem dX12_readsSigned_6 : decode cX12_readsSigned 6 = .ok (.bipush 43, 2) := by decide +kernel
theorem dX12_readsSigned_8 : decode cX12_readsSigned 8 = .ok (.if_icmp .eq 11, 3) := by decide +kernel
theorem dX12_readsSigned_11 : decode cX12_readsSigned 11 = .ok (.iload_n 1, 1) := by decide +kernel
theorem dX12_readsSigned_12 : decode cX12_readsSigned 12 = .ok (.bipush 45, 2) := by decide +kernel
theorem dX12_readsSigned_14 : decode cX12_readsSigned 14 = .ok (.if_icmp .eq 5, 3) := by decide +kernel
theorem dX12_readsSigned_17 : decode cX12_readsSigned 17 = .ok (.iconst 0, 1) := by decide +kernel
theorem dX12_readsSigned_18 : decode cX12_readsSigned 18 = .ok (.ireturn, 1) := by decide +kernel
theorem dX12_readsSigned_19 : decode cX12_readsSigned 19 = .ok (.aload_n 0, 1) := by decide +kernel
theorem dX12_readsSigned_20 : decode cX12_readsSigned 20 = .ok (.dup, 1) := by decide +kernel
theorem dX12_readsSigned_21 : decode cX12_readsSigned 21 = .ok (.getfield 66, 3) := by decide +kernel
theorem dX12_readsSigned_24 : decode cX12_readsSigned 24 = .ok (.iconst 1, 1) := by decide +kernel
theorem dX12_readsSigned_25 : decode cX12_readsSigned 25 = .ok (.iadd, 1) := by decide +kernel
theorem dX12_readsSigned_26 : decode cX12_readsSigned 26 = .ok (.putfield 66, 3) := by decide +kernel
theorem dX12_readsSigned_29 : decode cX12_readsSigned 29 = .ok (.aload_n 0, 1) := by decide +kernel
theorem dX12_readsSigned_30 : decode cX12_readsSigned 30 = .ok (.invokevirtual 93, 3) := by decide +kernel
theorem dX12_readsSigned_33 : decode cX12_readsSigned 33 = .ok (.ifCond .ne 5, 3) := by decide +kernel
theorem dX12_readsSigned_36 : decode cX12_readsSigned 36 = .ok (.iconst 0, 1) := by decide +kernel
theorem dX12_readsSigned_37 : decode cX12_readsSigned 37 = .ok (.ireturn, 1) := by decide +kernel
theorem dX12_readsSigned_38 : decode cX12_readsSigned 38 = .ok (.iload_n 1, 1) := by decide +kernel
theorem dX12_readsSigned_39 : decode cX12_readsSigned 39 = .ok (.bipush 45, 2) := by decide +kernel
theorem dX12_readsSigned_41 : decode cX12_readsSigned 41 = .ok (.if_icmp .ne 26, 3) := by decide +kernel
theorem dX12_readsSigned_44 : decode cX12_readsSigned 44 = .ok (.aload_n 0, 1) := by decide +kernel
theorem dX12_readsSigned_45 : decode cX12_readsSigned 45 = .ok (.getfield 37, 3) := by decide +kernel
theorem dX12_readsSigned_48 : decode cX12_readsSigned 48 = .ok (.aload_n 0, 1) := by decide +kernel
theorem dX12_readsSigned_49 : decode cX12_readsSigned 49 = .ok (.getfield 87, 3) := by decide +kernel
theorem dX12_readsSigned_52 : decode cX12_readsSigned 52 = .ok (.iconst 1, 1) := by decide +kernel
theorem dX12_readsSigned_53 : decode cX12_readsSigned 53 = .ok (.isub, 1) := by decide +kernel
theorem dX12_readsSigned_54 : decode cX12_readsSigned 54 = .ok (.aload_n 0, 1) := by decide +kernel
theorem dX12_readsSigned_55 : decode cX12_readsSigned 55 = .ok (.getfield 37, 3) := by decide +kernel
theorem dX12_readsSigned_58 : decode cX12_readsSigned 58 = .ok (.aload_n 0, 1) := by decide +kernel
theorem dX12_readsSigned_59 : decode cX12_readsSigned 59 = .ok (.getfield 87, 3) := by decide +kernel
theorem dX12_readsSigned_62 : decode cX12_readsSigned 62 = .ok (.iconst 1, 1) := by decide +kernel
theorem dX12_readsSigned_63 : decode cX12_readsSigned 63 = .ok (.isub, 1) := by decide +kernel
theorem dX12_readsSigned_64 : decode cX12_readsSigned 64 = .ok (.iaload, 1) := by decide +kernel
theorem dX12_readsSigned_65 : decode cX12_readsSigned 65 = .ok (.ineg, 1) := by decide +kernel
theorem dX12_readsSigned_66 : decode cX12_readsSigned 66 = .ok (.iastore, 1) := by decide +kernel
theorem dX12_readsSigned_67 : decode cX12_readsSigned 67 = .ok (.iconst 1, 1) := by decide +kernel
theorem dX12_readsSigned_68 : decode cX12_readsSigned 68 = .ok (.ireturn, 1) := by decide +kernel
theorem dX12_readsStatement_0 : decode cX12_readsStatement 0 = .ok (.aload_n 0, 1) := by decide +kernel
theorem dX12_readsStatement_1 : decode cX12_readsStatement 1 = .ok (.invokevirtual 75, 3) := by decide +kernel
theorem dX12_readsStatement_4 : decode cX12_readsStatement 4 = .ok (.istore_n 1, 1) := by decide +kernel
theorem dX12_readsStatement_5 : decode cX12_readsStatement 5 = .ok (.aload_n 0, 1) := by decide +kernel
theorem dX12_readsStatement_6 : decode cX12_readsStatement 6 = .ok (.iconst 0, 1) := by decide +kernel
theorem dX12_readsStatement_7 : decode cX12_readsStatement 7 = .ok (.putfield 87, 3) := by decide +kernel
theorem dX12_readsStatement_10 : decode cX12_readsStatement 10 = .ok (.iload_n 1, 1) := by decide +kernel
theorem dX12_readsStatement_11 : decode cX12_readsStatement 11 = .ok (.bipush 108, 2) := by decide +kernel
theorem dX12_readsStatement_13 : decode cX12_readsStatement 13 = .ok (.if_icmp .eq 29, 3) := by decide +kernel
theorem dX12_readsStatement_16 : decode cX12_readsStatement 16 = .ok (.iload_n 1, 1) := by decide +kernel
theorem dX12_readsStatement_17 : decode cX12_readsStatement 17 = .ok (.bipush 103, 2) := by decide +kernel
theorem dX12_readsStatement_19 : decode cX12_readsStatement 19 = .ok (.if_icmp .eq 23, 3) := by decide +kernel
theorem dX12_readsStatement_22 : decode cX12_readsStatement 22 = .ok (.iload_n 1, 1) := by decide +kernel
theorem dX12_readsStatement_23 : decode cX12_readsStatement 23 = .ok (.bipush 97, 2) := by decide +kernel
theorem dX12_readsStatement_25 : decode cX12_readsStatement 25 = .ok (.if_icmp .eq 17, 3) := by decide +kernel
theorem dX12_readsStatement_28 : decode cX12_readsStatement 28 = .ok (.iload_n 1, 1) := by decide +kernel
theorem dX12_readsStatement_29 : decode cX12_readsStatement 29 = .ok (.bipush 102, 2) := by decide +kernel
theorem dX12_readsStatement_31 : decode cX12_readsStatement 31 = .ok (.if_icmp .eq 11, 3) := by decide +kernel
theorem dX12_readsStatement_34 : decode cX12_readsStatement 34 = .ok (.iload_n 1, 1) := by decide +kernel
theorem dX12_readsStatement_35 : decode cX12_readsStatement 35 = .ok (.bipush 98, 2) := by decide +kernel
theorem dX12_readsStatement_37 : decode cX12_readsStatement 37 = .ok (.if_icmp .eq 5, 3) := by decide +kernel
theorem dX12_readsStatement_40 : decode cX12_readsStatement 40 = .ok (.iconst 0, 1) := by decide +kernel
theorem dX12_readsStatement_41 : decode cX12_readsStatement 41 = .ok (.ireturn, 1) := by decide +kernel
theorem dX12_readsStatement_42 : decode cX12_readsStatement 42 = .ok (.aload_n 0, 1) := by decide +kernel
theorem dX12_readsStatement_43 : decode cX12_readsStatement 43 = .ok (.dup, 1) := by decide +kernel
theorem dX12_readsStatement_44 : decode cX12_readsStatement 44 = .ok (.getfield 66, 3) := by decide +kernel
theorem dX12_readsStatement_47 : decode cX12_readsStatement 47 = .ok (.iconst 1, 1) := by decide +kernel
theorem dX12_readsStatement_48 : decode cX12_readsStatement 48 = .ok (.iadd, 1) := by decide +kernel
theorem dX12_readsStatement_49 : decode cX12_readsStatement 49 = .ok (.putfield 66, 3) := by decide +kernel
theorem dX12_readsStatement_52 : decode cX12_readsStatement 52 = .ok (.iconst 0, 1) := by decide +kernel
theorem dX12_readsStatement_53 : decode cX12_readsStatement 53 = .ok (.istore_n 2, 1) := by decide +kernel
theorem dX12_readsStatement_54 : decode cX12_readsStatement 54 = .ok (.iload_n 1, 1) := by decide +kernel
theorem dX12_readsStatement_55 : decode cX12_readsStatement 55 = .ok (.lookupswitch 150 #[(97, 79), (102, 111), (103, 71), (108, 41)], 41) := by decide +kernel
theorem dX12_readsStatement_96 : decode cX12_readsStatement 96 = .ok (.aload_n 0, 1) := by decide +kernel
theorem dX12_readsStatement_97 : decode cX12_readsStatement 97 = .ok (.invokevirtual 90, 3) := by decide +kernel
theorem dX12_readsStatement_100 : decode cX12_readsStatement 100 = .ok (.ifCond .eq 21, 3) := by decide +kernel
theorem dX12_readsStatement_103 : decode cX12_readsStatement 103 = .ok (.aload_n 0, 1) := by decide +kernel
theorem dX12_readsStatement_104 : decode cX12_readsStatement 104 = .ok (.invokevirtual 96, 3) := by decide +kernel
theorem dX12_readsStatement_107 : decode cX12_readsStatement 107 = .ok (.ifCond .eq 14, 3) := by decide +kernel
theorem dX12_readsStatement_110 : decode cX12_readsStatement 110 = .ok (.aload_n 0, 1) := by decide +kernel
theorem dX12_readsStatement_111 : decode cX12_readsStatement 111 = .ok (.invokevirtual 96, 3) := by decide +kernel
theorem dX12_readsStatement_114 : decode cX12_readsStatement 114 = .ok (.ifCond .eq 7, 3) := by decide +kernel
theorem dX12_readsStatement_117 : decode cX12_readsStatement 117 = .ok (.iconst 1, 1) := by decide +kernel
theorem dX12_readsStatement_118 : decode cX12_readsStatement 118 = .ok (.goto 4, 3) := by decide +kernel
theorem dX12_readsStatement_121 : decode cX12_readsStatement 121 = .ok (.iconst 0, 1) := by decide +kernel
theorem dX12_readsStatement_122 : decode cX12_readsStatement 122 = .ok (.istore_n 2, 1) := by decide +kernel
theorem dX12_readsStatement_123 : decode cX12_readsStatement 123 = .ok (.goto 116, 3) := by decide +kernel
theorem dX12_readsStatement_126 : decode cX12_readsStatement 126 = .ok (.aload_n 0, 1) := by decide +kernel
theorem dX12_readsStatement_127 : decode cX12_readsStatement 127 = .ok (.invokevirtual 93, 3) := by decide +kernel
theorem dX12_readsStatement_130 : decode cX12_readsStatement 130 = .ok (.istore_n 2, 1) := by decide +kernel
theorem dX12_readsStatement_131 : decode cX12_readsStatement 131 = .ok (.goto 108, 3) := by decide +kernel
theorem dX12_readsStatement_134 : decode cX12_readsStatement 134 = .ok (.aload_n 0, 1) := by decide +kernel
theorem dX12_readsStatement_135 : decode cX12_readsStatement 135 = .ok (.invokevirtual 93, 3) := by decide +kernel
theorem dX12_readsStatement_138 : decode cX12_readsStatement 138 = .ok (.ifCond .eq 23, 3) := by decide +kernel
theorem dX12_readsStatement_141 : decode cX12_readsStatement 141 = .ok (.aload_n 0, 1) := by decide +kernel
theorem dX12_readsStatement_142 : decode cX12_readsStatement 142 = .ok (.bipush 32, 2) := by decide +kernel
theorem dX12_readsStatement_144 : decode cX12_readsStatement 144 = .ok (.invokevirtual 99, 3) := by decide +kernel
theorem dX12_readsStatement_147 : decode cX12_readsStatement 147 = .ok (.ifCond .eq 14, 3) := by decide +kernel
theorem dX12_readsStatement_150 : decode cX12_readsStatement 150 = .ok (.aload_n 0, 1) := by decide +kernel
theorem dX12_readsStatement_151 : decode cX12_readsStatement 151 = .ok (.invokevirtual 93, 3) := by decide +kernel
theorem dX12_readsStatement_154 : decode cX12_readsStatement 154 = .ok (.ifCond .eq 7, 3) := by decide +kernel
theorem dX12_readsStatement_157 : decode cX12_readsStatement 157 = .ok (.iconst 1, 1) := by decide +kernel
theorem dX12_readsStatement_158 : decode cX12_readsStatement 158 = .ok (.goto 4, 3) := by decide +kernel
theorem dX12_readsStatement_161 : decode cX12_readsStatement 161 = .ok (.iconst 0, 1) := by decide +kernel
theorem dX12_readsStatement_162 : decode cX12_readsStatement 162 = .ok (.istore_n 2, 1) := by decide +kernel
theorem dX12_readsStatement_163 : decode cX12_readsStatement 163 = .ok (.goto 76, 3) := by decide +kernel
theorem dX12_readsStatement_166 : decode cX12_readsStatement 166 = .ok (.aload_n 0, 1) := by decide +kernel
theorem dX12_readsStatement_167 : decode cX12_readsStatement 167 = .ok (.invokevirtual 90, 3) := by decide +kernel
theorem dX12_readsStatement_170 : decode cX12_readsStatement 170 = .ok (.ifCond .eq 30, 3) := by decide +kernel
theorem dX12_readsStatement_173 : decode cX12_readsStatement 173 = .ok (.aload_n 0, 1) := by decide +kernel
theorem dX12_readsStatement_174 : decode cX12_readsStatement 174 = .ok (.invokevirtual 90, 3) := by decide +kernel
theorem dX12_readsStatement_177 : decode cX12_readsStatement 177 = .ok (.ifCond .eq 23, 3) := by decide +kernel
theorem dX12_readsStatement_180 : decode cX12_readsStatement 180 = .ok (.aload_n 0, 1) := by decide +kernel
theorem dX12_readsStatement_181 : decode cX12_readsStatement 181 = .ok (.bipush 32, 2) := by decide +kernel
theorem dX12_readsStatement_183 : decode cX12_readsStatement 183 = .ok (.invokevirtual 99, 3) := by decide +kernel
theorem dX12_readsStatement_186 : decode cX12_readsStatement 186 = .ok (.ifCond .eq 14, 3) := by decide +kernel
theorem dX12_readsStatement_189 : decode cX12_readsStatement 189 = .ok (.aload_n 0, 1) := by decide +kernel
theorem dX12_readsStatement_190 : decode cX12_readsStatement 190 = .ok (.invokevirtual 93, 3) := by decide +kernel
theorem dX12_readsStatement_193 : decode cX12_readsStatement 193 = .ok (.ifCond .eq 7, 3) := by decide +kernel
theorem dX12_readsStatement_196 : decode cX12_readsStatement 196 = .ok (.iconst 1, 1) := by decide +kernel
theorem dX12_readsStatement_197 : decode cX12_readsStatement 197 = .ok (.goto 4, 3) := by decide +kernel
theorem dX12_readsStatement_200 : decode cX12_readsStatement 200 = .ok (.iconst 0, 1) := by decide +kernel
theorem dX12_readsStatement_201 : decode cX12_readsStatement 201 = .ok (.istore_n 2, 1) := by decide +kernel
theorem dX12_readsStatement_202 : decode cX12_readsStatement 202 = .ok (.goto 37, 3) := by decide +kernel
theorem dX12_readsStatement_205 : decode cX12_readsStatement 205 = .ok (.aload_n 0, 1) := by decide +kernel
theorem dX12_readsStatement_206 : decode cX12_readsStatement 206 = .ok (.invokevirtual 96, 3) := by decide +kernel
theorem dX12_readsStatement_209 : decode cX12_readsStatement 209 = .ok (.ifCond .eq 28, 3) := by decide +kernel
theorem dX12_readsStatement_212 : decode cX12_readsStatement 212 = .ok (.aload_n 0, 1) := by decide +kernel
theorem dX12_readsStatement_213 : decode cX12_readsStatement 213 = .ok (.invokevirtual 96, 3) := by decide +kernel
theorem dX12_readsStatement_216 : decode cX12_readsStatement 216 = .ok (.ifCond .eq 21, 3) := by decide +kernel
theorem dX12_readsStatement_219 : decode cX12_readsStatement 219 = .ok (.aload_n 0, 1) := by decide +kernel
theorem dX12_readsStatement_220 : decode cX12_readsStatement 220 = .ok (.invokevirtual 96, 3) := by decide +kernel
theorem dX12_readsStatement_223 : decode cX12_readsStatement 223 = .ok (.ifCond .eq 14, 3) := by decide +kernel
theorem dX12_readsStatement_226 : decode cX12_readsStatement 226 = .ok (.aload_n 0, 1) := by decide +kernel
theorem dX12_readsStatement_227 : decode cX12_readsStatement 227 = .ok (.invokevirtual 96, 3) := by decide +kernel
theorem dX12_readsStatement_230 : decode cX12_readsStatement 230 = .ok (.ifCond .eq 7, 3) := by decide +kernel
theorem dX12_readsStatement_233 : decode cX12_readsStatement 233 = .ok (.iconst 1, 1) := by decide +kernel
theorem dX12_readsStatement_234 : decode cX12_readsStatement 234 = .ok (.goto 4, 3) := by decide +kernel
theorem dX12_readsStatement_237 : decode cX12_readsStatement 237 = .ok (.iconst 0, 1) := by decide +kernel
theorem dX12_readsStatement_238 : decode cX12_readsStatement 238 = .ok (.istore_n 2, 1) := by decide +kernel
theorem dX12_readsStatement_239 : decode cX12_readsStatement 239 = .ok (.iload_n 2, 1) := by decide +kernel
theorem dX12_readsStatement_240 : decode cX12_readsStatement 240 = .ok (.ifCond .eq 16, 3) := by decide +kernel
theorem dX12_readsStatement_243 : decode cX12_readsStatement 243 = .ok (.aload_n 0, 1) := by decide +kernel
theorem dX12_readsStatement_244 : decode cX12_readsStatement 244 = .ok (.bipush 59, 2) := by decide +kernel
theorem dX12_readsStatement_246 : decode cX12_readsStatement 246 = .ok (.invokevirtual 99, 3) := by decide +kernel
theorem dX12_readsStatement_249 : decode cX12_readsStatement 249 = .ok (.ifCond .eq 7, 3) := by decide +kernel
theorem dX12_readsStatement_252 : decode cX12_readsStatement 252 = .ok (.iconst 1, 1) := by decide +kernel
theorem dX12_readsStatement_253 : decode cX12_readsStatement 253 = .ok (.goto 4, 3) := by decide +kernel
theorem dX12_readsStatement_256 : decode cX12_readsStatement 256 = .ok (.iconst 0, 1) := by decide +kernel
theorem dX12_readsStatement_257 : decode cX12_readsStatement 257 = .ok (.ireturn, 1) := by decide +kernel
theorem dX12_isValue_0 : decode cX12_isValue 0 = .ok (.iload_n 0, 1) := by decide +kernel
theorem dX12_isValue_1 : decode cX12_isValue 1 = .ok (.ifCond .ne 15, 3) := by decide +kernel
theorem dX12_isValue_4 : decode cX12_isValue 4 = .ok (.iload_n 1, 1) := by decide +kernel
theorem dX12_isValue_5 : decode cX12_isValue 5 = .ok (.i2l, 1) := by decide +kernel
theorem dX12_isValue_6 : decode cX12_isValue 6 = .ok (.lconst 0, 1) := by decide +kernel
theorem dX12_isValue_7 : decode cX12_isValue 7 = .ok (.ldc2_w 103, 3) := by decide +kernel
theorem dX12_isValue_10 : decode cX12_isValue 10 = .ok (.invokestatic 56, 3) := by decide +kernel
theorem dX12_isValue_13 : decode cX12_isValue 13 = .ok (.goto 44, 3) := by decide +kernel
theorem dX12_isValue_16 : decode cX12_isValue 16 = .ok (.iload_n 0, 1) := by decide +kernel
theorem dX12_isValue_17 : decode cX12_isValue 17 = .ok (.iconst 1, 1) := by decide +kernel
theorem dX12_isValue_18 : decode cX12_isValue 18 = .ok (.if_icmp .ne 15, 3) := by decide +kernel
theorem dX12_isValue_21 : decode cX12_isValue 21 = .ok (.iload_n 1, 1) := by decide +kernel
theorem dX12_isValue_22 : decode cX12_isValue 22 = .ok (.i2l, 1) := by decide +kernel
theorem dX12_isValue_23 : decode cX12_isValue 23 = .ok (.lconst 0, 1) := by decide +kernel
theorem dX12_isValue_24 : decode cX12_isValue 24 = .ok (.ldc2_w 105, 3) := by decide +kernel
theorem dX12_isValue_27 : decode cX12_isValue 27 = .ok (.invokestatic 56, 3) := by decide +kernel
theorem dX12_isValue_30 : decode cX12_isValue 30 = .ok (.goto 27, 3) := by decide +kernel
theorem dX12_isValue_33 : decode cX12_isValue 33 = .ok (.iload_n 0, 1) := by decide +kernel
theorem dX12_isValue_34 : decode cX12_isValue 34 = .ok (.iconst 2, 1) := by decide +kernel
theorem dX12_isValue_35 : decode cX12_isValue 35 = .ok (.if_icmp .ne 21, 3) := by decide +kernel
theorem dX12_isValue_38 : decode cX12_isValue 38 = .ok (.iload_n 1, 1) := by decide +kernel
theorem dX12_isValue_39 : decode cX12_isValue 39 = .ok (.i2l, 1) := by decide +kernel
theorem dX12_isValue_40 : decode cX12_isValue 40 = .ok (.ldc2_w 107, 3) := by decide +kernel
theorem dX12_isValue_43 : decode cX12_isValue 43 = .ok (.ldc2_w 109, 3) := by decide +kernel
theorem dX12_isValue_46 : decode cX12_isValue 46 = .ok (.invokestatic 56, 3) := by decide +kernel
theorem dX12_isValue_49 : decode cX12_isValue 49 = .ok (.ifCond .eq 7, 3) := by decide +kernel
theorem dX12_isValue_52 : decode cX12_isValue 52 = .ok (.iconst 1, 1) := by decide +kernel
theorem dX12_isValue_53 : decode cX12_isValue 53 = .ok (.goto 4, 3) := by decide +kernel
theorem dX12_isValue_56 : decode cX12_isValue 56 = .ok (.iconst 0, 1) := by decide +kernel
theorem dX12_isValue_57 : decode cX12_isValue 57 = .ok (.ireturn, 1) := by decide +kernel
theorem dX12_comes_0 : decode cX12_comes 0 = .ok (.iload_n 1, 1) := by decide +kernel
theorem dX12_comes_1 : decode cX12_comes 1 = .ok (.lookupswitch 292 #[(97, 152), (102, 208), (103, 129), (108, 43)], 43) := by decide +kernel
theorem dX12_comes_44 : decode cX12_comes 44 = .ok (.aload_n 0, 1) := by decide +kernel
theorem dX12_comes_45 : decode cX12_comes 45 = .ok (.getfield 37, 3) := by decide +kernel
theorem dX12_comes_48 : decode cX12_comes 48 = .ok (.iconst 1, 1) := by decide +kernel
theorem dX12_comes_49 : decode cX12_comes 49 = .ok (.iaload, 1) := by decide +kernel
theorem dX12_comes_50 : decode cX12_comes 50 = .ok (.i2l, 1) := by decide +kernel
theorem dX12_comes_51 : decode cX12_comes 51 = .ok (.ldc2_w 111, 3) := by decide +kernel
theorem dX12_comes_54 : decode cX12_comes 54 = .ok (.ldc2_w 113, 3) := by decide +kernel
theorem dX12_comes_57 : decode cX12_comes 57 = .ok (.invokestatic 56, 3) := by decide +kernel
theorem dX12_comes_60 : decode cX12_comes 60 = .ok (.ifCond .eq 22, 3) := by decide +kernel
theorem dX12_comes_63 : decode cX12_comes 63 = .ok (.aload_n 0, 1) := by decide +kernel
theorem dX12_comes_64 : decode cX12_comes 64 = .ok (.getfield 37, 3) := by decide +kernel
theorem dX12_comes_67 : decode cX12_comes 67 = .ok (.iconst 2, 1) := by decide +kernel
theorem dX12_comes_68 : decode cX12_comes 68 = .ok (.iaload, 1) := by decide +kernel
theorem dX12_comes_69 : decode cX12_comes 69 = .ok (.i2l, 1) := by decide +kernel
theorem dX12_comes_70 : decode cX12_comes 70 = .ok (.ldc2_w 111, 3) := by decide +kernel
theorem dX12_comes_73 : decode cX12_comes 73 = .ok (.ldc2_w 113, 3) := by decide +kernel
theorem dX12_comes_76 : decode cX12_comes 76 = .ok (.invokestatic 56, 3) := by decide +kernel
theorem dX12_comes_79 : decode cX12_comes 79 = .ok (.ifCond .ne 5, 3) := by decide +kernel
theorem dX12_comes_82 : decode cX12_comes 82 = .ok (.iconst 0, 1) := by decide +kernel
theorem dX12_comes_83 : decode cX12_comes 83 = .ok (.ireturn, 1) := by decide +kernel
theorem dX12_comes_84 : decode cX12_comes 84 = .ok (.aload_n 0, 1) := by decide +kernel
theorem dX12_comes_85 : decode cX12_comes 85 = .ok (.getfield 16, 3) := by decide +kernel
theorem dX12_comes_88 : decode cX12_comes 88 = .ok (.iconst 5, 1) := by decide +kernel
theorem dX12_comes_89 : decode cX12_comes 89 = .ok (.iconst 2, 1) := by decide +kernel
theorem dX12_comes_90 : decode cX12_comes 90 = .ok (.aload_n 0, 1) := by decide +kernel
theorem dX12_comes_91 : decode cX12_comes 91 = .ok (.getfield 37, 3) := by decide +kernel
theorem dX12_comes_94 : decode cX12_comes 94 = .ok (.iconst 0, 1) := by decide +kernel
theorem dX12_comes_95 : decode cX12_comes 95 = .ok (.iaload, 1) := by decide +kernel
theorem dX12_comes_96 : decode cX12_comes 96 = .ok (.imul, 1) := by decide +kernel
theorem dX12_comes_97 : decode cX12_comes 97 = .ok (.iadd, 1) := by decide +kernel
theorem dX12_comes_98 : decode cX12_comes 98 = .ok (.aload_n 0, 1) := by decide +kernel
theorem dX12_comes_99 : decode cX12_comes 99 = .ok (.getfield 37, 3) := by decide +kernel
theorem dX12_comes_102 : decode cX12_comes 102 = .ok (.iconst 1, 1) := by decide +kernel
theorem dX12_comes_103 : decode cX12_comes 103 = .ok (.iaload, 1) := by decide +kernel
theorem dX12_comes_104 : decode cX12_comes 104 = .ok (.iastore, 1) := by decide +kernel
theorem dX12_comes_105 : decode cX12_comes 105 = .ok (.aload_n 0, 1) := by decide +kernel
theorem dX12_comes_106 : decode cX12_comes 106 = .ok (.getfield 16, 3) := by decide +kernel
theorem dX12_comes_109 : decode cX12_comes 109 = .ok (.iconst 5, 1) := by decide +kernel
theorem dX12_comes_110 : decode cX12_comes 110 = .ok (.iconst 2, 1) := by decide +kernel
theorem dX12_comes_111 : decode cX12_comes 111 = .ok (.aload_n 0, 1) := by decide +kernel
theorem dX12_comes_112 : decode cX12_comes 112 = .ok (.getfield 37, 3) := by decide +kernel
theorem dX12_comes_115 : decode cX12_comes 115 = .ok (.iconst 0, 1) := by decide +kernel
theorem dX12_comes_116 : decode cX12_comes 116 = .ok (.iaload, 1) := by decide +kernel
theorem dX12_comes_117 : decode cX12_comes 117 = .ok (.imul, 1) := by decide +kernel
theorem dX12_comes_118 : decode cX12_comes 118 = .ok (.iadd, 1) := by decide +kernel
theorem dX12_comes_119 : decode cX12_comes 119 = .ok (.iconst 1, 1) := by decide +kernel
theorem dX12_comes_120 : decode cX12_comes 120 = .ok (.iadd, 1) := by decide +kernel
theorem dX12_comes_121 : decode cX12_comes 121 = .ok (.aload_n 0, 1) := by decide +kernel
theorem dX12_comes_122 : decode cX12_comes 122 = .ok (.getfield 37, 3) := by decide +kernel
theorem dX12_comes_125 : decode cX12_comes 125 = .ok (.iconst 2, 1) := by decide +kernel
theorem dX12_comes_126 : decode cX12_comes 126 = .ok (.iaload, 1) := by decide +kernel
theorem dX12_comes_127 : decode cX12_comes 127 = .ok (.iastore, 1) := by decide +kernel
theorem dX12_comes_128 : decode cX12_comes 128 = .ok (.iconst 1, 1) := by decide +kernel
theorem dX12_comes_129 : decode cX12_comes 129 = .ok (.ireturn, 1) := by decide +kernel
theorem dX12_comes_130 : decode cX12_comes 130 = .ok (.aload_n 0, 1) := by decide +kernel
theorem dX12_comes_131 : decode cX12_comes 131 = .ok (.getfield 16, 3) := by decide +kernel
theorem dX12_comes_134 : decode cX12_comes 134 = .ok (.iconst 0, 1) := by decide +kernel
theorem dX12_comes_135 : decode cX12_comes 135 = .ok (.aload_n 0, 1) := by decide +kernel
theorem dX12_comes_136 : decode cX12_comes 136 = .ok (.getfield 37, 3) := by decide +kernel
theorem dX12_comes_139 : decode cX12_comes 139 = .ok (.iconst 0, 1) := by decide +kernel
theorem dX12_comes_140 : decode cX12_comes 140 = .ok (.iaload, 1) := by decide +kernel
theorem dX12_comes_141 : decode cX12_comes 141 = .ok (.iastore, 1) := by decide +kernel
theorem dX12_comes_142 : decode cX12_comes 142 = .ok (.iconst 0, 1) := by decide +kernel
theorem dX12_comes_143 : decode cX12_comes 143 = .ok (.aload_n 0, 1) := by decide +kernel
theorem dX12_comes_144 : decode cX12_comes 144 = .ok (.getfield 37, 3) := by decide +kernel
theorem dX12_comes_147 : decode cX12_comes 147 = .ok (.iconst 0, 1) := by decide +kernel
theorem dX12_comes_148 : decode cX12_comes 148 = .ok (.iaload, 1) := by decide +kernel
theorem dX12_comes_149 : decode cX12_comes 149 = .ok (.invokestatic 115, 3) := by decide +kernel
theorem dX12_comes_152 : decode cX12_comes 152 = .ok (.ireturn, 1) := by decide +kernel
theorem dX12_comes_153 : decode cX12_comes 153 = .ok (.aload_n 0, 1) := by decide +kernel
theorem dX12_comes_154 : decode cX12_comes 154 = .ok (.getfield 16, 3) := by decide +kernel
theorem dX12_comes_157 : decode cX12_comes 157 = .ok (.iconst 1, 1) := by decide +kernel
theorem dX12_comes_158 : decode cX12_comes 158 = .ok (.aload_n 0, 1) := by decide +kernel
theorem dX12_comes_159 : decode cX12_comes 159 = .ok (.getfield 37, 3) := by decide +kernel
theorem dX12_comes_162 : decode cX12_comes 162 = .ok (.iconst 0, 1) := by decide +kernel
theorem dX12_comes_163 : decode cX12_comes 163 = .ok (.iaload, 1) := by decide +kernel
theorem dX12_comes_164 : decode cX12_comes 164 = .ok (.iastore, 1) := by decide +kernel
theorem dX12_comes_165 : decode cX12_comes 165 = .ok (.aload_n 0, 1) := by decide +kernel
theorem dX12_comes_166 : decode cX12_comes 166 = .ok (.getfield 16, 3) := by decide +kernel
theorem dX12_comes_169 : decode cX12_comes 169 = .ok (.iconst 2, 1) := by decide +kernel
theorem dX12_comes_170 : decode cX12_comes 170 = .ok (.aload_n 0, 1) := by decide +kernel
theorem dX12_comes_171 : decode cX12_comes 171 = .ok (.getfield 37, 3) := by decide +kernel
theorem dX12_comes_174 : decode cX12_comes 174 = .ok (.iconst 1, 1) := by decide +kernel
theorem dX12_comes_175 : decode cX12_comes 175 = .ok (.iaload, 1) := by decide +kernel
theorem dX12_comes_176 : decode cX12_comes 176 = .ok (.iastore, 1) := by decide +kernel
theorem dX12_comes_177 : decode cX12_comes 177 = .ok (.iconst 1, 1) := by decide +kernel
theorem dX12_comes_178 : decode cX12_comes 178 = .ok (.aload_n 0, 1) := by decide +kernel
theorem dX12_comes_179 : decode cX12_comes 179 = .ok (.getfield 37, 3) := by decide +kernel
theorem dX12_comes_182 : decode cX12_comes 182 = .ok (.iconst 0, 1) := by decide +kernel
theorem dX12_comes_183 : decode cX12_comes 183 = .ok (.iaload, 1) := by decide +kernel
theorem dX12_comes_184 : decode cX12_comes 184 = .ok (.invokestatic 115, 3) := by decide +kernel
theorem dX12_comes_187 : decode cX12_comes 187 = .ok (.ifCond .eq 20, 3) := by decide +kernel
theorem dX12_comes_190 : decode cX12_comes 190 = .ok (.iconst 2, 1) := by decide +kernel
theorem dX12_comes_191 : decode cX12_comes 191 = .ok (.aload_n 0, 1) := by decide +kernel
theorem dX12_comes_192 : decode cX12_comes 192 = .ok (.getfield 37, 3) := by decide +kernel
theorem dX12_comes_195 : decode cX12_comes 195 = .ok (.iconst 1, 1) := by decide +kernel
theorem dX12_comes_196 : decode cX12_comes 196 = .ok (.iaload, 1) := by decide +kernel
theorem dX12_comes_197 : decode cX12_comes 197 = .ok (.invokestatic 115, 3) := by decide +kernel
theorem dX12_comes_200 : decode cX12_comes 200 = .ok (.ifCond .eq 7, 3) := by decide +kernel
theorem dX12_comes_203 : decode cX12_comes 203 = .ok (.iconst 1, 1) := by decide +kernel
theorem dX12_comes_204 : decode cX12_comes 204 = .ok (.goto 4, 3) := by decide +kernel
theorem dX12_comes_207 : decode cX12_comes 207 = .ok (.iconst 0, 1) := by decide +kernel
theorem dX12_comes_208 : decode cX12_comes 208 = .ok (.ireturn, 1) := by decide +kernel
theorem dX12_comes_209 : decode cX12_comes 209 = .ok (.aload_n 0, 1) := by decide +kernel
theorem dX12_comes_210 : decode cX12_comes 210 = .ok (.getfield 37, 3) := by decide +kernel
theorem dX12_comes_213 : decode cX12_comes 213 = .ok (.iconst 0, 1) := by decide +kernel
theorem dX12_comes_214 : decode cX12_comes 214 = .ok (.iaload, 1) := by decide +kernel
theorem dX12_comes_215 : decode cX12_comes 215 = .ok (.bipush 7, 2) := by decide +kernel
theorem dX12_comes_217 : decode cX12_comes 217 = .ok (.if_icmp .gt 25, 3) := by decide +kernel
theorem dX12_comes_220 : decode cX12_comes 220 = .ok (.aload_n 0, 1) := by decide +kernel
theorem dX12_comes_221 : decode cX12_comes 221 = .ok (.getfield 37, 3) := by decide +kernel
theorem dX12_comes_224 : decode cX12_comes 224 = .ok (.iconst 2, 1) := by decide +kernel
theorem dX12_comes_225 : decode cX12_comes 225 = .ok (.iaload, 1) := by decide +kernel
theorem dX12_comes_226 : decode cX12_comes 226 = .ok (.bipush 20, 2) := by decide +kernel
theorem dX12_comes_228 : decode cX12_comes 228 = .ok (.if_icmp .gt 14, 3) := by decide +kernel
theorem dX12_comes_231 : decode cX12_comes 231 = .ok (.aload_n 0, 1) := by decide +kernel
theorem dX12_comes_232 : decode cX12_comes 232 = .ok (.getfield 16, 3) := by decide +kernel
theorem dX12_comes_235 : decode cX12_comes 235 = .ok (.iconst 3, 1) := by decide +kernel
theorem dX12_comes_236 : decode cX12_comes 236 = .ok (.iaload, 1) := by decide +kernel
theorem dX12_comes_237 : decode cX12_comes 237 = .ok (.bipush 8, 2) := by decide +kernel
theorem dX12_comes_239 : decode cX12_comes 239 = .ok (.if_icmp .ne 5, 3) := by decide +kernel
theorem dX12_comes_242 : decode cX12_comes 242 = .ok (.iconst 0, 1) := by decide +kernel
theorem dX12_comes_243 : decode cX12_comes 243 = .ok (.ireturn, 1) := by decide +kernel
theorem dX12_comes_244 : decode cX12_comes 244 = .ok (.iconst 0, 1) := by decide +kernel
theorem dX12_comes_245 : decode cX12_comes 245 = .ok (.istore_n 2, 1) := by decide +kernel
theorem dX12_comes_246 : decode cX12_comes 246 = .ok (.iload_n 2, 1) := by decide +kernel
theorem dX12_comes_247 : decode cX12_comes 247 = .ok (.iconst 3, 1) := by decide +kernel
theorem dX12_comes_248 : decode cX12_comes 248 = .ok (.if_icmp .ge 33, 3) := by decide +kernel
theorem dX12_comes_251 : decode cX12_comes 251 = .ok (.aload_n 0, 1) := by decide +kernel
theorem dX12_comes_252 : decode cX12_comes 252 = .ok (.getfield 16, 3) := by decide +kernel
theorem dX12_comes_255 : decode cX12_comes 255 = .ok (.bipush 25, 2) := by decide +kernel
theorem dX12_comes_257 : decode cX12_comes 257 = .ok (.iconst 3, 1) := by decide +kernel
theorem dX12_comes_258 : decode cX12_comes 258 = .ok (.aload_n 0, 1) := by decide +kernel
theorem dX12_comes_259 : decode cX12_comes 259 = .ok (.getfield 16, 3) := by decide +kernel
theorem dX12_comes_262 : decode cX12_comes 262 = .ok (.iconst 3, 1) := by decide +kernel
theorem dX12_comes_263 : decode cX12_comes 263 = .ok (.iaload, 1) := by decide +kernel
theorem dX12_comes_264 : decode cX12_comes 264 = .ok (.imul, 1) := by decide +kernel
theorem dX12_comes_265 : decode cX12_comes 265 = .ok (.iadd, 1) := by decide +kernel
theorem dX12_comes_266 : decode cX12_comes 266 = .ok (.iload_n 2, 1) := by decide +kernel
theorem dX12_comes_267 : decode cX12_comes 267 = .ok (.iadd, 1) := by decide +kernel
theorem dX12_comes_268 : decode cX12_comes 268 = .ok (.aload_n 0, 1) := by decide +kernel
theorem dX12_comes_269 : decode cX12_comes 269 = .ok (.getfield 37, 3) := by decide +kernel
theorem dX12_comes_272 : decode cX12_comes 272 = .ok (.iload_n 2, 1) := by decide +kernel
theorem dX12_comes_273 : decode cX12_comes 273 = .ok (.iaload, 1) := by decide +kernel
theorem dX12_comes_274 : decode cX12_comes 274 = .ok (.iastore, 1) := by decide +kernel
theorem dX12_comes_275 : decode cX12_comes 275 = .ok (.iinc 2 1, 3) := by decide +kernel
theorem dX12_comes_278 : decode cX12_comes 278 = .ok (.goto (-32), 3) := by decide +kernel
theorem dX12_comes_281 : decode cX12_comes 281 = .ok (.aload_n 0, 1) := by decide +kernel
theorem dX12_comes_282 : decode cX12_comes 282 = .ok (.getfield 16, 3) := by decide +kernel
theorem dX12_comes_285 : decode cX12_comes 285 = .ok (.iconst 3, 1) := by decide +kernel
theorem dX12_comes_286 : decode cX12_comes 286 = .ok (.dup2, 1) := by decide +kernel
theorem dX12_comes_287 : decode cX12_comes 287 = .ok (.iaload, 1) := by decide +kernel
theorem dX12_comes_288 : decode cX12_comes 288 = .ok (.iconst 1, 1) := by decide +kernel
theorem dX12_comes_289 : decode cX12_comes 289 = .ok (.iadd, 1) := by decide +kernel
theorem dX12_comes_290 : decode cX12_comes 290 = .ok (.iastore, 1) := by decide +kernel
theorem dX12_comes_291 : decode cX12_comes 291 = .ok (.iconst 1, 1) := by decide +kernel
theorem dX12_comes_292 : decode cX12_comes 292 = .ok (.ireturn, 1) := by decide +kernel
theorem dX12_comes_293 : decode cX12_comes 293 = .ok (.aload_n 0, 1) := by decide +kernel
theorem dX12_comes_294 : decode cX12_comes 294 = .ok (.getfield 16, 3) := by decide +kernel
theorem dX12_comes_297 : decode cX12_comes 297 = .ok (.iconst 4, 1) := by decide +kernel
theorem dX12_comes_298 : decode cX12_comes 298 = .ok (.iaload, 1) := by decide +kernel
theorem dX12_comes_299 : decode cX12_comes 299 = .ok (.bipush 6, 2) := by decide +kernel
theorem dX12_comes_301 : decode cX12_comes 301 = .ok (.if_icmp .ge 7, 3) := by decide +kernel
theorem dX12_comes_304 : decode cX12_comes 304 = .ok (.iconst 1, 1) := by decide +kernel
theorem dX12_comes_305 : decode cX12_comes 305 = .ok (.goto 4, 3) := by decide +kernel
theorem dX12_comes_308 : decode cX12_comes 308 = .ok (.iconst 0, 1) := by decide +kernel
theorem dX12_comes_309 : decode cX12_comes 309 = .ok (.istore_n 2, 1) := by decide +kernel
theorem dX12_comes_310 : decode cX12_comes 310 = .ok (.iconst 0, 1) := by decide +kernel
theorem dX12_comes_311 : decode cX12_comes 311 = .ok (.istore_n 3, 1) := by decide +kernel
theorem dX12_comes_312 : decode cX12_comes 312 = .ok (.iload_n 3, 1) := by decide +kernel
theorem dX12_comes_313 : decode cX12_comes 313 = .ok (.iconst 4, 1) := by decide +kernel
theorem dX12_comes_314 : decode cX12_comes 314 = .ok (.if_icmp .ge 38, 3) := by decide +kernel
theorem dX12_comes_317 : decode cX12_comes 317 = .ok (.iload_n 2, 1) := by decide +kernel
theorem dX12_comes_318 : decode cX12_comes 318 = .ok (.ifCond .eq 26, 3) := by decide +kernel
theorem dX12_comes_321 : decode cX12_comes 321 = .ok (.aload_n 0, 1) := by decide +kernel
theorem dX12_comes_322 : decode cX12_comes 322 = .ok (.getfield 37, 3) := by decide +kernel
theorem dX12_comes_325 : decode cX12_comes 325 = .ok (.iload_n 3, 1) := by decide +kernel
theorem dX12_comes_326 : decode cX12_comes 326 = .ok (.iaload, 1) := by decide +kernel
theorem dX12_comes_327 : decode cX12_comes 327 = .ok (.i2l, 1) := by decide +kernel
theorem dX12_comes_328 : decode cX12_comes 328 = .ok (.ldc2_w 119, 3) := by decide +kernel
theorem dX12_comes_331 : decode cX12_comes 331 = .ok (.ldc2_w 109, 3) := by decide +kernel
theorem dX12_comes_334 : decode cX12_comes 334 = .ok (.invokestatic 56, 3) := by decide +kernel
theorem dX12_comes_337 : decode cX12_comes 337 = .ok (.ifCond .eq 7, 3) := by decide +kernel
theorem dX12_comes_340 : decode cX12_comes 340 = .ok (.iconst 1, 1) := by decide +kernel
theorem dX12_comes_341 : decode cX12_comes 341 = .ok (.goto 4, 3) := by decide +kernel
theorem dX12_comes_344 : decode cX12_comes 344 = .ok (.iconst 0, 1) := by decide +kernel
theorem dX12_comes_345 : decode cX12_comes 345 = .ok (.istore_n 2, 1) := by decide +kernel
theorem dX12_comes_346 : decode cX12_comes 346 = .ok (.iinc 3 1, 3) := by decide +kernel
theorem dX12_comes_349 : decode cX12_comes 349 = .ok (.goto (-37), 3) := by decide +kernel
theorem dX12_comes_352 : decode cX12_comes 352 = .ok (.iload_n 2, 1) := by decide +kernel
theorem dX12_comes_353 : decode cX12_comes 353 = .ok (.ifCond .ne 5, 3) := by decide +kernel
theorem dX12_comes_356 : decode cX12_comes 356 = .ok (.iconst 0, 1) := by decide +kernel
theorem dX12_comes_357 : decode cX12_comes 357 = .ok (.ireturn, 1) := by decide +kernel
theorem dX12_comes_358 : decode cX12_comes 358 = .ok (.bipush 49, 2) := by decide +kernel
theorem dX12_comes_360 : decode cX12_comes 360 = .ok (.iconst 4, 1) := by decide +kernel
theorem dX12_comes_361 : decode cX12_comes 361 = .ok (.aload_n 0, 1) := by decide +kernel
theorem dX12_comes_362 : decode cX12_comes 362 = .ok (.getfield 16, 3) := by decide +kernel
theorem dX12_comes_365 : decode cX12_comes 365 = .ok (.iconst 4, 1) := by decide +kernel
theorem dX12_comes_366 : decode cX12_comes 366 = .ok (.iaload, 1) := by decide +kernel
theorem dX12_comes_367 : decode cX12_comes 367 = .ok (.imul, 1) := by decide +kernel
theorem dX12_comes_368 : decode cX12_comes 368 = .ok (.iadd, 1) := by decide +kernel
theorem dX12_comes_369 : decode cX12_comes 369 = .ok (.istore_n 3, 1) := by decide +kernel
theorem dX12_comes_370 : decode cX12_comes 370 = .ok (.iconst 0, 1) := by decide +kernel
theorem dX12_comes_371 : decode cX12_comes 371 = .ok (.istore 4, 2) := by decide +kernel
theorem dX12_comes_373 : decode cX12_comes 373 = .ok (.iload 4, 2) := by decide +kernel
theorem dX12_comes_375 : decode cX12_comes 375 = .ok (.iconst 2, 1) := by decide +kernel
theorem dX12_comes_376 : decode cX12_comes 376 = .ok (.if_icmp .ge 75, 3) := by decide +kernel
theorem dX12_comes_379 : decode cX12_comes 379 = .ok (.bipush 10, 2) := by decide +kernel
theorem dX12_comes_381 : decode cX12_comes 381 = .ok (.aload_n 0, 1) := by decide +kernel
theorem dX12_comes_382 : decode cX12_comes 382 = .ok (.getfield 37, 3) := by decide +kernel
theorem dX12_comes_385 : decode cX12_comes 385 = .ok (.iload 4, 2) := by decide +kernel
theorem dX12_comes_387 : decode cX12_comes 387 = .ok (.iaload, 1) := by decide +kernel
theorem dX12_comes_388 : decode cX12_comes 388 = .ok (.imul, 1) := by decide +kernel
theorem dX12_comes_389 : decode cX12_comes 389 = .ok (.istore 5, 2) := by decide +kernel
theorem dX12_comes_391 : decode cX12_comes 391 = .ok (.bipush 10, 2) := by decide +kernel
theorem dX12_comes_393 : decode cX12_comes 393 = .ok (.aload_n 0, 1) := by decide +kernel
theorem dX12_comes_394 : decode cX12_comes 394 = .ok (.getfield 37, 3) := by decide +kernel
theorem dX12_comes_397 : decode cX12_comes 397 = .ok (.iload 4, 2) := by decide +kernel
theorem dX12_comes_399 : decode cX12_comes 399 = .ok (.iconst 2, 1) := by decide +kernel
theorem dX12_comes_400 : decode cX12_comes 400 = .ok (.iadd, 1) := by decide +kernel
theorem dX12_comes_401 : decode cX12_comes 401 = .ok (.iaload, 1) := by decide +kernel
theorem dX12_comes_402 : decode cX12_comes 402 = .ok (.imul, 1) := by decide +kernel
theorem dX12_comes_403 : decode cX12_comes 403 = .ok (.istore 6, 2) := by decide +kernel
theorem dX12_comes_405 : decode cX12_comes 405 = .ok (.aload_n 0, 1) := by decide +kernel
theorem dX12_comes_406 : decode cX12_comes 406 = .ok (.getfield 16, 3) := by decide +kernel
theorem dX12_comes_409 : decode cX12_comes 409 = .ok (.iload_n 3, 1) := by decide +kernel
theorem dX12_comes_410 : decode cX12_comes 410 = .ok (.iload 4, 2) := by decide +kernel
theorem dX12_comes_412 : decode cX12_comes 412 = .ok (.iadd, 1) := by decide +kernel
theorem dX12_comes_413 : decode cX12_comes 413 = .ok (.iload 5, 2) := by decide +kernel
theorem dX12_comes_415 : decode cX12_comes 415 = .ok (.iload 6, 2) := by decide +kernel
theorem dX12_comes_417 : decode cX12_comes 417 = .ok (.invokestatic 121, 3) := by decide +kernel
theorem dX12_comes_420 : decode cX12_comes 420 = .ok (.iastore, 1) := by decide +kernel
theorem dX12_comes_421 : decode cX12_comes 421 = .ok (.aload_n 0, 1) := by decide +kernel
theorem dX12_comes_422 : decode cX12_comes 422 = .ok (.getfield 16, 3) := by decide +kernel
theorem dX12_comes_425 : decode cX12_comes 425 = .ok (.iload_n 3, 1) := by decide +kernel
theorem dX12_comes_426 : decode cX12_comes 426 = .ok (.iconst 2, 1) := by decide +kernel
theorem dX12_comes_427 : decode cX12_comes 427 = .ok (.iadd, 1) := by decide +kernel
theorem dX12_comes_428 : decode cX12_comes 428 = .ok (.iload 4, 2) := by decide +kernel
theorem dX12_comes_430 : decode cX12_comes 430 = .ok (.iadd, 1) := by decide +kernel
theorem dX12_comes_431 : decode cX12_comes 431 = .ok (.iload 5, 2) := by decide +kernel
theorem dX12_comes_433 : decode cX12_comes 433 = .ok (.iload 6, 2) := by decide +kernel
theorem dX12_comes_435 : decode cX12_comes 435 = .ok (.iadd, 1) := by decide +kernel
theorem dX12_comes_436 : decode cX12_comes 436 = .ok (.iload 5, 2) := by decide +kernel
theorem dX12_comes_438 : decode cX12_comes 438 = .ok (.iload 6, 2) := by decide +kernel
theorem dX12_comes_440 : decode cX12_comes 440 = .ok (.invokestatic 121, 3) := by decide +kernel
theorem dX12_comes_443 : decode cX12_comes 443 = .ok (.isub, 1) := by decide +kernel
theorem dX12_comes_444 : decode cX12_comes 444 = .ok (.iastore, 1) := by decide +kernel
theorem dX12_comes_445 : decode cX12_comes 445 = .ok (.iinc 4 1, 3) := by decide +kernel
theorem dX12_comes_448 : decode cX12_comes 448 = .ok (.goto (-75), 3) := by decide +kernel
theorem dX12_comes_451 : decode cX12_comes 451 = .ok (.aload_n 0, 1) := by decide +kernel
theorem dX12_comes_452 : decode cX12_comes 452 = .ok (.getfield 16, 3) := by decide +kernel
theorem dX12_comes_455 : decode cX12_comes 455 = .ok (.iconst 4, 1) := by decide +kernel
theorem dX12_comes_456 : decode cX12_comes 456 = .ok (.dup2, 1) := by decide +kernel
theorem dX12_comes_457 : decode cX12_comes 457 = .ok (.iaload, 1) := by decide +kernel
theorem dX12_comes_458 : decode cX12_comes 458 = .ok (.iconst 1, 1) := by decide +kernel
theorem dX12_comes_459 : decode cX12_comes 459 = .ok (.iadd, 1) := by decide +kernel
theorem dX12_comes_460 : decode cX12_comes 460 = .ok (.iastore, 1) := by decide +kernel
theorem dX12_comes_461 : decode cX12_comes 461 = .ok (.iconst 1, 1) := by decide +kernel
theorem dX12_comes_462 : decode cX12_comes 462 = .ok (.ireturn, 1) := by decide +kernel
theorem dX12_wrongRow_0 : decode cX12_wrongRow 0 = .ok (.iload_n 1, 1) := by decide +kernel
theorem dX12_wrongRow_1 : decode cX12_wrongRow 1 = .ok (.invokestatic 125, 3) := by decide +kernel
theorem dX12_wrongRow_4 : decode cX12_wrongRow 4 = .ok (.ifCond .ne 7, 3) := by decide +kernel
theorem dX12_wrongRow_7 : decode cX12_wrongRow 7 = .ok (.iconst (-1), 1) := by decide +kernel
theorem dX12_wrongRow_8 : decode cX12_wrongRow 8 = .ok (.goto 47, 3) := by decide +kernel
theorem dX12_wrongRow_11 : decode cX12_wrongRow 11 = .ok (.aload_n 0, 1) := by decide +kernel
theorem dX12_wrongRow_12 : decode cX12_wrongRow 12 = .ok (.getfield 19, 3) := by decide +kernel
theorem dX12_wrongRow_15 : decode cX12_wrongRow 15 = .ok (.iload_n 1, 1) := by decide +kernel
theorem dX12_wrongRow_16 : decode cX12_wrongRow 16 = .ok (.iaload, 1) := by decide +kernel
theorem dX12_wrongRow_17 : decode cX12_wrongRow 17 = .ok (.ifCond .ne 8, 3) := by decide +kernel
theorem dX12_wrongRow_20 : decode cX12_wrongRow 20 = .ok (.bipush (-11), 2) := by decide +kernel
theorem dX12_wrongRow_22 : decode cX12_wrongRow 22 = .ok (.goto 33, 3) := by decide +kernel
theorem dX12_wrongRow_25 : decode cX12_wrongRow 25 = .ok (.aload_n 0, 1) := by decide +kernel
theorem dX12_wrongRow_26 : decode cX12_wrongRow 26 = .ok (.getfield 19, 3) := by decide +kernel
theorem dX12_wrongRow_29 : decode cX12_wrongRow 29 = .ok (.iload_n 1, 1) := by decide +kernel
theorem dX12_wrongRow_30 : decode cX12_wrongRow 30 = .ok (.iaload, 1) := by decide +kernel
theorem dX12_wrongRow_31 : decode cX12_wrongRow 31 = .ok (.iconst 2, 1) := by decide +kernel
theorem dX12_wrongRow_32 : decode cX12_wrongRow 32 = .ok (.if_icmp .ne 17, 3) := by decide +kernel
theorem dX12_wrongRow_35 : decode cX12_wrongRow 35 = .ok (.iload_n 2, 1) := by decide +kernel
theorem dX12_wrongRow_36 : decode cX12_wrongRow 36 = .ok (.ifCond .lt 18, 3) := by decide +kernel
theorem dX12_wrongRow_39 : decode cX12_wrongRow 39 = .ok (.aload_n 0, 1) := by decide +kernel
theorem dX12_wrongRow_40 : decode cX12_wrongRow 40 = .ok (.getfield 22, 3) := by decide +kernel
theorem dX12_wrongRow_43 : decode cX12_wrongRow 43 = .ok (.iload_n 1, 1) := by decide +kernel
theorem dX12_wrongRow_44 : decode cX12_wrongRow 44 = .ok (.iaload, 1) := by decide +kernel
theorem dX12_wrongRow_45 : decode cX12_wrongRow 45 = .ok (.iload_n 2, 1) := by decide +kernel
theorem dX12_wrongRow_46 : decode cX12_wrongRow 46 = .ok (.if_icmp .eq 8, 3) := by decide +kernel
theorem dX12_wrongRow_49 : decode cX12_wrongRow 49 = .ok (.bipush (-12), 2) := by decide +kernel
theorem dX12_wrongRow_51 : decode cX12_wrongRow 51 = .ok (.goto 4, 3) := by decide +kernel
theorem dX12_wrongRow_54 : decode cX12_wrongRow 54 = .ok (.iconst 0, 1) := by decide +kernel
theorem dX12_wrongRow_55 : decode cX12_wrongRow 55 = .ok (.ireturn, 1) := by decide +kernel
theorem dX12_air_0 : decode cX12_air 0 = .ok (.aload_n 0, 1) := by decide +kernel
theorem dX12_air_1 : decode cX12_air 1 = .ok (.iload_n 1, 1) := by decide +kernel
theorem dX12_air_2 : decode cX12_air 2 = .ok (.iconst 0, 1) := by decide +kernel
theorem dX12_air_3 : decode cX12_air 3 = .ok (.invokevirtual 128, 3) := by decide +kernel
theorem dX12_air_6 : decode cX12_air 6 = .ok (.istore_n 2, 1) := by decide +kernel
theorem dX12_air_7 : decode cX12_air 7 = .ok (.iload_n 2, 1) := by decide +kernel
theorem dX12_air_8 : decode cX12_air 8 = .ok (.ifCond .eq 5, 3) := by decide +kernel
theorem dX12_air_11 : decode cX12_air 11 = .ok (.iload_n 2, 1) := by decide +kernel
theorem dX12_air_12 : decode cX12_air 12 = .ok (.ireturn, 1) := by decide +kernel
theorem dX12_air_13 : decode cX12_air 13 = .ok (.aload_n 0, 1) := by decide +kernel
theorem dX12_air_14 : decode cX12_air 14 = .ok (.bipush 100, 2) := by decide +kernel
theorem dX12_air_16 : decode cX12_air 16 = .ok (.iload_n 1, 1) := by decide +kernel
theorem dX12_air_17 : decode cX12_air 17 = .ok (.imul, 1) := by decide +kernel
theorem dX12_air_18 : decode cX12_air 18 = .ok (.putfield 72, 3) := by decide +kernel
theorem dX12_air_21 : decode cX12_air 21 = .ok (.aload_n 0, 1) := by decide +kernel
theorem dX12_air_22 : decode cX12_air 22 = .ok (.aload_n 0, 1) := by decide +kernel
theorem dX12_air_23 : decode cX12_air 23 = .ok (.getfield 25, 3) := by decide +kernel
theorem dX12_air_26 : decode cX12_air 26 = .ok (.iload_n 1, 1) := by decide +kernel
theorem dX12_air_27 : decode cX12_air 27 = .ok (.iaload, 1) := by decide +kernel
theorem dX12_air_28 : decode cX12_air 28 = .ok (.putfield 69, 3) := by decide +kernel
theorem dX12_air_31 : decode cX12_air 31 = .ok (.aload_n 0, 1) := by decide +kernel
theorem dX12_air_32 : decode cX12_air 32 = .ok (.iconst 0, 1) := by decide +kernel
theorem dX12_air_33 : decode cX12_air 33 = .ok (.putfield 66, 3) := by decide +kernel
theorem dX12_air_36 : decode cX12_air 36 = .ok (.iconst 0, 1) := by decide +kernel
theorem dX12_air_37 : decode cX12_air 37 = .ok (.istore_n 3, 1) := by decide +kernel
theorem dX12_air_38 : decode cX12_air 38 = .ok (.aload_n 0, 1) := by decide +kernel
theorem dX12_air_39 : decode cX12_air 39 = .ok (.invokevirtual 131, 3) := by decide +kernel
theorem dX12_air_42 : decode cX12_air 42 = .ok (.ifCond .ne 12, 3) := by decide +kernel
theorem dX12_air_45 : decode cX12_air 45 = .ok (.sipush (-1000), 3) := by decide +kernel
theorem dX12_air_48 : decode cX12_air 48 = .ok (.aload_n 0, 1) := by decide +kernel
theorem dX12_air_49 : decode cX12_air 49 = .ok (.getfield 66, 3) := by decide +kernel
theorem dX12_air_52 : decode cX12_air 52 = .ok (.isub, 1) := by decide +kernel
theorem dX12_air_53 : decode cX12_air 53 = .ok (.ireturn, 1) := by decide +kernel
theorem dX12_air_54 : decode cX12_air 54 = .ok (.iinc 3 1, 3) := by decide +kernel
theorem dX12_air_57 : decode cX12_air 57 = .ok (.aload_n 0, 1) := by decide +kernel
theorem dX12_air_58 : decode cX12_air 58 = .ok (.getfield 66, 3) := by decide +kernel
theorem dX12_air_61 : decode cX12_air 61 = .ok (.aload_n 0, 1) := by decide +kernel
theorem dX12_air_62 : decode cX12_air 62 = .ok (.getfield 69, 3) := by decide +kernel
theorem dX12_air_65 : decode cX12_air 65 = .ok (.if_icmp .lt (-27), 3) := by decide +kernel
theorem dX12_air_68 : decode cX12_air 68 = .ok (.iconst 0, 1) := by decide +kernel
theorem dX12_air_69 : decode cX12_air 69 = .ok (.istore 4, 2) := by decide +kernel
theorem dX12_air_71 : decode cX12_air 71 = .ok (.iload 4, 2) := by decide +kernel
theorem dX12_air_73 : decode cX12_air 73 = .ok (.bipush 73, 2) := by decide +kernel
theorem dX12_air_75 : decode cX12_air 75 = .ok (.if_icmp .ge 23, 3) := by decide +kernel
theorem dX12_air_78 : decode cX12_air 78 = .ok (.aload_n 0, 1) := by decide +kernel
theorem dX12_air_79 : decode cX12_air 79 = .ok (.getfield 16, 3) := by decide +kernel
theorem dX12_air_82 : decode cX12_air 82 = .ok (.iload 4, 2) := by decide +kernel
theorem dX12_air_84 : decode cX12_air 84 = .ok (.aload_n 0, 1) := by decide +kernel
theorem dX12_air_85 : decode cX12_air 85 = .ok (.getfield 9, 3) := by decide +kernel
theorem dX12_air_88 : decode cX12_air 88 = .ok (.iload 4, 2) := by decide +kernel
theorem dX12_air_90 : decode cX12_air 90 = .ok (.iaload, 1) := by decide +kernel
theorem dX12_air_91 : decode cX12_air 91 = .ok (.iastore, 1) := by decide +kernel
theorem dX12_air_92 : decode cX12_air 92 = .ok (.iinc 4 1, 3) := by decide +kernel
theorem dX12_air_95 : decode cX12_air 95 = .ok (.goto (-24), 3) := by decide +kernel
theorem dX12_air_98 : decode cX12_air 98 = .ok (.aload_n 0, 1) := by decide +kernel
theorem dX12_air_99 : decode cX12_air 99 = .ok (.iconst 0, 1) := by decide +kernel
theorem dX12_air_100 : decode cX12_air 100 = .ok (.putfield 66, 3) := by decide +kernel
theorem dX12_air_103 : decode cX12_air 103 = .ok (.aload_n 0, 1) := by decide +kernel
theorem dX12_air_104 : decode cX12_air 104 = .ok (.getfield 66, 3) := by decide +kernel
theorem dX12_air_107 : decode cX12_air 107 = .ok (.aload_n 0, 1) := by decide +kernel
theorem dX12_air_108 : decode cX12_air 108 = .ok (.getfield 69, 3) := by decide +kernel
theorem dX12_air_111 : decode cX12_air 111 = .ok (.if_icmp .ge 40, 3) := by decide +kernel
theorem dX12_air_114 : decode cX12_air 114 = .ok (.aload_n 0, 1) := by decide +kernel
theorem dX12_air_115 : decode cX12_air 115 = .ok (.getfield 66, 3) := by decide +kernel
theorem dX12_air_118 : decode cX12_air 118 = .ok (.istore 4, 2) := by decide +kernel
theorem dX12_air_120 : decode cX12_air 120 = .ok (.aload_n 0, 1) := by decide +kernel
theorem dX12_air_121 : decode cX12_air 121 = .ok (.invokevirtual 75, 3) := by decide +kernel
theorem dX12_air_124 : decode cX12_air 124 = .ok (.istore 5, 2) := by decide +kernel
theorem dX12_air_126 : decode cX12_air 126 = .ok (.aload_n 0, 1) := by decide +kernel
theorem dX12_air_127 : decode cX12_air 127 = .ok (.invokevirtual 131, 3) := by decide +kernel
theorem dX12_air_130 : decode cX12_air 130 = .ok (.istore 6, 2) := by decide +kernel
theorem dX12_air_132 : decode cX12_air 132 = .ok (.aload_n 0, 1) := by decide +kernel
theorem dX12_air_133 : decode cX12_air 133 = .ok (.iload 5, 2) := by decide +kernel
theorem dX12_air_135 : decode cX12_air 135 = .ok (.invokevirtual 134, 3) := by decide +kernel
theorem dX12_air_138 : decode cX12_air 138 = .ok (.ifCond .ne 10, 3) := by decide +kernel
theorem dX12_air_141 : decode cX12_air 141 = .ok (.sipush (-2000), 3) := by decide +kernel
theorem dX12_air_144 : decode cX12_air 144 = .ok (.iload 4, 2) := by decide +kernel
theorem dX12_air_146 : decode cX12_air 146 = .ok (.isub, 1) := by decide +kernel
theorem dX12_air_147 : decode cX12_air 147 = .ok (.ireturn, 1) := by decide +kernel
theorem dX12_air_148 : decode cX12_air 148 = .ok (.goto (-45), 3) := by decide +kernel
theorem dX12_air_151 : decode cX12_air 151 = .ok (.iconst 0, 1) := by decide +kernel
theorem dX12_air_152 : decode cX12_air 152 = .ok (.istore 4, 2) := by decide +kernel
theorem dX12_air_154 : decode cX12_air 154 = .ok (.iload 4, 2) := by decide +kernel
theorem dX12_air_156 : decode cX12_air 156 = .ok (.bipush 73, 2) := by decide +kernel
theorem dX12_air_158 : decode cX12_air 158 = .ok (.if_icmp .ge 23, 3) := by decide +kernel
theorem dX12_air_161 : decode cX12_air 161 = .ok (.aload_n 0, 1) := by decide +kernel
theorem dX12_air_162 : decode cX12_air 162 = .ok (.getfield 9, 3) := by decide +kernel
theorem dX12_air_165 : decode cX12_air 165 = .ok (.iload 4, 2) := by decide +kernel
theorem dX12_air_167 : decode cX12_air 167 = .ok (.aload_n 0, 1) := by decide +kernel
theorem dX12_air_168 : decode cX12_air 168 = .ok (.getfield 16, 3) := by decide +kernel
theorem dX12_air_171 : decode cX12_air 171 = .ok (.iload 4, 2) := by decide +kernel
theorem dX12_air_173 : decode cX12_air 173 = .ok (.iaload, 1) := by decide +kernel
theorem dX12_air_174 : decode cX12_air 174 = .ok (.iastore, 1) := by decide +kernel
theorem dX12_air_175 : decode cX12_air 175 = .ok (.iinc 4 1, 3) := by decide +kernel
theorem dX12_air_178 : decode cX12_air 178 = .ok (.goto (-24), 3) := by decide +kernel
theorem dX12_air_181 : decode cX12_air 181 = .ok (.iload_n 3, 1) := by decide +kernel
theorem dX12_air_182 : decode cX12_air 182 = .ok (.ireturn, 1) := by decide +kernel
theorem dX12_east_0 : decode cX12_east 0 = .ok (.aload_n 0, 1) := by decide +kernel
theorem dX12_east_1 : decode cX12_east 1 = .ok (.getfield 9, 3) := by decide +kernel
theorem dX12_east_4 : decode cX12_east 4 = .ok (.iconst 5, 1) := by decide +kernel
theorem dX12_east_5 : decode cX12_east 5 = .ok (.iconst 2, 1) := by decide +kernel
theorem dX12_east_6 : decode cX12_east 6 = .ok (.iload_n 1, 1) := by decide +kernel
theorem dX12_east_7 : decode cX12_east 7 = .ok (.imul, 1) := by decide +kernel
theorem dX12_east_8 : decode cX12_east 8 = .ok (.iadd, 1) := by decide +kernel
theorem dX12_east_9 : decode cX12_east 9 = .ok (.iaload, 1) := by decide +kernel
theorem dX12_east_10 : decode cX12_east 10 = .ok (.ireturn, 1) := by decide +kernel
theorem dX12_north_0 : decode cX12_north 0 = .ok (.aload_n 0, 1) := by decide +kernel
theorem dX12_north_1 : decode cX12_north 1 = .ok (.getfield 9, 3) := by decide +kernel
theorem dX12_north_4 : decode cX12_north 4 = .ok (.iconst 5, 1) := by decide +kernel
theorem dX12_north_5 : decode cX12_north 5 = .ok (.iconst 2, 1) := by decide +kernel
theorem dX12_north_6 : decode cX12_north 6 = .ok (.iload_n 1, 1) := by decide +kernel
theorem dX12_north_7 : decode cX12_north 7 = .ok (.imul, 1) := by decide +kernel
theorem dX12_north_8 : decode cX12_north 8 = .ok (.iadd, 1) := by decide +kernel
theorem dX12_north_9 : decode cX12_north 9 = .ok (.iconst 1, 1) := by decide +kernel
theorem dX12_north_10 : decode cX12_north 10 = .ok (.iadd, 1) := by decide +kernel
theorem dX12_north_11 : decode cX12_north 11 = .ok (.iaload, 1) := by decide +kernel
theorem dX12_north_12 : decode cX12_north 12 = .ok (.ireturn, 1) := by decide +kernel
theorem dX12_wind_0 : decode cX12_wind 0 = .ok (.iload_n 1, 1) := by decide +kernel
theorem dX12_wind_1 : decode cX12_wind 1 = .ok (.i2l, 1) := by decide +kernel
theorem dX12_wind_2 : decode cX12_wind 2 = .ok (.lconst 0, 1) := by decide +kernel
theorem dX12_wind_3 : decode cX12_wind 3 = .ok (.ldc2_w 137, 3) := by decide +kernel
theorem dX12_wind_6 : decode cX12_wind 6 = .ok (.invokestatic 56, 3) := by decide +kernel
theorem dX12_wind_9 : decode cX12_wind 9 = .ok (.ifCond .ne 8, 3) := by decide +kernel
theorem dX12_wind_12 : decode cX12_wind 12 = .ok (.ldc 139, 2) := by decide +kernel
theorem dX12_wind_14 : decode cX12_wind 14 = .ok (.goto 20, 3) := by decide +kernel
theorem dX12_wind_17 : decode cX12_wind 17 = .ok (.iload_n 2, 1) := by decide +kernel
theorem dX12_wind_18 : decode cX12_wind 18 = .ok (.ifCond .eq 11, 3) := by decide +kernel
theorem dX12_wind_21 : decode cX12_wind 21 = .ok (.aload_n 0, 1) := by decide +kernel
theorem dX12_wind_22 : decode cX12_wind 22 = .ok (.iload_n 1, 1) := by decide +kernel
theorem dX12_wind_23 : decode cX12_wind 23 = .ok (.invokevirtual 140, 3) := by decide +kernel
theorem dX12_wind_26 : decode cX12_wind 26 = .ok (.goto 8, 3) := by decide +kernel
theorem dX12_wind_29 : decode cX12_wind 29 = .ok (.aload_n 0, 1) := by decide +kernel
theorem dX12_wind_30 : decode cX12_wind 30 = .ok (.iload_n 1, 1) := by decide +kernel
theorem dX12_wind_31 : decode cX12_wind 31 = .ok (.invokevirtual 144, 3) := by decide +kernel
theorem dX12_wind_34 : decode cX12_wind 34 = .ok (.ireturn, 1) := by decide +kernel
theorem dX12_set_0 : decode cX12_set 0 = .ok (.iload_n 1, 1) := by decide +kernel
theorem dX12_set_1 : decode cX12_set 1 = .ok (.i2l, 1) := by decide +kernel
theorem dX12_set_2 : decode cX12_set 2 = .ok (.lconst 0, 1) := by decide +kernel
theorem dX12_set_3 : decode cX12_set 3 = .ok (.ldc2_w 147, 3) := by decide +kernel
theorem dX12_set_6 : decode cX12_set 6 = .ok (.invokestatic 56, 3) := by decide +kernel
theorem dX12_set_9 : decode cX12_set 9 = .ok (.ifCond .eq 11, 3) := by decide +kernel
theorem dX12_set_12 : decode cX12_set 12 = .ok (.iload_n 1, 1) := by decide +kernel
theorem dX12_set_13 : decode cX12_set 13 = .ok (.iload_n 2, 1) := by decide +kernel
theorem dX12_set_14 : decode cX12_set 14 = .ok (.invokestatic 115, 3) := by decide +kernel
theorem dX12_set_17 : decode cX12_set 17 = .ok (.ifCond .ne 5, 3) := by decide +kernel
theorem dX12_set_20 : decode cX12_set 20 = .ok (.iconst (-1), 1) := by decide +kernel
theorem dX12_set_21 : decode cX12_set 21 = .ok (.ireturn, 1) := by decide +kernel
theorem dX12_set_22 : decode cX12_set 22 = .ok (.aload_n 0, 1) := by decide +kernel
theorem dX12_set_23 : decode cX12_set 23 = .ok (.getfield 9, 3) := by decide +kernel
theorem dX12_set_26 : decode cX12_set 26 = .ok (.iload_n 1, 1) := by decide +kernel
theorem dX12_set_27 : decode cX12_set 27 = .ok (.iaload, 1) := by decide +kernel
theorem dX12_set_28 : decode cX12_set 28 = .ok (.istore_n 3, 1) := by decide +kernel
theorem dX12_set_29 : decode cX12_set 29 = .ok (.aload_n 0, 1) := by decide +kernel
theorem dX12_set_30 : decode cX12_set 30 = .ok (.getfield 9, 3) := by decide +kernel
theorem dX12_set_33 : decode cX12_set 33 = .ok (.iload_n 1, 1) := by decide +kernel
theorem dX12_set_34 : decode cX12_set 34 = .ok (.iload_n 2, 1) := by decide +kernel
theorem dX12_set_35 : decode cX12_set 35 = .ok (.iastore, 1) := by decide +kernel
theorem dX12_set_36 : decode cX12_set 36 = .ok (.iload_n 3, 1) := by decide +kernel
theorem dX12_set_37 : decode cX12_set 37 = .ok (.ireturn, 1) := by decide +kernel
theorem dX12_fallsBy_0 : decode cX12_fallsBy 0 = .ok (.iload_n 0, 1) := by decide +kernel
theorem dX12_fallsBy_1 : decode cX12_fallsBy 1 = .ok (.iconst 2, 1) := by decide +kernel
theorem dX12_fallsBy_2 : decode cX12_fallsBy 2 = .ok (.if_icmp .ne 8, 3) := by decide +kernel
theorem dX12_fallsBy_5 : decode cX12_fallsBy 5 = .ok (.bipush 100, 2) := by decide +kernel
theorem dX12_fallsBy_7 : decode cX12_fallsBy 7 = .ok (.goto 22, 3) := by decide +kernel
theorem dX12_fallsBy_10 : decode cX12_fallsBy 10 = .ok (.iload_n 0, 1) := by decide +kernel
theorem dX12_fallsBy_11 : decode cX12_fallsBy 11 = .ok (.iconst 3, 1) := by decide +kernel
theorem dX12_fallsBy_12 : decode cX12_fallsBy 12 = .ok (.if_icmp .eq 9, 3) := by decide +kernel
theorem dX12_fallsBy_15 : decode cX12_fallsBy 15 = .ok (.iload_n 0, 1) := by decide +kernel
theorem dX12_fallsBy_16 : decode cX12_fallsBy 16 = .ok (.bipush 7, 2) := by decide +kernel
theorem dX12_fallsBy_18 : decode cX12_fallsBy 18 = .ok (.if_icmp .ne 9, 3) := by decide +kernel
theorem dX12_fallsBy_21 : decode cX12_fallsBy 21 = .ok (.sipush 145, 3) := by decide +kernel
theorem dX12_fallsBy_24 : decode cX12_fallsBy 24 = .ok (.goto 5, 3) := by decide +kernel
theorem dX12_fallsBy_27 : decode cX12_fallsBy 27 = .ok (.bipush 120, 2) := by decide +kernel
theorem dX12_fallsBy_29 : decode cX12_fallsBy 29 = .ok (.ireturn, 1) := by decide +kernel
theorem dX12_sinksBy_0 : decode cX12_sinksBy 0 = .ok (.iload_n 0, 1) := by decide +kernel
theorem dX12_sinksBy_1 : decode cX12_sinksBy 1 = .ok (.tableswitch 68 1 7 #[43, 46, 49, 52, 57, 62, 65], 43) := by decide +kernel
theorem dX12_sinksBy_44 : decode cX12_sinksBy 44 = .ok (.bipush 20, 2) := by decide +kernel
theorem dX12_sinksBy_46 : decode cX12_sinksBy 46 = .ok (.ireturn, 1) := by decide +kernel
theorem dX12_sinksBy_47 : decode cX12_sinksBy 47 = .ok (.bipush 13, 2) := by decide +kernel
theorem dX12_sinksBy_49 : decode cX12_sinksBy 49 = .ok (.ireturn, 1) := by decide +kernel
theorem dX12_sinksBy_50 : decode cX12_sinksBy 50 = .ok (.bipush 21, 2) := by decide +kernel
theorem dX12_sinksBy_52 : decode cX12_sinksBy 52 = .ok (.ireturn, 1) := by decide +kernel
theorem dX12_sinksBy_53 : decode cX12_sinksBy 53 = .ok (.bipush 16, 2) := by decide +kernel
theorem dX12_sinksBy_55 : decode cX12_sinksBy 55 = .ok (.iload_n 1, 1) := by decide +kernel
theorem dX12_sinksBy_56 : decode cX12_sinksBy 56 = .ok (.iadd, 1) := by decide +kernel
theorem dX12_sinksBy_57 : decode cX12_sinksBy 57 = .ok (.ireturn, 1) := by decide +kernel
theorem dX12_sinksBy_58 : decode cX12_sinksBy 58 = .ok (.bipush 14, 2) := by decide +kernel
theorem dX12_sinksBy_60 : decode cX12_sinksBy 60 = .ok (.iload_n 1, 1) := by decide +kernel
theorem dX12_sinksBy_61 : decode cX12_sinksBy 61 = .ok (.iadd, 1) := by decide +kernel
theorem dX12_sinksBy_62 : decode cX12_sinksBy 62 = .ok (.ireturn, 1) := by decide +kernel
theorem dX12_sinksBy_63 : decode cX12_sinksBy 63 = .ok (.bipush 18, 2) := by decide +kernel
theorem dX12_sinksBy_65 : decode cX12_sinksBy 65 = .ok (.ireturn, 1) := by decide +kernel
theorem dX12_sinksBy_66 : decode cX12_sinksBy 66 = .ok (.bipush 31, 2) := by decide +kernel
theorem dX12_sinksBy_68 : decode cX12_sinksBy 68 = .ok (.ireturn, 1) := by decide +kernel
theorem dX12_sinksBy_69 : decode cX12_sinksBy 69 = .ok (.bipush 16, 2) := by decide +kernel
theorem dX12_sinksBy_71 : decode cX12_sinksBy 71 = .ok (.ireturn, 1) := by decide +kernel
theorem dX12_paceBy_0 : decode cX12_paceBy 0 = .ok (.iload_n 0, 1) := by decide +kernel
theorem dX12_paceBy_1 : decode cX12_paceBy 1 = .ok (.tableswitch 64 1 7 #[43, 45, 48, 51, 54, 57, 43], 43) := by decide +kernel
theorem dX12_paceBy_44 : decode cX12_paceBy 44 = .ok (.iconst 0, 1) := by decide +kernel
theorem dX12_paceBy_45 : decode cX12_paceBy 45 = .ok (.ireturn, 1) := by decide +kernel
theorem dX12_paceBy_46 : decode cX12_paceBy 46 = .ok (.bipush 34, 2) := by decide +kernel
theorem dX12_paceBy_48 : decode cX12_paceBy 48 = .ok (.ireturn, 1) := by decide +kernel
theorem dX12_paceBy_49 : decode cX12_paceBy 49 = .ok (.bipush 44, 2) := by decide +kernel
theorem dX12_paceBy_51 : decode cX12_paceBy 51 = .ok (.ireturn, 1) := by decide +kernel
theorem dX12_paceBy_52 : decode cX12_paceBy 52 = .ok (.bipush 20, 2) := by decide +kernel
theorem dX12_paceBy_54 : decode cX12_paceBy 54 = .ok (.ireturn, 1) := by decide +kernel
theorem dX12_paceBy_55 : decode cX12_paceBy 55 = .ok (.bipush 30, 2) := by decide +kernel
theorem dX12_paceBy_57 : decode cX12_paceBy 57 = .ok (.ireturn, 1) := by decide +kernel
theorem dX12_paceBy_58 : decode cX12_paceBy 58 = .ok (.bipush 40, 2) := by decide +kernel
theorem dX12_paceBy_60 : decode cX12_paceBy 60 = .ok (.iconst 3, 1) := by decide +kernel
theorem dX12_paceBy_61 : decode cX12_paceBy 61 = .ok (.iload_n 1, 1) := by decide +kernel
theorem dX12_paceBy_62 : decode cX12_paceBy 62 = .ok (.imul, 1) := by decide +kernel
theorem dX12_paceBy_63 : decode cX12_paceBy 63 = .ok (.iadd, 1) := by decide +kernel
theorem dX12_paceBy_64 : decode cX12_paceBy 64 = .ok (.ireturn, 1) := by decide +kernel
theorem dX12_paceBy_65 : decode cX12_paceBy 65 = .ok (.bipush 40, 2) := by decide +kernel
theorem dX12_paceBy_67 : decode cX12_paceBy 67 = .ok (.ireturn, 1) := by decide +kernel
theorem dX12_driftBy_0 : decode cX12_driftBy 0 = .ok (.iload_n 0, 1) := by decide +kernel
theorem dX12_driftBy_1 : decode cX12_driftBy 1 = .ok (.iconst 2, 1) := by decide +kernel
theorem dX12_driftBy_2 : decode cX12_driftBy 2 = .ok (.if_icmp .ne 11, 3) := by decide +kernel
theorem dX12_driftBy_5 : decode cX12_driftBy 5 = .ok (.iload_n 1, 1) := by decide +kernel
theorem dX12_driftBy_6 : decode cX12_driftBy 6 = .ok (.iconst 5, 1) := by decide +kernel
theorem dX12_driftBy_7 : decode cX12_driftBy 7 = .ok (.imul, 1) := by decide +kernel
theorem dX12_driftBy_8 : decode cX12_driftBy 8 = .ok (.iconst 4, 1) := by decide +kernel
theorem dX12_driftBy_9 : decode cX12_driftBy 9 = .ok (.idiv, 1) := by decide +kernel
theorem dX12_driftBy_10 : decode cX12_driftBy 10 = .ok (.goto 33, 3) := by decide +kernel
theorem dX12_driftBy_13 : decode cX12_driftBy 13 = .ok (.iload_n 0, 1) := by decide +kernel
theorem dX12_driftBy_14 : decode cX12_driftBy 14 = .ok (.iconst 3, 1) := by decide +kernel
theorem dX12_driftBy_15 : decode cX12_driftBy 15 = .ok (.if_icmp .ne 11, 3) := by decide +kernel
theorem dX12_driftBy_18 : decode cX12_driftBy 18 = .ok (.iload_n 1, 1) := by decide +kernel
theorem dX12_driftBy_19 : decode cX12_driftBy 19 = .ok (.iconst 4, 1) := by decide +kernel
theorem dX12_driftBy_20 : decode cX12_driftBy 20 = .ok (.imul, 1) := by decide +kernel
theorem dX12_driftBy_21 : decode cX12_driftBy 21 = .ok (.iconst 5, 1) := by decide +kernel
theorem dX12_driftBy_22 : decode cX12_driftBy 22 = .ok (.idiv, 1) := by decide +kernel
theorem dX12_driftBy_23 : decode cX12_driftBy 23 = .ok (.goto 20, 3) := by decide +kernel
theorem dX12_driftBy_26 : decode cX12_driftBy 26 = .ok (.iload_n 0, 1) := by decide +kernel
theorem dX12_driftBy_27 : decode cX12_driftBy 27 = .ok (.bipush 7, 2) := by decide +kernel
theorem dX12_driftBy_29 : decode cX12_driftBy 29 = .ok (.if_icmp .ne 13, 3) := by decide +kernel
theorem dX12_driftBy_32 : decode cX12_driftBy 32 = .ok (.iload_n 1, 1) := by decide +kernel
theorem dX12_driftBy_33 : decode cX12_driftBy 33 = .ok (.iconst 4, 1) := by decide +kernel
theorem dX12_driftBy_34 : decode cX12_driftBy 34 = .ok (.imul, 1) := by decide +kernel
theorem dX12_driftBy_35 : decode cX12_driftBy 35 = .ok (.iconst 5, 1) := by decide +kernel
theorem dX12_driftBy_36 : decode cX12_driftBy 36 = .ok (.idiv, 1) := by decide +kernel
theorem dX12_driftBy_37 : decode cX12_driftBy 37 = .ok (.iconst 2, 1) := by decide +kernel
theorem dX12_driftBy_38 : decode cX12_driftBy 38 = .ok (.idiv, 1) := by decide +kernel
theorem dX12_driftBy_39 : decode cX12_driftBy 39 = .ok (.goto 4, 3) := by decide +kernel
theorem dX12_driftBy_42 : decode cX12_driftBy 42 = .ok (.iload_n 1, 1) := by decide +kernel
theorem dX12_driftBy_43 : decode cX12_driftBy 43 = .ok (.ireturn, 1) := by decide +kernel
theorem dX12_faller_0 : decode cX12_faller 0 = .ok (.aload_n 0, 1) := by decide +kernel
theorem dX12_faller_1 : decode cX12_faller 1 = .ok (.iload_n 1, 1) := by decide +kernel
theorem dX12_faller_2 : decode cX12_faller 2 = .ok (.invokevirtual 149, 3) := by decide +kernel
theorem dX12_faller_5 : decode cX12_faller 5 = .ok (.ifCond .ne 5, 3) := by decide +kernel
theorem dX12_faller_8 : decode cX12_faller 8 = .ok (.iconst (-1), 1) := by decide +kernel
theorem dX12_faller_9 : decode cX12_faller 9 = .ok (.ireturn, 1) := by decide +kernel
theorem dX12_faller_10 : decode cX12_faller 10 = .ok (.aload_n 0, 1) := by decide +kernel
theorem dX12_faller_11 : decode cX12_faller 11 = .ok (.iload_n 1, 1) := by decide +kernel
theorem dX12_faller_12 : decode cX12_faller 12 = .ok (.iconst 0, 1) := by decide +kernel
theorem dX12_faller_13 : decode cX12_faller 13 = .ok (.invokevirtual 152, 3) := by decide +kernel
theorem dX12_faller_16 : decode cX12_faller 16 = .ok (.istore_n 3, 1) := by decide +kernel
theorem dX12_faller_17 : decode cX12_faller 17 = .ok (.iload_n 2, 1) := by decide +kernel
theorem dX12_faller_18 : decode cX12_faller 18 = .ok (.tableswitch 72 0 5 #[38, 38, 38, 45, 50, 61], 38) := by decide +kernel
theorem dX12_faller_56 : decode cX12_faller 56 = .ok (.aload_n 0, 1) := by decide +kernel
theorem dX12_faller_57 : decode cX12_faller 57 = .ok (.iload_n 1, 1) := by decide +kernel
theorem dX12_faller_58 : decode cX12_faller 58 = .ok (.iload_n 2, 1) := by decide +kernel
theorem dX12_faller_59 : decode cX12_faller 59 = .ok (.invokevirtual 152, 3) := by decide +kernel
theorem dX12_faller_62 : decode cX12_faller 62 = .ok (.ireturn, 1) := by decide +kernel
theorem dX12_faller_63 : decode cX12_faller 63 = .ok (.iload_n 3, 1) := by decide +kernel
theorem dX12_faller_64 : decode cX12_faller 64 = .ok (.invokestatic 155, 3) := by decide +kernel
theorem dX12_faller_67 : decode cX12_faller 67 = .ok (.ireturn, 1) := by decide +kernel
theorem dX12_faller_68 : decode cX12_faller 68 = .ok (.iload_n 3, 1) := by decide +kernel
theorem dX12_faller_69 : decode cX12_faller 69 = .ok (.aload_n 0, 1) := by decide +kernel
theorem dX12_faller_70 : decode cX12_faller 70 = .ok (.iload_n 1, 1) := by decide +kernel
theorem dX12_faller_71 : decode cX12_faller 71 = .ok (.iconst 1, 1) := by decide +kernel
theorem dX12_faller_72 : decode cX12_faller 72 = .ok (.invokevirtual 152, 3) := by decide +kernel
theorem dX12_faller_75 : decode cX12_faller 75 = .ok (.invokestatic 158, 3) := by decide +kernel
theorem dX12_faller_78 : decode cX12_faller 78 = .ok (.ireturn, 1) := by decide +kernel
theorem dX12_faller_79 : decode cX12_faller 79 = .ok (.iload_n 3, 1) := by decide +kernel
theorem dX12_faller_80 : decode cX12_faller 80 = .ok (.aload_n 0, 1) := by decide +kernel
theorem dX12_faller_81 : decode cX12_faller 81 = .ok (.iload_n 1, 1) := by decide +kernel
theorem dX12_faller_82 : decode cX12_faller 82 = .ok (.iconst 1, 1) := by decide +kernel
theorem dX12_faller_83 : decode cX12_faller 83 = .ok (.invokevirtual 152, 3) := by decide +kernel
theorem dX12_faller_86 : decode cX12_faller 86 = .ok (.invokestatic 161, 3) := by decide +kernel
theorem dX12_faller_89 : decode cX12_faller 89 = .ok (.ireturn, 1) := by decide +kernel
theorem dX12_faller_90 : decode cX12_faller 90 = .ok (.iconst (-1), 1) := by decide +kernel
theorem dX12_faller_91 : decode cX12_faller 91 = .ok (.ireturn, 1) := by decide +kernel
theorem dX12_drift_0 : decode cX12_drift 0 = .ok (.aload_n 0, 1) := by decide +kernel
theorem dX12_drift_1 : decode cX12_drift 1 = .ok (.iload_n 1, 1) := by decide +kernel
theorem dX12_drift_2 : decode cX12_drift 2 = .ok (.invokevirtual 149, 3) := by decide +kernel
theorem dX12_drift_5 : decode cX12_drift 5 = .ok (.ifCond .eq 30, 3) := by decide +kernel
theorem dX12_drift_8 : decode cX12_drift 8 = .ok (.iload_n 2, 1) := by decide +kernel
theorem dX12_drift_9 : decode cX12_drift 9 = .ok (.i2l, 1) := by decide +kernel
theorem dX12_drift_10 : decode cX12_drift 10 = .ok (.ldc2_w 164, 3) := by decide +kernel
theorem dX12_drift_13 : decode cX12_drift 13 = .ok (.ldc2_w 166, 3) := by decide +kernel
theorem dX12_drift_16 : decode cX12_drift 16 = .ok (.invokestatic 56, 3) := by decide +kernel
theorem dX12_drift_19 : decode cX12_drift 19 = .ok (.ifCond .eq 16, 3) := by decide +kernel
theorem dX12_drift_22 : decode cX12_drift 22 = .ok (.aload_n 0, 1) := by decide +kernel
theorem dX12_drift_23 : decode cX12_drift 23 = .ok (.iload_n 1, 1) := by decide +kernel
theorem dX12_drift_24 : decode cX12_drift 24 = .ok (.iconst 0, 1) := by decide +kernel
theorem dX12_drift_25 : decode cX12_drift 25 = .ok (.invokevirtual 152, 3) := by decide +kernel
theorem dX12_drift_28 : decode cX12_drift 28 = .ok (.iload_n 2, 1) := by decide +kernel
theorem dX12_drift_29 : decode cX12_drift 29 = .ok (.invokestatic 168, 3) := by decide +kernel
theorem dX12_drift_32 : decode cX12_drift 32 = .ok (.goto 5, 3) := by decide +kernel
theorem dX12_drift_35 : decode cX12_drift 35 = .ok (.ldc 139, 2) := by decide +kernel
theorem dX12_drift_37 : decode cX12_drift 37 = .ok (.ireturn, 1) := by decide +kernel
theorem dX12_toward_0 : decode cX12_toward 0 = .ok (.iload_n 1, 1) := by decide +kernel
theorem dX12_toward_1 : decode cX12_toward 1 = .ok (.ifCond .eq 7, 3) := by decide +kernel
theorem dX12_toward_4 : decode cX12_toward 4 = .ok (.iload_n 2, 1) := by decide +kernel
theorem dX12_toward_5 : decode cX12_toward 5 = .ok (.goto 4, 3) := by decide +kernel
theorem dX12_toward_8 : decode cX12_toward 8 = .ok (.iload_n 3, 1) := by decide +kernel
theorem dX12_toward_9 : decode cX12_toward 9 = .ok (.istore 5, 2) := by decide +kernel
theorem dX12_toward_11 : decode cX12_toward 11 = .ok (.iload 4, 2) := by decide +kernel
theorem dX12_toward_13 : decode cX12_toward 13 = .ok (.iload 5, 2) := by decide +kernel
theorem dX12_toward_15 : decode cX12_toward 15 = .ok (.invokestatic 171, 3) := by decide +kernel
theorem dX12_toward_18 : decode cX12_toward 18 = .ok (.invokestatic 121, 3) := by decide +kernel
theorem dX12_toward_21 : decode cX12_toward 21 = .ok (.istore 6, 2) := by decide +kernel
theorem dX12_toward_23 : decode cX12_toward 23 = .ok (.iload 5, 2) := by decide +kernel
theorem dX12_toward_25 : decode cX12_toward 25 = .ok (.ifCond .le 9, 3) := by decide +kernel
theorem dX12_toward_28 : decode cX12_toward 28 = .ok (.iload 6, 2) := by decide +kernel
theorem dX12_toward_30 : decode cX12_toward 30 = .ok (.ineg, 1) := by decide +kernel
theorem dX12_toward_31 : decode cX12_toward 31 = .ok (.goto 5, 3) := by decide +kernel
theorem dX12_toward_34 : decode cX12_toward 34 = .ok (.iload 6, 2) := by decide +kernel
theorem dX12_toward_36 : decode cX12_toward 36 = .ok (.istore 6, 2) := by decide +kernel
theorem dX12_toward_38 : decode cX12_toward 38 = .ok (.iload_n 1, 1) := by decide +kernel
theorem dX12_toward_39 : decode cX12_toward 39 = .ok (.ifCond .eq 12, 3) := by decide +kernel
theorem dX12_toward_42 : decode cX12_toward 42 = .ok (.aload_n 0, 1) := by decide +kernel
theorem dX12_toward_43 : decode cX12_toward 43 = .ok (.iload 6, 2) := by decide +kernel
theorem dX12_toward_45 : decode cX12_toward 45 = .ok (.putfield 174, 3) := by decide +kernel
theorem dX12_toward_48 : decode cX12_toward 48 = .ok (.goto 9, 3) := by decide +kernel
theorem dX12_toward_51 : decode cX12_toward 51 = .ok (.aload_n 0, 1) := by decide +kernel
theorem dX12_toward_52 : decode cX12_toward 52 = .ok (.iload 6, 2) := by decide +kernel
theorem dX12_toward_54 : decode cX12_toward 54 = .ok (.putfield 177, 3) := by decide +kernel
theorem dX12_toward_57 : decode cX12_toward 57 = .ok (.return_, 1) := by decide +kernel
theorem dX12_steersBy_0 : decode cX12_steersBy 0 = .ok (.aload_n 0, 1) := by decide +kernel
theorem dX12_steersBy_1 : decode cX12_steersBy 1 = .ok (.iconst 0, 1) := by decide +kernel
theorem dX12_steersBy_2 : decode cX12_steersBy 2 = .ok (.putfield 174, 3) := by decide +kernel
theorem dX12_steersBy_5 : decode cX12_steersBy 5 = .ok (.aload_n 0, 1) := by decide +kernel
theorem dX12_steersBy_6 : decode cX12_steersBy 6 = .ok (.iconst 0, 1) := by decide +kernel
theorem dX12_steersBy_7 : decode cX12_steersBy 7 = .ok (.putfield 177, 3) := by decide +kernel
theorem dX12_steersBy_10 : decode cX12_steersBy 10 = .ok (.iload_n 1, 1) := by decide +kernel
theorem dX12_steersBy_11 : decode cX12_steersBy 11 = .ok (.iload_n 2, 1) := by decide +kernel
theorem dX12_steersBy_12 : decode cX12_steersBy 12 = .ok (.invokestatic 161, 3) := by decide +kernel
theorem dX12_steersBy_15 : decode cX12_steersBy 15 = .ok (.istore 7, 2) := by decide +kernel
theorem dX12_steersBy_17 : decode cX12_steersBy 17 = .ok (.iload_n 3, 1) := by decide +kernel
theorem dX12_steersBy_18 : decode cX12_steersBy 18 = .ok (.invokestatic 171, 3) := by decide +kernel
theorem dX12_steersBy_21 : decode cX12_steersBy 21 = .ok (.bipush 100, 2) := by decide +kernel
theorem dX12_steersBy_23 : decode cX12_steersBy 23 = .ok (.iload_n 2, 1) := by decide +kernel
theorem dX12_steersBy_24 : decode cX12_steersBy 24 = .ok (.imul, 1) := by decide +kernel
theorem dX12_steersBy_25 : decode cX12_steersBy 25 = .ok (.if_icmp .gt 15, 3) := by decide +kernel
theorem dX12_steersBy_28 : decode cX12_steersBy 28 = .ok (.iload 4, 2) := by decide +kernel
theorem dX12_steersBy_30 : decode cX12_steersBy 30 = .ok (.invokestatic 171, 3) := by decide +kernel
theorem dX12_steersBy_33 : decode cX12_steersBy 33 = .ok (.bipush 100, 2) := by decide +kernel
theorem dX12_steersBy_35 : decode cX12_steersBy 35 = .ok (.iload_n 2, 1) := by decide +kernel
theorem dX12_steersBy_36 : decode cX12_steersBy 36 = .ok (.imul, 1) := by decide +kernel
theorem dX12_steersBy_37 : decode cX12_steersBy 37 = .ok (.if_icmp .le 7, 3) := by decide +kernel
theorem dX12_steersBy_40 : decode cX12_steersBy 40 = .ok (.iconst 1, 1) := by decide +kernel
theorem dX12_steersBy_41 : decode cX12_steersBy 41 = .ok (.goto 4, 3) := by decide +kernel
theorem dX12_steersBy_44 : decode cX12_steersBy 44 = .ok (.iconst 0, 1) := by decide +kernel
theorem dX12_steersBy_45 : decode cX12_steersBy 45 = .ok (.istore 8, 2) := by decide +kernel
theorem dX12_steersBy_47 : decode cX12_steersBy 47 = .ok (.iload_n 1, 1) := by decide +kernel
theorem dX12_steersBy_48 : decode cX12_steersBy 48 = .ok (.tableswitch 170 1 7 #[44, 170, 170, 45, 77, 110, 44], 44) := by decide +kernel
theorem dX12_steersBy_92 : decode cX12_steersBy 92 = .ok (.return_, 1) := by decide +kernel
theorem dX12_steersBy_93 : decode cX12_steersBy 93 = .ok (.iload 8, 2) := by decide +kernel
theorem dX12_steersBy_95 : decode cX12_steersBy 95 = .ok (.ifCond .eq 29, 3) := by decide +kernel
theorem dX12_steersBy_98 : decode cX12_steersBy 98 = .ok (.aload_n 0, 1) := by decide +kernel
theorem dX12_steersBy_99 : decode cX12_steersBy 99 = .ok (.iload_n 3, 1) := by decide +kernel
theorem dX12_steersBy_100 : decode cX12_steersBy 100 = .ok (.invokestatic 171, 3) := by decide +kernel
theorem dX12_steersBy_103 : decode cX12_steersBy 103 = .ok (.iload 4, 2) := by decide +kernel
theorem dX12_steersBy_105 : decode cX12_steersBy 105 = .ok (.invokestatic 171, 3) := by decide +kernel
theorem dX12_steersBy_108 : decode cX12_steersBy 108 = .ok (.if_icmp .lt 7, 3) := by decide +kernel
theorem dX12_steersBy_111 : decode cX12_steersBy 111 = .ok (.iconst 1, 1) := by decide +kernel
theorem dX12_steersBy_112 : decode cX12_steersBy 112 = .ok (.goto 4, 3) := by decide +kernel
theorem dX12_steersBy_115 : decode cX12_steersBy 115 = .ok (.iconst 0, 1) := by decide +kernel
theorem dX12_steersBy_116 : decode cX12_steersBy 116 = .ok (.iload_n 3, 1) := by decide +kernel
theorem dX12_steersBy_117 : decode cX12_steersBy 117 = .ok (.iload 4, 2) := by decide +kernel
theorem dX12_steersBy_119 : decode cX12_steersBy 119 = .ok (.iload 7, 2) := by decide +kernel
theorem dX12_steersBy_121 : decode cX12_steersBy 121 = .ok (.invokevirtual 180, 3) := by decide +kernel
theorem dX12_steersBy_124 : decode cX12_steersBy 124 = .ok (.return_, 1) := by decide +kernel
theorem dX12_steersBy_125 : decode cX12_steersBy 125 = .ok (.iload 8, 2) := by decide +kernel
theorem dX12_steersBy_127 : decode cX12_steersBy 127 = .ok (.ifCond .eq 30, 3) := by decide +kernel
theorem dX12_steersBy_130 : decode cX12_steersBy 130 = .ok (.aload_n 0, 1) := by decide +kernel
theorem dX12_steersBy_131 : decode cX12_steersBy 131 = .ok (.iload 6, 2) := by decide +kernel
theorem dX12_steersBy_133 : decode cX12_steersBy 133 = .ok (.invokestatic 171, 3) := by decide +kernel
theorem dX12_steersBy_136 : decode cX12_steersBy 136 = .ok (.iload 5, 2) := by decide +kernel
theorem dX12_steersBy_138 : decode cX12_steersBy 138 = .ok (.invokestatic 171, 3) := by decide +kernel
theorem dX12_steersBy_141 : decode cX12_steersBy 141 = .ok (.if_icmp .le 7, 3) := by decide +kernel
theorem dX12_steersBy_144 : decode cX12_steersBy 144 = .ok (.iconst 1, 1) := by decide +kernel
theorem dX12_steersBy_145 : decode cX12_steersBy 145 = .ok (.goto 4, 3) := by decide +kernel
theorem dX12_steersBy_148 : decode cX12_steersBy 148 = .ok (.iconst 0, 1) := by decide +kernel
theorem dX12_steersBy_149 : decode cX12_steersBy 149 = .ok (.iload_n 3, 1) := by decide +kernel
theorem dX12_steersBy_150 : decode cX12_steersBy 150 = .ok (.iload 4, 2) := by decide +kernel
theorem dX12_steersBy_152 : decode cX12_steersBy 152 = .ok (.iload 7, 2) := by decide +kernel
theorem dX12_steersBy_154 : decode cX12_steersBy 154 = .ok (.invokevirtual 180, 3) := by decide +kernel
theorem dX12_steersBy_157 : decode cX12_steersBy 157 = .ok (.return_, 1) := by decide +kernel
theorem dX12_steersBy_158 : decode cX12_steersBy 158 = .ok (.iload 5, 2) := by decide +kernel
theorem dX12_steersBy_160 : decode cX12_steersBy 160 = .ok (.invokestatic 171, 3) := by decide +kernel
theorem dX12_steersBy_163 : decode cX12_steersBy 163 = .ok (.iload 6, 2) := by decide +kernel
theorem dX12_steersBy_165 : decode cX12_steersBy 165 = .ok (.invokestatic 171, 3) := by decide +kernel
theorem dX12_steersBy_168 : decode cX12_steersBy 168 = .ok (.if_icmp .lt 32, 3) := by decide +kernel
theorem dX12_steersBy_171 : decode cX12_steersBy 171 = .ok (.aload_n 0, 1) := by decide +kernel
theorem dX12_steersBy_172 : decode cX12_steersBy 172 = .ok (.iload 5, 2) := by decide +kernel
theorem dX12_steersBy_174 : decode cX12_steersBy 174 = .ok (.ifCond .le 8, 3) := by decide +kernel
theorem dX12_steersBy_177 : decode cX12_steersBy 177 = .ok (.iload 7, 2) := by decide +kernel
theorem dX12_steersBy_179 : decode cX12_steersBy 179 = .ok (.goto 15, 3) := by decide +kernel
theorem dX12_steersBy_182 : decode cX12_steersBy 182 = .ok (.iload 5, 2) := by decide +kernel
theorem dX12_steersBy_184 : decode cX12_steersBy 184 = .ok (.ifCond .ge 9, 3) := by decide +kernel
theorem dX12_steersBy_187 : decode cX12_steersBy 187 = .ok (.iload 7, 2) := by decide +kernel
theorem dX12_steersBy_189 : decode cX12_steersBy 189 = .ok (.ineg, 1) := by decide +kernel
theorem dX12_steersBy_190 : decode cX12_steersBy 190 = .ok (.goto 4, 3) := by decide +kernel
theorem dX12_steersBy_193 : decode cX12_steersBy 193 = .ok (.iconst 0, 1) := by decide +kernel
theorem dX12_steersBy_194 : decode cX12_steersBy 194 = .ok (.putfield 174, 3) := by decide +kernel
theorem dX12_steersBy_197 : decode cX12_steersBy 197 = .ok (.goto 20, 3) := by decide +kernel
theorem dX12_steersBy_200 : decode cX12_steersBy 200 = .ok (.aload_n 0, 1) := by decide +kernel
theorem dX12_steersBy_201 : decode cX12_steersBy 201 = .ok (.iload 6, 2) := by decide +kernel
theorem dX12_steersBy_203 : decode cX12_steersBy 203 = .ok (.ifCond .le 8, 3) := by decide +kernel
theorem dX12_steersBy_206 : decode cX12_steersBy 206 = .ok (.iload 7, 2) := by decide +kernel
theorem dX12_steersBy_208 : decode cX12_steersBy 208 = .ok (.goto 6, 3) := by decide +kernel
theorem dX12_steersBy_211 : decode cX12_steersBy 211 = .ok (.iload 7, 2) := by decide +kernel
theorem dX12_steersBy_213 : decode cX12_steersBy 213 = .ok (.ineg, 1) := by decide +kernel
theorem dX12_steersBy_214 : decode cX12_steersBy 214 = .ok (.putfield 177, 3) := by decide +kernel
theorem dX12_steersBy_217 : decode cX12_steersBy 217 = .ok (.return_, 1) := by decide +kernel
theorem dX12_steersBy_218 : decode cX12_steersBy 218 = .ok (.aload_n 0, 1) := by decide +kernel
theorem dX12_steersBy_219 : decode cX12_steersBy 219 = .ok (.iload_n 3, 1) := by decide +kernel
theorem dX12_steersBy_220 : decode cX12_steersBy 220 = .ok (.invokestatic 171, 3) := by decide +kernel
theorem dX12_steersBy_223 : decode cX12_steersBy 223 = .ok (.iload 4, 2) := by decide +kernel
theorem dX12_steersBy_225 : decode cX12_steersBy 225 = .ok (.invokestatic 171, 3) := by decide +kernel
theorem dX12_steersBy_228 : decode cX12_steersBy 228 = .ok (.if_icmp .lt 7, 3) := by decide +kernel
theorem dX12_steersBy_231 : decode cX12_steersBy 231 = .ok (.iconst 1, 1) := by decide +kernel
theorem dX12_steersBy_232 : decode cX12_steersBy 232 = .ok (.goto 4, 3) := by decide +kernel
theorem dX12_steersBy_235 : decode cX12_steersBy 235 = .ok (.iconst 0, 1) := by decide +kernel
theorem dX12_steersBy_236 : decode cX12_steersBy 236 = .ok (.iload_n 3, 1) := by decide +kernel
theorem dX12_steersBy_237 : decode cX12_steersBy 237 = .ok (.iload 4, 2) := by decide +kernel
theorem dX12_steersBy_239 : decode cX12_steersBy 239 = .ok (.iload 7, 2) := by decide +kernel
theorem dX12_steersBy_241 : decode cX12_steersBy 241 = .ok (.invokevirtual 180, 3) := by decide +kernel
theorem dX12_steersBy_244 : decode cX12_steersBy 244 = .ok (.return_, 1) := by decide +kernel
theorem dX12_steers_0 : decode cX12_steers 0 = .ok (.aload_n 0, 1) := by decide +kernel
theorem dX12_steers_1 : decode cX12_steers 1 = .ok (.iload_n 1, 1) := by decide +kernel
theorem dX12_steers_2 : decode cX12_steers 2 = .ok (.invokevirtual 149, 3) := by decide +kernel
theorem dX12_steers_5 : decode cX12_steers 5 = .ok (.ifCond .eq 30, 3) := by decide +kernel
theorem dX12_steers_8 : decode cX12_steers 8 = .ok (.iload_n 2, 1) := by decide +kernel
theorem dX12_steers_9 : decode cX12_steers 9 = .ok (.invokestatic 184, 3) := by decide +kernel
theorem dX12_steers_12 : decode cX12_steers 12 = .ok (.ifCond .eq 23, 3) := by decide +kernel
theorem dX12_steers_15 : decode cX12_steers 15 = .ok (.iload_n 3, 1) := by decide +kernel
theorem dX12_steers_16 : decode cX12_steers 16 = .ok (.invokestatic 184, 3) := by decide +kernel
theorem dX12_steers_19 : decode cX12_steers 19 = .ok (.ifCond .eq 16, 3) := by decide +kernel
theorem dX12_steers_22 : decode cX12_steers 22 = .ok (.iload 4, 2) := by decide +kernel
theorem dX12_steers_24 : decode cX12_steers 24 = .ok (.i2l, 1) := by decide +kernel
theorem dX12_steers_25 : decode cX12_steers 25 = .ok (.lconst 0, 1) := by decide +kernel
theorem dX12_steers_26 : decode cX12_steers 26 = .ok (.ldc2_w 137, 3) := by decide +kernel
theorem dX12_steers_29 : decode cX12_steers 29 = .ok (.invokestatic 56, 3) := by decide +kernel
theorem dX12_steers_32 : decode cX12_steers 32 = .ok (.ifCond .ne 6, 3) := by decide +kernel
theorem dX12_steers_35 : decode cX12_steers 35 = .ok (.ldc 139, 2) := by decide +kernel
theorem dX12_steers_37 : decode cX12_steers 37 = .ok (.ireturn, 1) := by decide +kernel
theorem dX12_steers_38 : decode cX12_steers 38 = .ok (.aload_n 0, 1) := by decide +kernel
theorem dX12_steers_39 : decode cX12_steers 39 = .ok (.aload_n 0, 1) := by decide +kernel
theorem dX12_steers_40 : decode cX12_steers 40 = .ok (.iload_n 1, 1) := by decide +kernel
theorem dX12_steers_41 : decode cX12_steers 41 = .ok (.iconst 0, 1) := by decide +kernel
theorem dX12_steers_42 : decode cX12_steers 42 = .ok (.invokevirtual 152, 3) := by decide +kernel
theorem dX12_steers_45 : decode cX12_steers 45 = .ok (.aload_n 0, 1) := by decide +kernel
theorem dX12_steers_46 : decode cX12_steers 46 = .ok (.iload_n 1, 1) := by decide +kernel
theorem dX12_steers_47 : decode cX12_steers 47 = .ok (.iconst 1, 1) := by decide +kernel
theorem dX12_steers_48 : decode cX12_steers 48 = .ok (.invokevirtual 152, 3) := by decide +kernel
theorem dX12_steers_51 : decode cX12_steers 51 = .ok (.iload_n 2, 1) := by decide +kernel
theorem dX12_steers_52 : decode cX12_steers 52 = .ok (.iload_n 3, 1) := by decide +kernel
theorem dX12_steers_53 : decode cX12_steers 53 = .ok (.aload_n 0, 1) := by decide +kernel
theorem dX12_steers_54 : decode cX12_steers 54 = .ok (.iload 4, 2) := by decide +kernel
theorem dX12_steers_56 : decode cX12_steers 56 = .ok (.invokevirtual 144, 3) := by decide +kernel
theorem dX12_steers_59 : decode cX12_steers 59 = .ok (.aload_n 0, 1) := by decide +kernel
theorem dX12_steers_60 : decode cX12_steers 60 = .ok (.iload 4, 2) := by decide +kernel
theorem dX12_steers_62 : decode cX12_steers 62 = .ok (.invokevirtual 140, 3) := by decide +kernel
theorem dX12_steers_65 : decode cX12_steers 65 = .ok (.invokevirtual 187, 3) := by decide +kernel
theorem dX12_steers_68 : decode cX12_steers 68 = .ok (.iload 5, 2) := by decide +kernel
theorem dX12_steers_70 : decode cX12_steers 70 = .ok (.ifCond .eq 10, 3) := by decide +kernel
theorem dX12_steers_73 : decode cX12_steers 73 = .ok (.aload_n 0, 1) := by decide +kernel
theorem dX12_steers_74 : decode cX12_steers 74 = .ok (.getfield 177, 3) := by decide +kernel
theorem dX12_steers_77 : decode cX12_steers 77 = .ok (.goto 7, 3) := by decide +kernel
theorem dX12_steers_80 : decode cX12_steers 80 = .ok (.aload_n 0, 1) := by decide +kernel
theorem dX12_steers_81 : decode cX12_steers 81 = .ok (.getfield 174, 3) := by decide +kernel
theorem dX12_steers_84 : decode cX12_steers 84 = .ok (.ireturn, 1) := by decide +kernel
theorem dX12_isBarred_0 : decode cX12_isBarred 0 = .ok (.iconst 0, 1) := by decide +kernel
theorem dX12_isBarred_1 : decode cX12_isBarred 1 = .ok (.istore_n 3, 1) := by decide +kernel
theorem dX12_isBarred_2 : decode cX12_isBarred 2 = .ok (.iload_n 3, 1) := by decide +kernel
theorem dX12_isBarred_3 : decode cX12_isBarred 3 = .ok (.aload_n 0, 1) := by decide +kernel
theorem dX12_isBarred_4 : decode cX12_isBarred 4 = .ok (.getfield 9, 3) := by decide +kernel
theorem dX12_isBarred_7 : decode cX12_isBarred 7 = .ok (.iconst 4, 1) := by decide +kernel
theorem dX12_isBarred_8 : decode cX12_isBarred 8 = .ok (.iaload, 1) := by decide +kernel
theorem dX12_isBarred_9 : decode cX12_isBarred 9 = .ok (.if_icmp .ge 69, 3) := by decide +kernel
theorem dX12_isBarred_12 : decode cX12_isBarred 12 = .ok (.bipush 49, 2) := by decide +kernel
theorem dX12_isBarred_14 : decode cX12_isBarred 14 = .ok (.iconst 4, 1) := by decide +kernel
theorem dX12_isBarred_15 : decode cX12_isBarred 15 = .ok (.iload_n 3, 1) := by decide +kernel
theorem dX12_isBarred_16 : decode cX12_isBarred 16 = .ok (.imul, 1) := by decide +kernel
theorem dX12_isBarred_17 : decode cX12_isBarred 17 = .ok (.iadd, 1) := by decide +kernel
theorem dX12_isBarred_18 : decode cX12_isBarred 18 = .ok (.istore 4, 2) := by decide +kernel
theorem dX12_isBarred_20 : decode cX12_isBarred 20 = .ok (.iload_n 1, 1) := by decide +kernel
theorem dX12_isBarred_21 : decode cX12_isBarred 21 = .ok (.aload_n 0, 1) := by decide +kernel
theorem dX12_isBarred_22 : decode cX12_isBarred 22 = .ok (.getfield 9, 3) := by decide +kernel
theorem dX12_isBarred_25 : decode cX12_isBarred 25 = .ok (.iload 4, 2) := by decide +kernel
theorem dX12_isBarred_27 : decode cX12_isBarred 27 = .ok (.iaload, 1) := by decide +kernel
theorem dX12_isBarred_28 : decode cX12_isBarred 28 = .ok (.if_icmp .lt 44, 3) := by decide +kernel
theorem dX12_isBarred_31 : decode cX12_isBarred 31 = .ok (.iload_n 1, 1) := by decide +kernel
theorem dX12_isBarred_32 : decode cX12_isBarred 32 = .ok (.aload_n 0, 1) := by decide +kernel
theorem dX12_isBarred_33 : decode cX12_isBarred 33 = .ok (.getfield 9, 3) := by decide +kernel
theorem dX12_isBarred_36 : decode cX12_isBarred 36 = .ok (.iload 4, 2) := by decide +kernel
theorem dX12_isBarred_38 : decode cX12_isBarred 38 = .ok (.iconst 2, 1) := by decide +kernel
theorem dX12_isBarred_39 : decode cX12_isBarred 39 = .ok (.iadd, 1) := by decide +kernel
theorem dX12_isBarred_40 : decode cX12_isBarred 40 = .ok (.iaload, 1) := by decide +kernel
theorem dX12_isBarred_41 : decode cX12_isBarred 41 = .ok (.if_icmp .gt 31, 3) := by decide +kernel
theorem dX12_isBarred_44 : decode cX12_isBarred 44 = .ok (.iload_n 2, 1) := by decide +kernel
theorem dX12_isBarred_45 : decode cX12_isBarred 45 = .ok (.aload_n 0, 1) := by decide +kernel
theorem dX12_isBarred_46 : decode cX12_isBarred 46 = .ok (.getfield 9, 3) := by decide +kernel
theorem dX12_isBarred_49 : decode cX12_isBarred 49 = .ok (.iload 4, 2) := by decide +kernel
theorem dX12_isBarred_51 : decode cX12_isBarred 51 = .ok (.iconst 1, 1) := by decide +kernel
theorem dX12_isBarred_52 : decode cX12_isBarred 52 = .ok (.iadd, 1) := by decide +kernel
theorem dX12_isBarred_53 : decode cX12_isBarred 53 = .ok (.iaload, 1) := by decide +kernel
theorem dX12_isBarred_54 : decode cX12_isBarred 54 = .ok (.if_icmp .lt 18, 3) := by decide +kernel
theorem dX12_isBarred_57 : decode cX12_isBarred 57 = .ok (.iload_n 2, 1) := by decide +kernel
theorem dX12_isBarred_58 : decode cX12_isBarred 58 = .ok (.aload_n 0, 1) := by decide +kernel
theorem dX12_isBarred_59 : decode cX12_isBarred 59 = .ok (.getfield 9, 3) := by decide +kernel
theorem dX12_isBarred_62 : decode cX12_isBarred 62 = .ok (.iload 4, 2) := by decide +kernel
theorem dX12_isBarred_64 : decode cX12_isBarred 64 = .ok (.iconst 3, 1) := by decide +kernel
theorem dX12_isBarred_65 : decode cX12_isBarred 65 = .ok (.iadd, 1) := by decide +kernel
theorem dX12_isBarred_66 : decode cX12_isBarred 66 = .ok (.iaload, 1) := by decide +kernel
theorem dX12_isBarred_67 : decode cX12_isBarred 67 = .ok (.if_icmp .gt 5, 3) := by decide +kernel
theorem dX12_isBarred_70 : decode cX12_isBarred 70 = .ok (.iconst 1, 1) := by decide +kernel
theorem dX12_isBarred_71 : decode cX12_isBarred 71 = .ok (.ireturn, 1) := by decide +kernel
theorem dX12_isBarred_72 : decode cX12_isBarred 72 = .ok (.iinc 3 1, 3) := by decide +kernel
theorem dX12_isBarred_75 : decode cX12_isBarred 75 = .ok (.goto (-73), 3) := by decide +kernel
theorem dX12_isBarred_78 : decode cX12_isBarred 78 = .ok (.iconst 0, 1) := by decide +kernel
theorem dX12_isBarred_79 : decode cX12_isBarred 79 = .ok (.ireturn, 1) := by decide +kernel
theorem dX12_barred_0 : decode cX12_barred 0 = .ok (.iload_n 1, 1) := by decide +kernel
theorem dX12_barred_1 : decode cX12_barred 1 = .ok (.invokestatic 184, 3) := by decide +kernel
theorem dX12_barred_4 : decode cX12_barred 4 = .ok (.ifCond .eq 10, 3) := by decide +kernel
theorem dX12_barred_7 : decode cX12_barred 7 = .ok (.iload_n 2, 1) := by decide +kernel
theorem dX12_barred_8 : decode cX12_barred 8 = .ok (.invokestatic 184, 3) := by decide +kernel
theorem dX12_barred_11 : decode cX12_barred 11 = .ok (.ifCond .ne 7, 3) := by decide +kernel
theorem dX12_barred_14 : decode cX12_barred 14 = .ok (.iconst (-1), 1) := by decide +kernel
theorem dX12_barred_15 : decode cX12_barred 15 = .ok (.goto 17, 3) := by decide +kernel
theorem dX12_barred_18 : decode cX12_barred 18 = .ok (.aload_n 0, 1) := by decide +kernel
theorem dX12_barred_19 : decode cX12_barred 19 = .ok (.iload_n 1, 1) := by decide +kernel
theorem dX12_barred_20 : decode cX12_barred 20 = .ok (.iload_n 2, 1) := by decide +kernel
theorem dX12_barred_21 : decode cX12_barred 21 = .ok (.invokevirtual 191, 3) := by decide +kernel
theorem dX12_barred_24 : decode cX12_barred 24 = .ok (.ifCond .eq 7, 3) := by decide +kernel
theorem dX12_barred_27 : decode cX12_barred 27 = .ok (.iconst 1, 1) := by decide +kernel
theorem dX12_barred_28 : decode cX12_barred 28 = .ok (.goto 4, 3) := by decide +kernel
theorem dX12_barred_31 : decode cX12_barred 31 = .ok (.iconst 0, 1) := by decide +kernel
theorem dX12_barred_32 : decode cX12_barred 32 = .ok (.ireturn, 1) := by decide +kernel
theorem dX12_leaves_0 : decode cX12_leaves 0 = .ok (.aload_n 0, 1) := by decide +kernel
theorem dX12_leaves_1 : decode cX12_leaves 1 = .ok (.iload_n 1, 1) := by decide +kernel
theorem dX12_leaves_2 : decode cX12_leaves 2 = .ok (.putfield 194, 3) := by decide +kernel
theorem dX12_leaves_5 : decode cX12_leaves 5 = .ok (.aload_n 0, 1) := by decide +kernel
theorem dX12_leaves_6 : decode cX12_leaves 6 = .ok (.iload_n 2, 1) := by decide +kernel
theorem dX12_leaves_7 : decode cX12_leaves 7 = .ok (.putfield 197, 3) := by decide +kernel
theorem dX12_leaves_10 : decode cX12_leaves 10 = .ok (.aload_n 0, 1) := by decide +kernel
theorem dX12_leaves_11 : decode cX12_leaves 11 = .ok (.iload_n 3, 1) := by decide +kernel
theorem dX12_leaves_12 : decode cX12_leaves 12 = .ok (.putfield 200, 3) := by decide +kernel
theorem dX12_leaves_15 : decode cX12_leaves 15 = .ok (.aload_n 0, 1) := by decide +kernel
theorem dX12_leaves_16 : decode cX12_leaves 16 = .ok (.iconst (-1), 1) := by decide +kernel
theorem dX12_leaves_17 : decode cX12_leaves 17 = .ok (.putfield 203, 3) := by decide +kernel
theorem dX12_leaves_20 : decode cX12_leaves 20 = .ok (.aload_n 0, 1) := by decide +kernel
theorem dX12_leaves_21 : decode cX12_leaves 21 = .ok (.iload 4, 2) := by decide +kernel
theorem dX12_leaves_23 : decode cX12_leaves 23 = .ok (.putfield 206, 3) := by decide +kernel
theorem dX12_leaves_26 : decode cX12_leaves 26 = .ok (.aload_n 0, 1) := by decide +kernel
theorem dX12_leaves_27 : decode cX12_leaves 27 = .ok (.iload 5, 2) := by decide +kernel
theorem dX12_leaves_29 : decode cX12_leaves 29 = .ok (.putfield 209, 3) := by decide +kernel
theorem dX12_leaves_32 : decode cX12_leaves 32 = .ok (.aload_n 0, 1) := by decide +kernel
theorem dX12_leaves_33 : decode cX12_leaves 33 = .ok (.aload_n 0, 1) := by decide +kernel
theorem dX12_leaves_34 : decode cX12_leaves 34 = .ok (.getfield 9, 3) := by decide +kernel
theorem dX12_leaves_37 : decode cX12_leaves 37 = .ok (.iconst 2, 1) := by decide +kernel
theorem dX12_leaves_38 : decode cX12_leaves 38 = .ok (.iaload, 1) := by decide +kernel
theorem dX12_leaves_39 : decode cX12_leaves 39 = .ok (.putfield 212, 3) := by decide +kernel
theorem dX12_leaves_42 : decode cX12_leaves 42 = .ok (.aload_n 0, 1) := by decide +kernel
theorem dX12_leaves_43 : decode cX12_leaves 43 = .ok (.iconst 0, 1) := by decide +kernel
theorem dX12_leaves_44 : decode cX12_leaves 44 = .ok (.putfield 215, 3) := by decide +kernel
theorem dX12_leaves_47 : decode cX12_leaves 47 = .ok (.aload_n 0, 1) := by decide +kernel
theorem dX12_leaves_48 : decode cX12_leaves 48 = .ok (.iload 6, 2) := by decide +kernel
theorem dX12_leaves_50 : decode cX12_leaves 50 = .ok (.putfield 218, 3) := by decide +kernel
theorem dX12_leaves_53 : decode cX12_leaves 53 = .ok (.aload_n 0, 1) := by decide +kernel
theorem dX12_leaves_54 : decode cX12_leaves 54 = .ok (.bipush (-4), 2) := by decide +kernel
theorem dX12_leaves_56 : decode cX12_leaves 56 = .ok (.putfield 221, 3) := by decide +kernel
theorem dX12_leaves_59 : decode cX12_leaves 59 = .ok (.return_, 1) := by decide +kernel
theorem dX12_leavesOne_0 : decode cX12_leavesOne 0 = .ok (.aload_n 0, 1) := by decide +kernel
theorem dX12_leavesOne_1 : decode cX12_leavesOne 1 = .ok (.aload_n 0, 1) := by decide +kernel
theorem dX12_leavesOne_2 : decode cX12_leavesOne 2 = .ok (.iload_n 1, 1) := by decide +kernel
theorem dX12_leavesOne_3 : decode cX12_leavesOne 3 = .ok (.iconst 0, 1) := by decide +kernel
theorem dX12_leavesOne_4 : decode cX12_leavesOne 4 = .ok (.invokevirtual 152, 3) := by decide +kernel
theorem dX12_leavesOne_7 : decode cX12_leavesOne 7 = .ok (.aload_n 0, 1) := by decide +kernel
theorem dX12_leavesOne_8 : decode cX12_leavesOne 8 = .ok (.iload_n 1, 1) := by decide +kernel
theorem dX12_leavesOne_9 : decode cX12_leavesOne 9 = .ok (.iconst 1, 1) := by decide +kernel
theorem dX12_leavesOne_10 : decode cX12_leavesOne 10 = .ok (.invokevirtual 152, 3) := by decide +kernel
theorem dX12_leavesOne_13 : decode cX12_leavesOne 13 = .ok (.aload_n 0, 1) := by decide +kernel
theorem dX12_leavesOne_14 : decode cX12_leavesOne 14 = .ok (.iload_n 1, 1) := by decide +kernel
theorem dX12_leavesOne_15 : decode cX12_leavesOne 15 = .ok (.iconst 2, 1) := by decide +kernel
theorem dX12_leavesOne_16 : decode cX12_leavesOne 16 = .ok (.invokevirtual 152, 3) := by decide +kernel
theorem dX12_leavesOne_19 : decode cX12_leavesOne 19 = .ok (.iload_n 2, 1) := by decide +kernel
theorem dX12_leavesOne_20 : decode cX12_leavesOne 20 = .ok (.iload_n 3, 1) := by decide +kernel
theorem dX12_leavesOne_21 : decode cX12_leavesOne 21 = .ok (.iload 4, 2) := by decide +kernel
theorem dX12_leavesOne_23 : decode cX12_leavesOne 23 = .ok (.invokevirtual 224, 3) := by decide +kernel
theorem dX12_leavesOne_26 : decode cX12_leavesOne 26 = .ok (.return_, 1) := by decide +kernel
theorem dX12_hasLanded_0 : decode cX12_hasLanded 0 = .ok (.aload_n 0, 1) := by decide +kernel
theorem dX12_hasLanded_1 : decode cX12_hasLanded 1 = .ok (.getfield 212, 3) := by decide +kernel
theorem dX12_hasLanded_4 : decode cX12_hasLanded 4 = .ok (.ifCond .ne 7, 3) := by decide +kernel
theorem dX12_hasLanded_7 : decode cX12_hasLanded 7 = .ok (.iconst 1, 1) := by decide +kernel
theorem dX12_hasLanded_8 : decode cX12_hasLanded 8 = .ok (.goto 4, 3) := by decide +kernel
theorem dX12_hasLanded_11 : decode cX12_hasLanded 11 = .ok (.iconst 0, 1) := by decide +kernel
theorem dX12_hasLanded_12 : decode cX12_hasLanded 12 = .ok (.ireturn, 1) := by decide +kernel
theorem dX12_goesDown_0 : decode cX12_goesDown 0 = .ok (.aload_n 0, 1) := by decide +kernel
theorem dX12_goesDown_1 : decode cX12_goesDown 1 = .ok (.aload_n 0, 1) := by decide +kernel
theorem dX12_goesDown_2 : decode cX12_goesDown 2 = .ok (.getfield 212, 3) := by decide +kernel
theorem dX12_goesDown_5 : decode cX12_goesDown 5 = .ok (.iload_n 1, 1) := by decide +kernel
theorem dX12_goesDown_6 : decode cX12_goesDown 6 = .ok (.if_icmp .le 12, 3) := by decide +kernel
theorem dX12_goesDown_9 : decode cX12_goesDown 9 = .ok (.aload_n 0, 1) := by decide +kernel
theorem dX12_goesDown_10 : decode cX12_goesDown 10 = .ok (.getfield 212, 3) := by decide +kernel
theorem dX12_goesDown_13 : decode cX12_goesDown 13 = .ok (.iload_n 1, 1) := by decide +kernel
theorem dX12_goesDown_14 : decode cX12_goesDown 14 = .ok (.isub, 1) := by decide +kernel
theorem dX12_goesDown_15 : decode cX12_goesDown 15 = .ok (.goto 4, 3) := by decide +kernel
theorem dX12_goesDown_18 : decode cX12_goesDown 18 = .ok (.iconst 0, 1) := by decide +kernel
theorem dX12_goesDown_19 : decode cX12_goesDown 19 = .ok (.putfield 212, 3) := by decide +kernel
theorem dX12_goesDown_22 : decode cX12_goesDown 22 = .ok (.return_, 1) := by decide +kernel
theorem dX12_drawn_0 : decode cX12_drawn 0 = .ok (.aload_n 0, 1) := by decide +kernel
theorem dX12_drawn_1 : decode cX12_drawn 1 = .ok (.aload_n 0, 1) := by decide +kernel
theorem dX12_drawn_2 : decode cX12_drawn 2 = .ok (.getfield 218, 3) := by decide +kernel
theorem dX12_drawn_5 : decode cX12_drawn 5 = .ok (.ldc 227, 2) := by decide +kernel
theorem dX12_drawn_7 : decode cX12_drawn 7 = .ok (.imul, 1) := by decide +kernel
theorem dX12_drawn_8 : decode cX12_drawn 8 = .ok (.sipush 12345, 3) := by decide +kernel
theorem dX12_drawn_11 : decode cX12_drawn 11 = .ok (.iadd, 1) := by decide +kernel
theorem dX12_drawn_12 : decode cX12_drawn 12 = .ok (.putfield 218, 3) := by decide +kernel
theorem dX12_drawn_15 : decode cX12_drawn 15 = .ok (.aload_n 0, 1) := by decide +kernel
theorem dX12_drawn_16 : decode cX12_drawn 16 = .ok (.getfield 218, 3) := by decide +kernel
theorem dX12_drawn_19 : decode cX12_drawn 19 = .ok (.ldc 228, 2) := by decide +kernel
theorem dX12_drawn_21 : decode cX12_drawn 21 = .ok (.iand, 1) := by decide +kernel
theorem dX12_drawn_22 : decode cX12_drawn 22 = .ok (.ldc 229, 2) := by decide +kernel
theorem dX12_drawn_24 : decode cX12_drawn 24 = .ok (.idiv, 1) := by decide +kernel
theorem dX12_drawn_25 : decode cX12_drawn 25 = .ok (.iload_n 1, 1) := by decide +kernel
theorem dX12_drawn_26 : decode cX12_drawn 26 = .ok (.irem, 1) := by decide +kernel
theorem dX12_drawn_27 : decode cX12_drawn 27 = .ok (.ireturn, 1) := by decide +kernel
theorem dX12_holdsWay_0 : decode cX12_holdsWay 0 = .ok (.aload_n 0, 1) := by decide +kernel
theorem dX12_holdsWay_1 : decode cX12_holdsWay 1 = .ok (.getfield 194, 3) := by decide +kernel
theorem dX12_holdsWay_4 : decode cX12_holdsWay 4 = .ok (.aload_n 0, 1) := by decide +kernel
theorem dX12_holdsWay_5 : decode cX12_holdsWay 5 = .ok (.getfield 197, 3) := by decide +kernel
theorem dX12_holdsWay_8 : decode cX12_holdsWay 8 = .ok (.invokestatic 161, 3) := by decide +kernel
theorem dX12_holdsWay_11 : decode cX12_holdsWay 11 = .ok (.istore_n 1, 1) := by decide +kernel
theorem dX12_holdsWay_12 : decode cX12_holdsWay 12 = .ok (.aload_n 0, 1) := by decide +kernel
theorem dX12_holdsWay_13 : decode cX12_holdsWay 13 = .ok (.aload_n 0, 1) := by decide +kernel
theorem dX12_holdsWay_14 : decode cX12_holdsWay 14 = .ok (.getfield 203, 3) := by decide +kernel
theorem dX12_holdsWay_17 : decode cX12_holdsWay 17 = .ok (.iconst 1, 1) := by decide +kernel
theorem dX12_holdsWay_18 : decode cX12_holdsWay 18 = .ok (.if_icmp .eq 20, 3) := by decide +kernel
theorem dX12_holdsWay_21 : decode cX12_holdsWay 21 = .ok (.aload_n 0, 1) := by decide +kernel
theorem dX12_holdsWay_22 : decode cX12_holdsWay 22 = .ok (.getfield 203, 3) := by decide +kernel
theorem dX12_holdsWay_25 : decode cX12_holdsWay 25 = .ok (.iconst 5, 1) := by decide +kernel
theorem dX12_holdsWay_26 : decode cX12_holdsWay 26 = .ok (.if_icmp .eq 12, 3) := by decide +kernel
theorem dX12_holdsWay_29 : decode cX12_holdsWay 29 = .ok (.aload_n 0, 1) := by decide +kernel
theorem dX12_holdsWay_30 : decode cX12_holdsWay 30 = .ok (.getfield 203, 3) := by decide +kernel
theorem dX12_holdsWay_33 : decode cX12_holdsWay 33 = .ok (.bipush 7, 2) := by decide +kernel
theorem dX12_holdsWay_35 : decode cX12_holdsWay 35 = .ok (.if_icmp .ne 7, 3) := by decide +kernel
theorem dX12_holdsWay_38 : decode cX12_holdsWay 38 = .ok (.iload_n 1, 1) := by decide +kernel
theorem dX12_holdsWay_39 : decode cX12_holdsWay 39 = .ok (.goto 35, 3) := by decide +kernel
theorem dX12_holdsWay_42 : decode cX12_holdsWay 42 = .ok (.aload_n 0, 1) := by decide +kernel
theorem dX12_holdsWay_43 : decode cX12_holdsWay 43 = .ok (.getfield 203, 3) := by decide +kernel
theorem dX12_holdsWay_46 : decode cX12_holdsWay 46 = .ok (.iconst 2, 1) := by decide +kernel
theorem dX12_holdsWay_47 : decode cX12_holdsWay 47 = .ok (.if_icmp .eq 21, 3) := by decide +kernel
theorem dX12_holdsWay_50 : decode cX12_holdsWay 50 = .ok (.aload_n 0, 1) := by decide +kernel
theorem dX12_holdsWay_51 : decode cX12_holdsWay 51 = .ok (.getfield 203, 3) := by decide +kernel
theorem dX12_holdsWay_54 : decode cX12_holdsWay 54 = .ok (.bipush 6, 2) := by decide +kernel
theorem dX12_holdsWay_56 : decode cX12_holdsWay 56 = .ok (.if_icmp .eq 12, 3) := by decide +kernel
theorem dX12_holdsWay_59 : decode cX12_holdsWay 59 = .ok (.aload_n 0, 1) := by decide +kernel
theorem dX12_holdsWay_60 : decode cX12_holdsWay 60 = .ok (.getfield 203, 3) := by decide +kernel
theorem dX12_holdsWay_63 : decode cX12_holdsWay 63 = .ok (.bipush 8, 2) := by decide +kernel
theorem dX12_holdsWay_65 : decode cX12_holdsWay 65 = .ok (.if_icmp .ne 8, 3) := by decide +kernel
theorem dX12_holdsWay_68 : decode cX12_holdsWay 68 = .ok (.iload_n 1, 1) := by decide +kernel
theorem dX12_holdsWay_69 : decode cX12_holdsWay 69 = .ok (.ineg, 1) := by decide +kernel
theorem dX12_holdsWay_70 : decode cX12_holdsWay 70 = .ok (.goto 4, 3) := by decide +kernel
theorem dX12_holdsWay_73 : decode cX12_holdsWay 73 = .ok (.iconst 0, 1) := by decide +kernel
theorem dX12_holdsWay_74 : decode cX12_holdsWay 74 = .ok (.putfield 174, 3) := by decide +kernel
theorem dX12_holdsWay_77 : decode cX12_holdsWay 77 = .ok (.aload_n 0, 1) := by decide +kernel
theorem dX12_holdsWay_78 : decode cX12_holdsWay 78 = .ok (.aload_n 0, 1) := by decide +kernel
theorem dX12_holdsWay_79 : decode cX12_holdsWay 79 = .ok (.getfield 203, 3) := by decide +kernel
theorem dX12_holdsWay_82 : decode cX12_holdsWay 82 = .ok (.iconst 3, 1) := by decide +kernel
theorem dX12_holdsWay_83 : decode cX12_holdsWay 83 = .ok (.if_icmp .eq 20, 3) := by decide +kernel
theorem dX12_holdsWay_86 : decode cX12_holdsWay 86 = .ok (.aload_n 0, 1) := by decide +kernel
theorem dX12_holdsWay_87 : decode cX12_holdsWay 87 = .ok (.getfield 203, 3) := by decide +kernel
theorem dX12_holdsWay_90 : decode cX12_holdsWay 90 = .ok (.iconst 5, 1) := by decide +kernel
theorem dX12_holdsWay_91 : decode cX12_holdsWay 91 = .ok (.if_icmp .eq 12, 3) := by decide +kernel
theorem dX12_holdsWay_94 : decode cX12_holdsWay 94 = .ok (.aload_n 0, 1) := by decide +kernel
theorem dX12_holdsWay_95 : decode cX12_holdsWay 95 = .ok (.getfield 203, 3) := by decide +kernel
theorem dX12_holdsWay_98 : decode cX12_holdsWay 98 = .ok (.bipush 6, 2) := by decide +kernel
theorem dX12_holdsWay_100 : decode cX12_holdsWay 100 = .ok (.if_icmp .ne 7, 3) := by decide +kernel
theorem dX12_holdsWay_103 : decode cX12_holdsWay 103 = .ok (.iload_n 1, 1) := by decide +kernel
theorem dX12_holdsWay_104 : decode cX12_holdsWay 104 = .ok (.goto 35, 3) := by decide +kernel
theorem dX12_holdsWay_107 : decode cX12_holdsWay 107 = .ok (.aload_n 0, 1) := by decide +kernel
theorem dX12_holdsWay_108 : decode cX12_holdsWay 108 = .ok (.getfield 203, 3) := by decide +kernel
theorem dX12_holdsWay_111 : decode cX12_holdsWay 111 = .ok (.iconst 4, 1) := by decide +kernel
theorem dX12_holdsWay_112 : decode cX12_holdsWay 112 = .ok (.if_icmp .eq 21, 3) := by decide +kernel
theorem dX12_holdsWay_115 : decode cX12_holdsWay 115 = .ok (.aload_n 0, 1) := by decide +kernel
theorem dX12_holdsWay_116 : decode cX12_holdsWay 116 = .ok (.getfield 203, 3) := by decide +kernel
theorem dX12_holdsWay_119 : decode cX12_holdsWay 119 = .ok (.bipush 7, 2) := by decide +kernel
theorem dX12_holdsWay_121 : decode cX12_holdsWay 121 = .ok (.if_icmp .eq 12, 3) := by decide +kernel
theorem dX12_holdsWay_124 : decode cX12_holdsWay 124 = .ok (.aload_n 0, 1) := by decide +kernel
theorem dX12_holdsWay_125 : decode cX12_holdsWay 125 = .ok (.getfield 203, 3) := by decide +kernel
theorem dX12_holdsWay_128 : decode cX12_holdsWay 128 = .ok (.bipush 8, 2) := by decide +kernel
theorem dX12_holdsWay_130 : decode cX12_holdsWay 130 = .ok (.if_icmp .ne 8, 3) := by decide +kernel
theorem dX12_holdsWay_133 : decode cX12_holdsWay 133 = .ok (.iload_n 1, 1) := by decide +kernel
theorem dX12_holdsWay_134 : decode cX12_holdsWay 134 = .ok (.ineg, 1) := by decide +kernel
theorem dX12_holdsWay_135 : decode cX12_holdsWay 135 = .ok (.goto 4, 3) := by decide +kernel
theorem dX12_holdsWay_138 : decode cX12_holdsWay 138 = .ok (.iconst 0, 1) := by decide +kernel
theorem dX12_holdsWay_139 : decode cX12_holdsWay 139 = .ok (.putfield 177, 3) := by decide +kernel
theorem dX12_holdsWay_142 : decode cX12_holdsWay 142 = .ok (.return_, 1) := by decide +kernel
theorem dX12_goesSecond_0 : decode cX12_goesSecond 0 = .ok (.aload_n 0, 1) := by decide +kernel
theorem dX12_goesSecond_1 : decode cX12_goesSecond 1 = .ok (.getfield 212, 3) := by decide +kernel
theorem dX12_goesSecond_4 : decode cX12_goesSecond 4 = .ok (.sipush 300, 3) := by decide +kernel
theorem dX12_goesSecond_7 : decode cX12_goesSecond 7 = .ok (.idiv, 1) := by decide +kernel
theorem dX12_goesSecond_8 : decode cX12_goesSecond 8 = .ok (.bipush 9, 2) := by decide +kernel
theorem dX12_goesSecond_10 : decode cX12_goesSecond 10 = .ok (.invokestatic 121, 3) := by decide +kernel
theorem dX12_goesSecond_13 : decode cX12_goesSecond 13 = .ok (.istore_n 1, 1) := by decide +kernel
theorem dX12_goesSecond_14 : decode cX12_goesSecond 14 = .ok (.aload_n 0, 1) := by decide +kernel
theorem dX12_goesSecond_15 : decode cX12_goesSecond 15 = .ok (.iload_n 1, 1) := by decide +kernel
theorem dX12_goesSecond_16 : decode cX12_goesSecond 16 = .ok (.invokevirtual 144, 3) := by decide +kernel
theorem dX12_goesSecond_19 : decode cX12_goesSecond 19 = .ok (.istore_n 2, 1) := by decide +kernel
theorem dX12_goesSecond_20 : decode cX12_goesSecond 20 = .ok (.aload_n 0, 1) := by decide +kernel
theorem dX12_goesSecond_21 : decode cX12_goesSecond 21 = .ok (.iload_n 1, 1) := by decide +kernel
theorem dX12_goesSecond_22 : decode cX12_goesSecond 22 = .ok (.invokevirtual 140, 3) := by decide +kernel
theorem dX12_goesSecond_25 : decode cX12_goesSecond 25 = .ok (.istore_n 3, 1) := by decide +kernel
theorem dX12_goesSecond_26 : decode cX12_goesSecond 26 = .ok (.aload_n 0, 1) := by decide +kernel
theorem dX12_goesSecond_27 : decode cX12_goesSecond 27 = .ok (.getfield 215, 3) := by decide +kernel
theorem dX12_goesSecond_30 : decode cX12_goesSecond 30 = .ok (.aload_n 0, 1) := by decide +kernel
theorem dX12_goesSecond_31 : decode cX12_goesSecond 31 = .ok (.getfield 200, 3) := by decide +kernel
theorem dX12_goesSecond_34 : decode cX12_goesSecond 34 = .ok (.if_icmp .ge 96, 3) := by decide +kernel
theorem dX12_goesSecond_37 : decode cX12_goesSecond 37 = .ok (.aload_n 0, 1) := by decide +kernel
theorem dX12_goesSecond_38 : decode cX12_goesSecond 38 = .ok (.getfield 215, 3) := by decide +kernel
theorem dX12_goesSecond_41 : decode cX12_goesSecond 41 = .ok (.bipush 10, 2) := by decide +kernel
theorem dX12_goesSecond_43 : decode cX12_goesSecond 43 = .ok (.if_icmp .ge 13, 3) := by decide +kernel
theorem dX12_goesSecond_46 : decode cX12_goesSecond 46 = .ok (.bipush 10, 2) := by decide +kernel
theorem dX12_goesSecond_48 : decode cX12_goesSecond 48 = .ok (.aload_n 0, 1) := by decide +kernel
theorem dX12_goesSecond_49 : decode cX12_goesSecond 49 = .ok (.getfield 215, 3) := by decide +kernel
theorem dX12_goesSecond_52 : decode cX12_goesSecond 52 = .ok (.isub, 1) := by decide +kernel
theorem dX12_goesSecond_53 : decode cX12_goesSecond 53 = .ok (.goto 4, 3) := by decide +kernel
theorem dX12_goesSecond_56 : decode cX12_goesSecond 56 = .ok (.iconst 0, 1) := by decide +kernel
theorem dX12_goesSecond_57 : decode cX12_goesSecond 57 = .ok (.istore 4, 2) := by decide +kernel
theorem dX12_goesSecond_59 : decode cX12_goesSecond 59 = .ok (.aload_n 0, 1) := by decide +kernel
theorem dX12_goesSecond_60 : decode cX12_goesSecond 60 = .ok (.aload_n 0, 1) := by decide +kernel
theorem dX12_goesSecond_61 : decode cX12_goesSecond 61 = .ok (.getfield 206, 3) := by decide +kernel
theorem dX12_goesSecond_64 : decode cX12_goesSecond 64 = .ok (.aload_n 0, 1) := by decide +kernel
theorem dX12_goesSecond_65 : decode cX12_goesSecond 65 = .ok (.getfield 9, 3) := by decide +kernel
theorem dX12_goesSecond_68 : decode cX12_goesSecond 68 = .ok (.iconst 1, 1) := by decide +kernel
theorem dX12_goesSecond_69 : decode cX12_goesSecond 69 = .ok (.iaload, 1) := by decide +kernel
theorem dX12_goesSecond_70 : decode cX12_goesSecond 70 = .ok (.iload 4, 2) := by decide +kernel
theorem dX12_goesSecond_72 : decode cX12_goesSecond 72 = .ok (.imul, 1) := by decide +kernel
theorem dX12_goesSecond_73 : decode cX12_goesSecond 73 = .ok (.bipush 10, 2) := by decide +kernel
theorem dX12_goesSecond_75 : decode cX12_goesSecond 75 = .ok (.idiv, 1) := by decide +kernel
theorem dX12_goesSecond_76 : decode cX12_goesSecond 76 = .ok (.iadd, 1) := by decide +kernel
theorem dX12_goesSecond_77 : decode cX12_goesSecond 77 = .ok (.aload_n 0, 1) := by decide +kernel
theorem dX12_goesSecond_78 : decode cX12_goesSecond 78 = .ok (.getfield 194, 3) := by decide +kernel
theorem dX12_goesSecond_81 : decode cX12_goesSecond 81 = .ok (.iload_n 2, 1) := by decide +kernel
theorem dX12_goesSecond_82 : decode cX12_goesSecond 82 = .ok (.invokestatic 168, 3) := by decide +kernel
theorem dX12_goesSecond_85 : decode cX12_goesSecond 85 = .ok (.iconst 2, 1) := by decide +kernel
theorem dX12_goesSecond_86 : decode cX12_goesSecond 86 = .ok (.idiv, 1) := by decide +kernel
theorem dX12_goesSecond_87 : decode cX12_goesSecond 87 = .ok (.iadd, 1) := by decide +kernel
theorem dX12_goesSecond_88 : decode cX12_goesSecond 88 = .ok (.invokestatic 230, 3) := by decide +kernel
theorem dX12_goesSecond_91 : decode cX12_goesSecond 91 = .ok (.putfield 206, 3) := by decide +kernel
theorem dX12_goesSecond_94 : decode cX12_goesSecond 94 = .ok (.aload_n 0, 1) := by decide +kernel
theorem dX12_goesSecond_95 : decode cX12_goesSecond 95 = .ok (.aload_n 0, 1) := by decide +kernel
theorem dX12_goesSecond_96 : decode cX12_goesSecond 96 = .ok (.getfield 209, 3) := by decide +kernel
theorem dX12_goesSecond_99 : decode cX12_goesSecond 99 = .ok (.aload_n 0, 1) := by decide +kernel
theorem dX12_goesSecond_100 : decode cX12_goesSecond 100 = .ok (.getfield 194, 3) := by decide +kernel
theorem dX12_goesSecond_103 : decode cX12_goesSecond 103 = .ok (.iload_n 3, 1) := by decide +kernel
theorem dX12_goesSecond_104 : decode cX12_goesSecond 104 = .ok (.invokestatic 168, 3) := by decide +kernel
theorem dX12_goesSecond_107 : decode cX12_goesSecond 107 = .ok (.iconst 2, 1) := by decide +kernel
theorem dX12_goesSecond_108 : decode cX12_goesSecond 108 = .ok (.idiv, 1) := by decide +kernel
theorem dX12_goesSecond_109 : decode cX12_goesSecond 109 = .ok (.iadd, 1) := by decide +kernel
theorem dX12_goesSecond_110 : decode cX12_goesSecond 110 = .ok (.invokestatic 230, 3) := by decide +kernel
theorem dX12_goesSecond_113 : decode cX12_goesSecond 113 = .ok (.putfield 209, 3) := by decide +kernel
theorem dX12_goesSecond_116 : decode cX12_goesSecond 116 = .ok (.aload_n 0, 1) := by decide +kernel
theorem dX12_goesSecond_117 : decode cX12_goesSecond 117 = .ok (.aload_n 0, 1) := by decide +kernel
theorem dX12_goesSecond_118 : decode cX12_goesSecond 118 = .ok (.getfield 194, 3) := by decide +kernel
theorem dX12_goesSecond_121 : decode cX12_goesSecond 121 = .ok (.invokestatic 155, 3) := by decide +kernel
theorem dX12_goesSecond_124 : decode cX12_goesSecond 124 = .ok (.invokevirtual 233, 3) := by decide +kernel
theorem dX12_goesSecond_127 : decode cX12_goesSecond 127 = .ok (.goto 173, 3) := by decide +kernel
theorem dX12_goesSecond_130 : decode cX12_goesSecond 130 = .ok (.aload_n 0, 1) := by decide +kernel
theorem dX12_goesSecond_131 : decode cX12_goesSecond 131 = .ok (.getfield 221, 3) := by decide +kernel
theorem dX12_goesSecond_134 : decode cX12_goesSecond 134 = .ok (.ifCond .ge 27, 3) := by decide +kernel
theorem dX12_goesSecond_137 : decode cX12_goesSecond 137 = .ok (.aload_n 0, 1) := by decide +kernel
theorem dX12_goesSecond_138 : decode cX12_goesSecond 138 = .ok (.aload_n 0, 1) := by decide +kernel
theorem dX12_goesSecond_139 : decode cX12_goesSecond 139 = .ok (.getfield 206, 3) := by decide +kernel
theorem dX12_goesSecond_142 : decode cX12_goesSecond 142 = .ok (.putfield 237, 3) := by decide +kernel
theorem dX12_goesSecond_145 : decode cX12_goesSecond 145 = .ok (.aload_n 0, 1) := by decide +kernel
theorem dX12_goesSecond_146 : decode cX12_goesSecond 146 = .ok (.aload_n 0, 1) := by decide +kernel
theorem dX12_goesSecond_147 : decode cX12_goesSecond 147 = .ok (.getfield 209, 3) := by decide +kernel
theorem dX12_goesSecond_150 : decode cX12_goesSecond 150 = .ok (.putfield 240, 3) := by decide +kernel
theorem dX12_goesSecond_153 : decode cX12_goesSecond 153 = .ok (.aload_n 0, 1) := by decide +kernel
theorem dX12_goesSecond_154 : decode cX12_goesSecond 154 = .ok (.aload_n 0, 1) := by decide +kernel
theorem dX12_goesSecond_155 : decode cX12_goesSecond 155 = .ok (.getfield 215, 3) := by decide +kernel
theorem dX12_goesSecond_158 : decode cX12_goesSecond 158 = .ok (.putfield 221, 3) := by decide +kernel
theorem dX12_goesSecond_161 : decode cX12_goesSecond 161 = .ok (.iload_n 1, 1) := by decide +kernel
theorem dX12_goesSecond_162 : decode cX12_goesSecond 162 = .ok (.ifCond .ne 36, 3) := by decide +kernel
theorem dX12_goesSecond_165 : decode cX12_goesSecond 165 = .ok (.aload_n 0, 1) := by decide +kernel
theorem dX12_goesSecond_166 : decode cX12_goesSecond 166 = .ok (.getfield 9, 3) := by decide +kernel
theorem dX12_goesSecond_169 : decode cX12_goesSecond 169 = .ok (.iconst 0, 1) := by decide +kernel
theorem dX12_goesSecond_170 : decode cX12_goesSecond 170 = .ok (.iaload, 1) := by decide +kernel
theorem dX12_goesSecond_171 : decode cX12_goesSecond 171 = .ok (.ifCond .le 27, 3) := by decide +kernel
theorem dX12_goesSecond_174 : decode cX12_goesSecond 174 = .ok (.iload_n 2, 1) := by decide +kernel
theorem dX12_goesSecond_175 : decode cX12_goesSecond 175 = .ok (.aload_n 0, 1) := by decide +kernel
theorem dX12_goesSecond_176 : decode cX12_goesSecond 176 = .ok (.iconst 2, 1) := by decide +kernel
theorem dX12_goesSecond_177 : decode cX12_goesSecond 177 = .ok (.aload_n 0, 1) := by decide +kernel
theorem dX12_goesSecond_178 : decode cX12_goesSecond 178 = .ok (.getfield 9, 3) := by decide +kernel
theorem dX12_goesSecond_181 : decode cX12_goesSecond 181 = .ok (.iconst 0, 1) := by decide +kernel
theorem dX12_goesSecond_182 : decode cX12_goesSecond 182 = .ok (.iaload, 1) := by decide +kernel
theorem dX12_goesSecond_183 : decode cX12_goesSecond 183 = .ok (.imul, 1) := by decide +kernel
theorem dX12_goesSecond_184 : decode cX12_goesSecond 184 = .ok (.iconst 1, 1) := by decide +kernel
theorem dX12_goesSecond_185 : decode cX12_goesSecond 185 = .ok (.iadd, 1) := by decide +kernel
theorem dX12_goesSecond_186 : decode cX12_goesSecond 186 = .ok (.invokevirtual 243, 3) := by decide +kernel
theorem dX12_goesSecond_189 : decode cX12_goesSecond 189 = .ok (.aload_n 0, 1) := by decide +kernel
theorem dX12_goesSecond_190 : decode cX12_goesSecond 190 = .ok (.getfield 9, 3) := by decide +kernel
theorem dX12_goesSecond_193 : decode cX12_goesSecond 193 = .ok (.iconst 0, 1) := by decide +kernel
theorem dX12_goesSecond_194 : decode cX12_goesSecond 194 = .ok (.iaload, 1) := by decide +kernel
theorem dX12_goesSecond_195 : decode cX12_goesSecond 195 = .ok (.isub, 1) := by decide +kernel
theorem dX12_goesSecond_196 : decode cX12_goesSecond 196 = .ok (.iadd, 1) := by decide +kernel
theorem dX12_goesSecond_197 : decode cX12_goesSecond 197 = .ok (.istore_n 2, 1) := by decide +kernel
theorem dX12_goesSecond_198 : decode cX12_goesSecond 198 = .ok (.aload_n 0, 1) := by decide +kernel
theorem dX12_goesSecond_199 : decode cX12_goesSecond 199 = .ok (.getfield 203, 3) := by decide +kernel
theorem dX12_goesSecond_202 : decode cX12_goesSecond 202 = .ok (.iconst (-1), 1) := by decide +kernel
theorem dX12_goesSecond_203 : decode cX12_goesSecond 203 = .ok (.if_icmp .ne 28, 3) := by decide +kernel
theorem dX12_goesSecond_206 : decode cX12_goesSecond 206 = .ok (.aload_n 0, 1) := by decide +kernel
theorem dX12_goesSecond_207 : decode cX12_goesSecond 207 = .ok (.aload_n 0, 1) := by decide +kernel
theorem dX12_goesSecond_208 : decode cX12_goesSecond 208 = .ok (.getfield 194, 3) := by decide +kernel
theorem dX12_goesSecond_211 : decode cX12_goesSecond 211 = .ok (.aload_n 0, 1) := by decide +kernel
theorem dX12_goesSecond_212 : decode cX12_goesSecond 212 = .ok (.getfield 197, 3) := by decide +kernel
theorem dX12_goesSecond_215 : decode cX12_goesSecond 215 = .ok (.aload_n 0, 1) := by decide +kernel
theorem dX12_goesSecond_216 : decode cX12_goesSecond 216 = .ok (.getfield 206, 3) := by decide +kernel
theorem dX12_goesSecond_219 : decode cX12_goesSecond 219 = .ok (.aload_n 0, 1) := by decide +kernel
theorem dX12_goesSecond_220 : decode cX12_goesSecond 220 = .ok (.getfield 209, 3) := by decide +kernel
theorem dX12_goesSecond_223 : decode cX12_goesSecond 223 = .ok (.iload_n 2, 1) := by decide +kernel
theorem dX12_goesSecond_224 : decode cX12_goesSecond 224 = .ok (.iload_n 3, 1) := by decide +kernel
theorem dX12_goesSecond_225 : decode cX12_goesSecond 225 = .ok (.invokevirtual 187, 3) := by decide +kernel
theorem dX12_goesSecond_228 : decode cX12_goesSecond 228 = .ok (.goto 7, 3) := by decide +kernel
theorem dX12_goesSecond_231 : decode cX12_goesSecond 231 = .ok (.aload_n 0, 1) := by decide +kernel
theorem dX12_goesSecond_232 : decode cX12_goesSecond 232 = .ok (.invokevirtual 246, 3) := by decide +kernel
theorem dX12_goesSecond_235 : decode cX12_goesSecond 235 = .ok (.aload_n 0, 1) := by decide +kernel
theorem dX12_goesSecond_236 : decode cX12_goesSecond 236 = .ok (.aload_n 0, 1) := by decide +kernel
theorem dX12_goesSecond_237 : decode cX12_goesSecond 237 = .ok (.getfield 206, 3) := by decide +kernel
theorem dX12_goesSecond_240 : decode cX12_goesSecond 240 = .ok (.aload_n 0, 1) := by decide +kernel
theorem dX12_goesSecond_241 : decode cX12_goesSecond 241 = .ok (.getfield 174, 3) := by decide +kernel
theorem dX12_goesSecond_244 : decode cX12_goesSecond 244 = .ok (.iadd, 1) := by decide +kernel
theorem dX12_goesSecond_245 : decode cX12_goesSecond 245 = .ok (.aload_n 0, 1) := by decide +kernel
theorem dX12_goesSecond_246 : decode cX12_goesSecond 246 = .ok (.getfield 194, 3) := by decide +kernel
theorem dX12_goesSecond_249 : decode cX12_goesSecond 249 = .ok (.iload_n 2, 1) := by decide +kernel
theorem dX12_goesSecond_250 : decode cX12_goesSecond 250 = .ok (.invokestatic 168, 3) := by decide +kernel
theorem dX12_goesSecond_253 : decode cX12_goesSecond 253 = .ok (.iadd, 1) := by decide +kernel
theorem dX12_goesSecond_254 : decode cX12_goesSecond 254 = .ok (.invokestatic 230, 3) := by decide +kernel
theorem dX12_goesSecond_257 : decode cX12_goesSecond 257 = .ok (.putfield 206, 3) := by decide +kernel
theorem dX12_goesSecond_260 : decode cX12_goesSecond 260 = .ok (.aload_n 0, 1) := by decide +kernel
theorem dX12_goesSecond_261 : decode cX12_goesSecond 261 = .ok (.aload_n 0, 1) := by decide +kernel
theorem dX12_goesSecond_262 : decode cX12_goesSecond 262 = .ok (.getfield 209, 3) := by decide +kernel
theorem dX12_goesSecond_265 : decode cX12_goesSecond 265 = .ok (.aload_n 0, 1) := by decide +kernel
theorem dX12_goesSecond_266 : decode cX12_goesSecond 266 = .ok (.getfield 177, 3) := by decide +kernel
theorem dX12_goesSecond_269 : decode cX12_goesSecond 269 = .ok (.iadd, 1) := by decide +kernel
theorem dX12_goesSecond_270 : decode cX12_goesSecond 270 = .ok (.aload_n 0, 1) := by decide +kernel
theorem dX12_goesSecond_271 : decode cX12_goesSecond 271 = .ok (.getfield 194, 3) := by decide +kernel
theorem dX12_goesSecond_274 : decode cX12_goesSecond 274 = .ok (.iload_n 3, 1) := by decide +kernel
theorem dX12_goesSecond_275 : decode cX12_goesSecond 275 = .ok (.invokestatic 168, 3) := by decide +kernel
theorem dX12_goesSecond_278 : decode cX12_goesSecond 278 = .ok (.iadd, 1) := by decide +kernel
theorem dX12_goesSecond_279 : decode cX12_goesSecond 279 = .ok (.invokestatic 230, 3) := by decide +kernel
theorem dX12_goesSecond_282 : decode cX12_goesSecond 282 = .ok (.putfield 209, 3) := by decide +kernel
theorem dX12_goesSecond_285 : decode cX12_goesSecond 285 = .ok (.aload_n 0, 1) := by decide +kernel
theorem dX12_goesSecond_286 : decode cX12_goesSecond 286 = .ok (.aload_n 0, 1) := by decide +kernel
theorem dX12_goesSecond_287 : decode cX12_goesSecond 287 = .ok (.getfield 194, 3) := by decide +kernel
theorem dX12_goesSecond_290 : decode cX12_goesSecond 290 = .ok (.aload_n 0, 1) := by decide +kernel
theorem dX12_goesSecond_291 : decode cX12_goesSecond 291 = .ok (.getfield 197, 3) := by decide +kernel
theorem dX12_goesSecond_294 : decode cX12_goesSecond 294 = .ok (.invokestatic 158, 3) := by decide +kernel
theorem dX12_goesSecond_297 : decode cX12_goesSecond 297 = .ok (.invokevirtual 233, 3) := by decide +kernel
theorem dX12_goesSecond_300 : decode cX12_goesSecond 300 = .ok (.aload_n 0, 1) := by decide +kernel
theorem dX12_goesSecond_301 : decode cX12_goesSecond 301 = .ok (.dup, 1) := by decide +kernel
theorem dX12_goesSecond_302 : decode cX12_goesSecond 302 = .ok (.getfield 215, 3) := by decide +kernel
theorem dX12_goesSecond_305 : decode cX12_goesSecond 305 = .ok (.iconst 1, 1) := by decide +kernel
theorem dX12_goesSecond_306 : decode cX12_goesSecond 306 = .ok (.iadd, 1) := by decide +kernel
theorem dX12_goesSecond_307 : decode cX12_goesSecond 307 = .ok (.putfield 215, 3) := by decide +kernel
theorem dX12_goesSecond_310 : decode cX12_goesSecond 310 = .ok (.return_, 1) := by decide +kernel
theorem dX12_lands_0 : decode cX12_lands 0 = .ok (.aload_n 0, 1) := by decide +kernel
theorem dX12_lands_1 : decode cX12_lands 1 = .ok (.invokevirtual 249, 3) := by decide +kernel
theorem dX12_lands_4 : decode cX12_lands 4 = .ok (.ifCond .ne 10, 3) := by decide +kernel
theorem dX12_lands_7 : decode cX12_lands 7 = .ok (.aload_n 0, 1) := by decide +kernel
theorem dX12_lands_8 : decode cX12_lands 8 = .ok (.invokevirtual 252, 3) := by decide +kernel
theorem dX12_lands_11 : decode cX12_lands 11 = .ok (.goto (-11), 3) := by decide +kernel
theorem dX12_lands_14 : decode cX12_lands 14 = .ok (.return_, 1) := by decide +kernel
theorem dX12_off_0 : decode cX12_off 0 = .ok (.aload_n 0, 1) := by decide +kernel
theorem dX12_off_1 : decode cX12_off 1 = .ok (.getfield 206, 3) := by decide +kernel
theorem dX12_off_4 : decode cX12_off 4 = .ok (.invokestatic 171, 3) := by decide +kernel
theorem dX12_off_7 : decode cX12_off 7 = .ok (.aload_n 0, 1) := by decide +kernel
theorem dX12_off_8 : decode cX12_off 8 = .ok (.getfield 209, 3) := by decide +kernel
theorem dX12_off_11 : decode cX12_off 11 = .ok (.invokestatic 171, 3) := by decide +kernel
theorem dX12_off_14 : decode cX12_off 14 = .ok (.iadd, 1) := by decide +kernel
theorem dX12_off_15 : decode cX12_off 15 = .ok (.ireturn, 1) := by decide +kernel
theorem dX12_falls_0 : decode cX12_falls 0 = .ok (.aload_n 0, 1) := by decide +kernel
theorem dX12_falls_1 : decode cX12_falls 1 = .ok (.iload_n 1, 1) := by decide +kernel
theorem dX12_falls_2 : decode cX12_falls 2 = .ok (.iload_n 2, 1) := by decide +kernel
theorem dX12_falls_3 : decode cX12_falls 3 = .ok (.iload_n 3, 1) := by decide +kernel
theorem dX12_falls_4 : decode cX12_falls 4 = .ok (.iload 4, 2) := by decide +kernel
theorem dX12_falls_6 : decode cX12_falls 6 = .ok (.invokevirtual 255, 3) := by decide +kernel
theorem dX12_falls_9 : decode cX12_falls 9 = .ok (.aload_n 0, 1) := by decide +kernel
theorem dX12_falls_10 : decode cX12_falls 10 = .ok (.invokevirtual 259, 3) := by decide +kernel
theorem dX12_falls_13 : decode cX12_falls 13 = .ok (.return_, 1) := by decide +kernel
theorem dX12_toldOf_0 : decode cX12_toldOf 0 = .ok (.iload_n 1, 1) := by decide +kernel
theorem dX12_toldOf_1 : decode cX12_toldOf 1 = .ok (.ifCond .ne 10, 3) := by decide +kernel
theorem dX12_toldOf_4 : decode cX12_toldOf 4 = .ok (.aload_n 0, 1) := by decide +kernel
theorem dX12_toldOf_5 : decode cX12_toldOf 5 = .ok (.getfield 206, 3) := by decide +kernel
theorem dX12_toldOf_8 : decode cX12_toldOf 8 = .ok (.goto 59, 3) := by decide +kernel
theorem dX12_toldOf_11 : decode cX12_toldOf 11 = .ok (.iload_n 1, 1) := by decide +kernel
theorem dX12_toldOf_12 : decode cX12_toldOf 12 = .ok (.iconst 1, 1) := by decide +kernel
theorem dX12_toldOf_13 : decode cX12_toldOf 13 = .ok (.if_icmp .ne 10, 3) := by decide +kernel
theorem dX12_toldOf_16 : decode cX12_toldOf 16 = .ok (.aload_n 0, 1) := by decide +kernel
theorem dX12_toldOf_17 : decode cX12_toldOf 17 = .ok (.getfield 209, 3) := by decide +kernel
theorem dX12_toldOf_20 : decode cX12_toldOf 20 = .ok (.goto 47, 3) := by decide +kernel
theorem dX12_toldOf_23 : decode cX12_toldOf 23 = .ok (.iload_n 1, 1) := by decide +kernel
theorem dX12_toldOf_24 : decode cX12_toldOf 24 = .ok (.iconst 2, 1) := by decide +kernel
theorem dX12_toldOf_25 : decode cX12_toldOf 25 = .ok (.if_icmp .ne 10, 3) := by decide +kernel
theorem dX12_toldOf_28 : decode cX12_toldOf 28 = .ok (.aload_n 0, 1) := by decide +kernel
theorem dX12_toldOf_29 : decode cX12_toldOf 29 = .ok (.getfield 215, 3) := by decide +kernel
theorem dX12_toldOf_32 : decode cX12_toldOf 32 = .ok (.goto 35, 3) := by decide +kernel
theorem dX12_toldOf_35 : decode cX12_toldOf 35 = .ok (.iload_n 1, 1) := by decide +kernel
theorem dX12_toldOf_36 : decode cX12_toldOf 36 = .ok (.iconst 3, 1) := by decide +kernel
theorem dX12_toldOf_37 : decode cX12_toldOf 37 = .ok (.if_icmp .ne 10, 3) := by decide +kernel
theorem dX12_toldOf_40 : decode cX12_toldOf 40 = .ok (.aload_n 0, 1) := by decide +kernel
theorem dX12_toldOf_41 : decode cX12_toldOf 41 = .ok (.invokevirtual 262, 3) := by decide +kernel
theorem dX12_toldOf_44 : decode cX12_toldOf 44 = .ok (.goto 23, 3) := by decide +kernel
theorem dX12_toldOf_47 : decode cX12_toldOf 47 = .ok (.aload_n 0, 1) := by decide +kernel
theorem dX12_toldOf_48 : decode cX12_toldOf 48 = .ok (.aload_n 0, 1) := by decide +kernel
theorem dX12_toldOf_49 : decode cX12_toldOf 49 = .ok (.getfield 206, 3) := by decide +kernel
theorem dX12_toldOf_52 : decode cX12_toldOf 52 = .ok (.aload_n 0, 1) := by decide +kernel
theorem dX12_toldOf_53 : decode cX12_toldOf 53 = .ok (.getfield 209, 3) := by decide +kernel
theorem dX12_toldOf_56 : decode cX12_toldOf 56 = .ok (.invokevirtual 191, 3) := by decide +kernel
theorem dX12_toldOf_59 : decode cX12_toldOf 59 = .ok (.ifCond .eq 7, 3) := by decide +kernel
theorem dX12_toldOf_62 : decode cX12_toldOf 62 = .ok (.iconst 1, 1) := by decide +kernel
theorem dX12_toldOf_63 : decode cX12_toldOf 63 = .ok (.goto 4, 3) := by decide +kernel
theorem dX12_toldOf_66 : decode cX12_toldOf 66 = .ok (.iconst 0, 1) := by decide +kernel
theorem dX12_toldOf_67 : decode cX12_toldOf 67 = .ok (.ireturn, 1) := by decide +kernel
theorem dX12_fallBy_0 : decode cX12_fallBy 0 = .ok (.aload_n 0, 1) := by decide +kernel
theorem dX12_fallBy_1 : decode cX12_fallBy 1 = .ok (.iload_n 1, 1) := by decide +kernel
theorem dX12_fallBy_2 : decode cX12_fallBy 2 = .ok (.invokevirtual 149, 3) := by decide +kernel
theorem dX12_fallBy_5 : decode cX12_fallBy 5 = .ok (.ifCond .eq 30, 3) := by decide +kernel
theorem dX12_fallBy_8 : decode cX12_fallBy 8 = .ok (.iload_n 2, 1) := by decide +kernel
theorem dX12_fallBy_9 : decode cX12_fallBy 9 = .ok (.invokestatic 184, 3) := by decide +kernel
theorem dX12_fallBy_12 : decode cX12_fallBy 12 = .ok (.ifCond .eq 23, 3) := by decide +kernel
theorem dX12_fallBy_15 : decode cX12_fallBy 15 = .ok (.iload_n 3, 1) := by decide +kernel
theorem dX12_fallBy_16 : decode cX12_fallBy 16 = .ok (.invokestatic 184, 3) := by decide +kernel
theorem dX12_fallBy_19 : decode cX12_fallBy 19 = .ok (.ifCond .eq 16, 3) := by decide +kernel
theorem dX12_fallBy_22 : decode cX12_fallBy 22 = .ok (.iload 5, 2) := by decide +kernel
theorem dX12_fallBy_24 : decode cX12_fallBy 24 = .ok (.i2l, 1) := by decide +kernel
theorem dX12_fallBy_25 : decode cX12_fallBy 25 = .ok (.lconst 0, 1) := by decide +kernel
theorem dX12_fallBy_26 : decode cX12_fallBy 26 = .ok (.ldc2_w 265, 3) := by decide +kernel
theorem dX12_fallBy_29 : decode cX12_fallBy 29 = .ok (.invokestatic 56, 3) := by decide +kernel
theorem dX12_fallBy_32 : decode cX12_fallBy 32 = .ok (.ifCond .ne 6, 3) := by decide +kernel
theorem dX12_fallBy_35 : decode cX12_fallBy 35 = .ok (.ldc 139, 2) := by decide +kernel
theorem dX12_fallBy_37 : decode cX12_fallBy 37 = .ok (.ireturn, 1) := by decide +kernel
theorem dX12_fallBy_38 : decode cX12_fallBy 38 = .ok (.aload_n 0, 1) := by decide +kernel
theorem dX12_fallBy_39 : decode cX12_fallBy 39 = .ok (.iload_n 1, 1) := by decide +kernel
theorem dX12_fallBy_40 : decode cX12_fallBy 40 = .ok (.iload_n 2, 1) := by decide +kernel
theorem dX12_fallBy_41 : decode cX12_fallBy 41 = .ok (.iload_n 3, 1) := by decide +kernel
theorem dX12_fallBy_42 : decode cX12_fallBy 42 = .ok (.iload 4, 2) := by decide +kernel
theorem dX12_fallBy_44 : decode cX12_fallBy 44 = .ok (.invokevirtual 267, 3) := by decide +kernel
theorem dX12_fallBy_47 : decode cX12_fallBy 47 = .ok (.aload_n 0, 1) := by decide +kernel
theorem dX12_fallBy_48 : decode cX12_fallBy 48 = .ok (.iload 5, 2) := by decide +kernel
theorem dX12_fallBy_50 : decode cX12_fallBy 50 = .ok (.invokevirtual 270, 3) := by decide +kernel
theorem dX12_fallBy_53 : decode cX12_fallBy 53 = .ok (.ireturn, 1) := by decide +kernel
theorem dX12_fall_0 : decode cX12_fall 0 = .ok (.aload_n 0, 1) := by decide +kernel
theorem dX12_fall_1 : decode cX12_fall 1 = .ok (.iload_n 1, 1) := by decide +kernel
theorem dX12_fall_2 : decode cX12_fall 2 = .ok (.iload_n 2, 1) := by decide +kernel
theorem dX12_fall_3 : decode cX12_fall 3 = .ok (.iload_n 3, 1) := by decide +kernel
theorem dX12_fall_4 : decode cX12_fall 4 = .ok (.iconst 1, 1) := by decide +kernel
theorem dX12_fall_5 : decode cX12_fall 5 = .ok (.iload 4, 2) := by decide +kernel
theorem dX12_fall_7 : decode cX12_fall 7 = .ok (.invokevirtual 273, 3) := by decide +kernel
theorem dX12_fall_10 : decode cX12_fall 10 = .ok (.ireturn, 1) := by decide +kernel
theorem dX12_at_0 : decode cX12_at 0 = .ok (.aload_n 0, 1) := by decide +kernel
theorem dX12_at_1 : decode cX12_at 1 = .ok (.iload_n 1, 1) := by decide +kernel
theorem dX12_at_2 : decode cX12_at 2 = .ok (.invokevirtual 149, 3) := by decide +kernel
theorem dX12_at_5 : decode cX12_at 5 = .ok (.ifCond .eq 43, 3) := by decide +kernel
theorem dX12_at_8 : decode cX12_at 8 = .ok (.iload_n 2, 1) := by decide +kernel
theorem dX12_at_9 : decode cX12_at 9 = .ok (.invokestatic 184, 3) := by decide +kernel
theorem dX12_at_12 : decode cX12_at 12 = .ok (.ifCond .eq 36, 3) := by decide +kernel
theorem dX12_at_15 : decode cX12_at 15 = .ok (.iload_n 3, 1) := by decide +kernel
theorem dX12_at_16 : decode cX12_at 16 = .ok (.invokestatic 184, 3) := by decide +kernel
theorem dX12_at_19 : decode cX12_at 19 = .ok (.ifCond .eq 29, 3) := by decide +kernel
theorem dX12_at_22 : decode cX12_at 22 = .ok (.iload 4, 2) := by decide +kernel
theorem dX12_at_24 : decode cX12_at 24 = .ok (.i2l, 1) := by decide +kernel
theorem dX12_at_25 : decode cX12_at 25 = .ok (.lconst 0, 1) := by decide +kernel
theorem dX12_at_26 : decode cX12_at 26 = .ok (.ldc2_w 277, 3) := by decide +kernel
theorem dX12_at_29 : decode cX12_at 29 = .ok (.invokestatic 56, 3) := by decide +kernel
theorem dX12_at_32 : decode cX12_at 32 = .ok (.ifCond .eq 16, 3) := by decide +kernel
theorem dX12_at_35 : decode cX12_at 35 = .ok (.iload 5, 2) := by decide +kernel
theorem dX12_at_37 : decode cX12_at 37 = .ok (.i2l, 1) := by decide +kernel
theorem dX12_at_38 : decode cX12_at 38 = .ok (.lconst 0, 1) := by decide +kernel
theorem dX12_at_39 : decode cX12_at 39 = .ok (.ldc2_w 147, 3) := by decide +kernel
theorem dX12_at_42 : decode cX12_at 42 = .ok (.invokestatic 56, 3) := by decide +kernel
theorem dX12_at_45 : decode cX12_at 45 = .ok (.ifCond .ne 6, 3) := by decide +kernel
theorem dX12_at_48 : decode cX12_at 48 = .ok (.ldc 139, 2) := by decide +kernel
theorem dX12_at_50 : decode cX12_at 50 = .ok (.ireturn, 1) := by decide +kernel
theorem dX12_at_51 : decode cX12_at 51 = .ok (.aload_n 0, 1) := by decide +kernel
theorem dX12_at_52 : decode cX12_at 52 = .ok (.iload_n 1, 1) := by decide +kernel
theorem dX12_at_53 : decode cX12_at 53 = .ok (.iload_n 2, 1) := by decide +kernel
theorem dX12_at_54 : decode cX12_at 54 = .ok (.iload_n 3, 1) := by decide +kernel
theorem dX12_at_55 : decode cX12_at 55 = .ok (.iconst 1, 1) := by decide +kernel
theorem dX12_at_56 : decode cX12_at 56 = .ok (.invokevirtual 255, 3) := by decide +kernel
theorem dX12_at_59 : decode cX12_at 59 = .ok (.iconst 0, 1) := by decide +kernel
theorem dX12_at_60 : decode cX12_at 60 = .ok (.istore 6, 2) := by decide +kernel
theorem dX12_at_62 : decode cX12_at 62 = .ok (.iload 6, 2) := by decide +kernel
theorem dX12_at_64 : decode cX12_at 64 = .ok (.iload 4, 2) := by decide +kernel
theorem dX12_at_66 : decode cX12_at 66 = .ok (.if_icmp .ge 20, 3) := by decide +kernel
theorem dX12_at_69 : decode cX12_at 69 = .ok (.aload_n 0, 1) := by decide +kernel
theorem dX12_at_70 : decode cX12_at 70 = .ok (.invokevirtual 249, 3) := by decide +kernel
theorem dX12_at_73 : decode cX12_at 73 = .ok (.ifCond .ne 13, 3) := by decide +kernel
theorem dX12_at_76 : decode cX12_at 76 = .ok (.aload_n 0, 1) := by decide +kernel
theorem dX12_at_77 : decode cX12_at 77 = .ok (.invokevirtual 252, 3) := by decide +kernel
theorem dX12_at_80 : decode cX12_at 80 = .ok (.iinc 6 1, 3) := by decide +kernel
theorem dX12_at_83 : decode cX12_at 83 = .ok (.goto (-21), 3) := by decide +kernel
theorem dX12_at_86 : decode cX12_at 86 = .ok (.iload 5, 2) := by decide +kernel
theorem dX12_at_88 : decode cX12_at 88 = .ok (.ifCond .ne 10, 3) := by decide +kernel
theorem dX12_at_91 : decode cX12_at 91 = .ok (.aload_n 0, 1) := by decide +kernel
theorem dX12_at_92 : decode cX12_at 92 = .ok (.getfield 206, 3) := by decide +kernel
theorem dX12_at_95 : decode cX12_at 95 = .ok (.goto 20, 3) := by decide +kernel
theorem dX12_at_98 : decode cX12_at 98 = .ok (.iload 5, 2) := by decide +kernel
theorem dX12_at_100 : decode cX12_at 100 = .ok (.iconst 1, 1) := by decide +kernel
theorem dX12_at_101 : decode cX12_at 101 = .ok (.if_icmp .ne 10, 3) := by decide +kernel
theorem dX12_at_104 : decode cX12_at 104 = .ok (.aload_n 0, 1) := by decide +kernel
theorem dX12_at_105 : decode cX12_at 105 = .ok (.getfield 209, 3) := by decide +kernel
theorem dX12_at_108 : decode cX12_at 108 = .ok (.goto 7, 3) := by decide +kernel
theorem dX12_at_111 : decode cX12_at 111 = .ok (.aload_n 0, 1) := by decide +kernel
theorem dX12_at_112 : decode cX12_at 112 = .ok (.getfield 212, 3) := by decide +kernel
theorem dX12_at_115 : decode cX12_at 115 = .ok (.ireturn, 1) := by decide +kernel
theorem dX12_mean_0 : decode cX12_mean 0 = .ok (.aload_n 0, 1) := by decide +kernel
theorem dX12_mean_1 : decode cX12_mean 1 = .ok (.iload_n 1, 1) := by decide +kernel
theorem dX12_mean_2 : decode cX12_mean 2 = .ok (.invokevirtual 149, 3) := by decide +kernel
theorem dX12_mean_5 : decode cX12_mean 5 = .ok (.ifCond .eq 17, 3) := by decide +kernel
theorem dX12_mean_8 : decode cX12_mean 8 = .ok (.iload_n 2, 1) := by decide +kernel
theorem dX12_mean_9 : decode cX12_mean 9 = .ok (.invokestatic 184, 3) := by decide +kernel
theorem dX12_mean_12 : decode cX12_mean 12 = .ok (.ifCond .eq 10, 3) := by decide +kernel
theorem dX12_mean_15 : decode cX12_mean 15 = .ok (.iload_n 3, 1) := by decide +kernel
theorem dX12_mean_16 : decode cX12_mean 16 = .ok (.invokestatic 184, 3) := by decide +kernel
theorem dX12_mean_19 : decode cX12_mean 19 = .ok (.ifCond .ne 6, 3) := by decide +kernel
theorem dX12_mean_22 : decode cX12_mean 22 = .ok (.ldc 139, 2) := by decide +kernel
theorem dX12_mean_24 : decode cX12_mean 24 = .ok (.ireturn, 1) := by decide +kernel
theorem dX12_mean_25 : decode cX12_mean 25 = .ok (.aload_n 0, 1) := by decide +kernel
theorem dX12_mean_26 : decode cX12_mean 26 = .ok (.iload_n 1, 1) := by decide +kernel
theorem dX12_mean_27 : decode cX12_mean 27 = .ok (.iload_n 2, 1) := by decide +kernel
theorem dX12_mean_28 : decode cX12_mean 28 = .ok (.iload_n 3, 1) := by decide +kernel
theorem dX12_mean_29 : decode cX12_mean 29 = .ok (.iconst 1, 1) := by decide +kernel
theorem dX12_mean_30 : decode cX12_mean 30 = .ok (.invokevirtual 255, 3) := by decide +kernel
theorem dX12_mean_33 : decode cX12_mean 33 = .ok (.aload_n 0, 1) := by decide +kernel
theorem dX12_mean_34 : decode cX12_mean 34 = .ok (.iconst 0, 1) := by decide +kernel
theorem dX12_mean_35 : decode cX12_mean 35 = .ok (.putfield 203, 3) := by decide +kernel
theorem dX12_mean_38 : decode cX12_mean 38 = .ok (.aload_n 0, 1) := by decide +kernel
theorem dX12_mean_39 : decode cX12_mean 39 = .ok (.invokevirtual 259, 3) := by decide +kernel
theorem dX12_mean_42 : decode cX12_mean 42 = .ok (.aload_n 0, 1) := by decide +kernel
theorem dX12_mean_43 : decode cX12_mean 43 = .ok (.getfield 221, 3) := by decide +kernel
theorem dX12_mean_46 : decode cX12_mean 46 = .ok (.ifCond .ge 5, 3) := by decide +kernel
theorem dX12_mean_49 : decode cX12_mean 49 = .ok (.iconst 0, 1) := by decide +kernel
theorem dX12_mean_50 : decode cX12_mean 50 = .ok (.ireturn, 1) := by decide +kernel
theorem dX12_mean_51 : decode cX12_mean 51 = .ok (.aload_n 0, 1) := by decide +kernel
theorem dX12_mean_52 : decode cX12_mean 52 = .ok (.getfield 215, 3) := by decide +kernel
theorem dX12_mean_55 : decode cX12_mean 55 = .ok (.aload_n 0, 1) := by decide +kernel
theorem dX12_mean_56 : decode cX12_mean 56 = .ok (.getfield 221, 3) := by decide +kernel
theorem dX12_mean_59 : decode cX12_mean 59 = .ok (.isub, 1) := by decide +kernel
theorem dX12_mean_60 : decode cX12_mean 60 = .ok (.istore 5, 2) := by decide +kernel
theorem dX12_mean_62 : decode cX12_mean 62 = .ok (.iload 4, 2) := by decide +kernel
theorem dX12_mean_64 : decode cX12_mean 64 = .ok (.ifCond .eq 18, 3) := by decide +kernel
theorem dX12_mean_67 : decode cX12_mean 67 = .ok (.aload_n 0, 1) := by decide +kernel
theorem dX12_mean_68 : decode cX12_mean 68 = .ok (.getfield 209, 3) := by decide +kernel
theorem dX12_mean_71 : decode cX12_mean 71 = .ok (.aload_n 0, 1) := by decide +kernel
theorem dX12_mean_72 : decode cX12_mean 72 = .ok (.getfield 240, 3) := by decide +kernel
theorem dX12_mean_75 : decode cX12_mean 75 = .ok (.isub, 1) := by decide +kernel
theorem dX12_mean_76 : decode cX12_mean 76 = .ok (.iload 5, 2) := by decide +kernel
theorem dX12_mean_78 : decode cX12_mean 78 = .ok (.idiv, 1) := by decide +kernel
theorem dX12_mean_79 : decode cX12_mean 79 = .ok (.goto 15, 3) := by decide +kernel
theorem dX12_mean_82 : decode cX12_mean 82 = .ok (.aload_n 0, 1) := by decide +kernel
theorem dX12_mean_83 : decode cX12_mean 83 = .ok (.getfield 206, 3) := by decide +kernel
theorem dX12_mean_86 : decode cX12_mean 86 = .ok (.aload_n 0, 1) := by decide +kernel
theorem dX12_mean_87 : decode cX12_mean 87 = .ok (.getfield 237, 3) := by decide +kernel
theorem dX12_mean_90 : decode cX12_mean 90 = .ok (.isub, 1) := by decide +kernel
theorem dX12_mean_91 : decode cX12_mean 91 = .ok (.iload 5, 2) := by decide +kernel
theorem dX12_mean_93 : decode cX12_mean 93 = .ok (.idiv, 1) := by decide +kernel
theorem dX12_mean_94 : decode cX12_mean 94 = .ok (.ireturn, 1) := by decide +kernel
theorem dX12_exit_0 : decode cX12_exit 0 = .ok (.aload_n 0, 1) := by decide +kernel
theorem dX12_exit_1 : decode cX12_exit 1 = .ok (.iload_n 1, 1) := by decide +kernel
theorem dX12_exit_2 : decode cX12_exit 2 = .ok (.invokevirtual 149, 3) := by decide +kernel
theorem dX12_exit_5 : decode cX12_exit 5 = .ok (.ifCond .eq 15, 3) := by decide +kernel
theorem dX12_exit_8 : decode cX12_exit 8 = .ok (.iload_n 2, 1) := by decide +kernel
theorem dX12_exit_9 : decode cX12_exit 9 = .ok (.i2l, 1) := by decide +kernel
theorem dX12_exit_10 : decode cX12_exit 10 = .ok (.lconst 0, 1) := by decide +kernel
theorem dX12_exit_11 : decode cX12_exit 11 = .ok (.ldc2_w 147, 3) := by decide +kernel
theorem dX12_exit_14 : decode cX12_exit 14 = .ok (.invokestatic 56, 3) := by decide +kernel
theorem dX12_exit_17 : decode cX12_exit 17 = .ok (.ifCond .ne 6, 3) := by decide +kernel
theorem dX12_exit_20 : decode cX12_exit 20 = .ok (.ldc 139, 2) := by decide +kernel
theorem dX12_exit_22 : decode cX12_exit 22 = .ok (.ireturn, 1) := by decide +kernel
theorem dX12_exit_23 : decode cX12_exit 23 = .ok (.iconst 0, 1) := by decide +kernel
theorem dX12_exit_24 : decode cX12_exit 24 = .ok (.istore_n 3, 1) := by decide +kernel
theorem dX12_exit_25 : decode cX12_exit 25 = .ok (.iconst 0, 1) := by decide +kernel
theorem dX12_exit_26 : decode cX12_exit 26 = .ok (.istore 4, 2) := by decide +kernel
theorem dX12_exit_28 : decode cX12_exit 28 = .ok (.bipush (-4), 2) := by decide +kernel
theorem dX12_exit_30 : decode cX12_exit 30 = .ok (.istore 5, 2) := by decide +kernel
theorem dX12_exit_32 : decode cX12_exit 32 = .ok (.sipush (-10000), 3) := by decide +kernel
theorem dX12_exit_35 : decode cX12_exit 35 = .ok (.istore 6, 2) := by decide +kernel
theorem dX12_exit_37 : decode cX12_exit 37 = .ok (.iload 6, 2) := by decide +kernel
theorem dX12_exit_39 : decode cX12_exit 39 = .ok (.sipush 10000, 3) := by decide +kernel
theorem dX12_exit_42 : decode cX12_exit 42 = .ok (.if_icmp .gt 74, 3) := by decide +kernel
theorem dX12_exit_45 : decode cX12_exit 45 = .ok (.sipush (-10000), 3) := by decide +kernel
theorem dX12_exit_48 : decode cX12_exit 48 = .ok (.istore 7, 2) := by decide +kernel
theorem dX12_exit_50 : decode cX12_exit 50 = .ok (.iload 7, 2) := by decide +kernel
theorem dX12_exit_52 : decode cX12_exit 52 = .ok (.sipush 10000, 3) := by decide +kernel
theorem dX12_exit_55 : decode cX12_exit 55 = .ok (.if_icmp .gt 52, 3) := by decide +kernel
theorem dX12_exit_58 : decode cX12_exit 58 = .ok (.aload_n 0, 1) := by decide +kernel
theorem dX12_exit_59 : decode cX12_exit 59 = .ok (.iload_n 1, 1) := by decide +kernel
theorem dX12_exit_60 : decode cX12_exit 60 = .ok (.iload 6, 2) := by decide +kernel
theorem dX12_exit_62 : decode cX12_exit 62 = .ok (.iload 7, 2) := by decide +kernel
theorem dX12_exit_64 : decode cX12_exit 64 = .ok (.iconst 1, 1) := by decide +kernel
theorem dX12_exit_65 : decode cX12_exit 65 = .ok (.invokevirtual 267, 3) := by decide +kernel
theorem dX12_exit_68 : decode cX12_exit 68 = .ok (.iload 5, 2) := by decide +kernel
theorem dX12_exit_70 : decode cX12_exit 70 = .ok (.ifCond .lt 15, 3) := by decide +kernel
theorem dX12_exit_73 : decode cX12_exit 73 = .ok (.aload_n 0, 1) := by decide +kernel
theorem dX12_exit_74 : decode cX12_exit 74 = .ok (.invokevirtual 262, 3) := by decide +kernel
theorem dX12_exit_77 : decode cX12_exit 77 = .ok (.iload 5, 2) := by decide +kernel
theorem dX12_exit_79 : decode cX12_exit 79 = .ok (.if_icmp .lt 6, 3) := by decide +kernel
theorem dX12_exit_82 : decode cX12_exit 82 = .ok (.goto 16, 3) := by decide +kernel
theorem dX12_exit_85 : decode cX12_exit 85 = .ok (.iload 6, 2) := by decide +kernel
theorem dX12_exit_87 : decode cX12_exit 87 = .ok (.istore_n 3, 1) := by decide +kernel
theorem dX12_exit_88 : decode cX12_exit 88 = .ok (.iload 7, 2) := by decide +kernel
theorem dX12_exit_90 : decode cX12_exit 90 = .ok (.istore 4, 2) := by decide +kernel
theorem dX12_exit_92 : decode cX12_exit 92 = .ok (.aload_n 0, 1) := by decide +kernel
theorem dX12_exit_93 : decode cX12_exit 93 = .ok (.invokevirtual 262, 3) := by decide +kernel
theorem dX12_exit_96 : decode cX12_exit 96 = .ok (.istore 5, 2) := by decide +kernel
theorem dX12_exit_98 : decode cX12_exit 98 = .ok (.iinc 7 1000, 6) := by decide +kernel
theorem dX12_exit_104 : decode cX12_exit 104 = .ok (.goto (-54), 3) := by decide +kernel
theorem dX12_exit_107 : decode cX12_exit 107 = .ok (.iinc 6 1000, 6) := by decide +kernel
theorem dX12_exit_113 : decode cX12_exit 113 = .ok (.goto (-76), 3) := by decide +kernel
theorem dX12_exit_116 : decode cX12_exit 116 = .ok (.iload_n 2, 1) := by decide +kernel
theorem dX12_exit_117 : decode cX12_exit 117 = .ok (.ifCond .ne 7, 3) := by decide +kernel
theorem dX12_exit_120 : decode cX12_exit 120 = .ok (.iload_n 3, 1) := by decide +kernel
theorem dX12_exit_121 : decode cX12_exit 121 = .ok (.goto 15, 3) := by decide +kernel
theorem dX12_exit_124 : decode cX12_exit 124 = .ok (.iload_n 2, 1) := by decide +kernel
theorem dX12_exit_125 : decode cX12_exit 125 = .ok (.iconst 1, 1) := by decide +kernel
theorem dX12_exit_126 : decode cX12_exit 126 = .ok (.if_icmp .ne 8, 3) := by decide +kernel
theorem dX12_exit_129 : decode cX12_exit 129 = .ok (.iload 4, 2) := by decide +kernel
theorem dX12_exit_131 : decode cX12_exit 131 = .ok (.goto 5, 3) := by decide +kernel
theorem dX12_exit_134 : decode cX12_exit 134 = .ok (.iload 5, 2) := by decide +kernel
theorem dX12_exit_136 : decode cX12_exit 136 = .ok (.ireturn, 1) := by decide +kernel
theorem dX12_wrongLoad_0 : decode cX12_wrongLoad 0 = .ok (.aload_n 0, 1) := by decide +kernel
theorem dX12_wrongLoad_1 : decode cX12_wrongLoad 1 = .ok (.iload_n 1, 1) := by decide +kernel
theorem dX12_wrongLoad_2 : decode cX12_wrongLoad 2 = .ok (.iconst 0, 1) := by decide +kernel
theorem dX12_wrongLoad_3 : decode cX12_wrongLoad 3 = .ok (.invokevirtual 128, 3) := by decide +kernel
theorem dX12_wrongLoad_6 : decode cX12_wrongLoad 6 = .ok (.istore_n 2, 1) := by decide +kernel
theorem dX12_wrongLoad_7 : decode cX12_wrongLoad 7 = .ok (.iload_n 2, 1) := by decide +kernel
theorem dX12_wrongLoad_8 : decode cX12_wrongLoad 8 = .ok (.ifCond .eq 5, 3) := by decide +kernel
theorem dX12_wrongLoad_11 : decode cX12_wrongLoad 11 = .ok (.iload_n 2, 1) := by decide +kernel
theorem dX12_wrongLoad_12 : decode cX12_wrongLoad 12 = .ok (.ireturn, 1) := by decide +kernel
theorem dX12_wrongLoad_13 : decode cX12_wrongLoad 13 = .ok (.aload_n 0, 1) := by decide +kernel
theorem dX12_wrongLoad_14 : decode cX12_wrongLoad 14 = .ok (.getfield 25, 3) := by decide +kernel
theorem dX12_wrongLoad_17 : decode cX12_wrongLoad 17 = .ok (.iload_n 1, 1) := by decide +kernel
theorem dX12_wrongLoad_18 : decode cX12_wrongLoad 18 = .ok (.iaload, 1) := by decide +kernel
theorem dX12_wrongLoad_19 : decode cX12_wrongLoad 19 = .ok (.i2l, 1) := by decide +kernel
theorem dX12_wrongLoad_20 : decode cX12_wrongLoad 20 = .ok (.lconst 1, 1) := by decide +kernel
theorem dX12_wrongLoad_21 : decode cX12_wrongLoad 21 = .ok (.ldc2_w 279, 3) := by decide +kernel
theorem dX12_wrongLoad_24 : decode cX12_wrongLoad 24 = .ok (.invokestatic 56, 3) := by decide +kernel
theorem dX12_wrongLoad_27 : decode cX12_wrongLoad 27 = .ok (.ifCond .ne 6, 3) := by decide +kernel
theorem dX12_wrongLoad_30 : decode cX12_wrongLoad 30 = .ok (.bipush (-13), 2) := by decide +kernel
theorem dX12_wrongLoad_32 : decode cX12_wrongLoad 32 = .ok (.ireturn, 1) := by decide +kernel
theorem dX12_wrongLoad_33 : decode cX12_wrongLoad 33 = .ok (.iconst 0, 1) := by decide +kernel
theorem dX12_wrongLoad_34 : decode cX12_wrongLoad 34 = .ok (.istore_n 3, 1) := by decide +kernel
theorem dX12_wrongLoad_35 : decode cX12_wrongLoad 35 = .ok (.iload_n 3, 1) := by decide +kernel
theorem dX12_wrongLoad_36 : decode cX12_wrongLoad 36 = .ok (.aload_n 0, 1) := by decide +kernel
theorem dX12_wrongLoad_37 : decode cX12_wrongLoad 37 = .ok (.getfield 25, 3) := by decide +kernel
theorem dX12_wrongLoad_40 : decode cX12_wrongLoad 40 = .ok (.iload_n 1, 1) := by decide +kernel
theorem dX12_wrongLoad_41 : decode cX12_wrongLoad 41 = .ok (.iaload, 1) := by decide +kernel
theorem dX12_wrongLoad_42 : decode cX12_wrongLoad 42 = .ok (.if_icmp .ge 30, 3) := by decide +kernel
theorem dX12_wrongLoad_45 : decode cX12_wrongLoad 45 = .ok (.aload_n 0, 1) := by decide +kernel
theorem dX12_wrongLoad_46 : decode cX12_wrongLoad 46 = .ok (.aload_n 0, 1) := by decide +kernel
theorem dX12_wrongLoad_47 : decode cX12_wrongLoad 47 = .ok (.getfield 28, 3) := by decide +kernel
theorem dX12_wrongLoad_50 : decode cX12_wrongLoad 50 = .ok (.bipush 100, 2) := by decide +kernel
theorem dX12_wrongLoad_52 : decode cX12_wrongLoad 52 = .ok (.iload_n 1, 1) := by decide +kernel
theorem dX12_wrongLoad_53 : decode cX12_wrongLoad 53 = .ok (.imul, 1) := by decide +kernel
theorem dX12_wrongLoad_54 : decode cX12_wrongLoad 54 = .ok (.iload_n 3, 1) := by decide +kernel
theorem dX12_wrongLoad_55 : decode cX12_wrongLoad 55 = .ok (.iadd, 1) := by decide +kernel
theorem dX12_wrongLoad_56 : decode cX12_wrongLoad 56 = .ok (.iaload, 1) := by decide +kernel
theorem dX12_wrongLoad_57 : decode cX12_wrongLoad 57 = .ok (.invokevirtual 149, 3) := by decide +kernel
theorem dX12_wrongLoad_60 : decode cX12_wrongLoad 60 = .ok (.ifCond .ne 6, 3) := by decide +kernel
theorem dX12_wrongLoad_63 : decode cX12_wrongLoad 63 = .ok (.bipush (-13), 2) := by decide +kernel
theorem dX12_wrongLoad_65 : decode cX12_wrongLoad 65 = .ok (.ireturn, 1) := by decide +kernel
theorem dX12_wrongLoad_66 : decode cX12_wrongLoad 66 = .ok (.iinc 3 1, 3) := by decide +kernel
theorem dX12_wrongLoad_69 : decode cX12_wrongLoad 69 = .ok (.goto (-34), 3) := by decide +kernel
theorem dX12_wrongLoad_72 : decode cX12_wrongLoad 72 = .ok (.iconst 0, 1) := by decide +kernel
theorem dX12_wrongLoad_73 : decode cX12_wrongLoad 73 = .ok (.ireturn, 1) := by decide +kernel
theorem dX12_loadOf_0 : decode cX12_loadOf 0 = .ok (.iload_n 2, 1) := by decide +kernel
theorem dX12_loadOf_1 : decode cX12_loadOf 1 = .ok (.istore 6, 2) := by decide +kernel
theorem dX12_loadOf_3 : decode cX12_loadOf 3 = .ok (.iconst 0, 1) := by decide +kernel
theorem dX12_loadOf_4 : decode cX12_loadOf 4 = .ok (.istore 7, 2) := by decide +kernel
theorem dX12_loadOf_6 : decode cX12_loadOf 6 = .ok (.iconst 0, 1) := by decide +kernel
theorem dX12_loadOf_7 : decode cX12_loadOf 7 = .ok (.istore 8, 2) := by decide +kernel
theorem dX12_loadOf_9 : decode cX12_loadOf 9 = .ok (.iload 8, 2) := by decide +kernel
theorem dX12_loadOf_11 : decode cX12_loadOf 11 = .ok (.aload_n 0, 1) := by decide +kernel
theorem dX12_loadOf_12 : decode cX12_loadOf 12 = .ok (.getfield 25, 3) := by decide +kernel
theorem dX12_loadOf_15 : decode cX12_loadOf 15 = .ok (.iload_n 1, 1) := by decide +kernel
theorem dX12_loadOf_16 : decode cX12_loadOf 16 = .ok (.iaload, 1) := by decide +kernel
theorem dX12_loadOf_17 : decode cX12_loadOf 17 = .ok (.if_icmp .ge 85, 3) := by decide +kernel
theorem dX12_loadOf_20 : decode cX12_loadOf 20 = .ok (.iload 8, 2) := by decide +kernel
theorem dX12_loadOf_22 : decode cX12_loadOf 22 = .ok (.ifCond .le 20, 3) := by decide +kernel
theorem dX12_loadOf_25 : decode cX12_loadOf 25 = .ok (.iload 6, 2) := by decide +kernel
theorem dX12_loadOf_27 : decode cX12_loadOf 27 = .ok (.aload_n 0, 1) := by decide +kernel
theorem dX12_loadOf_28 : decode cX12_loadOf 28 = .ok (.getfield 9, 3) := by decide +kernel
theorem dX12_loadOf_31 : decode cX12_loadOf 31 = .ok (.iconst 1, 1) := by decide +kernel
theorem dX12_loadOf_32 : decode cX12_loadOf 32 = .ok (.iaload, 1) := by decide +kernel
theorem dX12_loadOf_33 : decode cX12_loadOf 33 = .ok (.iload 4, 2) := by decide +kernel
theorem dX12_loadOf_35 : decode cX12_loadOf 35 = .ok (.imul, 1) := by decide +kernel
theorem dX12_loadOf_36 : decode cX12_loadOf 36 = .ok (.iadd, 1) := by decide +kernel
theorem dX12_loadOf_37 : decode cX12_loadOf 37 = .ok (.invokestatic 230, 3) := by decide +kernel
theorem dX12_loadOf_40 : decode cX12_loadOf 40 = .ok (.istore 6, 2) := by decide +kernel
theorem dX12_loadOf_42 : decode cX12_loadOf 42 = .ok (.aload_n 0, 1) := by decide +kernel
theorem dX12_loadOf_43 : decode cX12_loadOf 43 = .ok (.aload_n 0, 1) := by decide +kernel
theorem dX12_loadOf_44 : decode cX12_loadOf 44 = .ok (.getfield 28, 3) := by decide +kernel
theorem dX12_loadOf_47 : decode cX12_loadOf 47 = .ok (.bipush 100, 2) := by decide +kernel
theorem dX12_loadOf_49 : decode cX12_loadOf 49 = .ok (.iload_n 1, 1) := by decide +kernel
theorem dX12_loadOf_50 : decode cX12_loadOf 50 = .ok (.imul, 1) := by decide +kernel
theorem dX12_loadOf_51 : decode cX12_loadOf 51 = .ok (.iload 8, 2) := by decide +kernel
theorem dX12_loadOf_53 : decode cX12_loadOf 53 = .ok (.iadd, 1) := by decide +kernel
theorem dX12_loadOf_54 : decode cX12_loadOf 54 = .ok (.iaload, 1) := by decide +kernel
theorem dX12_loadOf_55 : decode cX12_loadOf 55 = .ok (.iload 6, 2) := by decide +kernel
theorem dX12_loadOf_57 : decode cX12_loadOf 57 = .ok (.iload_n 3, 1) := by decide +kernel
theorem dX12_loadOf_58 : decode cX12_loadOf 58 = .ok (.iconst 1, 1) := by decide +kernel
theorem dX12_loadOf_59 : decode cX12_loadOf 59 = .ok (.invokevirtual 267, 3) := by decide +kernel
theorem dX12_loadOf_62 : decode cX12_loadOf 62 = .ok (.iload 7, 2) := by decide +kernel
theorem dX12_loadOf_64 : decode cX12_loadOf 64 = .ok (.aload_n 0, 1) := by decide +kernel
theorem dX12_loadOf_65 : decode cX12_loadOf 65 = .ok (.invokevirtual 262, 3) := by decide +kernel
theorem dX12_loadOf_68 : decode cX12_loadOf 68 = .ok (.iload 5, 2) := by decide +kernel
theorem dX12_loadOf_70 : decode cX12_loadOf 70 = .ok (.if_icmp .gt 22, 3) := by decide +kernel
theorem dX12_loadOf_73 : decode cX12_loadOf 73 = .ok (.aload_n 0, 1) := by decide +kernel
theorem dX12_loadOf_74 : decode cX12_loadOf 74 = .ok (.aload_n 0, 1) := by decide +kernel
theorem dX12_loadOf_75 : decode cX12_loadOf 75 = .ok (.getfield 206, 3) := by decide +kernel
theorem dX12_loadOf_78 : decode cX12_loadOf 78 = .ok (.aload_n 0, 1) := by decide +kernel
theorem dX12_loadOf_79 : decode cX12_loadOf 79 = .ok (.getfield 209, 3) := by decide +kernel
theorem dX12_loadOf_82 : decode cX12_loadOf 82 = .ok (.invokevirtual 191, 3) := by decide +kernel
theorem dX12_loadOf_85 : decode cX12_loadOf 85 = .ok (.ifCond .ne 7, 3) := by decide +kernel
theorem dX12_loadOf_88 : decode cX12_loadOf 88 = .ok (.iconst 1, 1) := by decide +kernel
theorem dX12_loadOf_89 : decode cX12_loadOf 89 = .ok (.goto 4, 3) := by decide +kernel
theorem dX12_loadOf_92 : decode cX12_loadOf 92 = .ok (.iconst 0, 1) := by decide +kernel
theorem dX12_loadOf_93 : decode cX12_loadOf 93 = .ok (.iadd, 1) := by decide +kernel
theorem dX12_loadOf_94 : decode cX12_loadOf 94 = .ok (.istore 7, 2) := by decide +kernel
theorem dX12_loadOf_96 : decode cX12_loadOf 96 = .ok (.iinc 8 1, 3) := by decide +kernel
theorem dX12_loadOf_99 : decode cX12_loadOf 99 = .ok (.goto (-90), 3) := by decide +kernel
theorem dX12_loadOf_102 : decode cX12_loadOf 102 = .ok (.iload 7, 2) := by decide +kernel
theorem dX12_loadOf_104 : decode cX12_loadOf 104 = .ok (.ireturn, 1) := by decide +kernel
theorem dX12_load_0 : decode cX12_load 0 = .ok (.iload_n 1, 1) := by decide +kernel
theorem dX12_load_1 : decode cX12_load 1 = .ok (.invokestatic 125, 3) := by decide +kernel
theorem dX12_load_4 : decode cX12_load 4 = .ok (.ifCond .eq 43, 3) := by decide +kernel
theorem dX12_load_7 : decode cX12_load 7 = .ok (.iload_n 2, 1) := by decide +kernel
theorem dX12_load_8 : decode cX12_load 8 = .ok (.invokestatic 184, 3) := by decide +kernel
theorem dX12_load_11 : decode cX12_load 11 = .ok (.ifCond .eq 36, 3) := by decide +kernel
theorem dX12_load_14 : decode cX12_load 14 = .ok (.iload_n 3, 1) := by decide +kernel
theorem dX12_load_15 : decode cX12_load 15 = .ok (.invokestatic 184, 3) := by decide +kernel
theorem dX12_load_18 : decode cX12_load 18 = .ok (.ifCond .eq 29, 3) := by decide +kernel
theorem dX12_load_21 : decode cX12_load 21 = .ok (.iload 4, 2) := by decide +kernel
theorem dX12_load_23 : decode cX12_load 23 = .ok (.i2l, 1) := by decide +kernel
theorem dX12_load_24 : decode cX12_load 24 = .ok (.lconst 1, 1) := by decide +kernel
theorem dX12_load_25 : decode cX12_load 25 = .ok (.ldc2_w 281, 3) := by decide +kernel
theorem dX12_load_28 : decode cX12_load 28 = .ok (.invokestatic 56, 3) := by decide +kernel
theorem dX12_load_31 : decode cX12_load 31 = .ok (.ifCond .eq 16, 3) := by decide +kernel
theorem dX12_load_34 : decode cX12_load 34 = .ok (.iload 5, 2) := by decide +kernel
theorem dX12_load_36 : decode cX12_load 36 = .ok (.i2l, 1) := by decide +kernel
theorem dX12_load_37 : decode cX12_load 37 = .ok (.lconst 0, 1) := by decide +kernel
theorem dX12_load_38 : decode cX12_load 38 = .ok (.ldc2_w 283, 3) := by decide +kernel
theorem dX12_load_41 : decode cX12_load 41 = .ok (.invokestatic 56, 3) := by decide +kernel
theorem dX12_load_44 : decode cX12_load 44 = .ok (.ifCond .ne 5, 3) := by decide +kernel
theorem dX12_load_47 : decode cX12_load 47 = .ok (.iconst (-1), 1) := by decide +kernel
theorem dX12_load_48 : decode cX12_load 48 = .ok (.ireturn, 1) := by decide +kernel
theorem dX12_load_49 : decode cX12_load 49 = .ok (.aload_n 0, 1) := by decide +kernel
theorem dX12_load_50 : decode cX12_load 50 = .ok (.iload_n 1, 1) := by decide +kernel
theorem dX12_load_51 : decode cX12_load 51 = .ok (.invokevirtual 285, 3) := by decide +kernel
theorem dX12_load_54 : decode cX12_load 54 = .ok (.istore 6, 2) := by decide +kernel
theorem dX12_load_56 : decode cX12_load 56 = .ok (.iload 6, 2) := by decide +kernel
theorem dX12_load_58 : decode cX12_load 58 = .ok (.ifCond .eq 8, 3) := by decide +kernel
theorem dX12_load_61 : decode cX12_load 61 = .ok (.iload 6, 2) := by decide +kernel
theorem dX12_load_63 : decode cX12_load 63 = .ok (.goto 14, 3) := by decide +kernel
theorem dX12_load_66 : decode cX12_load 66 = .ok (.aload_n 0, 1) := by decide +kernel
theorem dX12_load_67 : decode cX12_load 67 = .ok (.iload_n 1, 1) := by decide +kernel
theorem dX12_load_68 : decode cX12_load 68 = .ok (.iload_n 2, 1) := by decide +kernel
theorem dX12_load_69 : decode cX12_load 69 = .ok (.iload_n 3, 1) := by decide +kernel
theorem dX12_load_70 : decode cX12_load 70 = .ok (.iload 4, 2) := by decide +kernel
theorem dX12_load_72 : decode cX12_load 72 = .ok (.iload 5, 2) := by decide +kernel
theorem dX12_load_74 : decode cX12_load 74 = .ok (.invokevirtual 288, 3) := by decide +kernel
theorem dX12_load_77 : decode cX12_load 77 = .ok (.ireturn, 1) := by decide +kernel
theorem dX12_bestLoad_0 : decode cX12_bestLoad 0 = .ok (.iload_n 1, 1) := by decide +kernel
theorem dX12_bestLoad_1 : decode cX12_bestLoad 1 = .ok (.invokestatic 125, 3) := by decide +kernel
theorem dX12_bestLoad_4 : decode cX12_bestLoad 4 = .ok (.ifCond .eq 35, 3) := by decide +kernel
theorem dX12_bestLoad_7 : decode cX12_bestLoad 7 = .ok (.iload_n 2, 1) := by decide +kernel
theorem dX12_bestLoad_8 : decode cX12_bestLoad 8 = .ok (.invokestatic 184, 3) := by decide +kernel
theorem dX12_bestLoad_11 : decode cX12_bestLoad 11 = .ok (.ifCond .eq 28, 3) := by decide +kernel
theorem dX12_bestLoad_14 : decode cX12_bestLoad 14 = .ok (.iload_n 3, 1) := by decide +kernel
theorem dX12_bestLoad_15 : decode cX12_bestLoad 15 = .ok (.i2l, 1) := by decide +kernel
theorem dX12_bestLoad_16 : decode cX12_bestLoad 16 = .ok (.lconst 0, 1) := by decide +kernel
theorem dX12_bestLoad_17 : decode cX12_bestLoad 17 = .ok (.ldc2_w 283, 3) := by decide +kernel
theorem dX12_bestLoad_20 : decode cX12_bestLoad 20 = .ok (.invokestatic 56, 3) := by decide +kernel
theorem dX12_bestLoad_23 : decode cX12_bestLoad 23 = .ok (.ifCond .eq 16, 3) := by decide +kernel
theorem dX12_bestLoad_26 : decode cX12_bestLoad 26 = .ok (.iload 4, 2) := by decide +kernel
theorem dX12_bestLoad_28 : decode cX12_bestLoad 28 = .ok (.i2l, 1) := by decide +kernel
theorem dX12_bestLoad_29 : decode cX12_bestLoad 29 = .ok (.lconst 0, 1) := by decide +kernel
theorem dX12_bestLoad_30 : decode cX12_bestLoad 30 = .ok (.ldc2_w 147, 3) := by decide +kernel
theorem dX12_bestLoad_33 : decode cX12_bestLoad 33 = .ok (.invokestatic 56, 3) := by decide +kernel
theorem dX12_bestLoad_36 : decode cX12_bestLoad 36 = .ok (.ifCond .ne 6, 3) := by decide +kernel
theorem dX12_bestLoad_39 : decode cX12_bestLoad 39 = .ok (.ldc 139, 2) := by decide +kernel
theorem dX12_bestLoad_41 : decode cX12_bestLoad 41 = .ok (.ireturn, 1) := by decide +kernel
theorem dX12_bestLoad_42 : decode cX12_bestLoad 42 = .ok (.aload_n 0, 1) := by decide +kernel
theorem dX12_bestLoad_43 : decode cX12_bestLoad 43 = .ok (.iload_n 1, 1) := by decide +kernel
theorem dX12_bestLoad_44 : decode cX12_bestLoad 44 = .ok (.invokevirtual 285, 3) := by decide +kernel
theorem dX12_bestLoad_47 : decode cX12_bestLoad 47 = .ok (.istore 5, 2) := by decide +kernel
theorem dX12_bestLoad_49 : decode cX12_bestLoad 49 = .ok (.iload 5, 2) := by decide +kernel
theorem dX12_bestLoad_51 : decode cX12_bestLoad 51 = .ok (.ifCond .eq 10, 3) := by decide +kernel
theorem dX12_bestLoad_54 : decode cX12_bestLoad 54 = .ok (.ldc_w 291, 3) := by decide +kernel
theorem dX12_bestLoad_57 : decode cX12_bestLoad 57 = .ok (.iload 5, 2) := by decide +kernel
theorem dX12_bestLoad_59 : decode cX12_bestLoad 59 = .ok (.iadd, 1) := by decide +kernel
theorem dX12_bestLoad_60 : decode cX12_bestLoad 60 = .ok (.ireturn, 1) := by decide +kernel
theorem dX12_bestLoad_61 : decode cX12_bestLoad 61 = .ok (.iconst 0, 1) := by decide +kernel
theorem dX12_bestLoad_62 : decode cX12_bestLoad 62 = .ok (.istore 6, 2) := by decide +kernel
theorem dX12_bestLoad_64 : decode cX12_bestLoad 64 = .ok (.iconst 0, 1) := by decide +kernel
theorem dX12_bestLoad_65 : decode cX12_bestLoad 65 = .ok (.istore 7, 2) := by decide +kernel
theorem dX12_bestLoad_67 : decode cX12_bestLoad 67 = .ok (.bipush (-4), 2) := by decide +kernel
theorem dX12_bestLoad_69 : decode cX12_bestLoad 69 = .ok (.istore 8, 2) := by decide +kernel
theorem dX12_bestLoad_71 : decode cX12_bestLoad 71 = .ok (.iconst 1, 1) := by decide +kernel
theorem dX12_bestLoad_72 : decode cX12_bestLoad 72 = .ok (.istore 9, 2) := by decide +kernel
theorem dX12_bestLoad_74 : decode cX12_bestLoad 74 = .ok (.iload 9, 2) := by decide +kernel
theorem dX12_bestLoad_76 : decode cX12_bestLoad 76 = .ok (.bipush 10, 2) := by decide +kernel
theorem dX12_bestLoad_78 : decode cX12_bestLoad 78 = .ok (.if_icmp .gt 66, 3) := by decide +kernel
theorem dX12_bestLoad_81 : decode cX12_bestLoad 81 = .ok (.sipush (-10000), 3) := by decide +kernel
theorem dX12_bestLoad_84 : decode cX12_bestLoad 84 = .ok (.istore 10, 2) := by decide +kernel
theorem dX12_bestLoad_86 : decode cX12_bestLoad 86 = .ok (.iload 10, 2) := by decide +kernel
theorem dX12_bestLoad_88 : decode cX12_bestLoad 88 = .ok (.sipush 10000, 3) := by decide +kernel
theorem dX12_bestLoad_91 : decode cX12_bestLoad 91 = .ok (.if_icmp .gt 47, 3) := by decide +kernel
theorem dX12_bestLoad_94 : decode cX12_bestLoad 94 = .ok (.aload_n 0, 1) := by decide +kernel
theorem dX12_bestLoad_95 : decode cX12_bestLoad 95 = .ok (.iload_n 1, 1) := by decide +kernel
theorem dX12_bestLoad_96 : decode cX12_bestLoad 96 = .ok (.iload 10, 2) := by decide +kernel
theorem dX12_bestLoad_98 : decode cX12_bestLoad 98 = .ok (.iload_n 2, 1) := by decide +kernel
theorem dX12_bestLoad_99 : decode cX12_bestLoad 99 = .ok (.iload 9, 2) := by decide +kernel
theorem dX12_bestLoad_101 : decode cX12_bestLoad 101 = .ok (.iload_n 3, 1) := by decide +kernel
theorem dX12_bestLoad_102 : decode cX12_bestLoad 102 = .ok (.invokevirtual 288, 3) := by decide +kernel
theorem dX12_bestLoad_105 : decode cX12_bestLoad 105 = .ok (.istore 11, 2) := by decide +kernel
theorem dX12_bestLoad_107 : decode cX12_bestLoad 107 = .ok (.iload 11, 2) := by decide +kernel
theorem dX12_bestLoad_109 : decode cX12_bestLoad 109 = .ok (.iload 8, 2) := by decide +kernel
theorem dX12_bestLoad_111 : decode cX12_bestLoad 111 = .ok (.if_icmp .gt 6, 3) := by decide +kernel
theorem dX12_bestLoad_114 : decode cX12_bestLoad 114 = .ok (.goto 15, 3) := by decide +kernel
theorem dX12_bestLoad_117 : decode cX12_bestLoad 117 = .ok (.iload 10, 2) := by decide +kernel
theorem dX12_bestLoad_119 : decode cX12_bestLoad 119 = .ok (.istore 6, 2) := by decide +kernel
theorem dX12_bestLoad_121 : decode cX12_bestLoad 121 = .ok (.iload 9, 2) := by decide +kernel
theorem dX12_bestLoad_123 : decode cX12_bestLoad 123 = .ok (.istore 7, 2) := by decide +kernel
theorem dX12_bestLoad_125 : decode cX12_bestLoad 125 = .ok (.iload 11, 2) := by decide +kernel
theorem dX12_bestLoad_127 : decode cX12_bestLoad 127 = .ok (.istore 8, 2) := by decide +kernel
theorem dX12_bestLoad_129 : decode cX12_bestLoad 129 = .ok (.iinc 10 1000, 6) := by decide +kernel
theorem dX12_bestLoad_135 : decode cX12_bestLoad 135 = .ok (.goto (-49), 3) := by decide +kernel
theorem dX12_bestLoad_138 : decode cX12_bestLoad 138 = .ok (.iinc 9 1, 3) := by decide +kernel
theorem dX12_bestLoad_141 : decode cX12_bestLoad 141 = .ok (.goto (-67), 3) := by decide +kernel
theorem dX12_bestLoad_144 : decode cX12_bestLoad 144 = .ok (.iload 4, 2) := by decide +kernel
theorem dX12_bestLoad_146 : decode cX12_bestLoad 146 = .ok (.ifCond .ne 8, 3) := by decide +kernel
theorem dX12_bestLoad_149 : decode cX12_bestLoad 149 = .ok (.iload 6, 2) := by decide +kernel
theorem dX12_bestLoad_151 : decode cX12_bestLoad 151 = .ok (.goto 16, 3) := by decide +kernel
theorem dX12_bestLoad_154 : decode cX12_bestLoad 154 = .ok (.iload 4, 2) := by decide +kernel
theorem dX12_bestLoad_156 : decode cX12_bestLoad 156 = .ok (.iconst 1, 1) := by decide +kernel
theorem dX12_bestLoad_157 : decode cX12_bestLoad 157 = .ok (.if_icmp .ne 8, 3) := by decide +kernel
theorem dX12_bestLoad_160 : decode cX12_bestLoad 160 = .ok (.iload 7, 2) := by decide +kernel
theorem dX12_bestLoad_162 : decode cX12_bestLoad 162 = .ok (.goto 5, 3) := by decide +kernel
theorem dX12_bestLoad_165 : decode cX12_bestLoad 165 = .ok (.iload 8, 2) := by decide +kernel
theorem dX12_bestLoad_167 : decode cX12_bestLoad 167 = .ok (.ireturn, 1) := by decide +kernel
theorem dX12_lines_0 : decode cX12_lines 0 = .ok (.iload_n 2, 1) := by decide +kernel
theorem dX12_lines_1 : decode cX12_lines 1 = .ok (.iload_n 1, 1) := by decide +kernel
theorem dX12_lines_2 : decode cX12_lines 2 = .ok (.if_icmp .ne 67, 3) := by decide +kernel
theorem dX12_lines_5 : decode cX12_lines 5 = .ok (.aload_n 0, 1) := by decide +kernel
theorem dX12_lines_6 : decode cX12_lines 6 = .ok (.getfield 292, 3) := by decide +kernel
theorem dX12_lines_9 : decode cX12_lines 9 = .ok (.ifCond .lt 13, 3) := by decide +kernel
theorem dX12_lines_12 : decode cX12_lines 12 = .ok (.iload 4, 2) := by decide +kernel
theorem dX12_lines_14 : decode cX12_lines 14 = .ok (.aload_n 0, 1) := by decide +kernel
theorem dX12_lines_15 : decode cX12_lines 15 = .ok (.getfield 292, 3) := by decide +kernel
theorem dX12_lines_18 : decode cX12_lines 18 = .ok (.if_icmp .lt 4, 3) := by decide +kernel
theorem dX12_lines_21 : decode cX12_lines 21 = .ok (.return_, 1) := by decide +kernel
theorem dX12_lines_22 : decode cX12_lines 22 = .ok (.aload_n 0, 1) := by decide +kernel
theorem dX12_lines_23 : decode cX12_lines 23 = .ok (.iload 4, 2) := by decide +kernel
theorem dX12_lines_25 : decode cX12_lines 25 = .ok (.putfield 292, 3) := by decide +kernel
theorem dX12_lines_28 : decode cX12_lines 28 = .ok (.aload_n 0, 1) := by decide +kernel
theorem dX12_lines_29 : decode cX12_lines 29 = .ok (.iconst 0, 1) := by decide +kernel
theorem dX12_lines_30 : decode cX12_lines 30 = .ok (.putfield 295, 3) := by decide +kernel
theorem dX12_lines_33 : decode cX12_lines 33 = .ok (.iload_n 1, 1) := by decide +kernel
theorem dX12_lines_34 : decode cX12_lines 34 = .ok (.iconst 1, 1) := by decide +kernel
theorem dX12_lines_35 : decode cX12_lines 35 = .ok (.isub, 1) := by decide +kernel
theorem dX12_lines_36 : decode cX12_lines 36 = .ok (.istore 5, 2) := by decide +kernel
theorem dX12_lines_38 : decode cX12_lines 38 = .ok (.iload 5, 2) := by decide +kernel
theorem dX12_lines_40 : decode cX12_lines 40 = .ok (.ifCond .lt 28, 3) := by decide +kernel
theorem dX12_lines_43 : decode cX12_lines 43 = .ok (.aload_n 0, 1) := by decide +kernel
theorem dX12_lines_44 : decode cX12_lines 44 = .ok (.bipush 10, 2) := by decide +kernel
theorem dX12_lines_46 : decode cX12_lines 46 = .ok (.aload_n 0, 1) := by decide +kernel
theorem dX12_lines_47 : decode cX12_lines 47 = .ok (.getfield 295, 3) := by decide +kernel
theorem dX12_lines_50 : decode cX12_lines 50 = .ok (.imul, 1) := by decide +kernel
theorem dX12_lines_51 : decode cX12_lines 51 = .ok (.aload_n 0, 1) := by decide +kernel
theorem dX12_lines_52 : decode cX12_lines 52 = .ok (.getfield 43, 3) := by decide +kernel
theorem dX12_lines_55 : decode cX12_lines 55 = .ok (.iload 5, 2) := by decide +kernel
theorem dX12_lines_57 : decode cX12_lines 57 = .ok (.iaload, 1) := by decide +kernel
theorem dX12_lines_58 : decode cX12_lines 58 = .ok (.iadd, 1) := by decide +kernel
theorem dX12_lines_59 : decode cX12_lines 59 = .ok (.putfield 295, 3) := by decide +kernel
theorem dX12_lines_62 : decode cX12_lines 62 = .ok (.iinc 5 (-1), 3) := by decide +kernel
theorem dX12_lines_65 : decode cX12_lines 65 = .ok (.goto (-27), 3) := by decide +kernel
theorem dX12_lines_68 : decode cX12_lines 68 = .ok (.return_, 1) := by decide +kernel
theorem dX12_lines_69 : decode cX12_lines 69 = .ok (.iconst 0, 1) := by decide +kernel
theorem dX12_lines_70 : decode cX12_lines 70 = .ok (.istore 5, 2) := by decide +kernel
theorem dX12_lines_72 : decode cX12_lines 72 = .ok (.iload 5, 2) := by decide +kernel
theorem dX12_lines_74 : decode cX12_lines 74 = .ok (.iload_n 1, 1) := by decide +kernel
theorem dX12_lines_75 : decode cX12_lines 75 = .ok (.if_icmp .ge 58, 3) := by decide +kernel
theorem dX12_lines_78 : decode cX12_lines 78 = .ok (.iload_n 3, 1) := by decide +kernel
theorem dX12_lines_79 : decode cX12_lines 79 = .ok (.iload 5, 2) := by decide +kernel
theorem dX12_lines_81 : decode cX12_lines 81 = .ok (.ishr, 1) := by decide +kernel
theorem dX12_lines_82 : decode cX12_lines 82 = .ok (.iconst 1, 1) := by decide +kernel
theorem dX12_lines_83 : decode cX12_lines 83 = .ok (.iand, 1) := by decide +kernel
theorem dX12_lines_84 : decode cX12_lines 84 = .ok (.iconst 1, 1) := by decide +kernel
theorem dX12_lines_85 : decode cX12_lines 85 = .ok (.if_icmp .ne 6, 3) := by decide +kernel
theorem dX12_lines_88 : decode cX12_lines 88 = .ok (.goto 39, 3) := by decide +kernel
theorem dX12_lines_91 : decode cX12_lines 91 = .ok (.aload_n 0, 1) := by decide +kernel
theorem dX12_lines_92 : decode cX12_lines 92 = .ok (.getfield 43, 3) := by decide +kernel
theorem dX12_lines_95 : decode cX12_lines 95 = .ok (.iload_n 2, 1) := by decide +kernel
theorem dX12_lines_96 : decode cX12_lines 96 = .ok (.iload 5, 2) := by decide +kernel
theorem dX12_lines_98 : decode cX12_lines 98 = .ok (.iastore, 1) := by decide +kernel
theorem dX12_lines_99 : decode cX12_lines 99 = .ok (.aload_n 0, 1) := by decide +kernel
theorem dX12_lines_100 : decode cX12_lines 100 = .ok (.iload_n 1, 1) := by decide +kernel
theorem dX12_lines_101 : decode cX12_lines 101 = .ok (.iload_n 2, 1) := by decide +kernel
theorem dX12_lines_102 : decode cX12_lines 102 = .ok (.iconst 1, 1) := by decide +kernel
theorem dX12_lines_103 : decode cX12_lines 103 = .ok (.iadd, 1) := by decide +kernel
theorem dX12_lines_104 : decode cX12_lines 104 = .ok (.iload_n 3, 1) := by decide +kernel
theorem dX12_lines_105 : decode cX12_lines 105 = .ok (.iconst 1, 1) := by decide +kernel
theorem dX12_lines_106 : decode cX12_lines 106 = .ok (.iload 5, 2) := by decide +kernel
theorem dX12_lines_108 : decode cX12_lines 108 = .ok (.ishl, 1) := by decide +kernel
theorem dX12_lines_109 : decode cX12_lines 109 = .ok (.ior, 1) := by decide +kernel
theorem dX12_lines_110 : decode cX12_lines 110 = .ok (.iload 4, 2) := by decide +kernel
theorem dX12_lines_112 : decode cX12_lines 112 = .ok (.aload_n 0, 1) := by decide +kernel
theorem dX12_lines_113 : decode cX12_lines 113 = .ok (.getfield 40, 3) := by decide +kernel
theorem dX12_lines_116 : decode cX12_lines 116 = .ok (.iconst 5, 1) := by decide +kernel
theorem dX12_lines_117 : decode cX12_lines 117 = .ok (.iload 5, 2) := by decide +kernel
theorem dX12_lines_119 : decode cX12_lines 119 = .ok (.imul, 1) := by decide +kernel
theorem dX12_lines_120 : decode cX12_lines 120 = .ok (.iload_n 2, 1) := by decide +kernel
theorem dX12_lines_121 : decode cX12_lines 121 = .ok (.iadd, 1) := by decide +kernel
theorem dX12_lines_122 : decode cX12_lines 122 = .ok (.iaload, 1) := by decide +kernel
theorem dX12_lines_123 : decode cX12_lines 123 = .ok (.iadd, 1) := by decide +kernel
theorem dX12_lines_124 : decode cX12_lines 124 = .ok (.invokevirtual 298, 3) := by decide +kernel
theorem dX12_lines_127 : decode cX12_lines 127 = .ok (.iinc 5 1, 3) := by decide +kernel
theorem dX12_lines_130 : decode cX12_lines 130 = .ok (.goto (-58), 3) := by decide +kernel
theorem dX12_lines_133 : decode cX12_lines 133 = .ok (.return_, 1) := by decide +kernel
theorem dX12_order_0 : decode cX12_order 0 = .ok (.iload_n 1, 1) := by decide +kernel
theorem dX12_order_1 : decode cX12_order 1 = .ok (.invokestatic 125, 3) := by decide +kernel
theorem dX12_order_4 : decode cX12_order 4 = .ok (.ifCond .eq 41, 3) := by decide +kernel
theorem dX12_order_7 : decode cX12_order 7 = .ok (.iload_n 2, 1) := by decide +kernel
theorem dX12_order_8 : decode cX12_order 8 = .ok (.invokestatic 184, 3) := by decide +kernel
theorem dX12_order_11 : decode cX12_order 11 = .ok (.ifCond .eq 34, 3) := by decide +kernel
theorem dX12_order_14 : decode cX12_order 14 = .ok (.iload_n 3, 1) := by decide +kernel
theorem dX12_order_15 : decode cX12_order 15 = .ok (.invokestatic 184, 3) := by decide +kernel
theorem dX12_order_18 : decode cX12_order 18 = .ok (.ifCond .eq 27, 3) := by decide +kernel
theorem dX12_order_21 : decode cX12_order 21 = .ok (.iload 4, 2) := by decide +kernel
theorem dX12_order_23 : decode cX12_order 23 = .ok (.i2l, 1) := by decide +kernel
theorem dX12_order_24 : decode cX12_order 24 = .ok (.lconst 1, 1) := by decide +kernel
theorem dX12_order_25 : decode cX12_order 25 = .ok (.ldc2_w 281, 3) := by decide +kernel
theorem dX12_order_28 : decode cX12_order 28 = .ok (.invokestatic 56, 3) := by decide +kernel
theorem dX12_order_31 : decode cX12_order 31 = .ok (.ifCond .eq 14, 3) := by decide +kernel
theorem dX12_order_34 : decode cX12_order 34 = .ok (.iload 5, 2) := by decide +kernel
theorem dX12_order_36 : decode cX12_order 36 = .ok (.i2l, 1) := by decide +kernel
theorem dX12_order_37 : decode cX12_order 37 = .ok (.lconst 0, 1) := by decide +kernel
theorem dX12_order_38 : decode cX12_order 38 = .ok (.lconst 1, 1) := by decide +kernel
theorem dX12_order_39 : decode cX12_order 39 = .ok (.invokestatic 56, 3) := by decide +kernel
theorem dX12_order_42 : decode cX12_order 42 = .ok (.ifCond .ne 5, 3) := by decide +kernel
theorem dX12_order_45 : decode cX12_order 45 = .ok (.iconst (-1), 1) := by decide +kernel
theorem dX12_order_46 : decode cX12_order 46 = .ok (.ireturn, 1) := by decide +kernel
theorem dX12_order_47 : decode cX12_order 47 = .ok (.aload_n 0, 1) := by decide +kernel
theorem dX12_order_48 : decode cX12_order 48 = .ok (.iload_n 1, 1) := by decide +kernel
theorem dX12_order_49 : decode cX12_order 49 = .ok (.invokevirtual 285, 3) := by decide +kernel
theorem dX12_order_52 : decode cX12_order 52 = .ok (.istore 6, 2) := by decide +kernel
theorem dX12_order_54 : decode cX12_order 54 = .ok (.iload 6, 2) := by decide +kernel
theorem dX12_order_56 : decode cX12_order 56 = .ok (.ifCond .eq 6, 3) := by decide +kernel
theorem dX12_order_59 : decode cX12_order 59 = .ok (.iload 6, 2) := by decide +kernel
theorem dX12_order_61 : decode cX12_order 61 = .ok (.ireturn, 1) := by decide +kernel
theorem dX12_order_62 : decode cX12_order 62 = .ok (.iload_n 2, 1) := by decide +kernel
theorem dX12_order_63 : decode cX12_order 63 = .ok (.istore 7, 2) := by decide +kernel
theorem dX12_order_65 : decode cX12_order 65 = .ok (.iconst 0, 1) := by decide +kernel
theorem dX12_order_66 : decode cX12_order 66 = .ok (.istore 8, 2) := by decide +kernel
theorem dX12_order_68 : decode cX12_order 68 = .ok (.iload 8, 2) := by decide +kernel
theorem dX12_order_70 : decode cX12_order 70 = .ok (.aload_n 0, 1) := by decide +kernel
theorem dX12_order_71 : decode cX12_order 71 = .ok (.getfield 25, 3) := by decide +kernel
theorem dX12_order_74 : decode cX12_order 74 = .ok (.iload_n 1, 1) := by decide +kernel
theorem dX12_order_75 : decode cX12_order 75 = .ok (.iaload, 1) := by decide +kernel
theorem dX12_order_76 : decode cX12_order 76 = .ok (.if_icmp .ge 87, 3) := by decide +kernel
theorem dX12_order_79 : decode cX12_order 79 = .ok (.iload 8, 2) := by decide +kernel
theorem dX12_order_81 : decode cX12_order 81 = .ok (.ifCond .le 20, 3) := by decide +kernel
theorem dX12_order_84 : decode cX12_order 84 = .ok (.iload 7, 2) := by decide +kernel
theorem dX12_order_86 : decode cX12_order 86 = .ok (.aload_n 0, 1) := by decide +kernel
theorem dX12_order_87 : decode cX12_order 87 = .ok (.getfield 9, 3) := by decide +kernel
theorem dX12_order_90 : decode cX12_order 90 = .ok (.iconst 1, 1) := by decide +kernel
theorem dX12_order_91 : decode cX12_order 91 = .ok (.iaload, 1) := by decide +kernel
theorem dX12_order_92 : decode cX12_order 92 = .ok (.iload 4, 2) := by decide +kernel
theorem dX12_order_94 : decode cX12_order 94 = .ok (.imul, 1) := by decide +kernel
theorem dX12_order_95 : decode cX12_order 95 = .ok (.iadd, 1) := by decide +kernel
theorem dX12_order_96 : decode cX12_order 96 = .ok (.invokestatic 230, 3) := by decide +kernel
theorem dX12_order_99 : decode cX12_order 99 = .ok (.istore 7, 2) := by decide +kernel
theorem dX12_order_101 : decode cX12_order 101 = .ok (.iconst 0, 1) := by decide +kernel
theorem dX12_order_102 : decode cX12_order 102 = .ok (.istore 9, 2) := by decide +kernel
theorem dX12_order_104 : decode cX12_order 104 = .ok (.iload 9, 2) := by decide +kernel
theorem dX12_order_106 : decode cX12_order 106 = .ok (.aload_n 0, 1) := by decide +kernel
theorem dX12_order_107 : decode cX12_order 107 = .ok (.getfield 25, 3) := by decide +kernel
theorem dX12_order_110 : decode cX12_order 110 = .ok (.iload_n 1, 1) := by decide +kernel
theorem dX12_order_111 : decode cX12_order 111 = .ok (.iaload, 1) := by decide +kernel
theorem dX12_order_112 : decode cX12_order 112 = .ok (.if_icmp .ge 45, 3) := by decide +kernel
theorem dX12_order_115 : decode cX12_order 115 = .ok (.aload_n 0, 1) := by decide +kernel
theorem dX12_order_116 : decode cX12_order 116 = .ok (.aload_n 0, 1) := by decide +kernel
theorem dX12_order_117 : decode cX12_order 117 = .ok (.getfield 28, 3) := by decide +kernel
theorem dX12_order_120 : decode cX12_order 120 = .ok (.bipush 100, 2) := by decide +kernel
theorem dX12_order_122 : decode cX12_order 122 = .ok (.iload_n 1, 1) := by decide +kernel
theorem dX12_order_123 : decode cX12_order 123 = .ok (.imul, 1) := by decide +kernel
theorem dX12_order_124 : decode cX12_order 124 = .ok (.iload 9, 2) := by decide +kernel
theorem dX12_order_126 : decode cX12_order 126 = .ok (.iadd, 1) := by decide +kernel
theorem dX12_order_127 : decode cX12_order 127 = .ok (.iaload, 1) := by decide +kernel
theorem dX12_order_128 : decode cX12_order 128 = .ok (.iload 7, 2) := by decide +kernel
theorem dX12_order_130 : decode cX12_order 130 = .ok (.iload_n 3, 1) := by decide +kernel
theorem dX12_order_131 : decode cX12_order 131 = .ok (.iconst 1, 1) := by decide +kernel
theorem dX12_order_132 : decode cX12_order 132 = .ok (.invokevirtual 267, 3) := by decide +kernel
theorem dX12_order_135 : decode cX12_order 135 = .ok (.aload_n 0, 1) := by decide +kernel
theorem dX12_order_136 : decode cX12_order 136 = .ok (.getfield 40, 3) := by decide +kernel
theorem dX12_order_139 : decode cX12_order 139 = .ok (.iconst 5, 1) := by decide +kernel
theorem dX12_order_140 : decode cX12_order 140 = .ok (.iload 9, 2) := by decide +kernel
theorem dX12_order_142 : decode cX12_order 142 = .ok (.imul, 1) := by decide +kernel
theorem dX12_order_143 : decode cX12_order 143 = .ok (.iload 8, 2) := by decide +kernel
theorem dX12_order_145 : decode cX12_order 145 = .ok (.iadd, 1) := by decide +kernel
theorem dX12_order_146 : decode cX12_order 146 = .ok (.aload_n 0, 1) := by decide +kernel
theorem dX12_order_147 : decode cX12_order 147 = .ok (.invokevirtual 262, 3) := by decide +kernel
theorem dX12_order_150 : decode cX12_order 150 = .ok (.iastore, 1) := by decide +kernel
theorem dX12_order_151 : decode cX12_order 151 = .ok (.iinc 9 1, 3) := by decide +kernel
theorem dX12_order_154 : decode cX12_order 154 = .ok (.goto (-50), 3) := by decide +kernel
theorem dX12_order_157 : decode cX12_order 157 = .ok (.iinc 8 1, 3) := by decide +kernel
theorem dX12_order_160 : decode cX12_order 160 = .ok (.goto (-92), 3) := by decide +kernel
theorem dX12_order_163 : decode cX12_order 163 = .ok (.aload_n 0, 1) := by decide +kernel
theorem dX12_order_164 : decode cX12_order 164 = .ok (.bipush (-4), 2) := by decide +kernel
theorem dX12_order_166 : decode cX12_order 166 = .ok (.putfield 292, 3) := by decide +kernel
theorem dX12_order_169 : decode cX12_order 169 = .ok (.aload_n 0, 1) := by decide +kernel
theorem dX12_order_170 : decode cX12_order 170 = .ok (.aload_n 0, 1) := by decide +kernel
theorem dX12_order_171 : decode cX12_order 171 = .ok (.getfield 25, 3) := by decide +kernel
theorem dX12_order_174 : decode cX12_order 174 = .ok (.iload_n 1, 1) := by decide +kernel
theorem dX12_order_175 : decode cX12_order 175 = .ok (.iaload, 1) := by decide +kernel
theorem dX12_order_176 : decode cX12_order 176 = .ok (.iconst 0, 1) := by decide +kernel
theorem dX12_order_177 : decode cX12_order 177 = .ok (.iconst 0, 1) := by decide +kernel
theorem dX12_order_178 : decode cX12_order 178 = .ok (.iconst 0, 1) := by decide +kernel
theorem dX12_order_179 : decode cX12_order 179 = .ok (.invokevirtual 298, 3) := by decide +kernel
theorem dX12_order_182 : decode cX12_order 182 = .ok (.iload 5, 2) := by decide +kernel
theorem dX12_order_184 : decode cX12_order 184 = .ok (.ifCond .ne 10, 3) := by decide +kernel
theorem dX12_order_187 : decode cX12_order 187 = .ok (.aload_n 0, 1) := by decide +kernel
theorem dX12_order_188 : decode cX12_order 188 = .ok (.getfield 295, 3) := by decide +kernel
theorem dX12_order_191 : decode cX12_order 191 = .ok (.goto 7, 3) := by decide +kernel
theorem dX12_order_194 : decode cX12_order 194 = .ok (.aload_n 0, 1) := by decide +kernel
theorem dX12_order_195 : decode cX12_order 195 = .ok (.getfield 292, 3) := by decide +kernel
theorem dX12_order_198 : decode cX12_order 198 = .ok (.ireturn, 1) := by decide +kernel
theorem dX12_cone_0 : decode cX12_cone 0 = .ok (.aload_n 0, 1) := by decide +kernel
theorem dX12_cone_1 : decode cX12_cone 1 = .ok (.iload_n 1, 1) := by decide +kernel
theorem dX12_cone_2 : decode cX12_cone 2 = .ok (.invokevirtual 149, 3) := by decide +kernel
theorem dX12_cone_5 : decode cX12_cone 5 = .ok (.ifCond .eq 27, 3) := by decide +kernel
theorem dX12_cone_8 : decode cX12_cone 8 = .ok (.iload_n 2, 1) := by decide +kernel
theorem dX12_cone_9 : decode cX12_cone 9 = .ok (.i2l, 1) := by decide +kernel
theorem dX12_cone_10 : decode cX12_cone 10 = .ok (.lconst 1, 1) := by decide +kernel
theorem dX12_cone_11 : decode cX12_cone 11 = .ok (.ldc2_w 109, 3) := by decide +kernel
theorem dX12_cone_14 : decode cX12_cone 14 = .ok (.invokestatic 56, 3) := by decide +kernel
theorem dX12_cone_17 : decode cX12_cone 17 = .ok (.ifCond .eq 15, 3) := by decide +kernel
theorem dX12_cone_20 : decode cX12_cone 20 = .ok (.iload_n 3, 1) := by decide +kernel
theorem dX12_cone_21 : decode cX12_cone 21 = .ok (.i2l, 1) := by decide +kernel
theorem dX12_cone_22 : decode cX12_cone 22 = .ok (.lconst 0, 1) := by decide +kernel
theorem dX12_cone_23 : decode cX12_cone 23 = .ok (.ldc2_w 283, 3) := by decide +kernel
theorem dX12_cone_26 : decode cX12_cone 26 = .ok (.invokestatic 56, 3) := by decide +kernel
theorem dX12_cone_29 : decode cX12_cone 29 = .ok (.ifCond .ne 5, 3) := by decide +kernel
theorem dX12_cone_32 : decode cX12_cone 32 = .ok (.iconst (-1), 1) := by decide +kernel
theorem dX12_cone_33 : decode cX12_cone 33 = .ok (.ireturn, 1) := by decide +kernel
theorem dX12_cone_34 : decode cX12_cone 34 = .ok (.iconst 0, 1) := by decide +kernel
theorem dX12_cone_35 : decode cX12_cone 35 = .ok (.istore 4, 2) := by decide +kernel
theorem dX12_cone_37 : decode cX12_cone 37 = .ok (.sipush (-5000), 3) := by decide +kernel
theorem dX12_cone_40 : decode cX12_cone 40 = .ok (.istore 5, 2) := by decide +kernel
theorem dX12_cone_42 : decode cX12_cone 42 = .ok (.iload 5, 2) := by decide +kernel
theorem dX12_cone_44 : decode cX12_cone 44 = .ok (.sipush 5000, 3) := by decide +kernel
theorem dX12_cone_47 : decode cX12_cone 47 = .ok (.if_icmp .gt 83, 3) := by decide +kernel
theorem dX12_cone_50 : decode cX12_cone 50 = .ok (.sipush (-5000), 3) := by decide +kernel
theorem dX12_cone_53 : decode cX12_cone 53 = .ok (.istore 6, 2) := by decide +kernel
theorem dX12_cone_55 : decode cX12_cone 55 = .ok (.iload 6, 2) := by decide +kernel
theorem dX12_cone_57 : decode cX12_cone 57 = .ok (.sipush 5000, 3) := by decide +kernel
theorem dX12_cone_60 : decode cX12_cone 60 = .ok (.if_icmp .gt 61, 3) := by decide +kernel
theorem dX12_cone_63 : decode cX12_cone 63 = .ok (.aload_n 0, 1) := by decide +kernel
theorem dX12_cone_64 : decode cX12_cone 64 = .ok (.aload_n 0, 1) := by decide +kernel
theorem dX12_cone_65 : decode cX12_cone 65 = .ok (.iload_n 1, 1) := by decide +kernel
theorem dX12_cone_66 : decode cX12_cone 66 = .ok (.iconst 0, 1) := by decide +kernel
theorem dX12_cone_67 : decode cX12_cone 67 = .ok (.invokevirtual 152, 3) := by decide +kernel
theorem dX12_cone_70 : decode cX12_cone 70 = .ok (.aload_n 0, 1) := by decide +kernel
theorem dX12_cone_71 : decode cX12_cone 71 = .ok (.iload_n 1, 1) := by decide +kernel
theorem dX12_cone_72 : decode cX12_cone 72 = .ok (.iconst 1, 1) := by decide +kernel
theorem dX12_cone_73 : decode cX12_cone 73 = .ok (.invokevirtual 152, 3) := by decide +kernel
theorem dX12_cone_76 : decode cX12_cone 76 = .ok (.iconst 0, 1) := by decide +kernel
theorem dX12_cone_77 : decode cX12_cone 77 = .ok (.iload 5, 2) := by decide +kernel
theorem dX12_cone_79 : decode cX12_cone 79 = .ok (.iload 6, 2) := by decide +kernel
theorem dX12_cone_81 : decode cX12_cone 81 = .ok (.iconst 1, 1) := by decide +kernel
theorem dX12_cone_82 : decode cX12_cone 82 = .ok (.invokevirtual 224, 3) := by decide +kernel
theorem dX12_cone_85 : decode cX12_cone 85 = .ok (.aload_n 0, 1) := by decide +kernel
theorem dX12_cone_86 : decode cX12_cone 86 = .ok (.iload_n 2, 1) := by decide +kernel
theorem dX12_cone_87 : decode cX12_cone 87 = .ok (.putfield 212, 3) := by decide +kernel
theorem dX12_cone_90 : decode cX12_cone 90 = .ok (.aload_n 0, 1) := by decide +kernel
theorem dX12_cone_91 : decode cX12_cone 91 = .ok (.invokevirtual 259, 3) := by decide +kernel
theorem dX12_cone_94 : decode cX12_cone 94 = .ok (.iload 4, 2) := by decide +kernel
theorem dX12_cone_96 : decode cX12_cone 96 = .ok (.aload_n 0, 1) := by decide +kernel
theorem dX12_cone_97 : decode cX12_cone 97 = .ok (.invokevirtual 262, 3) := by decide +kernel
theorem dX12_cone_100 : decode cX12_cone 100 = .ok (.iload_n 3, 1) := by decide +kernel
theorem dX12_cone_101 : decode cX12_cone 101 = .ok (.if_icmp .gt 7, 3) := by decide +kernel
theorem dX12_cone_104 : decode cX12_cone 104 = .ok (.iconst 1, 1) := by decide +kernel
theorem dX12_cone_105 : decode cX12_cone 105 = .ok (.goto 4, 3) := by decide +kernel
theorem dX12_cone_108 : decode cX12_cone 108 = .ok (.iconst 0, 1) := by decide +kernel
theorem dX12_cone_109 : decode cX12_cone 109 = .ok (.iadd, 1) := by decide +kernel
theorem dX12_cone_110 : decode cX12_cone 110 = .ok (.istore 4, 2) := by decide +kernel
theorem dX12_cone_112 : decode cX12_cone 112 = .ok (.iinc 6 500, 6) := by decide +kernel
theorem dX12_cone_118 : decode cX12_cone 118 = .ok (.goto (-63), 3) := by decide +kernel
theorem dX12_cone_121 : decode cX12_cone 121 = .ok (.iinc 5 500, 6) := by decide +kernel
theorem dX12_cone_127 : decode cX12_cone 127 = .ok (.goto (-85), 3) := by decide +kernel
theorem dX12_cone_130 : decode cX12_cone 130 = .ok (.iload 4, 2) := by decide +kernel
theorem dX12_cone_132 : decode cX12_cone 132 = .ok (.ireturn, 1) := by decide +kernel
theorem dX12_steering_0 : decode cX12_steering 0 = .ok (.aload_n 0, 1) := by decide +kernel
theorem dX12_steering_1 : decode cX12_steering 1 = .ok (.iload_n 1, 1) := by decide +kernel
theorem dX12_steering_2 : decode cX12_steering 2 = .ok (.invokevirtual 149, 3) := by decide +kernel
theorem dX12_steering_5 : decode cX12_steering 5 = .ok (.ifCond .eq 28, 3) := by decide +kernel
theorem dX12_steering_8 : decode cX12_steering 8 = .ok (.iload_n 2, 1) := by decide +kernel
theorem dX12_steering_9 : decode cX12_steering 9 = .ok (.invokestatic 184, 3) := by decide +kernel
theorem dX12_steering_12 : decode cX12_steering 12 = .ok (.ifCond .eq 21, 3) := by decide +kernel
theorem dX12_steering_15 : decode cX12_steering 15 = .ok (.iload_n 3, 1) := by decide +kernel
theorem dX12_steering_16 : decode cX12_steering 16 = .ok (.invokestatic 184, 3) := by decide +kernel
theorem dX12_steering_19 : decode cX12_steering 19 = .ok (.ifCond .eq 14, 3) := by decide +kernel
theorem dX12_steering_22 : decode cX12_steering 22 = .ok (.iload 4, 2) := by decide +kernel
theorem dX12_steering_24 : decode cX12_steering 24 = .ok (.i2l, 1) := by decide +kernel
theorem dX12_steering_25 : decode cX12_steering 25 = .ok (.lconst 0, 1) := by decide +kernel
theorem dX12_steering_26 : decode cX12_steering 26 = .ok (.lconst 1, 1) := by decide +kernel
theorem dX12_steering_27 : decode cX12_steering 27 = .ok (.invokestatic 56, 3) := by decide +kernel
theorem dX12_steering_30 : decode cX12_steering 30 = .ok (.ifCond .ne 5, 3) := by decide +kernel
theorem dX12_steering_33 : decode cX12_steering 33 = .ok (.iconst (-1), 1) := by decide +kernel
theorem dX12_steering_34 : decode cX12_steering 34 = .ok (.ireturn, 1) := by decide +kernel
theorem dX12_steering_35 : decode cX12_steering 35 = .ok (.bipush (-4), 2) := by decide +kernel
theorem dX12_steering_37 : decode cX12_steering 37 = .ok (.istore 5, 2) := by decide +kernel
theorem dX12_steering_39 : decode cX12_steering 39 = .ok (.iconst 0, 1) := by decide +kernel
theorem dX12_steering_40 : decode cX12_steering 40 = .ok (.istore 6, 2) := by decide +kernel
theorem dX12_steering_42 : decode cX12_steering 42 = .ok (.iconst 0, 1) := by decide +kernel
theorem dX12_steering_43 : decode cX12_steering 43 = .ok (.istore 7, 2) := by decide +kernel
theorem dX12_steering_45 : decode cX12_steering 45 = .ok (.iload 7, 2) := by decide +kernel
theorem dX12_steering_47 : decode cX12_steering 47 = .ok (.bipush 9, 2) := by decide +kernel
theorem dX12_steering_49 : decode cX12_steering 49 = .ok (.if_icmp .ge 54, 3) := by decide +kernel
theorem dX12_steering_52 : decode cX12_steering 52 = .ok (.aload_n 0, 1) := by decide +kernel
theorem dX12_steering_53 : decode cX12_steering 53 = .ok (.iload_n 1, 1) := by decide +kernel
theorem dX12_steering_54 : decode cX12_steering 54 = .ok (.iload_n 2, 1) := by decide +kernel
theorem dX12_steering_55 : decode cX12_steering 55 = .ok (.iload_n 3, 1) := by decide +kernel
theorem dX12_steering_56 : decode cX12_steering 56 = .ok (.iconst 1, 1) := by decide +kernel
theorem dX12_steering_57 : decode cX12_steering 57 = .ok (.invokevirtual 255, 3) := by decide +kernel
theorem dX12_steering_60 : decode cX12_steering 60 = .ok (.aload_n 0, 1) := by decide +kernel
theorem dX12_steering_61 : decode cX12_steering 61 = .ok (.iload 7, 2) := by decide +kernel
theorem dX12_steering_63 : decode cX12_steering 63 = .ok (.putfield 203, 3) := by decide +kernel
theorem dX12_steering_66 : decode cX12_steering 66 = .ok (.aload_n 0, 1) := by decide +kernel
theorem dX12_steering_67 : decode cX12_steering 67 = .ok (.invokevirtual 259, 3) := by decide +kernel
theorem dX12_steering_70 : decode cX12_steering 70 = .ok (.iload 5, 2) := by decide +kernel
theorem dX12_steering_72 : decode cX12_steering 72 = .ok (.ifCond .lt 15, 3) := by decide +kernel
theorem dX12_steering_75 : decode cX12_steering 75 = .ok (.aload_n 0, 1) := by decide +kernel
theorem dX12_steering_76 : decode cX12_steering 76 = .ok (.invokevirtual 262, 3) := by decide +kernel
theorem dX12_steering_79 : decode cX12_steering 79 = .ok (.iload 6, 2) := by decide +kernel
theorem dX12_steering_81 : decode cX12_steering 81 = .ok (.if_icmp .lt 6, 3) := by decide +kernel
theorem dX12_steering_84 : decode cX12_steering 84 = .ok (.goto 13, 3) := by decide +kernel
theorem dX12_steering_87 : decode cX12_steering 87 = .ok (.iload 7, 2) := by decide +kernel
theorem dX12_steering_89 : decode cX12_steering 89 = .ok (.istore 5, 2) := by decide +kernel
theorem dX12_steering_91 : decode cX12_steering 91 = .ok (.aload_n 0, 1) := by decide +kernel
theorem dX12_steering_92 : decode cX12_steering 92 = .ok (.invokevirtual 262, 3) := by decide +kernel
theorem dX12_steering_95 : decode cX12_steering 95 = .ok (.istore 6, 2) := by decide +kernel
theorem dX12_steering_97 : decode cX12_steering 97 = .ok (.iinc 7 1, 3) := by decide +kernel
theorem dX12_steering_100 : decode cX12_steering 100 = .ok (.goto (-55), 3) := by decide +kernel
theorem dX12_steering_103 : decode cX12_steering 103 = .ok (.iload 4, 2) := by decide +kernel
theorem dX12_steering_105 : decode cX12_steering 105 = .ok (.ifCond .ne 8, 3) := by decide +kernel
theorem dX12_steering_108 : decode cX12_steering 108 = .ok (.iload 5, 2) := by decide +kernel
theorem dX12_steering_110 : decode cX12_steering 110 = .ok (.goto 5, 3) := by decide +kernel
theorem dX12_steering_113 : decode cX12_steering 113 = .ok (.iload 6, 2) := by decide +kernel
theorem dX12_steering_115 : decode cX12_steering 115 = .ok (.ireturn, 1) := by decide +kernel
theorem dX12_last_0 : decode cX12_last 0 = .ok (.aload_n 0, 1) := by decide +kernel
theorem dX12_last_1 : decode cX12_last 1 = .ok (.iload_n 1, 1) := by decide +kernel
theorem dX12_last_2 : decode cX12_last 2 = .ok (.invokevirtual 149, 3) := by decide +kernel
theorem dX12_last_5 : decode cX12_last 5 = .ok (.ifCond .ne 5, 3) := by decide +kernel
theorem dX12_last_8 : decode cX12_last 8 = .ok (.iconst (-1), 1) := by decide +kernel
theorem dX12_last_9 : decode cX12_last 9 = .ok (.ireturn, 1) := by decide +kernel
theorem dX12_last_10 : decode cX12_last 10 = .ok (.bipush (-4), 2) := by decide +kernel
theorem dX12_last_12 : decode cX12_last 12 = .ok (.istore_n 2, 1) := by decide +kernel
theorem dX12_last_13 : decode cX12_last 13 = .ok (.iconst 0, 1) := by decide +kernel
theorem dX12_last_14 : decode cX12_last 14 = .ok (.istore_n 3, 1) := by decide +kernel
theorem dX12_last_15 : decode cX12_last 15 = .ok (.iload_n 3, 1) := by decide +kernel
theorem dX12_last_16 : decode cX12_last 16 = .ok (.bipush 20, 2) := by decide +kernel
theorem dX12_last_18 : decode cX12_last 18 = .ok (.if_icmp .gt 39, 3) := by decide +kernel
theorem dX12_last_21 : decode cX12_last 21 = .ok (.aload_n 0, 1) := by decide +kernel
theorem dX12_last_22 : decode cX12_last 22 = .ok (.getfield 9, 3) := by decide +kernel
theorem dX12_last_25 : decode cX12_last 25 = .ok (.iconst 2, 1) := by decide +kernel
theorem dX12_last_26 : decode cX12_last 26 = .ok (.iaload, 1) := by decide +kernel
theorem dX12_last_27 : decode cX12_last 27 = .ok (.iload_n 3, 1) := by decide +kernel
theorem dX12_last_28 : decode cX12_last 28 = .ok (.aload_n 0, 1) := by decide +kernel
theorem dX12_last_29 : decode cX12_last 29 = .ok (.iload_n 1, 1) := by decide +kernel
theorem dX12_last_30 : decode cX12_last 30 = .ok (.iconst 0, 1) := by decide +kernel
theorem dX12_last_31 : decode cX12_last 31 = .ok (.invokevirtual 152, 3) := by decide +kernel
theorem dX12_last_34 : decode cX12_last 34 = .ok (.invokestatic 155, 3) := by decide +kernel
theorem dX12_last_37 : decode cX12_last 37 = .ok (.imul, 1) := by decide +kernel
theorem dX12_last_38 : decode cX12_last 38 = .ok (.isub, 1) := by decide +kernel
theorem dX12_last_39 : decode cX12_last 39 = .ok (.sipush 200, 3) := by decide +kernel
theorem dX12_last_42 : decode cX12_last 42 = .ok (.if_icmp .lt 7, 3) := by decide +kernel
theorem dX12_last_45 : decode cX12_last 45 = .ok (.iload_n 3, 1) := by decide +kernel
theorem dX12_last_46 : decode cX12_last 46 = .ok (.goto 4, 3) := by decide +kernel
theorem dX12_last_49 : decode cX12_last 49 = .ok (.iload_n 2, 1) := by decide +kernel
theorem dX12_last_50 : decode cX12_last 50 = .ok (.istore_n 2, 1) := by decide +kernel
theorem dX12_last_51 : decode cX12_last 51 = .ok (.iinc 3 1, 3) := by decide +kernel
theorem dX12_last_54 : decode cX12_last 54 = .ok (.goto (-39), 3) := by decide +kernel
theorem dX12_last_57 : decode cX12_last 57 = .ok (.iload_n 2, 1) := by decide +kernel
theorem dX12_last_58 : decode cX12_last 58 = .ok (.ireturn, 1) := by decide +kernel
theorem dX12_safe_0 : decode cX12_safe 0 = .ok (.iload_n 1, 1) := by decide +kernel
theorem dX12_safe_1 : decode cX12_safe 1 = .ok (.invokestatic 184, 3) := by decide +kernel
theorem dX12_safe_4 : decode cX12_safe 4 = .ok (.ifCond .eq 20, 3) := by decide +kernel
theorem dX12_safe_7 : decode cX12_safe 7 = .ok (.iload_n 2, 1) := by decide +kernel
theorem dX12_safe_8 : decode cX12_safe 8 = .ok (.invokestatic 184, 3) := by decide +kernel
theorem dX12_safe_11 : decode cX12_safe 11 = .ok (.ifCond .eq 13, 3) := by decide +kernel
theorem dX12_safe_14 : decode cX12_safe 14 = .ok (.iload_n 3, 1) := by decide +kernel
theorem dX12_safe_15 : decode cX12_safe 15 = .ok (.i2l, 1) := by decide +kernel
theorem dX12_safe_16 : decode cX12_safe 16 = .ok (.lconst 0, 1) := by decide +kernel
theorem dX12_safe_17 : decode cX12_safe 17 = .ok (.lconst 1, 1) := by decide +kernel
theorem dX12_safe_18 : decode cX12_safe 18 = .ok (.invokestatic 56, 3) := by decide +kernel
theorem dX12_safe_21 : decode cX12_safe 21 = .ok (.ifCond .ne 6, 3) := by decide +kernel
theorem dX12_safe_24 : decode cX12_safe 24 = .ok (.ldc 139, 2) := by decide +kernel
theorem dX12_safe_26 : decode cX12_safe 26 = .ok (.ireturn, 1) := by decide +kernel
theorem dX12_safe_27 : decode cX12_safe 27 = .ok (.iconst 0, 1) := by decide +kernel
theorem dX12_safe_28 : decode cX12_safe 28 = .ok (.istore 4, 2) := by decide +kernel
theorem dX12_safe_30 : decode cX12_safe 30 = .ok (.iconst 0, 1) := by decide +kernel
theorem dX12_safe_31 : decode cX12_safe 31 = .ok (.istore 5, 2) := by decide +kernel
theorem dX12_safe_33 : decode cX12_safe 33 = .ok (.bipush (-4), 2) := by decide +kernel
theorem dX12_safe_35 : decode cX12_safe 35 = .ok (.istore 6, 2) := by decide +kernel
theorem dX12_safe_37 : decode cX12_safe 37 = .ok (.sipush (-30000), 3) := by decide +kernel
theorem dX12_safe_40 : decode cX12_safe 40 = .ok (.istore 7, 2) := by decide +kernel
theorem dX12_safe_42 : decode cX12_safe 42 = .ok (.iload 7, 2) := by decide +kernel
theorem dX12_safe_44 : decode cX12_safe 44 = .ok (.sipush 30000, 3) := by decide +kernel
theorem dX12_safe_47 : decode cX12_safe 47 = .ok (.if_icmp .gt 89, 3) := by decide +kernel
theorem dX12_safe_50 : decode cX12_safe 50 = .ok (.sipush (-30000), 3) := by decide +kernel
theorem dX12_safe_53 : decode cX12_safe 53 = .ok (.istore 8, 2) := by decide +kernel
theorem dX12_safe_55 : decode cX12_safe 55 = .ok (.iload 8, 2) := by decide +kernel
theorem dX12_safe_57 : decode cX12_safe 57 = .ok (.sipush 30000, 3) := by decide +kernel
theorem dX12_safe_60 : decode cX12_safe 60 = .ok (.if_icmp .gt 67, 3) := by decide +kernel
theorem dX12_safe_63 : decode cX12_safe 63 = .ok (.iload 7, 2) := by decide +kernel
theorem dX12_safe_65 : decode cX12_safe 65 = .ok (.iload_n 1, 1) := by decide +kernel
theorem dX12_safe_66 : decode cX12_safe 66 = .ok (.isub, 1) := by decide +kernel
theorem dX12_safe_67 : decode cX12_safe 67 = .ok (.invokestatic 171, 3) := by decide +kernel
theorem dX12_safe_70 : decode cX12_safe 70 = .ok (.iload 8, 2) := by decide +kernel
theorem dX12_safe_72 : decode cX12_safe 72 = .ok (.iload_n 2, 1) := by decide +kernel
theorem dX12_safe_73 : decode cX12_safe 73 = .ok (.isub, 1) := by decide +kernel
theorem dX12_safe_74 : decode cX12_safe 74 = .ok (.invokestatic 171, 3) := by decide +kernel
theorem dX12_safe_77 : decode cX12_safe 77 = .ok (.iadd, 1) := by decide +kernel
theorem dX12_safe_78 : decode cX12_safe 78 = .ok (.istore 9, 2) := by decide +kernel
theorem dX12_safe_80 : decode cX12_safe 80 = .ok (.iload 6, 2) := by decide +kernel
theorem dX12_safe_82 : decode cX12_safe 82 = .ok (.ifCond .lt 10, 3) := by decide +kernel
theorem dX12_safe_85 : decode cX12_safe 85 = .ok (.iload 9, 2) := by decide +kernel
theorem dX12_safe_87 : decode cX12_safe 87 = .ok (.iload 6, 2) := by decide +kernel
theorem dX12_safe_89 : decode cX12_safe 89 = .ok (.if_icmp .ge 29, 3) := by decide +kernel
theorem dX12_safe_92 : decode cX12_safe 92 = .ok (.aload_n 0, 1) := by decide +kernel
theorem dX12_safe_93 : decode cX12_safe 93 = .ok (.iload 7, 2) := by decide +kernel
theorem dX12_safe_95 : decode cX12_safe 95 = .ok (.iload 8, 2) := by decide +kernel
theorem dX12_safe_97 : decode cX12_safe 97 = .ok (.invokevirtual 191, 3) := by decide +kernel
theorem dX12_safe_100 : decode cX12_safe 100 = .ok (.ifCond .eq 6, 3) := by decide +kernel
theorem dX12_safe_103 : decode cX12_safe 103 = .ok (.goto 15, 3) := by decide +kernel
theorem dX12_safe_106 : decode cX12_safe 106 = .ok (.iload 7, 2) := by decide +kernel
theorem dX12_safe_108 : decode cX12_safe 108 = .ok (.istore 4, 2) := by decide +kernel
theorem dX12_safe_110 : decode cX12_safe 110 = .ok (.iload 8, 2) := by decide +kernel
theorem dX12_safe_112 : decode cX12_safe 112 = .ok (.istore 5, 2) := by decide +kernel
theorem dX12_safe_114 : decode cX12_safe 114 = .ok (.iload 9, 2) := by decide +kernel
theorem dX12_safe_116 : decode cX12_safe 116 = .ok (.istore 6, 2) := by decide +kernel
theorem dX12_safe_118 : decode cX12_safe 118 = .ok (.iinc 8 1000, 6) := by decide +kernel
theorem dX12_safe_124 : decode cX12_safe 124 = .ok (.goto (-69), 3) := by decide +kernel
theorem dX12_safe_127 : decode cX12_safe 127 = .ok (.iinc 7 1000, 6) := by decide +kernel
theorem dX12_safe_133 : decode cX12_safe 133 = .ok (.goto (-91), 3) := by decide +kernel
theorem dX12_safe_136 : decode cX12_safe 136 = .ok (.iload 6, 2) := by decide +kernel
theorem dX12_safe_138 : decode cX12_safe 138 = .ok (.ifCond .ge 9, 3) := by decide +kernel
theorem dX12_safe_141 : decode cX12_safe 141 = .ok (.ldc_w 301, 3) := by decide +kernel
theorem dX12_safe_144 : decode cX12_safe 144 = .ok (.goto 20, 3) := by decide +kernel
theorem dX12_safe_147 : decode cX12_safe 147 = .ok (.iload_n 3, 1) := by decide +kernel
theorem dX12_safe_148 : decode cX12_safe 148 = .ok (.ifCond .ne 11, 3) := by decide +kernel
theorem dX12_safe_151 : decode cX12_safe 151 = .ok (.iload 4, 2) := by decide +kernel
theorem dX12_safe_153 : decode cX12_safe 153 = .ok (.bipush 10, 2) := by decide +kernel
theorem dX12_safe_155 : decode cX12_safe 155 = .ok (.idiv, 1) := by decide +kernel
theorem dX12_safe_156 : decode cX12_safe 156 = .ok (.goto 8, 3) := by decide +kernel
theorem dX12_safe_159 : decode cX12_safe 159 = .ok (.iload 5, 2) := by decide +kernel
theorem dX12_safe_161 : decode cX12_safe 161 = .ok (.bipush 10, 2) := by decide +kernel
theorem dX12_safe_163 : decode cX12_safe 163 = .ok (.idiv, 1) := by decide +kernel
theorem dX12_safe_164 : decode cX12_safe 164 = .ok (.ireturn, 1) := by decide +kernel
theorem dX12_withinOf_0 : decode cX12_withinOf 0 = .ok (.iconst 0, 1) := by decide +kernel
theorem dX12_withinOf_1 : decode cX12_withinOf 1 = .ok (.istore 7, 2) := by decide +kernel
theorem dX12_withinOf_3 : decode cX12_withinOf 3 = .ok (.iconst 0, 1) := by decide +kernel
theorem dX12_withinOf_4 : decode cX12_withinOf 4 = .ok (.istore 8, 2) := by decide +kernel
theorem dX12_withinOf_6 : decode cX12_withinOf 6 = .ok (.iload 8, 2) := by decide +kernel
theorem dX12_withinOf_8 : decode cX12_withinOf 8 = .ok (.iload 5, 2) := by decide +kernel
theorem dX12_withinOf_10 : decode cX12_withinOf 10 = .ok (.if_icmp .ge 40, 3) := by decide +kernel
theorem dX12_withinOf_13 : decode cX12_withinOf 13 = .ok (.aload_n 0, 1) := by decide +kernel
theorem dX12_withinOf_14 : decode cX12_withinOf 14 = .ok (.iload_n 1, 1) := by decide +kernel
theorem dX12_withinOf_15 : decode cX12_withinOf 15 = .ok (.iload_n 2, 1) := by decide +kernel
theorem dX12_withinOf_16 : decode cX12_withinOf 16 = .ok (.iload_n 3, 1) := by decide +kernel
theorem dX12_withinOf_17 : decode cX12_withinOf 17 = .ok (.iload 6, 2) := by decide +kernel
theorem dX12_withinOf_19 : decode cX12_withinOf 19 = .ok (.iload 8, 2) := by decide +kernel
theorem dX12_withinOf_21 : decode cX12_withinOf 21 = .ok (.iadd, 1) := by decide +kernel
theorem dX12_withinOf_22 : decode cX12_withinOf 22 = .ok (.invokevirtual 267, 3) := by decide +kernel
theorem dX12_withinOf_25 : decode cX12_withinOf 25 = .ok (.iload 7, 2) := by decide +kernel
theorem dX12_withinOf_27 : decode cX12_withinOf 27 = .ok (.aload_n 0, 1) := by decide +kernel
theorem dX12_withinOf_28 : decode cX12_withinOf 28 = .ok (.invokevirtual 262, 3) := by decide +kernel
theorem dX12_withinOf_31 : decode cX12_withinOf 31 = .ok (.iload 4, 2) := by decide +kernel
theorem dX12_withinOf_33 : decode cX12_withinOf 33 = .ok (.if_icmp .gt 7, 3) := by decide +kernel
theorem dX12_withinOf_36 : decode cX12_withinOf 36 = .ok (.iconst 1, 1) := by decide +kernel
theorem dX12_withinOf_37 : decode cX12_withinOf 37 = .ok (.goto 4, 3) := by decide +kernel
theorem dX12_withinOf_40 : decode cX12_withinOf 40 = .ok (.iconst 0, 1) := by decide +kernel
theorem dX12_withinOf_41 : decode cX12_withinOf 41 = .ok (.iadd, 1) := by decide +kernel
theorem dX12_withinOf_42 : decode cX12_withinOf 42 = .ok (.istore 7, 2) := by decide +kernel
theorem dX12_withinOf_44 : decode cX12_withinOf 44 = .ok (.iinc 8 1, 3) := by decide +kernel
theorem dX12_withinOf_47 : decode cX12_withinOf 47 = .ok (.goto (-41), 3) := by decide +kernel
theorem dX12_withinOf_50 : decode cX12_withinOf 50 = .ok (.iload 7, 2) := by decide +kernel
theorem dX12_withinOf_52 : decode cX12_withinOf 52 = .ok (.ireturn, 1) := by decide +kernel
theorem dX12_isWithin_0 : decode cX12_isWithin 0 = .ok (.aload_n 0, 1) := by decide +kernel
theorem dX12_isWithin_1 : decode cX12_isWithin 1 = .ok (.iload_n 1, 1) := by decide +kernel
theorem dX12_isWithin_2 : decode cX12_isWithin 2 = .ok (.invokevirtual 149, 3) := by decide +kernel
theorem dX12_isWithin_5 : decode cX12_isWithin 5 = .ok (.ifCond .eq 47, 3) := by decide +kernel
theorem dX12_isWithin_8 : decode cX12_isWithin 8 = .ok (.iload_n 2, 1) := by decide +kernel
theorem dX12_isWithin_9 : decode cX12_isWithin 9 = .ok (.invokestatic 184, 3) := by decide +kernel
theorem dX12_isWithin_12 : decode cX12_isWithin 12 = .ok (.ifCond .eq 40, 3) := by decide +kernel
theorem dX12_isWithin_15 : decode cX12_isWithin 15 = .ok (.iload_n 3, 1) := by decide +kernel
theorem dX12_isWithin_16 : decode cX12_isWithin 16 = .ok (.invokestatic 184, 3) := by decide +kernel
theorem dX12_isWithin_19 : decode cX12_isWithin 19 = .ok (.ifCond .eq 33, 3) := by decide +kernel
theorem dX12_isWithin_22 : decode cX12_isWithin 22 = .ok (.iload 4, 2) := by decide +kernel
theorem dX12_isWithin_24 : decode cX12_isWithin 24 = .ok (.i2l, 1) := by decide +kernel
theorem dX12_isWithin_25 : decode cX12_isWithin 25 = .ok (.lconst 0, 1) := by decide +kernel
theorem dX12_isWithin_26 : decode cX12_isWithin 26 = .ok (.ldc2_w 283, 3) := by decide +kernel
theorem dX12_isWithin_29 : decode cX12_isWithin 29 = .ok (.invokestatic 56, 3) := by decide +kernel
theorem dX12_isWithin_32 : decode cX12_isWithin 32 = .ok (.ifCond .eq 20, 3) := by decide +kernel
theorem dX12_isWithin_35 : decode cX12_isWithin 35 = .ok (.iload 5, 2) := by decide +kernel
theorem dX12_isWithin_37 : decode cX12_isWithin 37 = .ok (.i2l, 1) := by decide +kernel
theorem dX12_isWithin_38 : decode cX12_isWithin 38 = .ok (.lconst 1, 1) := by decide +kernel
theorem dX12_isWithin_39 : decode cX12_isWithin 39 = .ok (.ldc2_w 281, 3) := by decide +kernel
theorem dX12_isWithin_42 : decode cX12_isWithin 42 = .ok (.invokestatic 56, 3) := by decide +kernel
theorem dX12_isWithin_45 : decode cX12_isWithin 45 = .ok (.ifCond .eq 7, 3) := by decide +kernel
theorem dX12_isWithin_48 : decode cX12_isWithin 48 = .ok (.iconst 1, 1) := by decide +kernel
theorem dX12_isWithin_49 : decode cX12_isWithin 49 = .ok (.goto 4, 3) := by decide +kernel
theorem dX12_isWithin_52 : decode cX12_isWithin 52 = .ok (.iconst 0, 1) := by decide +kernel
theorem dX12_isWithin_53 : decode cX12_isWithin 53 = .ok (.ireturn, 1) := by decide +kernel
theorem dX12_within_0 : decode cX12_within 0 = .ok (.aload_n 0, 1) := by decide +kernel
theorem dX12_within_1 : decode cX12_within 1 = .ok (.iload_n 1, 1) := by decide +kernel
theorem dX12_within_2 : decode cX12_within 2 = .ok (.iload_n 2, 1) := by decide +kernel
theorem dX12_within_3 : decode cX12_within 3 = .ok (.iload_n 3, 1) := by decide +kernel
theorem dX12_within_4 : decode cX12_within 4 = .ok (.iload 4, 2) := by decide +kernel
theorem dX12_within_6 : decode cX12_within 6 = .ok (.iload 5, 2) := by decide +kernel
theorem dX12_within_8 : decode cX12_within 8 = .ok (.invokevirtual 302, 3) := by decide +kernel
theorem dX12_within_11 : decode cX12_within 11 = .ok (.ifCond .eq 19, 3) := by decide +kernel
theorem dX12_within_14 : decode cX12_within 14 = .ok (.aload_n 0, 1) := by decide +kernel
theorem dX12_within_15 : decode cX12_within 15 = .ok (.iload_n 1, 1) := by decide +kernel
theorem dX12_within_16 : decode cX12_within 16 = .ok (.iload_n 2, 1) := by decide +kernel
theorem dX12_within_17 : decode cX12_within 17 = .ok (.iload_n 3, 1) := by decide +kernel
theorem dX12_within_18 : decode cX12_within 18 = .ok (.iload 4, 2) := by decide +kernel
theorem dX12_within_20 : decode cX12_within 20 = .ok (.iload 5, 2) := by decide +kernel
theorem dX12_within_22 : decode cX12_within 22 = .ok (.iload 6, 2) := by decide +kernel
theorem dX12_within_24 : decode cX12_within 24 = .ok (.invokevirtual 306, 3) := by decide +kernel
theorem dX12_within_27 : decode cX12_within 27 = .ok (.goto 4, 3) := by decide +kernel
theorem dX12_within_30 : decode cX12_within 30 = .ok (.iconst (-1), 1) := by decide +kernel
theorem dX12_within_31 : decode cX12_within 31 = .ok (.ireturn, 1) := by decide +kernel
theorem dX12_stop_0 : decode cX12_stop 0 = .ok (.aload_n 0, 1) := by decide +kernel
theorem dX12_stop_1 : decode cX12_stop 1 = .ok (.iload_n 1, 1) := by decide +kernel
theorem dX12_stop_2 : decode cX12_stop 2 = .ok (.iload_n 2, 1) := by decide +kernel
theorem dX12_stop_3 : decode cX12_stop 3 = .ok (.iload_n 3, 1) := by decide +kernel
theorem dX12_stop_4 : decode cX12_stop 4 = .ok (.iload 4, 2) := by decide +kernel
theorem dX12_stop_6 : decode cX12_stop 6 = .ok (.iload 5, 2) := by decide +kernel
theorem dX12_stop_8 : decode cX12_stop 8 = .ok (.invokevirtual 302, 3) := by decide +kernel
theorem dX12_stop_11 : decode cX12_stop 11 = .ok (.ifCond .ne 5, 3) := by decide +kernel
theorem dX12_stop_14 : decode cX12_stop 14 = .ok (.iconst (-1), 1) := by decide +kernel
theorem dX12_stop_15 : decode cX12_stop 15 = .ok (.ireturn, 1) := by decide +kernel
theorem dX12_stop_16 : decode cX12_stop 16 = .ok (.aload_n 0, 1) := by decide +kernel
theorem dX12_stop_17 : decode cX12_stop 17 = .ok (.getfield 9, 3) := by decide +kernel
theorem dX12_stop_20 : decode cX12_stop 20 = .ok (.iconst 0, 1) := by decide +kernel
theorem dX12_stop_21 : decode cX12_stop 21 = .ok (.iaload, 1) := by decide +kernel
theorem dX12_stop_22 : decode cX12_stop 22 = .ok (.istore 7, 2) := by decide +kernel
theorem dX12_stop_24 : decode cX12_stop 24 = .ok (.bipush (-4), 2) := by decide +kernel
theorem dX12_stop_26 : decode cX12_stop 26 = .ok (.istore 8, 2) := by decide +kernel
theorem dX12_stop_28 : decode cX12_stop 28 = .ok (.iconst 0, 1) := by decide +kernel
theorem dX12_stop_29 : decode cX12_stop 29 = .ok (.istore 9, 2) := by decide +kernel
theorem dX12_stop_31 : decode cX12_stop 31 = .ok (.iload 9, 2) := by decide +kernel
theorem dX12_stop_33 : decode cX12_stop 33 = .ok (.bipush 30, 2) := by decide +kernel
theorem dX12_stop_35 : decode cX12_stop 35 = .ok (.if_icmp .gt 51, 3) := by decide +kernel
theorem dX12_stop_38 : decode cX12_stop 38 = .ok (.iload 8, 2) := by decide +kernel
theorem dX12_stop_40 : decode cX12_stop 40 = .ok (.ifCond .ge 46, 3) := by decide +kernel
theorem dX12_stop_43 : decode cX12_stop 43 = .ok (.aload_n 0, 1) := by decide +kernel
theorem dX12_stop_44 : decode cX12_stop 44 = .ok (.getfield 9, 3) := by decide +kernel
theorem dX12_stop_47 : decode cX12_stop 47 = .ok (.iconst 0, 1) := by decide +kernel
theorem dX12_stop_48 : decode cX12_stop 48 = .ok (.iload 9, 2) := by decide +kernel
theorem dX12_stop_50 : decode cX12_stop 50 = .ok (.iastore, 1) := by decide +kernel
theorem dX12_stop_51 : decode cX12_stop 51 = .ok (.iconst 2, 1) := by decide +kernel
theorem dX12_stop_52 : decode cX12_stop 52 = .ok (.aload_n 0, 1) := by decide +kernel
theorem dX12_stop_53 : decode cX12_stop 53 = .ok (.iload_n 1, 1) := by decide +kernel
theorem dX12_stop_54 : decode cX12_stop 54 = .ok (.iload_n 2, 1) := by decide +kernel
theorem dX12_stop_55 : decode cX12_stop 55 = .ok (.iload_n 3, 1) := by decide +kernel
theorem dX12_stop_56 : decode cX12_stop 56 = .ok (.iload 4, 2) := by decide +kernel
theorem dX12_stop_58 : decode cX12_stop 58 = .ok (.iload 5, 2) := by decide +kernel
theorem dX12_stop_60 : decode cX12_stop 60 = .ok (.iload 6, 2) := by decide +kernel
theorem dX12_stop_62 : decode cX12_stop 62 = .ok (.invokevirtual 306, 3) := by decide +kernel
theorem dX12_stop_65 : decode cX12_stop 65 = .ok (.imul, 1) := by decide +kernel
theorem dX12_stop_66 : decode cX12_stop 66 = .ok (.iload 5, 2) := by decide +kernel
theorem dX12_stop_68 : decode cX12_stop 68 = .ok (.if_icmp .ge 8, 3) := by decide +kernel
theorem dX12_stop_71 : decode cX12_stop 71 = .ok (.iload 9, 2) := by decide +kernel
theorem dX12_stop_73 : decode cX12_stop 73 = .ok (.goto 5, 3) := by decide +kernel
theorem dX12_stop_76 : decode cX12_stop 76 = .ok (.bipush (-4), 2) := by decide +kernel
theorem dX12_stop_78 : decode cX12_stop 78 = .ok (.istore 8, 2) := by decide +kernel
theorem dX12_stop_80 : decode cX12_stop 80 = .ok (.iinc 9 1, 3) := by decide +kernel
theorem dX12_stop_83 : decode cX12_stop 83 = .ok (.goto (-52), 3) := by decide +kernel
theorem dX12_stop_86 : decode cX12_stop 86 = .ok (.aload_n 0, 1) := by decide +kernel
theorem dX12_stop_87 : decode cX12_stop 87 = .ok (.getfield 9, 3) := by decide +kernel
theorem dX12_stop_90 : decode cX12_stop 90 = .ok (.iconst 0, 1) := by decide +kernel
theorem dX12_stop_91 : decode cX12_stop 91 = .ok (.iload 7, 2) := by decide +kernel
theorem dX12_stop_93 : decode cX12_stop 93 = .ok (.iastore, 1) := by decide +kernel
theorem dX12_stop_94 : decode cX12_stop 94 = .ok (.iload 8, 2) := by decide +kernel
theorem dX12_stop_96 : decode cX12_stop 96 = .ok (.ireturn, 1) := by decide +kernel
theorem dX12_knew_0 : decode cX12_knew 0 = .ok (.aload_n 0, 1) := by decide +kernel
theorem dX12_knew_1 : decode cX12_knew 1 = .ok (.iload_n 1, 1) := by decide +kernel
theorem dX12_knew_2 : decode cX12_knew 2 = .ok (.invokevirtual 149, 3) := by decide +kernel
theorem dX12_knew_5 : decode cX12_knew 5 = .ok (.ifCond .eq 31, 3) := by decide +kernel
theorem dX12_knew_8 : decode cX12_knew 8 = .ok (.aload_n 0, 1) := by decide +kernel
theorem dX12_knew_9 : decode cX12_knew 9 = .ok (.iload_n 2, 1) := by decide +kernel
theorem dX12_knew_10 : decode cX12_knew 10 = .ok (.invokevirtual 149, 3) := by decide +kernel
theorem dX12_knew_13 : decode cX12_knew 13 = .ok (.ifCond .eq 23, 3) := by decide +kernel
theorem dX12_knew_16 : decode cX12_knew 16 = .ok (.iload_n 1, 1) := by decide +kernel
theorem dX12_knew_17 : decode cX12_knew 17 = .ok (.iload_n 2, 1) := by decide +kernel
theorem dX12_knew_18 : decode cX12_knew 18 = .ok (.if_icmp .eq 18, 3) := by decide +kernel
theorem dX12_knew_21 : decode cX12_knew 21 = .ok (.iload_n 3, 1) := by decide +kernel
theorem dX12_knew_22 : decode cX12_knew 22 = .ok (.invokestatic 184, 3) := by decide +kernel
theorem dX12_knew_25 : decode cX12_knew 25 = .ok (.ifCond .eq 11, 3) := by decide +kernel
theorem dX12_knew_28 : decode cX12_knew 28 = .ok (.iload 4, 2) := by decide +kernel
theorem dX12_knew_30 : decode cX12_knew 30 = .ok (.invokestatic 184, 3) := by decide +kernel
theorem dX12_knew_33 : decode cX12_knew 33 = .ok (.ifCond .ne 6, 3) := by decide +kernel
theorem dX12_knew_36 : decode cX12_knew 36 = .ok (.ldc 139, 2) := by decide +kernel
theorem dX12_knew_38 : decode cX12_knew 38 = .ok (.ireturn, 1) := by decide +kernel
theorem dX12_knew_39 : decode cX12_knew 39 = .ok (.aload_n 0, 1) := by decide +kernel
theorem dX12_knew_40 : decode cX12_knew 40 = .ok (.iload_n 2, 1) := by decide +kernel
theorem dX12_knew_41 : decode cX12_knew 41 = .ok (.iload_n 3, 1) := by decide +kernel
theorem dX12_knew_42 : decode cX12_knew 42 = .ok (.iload 4, 2) := by decide +kernel
theorem dX12_knew_44 : decode cX12_knew 44 = .ok (.iconst 1, 1) := by decide +kernel
theorem dX12_knew_45 : decode cX12_knew 45 = .ok (.invokevirtual 267, 3) := by decide +kernel
theorem dX12_knew_48 : decode cX12_knew 48 = .ok (.iload_n 3, 1) := by decide +kernel
theorem dX12_knew_49 : decode cX12_knew 49 = .ok (.aload_n 0, 1) := by decide +kernel
theorem dX12_knew_50 : decode cX12_knew 50 = .ok (.getfield 206, 3) := by decide +kernel
theorem dX12_knew_53 : decode cX12_knew 53 = .ok (.isub, 1) := by decide +kernel
theorem dX12_knew_54 : decode cX12_knew 54 = .ok (.invokestatic 230, 3) := by decide +kernel
theorem dX12_knew_57 : decode cX12_knew 57 = .ok (.istore 5, 2) := by decide +kernel
theorem dX12_knew_59 : decode cX12_knew 59 = .ok (.iload 4, 2) := by decide +kernel
theorem dX12_knew_61 : decode cX12_knew 61 = .ok (.aload_n 0, 1) := by decide +kernel
theorem dX12_knew_62 : decode cX12_knew 62 = .ok (.getfield 209, 3) := by decide +kernel
theorem dX12_knew_65 : decode cX12_knew 65 = .ok (.isub, 1) := by decide +kernel
theorem dX12_knew_66 : decode cX12_knew 66 = .ok (.invokestatic 230, 3) := by decide +kernel
theorem dX12_knew_69 : decode cX12_knew 69 = .ok (.istore 6, 2) := by decide +kernel
theorem dX12_knew_71 : decode cX12_knew 71 = .ok (.aload_n 0, 1) := by decide +kernel
theorem dX12_knew_72 : decode cX12_knew 72 = .ok (.iload_n 1, 1) := by decide +kernel
theorem dX12_knew_73 : decode cX12_knew 73 = .ok (.iload_n 3, 1) := by decide +kernel
theorem dX12_knew_74 : decode cX12_knew 74 = .ok (.iload 4, 2) := by decide +kernel
theorem dX12_knew_76 : decode cX12_knew 76 = .ok (.iconst 1, 1) := by decide +kernel
theorem dX12_knew_77 : decode cX12_knew 77 = .ok (.invokevirtual 267, 3) := by decide +kernel
theorem dX12_knew_80 : decode cX12_knew 80 = .ok (.aload_n 0, 1) := by decide +kernel
theorem dX12_knew_81 : decode cX12_knew 81 = .ok (.invokevirtual 262, 3) := by decide +kernel
theorem dX12_knew_84 : decode cX12_knew 84 = .ok (.istore 7, 2) := by decide +kernel
theorem dX12_knew_86 : decode cX12_knew 86 = .ok (.aload_n 0, 1) := by decide +kernel
theorem dX12_knew_87 : decode cX12_knew 87 = .ok (.iload_n 1, 1) := by decide +kernel
theorem dX12_knew_88 : decode cX12_knew 88 = .ok (.iload 5, 2) := by decide +kernel
theorem dX12_knew_90 : decode cX12_knew 90 = .ok (.iload 6, 2) := by decide +kernel
theorem dX12_knew_92 : decode cX12_knew 92 = .ok (.iconst 1, 1) := by decide +kernel
theorem dX12_knew_93 : decode cX12_knew 93 = .ok (.invokevirtual 267, 3) := by decide +kernel
theorem dX12_knew_96 : decode cX12_knew 96 = .ok (.iload 7, 2) := by decide +kernel
theorem dX12_knew_98 : decode cX12_knew 98 = .ok (.aload_n 0, 1) := by decide +kernel
theorem dX12_knew_99 : decode cX12_knew 99 = .ok (.invokevirtual 262, 3) := by decide +kernel
theorem dX12_knew_102 : decode cX12_knew 102 = .ok (.isub, 1) := by decide +kernel
theorem dX12_knew_103 : decode cX12_knew 103 = .ok (.ireturn, 1) := by decide +kernel
theorem dX12_two_0 : decode cX12_two 0 = .ok (.aload_n 0, 1) := by decide +kernel
theorem dX12_two_1 : decode cX12_two 1 = .ok (.iload_n 1, 1) := by decide +kernel
theorem dX12_two_2 : decode cX12_two 2 = .ok (.invokevirtual 149, 3) := by decide +kernel
theorem dX12_two_5 : decode cX12_two 5 = .ok (.ifCond .eq 44, 3) := by decide +kernel
theorem dX12_two_8 : decode cX12_two 8 = .ok (.aload_n 0, 1) := by decide +kernel
theorem dX12_two_9 : decode cX12_two 9 = .ok (.iload_n 2, 1) := by decide +kernel
theorem dX12_two_10 : decode cX12_two 10 = .ok (.invokevirtual 149, 3) := by decide +kernel
theorem dX12_two_13 : decode cX12_two 13 = .ok (.ifCond .eq 36, 3) := by decide +kernel
theorem dX12_two_16 : decode cX12_two 16 = .ok (.iload_n 1, 1) := by decide +kernel
theorem dX12_two_17 : decode cX12_two 17 = .ok (.iload_n 2, 1) := by decide +kernel
theorem dX12_two_18 : decode cX12_two 18 = .ok (.if_icmp .eq 31, 3) := by decide +kernel
theorem dX12_two_21 : decode cX12_two 21 = .ok (.iload_n 3, 1) := by decide +kernel
theorem dX12_two_22 : decode cX12_two 22 = .ok (.i2l, 1) := by decide +kernel
theorem dX12_two_23 : decode cX12_two 23 = .ok (.lconst 1, 1) := by decide +kernel
theorem dX12_two_24 : decode cX12_two 24 = .ok (.ldc2_w 281, 3) := by decide +kernel
theorem dX12_two_27 : decode cX12_two 27 = .ok (.invokestatic 56, 3) := by decide +kernel
theorem dX12_two_30 : decode cX12_two 30 = .ok (.ifCond .eq 19, 3) := by decide +kernel
theorem dX12_two_33 : decode cX12_two 33 = .ok (.iload 4, 2) := by decide +kernel
theorem dX12_two_35 : decode cX12_two 35 = .ok (.invokestatic 184, 3) := by decide +kernel
theorem dX12_two_38 : decode cX12_two 38 = .ok (.ifCond .eq 11, 3) := by decide +kernel
theorem dX12_two_41 : decode cX12_two 41 = .ok (.iload 5, 2) := by decide +kernel
theorem dX12_two_43 : decode cX12_two 43 = .ok (.invokestatic 184, 3) := by decide +kernel
theorem dX12_two_46 : decode cX12_two 46 = .ok (.ifCond .ne 5, 3) := by decide +kernel
theorem dX12_two_49 : decode cX12_two 49 = .ok (.iconst (-1), 1) := by decide +kernel
theorem dX12_two_50 : decode cX12_two 50 = .ok (.ireturn, 1) := by decide +kernel
theorem dX12_two_51 : decode cX12_two 51 = .ok (.iload 4, 2) := by decide +kernel
theorem dX12_two_53 : decode cX12_two 53 = .ok (.aload_n 0, 1) := by decide +kernel
theorem dX12_two_54 : decode cX12_two 54 = .ok (.getfield 9, 3) := by decide +kernel
theorem dX12_two_57 : decode cX12_two 57 = .ok (.iconst 1, 1) := by decide +kernel
theorem dX12_two_58 : decode cX12_two 58 = .ok (.iaload, 1) := by decide +kernel
theorem dX12_two_59 : decode cX12_two 59 = .ok (.iload_n 3, 1) := by decide +kernel
theorem dX12_two_60 : decode cX12_two 60 = .ok (.imul, 1) := by decide +kernel
theorem dX12_two_61 : decode cX12_two 61 = .ok (.iadd, 1) := by decide +kernel
theorem dX12_two_62 : decode cX12_two 62 = .ok (.invokestatic 230, 3) := by decide +kernel
theorem dX12_two_65 : decode cX12_two 65 = .ok (.istore 6, 2) := by decide +kernel
theorem dX12_two_67 : decode cX12_two 67 = .ok (.bipush (-4), 2) := by decide +kernel
theorem dX12_two_69 : decode cX12_two 69 = .ok (.istore 7, 2) := by decide +kernel
theorem dX12_two_71 : decode cX12_two 71 = .ok (.iconst 0, 1) := by decide +kernel
theorem dX12_two_72 : decode cX12_two 72 = .ok (.istore 8, 2) := by decide +kernel
theorem dX12_two_74 : decode cX12_two 74 = .ok (.iload 8, 2) := by decide +kernel
theorem dX12_two_76 : decode cX12_two 76 = .ok (.sipush 400, 3) := by decide +kernel
theorem dX12_two_79 : decode cX12_two 79 = .ok (.if_icmp .gt 178, 3) := by decide +kernel
theorem dX12_two_82 : decode cX12_two 82 = .ok (.aload_n 0, 1) := by decide +kernel
theorem dX12_two_83 : decode cX12_two 83 = .ok (.iload_n 1, 1) := by decide +kernel
theorem dX12_two_84 : decode cX12_two 84 = .ok (.iload 4, 2) := by decide +kernel
theorem dX12_two_86 : decode cX12_two 86 = .ok (.iload 5, 2) := by decide +kernel
theorem dX12_two_88 : decode cX12_two 88 = .ok (.iconst 1, 1) := by decide +kernel
theorem dX12_two_89 : decode cX12_two 89 = .ok (.invokevirtual 255, 3) := by decide +kernel
theorem dX12_two_92 : decode cX12_two 92 = .ok (.iconst 0, 1) := by decide +kernel
theorem dX12_two_93 : decode cX12_two 93 = .ok (.istore 9, 2) := by decide +kernel
theorem dX12_two_95 : decode cX12_two 95 = .ok (.iload 9, 2) := by decide +kernel
theorem dX12_two_97 : decode cX12_two 97 = .ok (.iload_n 3, 1) := by decide +kernel
theorem dX12_two_98 : decode cX12_two 98 = .ok (.iload 8, 2) := by decide +kernel
theorem dX12_two_100 : decode cX12_two 100 = .ok (.iadd, 1) := by decide +kernel
theorem dX12_two_101 : decode cX12_two 101 = .ok (.if_icmp .ge 20, 3) := by decide +kernel
theorem dX12_two_104 : decode cX12_two 104 = .ok (.aload_n 0, 1) := by decide +kernel
theorem dX12_two_105 : decode cX12_two 105 = .ok (.invokevirtual 249, 3) := by decide +kernel
theorem dX12_two_108 : decode cX12_two 108 = .ok (.ifCond .ne 13, 3) := by decide +kernel
theorem dX12_two_111 : decode cX12_two 111 = .ok (.aload_n 0, 1) := by decide +kernel
theorem dX12_two_112 : decode cX12_two 112 = .ok (.invokevirtual 252, 3) := by decide +kernel
theorem dX12_two_115 : decode cX12_two 115 = .ok (.iinc 9 1, 3) := by decide +kernel
theorem dX12_two_118 : decode cX12_two 118 = .ok (.goto (-23), 3) := by decide +kernel
theorem dX12_two_121 : decode cX12_two 121 = .ok (.aload_n 0, 1) := by decide +kernel
theorem dX12_two_122 : decode cX12_two 122 = .ok (.invokevirtual 249, 3) := by decide +kernel
theorem dX12_two_125 : decode cX12_two 125 = .ok (.ifCond .eq 6, 3) := by decide +kernel
theorem dX12_two_128 : decode cX12_two 128 = .ok (.iload 7, 2) := by decide +kernel
theorem dX12_two_130 : decode cX12_two 130 = .ok (.ireturn, 1) := by decide +kernel
theorem dX12_two_131 : decode cX12_two 131 = .ok (.aload_n 0, 1) := by decide +kernel
theorem dX12_two_132 : decode cX12_two 132 = .ok (.getfield 206, 3) := by decide +kernel
theorem dX12_two_135 : decode cX12_two 135 = .ok (.istore 9, 2) := by decide +kernel
theorem dX12_two_137 : decode cX12_two 137 = .ok (.aload_n 0, 1) := by decide +kernel
theorem dX12_two_138 : decode cX12_two 138 = .ok (.getfield 209, 3) := by decide +kernel
theorem dX12_two_141 : decode cX12_two 141 = .ok (.istore 10, 2) := by decide +kernel
theorem dX12_two_143 : decode cX12_two 143 = .ok (.aload_n 0, 1) := by decide +kernel
theorem dX12_two_144 : decode cX12_two 144 = .ok (.getfield 212, 3) := by decide +kernel
theorem dX12_two_147 : decode cX12_two 147 = .ok (.istore 11, 2) := by decide +kernel
theorem dX12_two_149 : decode cX12_two 149 = .ok (.aload_n 0, 1) := by decide +kernel
theorem dX12_two_150 : decode cX12_two 150 = .ok (.iload_n 2, 1) := by decide +kernel
theorem dX12_two_151 : decode cX12_two 151 = .ok (.iload 6, 2) := by decide +kernel
theorem dX12_two_153 : decode cX12_two 153 = .ok (.iload 5, 2) := by decide +kernel
theorem dX12_two_155 : decode cX12_two 155 = .ok (.iconst 1, 1) := by decide +kernel
theorem dX12_two_156 : decode cX12_two 156 = .ok (.invokevirtual 255, 3) := by decide +kernel
theorem dX12_two_159 : decode cX12_two 159 = .ok (.iconst 0, 1) := by decide +kernel
theorem dX12_two_160 : decode cX12_two 160 = .ok (.istore 12, 2) := by decide +kernel
theorem dX12_two_162 : decode cX12_two 162 = .ok (.iload 12, 2) := by decide +kernel
theorem dX12_two_164 : decode cX12_two 164 = .ok (.iload 8, 2) := by decide +kernel
theorem dX12_two_166 : decode cX12_two 166 = .ok (.if_icmp .ge 20, 3) := by decide +kernel
theorem dX12_two_169 : decode cX12_two 169 = .ok (.aload_n 0, 1) := by decide +kernel
theorem dX12_two_170 : decode cX12_two 170 = .ok (.invokevirtual 249, 3) := by decide +kernel
theorem dX12_two_173 : decode cX12_two 173 = .ok (.ifCond .ne 13, 3) := by decide +kernel
theorem dX12_two_176 : decode cX12_two 176 = .ok (.aload_n 0, 1) := by decide +kernel
theorem dX12_two_177 : decode cX12_two 177 = .ok (.invokevirtual 252, 3) := by decide +kernel
theorem dX12_two_180 : decode cX12_two 180 = .ok (.iinc 12 1, 3) := by decide +kernel
theorem dX12_two_183 : decode cX12_two 183 = .ok (.goto (-21), 3) := by decide +kernel
theorem dX12_two_186 : decode cX12_two 186 = .ok (.aload_n 0, 1) := by decide +kernel
theorem dX12_two_187 : decode cX12_two 187 = .ok (.invokevirtual 249, 3) := by decide +kernel
theorem dX12_two_190 : decode cX12_two 190 = .ok (.ifCond .eq 6, 3) := by decide +kernel
theorem dX12_two_193 : decode cX12_two 193 = .ok (.iload 7, 2) := by decide +kernel
theorem dX12_two_195 : decode cX12_two 195 = .ok (.ireturn, 1) := by decide +kernel
theorem dX12_two_196 : decode cX12_two 196 = .ok (.iload 9, 2) := by decide +kernel
theorem dX12_two_198 : decode cX12_two 198 = .ok (.aload_n 0, 1) := by decide +kernel
theorem dX12_two_199 : decode cX12_two 199 = .ok (.getfield 206, 3) := by decide +kernel
theorem dX12_two_202 : decode cX12_two 202 = .ok (.isub, 1) := by decide +kernel
theorem dX12_two_203 : decode cX12_two 203 = .ok (.invokestatic 171, 3) := by decide +kernel
theorem dX12_two_206 : decode cX12_two 206 = .ok (.iload 10, 2) := by decide +kernel
theorem dX12_two_208 : decode cX12_two 208 = .ok (.aload_n 0, 1) := by decide +kernel
theorem dX12_two_209 : decode cX12_two 209 = .ok (.getfield 209, 3) := by decide +kernel
theorem dX12_two_212 : decode cX12_two 212 = .ok (.isub, 1) := by decide +kernel
theorem dX12_two_213 : decode cX12_two 213 = .ok (.invokestatic 171, 3) := by decide +kernel
theorem dX12_two_216 : decode cX12_two 216 = .ok (.iadd, 1) := by decide +kernel
theorem dX12_two_217 : decode cX12_two 217 = .ok (.iload 11, 2) := by decide +kernel
theorem dX12_two_219 : decode cX12_two 219 = .ok (.aload_n 0, 1) := by decide +kernel
theorem dX12_two_220 : decode cX12_two 220 = .ok (.getfield 212, 3) := by decide +kernel
theorem dX12_two_223 : decode cX12_two 223 = .ok (.isub, 1) := by decide +kernel
theorem dX12_two_224 : decode cX12_two 224 = .ok (.invokestatic 171, 3) := by decide +kernel
theorem dX12_two_227 : decode cX12_two 227 = .ok (.iadd, 1) := by decide +kernel
theorem dX12_two_228 : decode cX12_two 228 = .ok (.istore 12, 2) := by decide +kernel
theorem dX12_two_230 : decode cX12_two 230 = .ok (.iload 7, 2) := by decide +kernel
theorem dX12_two_232 : decode cX12_two 232 = .ok (.ifCond .lt 10, 3) := by decide +kernel
theorem dX12_two_235 : decode cX12_two 235 = .ok (.iload 12, 2) := by decide +kernel
theorem dX12_two_237 : decode cX12_two 237 = .ok (.iload 7, 2) := by decide +kernel
theorem dX12_two_239 : decode cX12_two 239 = .ok (.if_icmp .ge 8, 3) := by decide +kernel
theorem dX12_two_242 : decode cX12_two 242 = .ok (.iload 12, 2) := by decide +kernel
theorem dX12_two_244 : decode cX12_two 244 = .ok (.goto 5, 3) := by decide +kernel
theorem dX12_two_247 : decode cX12_two 247 = .ok (.iload 7, 2) := by decide +kernel
theorem dX12_two_249 : decode cX12_two 249 = .ok (.istore 7, 2) := by decide +kernel
theorem dX12_two_251 : decode cX12_two 251 = .ok (.iinc 8 1, 3) := by decide +kernel
theorem dX12_two_254 : decode cX12_two 254 = .ok (.goto (-180), 3) := by decide +kernel
theorem dX12_two_257 : decode cX12_two 257 = .ok (.iload 7, 2) := by decide +kernel
theorem dX12_two_259 : decode cX12_two 259 = .ok (.ireturn, 1) := by decide +kernel
theorem dX12_habits_0 : decode cX12_habits 0 = .ok (.iload_n 1, 1) := by decide +kernel
theorem dX12_habits_1 : decode cX12_habits 1 = .ok (.i2l, 1) := by decide +kernel
theorem dX12_habits_2 : decode cX12_habits 2 = .ok (.lconst 0, 1) := by decide +kernel
theorem dX12_habits_3 : decode cX12_habits 3 = .ok (.ldc2_w 310, 3) := by decide +kernel
theorem dX12_habits_6 : decode cX12_habits 6 = .ok (.invokestatic 56, 3) := by decide +kernel
theorem dX12_habits_9 : decode cX12_habits 9 = .ok (.ifCond .eq 59, 3) := by decide +kernel
theorem dX12_habits_12 : decode cX12_habits 12 = .ok (.iload_n 1, 1) := by decide +kernel
theorem dX12_habits_13 : decode cX12_habits 13 = .ok (.bipush 100, 2) := by decide +kernel
theorem dX12_habits_15 : decode cX12_habits 15 = .ok (.irem, 1) := by decide +kernel
theorem dX12_habits_16 : decode cX12_habits 16 = .ok (.bipush 20, 2) := by decide +kernel
theorem dX12_habits_18 : decode cX12_habits 18 = .ok (.if_icmp .gt 50, 3) := by decide +kernel
theorem dX12_habits_21 : decode cX12_habits 21 = .ok (.iload_n 2, 1) := by decide +kernel
theorem dX12_habits_22 : decode cX12_habits 22 = .ok (.invokestatic 184, 3) := by decide +kernel
theorem dX12_habits_25 : decode cX12_habits 25 = .ok (.ifCond .eq 43, 3) := by decide +kernel
theorem dX12_habits_28 : decode cX12_habits 28 = .ok (.iload_n 3, 1) := by decide +kernel
theorem dX12_habits_29 : decode cX12_habits 29 = .ok (.invokestatic 184, 3) := by decide +kernel
theorem dX12_habits_32 : decode cX12_habits 32 = .ok (.ifCond .eq 36, 3) := by decide +kernel
theorem dX12_habits_35 : decode cX12_habits 35 = .ok (.iload 4, 2) := by decide +kernel
theorem dX12_habits_37 : decode cX12_habits 37 = .ok (.invokestatic 184, 3) := by decide +kernel
theorem dX12_habits_40 : decode cX12_habits 40 = .ok (.ifCond .eq 28, 3) := by decide +kernel
theorem dX12_habits_43 : decode cX12_habits 43 = .ok (.iload 5, 2) := by decide +kernel
theorem dX12_habits_45 : decode cX12_habits 45 = .ok (.invokestatic 184, 3) := by decide +kernel
theorem dX12_habits_48 : decode cX12_habits 48 = .ok (.ifCond .eq 20, 3) := by decide +kernel
theorem dX12_habits_51 : decode cX12_habits 51 = .ok (.iload 6, 2) := by decide +kernel
theorem dX12_habits_53 : decode cX12_habits 53 = .ok (.i2l, 1) := by decide +kernel
theorem dX12_habits_54 : decode cX12_habits 54 = .ok (.lconst 0, 1) := by decide +kernel
theorem dX12_habits_55 : decode cX12_habits 55 = .ok (.ldc2_w 312, 3) := by decide +kernel
theorem dX12_habits_58 : decode cX12_habits 58 = .ok (.invokestatic 56, 3) := by decide +kernel
theorem dX12_habits_61 : decode cX12_habits 61 = .ok (.ifCond .eq 7, 3) := by decide +kernel
theorem dX12_habits_64 : decode cX12_habits 64 = .ok (.iconst 1, 1) := by decide +kernel
theorem dX12_habits_65 : decode cX12_habits 65 = .ok (.goto 4, 3) := by decide +kernel
theorem dX12_habits_68 : decode cX12_habits 68 = .ok (.iconst 0, 1) := by decide +kernel
theorem dX12_habits_69 : decode cX12_habits 69 = .ok (.istore 7, 2) := by decide +kernel
theorem dX12_habits_71 : decode cX12_habits 71 = .ok (.iload 7, 2) := by decide +kernel
theorem dX12_habits_73 : decode cX12_habits 73 = .ok (.ifCond .ne 5, 3) := by decide +kernel
theorem dX12_habits_76 : decode cX12_habits 76 = .ok (.iconst (-1), 1) := by decide +kernel
theorem dX12_habits_77 : decode cX12_habits 77 = .ok (.ireturn, 1) := by decide +kernel
theorem dX12_habits_78 : decode cX12_habits 78 = .ok (.iconst 0, 1) := by decide +kernel
theorem dX12_habits_79 : decode cX12_habits 79 = .ok (.istore 8, 2) := by decide +kernel
theorem dX12_habits_81 : decode cX12_habits 81 = .ok (.iconst 0, 1) := by decide +kernel
theorem dX12_habits_82 : decode cX12_habits 82 = .ok (.istore 9, 2) := by decide +kernel
theorem dX12_habits_84 : decode cX12_habits 84 = .ok (.iload 9, 2) := by decide +kernel
theorem dX12_habits_86 : decode cX12_habits 86 = .ok (.bipush 8, 2) := by decide +kernel
theorem dX12_habits_88 : decode cX12_habits 88 = .ok (.if_icmp .ge 73, 3) := by decide +kernel
theorem dX12_habits_91 : decode cX12_habits 91 = .ok (.aload_n 0, 1) := by decide +kernel
theorem dX12_habits_92 : decode cX12_habits 92 = .ok (.iload 9, 2) := by decide +kernel
theorem dX12_habits_94 : decode cX12_habits 94 = .ok (.iload_n 1, 1) := by decide +kernel
theorem dX12_habits_95 : decode cX12_habits 95 = .ok (.bipush 100, 2) := by decide +kernel
theorem dX12_habits_97 : decode cX12_habits 97 = .ok (.idiv, 1) := by decide +kernel
theorem dX12_habits_98 : decode cX12_habits 98 = .ok (.iload_n 1, 1) := by decide +kernel
theorem dX12_habits_99 : decode cX12_habits 99 = .ok (.bipush 100, 2) := by decide +kernel
theorem dX12_habits_101 : decode cX12_habits 101 = .ok (.irem, 1) := by decide +kernel
theorem dX12_habits_102 : decode cX12_habits 102 = .ok (.iload_n 2, 1) := by decide +kernel
theorem dX12_habits_103 : decode cX12_habits 103 = .ok (.iload_n 3, 1) := by decide +kernel
theorem dX12_habits_104 : decode cX12_habits 104 = .ok (.iconst 1, 1) := by decide +kernel
theorem dX12_habits_105 : decode cX12_habits 105 = .ok (.invokevirtual 224, 3) := by decide +kernel
theorem dX12_habits_108 : decode cX12_habits 108 = .ok (.aload_n 0, 1) := by decide +kernel
theorem dX12_habits_109 : decode cX12_habits 109 = .ok (.invokevirtual 259, 3) := by decide +kernel
theorem dX12_habits_112 : decode cX12_habits 112 = .ok (.iload 8, 2) := by decide +kernel
theorem dX12_habits_114 : decode cX12_habits 114 = .ok (.aload_n 0, 1) := by decide +kernel
theorem dX12_habits_115 : decode cX12_habits 115 = .ok (.getfield 206, 3) := by decide +kernel
theorem dX12_habits_118 : decode cX12_habits 118 = .ok (.iload 4, 2) := by decide +kernel
theorem dX12_habits_120 : decode cX12_habits 120 = .ok (.isub, 1) := by decide +kernel
theorem dX12_habits_121 : decode cX12_habits 121 = .ok (.invokestatic 171, 3) := by decide +kernel
theorem dX12_habits_124 : decode cX12_habits 124 = .ok (.iload 6, 2) := by decide +kernel
theorem dX12_habits_126 : decode cX12_habits 126 = .ok (.if_icmp .gt 25, 3) := by decide +kernel
theorem dX12_habits_129 : decode cX12_habits 129 = .ok (.aload_n 0, 1) := by decide +kernel
theorem dX12_habits_130 : decode cX12_habits 130 = .ok (.getfield 209, 3) := by decide +kernel
theorem dX12_habits_133 : decode cX12_habits 133 = .ok (.iload 5, 2) := by decide +kernel
theorem dX12_habits_135 : decode cX12_habits 135 = .ok (.isub, 1) := by decide +kernel
theorem dX12_habits_136 : decode cX12_habits 136 = .ok (.invokestatic 171, 3) := by decide +kernel
theorem dX12_habits_139 : decode cX12_habits 139 = .ok (.iload 6, 2) := by decide +kernel
theorem dX12_habits_141 : decode cX12_habits 141 = .ok (.if_icmp .gt 10, 3) := by decide +kernel
theorem dX12_habits_144 : decode cX12_habits 144 = .ok (.iconst 1, 1) := by decide +kernel
theorem dX12_habits_145 : decode cX12_habits 145 = .ok (.iload 9, 2) := by decide +kernel
theorem dX12_habits_147 : decode cX12_habits 147 = .ok (.ishl, 1) := by decide +kernel
theorem dX12_habits_148 : decode cX12_habits 148 = .ok (.goto 4, 3) := by decide +kernel
theorem dX12_habits_151 : decode cX12_habits 151 = .ok (.iconst 0, 1) := by decide +kernel
theorem dX12_habits_152 : decode cX12_habits 152 = .ok (.ior, 1) := by decide +kernel
theorem dX12_habits_153 : decode cX12_habits 153 = .ok (.istore 8, 2) := by decide +kernel
theorem dX12_habits_155 : decode cX12_habits 155 = .ok (.iinc 9 1, 3) := by decide +kernel
theorem dX12_habits_158 : decode cX12_habits 158 = .ok (.goto (-74), 3) := by decide +kernel
theorem dX12_habits_161 : decode cX12_habits 161 = .ok (.iload 8, 2) := by decide +kernel
theorem dX12_habits_163 : decode cX12_habits 163 = .ok (.ireturn, 1) := by decide +kernel
theorem dX12_crates_0 : decode cX12_crates 0 = .ok (.iload_n 1, 1) := by decide +kernel
theorem dX12_crates_1 : decode cX12_crates 1 = .ok (.i2l, 1) := by decide +kernel
theorem dX12_crates_2 : decode cX12_crates 2 = .ok (.lconst 1, 1) := by decide +kernel
theorem dX12_crates_3 : decode cX12_crates 3 = .ok (.ldc2_w 279, 3) := by decide +kernel
theorem dX12_crates_6 : decode cX12_crates 6 = .ok (.invokestatic 56, 3) := by decide +kernel
theorem dX12_crates_9 : decode cX12_crates 9 = .ok (.ifCond .eq 17, 3) := by decide +kernel
theorem dX12_crates_12 : decode cX12_crates 12 = .ok (.iload_n 2, 1) := by decide +kernel
theorem dX12_crates_13 : decode cX12_crates 13 = .ok (.invokestatic 184, 3) := by decide +kernel
theorem dX12_crates_16 : decode cX12_crates 16 = .ok (.ifCond .eq 10, 3) := by decide +kernel
theorem dX12_crates_19 : decode cX12_crates 19 = .ok (.iload_n 3, 1) := by decide +kernel
theorem dX12_crates_20 : decode cX12_crates 20 = .ok (.invokestatic 184, 3) := by decide +kernel
theorem dX12_crates_23 : decode cX12_crates 23 = .ok (.ifCond .ne 5, 3) := by decide +kernel
theorem dX12_crates_26 : decode cX12_crates 26 = .ok (.iconst (-1), 1) := by decide +kernel
theorem dX12_crates_27 : decode cX12_crates 27 = .ok (.ireturn, 1) := by decide +kernel
theorem dX12_crates_28 : decode cX12_crates 28 = .ok (.iconst 0, 1) := by decide +kernel
theorem dX12_crates_29 : decode cX12_crates 29 = .ok (.istore 5, 2) := by decide +kernel
theorem dX12_crates_31 : decode cX12_crates 31 = .ok (.iconst 0, 1) := by decide +kernel
theorem dX12_crates_32 : decode cX12_crates 32 = .ok (.istore 6, 2) := by decide +kernel
theorem dX12_crates_34 : decode cX12_crates 34 = .ok (.iload 6, 2) := by decide +kernel
theorem dX12_crates_36 : decode cX12_crates 36 = .ok (.iload_n 1, 1) := by decide +kernel
theorem dX12_crates_37 : decode cX12_crates 37 = .ok (.if_icmp .ge 114, 3) := by decide +kernel
theorem dX12_crates_40 : decode cX12_crates 40 = .ok (.aload_n 0, 1) := by decide +kernel
theorem dX12_crates_41 : decode cX12_crates 41 = .ok (.iconst 1, 1) := by decide +kernel
theorem dX12_crates_42 : decode cX12_crates 42 = .ok (.iconst 0, 1) := by decide +kernel
theorem dX12_crates_43 : decode cX12_crates 43 = .ok (.iconst 0, 1) := by decide +kernel
theorem dX12_crates_44 : decode cX12_crates 44 = .ok (.iload_n 2, 1) := by decide +kernel
theorem dX12_crates_45 : decode cX12_crates 45 = .ok (.iload_n 3, 1) := by decide +kernel
theorem dX12_crates_46 : decode cX12_crates 46 = .ok (.iload 4, 2) := by decide +kernel
theorem dX12_crates_48 : decode cX12_crates 48 = .ok (.iload 6, 2) := by decide +kernel
theorem dX12_crates_50 : decode cX12_crates 50 = .ok (.iadd, 1) := by decide +kernel
theorem dX12_crates_51 : decode cX12_crates 51 = .ok (.invokevirtual 224, 3) := by decide +kernel
theorem dX12_crates_54 : decode cX12_crates 54 = .ok (.aload_n 0, 1) := by decide +kernel
theorem dX12_crates_55 : decode cX12_crates 55 = .ok (.invokevirtual 259, 3) := by decide +kernel
theorem dX12_crates_58 : decode cX12_crates 58 = .ok (.aload_n 0, 1) := by decide +kernel
theorem dX12_crates_59 : decode cX12_crates 59 = .ok (.getfield 46, 3) := by decide +kernel
theorem dX12_crates_62 : decode cX12_crates 62 = .ok (.iload 6, 2) := by decide +kernel
theorem dX12_crates_64 : decode cX12_crates 64 = .ok (.aload_n 0, 1) := by decide +kernel
theorem dX12_crates_65 : decode cX12_crates 65 = .ok (.getfield 206, 3) := by decide +kernel
theorem dX12_crates_68 : decode cX12_crates 68 = .ok (.iastore, 1) := by decide +kernel
theorem dX12_crates_69 : decode cX12_crates 69 = .ok (.aload_n 0, 1) := by decide +kernel
theorem dX12_crates_70 : decode cX12_crates 70 = .ok (.getfield 49, 3) := by decide +kernel
theorem dX12_crates_73 : decode cX12_crates 73 = .ok (.iload 6, 2) := by decide +kernel
theorem dX12_crates_75 : decode cX12_crates 75 = .ok (.aload_n 0, 1) := by decide +kernel
theorem dX12_crates_76 : decode cX12_crates 76 = .ok (.getfield 209, 3) := by decide +kernel
theorem dX12_crates_79 : decode cX12_crates 79 = .ok (.iastore, 1) := by decide +kernel
theorem dX12_crates_80 : decode cX12_crates 80 = .ok (.iconst 0, 1) := by decide +kernel
theorem dX12_crates_81 : decode cX12_crates 81 = .ok (.istore 7, 2) := by decide +kernel
theorem dX12_crates_83 : decode cX12_crates 83 = .ok (.iload 7, 2) := by decide +kernel
theorem dX12_crates_85 : decode cX12_crates 85 = .ok (.iload 6, 2) := by decide +kernel
theorem dX12_crates_87 : decode cX12_crates 87 = .ok (.if_icmp .ge 58, 3) := by decide +kernel
theorem dX12_crates_90 : decode cX12_crates 90 = .ok (.aload_n 0, 1) := by decide +kernel
theorem dX12_crates_91 : decode cX12_crates 91 = .ok (.getfield 46, 3) := by decide +kernel
theorem dX12_crates_94 : decode cX12_crates 94 = .ok (.iload 7, 2) := by decide +kernel
theorem dX12_crates_96 : decode cX12_crates 96 = .ok (.iaload, 1) := by decide +kernel
theorem dX12_crates_97 : decode cX12_crates 97 = .ok (.aload_n 0, 1) := by decide +kernel
theorem dX12_crates_98 : decode cX12_crates 98 = .ok (.getfield 206, 3) := by decide +kernel
theorem dX12_crates_101 : decode cX12_crates 101 = .ok (.isub, 1) := by decide +kernel
theorem dX12_crates_102 : decode cX12_crates 102 = .ok (.invokestatic 171, 3) := by decide +kernel
theorem dX12_crates_105 : decode cX12_crates 105 = .ok (.aload_n 0, 1) := by decide +kernel
theorem dX12_crates_106 : decode cX12_crates 106 = .ok (.getfield 49, 3) := by decide +kernel
theorem dX12_crates_109 : decode cX12_crates 109 = .ok (.iload 7, 2) := by decide +kernel
theorem dX12_crates_111 : decode cX12_crates 111 = .ok (.iaload, 1) := by decide +kernel
theorem dX12_crates_112 : decode cX12_crates 112 = .ok (.aload_n 0, 1) := by decide +kernel
theorem dX12_crates_113 : decode cX12_crates 113 = .ok (.getfield 209, 3) := by decide +kernel
theorem dX12_crates_116 : decode cX12_crates 116 = .ok (.isub, 1) := by decide +kernel
theorem dX12_crates_117 : decode cX12_crates 117 = .ok (.invokestatic 171, 3) := by decide +kernel
theorem dX12_crates_120 : decode cX12_crates 120 = .ok (.iadd, 1) := by decide +kernel
theorem dX12_crates_121 : decode cX12_crates 121 = .ok (.istore 8, 2) := by decide +kernel
theorem dX12_crates_123 : decode cX12_crates 123 = .ok (.iload 8, 2) := by decide +kernel
theorem dX12_crates_125 : decode cX12_crates 125 = .ok (.iload 5, 2) := by decide +kernel
theorem dX12_crates_127 : decode cX12_crates 127 = .ok (.if_icmp .le 8, 3) := by decide +kernel
theorem dX12_crates_130 : decode cX12_crates 130 = .ok (.iload 8, 2) := by decide +kernel
theorem dX12_crates_132 : decode cX12_crates 132 = .ok (.goto 5, 3) := by decide +kernel
theorem dX12_crates_135 : decode cX12_crates 135 = .ok (.iload 5, 2) := by decide +kernel
theorem dX12_crates_137 : decode cX12_crates 137 = .ok (.istore 5, 2) := by decide +kernel
theorem dX12_crates_139 : decode cX12_crates 139 = .ok (.iinc 7 1, 3) := by decide +kernel
theorem dX12_crates_142 : decode cX12_crates 142 = .ok (.goto (-59), 3) := by decide +kernel
theorem dX12_crates_145 : decode cX12_crates 145 = .ok (.iinc 6 1, 3) := by decide +kernel
theorem dX12_crates_148 : decode cX12_crates 148 = .ok (.goto (-114), 3) := by decide +kernel
theorem dX12_crates_151 : decode cX12_crates 151 = .ok (.iload 5, 2) := by decide +kernel
theorem dX12_crates_153 : decode cX12_crates 153 = .ok (.ireturn, 1) := by decide +kernel
theorem dX12_leastOf_0 : decode cX12_leastOf 0 = .ok (.aload_n 0, 1) := by decide +kernel
theorem dX12_leastOf_1 : decode cX12_leastOf 1 = .ok (.getfield 22, 3) := by decide +kernel
theorem dX12_leastOf_4 : decode cX12_leastOf 4 = .ok (.iload_n 1, 1) := by decide +kernel
theorem dX12_leastOf_5 : decode cX12_leastOf 5 = .ok (.iaload, 1) := by decide +kernel
theorem dX12_leastOf_6 : decode cX12_leastOf 6 = .ok (.ifCond .ne 8, 3) := by decide +kernel
theorem dX12_leastOf_9 : decode cX12_leastOf 9 = .ok (.bipush (-128), 2) := by decide +kernel
theorem dX12_leastOf_11 : decode cX12_leastOf 11 = .ok (.goto 22, 3) := by decide +kernel
theorem dX12_leastOf_14 : decode cX12_leastOf 14 = .ok (.aload_n 0, 1) := by decide +kernel
theorem dX12_leastOf_15 : decode cX12_leastOf 15 = .ok (.getfield 22, 3) := by decide +kernel
theorem dX12_leastOf_18 : decode cX12_leastOf 18 = .ok (.iload_n 1, 1) := by decide +kernel
theorem dX12_leastOf_19 : decode cX12_leastOf 19 = .ok (.iaload, 1) := by decide +kernel
theorem dX12_leastOf_20 : decode cX12_leastOf 20 = .ok (.iconst 1, 1) := by decide +kernel
theorem dX12_leastOf_21 : decode cX12_leastOf 21 = .ok (.if_icmp .ne 9, 3) := by decide +kernel
theorem dX12_leastOf_24 : decode cX12_leastOf 24 = .ok (.sipush (-32768), 3) := by decide +kernel
theorem dX12_leastOf_27 : decode cX12_leastOf 27 = .ok (.goto 6, 3) := by decide +kernel
theorem dX12_leastOf_30 : decode cX12_leastOf 30 = .ok (.ldc_w 314, 3) := by decide +kernel
theorem dX12_leastOf_33 : decode cX12_leastOf 33 = .ok (.ireturn, 1) := by decide +kernel
theorem dX12_judge_0 : decode cX12_judge 0 = .ok (.aload_n 0, 1) := by decide +kernel
theorem dX12_judge_1 : decode cX12_judge 1 = .ok (.iload_n 1, 1) := by decide +kernel
theorem dX12_judge_2 : decode cX12_judge 2 = .ok (.invokevirtual 149, 3) := by decide +kernel
theorem dX12_judge_5 : decode cX12_judge 5 = .ok (.ifCond .eq 17, 3) := by decide +kernel
theorem dX12_judge_8 : decode cX12_judge 8 = .ok (.iload_n 2, 1) := by decide +kernel
theorem dX12_judge_9 : decode cX12_judge 9 = .ok (.invokestatic 184, 3) := by decide +kernel
theorem dX12_judge_12 : decode cX12_judge 12 = .ok (.ifCond .eq 10, 3) := by decide +kernel
theorem dX12_judge_15 : decode cX12_judge 15 = .ok (.iload_n 3, 1) := by decide +kernel
theorem dX12_judge_16 : decode cX12_judge 16 = .ok (.invokestatic 125, 3) := by decide +kernel
theorem dX12_judge_19 : decode cX12_judge 19 = .ok (.ifCond .ne 5, 3) := by decide +kernel
theorem dX12_judge_22 : decode cX12_judge 22 = .ok (.iconst (-1), 1) := by decide +kernel
theorem dX12_judge_23 : decode cX12_judge 23 = .ok (.ireturn, 1) := by decide +kernel
theorem dX12_judge_24 : decode cX12_judge 24 = .ok (.aload_n 0, 1) := by decide +kernel
theorem dX12_judge_25 : decode cX12_judge 25 = .ok (.iload_n 3, 1) := by decide +kernel
theorem dX12_judge_26 : decode cX12_judge 26 = .ok (.iconst (-1), 1) := by decide +kernel
theorem dX12_judge_27 : decode cX12_judge 27 = .ok (.invokevirtual 128, 3) := by decide +kernel
theorem dX12_judge_30 : decode cX12_judge 30 = .ok (.istore 4, 2) := by decide +kernel
theorem dX12_judge_32 : decode cX12_judge 32 = .ok (.iload 4, 2) := by decide +kernel
theorem dX12_judge_34 : decode cX12_judge 34 = .ok (.ifCond .eq 6, 3) := by decide +kernel
theorem dX12_judge_37 : decode cX12_judge 37 = .ok (.iload 4, 2) := by decide +kernel
theorem dX12_judge_39 : decode cX12_judge 39 = .ok (.ireturn, 1) := by decide +kernel
theorem dX12_judge_40 : decode cX12_judge 40 = .ok (.aload_n 0, 1) := by decide +kernel
theorem dX12_judge_41 : decode cX12_judge 41 = .ok (.getfield 25, 3) := by decide +kernel
theorem dX12_judge_44 : decode cX12_judge 44 = .ok (.iload_n 3, 1) := by decide +kernel
theorem dX12_judge_45 : decode cX12_judge 45 = .ok (.iaload, 1) := by decide +kernel
theorem dX12_judge_46 : decode cX12_judge 46 = .ok (.bipush 31, 2) := by decide +kernel
theorem dX12_judge_48 : decode cX12_judge 48 = .ok (.if_icmp .le 6, 3) := by decide +kernel
theorem dX12_judge_51 : decode cX12_judge 51 = .ok (.bipush (-13), 2) := by decide +kernel
theorem dX12_judge_53 : decode cX12_judge 53 = .ok (.ireturn, 1) := by decide +kernel
theorem dX12_judge_54 : decode cX12_judge 54 = .ok (.iconst 0, 1) := by decide +kernel
theorem dX12_judge_55 : decode cX12_judge 55 = .ok (.istore 5, 2) := by decide +kernel
theorem dX12_judge_57 : decode cX12_judge 57 = .ok (.iload 5, 2) := by decide +kernel
theorem dX12_judge_59 : decode cX12_judge 59 = .ok (.aload_n 0, 1) := by decide +kernel
theorem dX12_judge_60 : decode cX12_judge 60 = .ok (.getfield 25, 3) := by decide +kernel
theorem dX12_judge_63 : decode cX12_judge 63 = .ok (.iload_n 3, 1) := by decide +kernel
theorem dX12_judge_64 : decode cX12_judge 64 = .ok (.iaload, 1) := by decide +kernel
theorem dX12_judge_65 : decode cX12_judge 65 = .ok (.if_icmp .ge 61, 3) := by decide +kernel
theorem dX12_judge_68 : decode cX12_judge 68 = .ok (.aload_n 0, 1) := by decide +kernel
theorem dX12_judge_69 : decode cX12_judge 69 = .ok (.getfield 28, 3) := by decide +kernel
theorem dX12_judge_72 : decode cX12_judge 72 = .ok (.bipush 100, 2) := by decide +kernel
theorem dX12_judge_74 : decode cX12_judge 74 = .ok (.iload_n 3, 1) := by decide +kernel
theorem dX12_judge_75 : decode cX12_judge 75 = .ok (.imul, 1) := by decide +kernel
theorem dX12_judge_76 : decode cX12_judge 76 = .ok (.iload 5, 2) := by decide +kernel
theorem dX12_judge_78 : decode cX12_judge 78 = .ok (.iadd, 1) := by decide +kernel
theorem dX12_judge_79 : decode cX12_judge 79 = .ok (.iaload, 1) := by decide +kernel
theorem dX12_judge_80 : decode cX12_judge 80 = .ok (.istore 6, 2) := by decide +kernel
theorem dX12_judge_82 : decode cX12_judge 82 = .ok (.iload 6, 2) := by decide +kernel
theorem dX12_judge_84 : decode cX12_judge 84 = .ok (.aload_n 0, 1) := by decide +kernel
theorem dX12_judge_85 : decode cX12_judge 85 = .ok (.iload_n 3, 1) := by decide +kernel
theorem dX12_judge_86 : decode cX12_judge 86 = .ok (.invokevirtual 315, 3) := by decide +kernel
theorem dX12_judge_89 : decode cX12_judge 89 = .ok (.if_icmp .ne 6, 3) := by decide +kernel
theorem dX12_judge_92 : decode cX12_judge 92 = .ok (.goto 28, 3) := by decide +kernel
theorem dX12_judge_95 : decode cX12_judge 95 = .ok (.aload_n 0, 1) := by decide +kernel
theorem dX12_judge_96 : decode cX12_judge 96 = .ok (.iload_n 1, 1) := by decide +kernel
theorem dX12_judge_97 : decode cX12_judge 97 = .ok (.sipush 1000, 3) := by decide +kernel
theorem dX12_judge_100 : decode cX12_judge 100 = .ok (.iload 5, 2) := by decide +kernel
theorem dX12_judge_102 : decode cX12_judge 102 = .ok (.imul, 1) := by decide +kernel
theorem dX12_judge_103 : decode cX12_judge 103 = .ok (.iload_n 2, 1) := by decide +kernel
theorem dX12_judge_104 : decode cX12_judge 104 = .ok (.iconst 1, 1) := by decide +kernel
theorem dX12_judge_105 : decode cX12_judge 105 = .ok (.invokevirtual 267, 3) := by decide +kernel
theorem dX12_judge_108 : decode cX12_judge 108 = .ok (.iload 6, 2) := by decide +kernel
theorem dX12_judge_110 : decode cX12_judge 110 = .ok (.aload_n 0, 1) := by decide +kernel
theorem dX12_judge_111 : decode cX12_judge 111 = .ok (.invokevirtual 262, 3) := by decide +kernel
theorem dX12_judge_114 : decode cX12_judge 114 = .ok (.if_icmp .eq 6, 3) := by decide +kernel
theorem dX12_judge_117 : decode cX12_judge 117 = .ok (.iload 5, 2) := by decide +kernel
theorem dX12_judge_119 : decode cX12_judge 119 = .ok (.ireturn, 1) := by decide +kernel
theorem dX12_judge_120 : decode cX12_judge 120 = .ok (.iinc 5 1, 3) := by decide +kernel
theorem dX12_judge_123 : decode cX12_judge 123 = .ok (.goto (-66), 3) := by decide +kernel
theorem dX12_judge_126 : decode cX12_judge 126 = .ok (.bipush (-4), 2) := by decide +kernel
theorem dX12_judge_128 : decode cX12_judge 128 = .ok (.ireturn, 1) := by decide +kernel
theorem dX12_image_0 : decode cX12_image 0 = .ok (.iconst 0, 1) := by decide +kernel
theorem dX12_image_1 : decode cX12_image 1 = .ok (.istore_n 1, 1) := by decide +kernel
theorem dX12_image_2 : decode cX12_image 2 = .ok (.iload_n 1, 1) := by decide +kernel
theorem dX12_image_3 : decode cX12_image 3 = .ok (.bipush 73, 2) := by decide +kernel
theorem dX12_image_5 : decode cX12_image 5 = .ok (.if_icmp .ge 21, 3) := by decide +kernel
theorem dX12_image_8 : decode cX12_image 8 = .ok (.aload_n 0, 1) := by decide +kernel
theorem dX12_image_9 : decode cX12_image 9 = .ok (.getfield 13, 3) := by decide +kernel
theorem dX12_image_12 : decode cX12_image 12 = .ok (.iload_n 1, 1) := by decide +kernel
theorem dX12_image_13 : decode cX12_image 13 = .ok (.aload_n 0, 1) := by decide +kernel
theorem dX12_image_14 : decode cX12_image 14 = .ok (.getfield 9, 3) := by decide +kernel
theorem dX12_image_17 : decode cX12_image 17 = .ok (.iload_n 1, 1) := by decide +kernel
theorem dX12_image_18 : decode cX12_image 18 = .ok (.iaload, 1) := by decide +kernel
theorem dX12_image_19 : decode cX12_image 19 = .ok (.iastore, 1) := by decide +kernel
theorem dX12_image_20 : decode cX12_image 20 = .ok (.iinc 1 1, 3) := by decide +kernel
theorem dX12_image_23 : decode cX12_image 23 = .ok (.goto (-21), 3) := by decide +kernel
theorem dX12_image_26 : decode cX12_image 26 = .ok (.aload_n 0, 1) := by decide +kernel
theorem dX12_image_27 : decode cX12_image 27 = .ok (.iconst 1, 1) := by decide +kernel
theorem dX12_image_28 : decode cX12_image 28 = .ok (.putfield 318, 3) := by decide +kernel
theorem dX12_image_31 : decode cX12_image 31 = .ok (.aload_n 0, 1) := by decide +kernel
theorem dX12_image_32 : decode cX12_image 32 = .ok (.getfield 9, 3) := by decide +kernel
theorem dX12_image_35 : decode cX12_image 35 = .ok (.iconst 3, 1) := by decide +kernel
theorem dX12_image_36 : decode cX12_image 36 = .ok (.iaload, 1) := by decide +kernel
theorem dX12_image_37 : decode cX12_image 37 = .ok (.ireturn, 1) := by decide +kernel
theorem dX12_restore_0 : decode cX12_restore 0 = .ok (.aload_n 0, 1) := by decide +kernel
theorem dX12_restore_1 : decode cX12_restore 1 = .ok (.getfield 318, 3) := by decide +kernel
theorem dX12_restore_4 : decode cX12_restore 4 = .ok (.ifCond .ne 6, 3) := by decide +kernel
theorem dX12_restore_7 : decode cX12_restore 7 = .ok (.bipush (-3), 2) := by decide +kernel
theorem dX12_restore_9 : decode cX12_restore 9 = .ok (.ireturn, 1) := by decide +kernel
theorem dX12_restore_10 : decode cX12_restore 10 = .ok (.iconst 0, 1) := by decide +kernel
theorem dX12_restore_11 : decode cX12_restore 11 = .ok (.istore_n 1, 1) := by decide +kernel
theorem dX12_restore_12 : decode cX12_restore 12 = .ok (.iload_n 1, 1) := by decide +kernel
theorem dX12_restore_13 : decode cX12_restore 13 = .ok (.bipush 73, 2) := by decide +kernel
theorem dX12_restore_15 : decode cX12_restore 15 = .ok (.if_icmp .ge 21, 3) := by decide +kernel
theorem dX12_restore_18 : decode cX12_restore 18 = .ok (.aload_n 0, 1) := by decide +kernel
theorem dX12_restore_19 : decode cX12_restore 19 = .ok (.getfield 9, 3) := by decide +kernel
theorem dX12_restore_22 : decode cX12_restore 22 = .ok (.iload_n 1, 1) := by decide +kernel
theorem dX12_restore_23 : decode cX12_restore 23 = .ok (.aload_n 0, 1) := by decide +kernel
theorem dX12_restore_24 : decode cX12_restore 24 = .ok (.getfield 13, 3) := by decide +kernel
theorem dX12_restore_27 : decode cX12_restore 27 = .ok (.iload_n 1, 1) := by decide +kernel
theorem dX12_restore_28 : decode cX12_restore 28 = .ok (.iaload, 1) := by decide +kernel
theorem dX12_restore_29 : decode cX12_restore 29 = .ok (.iastore, 1) := by decide +kernel
theorem dX12_restore_30 : decode cX12_restore 30 = .ok (.iinc 1 1, 3) := by decide +kernel
theorem dX12_restore_33 : decode cX12_restore 33 = .ok (.goto (-21), 3) := by decide +kernel
theorem dX12_restore_36 : decode cX12_restore 36 = .ok (.aload_n 0, 1) := by decide +kernel
theorem dX12_restore_37 : decode cX12_restore 37 = .ok (.getfield 9, 3) := by decide +kernel
theorem dX12_restore_40 : decode cX12_restore 40 = .ok (.iconst 3, 1) := by decide +kernel
theorem dX12_restore_41 : decode cX12_restore 41 = .ok (.iaload, 1) := by decide +kernel
theorem dX12_restore_42 : decode cX12_restore 42 = .ok (.ireturn, 1) := by decide +kernel
theorem dX12_count_0 : decode cX12_count 0 = .ok (.iconst 0, 1) := by decide +kernel
theorem dX12_count_1 : decode cX12_count 1 = .ok (.istore_n 2, 1) := by decide +kernel
theorem dX12_count_2 : decode cX12_count 2 = .ok (.iload_n 1, 1) := by decide +kernel
theorem dX12_count_3 : decode cX12_count 3 = .ok (.tableswitch 112 0 5 #[37, 44, 51, 91, 98, 105], 37) := by decide +kernel
theorem dX12_count_40 : decode cX12_count 40 = .ok (.aload_n 0, 1) := by decide +kernel
theorem dX12_count_41 : decode cX12_count 41 = .ok (.getfield 9, 3) := by decide +kernel
theorem dX12_count_44 : decode cX12_count 44 = .ok (.iconst 3, 1) := by decide +kernel
theorem dX12_count_45 : decode cX12_count 45 = .ok (.iaload, 1) := by decide +kernel
theorem dX12_count_46 : decode cX12_count 46 = .ok (.ireturn, 1) := by decide +kernel
theorem dX12_count_47 : decode cX12_count 47 = .ok (.aload_n 0, 1) := by decide +kernel
theorem dX12_count_48 : decode cX12_count 48 = .ok (.getfield 9, 3) := by decide +kernel
theorem dX12_count_51 : decode cX12_count 51 = .ok (.iconst 4, 1) := by decide +kernel
theorem dX12_count_52 : decode cX12_count 52 = .ok (.iaload, 1) := by decide +kernel
theorem dX12_count_53 : decode cX12_count 53 = .ok (.ireturn, 1) := by decide +kernel
theorem dX12_count_54 : decode cX12_count 54 = .ok (.iconst 0, 1) := by decide +kernel
theorem dX12_count_55 : decode cX12_count 55 = .ok (.istore_n 3, 1) := by decide +kernel
theorem dX12_count_56 : decode cX12_count 56 = .ok (.iload_n 3, 1) := by decide +kernel
theorem dX12_count_57 : decode cX12_count 57 = .ok (.bipush 10, 2) := by decide +kernel
theorem dX12_count_59 : decode cX12_count 59 = .ok (.if_icmp .ge 33, 3) := by decide +kernel
theorem dX12_count_62 : decode cX12_count 62 = .ok (.iload_n 2, 1) := by decide +kernel
theorem dX12_count_63 : decode cX12_count 63 = .ok (.aload_n 0, 1) := by decide +kernel
theorem dX12_count_64 : decode cX12_count 64 = .ok (.iload_n 3, 1) := by decide +kernel
theorem dX12_count_65 : decode cX12_count 65 = .ok (.invokevirtual 144, 3) := by decide +kernel
theorem dX12_count_68 : decode cX12_count 68 = .ok (.ifCond .ne 11, 3) := by decide +kernel
theorem dX12_count_71 : decode cX12_count 71 = .ok (.aload_n 0, 1) := by decide +kernel
theorem dX12_count_72 : decode cX12_count 72 = .ok (.iload_n 3, 1) := by decide +kernel
theorem dX12_count_73 : decode cX12_count 73 = .ok (.invokevirtual 140, 3) := by decide +kernel
theorem dX12_count_76 : decode cX12_count 76 = .ok (.ifCond .eq 7, 3) := by decide +kernel
theorem dX12_count_79 : decode cX12_count 79 = .ok (.iconst 1, 1) := by decide +kernel
theorem dX12_count_80 : decode cX12_count 80 = .ok (.goto 4, 3) := by decide +kernel
theorem dX12_count_83 : decode cX12_count 83 = .ok (.iconst 0, 1) := by decide +kernel
theorem dX12_count_84 : decode cX12_count 84 = .ok (.iadd, 1) := by decide +kernel
theorem dX12_count_85 : decode cX12_count 85 = .ok (.istore_n 2, 1) := by decide +kernel
theorem dX12_count_86 : decode cX12_count 86 = .ok (.iinc 3 1, 3) := by decide +kernel
theorem dX12_count_89 : decode cX12_count 89 = .ok (.goto (-33), 3) := by decide +kernel
theorem dX12_count_92 : decode cX12_count 92 = .ok (.iload_n 2, 1) := by decide +kernel
theorem dX12_count_93 : decode cX12_count 93 = .ok (.ireturn, 1) := by decide +kernel
theorem dX12_count_94 : decode cX12_count 94 = .ok (.aload_n 0, 1) := by decide +kernel
theorem dX12_count_95 : decode cX12_count 95 = .ok (.getfield 9, 3) := by decide +kernel
theorem dX12_count_98 : decode cX12_count 98 = .ok (.iconst 0, 1) := by decide +kernel
theorem dX12_count_99 : decode cX12_count 99 = .ok (.iaload, 1) := by decide +kernel
theorem dX12_count_100 : decode cX12_count 100 = .ok (.ireturn, 1) := by decide +kernel
theorem dX12_count_101 : decode cX12_count 101 = .ok (.aload_n 0, 1) := by decide +kernel
theorem dX12_count_102 : decode cX12_count 102 = .ok (.getfield 9, 3) := by decide +kernel
theorem dX12_count_105 : decode cX12_count 105 = .ok (.iconst 1, 1) := by decide +kernel
theorem dX12_count_106 : decode cX12_count 106 = .ok (.iaload, 1) := by decide +kernel
theorem dX12_count_107 : decode cX12_count 107 = .ok (.ireturn, 1) := by decide +kernel
theorem dX12_count_108 : decode cX12_count 108 = .ok (.aload_n 0, 1) := by decide +kernel
theorem dX12_count_109 : decode cX12_count 109 = .ok (.getfield 9, 3) := by decide +kernel
theorem dX12_count_112 : decode cX12_count 112 = .ok (.iconst 2, 1) := by decide +kernel
theorem dX12_count_113 : decode cX12_count 113 = .ok (.iaload, 1) := by decide +kernel
theorem dX12_count_114 : decode cX12_count 114 = .ok (.ireturn, 1) := by decide +kernel
theorem dX12_count_115 : decode cX12_count 115 = .ok (.iconst (-1), 1) := by decide +kernel
theorem dX12_count_116 : decode cX12_count 116 = .ok (.ireturn, 1) := by decide +kernel
theorem dX12_careOf_0 : decode cX12_careOf 0 = .ok (.aload_n 0, 1) := by decide +kernel
theorem dX12_careOf_1 : decode cX12_careOf 1 = .ok (.iload_n 1, 1) := by decide +kernel
theorem dX12_careOf_2 : decode cX12_careOf 2 = .ok (.iconst 1, 1) := by decide +kernel
theorem dX12_careOf_3 : decode cX12_careOf 3 = .ok (.invokevirtual 152, 3) := by decide +kernel
theorem dX12_careOf_6 : decode cX12_careOf 6 = .ok (.istore_n 2, 1) := by decide +kernel
theorem dX12_careOf_7 : decode cX12_careOf 7 = .ok (.aload_n 0, 1) := by decide +kernel
theorem dX12_careOf_8 : decode cX12_careOf 8 = .ok (.iload_n 1, 1) := by decide +kernel
theorem dX12_careOf_9 : decode cX12_careOf 9 = .ok (.iconst 0, 1) := by decide +kernel
theorem dX12_careOf_10 : decode cX12_careOf 10 = .ok (.invokevirtual 152, 3) := by decide +kernel
theorem dX12_careOf_13 : decode cX12_careOf 13 = .ok (.tableswitch 81 1 7 #[43, 45, 50, 53, 63, 73, 78], 43) := by decide +kernel
theorem dX12_careOf_56 : decode cX12_careOf 56 = .ok (.iconst 1, 1) := by decide +kernel
theorem dX12_careOf_57 : decode cX12_careOf 57 = .ok (.ireturn, 1) := by decide +kernel
theorem dX12_careOf_58 : decode cX12_careOf 58 = .ok (.bipush 10, 2) := by decide +kernel
theorem dX12_careOf_60 : decode cX12_careOf 60 = .ok (.iload_n 2, 1) := by decide +kernel
theorem dX12_careOf_61 : decode cX12_careOf 61 = .ok (.iadd, 1) := by decide +kernel
theorem dX12_careOf_62 : decode cX12_careOf 62 = .ok (.ireturn, 1) := by decide +kernel
theorem dX12_careOf_63 : decode cX12_careOf 63 = .ok (.bipush 20, 2) := by decide +kernel
theorem dX12_careOf_65 : decode cX12_careOf 65 = .ok (.ireturn, 1) := by decide +kernel
theorem dX12_careOf_66 : decode cX12_careOf 66 = .ok (.bipush 10, 2) := by decide +kernel
theorem dX12_careOf_68 : decode cX12_careOf 68 = .ok (.aload_n 0, 1) := by decide +kernel
theorem dX12_careOf_69 : decode cX12_careOf 69 = .ok (.iload_n 1, 1) := by decide +kernel
theorem dX12_careOf_70 : decode cX12_careOf 70 = .ok (.iconst 2, 1) := by decide +kernel
theorem dX12_careOf_71 : decode cX12_careOf 71 = .ok (.invokevirtual 152, 3) := by decide +kernel
theorem dX12_careOf_74 : decode cX12_careOf 74 = .ok (.iadd, 1) := by decide +kernel
theorem dX12_careOf_75 : decode cX12_careOf 75 = .ok (.ireturn, 1) := by decide +kernel
theorem dX12_careOf_76 : decode cX12_careOf 76 = .ok (.bipush 13, 2) := by decide +kernel
theorem dX12_careOf_78 : decode cX12_careOf 78 = .ok (.aload_n 0, 1) := by decide +kernel
theorem dX12_careOf_79 : decode cX12_careOf 79 = .ok (.iload_n 1, 1) := by decide +kernel
theorem dX12_careOf_80 : decode cX12_careOf 80 = .ok (.iconst 2, 1) := by decide +kernel
theorem dX12_careOf_81 : decode cX12_careOf 81 = .ok (.invokevirtual 152, 3) := by decide +kernel
theorem dX12_careOf_84 : decode cX12_careOf 84 = .ok (.iadd, 1) := by decide +kernel
theorem dX12_careOf_85 : decode cX12_careOf 85 = .ok (.ireturn, 1) := by decide +kernel
theorem dX12_careOf_86 : decode cX12_careOf 86 = .ok (.bipush 10, 2) := by decide +kernel
theorem dX12_careOf_88 : decode cX12_careOf 88 = .ok (.iload_n 2, 1) := by decide +kernel
theorem dX12_careOf_89 : decode cX12_careOf 89 = .ok (.imul, 1) := by decide +kernel
theorem dX12_careOf_90 : decode cX12_careOf 90 = .ok (.ireturn, 1) := by decide +kernel
theorem dX12_careOf_91 : decode cX12_careOf 91 = .ok (.bipush 70, 2) := by decide +kernel
theorem dX12_careOf_93 : decode cX12_careOf 93 = .ok (.ireturn, 1) := by decide +kernel
theorem dX12_careOf_94 : decode cX12_careOf 94 = .ok (.bipush 10, 2) := by decide +kernel
theorem dX12_careOf_96 : decode cX12_careOf 96 = .ok (.ireturn, 1) := by decide +kernel
theorem dX12_keep_0 : decode cX12_keep 0 = .ok (.iload_n 1, 1) := by decide +kernel
theorem dX12_keep_1 : decode cX12_keep 1 = .ok (.invokestatic 125, 3) := by decide +kernel
theorem dX12_keep_4 : decode cX12_keep 4 = .ok (.ifCond .eq 26, 3) := by decide +kernel
theorem dX12_keep_7 : decode cX12_keep 7 = .ok (.iload_n 2, 1) := by decide +kernel
theorem dX12_keep_8 : decode cX12_keep 8 = .ok (.i2l, 1) := by decide +kernel
theorem dX12_keep_9 : decode cX12_keep 9 = .ok (.lconst 0, 1) := by decide +kernel
theorem dX12_keep_10 : decode cX12_keep 10 = .ok (.lconst 1, 1) := by decide +kernel
theorem dX12_keep_11 : decode cX12_keep 11 = .ok (.invokestatic 56, 3) := by decide +kernel
theorem dX12_keep_14 : decode cX12_keep 14 = .ok (.ifCond .eq 16, 3) := by decide +kernel
theorem dX12_keep_17 : decode cX12_keep 17 = .ok (.iload_n 2, 1) := by decide +kernel
theorem dX12_keep_18 : decode cX12_keep 18 = .ok (.iconst 1, 1) := by decide +kernel
theorem dX12_keep_19 : decode cX12_keep 19 = .ok (.if_icmp .ne 13, 3) := by decide +kernel
theorem dX12_keep_22 : decode cX12_keep 22 = .ok (.aload_n 0, 1) := by decide +kernel
theorem dX12_keep_23 : decode cX12_keep 23 = .ok (.iload_n 3, 1) := by decide +kernel
theorem dX12_keep_24 : decode cX12_keep 24 = .ok (.invokevirtual 149, 3) := by decide +kernel
theorem dX12_keep_27 : decode cX12_keep 27 = .ok (.ifCond .ne 5, 3) := by decide +kernel
theorem dX12_keep_30 : decode cX12_keep 30 = .ok (.iconst (-1), 1) := by decide +kernel
theorem dX12_keep_31 : decode cX12_keep 31 = .ok (.ireturn, 1) := by decide +kernel
theorem dX12_keep_32 : decode cX12_keep 32 = .ok (.aload_n 0, 1) := by decide +kernel
theorem dX12_keep_33 : decode cX12_keep 33 = .ok (.getfield 19, 3) := by decide +kernel
theorem dX12_keep_36 : decode cX12_keep 36 = .ok (.iload_n 1, 1) := by decide +kernel
theorem dX12_keep_37 : decode cX12_keep 37 = .ok (.iload_n 2, 1) := by decide +kernel
theorem dX12_keep_38 : decode cX12_keep 38 = .ok (.iastore, 1) := by decide +kernel
theorem dX12_keep_39 : decode cX12_keep 39 = .ok (.iload_n 2, 1) := by decide +kernel
theorem dX12_keep_40 : decode cX12_keep 40 = .ok (.ifCond .ne 5, 3) := by decide +kernel
theorem dX12_keep_43 : decode cX12_keep 43 = .ok (.iconst 0, 1) := by decide +kernel
theorem dX12_keep_44 : decode cX12_keep 44 = .ok (.ireturn, 1) := by decide +kernel
theorem dX12_keep_45 : decode cX12_keep 45 = .ok (.aload_n 0, 1) := by decide +kernel
theorem dX12_keep_46 : decode cX12_keep 46 = .ok (.iload_n 3, 1) := by decide +kernel
theorem dX12_keep_47 : decode cX12_keep 47 = .ok (.iconst 0, 1) := by decide +kernel
theorem dX12_keep_48 : decode cX12_keep 48 = .ok (.invokevirtual 152, 3) := by decide +kernel
theorem dX12_keep_51 : decode cX12_keep 51 = .ok (.istore 4, 2) := by decide +kernel
theorem dX12_keep_53 : decode cX12_keep 53 = .ok (.aload_n 0, 1) := by decide +kernel
theorem dX12_keep_54 : decode cX12_keep 54 = .ok (.getfield 31, 3) := by decide +kernel
theorem dX12_keep_57 : decode cX12_keep 57 = .ok (.iload_n 1, 1) := by decide +kernel
theorem dX12_keep_58 : decode cX12_keep 58 = .ok (.aload_n 0, 1) := by decide +kernel
theorem dX12_keep_59 : decode cX12_keep 59 = .ok (.iload_n 3, 1) := by decide +kernel
theorem dX12_keep_60 : decode cX12_keep 60 = .ok (.invokevirtual 322, 3) := by decide +kernel
theorem dX12_keep_63 : decode cX12_keep 63 = .ok (.iastore, 1) := by decide +kernel
theorem dX12_keep_64 : decode cX12_keep 64 = .ok (.aload_n 0, 1) := by decide +kernel
theorem dX12_keep_65 : decode cX12_keep 65 = .ok (.getfield 34, 3) := by decide +kernel
theorem dX12_keep_68 : decode cX12_keep 68 = .ok (.iload_n 1, 1) := by decide +kernel
theorem dX12_keep_69 : decode cX12_keep 69 = .ok (.iload 4, 2) := by decide +kernel
theorem dX12_keep_71 : decode cX12_keep 71 = .ok (.iconst 1, 1) := by decide +kernel
theorem dX12_keep_72 : decode cX12_keep 72 = .ok (.if_icmp .eq 12, 3) := by decide +kernel
theorem dX12_keep_75 : decode cX12_keep 75 = .ok (.aload_n 0, 1) := by decide +kernel
theorem dX12_keep_76 : decode cX12_keep 76 = .ok (.iload_n 3, 1) := by decide +kernel
theorem dX12_keep_77 : decode cX12_keep 77 = .ok (.iconst 1, 1) := by decide +kernel
theorem dX12_keep_78 : decode cX12_keep 78 = .ok (.invokevirtual 152, 3) := by decide +kernel
theorem dX12_keep_81 : decode cX12_keep 81 = .ok (.ifCond .ne 8, 3) := by decide +kernel
theorem dX12_keep_84 : decode cX12_keep 84 = .ok (.bipush (-15), 2) := by decide +kernel
theorem dX12_keep_86 : decode cX12_keep 86 = .ok (.goto 36, 3) := by decide +kernel
theorem dX12_keep_89 : decode cX12_keep 89 = .ok (.iload 4, 2) := by decide +kernel
theorem dX12_keep_91 : decode cX12_keep 91 = .ok (.iconst 5, 1) := by decide +kernel
theorem dX12_keep_92 : decode cX12_keep 92 = .ok (.if_icmp .ne 10, 3) := by decide +kernel
theorem dX12_keep_95 : decode cX12_keep 95 = .ok (.bipush 100, 2) := by decide +kernel
theorem dX12_keep_97 : decode cX12_keep 97 = .ok (.iload_n 3, 1) := by decide +kernel
theorem dX12_keep_98 : decode cX12_keep 98 = .ok (.iadd, 1) := by decide +kernel
theorem dX12_keep_99 : decode cX12_keep 99 = .ok (.goto 23, 3) := by decide +kernel
theorem dX12_keep_102 : decode cX12_keep 102 = .ok (.iload 4, 2) := by decide +kernel
theorem dX12_keep_104 : decode cX12_keep 104 = .ok (.bipush 7, 2) := by decide +kernel
theorem dX12_keep_106 : decode cX12_keep 106 = .ok (.if_icmp .ne 15, 3) := by decide +kernel
theorem dX12_keep_109 : decode cX12_keep 109 = .ok (.sipush 200, 3) := by decide +kernel
theorem dX12_keep_112 : decode cX12_keep 112 = .ok (.aload_n 0, 1) := by decide +kernel
theorem dX12_keep_113 : decode cX12_keep 113 = .ok (.iload_n 3, 1) := by decide +kernel
theorem dX12_keep_114 : decode cX12_keep 114 = .ok (.invokevirtual 322, 3) := by decide +kernel
theorem dX12_keep_117 : decode cX12_keep 117 = .ok (.iadd, 1) := by decide +kernel
theorem dX12_keep_118 : decode cX12_keep 118 = .ok (.goto 4, 3) := by decide +kernel
theorem dX12_keep_121 : decode cX12_keep 121 = .ok (.iload_n 3, 1) := by decide +kernel
theorem dX12_keep_122 : decode cX12_keep 122 = .ok (.iastore, 1) := by decide +kernel
theorem dX12_keep_123 : decode cX12_keep 123 = .ok (.iconst 0, 1) := by decide +kernel
theorem dX12_keep_124 : decode cX12_keep 124 = .ok (.ireturn, 1) := by decide +kernel
theorem dX12_row_0 : decode cX12_row 0 = .ok (.iload_n 1, 1) := by decide +kernel
theorem dX12_row_1 : decode cX12_row 1 = .ok (.invokestatic 125, 3) := by decide +kernel
theorem dX12_row_4 : decode cX12_row 4 = .ok (.ifCond .eq 21, 3) := by decide +kernel
theorem dX12_row_7 : decode cX12_row 7 = .ok (.iload_n 2, 1) := by decide +kernel
theorem dX12_row_8 : decode cX12_row 8 = .ok (.i2l, 1) := by decide +kernel
theorem dX12_row_9 : decode cX12_row 9 = .ok (.lconst 0, 1) := by decide +kernel
theorem dX12_row_10 : decode cX12_row 10 = .ok (.ldc2_w 147, 3) := by decide +kernel
theorem dX12_row_13 : decode cX12_row 13 = .ok (.invokestatic 56, 3) := by decide +kernel
theorem dX12_row_16 : decode cX12_row 16 = .ok (.ifCond .eq 9, 3) := by decide +kernel
theorem dX12_row_19 : decode cX12_row 19 = .ok (.iload_n 3, 1) := by decide +kernel
theorem dX12_row_20 : decode cX12_row 20 = .ok (.bipush 100, 2) := by decide +kernel
theorem dX12_row_22 : decode cX12_row 22 = .ok (.if_icmp .le 5, 3) := by decide +kernel
theorem dX12_row_25 : decode cX12_row 25 = .ok (.iconst (-1), 1) := by decide +kernel
theorem dX12_row_26 : decode cX12_row 26 = .ok (.ireturn, 1) := by decide +kernel
theorem dX12_row_27 : decode cX12_row 27 = .ok (.iload_n 3, 1) := by decide +kernel
theorem dX12_row_28 : decode cX12_row 28 = .ok (.ifCond .ge 6, 3) := by decide +kernel
theorem dX12_row_31 : decode cX12_row 31 = .ok (.bipush (-14), 2) := by decide +kernel
theorem dX12_row_33 : decode cX12_row 33 = .ok (.ireturn, 1) := by decide +kernel
theorem dX12_row_34 : decode cX12_row 34 = .ok (.aload_n 0, 1) := by decide +kernel
theorem dX12_row_35 : decode cX12_row 35 = .ok (.getfield 19, 3) := by decide +kernel
theorem dX12_row_38 : decode cX12_row 38 = .ok (.iload_n 1, 1) := by decide +kernel
theorem dX12_row_39 : decode cX12_row 39 = .ok (.iconst 2, 1) := by decide +kernel
theorem dX12_row_40 : decode cX12_row 40 = .ok (.iastore, 1) := by decide +kernel
theorem dX12_row_41 : decode cX12_row 41 = .ok (.aload_n 0, 1) := by decide +kernel
theorem dX12_row_42 : decode cX12_row 42 = .ok (.getfield 22, 3) := by decide +kernel
theorem dX12_row_45 : decode cX12_row 45 = .ok (.iload_n 1, 1) := by decide +kernel
theorem dX12_row_46 : decode cX12_row 46 = .ok (.iload_n 2, 1) := by decide +kernel
theorem dX12_row_47 : decode cX12_row 47 = .ok (.iastore, 1) := by decide +kernel
theorem dX12_row_48 : decode cX12_row 48 = .ok (.aload_n 0, 1) := by decide +kernel
theorem dX12_row_49 : decode cX12_row 49 = .ok (.getfield 25, 3) := by decide +kernel
theorem dX12_row_52 : decode cX12_row 52 = .ok (.iload_n 1, 1) := by decide +kernel
theorem dX12_row_53 : decode cX12_row 53 = .ok (.iload_n 3, 1) := by decide +kernel
theorem dX12_row_54 : decode cX12_row 54 = .ok (.iastore, 1) := by decide +kernel
theorem dX12_row_55 : decode cX12_row 55 = .ok (.iconst 0, 1) := by decide +kernel
theorem dX12_row_56 : decode cX12_row 56 = .ok (.istore 4, 2) := by decide +kernel
theorem dX12_row_58 : decode cX12_row 58 = .ok (.iload 4, 2) := by decide +kernel
theorem dX12_row_60 : decode cX12_row 60 = .ok (.bipush 100, 2) := by decide +kernel
theorem dX12_row_62 : decode cX12_row 62 = .ok (.if_icmp .ge 22, 3) := by decide +kernel
theorem dX12_row_65 : decode cX12_row 65 = .ok (.aload_n 0, 1) := by decide +kernel
theorem dX12_row_66 : decode cX12_row 66 = .ok (.getfield 28, 3) := by decide +kernel
theorem dX12_row_69 : decode cX12_row 69 = .ok (.bipush 100, 2) := by decide +kernel
theorem dX12_row_71 : decode cX12_row 71 = .ok (.iload_n 1, 1) := by decide +kernel
theorem dX12_row_72 : decode cX12_row 72 = .ok (.imul, 1) := by decide +kernel
theorem dX12_row_73 : decode cX12_row 73 = .ok (.iload 4, 2) := by decide +kernel
theorem dX12_row_75 : decode cX12_row 75 = .ok (.iadd, 1) := by decide +kernel
theorem dX12_row_76 : decode cX12_row 76 = .ok (.iconst 0, 1) := by decide +kernel
theorem dX12_row_77 : decode cX12_row 77 = .ok (.iastore, 1) := by decide +kernel
theorem dX12_row_78 : decode cX12_row 78 = .ok (.iinc 4 1, 3) := by decide +kernel
theorem dX12_row_81 : decode cX12_row 81 = .ok (.goto (-23), 3) := by decide +kernel
theorem dX12_row_84 : decode cX12_row 84 = .ok (.iconst 0, 1) := by decide +kernel
theorem dX12_row_85 : decode cX12_row 85 = .ok (.ireturn, 1) := by decide +kernel
theorem dX12_put_0 : decode cX12_put 0 = .ok (.aload_n 0, 1) := by decide +kernel
theorem dX12_put_1 : decode cX12_put 1 = .ok (.iload_n 1, 1) := by decide +kernel
theorem dX12_put_2 : decode cX12_put 2 = .ok (.iconst (-1), 1) := by decide +kernel
theorem dX12_put_3 : decode cX12_put 3 = .ok (.invokevirtual 128, 3) := by decide +kernel
theorem dX12_put_6 : decode cX12_put 6 = .ok (.istore 4, 2) := by decide +kernel
theorem dX12_put_8 : decode cX12_put 8 = .ok (.iload 4, 2) := by decide +kernel
theorem dX12_put_10 : decode cX12_put 10 = .ok (.ifCond .eq 6, 3) := by decide +kernel
theorem dX12_put_13 : decode cX12_put 13 = .ok (.iload 4, 2) := by decide +kernel
theorem dX12_put_15 : decode cX12_put 15 = .ok (.ireturn, 1) := by decide +kernel
theorem dX12_put_16 : decode cX12_put 16 = .ok (.iload_n 2, 1) := by decide +kernel
theorem dX12_put_17 : decode cX12_put 17 = .ok (.i2l, 1) := by decide +kernel
theorem dX12_put_18 : decode cX12_put 18 = .ok (.lconst 0, 1) := by decide +kernel
theorem dX12_put_19 : decode cX12_put 19 = .ok (.aload_n 0, 1) := by decide +kernel
theorem dX12_put_20 : decode cX12_put 20 = .ok (.getfield 25, 3) := by decide +kernel
theorem dX12_put_23 : decode cX12_put 23 = .ok (.iload_n 1, 1) := by decide +kernel
theorem dX12_put_24 : decode cX12_put 24 = .ok (.iaload, 1) := by decide +kernel
theorem dX12_put_25 : decode cX12_put 25 = .ok (.iconst 1, 1) := by decide +kernel
theorem dX12_put_26 : decode cX12_put 26 = .ok (.isub, 1) := by decide +kernel
theorem dX12_put_27 : decode cX12_put 27 = .ok (.i2l, 1) := by decide +kernel
theorem dX12_put_28 : decode cX12_put 28 = .ok (.invokestatic 56, 3) := by decide +kernel
theorem dX12_put_31 : decode cX12_put 31 = .ok (.ifCond .ne 6, 3) := by decide +kernel
theorem dX12_put_34 : decode cX12_put 34 = .ok (.bipush (-13), 2) := by decide +kernel
theorem dX12_put_36 : decode cX12_put 36 = .ok (.ireturn, 1) := by decide +kernel
theorem dX12_put_37 : decode cX12_put 37 = .ok (.aload_n 0, 1) := by decide +kernel
theorem dX12_put_38 : decode cX12_put 38 = .ok (.getfield 28, 3) := by decide +kernel
theorem dX12_put_41 : decode cX12_put 41 = .ok (.bipush 100, 2) := by decide +kernel
theorem dX12_put_43 : decode cX12_put 43 = .ok (.iload_n 1, 1) := by decide +kernel
theorem dX12_put_44 : decode cX12_put 44 = .ok (.imul, 1) := by decide +kernel
theorem dX12_put_45 : decode cX12_put 45 = .ok (.iload_n 2, 1) := by decide +kernel
theorem dX12_put_46 : decode cX12_put 46 = .ok (.iadd, 1) := by decide +kernel
theorem dX12_put_47 : decode cX12_put 47 = .ok (.aload_n 0, 1) := by decide +kernel
theorem dX12_put_48 : decode cX12_put 48 = .ok (.getfield 22, 3) := by decide +kernel
theorem dX12_put_51 : decode cX12_put 51 = .ok (.iload_n 1, 1) := by decide +kernel
theorem dX12_put_52 : decode cX12_put 52 = .ok (.iaload, 1) := by decide +kernel
theorem dX12_put_53 : decode cX12_put 53 = .ok (.ifCond .ne 8, 3) := by decide +kernel
theorem dX12_put_56 : decode cX12_put 56 = .ok (.iload_n 3, 1) := by decide +kernel
theorem dX12_put_57 : decode cX12_put 57 = .ok (.i2b, 1) := by decide +kernel
theorem dX12_put_58 : decode cX12_put 58 = .ok (.goto 19, 3) := by decide +kernel
theorem dX12_put_61 : decode cX12_put 61 = .ok (.aload_n 0, 1) := by decide +kernel
theorem dX12_put_62 : decode cX12_put 62 = .ok (.getfield 22, 3) := by decide +kernel
theorem dX12_put_65 : decode cX12_put 65 = .ok (.iload_n 1, 1) := by decide +kernel
theorem dX12_put_66 : decode cX12_put 66 = .ok (.iaload, 1) := by decide +kernel
theorem dX12_put_67 : decode cX12_put 67 = .ok (.iconst 1, 1) := by decide +kernel
theorem dX12_put_68 : decode cX12_put 68 = .ok (.if_icmp .ne 8, 3) := by decide +kernel
theorem dX12_put_71 : decode cX12_put 71 = .ok (.iload_n 3, 1) := by decide +kernel
theorem dX12_put_72 : decode cX12_put 72 = .ok (.i2s, 1) := by decide +kernel
theorem dX12_put_73 : decode cX12_put 73 = .ok (.goto 4, 3) := by decide +kernel
theorem dX12_put_76 : decode cX12_put 76 = .ok (.iload_n 3, 1) := by decide +kernel
theorem dX12_put_77 : decode cX12_put 77 = .ok (.iastore, 1) := by decide +kernel
theorem dX12_put_78 : decode cX12_put 78 = .ok (.iconst 0, 1) := by decide +kernel
theorem dX12_put_79 : decode cX12_put 79 = .ok (.ireturn, 1) := by decide +kernel
theorem dX12_element_0 : decode cX12_element 0 = .ok (.aload_n 0, 1) := by decide +kernel
theorem dX12_element_1 : decode cX12_element 1 = .ok (.iload_n 1, 1) := by decide +kernel
theorem dX12_element_2 : decode cX12_element 2 = .ok (.invokestatic 125, 3) := by decide +kernel
theorem dX12_element_5 : decode cX12_element 5 = .ok (.ifCond .ne 7, 3) := by decide +kernel
theorem dX12_element_8 : decode cX12_element 8 = .ok (.iconst 1, 1) := by decide +kernel
theorem dX12_element_9 : decode cX12_element 9 = .ok (.goto 36, 3) := by decide +kernel
theorem dX12_element_12 : decode cX12_element 12 = .ok (.aload_n 0, 1) := by decide +kernel
theorem dX12_element_13 : decode cX12_element 13 = .ok (.getfield 19, 3) := by decide +kernel
theorem dX12_element_16 : decode cX12_element 16 = .ok (.iload_n 1, 1) := by decide +kernel
theorem dX12_element_17 : decode cX12_element 17 = .ok (.iaload, 1) := by decide +kernel
theorem dX12_element_18 : decode cX12_element 18 = .ok (.iconst 2, 1) := by decide +kernel
theorem dX12_element_19 : decode cX12_element 19 = .ok (.if_icmp .ne 21, 3) := by decide +kernel
theorem dX12_element_22 : decode cX12_element 22 = .ok (.iload_n 2, 1) := by decide +kernel
theorem dX12_element_23 : decode cX12_element 23 = .ok (.i2l, 1) := by decide +kernel
theorem dX12_element_24 : decode cX12_element 24 = .ok (.lconst 0, 1) := by decide +kernel
theorem dX12_element_25 : decode cX12_element 25 = .ok (.aload_n 0, 1) := by decide +kernel
theorem dX12_element_26 : decode cX12_element 26 = .ok (.getfield 25, 3) := by decide +kernel
theorem dX12_element_29 : decode cX12_element 29 = .ok (.iload_n 1, 1) := by decide +kernel
theorem dX12_element_30 : decode cX12_element 30 = .ok (.iaload, 1) := by decide +kernel
theorem dX12_element_31 : decode cX12_element 31 = .ok (.iconst 1, 1) := by decide +kernel
theorem dX12_element_32 : decode cX12_element 32 = .ok (.isub, 1) := by decide +kernel
theorem dX12_element_33 : decode cX12_element 33 = .ok (.i2l, 1) := by decide +kernel
theorem dX12_element_34 : decode cX12_element 34 = .ok (.invokestatic 56, 3) := by decide +kernel
theorem dX12_element_37 : decode cX12_element 37 = .ok (.ifCond .ne 7, 3) := by decide +kernel
theorem dX12_element_40 : decode cX12_element 40 = .ok (.iconst 2, 1) := by decide +kernel
theorem dX12_element_41 : decode cX12_element 41 = .ok (.goto 4, 3) := by decide +kernel
theorem dX12_element_44 : decode cX12_element 44 = .ok (.iconst 0, 1) := by decide +kernel
theorem dX12_element_45 : decode cX12_element 45 = .ok (.putfield 52, 3) := by decide +kernel
theorem dX12_element_48 : decode cX12_element 48 = .ok (.aload_n 0, 1) := by decide +kernel
theorem dX12_element_49 : decode cX12_element 49 = .ok (.getfield 52, 3) := by decide +kernel
theorem dX12_element_52 : decode cX12_element 52 = .ok (.ifCond .ne 18, 3) := by decide +kernel
theorem dX12_element_55 : decode cX12_element 55 = .ok (.aload_n 0, 1) := by decide +kernel
theorem dX12_element_56 : decode cX12_element 56 = .ok (.getfield 28, 3) := by decide +kernel
theorem dX12_element_59 : decode cX12_element 59 = .ok (.bipush 100, 2) := by decide +kernel
theorem dX12_element_61 : decode cX12_element 61 = .ok (.iload_n 1, 1) := by decide +kernel
theorem dX12_element_62 : decode cX12_element 62 = .ok (.imul, 1) := by decide +kernel
theorem dX12_element_63 : decode cX12_element 63 = .ok (.iload_n 2, 1) := by decide +kernel
theorem dX12_element_64 : decode cX12_element 64 = .ok (.iadd, 1) := by decide +kernel
theorem dX12_element_65 : decode cX12_element 65 = .ok (.iaload, 1) := by decide +kernel
theorem dX12_element_66 : decode cX12_element 66 = .ok (.i2l, 1) := by decide +kernel
theorem dX12_element_67 : decode cX12_element 67 = .ok (.goto 4, 3) := by decide +kernel
theorem dX12_element_70 : decode cX12_element 70 = .ok (.lconst 0, 1) := by decide +kernel
theorem dX12_element_71 : decode cX12_element 71 = .ok (.lreturn, 1) := by decide +kernel
theorem dX12_copy_0 : decode cX12_copy 0 = .ok (.iload_n 1, 1) := by decide +kernel
theorem dX12_copy_1 : decode cX12_copy 1 = .ok (.invokestatic 125, 3) := by decide +kernel
theorem dX12_copy_4 : decode cX12_copy 4 = .ok (.ifCond .eq 10, 3) := by decide +kernel
theorem dX12_copy_7 : decode cX12_copy 7 = .ok (.iload_n 3, 1) := by decide +kernel
theorem dX12_copy_8 : decode cX12_copy 8 = .ok (.invokestatic 125, 3) := by decide +kernel
theorem dX12_copy_11 : decode cX12_copy 11 = .ok (.ifCond .ne 5, 3) := by decide +kernel
theorem dX12_copy_14 : decode cX12_copy 14 = .ok (.iconst (-1), 1) := by decide +kernel
theorem dX12_copy_15 : decode cX12_copy 15 = .ok (.ireturn, 1) := by decide +kernel
theorem dX12_copy_16 : decode cX12_copy 16 = .ok (.aload_n 0, 1) := by decide +kernel
theorem dX12_copy_17 : decode cX12_copy 17 = .ok (.getfield 19, 3) := by decide +kernel
theorem dX12_copy_20 : decode cX12_copy 20 = .ok (.iload_n 1, 1) := by decide +kernel
theorem dX12_copy_21 : decode cX12_copy 21 = .ok (.iaload, 1) := by decide +kernel
theorem dX12_copy_22 : decode cX12_copy 22 = .ok (.ifCond .eq 12, 3) := by decide +kernel
theorem dX12_copy_25 : decode cX12_copy 25 = .ok (.aload_n 0, 1) := by decide +kernel
theorem dX12_copy_26 : decode cX12_copy 26 = .ok (.getfield 19, 3) := by decide +kernel
theorem dX12_copy_29 : decode cX12_copy 29 = .ok (.iload_n 3, 1) := by decide +kernel
theorem dX12_copy_30 : decode cX12_copy 30 = .ok (.iaload, 1) := by decide +kernel
theorem dX12_copy_31 : decode cX12_copy 31 = .ok (.ifCond .ne 6, 3) := by decide +kernel
theorem dX12_copy_34 : decode cX12_copy 34 = .ok (.bipush (-11), 2) := by decide +kernel
theorem dX12_copy_36 : decode cX12_copy 36 = .ok (.ireturn, 1) := by decide +kernel
theorem dX12_copy_37 : decode cX12_copy 37 = .ok (.aload_n 0, 1) := by decide +kernel
theorem dX12_copy_38 : decode cX12_copy 38 = .ok (.getfield 19, 3) := by decide +kernel
theorem dX12_copy_41 : decode cX12_copy 41 = .ok (.iload_n 1, 1) := by decide +kernel
theorem dX12_copy_42 : decode cX12_copy 42 = .ok (.iaload, 1) := by decide +kernel
theorem dX12_copy_43 : decode cX12_copy 43 = .ok (.iconst 2, 1) := by decide +kernel
theorem dX12_copy_44 : decode cX12_copy 44 = .ok (.if_icmp .ne 28, 3) := by decide +kernel
theorem dX12_copy_47 : decode cX12_copy 47 = .ok (.aload_n 0, 1) := by decide +kernel
theorem dX12_copy_48 : decode cX12_copy 48 = .ok (.getfield 19, 3) := by decide +kernel
theorem dX12_copy_51 : decode cX12_copy 51 = .ok (.iload_n 3, 1) := by decide +kernel
theorem dX12_copy_52 : decode cX12_copy 52 = .ok (.iaload, 1) := by decide +kernel
theorem dX12_copy_53 : decode cX12_copy 53 = .ok (.iconst 2, 1) := by decide +kernel
theorem dX12_copy_54 : decode cX12_copy 54 = .ok (.if_icmp .ne 18, 3) := by decide +kernel
theorem dX12_copy_57 : decode cX12_copy 57 = .ok (.aload_n 0, 1) := by decide +kernel
theorem dX12_copy_58 : decode cX12_copy 58 = .ok (.getfield 22, 3) := by decide +kernel
theorem dX12_copy_61 : decode cX12_copy 61 = .ok (.iload_n 1, 1) := by decide +kernel
theorem dX12_copy_62 : decode cX12_copy 62 = .ok (.iaload, 1) := by decide +kernel
theorem dX12_copy_63 : decode cX12_copy 63 = .ok (.aload_n 0, 1) := by decide +kernel
theorem dX12_copy_64 : decode cX12_copy 64 = .ok (.getfield 22, 3) := by decide +kernel
theorem dX12_copy_67 : decode cX12_copy 67 = .ok (.iload_n 3, 1) := by decide +kernel
theorem dX12_copy_68 : decode cX12_copy 68 = .ok (.iaload, 1) := by decide +kernel
theorem dX12_copy_69 : decode cX12_copy 69 = .ok (.if_icmp .eq 6, 3) := by decide +kernel
theorem dX12_copy_72 : decode cX12_copy 72 = .ok (.bipush (-12), 2) := by decide +kernel
theorem dX12_copy_74 : decode cX12_copy 74 = .ok (.ireturn, 1) := by decide +kernel
theorem dX12_copy_75 : decode cX12_copy 75 = .ok (.iload 5, 2) := by decide +kernel
theorem dX12_copy_77 : decode cX12_copy 77 = .ok (.ifCond .lt 39, 3) := by decide +kernel
theorem dX12_copy_80 : decode cX12_copy 80 = .ok (.iload_n 2, 1) := by decide +kernel
theorem dX12_copy_81 : decode cX12_copy 81 = .ok (.ifCond .lt 35, 3) := by decide +kernel
theorem dX12_copy_84 : decode cX12_copy 84 = .ok (.iload 4, 2) := by decide +kernel
theorem dX12_copy_86 : decode cX12_copy 86 = .ok (.ifCond .lt 30, 3) := by decide +kernel
theorem dX12_copy_89 : decode cX12_copy 89 = .ok (.iload 5, 2) := by decide +kernel
theorem dX12_copy_91 : decode cX12_copy 91 = .ok (.aload_n 0, 1) := by decide +kernel
theorem dX12_copy_92 : decode cX12_copy 92 = .ok (.getfield 25, 3) := by decide +kernel
theorem dX12_copy_95 : decode cX12_copy 95 = .ok (.iload_n 1, 1) := by decide +kernel
theorem dX12_copy_96 : decode cX12_copy 96 = .ok (.iaload, 1) := by decide +kernel
theorem dX12_copy_97 : decode cX12_copy 97 = .ok (.iload_n 2, 1) := by decide +kernel
theorem dX12_copy_98 : decode cX12_copy 98 = .ok (.isub, 1) := by decide +kernel
theorem dX12_copy_99 : decode cX12_copy 99 = .ok (.if_icmp .gt 17, 3) := by decide +kernel
theorem dX12_copy_102 : decode cX12_copy 102 = .ok (.iload 5, 2) := by decide +kernel
theorem dX12_copy_104 : decode cX12_copy 104 = .ok (.aload_n 0, 1) := by decide +kernel
theorem dX12_copy_105 : decode cX12_copy 105 = .ok (.getfield 25, 3) := by decide +kernel
theorem dX12_copy_108 : decode cX12_copy 108 = .ok (.iload_n 3, 1) := by decide +kernel
theorem dX12_copy_109 : decode cX12_copy 109 = .ok (.iaload, 1) := by decide +kernel
theorem dX12_copy_110 : decode cX12_copy 110 = .ok (.iload 4, 2) := by decide +kernel
theorem dX12_copy_112 : decode cX12_copy 112 = .ok (.isub, 1) := by decide +kernel
theorem dX12_copy_113 : decode cX12_copy 113 = .ok (.if_icmp .le 6, 3) := by decide +kernel
theorem dX12_copy_116 : decode cX12_copy 116 = .ok (.bipush (-13), 2) := by decide +kernel
theorem dX12_copy_118 : decode cX12_copy 118 = .ok (.ireturn, 1) := by decide +kernel
theorem dX12_copy_119 : decode cX12_copy 119 = .ok (.iconst 0, 1) := by decide +kernel
theorem dX12_copy_120 : decode cX12_copy 120 = .ok (.istore 6, 2) := by decide +kernel
theorem dX12_copy_122 : decode cX12_copy 122 = .ok (.iload 6, 2) := by decide +kernel
theorem dX12_copy_124 : decode cX12_copy 124 = .ok (.iload 5, 2) := by decide +kernel
theorem dX12_copy_126 : decode cX12_copy 126 = .ok (.if_icmp .ge 58, 3) := by decide +kernel
theorem dX12_copy_129 : decode cX12_copy 129 = .ok (.iload_n 2, 1) := by decide +kernel
theorem dX12_copy_130 : decode cX12_copy 130 = .ok (.iload 4, 2) := by decide +kernel
theorem dX12_copy_132 : decode cX12_copy 132 = .ok (.if_icmp .le 8, 3) := by decide +kernel
theorem dX12_copy_135 : decode cX12_copy 135 = .ok (.iload 6, 2) := by decide +kernel
theorem dX12_copy_137 : decode cX12_copy 137 = .ok (.goto 10, 3) := by decide +kernel
theorem dX12_copy_140 : decode cX12_copy 140 = .ok (.iload 5, 2) := by decide +kernel
theorem dX12_copy_142 : decode cX12_copy 142 = .ok (.iconst 1, 1) := by decide +kernel
theorem dX12_copy_143 : decode cX12_copy 143 = .ok (.isub, 1) := by decide +kernel
theorem dX12_copy_144 : decode cX12_copy 144 = .ok (.iload 6, 2) := by decide +kernel
theorem dX12_copy_146 : decode cX12_copy 146 = .ok (.isub, 1) := by decide +kernel
theorem dX12_copy_147 : decode cX12_copy 147 = .ok (.istore 7, 2) := by decide +kernel
theorem dX12_copy_149 : decode cX12_copy 149 = .ok (.aload_n 0, 1) := by decide +kernel
theorem dX12_copy_150 : decode cX12_copy 150 = .ok (.getfield 28, 3) := by decide +kernel
theorem dX12_copy_153 : decode cX12_copy 153 = .ok (.bipush 100, 2) := by decide +kernel
theorem dX12_copy_155 : decode cX12_copy 155 = .ok (.iload_n 3, 1) := by decide +kernel
theorem dX12_copy_156 : decode cX12_copy 156 = .ok (.imul, 1) := by decide +kernel
theorem dX12_copy_157 : decode cX12_copy 157 = .ok (.iload 4, 2) := by decide +kernel
theorem dX12_copy_159 : decode cX12_copy 159 = .ok (.iadd, 1) := by decide +kernel
theorem dX12_copy_160 : decode cX12_copy 160 = .ok (.iload 7, 2) := by decide +kernel
theorem dX12_copy_162 : decode cX12_copy 162 = .ok (.iadd, 1) := by decide +kernel
theorem dX12_copy_163 : decode cX12_copy 163 = .ok (.aload_n 0, 1) := by decide +kernel
theorem dX12_copy_164 : decode cX12_copy 164 = .ok (.getfield 28, 3) := by decide +kernel
theorem dX12_copy_167 : decode cX12_copy 167 = .ok (.bipush 100, 2) := by decide +kernel
theorem dX12_copy_169 : decode cX12_copy 169 = .ok (.iload_n 1, 1) := by decide +kernel
theorem dX12_copy_170 : decode cX12_copy 170 = .ok (.imul, 1) := by decide +kernel
theorem dX12_copy_171 : decode cX12_copy 171 = .ok (.iload_n 2, 1) := by decide +kernel
theorem dX12_copy_172 : decode cX12_copy 172 = .ok (.iadd, 1) := by decide +kernel
theorem dX12_copy_173 : decode cX12_copy 173 = .ok (.iload 7, 2) := by decide +kernel
theorem dX12_copy_175 : decode cX12_copy 175 = .ok (.iadd, 1) := by decide +kernel
theorem dX12_copy_176 : decode cX12_copy 176 = .ok (.iaload, 1) := by decide +kernel
theorem dX12_copy_177 : decode cX12_copy 177 = .ok (.iastore, 1) := by decide +kernel
theorem dX12_copy_178 : decode cX12_copy 178 = .ok (.iinc 6 1, 3) := by decide +kernel
theorem dX12_copy_181 : decode cX12_copy 181 = .ok (.goto (-59), 3) := by decide +kernel
theorem dX12_copy_184 : decode cX12_copy 184 = .ok (.iload 5, 2) := by decide +kernel
theorem dX12_copy_186 : decode cX12_copy 186 = .ok (.ireturn, 1) := by decide +kernel
theorem dX12_wrongKept_0 : decode cX12_wrongKept 0 = .ok (.iload_n 1, 1) := by decide +kernel
theorem dX12_wrongKept_1 : decode cX12_wrongKept 1 = .ok (.invokestatic 125, 3) := by decide +kernel
theorem dX12_wrongKept_4 : decode cX12_wrongKept 4 = .ok (.ifCond .ne 7, 3) := by decide +kernel
theorem dX12_wrongKept_7 : decode cX12_wrongKept 7 = .ok (.iconst (-1), 1) := by decide +kernel
theorem dX12_wrongKept_8 : decode cX12_wrongKept 8 = .ok (.goto 33, 3) := by decide +kernel
theorem dX12_wrongKept_11 : decode cX12_wrongKept 11 = .ok (.aload_n 0, 1) := by decide +kernel
theorem dX12_wrongKept_12 : decode cX12_wrongKept 12 = .ok (.getfield 19, 3) := by decide +kernel
theorem dX12_wrongKept_15 : decode cX12_wrongKept 15 = .ok (.iload_n 1, 1) := by decide +kernel
theorem dX12_wrongKept_16 : decode cX12_wrongKept 16 = .ok (.iaload, 1) := by decide +kernel
theorem dX12_wrongKept_17 : decode cX12_wrongKept 17 = .ok (.ifCond .ne 8, 3) := by decide +kernel
theorem dX12_wrongKept_20 : decode cX12_wrongKept 20 = .ok (.bipush (-11), 2) := by decide +kernel
theorem dX12_wrongKept_22 : decode cX12_wrongKept 22 = .ok (.goto 19, 3) := by decide +kernel
theorem dX12_wrongKept_25 : decode cX12_wrongKept 25 = .ok (.aload_n 0, 1) := by decide +kernel
theorem dX12_wrongKept_26 : decode cX12_wrongKept 26 = .ok (.getfield 19, 3) := by decide +kernel
theorem dX12_wrongKept_29 : decode cX12_wrongKept 29 = .ok (.iload_n 1, 1) := by decide +kernel
theorem dX12_wrongKept_30 : decode cX12_wrongKept 30 = .ok (.iaload, 1) := by decide +kernel
theorem dX12_wrongKept_31 : decode cX12_wrongKept 31 = .ok (.iconst 1, 1) := by decide +kernel
theorem dX12_wrongKept_32 : decode cX12_wrongKept 32 = .ok (.if_icmp .ne 7, 3) := by decide +kernel
theorem dX12_wrongKept_35 : decode cX12_wrongKept 35 = .ok (.iconst 0, 1) := by decide +kernel
theorem dX12_wrongKept_36 : decode cX12_wrongKept 36 = .ok (.goto 5, 3) := by decide +kernel
theorem dX12_wrongKept_39 : decode cX12_wrongKept 39 = .ok (.bipush (-12), 2) := by decide +kernel
theorem dX12_wrongKept_41 : decode cX12_wrongKept 41 = .ok (.ireturn, 1) := by decide +kernel
theorem dX12_care_0 : decode cX12_care 0 = .ok (.aload_n 0, 1) := by decide +kernel
theorem dX12_care_1 : decode cX12_care 1 = .ok (.iload_n 1, 1) := by decide +kernel
theorem dX12_care_2 : decode cX12_care 2 = .ok (.invokevirtual 325, 3) := by decide +kernel
theorem dX12_care_5 : decode cX12_care 5 = .ok (.istore_n 2, 1) := by decide +kernel
theorem dX12_care_6 : decode cX12_care 6 = .ok (.iload_n 2, 1) := by decide +kernel
theorem dX12_care_7 : decode cX12_care 7 = .ok (.ifCond .eq 7, 3) := by decide +kernel
theorem dX12_care_10 : decode cX12_care 10 = .ok (.iload_n 2, 1) := by decide +kernel
theorem dX12_care_11 : decode cX12_care 11 = .ok (.goto 9, 3) := by decide +kernel
theorem dX12_care_14 : decode cX12_care 14 = .ok (.aload_n 0, 1) := by decide +kernel
theorem dX12_care_15 : decode cX12_care 15 = .ok (.getfield 31, 3) := by decide +kernel
theorem dX12_care_18 : decode cX12_care 18 = .ok (.iload_n 1, 1) := by decide +kernel
theorem dX12_care_19 : decode cX12_care 19 = .ok (.iaload, 1) := by decide +kernel
theorem dX12_care_20 : decode cX12_care 20 = .ok (.ireturn, 1) := by decide +kernel
theorem dX12_toss_0 : decode cX12_toss 0 = .ok (.aload_n 0, 1) := by decide +kernel
theorem dX12_toss_1 : decode cX12_toss 1 = .ok (.iload_n 1, 1) := by decide +kernel
theorem dX12_toss_2 : decode cX12_toss 2 = .ok (.invokevirtual 325, 3) := by decide +kernel
theorem dX12_toss_5 : decode cX12_toss 5 = .ok (.istore_n 2, 1) := by decide +kernel
theorem dX12_toss_6 : decode cX12_toss 6 = .ok (.iload_n 2, 1) := by decide +kernel
theorem dX12_toss_7 : decode cX12_toss 7 = .ok (.ifCond .eq 7, 3) := by decide +kernel
theorem dX12_toss_10 : decode cX12_toss 10 = .ok (.iload_n 2, 1) := by decide +kernel
theorem dX12_toss_11 : decode cX12_toss 11 = .ok (.goto 9, 3) := by decide +kernel
theorem dX12_toss_14 : decode cX12_toss 14 = .ok (.aload_n 0, 1) := by decide +kernel
theorem dX12_toss_15 : decode cX12_toss 15 = .ok (.getfield 34, 3) := by decide +kernel
theorem dX12_toss_18 : decode cX12_toss 18 = .ok (.iload_n 1, 1) := by decide +kernel
theorem dX12_toss_19 : decode cX12_toss 19 = .ok (.iaload, 1) := by decide +kernel
theorem dX12_toss_20 : decode cX12_toss 20 = .ok (.ireturn, 1) := by decide +kernel
