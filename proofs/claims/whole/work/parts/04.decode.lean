theorem dX4_init_0 : decode cX4_init 0 = .ok (.aload_n 0, 1) := by decide +kernel
theorem dX4_init_1 : decode cX4_init 1 = .ok (.invokespecial 1, 3) := by decide +kernel
theorem dX4_init_4 : decode cX4_init 4 = .ok (.aload_n 0, 1) := by decide +kernel
theorem dX4_init_5 : decode cX4_init 5 = .ok (.sipush 229, 3) := by decide +kernel
theorem dX4_init_8 : decode cX4_init 8 = .ok (.newarray .int, 2) := by decide +kernel
theorem dX4_init_10 : decode cX4_init 10 = .ok (.putfield 7, 3) := by decide +kernel
theorem dX4_init_13 : decode cX4_init 13 = .ok (.aload_n 0, 1) := by decide +kernel
theorem dX4_init_14 : decode cX4_init 14 = .ok (.sipush 229, 3) := by decide +kernel
theorem dX4_init_17 : decode cX4_init 17 = .ok (.newarray .int, 2) := by decide +kernel
theorem dX4_init_19 : decode cX4_init 19 = .ok (.putfield 13, 3) := by decide +kernel
theorem dX4_init_22 : decode cX4_init 22 = .ok (.aload_n 0, 1) := by decide +kernel
theorem dX4_init_23 : decode cX4_init 23 = .ok (.sipush 916, 3) := by decide +kernel
theorem dX4_init_26 : decode cX4_init 26 = .ok (.newarray .int, 2) := by decide +kernel
theorem dX4_init_28 : decode cX4_init 28 = .ok (.putfield 16, 3) := by decide +kernel
theorem dX4_init_31 : decode cX4_init 31 = .ok (.aload_n 0, 1) := by decide +kernel
theorem dX4_init_32 : decode cX4_init 32 = .ok (.sipush 229, 3) := by decide +kernel
theorem dX4_init_35 : decode cX4_init 35 = .ok (.newarray .int, 2) := by decide +kernel
theorem dX4_init_37 : decode cX4_init 37 = .ok (.putfield 19, 3) := by decide +kernel
theorem dX4_init_40 : decode cX4_init 40 = .ok (.aload_n 0, 1) := by decide +kernel
theorem dX4_init_41 : decode cX4_init 41 = .ok (.bipush 60, 2) := by decide +kernel
theorem dX4_init_43 : decode cX4_init 43 = .ok (.newarray .int, 2) := by decide +kernel
theorem dX4_init_45 : decode cX4_init 45 = .ok (.putfield 22, 3) := by decide +kernel
theorem dX4_init_48 : decode cX4_init 48 = .ok (.aload_n 0, 1) := by decide +kernel
theorem dX4_init_49 : decode cX4_init 49 = .ok (.bipush 24, 2) := by decide +kernel
theorem dX4_init_51 : decode cX4_init 51 = .ok (.newarray .int, 2) := by decide +kernel
theorem dX4_init_53 : decode cX4_init 53 = .ok (.putfield 25, 3) := by decide +kernel
theorem dX4_init_56 : decode cX4_init 56 = .ok (.return_, 1) := by decide +kernel
theorem dX4_in_0 : decode cX4_in 0 = .ok (.iload_n 0, 1) := by decide +kernel
theorem dX4_in_1 : decode cX4_in 1 = .ok (.iload_n 1, 1) := by decide +kernel
theorem dX4_in_2 : decode cX4_in 2 = .ok (.if_icmp .lt 12, 3) := by decide +kernel
theorem dX4_in_5 : decode cX4_in 5 = .ok (.iload_n 0, 1) := by decide +kernel
theorem dX4_in_6 : decode cX4_in 6 = .ok (.iload_n 2, 1) := by decide +kernel
theorem dX4_in_7 : decode cX4_in 7 = .ok (.if_icmp .gt 7, 3) := by decide +kernel
theorem dX4_in_10 : decode cX4_in 10 = .ok (.iconst 1, 1) := by decide +kernel
theorem dX4_in_11 : decode cX4_in 11 = .ok (.goto 4, 3) := by decide +kernel
theorem dX4_in_14 : decode cX4_in 14 = .ok (.iconst 0, 1) := by decide +kernel
theorem dX4_in_15 : decode cX4_in 15 = .ok (.ireturn, 1) := by decide +kernel
theorem dX4_at_0 : decode cX4_at 0 = .ok (.aload_n 0, 1) := by decide +kernel
theorem dX4_at_1 : decode cX4_at 1 = .ok (.getfield 7, 3) := by decide +kernel
theorem dX4_at_4 : decode cX4_at 4 = .ok (.bipush 7, 2) := by decide +kernel
theorem dX4_at_6 : decode cX4_at 6 = .ok (.iload_n 1, 1) := by decide +kernel
theorem dX4_at_7 : decode cX4_at 7 = .ok (.imul, 1) := by decide +kernel
theorem dX4_at_8 : decode cX4_at 8 = .ok (.iload_n 2, 1) := by decide +kernel
theorem dX4_at_9 : decode cX4_at 9 = .ok (.iadd, 1) := by decide +kernel
theorem dX4_at_10 : decode cX4_at 10 = .ok (.iaload, 1) := by decide +kernel
theorem dX4_at_11 : decode cX4_at 11 = .ok (.ireturn, 1) := by decide +kernel
theorem dX4_isFree_0 : decode cX4_isFree 0 = .ok (.aload_n 0, 1) := by decide +kernel
theorem dX4_isFree_1 : decode cX4_isFree 1 = .ok (.getfield 7, 3) := by decide +kernel
theorem dX4_isFree_4 : decode cX4_isFree 4 = .ok (.bipush 7, 2) := by decide +kernel
theorem dX4_isFree_6 : decode cX4_isFree 6 = .ok (.iload_n 1, 1) := by decide +kernel
theorem dX4_isFree_7 : decode cX4_isFree 7 = .ok (.imul, 1) := by decide +kernel
theorem dX4_isFree_8 : decode cX4_isFree 8 = .ok (.iconst 0, 1) := by decide +kernel
theorem dX4_isFree_9 : decode cX4_isFree 9 = .ok (.iadd, 1) := by decide +kernel
theorem dX4_isFree_10 : decode cX4_isFree 10 = .ok (.iaload, 1) := by decide +kernel
theorem dX4_isFree_11 : decode cX4_isFree 11 = .ok (.ifCond .ne 7, 3) := by decide +kernel
theorem dX4_isFree_14 : decode cX4_isFree 14 = .ok (.iconst 1, 1) := by decide +kernel
theorem dX4_isFree_15 : decode cX4_isFree 15 = .ok (.goto 4, 3) := by decide +kernel
theorem dX4_isFree_18 : decode cX4_isFree 18 = .ok (.iconst 0, 1) := by decide +kernel
theorem dX4_isFree_19 : decode cX4_isFree 19 = .ok (.ireturn, 1) := by decide +kernel
theorem dX4_isSlot_0 : decode cX4_isSlot 0 = .ok (.iload_n 0, 1) := by decide +kernel
theorem dX4_isSlot_1 : decode cX4_isSlot 1 = .ok (.iconst 0, 1) := by decide +kernel
theorem dX4_isSlot_2 : decode cX4_isSlot 2 = .ok (.bipush 31, 2) := by decide +kernel
theorem dX4_isSlot_4 : decode cX4_isSlot 4 = .ok (.invokestatic 28, 3) := by decide +kernel
theorem dX4_isSlot_7 : decode cX4_isSlot 7 = .ok (.ireturn, 1) := by decide +kernel
theorem dX4_copyState_0 : decode cX4_copyState 0 = .ok (.iconst 0, 1) := by decide +kernel
theorem dX4_copyState_1 : decode cX4_copyState 1 = .ok (.istore 4, 2) := by decide +kernel
theorem dX4_copyState_3 : decode cX4_copyState 3 = .ok (.iload 4, 2) := by decide +kernel
theorem dX4_copyState_5 : decode cX4_copyState 5 = .ok (.sipush 229, 3) := by decide +kernel
theorem dX4_copyState_8 : decode cX4_copyState 8 = .ok (.if_icmp .ge 21, 3) := by decide +kernel
theorem dX4_copyState_11 : decode cX4_copyState 11 = .ok (.aload_n 2, 1) := by decide +kernel
theorem dX4_copyState_12 : decode cX4_copyState 12 = .ok (.iload_n 3, 1) := by decide +kernel
theorem dX4_copyState_13 : decode cX4_copyState 13 = .ok (.iload 4, 2) := by decide +kernel
theorem dX4_copyState_15 : decode cX4_copyState 15 = .ok (.iadd, 1) := by decide +kernel
theorem dX4_copyState_16 : decode cX4_copyState 16 = .ok (.aload_n 0, 1) := by decide +kernel
theorem dX4_copyState_17 : decode cX4_copyState 17 = .ok (.iload_n 1, 1) := by decide +kernel
theorem dX4_copyState_18 : decode cX4_copyState 18 = .ok (.iload 4, 2) := by decide +kernel
theorem dX4_copyState_20 : decode cX4_copyState 20 = .ok (.iadd, 1) := by decide +kernel
theorem dX4_copyState_21 : decode cX4_copyState 21 = .ok (.iaload, 1) := by decide +kernel
theorem dX4_copyState_22 : decode cX4_copyState 22 = .ok (.iastore, 1) := by decide +kernel
theorem dX4_copyState_23 : decode cX4_copyState 23 = .ok (.iinc 4 1, 3) := by decide +kernel
theorem dX4_copyState_26 : decode cX4_copyState 26 = .ok (.goto (-23), 3) := by decide +kernel
theorem dX4_copyState_29 : decode cX4_copyState 29 = .ok (.return_, 1) := by decide +kernel
theorem dX4_record_0 : decode cX4_record 0 = .ok (.aload_n 0, 1) := by decide +kernel
theorem dX4_record_1 : decode cX4_record 1 = .ok (.getfield 32, 3) := by decide +kernel
theorem dX4_record_4 : decode cX4_record 4 = .ok (.iconst 4, 1) := by decide +kernel
theorem dX4_record_5 : decode cX4_record 5 = .ok (.if_icmp .ne 44, 3) := by decide +kernel
theorem dX4_record_8 : decode cX4_record 8 = .ok (.iconst 0, 1) := by decide +kernel
theorem dX4_record_9 : decode cX4_record 9 = .ok (.istore_n 1, 1) := by decide +kernel
theorem dX4_record_10 : decode cX4_record 10 = .ok (.iload_n 1, 1) := by decide +kernel
theorem dX4_record_11 : decode cX4_record 11 = .ok (.sipush 687, 3) := by decide +kernel
theorem dX4_record_14 : decode cX4_record 14 = .ok (.if_icmp .ge 25, 3) := by decide +kernel
theorem dX4_record_17 : decode cX4_record 17 = .ok (.aload_n 0, 1) := by decide +kernel
theorem dX4_record_18 : decode cX4_record 18 = .ok (.getfield 16, 3) := by decide +kernel
theorem dX4_record_21 : decode cX4_record 21 = .ok (.iload_n 1, 1) := by decide +kernel
theorem dX4_record_22 : decode cX4_record 22 = .ok (.aload_n 0, 1) := by decide +kernel
theorem dX4_record_23 : decode cX4_record 23 = .ok (.getfield 16, 3) := by decide +kernel
theorem dX4_record_26 : decode cX4_record 26 = .ok (.iload_n 1, 1) := by decide +kernel
theorem dX4_record_27 : decode cX4_record 27 = .ok (.sipush 229, 3) := by decide +kernel
theorem dX4_record_30 : decode cX4_record 30 = .ok (.iadd, 1) := by decide +kernel
theorem dX4_record_31 : decode cX4_record 31 = .ok (.iaload, 1) := by decide +kernel
theorem dX4_record_32 : decode cX4_record 32 = .ok (.iastore, 1) := by decide +kernel
theorem dX4_record_33 : decode cX4_record 33 = .ok (.iinc 1 1, 3) := by decide +kernel
theorem dX4_record_36 : decode cX4_record 36 = .ok (.goto (-26), 3) := by decide +kernel
theorem dX4_record_39 : decode cX4_record 39 = .ok (.aload_n 0, 1) := by decide +kernel
theorem dX4_record_40 : decode cX4_record 40 = .ok (.dup, 1) := by decide +kernel
theorem dX4_record_41 : decode cX4_record 41 = .ok (.getfield 32, 3) := by decide +kernel
theorem dX4_record_44 : decode cX4_record 44 = .ok (.iconst 1, 1) := by decide +kernel
theorem dX4_record_45 : decode cX4_record 45 = .ok (.isub, 1) := by decide +kernel
theorem dX4_record_46 : decode cX4_record 46 = .ok (.putfield 32, 3) := by decide +kernel
theorem dX4_record_49 : decode cX4_record 49 = .ok (.aload_n 0, 1) := by decide +kernel
theorem dX4_record_50 : decode cX4_record 50 = .ok (.getfield 7, 3) := by decide +kernel
theorem dX4_record_53 : decode cX4_record 53 = .ok (.iconst 0, 1) := by decide +kernel
theorem dX4_record_54 : decode cX4_record 54 = .ok (.aload_n 0, 1) := by decide +kernel
theorem dX4_record_55 : decode cX4_record 55 = .ok (.getfield 16, 3) := by decide +kernel
theorem dX4_record_58 : decode cX4_record 58 = .ok (.sipush 229, 3) := by decide +kernel
theorem dX4_record_61 : decode cX4_record 61 = .ok (.aload_n 0, 1) := by decide +kernel
theorem dX4_record_62 : decode cX4_record 62 = .ok (.getfield 32, 3) := by decide +kernel
theorem dX4_record_65 : decode cX4_record 65 = .ok (.imul, 1) := by decide +kernel
theorem dX4_record_66 : decode cX4_record 66 = .ok (.invokestatic 36, 3) := by decide +kernel
theorem dX4_record_69 : decode cX4_record 69 = .ok (.aload_n 0, 1) := by decide +kernel
theorem dX4_record_70 : decode cX4_record 70 = .ok (.dup, 1) := by decide +kernel
theorem dX4_record_71 : decode cX4_record 71 = .ok (.getfield 32, 3) := by decide +kernel
theorem dX4_record_74 : decode cX4_record 74 = .ok (.iconst 1, 1) := by decide +kernel
theorem dX4_record_75 : decode cX4_record 75 = .ok (.iadd, 1) := by decide +kernel
theorem dX4_record_76 : decode cX4_record 76 = .ok (.putfield 32, 3) := by decide +kernel
theorem dX4_record_79 : decode cX4_record 79 = .ok (.return_, 1) := by decide +kernel
theorem dX4_undo_0 : decode cX4_undo 0 = .ok (.aload_n 0, 1) := by decide +kernel
theorem dX4_undo_1 : decode cX4_undo 1 = .ok (.getfield 32, 3) := by decide +kernel
theorem dX4_undo_4 : decode cX4_undo 4 = .ok (.ifCond .ne 6, 3) := by decide +kernel
theorem dX4_undo_7 : decode cX4_undo 7 = .ok (.bipush (-4), 2) := by decide +kernel
theorem dX4_undo_9 : decode cX4_undo 9 = .ok (.ireturn, 1) := by decide +kernel
theorem dX4_undo_10 : decode cX4_undo 10 = .ok (.aload_n 0, 1) := by decide +kernel
theorem dX4_undo_11 : decode cX4_undo 11 = .ok (.dup, 1) := by decide +kernel
theorem dX4_undo_12 : decode cX4_undo 12 = .ok (.getfield 32, 3) := by decide +kernel
theorem dX4_undo_15 : decode cX4_undo 15 = .ok (.iconst 1, 1) := by decide +kernel
theorem dX4_undo_16 : decode cX4_undo 16 = .ok (.isub, 1) := by decide +kernel
theorem dX4_undo_17 : decode cX4_undo 17 = .ok (.putfield 32, 3) := by decide +kernel
theorem dX4_undo_20 : decode cX4_undo 20 = .ok (.aload_n 0, 1) := by decide +kernel
theorem dX4_undo_21 : decode cX4_undo 21 = .ok (.getfield 16, 3) := by decide +kernel
theorem dX4_undo_24 : decode cX4_undo 24 = .ok (.sipush 229, 3) := by decide +kernel
theorem dX4_undo_27 : decode cX4_undo 27 = .ok (.aload_n 0, 1) := by decide +kernel
theorem dX4_undo_28 : decode cX4_undo 28 = .ok (.getfield 32, 3) := by decide +kernel
theorem dX4_undo_31 : decode cX4_undo 31 = .ok (.imul, 1) := by decide +kernel
theorem dX4_undo_32 : decode cX4_undo 32 = .ok (.aload_n 0, 1) := by decide +kernel
theorem dX4_undo_33 : decode cX4_undo 33 = .ok (.getfield 7, 3) := by decide +kernel
theorem dX4_undo_36 : decode cX4_undo 36 = .ok (.iconst 0, 1) := by decide +kernel
theorem dX4_undo_37 : decode cX4_undo 37 = .ok (.invokestatic 36, 3) := by decide +kernel
theorem dX4_undo_40 : decode cX4_undo 40 = .ok (.aload_n 0, 1) := by decide +kernel
theorem dX4_undo_41 : decode cX4_undo 41 = .ok (.getfield 32, 3) := by decide +kernel
theorem dX4_undo_44 : decode cX4_undo 44 = .ok (.ireturn, 1) := by decide +kernel
theorem dX4_keep_0 : decode cX4_keep 0 = .ok (.aload_n 0, 1) := by decide +kernel
theorem dX4_keep_1 : decode cX4_keep 1 = .ok (.getfield 7, 3) := by decide +kernel
theorem dX4_keep_4 : decode cX4_keep 4 = .ok (.iconst 0, 1) := by decide +kernel
theorem dX4_keep_5 : decode cX4_keep 5 = .ok (.aload_n 0, 1) := by decide +kernel
theorem dX4_keep_6 : decode cX4_keep 6 = .ok (.getfield 19, 3) := by decide +kernel
theorem dX4_keep_9 : decode cX4_keep 9 = .ok (.iconst 0, 1) := by decide +kernel
theorem dX4_keep_10 : decode cX4_keep 10 = .ok (.invokestatic 36, 3) := by decide +kernel
theorem dX4_keep_13 : decode cX4_keep 13 = .ok (.aload_n 0, 1) := by decide +kernel
theorem dX4_keep_14 : decode cX4_keep 14 = .ok (.iconst 1, 1) := by decide +kernel
theorem dX4_keep_15 : decode cX4_keep 15 = .ok (.putfield 40, 3) := by decide +kernel
theorem dX4_keep_18 : decode cX4_keep 18 = .ok (.aload_n 0, 1) := by decide +kernel
theorem dX4_keep_19 : decode cX4_keep 19 = .ok (.invokevirtual 44, 3) := by decide +kernel
theorem dX4_keep_22 : decode cX4_keep 22 = .ok (.ireturn, 1) := by decide +kernel
theorem dX4_restore_0 : decode cX4_restore 0 = .ok (.aload_n 0, 1) := by decide +kernel
theorem dX4_restore_1 : decode cX4_restore 1 = .ok (.getfield 40, 3) := by decide +kernel
theorem dX4_restore_4 : decode cX4_restore 4 = .ok (.ifCond .ne 6, 3) := by decide +kernel
theorem dX4_restore_7 : decode cX4_restore 7 = .ok (.bipush (-4), 2) := by decide +kernel
theorem dX4_restore_9 : decode cX4_restore 9 = .ok (.ireturn, 1) := by decide +kernel
theorem dX4_restore_10 : decode cX4_restore 10 = .ok (.aload_n 0, 1) := by decide +kernel
theorem dX4_restore_11 : decode cX4_restore 11 = .ok (.invokevirtual 48, 3) := by decide +kernel
theorem dX4_restore_14 : decode cX4_restore 14 = .ok (.aload_n 0, 1) := by decide +kernel
theorem dX4_restore_15 : decode cX4_restore 15 = .ok (.getfield 19, 3) := by decide +kernel
theorem dX4_restore_18 : decode cX4_restore 18 = .ok (.iconst 0, 1) := by decide +kernel
theorem dX4_restore_19 : decode cX4_restore 19 = .ok (.aload_n 0, 1) := by decide +kernel
theorem dX4_restore_20 : decode cX4_restore 20 = .ok (.getfield 7, 3) := by decide +kernel
theorem dX4_restore_23 : decode cX4_restore 23 = .ok (.iconst 0, 1) := by decide +kernel
theorem dX4_restore_24 : decode cX4_restore 24 = .ok (.invokestatic 36, 3) := by decide +kernel
theorem dX4_restore_27 : decode cX4_restore 27 = .ok (.aload_n 0, 1) := by decide +kernel
theorem dX4_restore_28 : decode cX4_restore 28 = .ok (.invokevirtual 44, 3) := by decide +kernel
theorem dX4_restore_31 : decode cX4_restore 31 = .ok (.ireturn, 1) := by decide +kernel
theorem dX4_entries_0 : decode cX4_entries 0 = .ok (.iconst 0, 1) := by decide +kernel
theorem dX4_entries_1 : decode cX4_entries 1 = .ok (.istore_n 1, 1) := by decide +kernel
theorem dX4_entries_2 : decode cX4_entries 2 = .ok (.iconst 0, 1) := by decide +kernel
theorem dX4_entries_3 : decode cX4_entries 3 = .ok (.istore_n 2, 1) := by decide +kernel
theorem dX4_entries_4 : decode cX4_entries 4 = .ok (.iload_n 2, 1) := by decide +kernel
theorem dX4_entries_5 : decode cX4_entries 5 = .ok (.bipush 32, 2) := by decide +kernel
theorem dX4_entries_7 : decode cX4_entries 7 = .ok (.if_icmp .ge 25, 3) := by decide +kernel
theorem dX4_entries_10 : decode cX4_entries 10 = .ok (.iload_n 1, 1) := by decide +kernel
theorem dX4_entries_11 : decode cX4_entries 11 = .ok (.aload_n 0, 1) := by decide +kernel
theorem dX4_entries_12 : decode cX4_entries 12 = .ok (.iload_n 2, 1) := by decide +kernel
theorem dX4_entries_13 : decode cX4_entries 13 = .ok (.invokevirtual 51, 3) := by decide +kernel
theorem dX4_entries_16 : decode cX4_entries 16 = .ok (.ifCond .eq 7, 3) := by decide +kernel
theorem dX4_entries_19 : decode cX4_entries 19 = .ok (.iconst 0, 1) := by decide +kernel
theorem dX4_entries_20 : decode cX4_entries 20 = .ok (.goto 4, 3) := by decide +kernel
theorem dX4_entries_23 : decode cX4_entries 23 = .ok (.iconst 1, 1) := by decide +kernel
theorem dX4_entries_24 : decode cX4_entries 24 = .ok (.iadd, 1) := by decide +kernel
theorem dX4_entries_25 : decode cX4_entries 25 = .ok (.istore_n 1, 1) := by decide +kernel
theorem dX4_entries_26 : decode cX4_entries 26 = .ok (.iinc 2 1, 3) := by decide +kernel
theorem dX4_entries_29 : decode cX4_entries 29 = .ok (.goto (-25), 3) := by decide +kernel
theorem dX4_entries_32 : decode cX4_entries 32 = .ok (.iload_n 1, 1) := by decide +kernel
theorem dX4_entries_33 : decode cX4_entries 33 = .ok (.ireturn, 1) := by decide +kernel
theorem dX4_freeSlots_0 : decode cX4_freeSlots 0 = .ok (.bipush 32, 2) := by decide +kernel
theorem dX4_freeSlots_2 : decode cX4_freeSlots 2 = .ok (.aload_n 0, 1) := by decide +kernel
theorem dX4_freeSlots_3 : decode cX4_freeSlots 3 = .ok (.invokevirtual 44, 3) := by decide +kernel
theorem dX4_freeSlots_6 : decode cX4_freeSlots 6 = .ok (.isub, 1) := by decide +kernel
theorem dX4_freeSlots_7 : decode cX4_freeSlots 7 = .ok (.ireturn, 1) := by decide +kernel
theorem dX4_lastUpTo_0 : decode cX4_lastUpTo 0 = .ok (.iconst (-1), 1) := by decide +kernel
theorem dX4_lastUpTo_1 : decode cX4_lastUpTo 1 = .ok (.istore_n 2, 1) := by decide +kernel
theorem dX4_lastUpTo_2 : decode cX4_lastUpTo 2 = .ok (.iconst 0, 1) := by decide +kernel
theorem dX4_lastUpTo_3 : decode cX4_lastUpTo 3 = .ok (.istore_n 3, 1) := by decide +kernel
theorem dX4_lastUpTo_4 : decode cX4_lastUpTo 4 = .ok (.iload_n 3, 1) := by decide +kernel
theorem dX4_lastUpTo_5 : decode cX4_lastUpTo 5 = .ok (.bipush 32, 2) := by decide +kernel
theorem dX4_lastUpTo_7 : decode cX4_lastUpTo 7 = .ok (.if_icmp .ge 33, 3) := by decide +kernel
theorem dX4_lastUpTo_10 : decode cX4_lastUpTo 10 = .ok (.aload_n 0, 1) := by decide +kernel
theorem dX4_lastUpTo_11 : decode cX4_lastUpTo 11 = .ok (.iload_n 3, 1) := by decide +kernel
theorem dX4_lastUpTo_12 : decode cX4_lastUpTo 12 = .ok (.invokevirtual 51, 3) := by decide +kernel
theorem dX4_lastUpTo_15 : decode cX4_lastUpTo 15 = .ok (.ifCond .ne 17, 3) := by decide +kernel
theorem dX4_lastUpTo_18 : decode cX4_lastUpTo 18 = .ok (.aload_n 0, 1) := by decide +kernel
theorem dX4_lastUpTo_19 : decode cX4_lastUpTo 19 = .ok (.iload_n 3, 1) := by decide +kernel
theorem dX4_lastUpTo_20 : decode cX4_lastUpTo 20 = .ok (.iconst 4, 1) := by decide +kernel
theorem dX4_lastUpTo_21 : decode cX4_lastUpTo 21 = .ok (.invokevirtual 55, 3) := by decide +kernel
theorem dX4_lastUpTo_24 : decode cX4_lastUpTo 24 = .ok (.iload_n 1, 1) := by decide +kernel
theorem dX4_lastUpTo_25 : decode cX4_lastUpTo 25 = .ok (.if_icmp .gt 7, 3) := by decide +kernel
theorem dX4_lastUpTo_28 : decode cX4_lastUpTo 28 = .ok (.iload_n 3, 1) := by decide +kernel
theorem dX4_lastUpTo_29 : decode cX4_lastUpTo 29 = .ok (.goto 4, 3) := by decide +kernel
theorem dX4_lastUpTo_32 : decode cX4_lastUpTo 32 = .ok (.iload_n 2, 1) := by decide +kernel
theorem dX4_lastUpTo_33 : decode cX4_lastUpTo 33 = .ok (.istore_n 2, 1) := by decide +kernel
theorem dX4_lastUpTo_34 : decode cX4_lastUpTo 34 = .ok (.iinc 3 1, 3) := by decide +kernel
theorem dX4_lastUpTo_37 : decode cX4_lastUpTo 37 = .ok (.goto (-33), 3) := by decide +kernel
theorem dX4_lastUpTo_40 : decode cX4_lastUpTo 40 = .ok (.iload_n 2, 1) := by decide +kernel
theorem dX4_lastUpTo_41 : decode cX4_lastUpTo 41 = .ok (.ireturn, 1) := by decide +kernel
theorem dX4_firstAbove_0 : decode cX4_firstAbove 0 = .ok (.bipush 32, 2) := by decide +kernel
theorem dX4_firstAbove_2 : decode cX4_firstAbove 2 = .ok (.istore_n 2, 1) := by decide +kernel
theorem dX4_firstAbove_3 : decode cX4_firstAbove 3 = .ok (.bipush 31, 2) := by decide +kernel
theorem dX4_firstAbove_5 : decode cX4_firstAbove 5 = .ok (.istore_n 3, 1) := by decide +kernel
theorem dX4_firstAbove_6 : decode cX4_firstAbove 6 = .ok (.iload_n 3, 1) := by decide +kernel
theorem dX4_firstAbove_7 : decode cX4_firstAbove 7 = .ok (.ifCond .lt 33, 3) := by decide +kernel
theorem dX4_firstAbove_10 : decode cX4_firstAbove 10 = .ok (.aload_n 0, 1) := by decide +kernel
theorem dX4_firstAbove_11 : decode cX4_firstAbove 11 = .ok (.iload_n 3, 1) := by decide +kernel
theorem dX4_firstAbove_12 : decode cX4_firstAbove 12 = .ok (.invokevirtual 51, 3) := by decide +kernel
theorem dX4_firstAbove_15 : decode cX4_firstAbove 15 = .ok (.ifCond .ne 17, 3) := by decide +kernel
theorem dX4_firstAbove_18 : decode cX4_firstAbove 18 = .ok (.aload_n 0, 1) := by decide +kernel
theorem dX4_firstAbove_19 : decode cX4_firstAbove 19 = .ok (.iload_n 3, 1) := by decide +kernel
theorem dX4_firstAbove_20 : decode cX4_firstAbove 20 = .ok (.iconst 4, 1) := by decide +kernel
theorem dX4_firstAbove_21 : decode cX4_firstAbove 21 = .ok (.invokevirtual 55, 3) := by decide +kernel
theorem dX4_firstAbove_24 : decode cX4_firstAbove 24 = .ok (.iload_n 1, 1) := by decide +kernel
theorem dX4_firstAbove_25 : decode cX4_firstAbove 25 = .ok (.if_icmp .le 7, 3) := by decide +kernel
theorem dX4_firstAbove_28 : decode cX4_firstAbove 28 = .ok (.iload_n 3, 1) := by decide +kernel
theorem dX4_firstAbove_29 : decode cX4_firstAbove 29 = .ok (.goto 4, 3) := by decide +kernel
theorem dX4_firstAbove_32 : decode cX4_firstAbove 32 = .ok (.iload_n 2, 1) := by decide +kernel
theorem dX4_firstAbove_33 : decode cX4_firstAbove 33 = .ok (.istore_n 2, 1) := by decide +kernel
theorem dX4_firstAbove_34 : decode cX4_firstAbove 34 = .ok (.iinc 3 (-1), 3) := by decide +kernel
theorem dX4_firstAbove_37 : decode cX4_firstAbove 37 = .ok (.goto (-31), 3) := by decide +kernel
theorem dX4_firstAbove_40 : decode cX4_firstAbove 40 = .ok (.iload_n 2, 1) := by decide +kernel
theorem dX4_firstAbove_41 : decode cX4_firstAbove 41 = .ok (.ireturn, 1) := by decide +kernel
theorem dX4_freeBehind_0 : decode cX4_freeBehind 0 = .ok (.iload_n 1, 1) := by decide +kernel
theorem dX4_freeBehind_1 : decode cX4_freeBehind 1 = .ok (.iconst 1, 1) := by decide +kernel
theorem dX4_freeBehind_2 : decode cX4_freeBehind 2 = .ok (.iadd, 1) := by decide +kernel
theorem dX4_freeBehind_3 : decode cX4_freeBehind 3 = .ok (.istore_n 2, 1) := by decide +kernel
theorem dX4_freeBehind_4 : decode cX4_freeBehind 4 = .ok (.iload_n 2, 1) := by decide +kernel
theorem dX4_freeBehind_5 : decode cX4_freeBehind 5 = .ok (.bipush 32, 2) := by decide +kernel
theorem dX4_freeBehind_7 : decode cX4_freeBehind 7 = .ok (.if_icmp .ge 17, 3) := by decide +kernel
theorem dX4_freeBehind_10 : decode cX4_freeBehind 10 = .ok (.aload_n 0, 1) := by decide +kernel
theorem dX4_freeBehind_11 : decode cX4_freeBehind 11 = .ok (.iload_n 2, 1) := by decide +kernel
theorem dX4_freeBehind_12 : decode cX4_freeBehind 12 = .ok (.invokevirtual 51, 3) := by decide +kernel
theorem dX4_freeBehind_15 : decode cX4_freeBehind 15 = .ok (.ifCond .ne 9, 3) := by decide +kernel
theorem dX4_freeBehind_18 : decode cX4_freeBehind 18 = .ok (.iinc 2 1, 3) := by decide +kernel
theorem dX4_freeBehind_21 : decode cX4_freeBehind 21 = .ok (.goto (-17), 3) := by decide +kernel
theorem dX4_freeBehind_24 : decode cX4_freeBehind 24 = .ok (.iload_n 2, 1) := by decide +kernel
theorem dX4_freeBehind_25 : decode cX4_freeBehind 25 = .ok (.ireturn, 1) := by decide +kernel
theorem dX4_freeAhead_0 : decode cX4_freeAhead 0 = .ok (.iload_n 1, 1) := by decide +kernel
theorem dX4_freeAhead_1 : decode cX4_freeAhead 1 = .ok (.iconst 1, 1) := by decide +kernel
theorem dX4_freeAhead_2 : decode cX4_freeAhead 2 = .ok (.isub, 1) := by decide +kernel
theorem dX4_freeAhead_3 : decode cX4_freeAhead 3 = .ok (.istore_n 2, 1) := by decide +kernel
theorem dX4_freeAhead_4 : decode cX4_freeAhead 4 = .ok (.iload_n 2, 1) := by decide +kernel
theorem dX4_freeAhead_5 : decode cX4_freeAhead 5 = .ok (.ifCond .lt 17, 3) := by decide +kernel
theorem dX4_freeAhead_8 : decode cX4_freeAhead 8 = .ok (.aload_n 0, 1) := by decide +kernel
theorem dX4_freeAhead_9 : decode cX4_freeAhead 9 = .ok (.iload_n 2, 1) := by decide +kernel
theorem dX4_freeAhead_10 : decode cX4_freeAhead 10 = .ok (.invokevirtual 51, 3) := by decide +kernel
theorem dX4_freeAhead_13 : decode cX4_freeAhead 13 = .ok (.ifCond .ne 9, 3) := by decide +kernel
theorem dX4_freeAhead_16 : decode cX4_freeAhead 16 = .ok (.iinc 2 (-1), 3) := by decide +kernel
theorem dX4_freeAhead_19 : decode cX4_freeAhead 19 = .ok (.goto (-15), 3) := by decide +kernel
theorem dX4_freeAhead_22 : decode cX4_freeAhead 22 = .ok (.iload_n 2, 1) := by decide +kernel
theorem dX4_freeAhead_23 : decode cX4_freeAhead 23 = .ok (.ireturn, 1) := by decide +kernel
theorem dX4_copyEntry_0 : decode cX4_copyEntry 0 = .ok (.iconst 0, 1) := by decide +kernel
theorem dX4_copyEntry_1 : decode cX4_copyEntry 1 = .ok (.istore_n 3, 1) := by decide +kernel
theorem dX4_copyEntry_2 : decode cX4_copyEntry 2 = .ok (.iload_n 3, 1) := by decide +kernel
theorem dX4_copyEntry_3 : decode cX4_copyEntry 3 = .ok (.bipush 7, 2) := by decide +kernel
theorem dX4_copyEntry_5 : decode cX4_copyEntry 5 = .ok (.if_icmp .ge 31, 3) := by decide +kernel
theorem dX4_copyEntry_8 : decode cX4_copyEntry 8 = .ok (.aload_n 0, 1) := by decide +kernel
theorem dX4_copyEntry_9 : decode cX4_copyEntry 9 = .ok (.getfield 7, 3) := by decide +kernel
theorem dX4_copyEntry_12 : decode cX4_copyEntry 12 = .ok (.bipush 7, 2) := by decide +kernel
theorem dX4_copyEntry_14 : decode cX4_copyEntry 14 = .ok (.iload_n 2, 1) := by decide +kernel
theorem dX4_copyEntry_15 : decode cX4_copyEntry 15 = .ok (.imul, 1) := by decide +kernel
theorem dX4_copyEntry_16 : decode cX4_copyEntry 16 = .ok (.iload_n 3, 1) := by decide +kernel
theorem dX4_copyEntry_17 : decode cX4_copyEntry 17 = .ok (.iadd, 1) := by decide +kernel
theorem dX4_copyEntry_18 : decode cX4_copyEntry 18 = .ok (.aload_n 0, 1) := by decide +kernel
theorem dX4_copyEntry_19 : decode cX4_copyEntry 19 = .ok (.getfield 7, 3) := by decide +kernel
theorem dX4_copyEntry_22 : decode cX4_copyEntry 22 = .ok (.bipush 7, 2) := by decide +kernel
theorem dX4_copyEntry_24 : decode cX4_copyEntry 24 = .ok (.iload_n 1, 1) := by decide +kernel
theorem dX4_copyEntry_25 : decode cX4_copyEntry 25 = .ok (.imul, 1) := by decide +kernel
theorem dX4_copyEntry_26 : decode cX4_copyEntry 26 = .ok (.iload_n 3, 1) := by decide +kernel
theorem dX4_copyEntry_27 : decode cX4_copyEntry 27 = .ok (.iadd, 1) := by decide +kernel
theorem dX4_copyEntry_28 : decode cX4_copyEntry 28 = .ok (.iaload, 1) := by decide +kernel
theorem dX4_copyEntry_29 : decode cX4_copyEntry 29 = .ok (.iastore, 1) := by decide +kernel
theorem dX4_copyEntry_30 : decode cX4_copyEntry 30 = .ok (.iinc 3 1, 3) := by decide +kernel
theorem dX4_copyEntry_33 : decode cX4_copyEntry 33 = .ok (.goto (-31), 3) := by decide +kernel
theorem dX4_copyEntry_36 : decode cX4_copyEntry 36 = .ok (.return_, 1) := by decide +kernel
theorem dX4_moves_0 : decode cX4_moves 0 = .ok (.aload_n 0, 1) := by decide +kernel
theorem dX4_moves_1 : decode cX4_moves 1 = .ok (.iload_n 1, 1) := by decide +kernel
theorem dX4_moves_2 : decode cX4_moves 2 = .ok (.invokevirtual 59, 3) := by decide +kernel
theorem dX4_moves_5 : decode cX4_moves 5 = .ok (.istore_n 2, 1) := by decide +kernel
theorem dX4_moves_6 : decode cX4_moves 6 = .ok (.aload_n 0, 1) := by decide +kernel
theorem dX4_moves_7 : decode cX4_moves 7 = .ok (.iload_n 1, 1) := by decide +kernel
theorem dX4_moves_8 : decode cX4_moves 8 = .ok (.invokevirtual 63, 3) := by decide +kernel
theorem dX4_moves_11 : decode cX4_moves 11 = .ok (.istore_n 3, 1) := by decide +kernel
theorem dX4_moves_12 : decode cX4_moves 12 = .ok (.aload_n 0, 1) := by decide +kernel
theorem dX4_moves_13 : decode cX4_moves 13 = .ok (.iload_n 2, 1) := by decide +kernel
theorem dX4_moves_14 : decode cX4_moves 14 = .ok (.invokevirtual 66, 3) := by decide +kernel
theorem dX4_moves_17 : decode cX4_moves 17 = .ok (.istore 4, 2) := by decide +kernel
theorem dX4_moves_19 : decode cX4_moves 19 = .ok (.aload_n 0, 1) := by decide +kernel
theorem dX4_moves_20 : decode cX4_moves 20 = .ok (.iload_n 3, 1) := by decide +kernel
theorem dX4_moves_21 : decode cX4_moves 21 = .ok (.invokevirtual 69, 3) := by decide +kernel
theorem dX4_moves_24 : decode cX4_moves 24 = .ok (.istore 5, 2) := by decide +kernel
theorem dX4_moves_26 : decode cX4_moves 26 = .ok (.iload_n 3, 1) := by decide +kernel
theorem dX4_moves_27 : decode cX4_moves 27 = .ok (.iload_n 2, 1) := by decide +kernel
theorem dX4_moves_28 : decode cX4_moves 28 = .ok (.isub, 1) := by decide +kernel
theorem dX4_moves_29 : decode cX4_moves 29 = .ok (.iconst 1, 1) := by decide +kernel
theorem dX4_moves_30 : decode cX4_moves 30 = .ok (.if_icmp .le 5, 3) := by decide +kernel
theorem dX4_moves_33 : decode cX4_moves 33 = .ok (.iconst 0, 1) := by decide +kernel
theorem dX4_moves_34 : decode cX4_moves 34 = .ok (.ireturn, 1) := by decide +kernel
theorem dX4_moves_35 : decode cX4_moves 35 = .ok (.iload 5, 2) := by decide +kernel
theorem dX4_moves_37 : decode cX4_moves 37 = .ok (.ifCond .lt 21, 3) := by decide +kernel
theorem dX4_moves_40 : decode cX4_moves 40 = .ok (.iload 4, 2) := by decide +kernel
theorem dX4_moves_42 : decode cX4_moves 42 = .ok (.bipush 32, 2) := by decide +kernel
theorem dX4_moves_44 : decode cX4_moves 44 = .ok (.if_icmp .ge 21, 3) := by decide +kernel
theorem dX4_moves_47 : decode cX4_moves 47 = .ok (.iload 4, 2) := by decide +kernel
theorem dX4_moves_49 : decode cX4_moves 49 = .ok (.iload_n 3, 1) := by decide +kernel
theorem dX4_moves_50 : decode cX4_moves 50 = .ok (.isub, 1) := by decide +kernel
theorem dX4_moves_51 : decode cX4_moves 51 = .ok (.iload_n 2, 1) := by decide +kernel
theorem dX4_moves_52 : decode cX4_moves 52 = .ok (.iload 5, 2) := by decide +kernel
theorem dX4_moves_54 : decode cX4_moves 54 = .ok (.isub, 1) := by decide +kernel
theorem dX4_moves_55 : decode cX4_moves 55 = .ok (.if_icmp .gt 10, 3) := by decide +kernel
theorem dX4_moves_58 : decode cX4_moves 58 = .ok (.iload 4, 2) := by decide +kernel
theorem dX4_moves_60 : decode cX4_moves 60 = .ok (.iload_n 3, 1) := by decide +kernel
theorem dX4_moves_61 : decode cX4_moves 61 = .ok (.isub, 1) := by decide +kernel
theorem dX4_moves_62 : decode cX4_moves 62 = .ok (.goto 9, 3) := by decide +kernel
theorem dX4_moves_65 : decode cX4_moves 65 = .ok (.iconst (-1), 1) := by decide +kernel
theorem dX4_moves_66 : decode cX4_moves 66 = .ok (.iload_n 2, 1) := by decide +kernel
theorem dX4_moves_67 : decode cX4_moves 67 = .ok (.iload 5, 2) := by decide +kernel
theorem dX4_moves_69 : decode cX4_moves 69 = .ok (.isub, 1) := by decide +kernel
theorem dX4_moves_70 : decode cX4_moves 70 = .ok (.isub, 1) := by decide +kernel
theorem dX4_moves_71 : decode cX4_moves 71 = .ok (.ireturn, 1) := by decide +kernel
theorem dX4_makeRoom_0 : decode cX4_makeRoom 0 = .ok (.aload_n 0, 1) := by decide +kernel
theorem dX4_makeRoom_1 : decode cX4_makeRoom 1 = .ok (.iload_n 1, 1) := by decide +kernel
theorem dX4_makeRoom_2 : decode cX4_makeRoom 2 = .ok (.invokevirtual 59, 3) := by decide +kernel
theorem dX4_makeRoom_5 : decode cX4_makeRoom 5 = .ok (.istore_n 2, 1) := by decide +kernel
theorem dX4_makeRoom_6 : decode cX4_makeRoom 6 = .ok (.aload_n 0, 1) := by decide +kernel
theorem dX4_makeRoom_7 : decode cX4_makeRoom 7 = .ok (.iload_n 1, 1) := by decide +kernel
theorem dX4_makeRoom_8 : decode cX4_makeRoom 8 = .ok (.invokevirtual 63, 3) := by decide +kernel
theorem dX4_makeRoom_11 : decode cX4_makeRoom 11 = .ok (.istore_n 3, 1) := by decide +kernel
theorem dX4_makeRoom_12 : decode cX4_makeRoom 12 = .ok (.aload_n 0, 1) := by decide +kernel
theorem dX4_makeRoom_13 : decode cX4_makeRoom 13 = .ok (.iload_n 1, 1) := by decide +kernel
theorem dX4_makeRoom_14 : decode cX4_makeRoom 14 = .ok (.invokevirtual 72, 3) := by decide +kernel
theorem dX4_makeRoom_17 : decode cX4_makeRoom 17 = .ok (.istore 4, 2) := by decide +kernel
theorem dX4_makeRoom_19 : decode cX4_makeRoom 19 = .ok (.iload_n 3, 1) := by decide +kernel
theorem dX4_makeRoom_20 : decode cX4_makeRoom 20 = .ok (.iload_n 2, 1) := by decide +kernel
theorem dX4_makeRoom_21 : decode cX4_makeRoom 21 = .ok (.isub, 1) := by decide +kernel
theorem dX4_makeRoom_22 : decode cX4_makeRoom 22 = .ok (.iconst 1, 1) := by decide +kernel
theorem dX4_makeRoom_23 : decode cX4_makeRoom 23 = .ok (.if_icmp .le 44, 3) := by decide +kernel
theorem dX4_makeRoom_26 : decode cX4_makeRoom 26 = .ok (.aload_n 0, 1) := by decide +kernel
theorem dX4_makeRoom_27 : decode cX4_makeRoom 27 = .ok (.getfield 7, 3) := by decide +kernel
theorem dX4_makeRoom_30 : decode cX4_makeRoom 30 = .ok (.sipush 224, 3) := by decide +kernel
theorem dX4_makeRoom_33 : decode cX4_makeRoom 33 = .ok (.iaload, 1) := by decide +kernel
theorem dX4_makeRoom_34 : decode cX4_makeRoom 34 = .ok (.ifCond .ne 9, 3) := by decide +kernel
theorem dX4_makeRoom_37 : decode cX4_makeRoom 37 = .ok (.iload_n 2, 1) := by decide +kernel
theorem dX4_makeRoom_38 : decode cX4_makeRoom 38 = .ok (.iconst 1, 1) := by decide +kernel
theorem dX4_makeRoom_39 : decode cX4_makeRoom 39 = .ok (.iadd, 1) := by decide +kernel
theorem dX4_makeRoom_40 : decode cX4_makeRoom 40 = .ok (.goto 26, 3) := by decide +kernel
theorem dX4_makeRoom_43 : decode cX4_makeRoom 43 = .ok (.aload_n 0, 1) := by decide +kernel
theorem dX4_makeRoom_44 : decode cX4_makeRoom 44 = .ok (.getfield 7, 3) := by decide +kernel
theorem dX4_makeRoom_47 : decode cX4_makeRoom 47 = .ok (.sipush 224, 3) := by decide +kernel
theorem dX4_makeRoom_50 : decode cX4_makeRoom 50 = .ok (.iaload, 1) := by decide +kernel
theorem dX4_makeRoom_51 : decode cX4_makeRoom 51 = .ok (.iconst 1, 1) := by decide +kernel
theorem dX4_makeRoom_52 : decode cX4_makeRoom 52 = .ok (.if_icmp .ne 11, 3) := by decide +kernel
theorem dX4_makeRoom_55 : decode cX4_makeRoom 55 = .ok (.iload_n 2, 1) := by decide +kernel
theorem dX4_makeRoom_56 : decode cX4_makeRoom 56 = .ok (.iload_n 3, 1) := by decide +kernel
theorem dX4_makeRoom_57 : decode cX4_makeRoom 57 = .ok (.iadd, 1) := by decide +kernel
theorem dX4_makeRoom_58 : decode cX4_makeRoom 58 = .ok (.iconst 2, 1) := by decide +kernel
theorem dX4_makeRoom_59 : decode cX4_makeRoom 59 = .ok (.idiv, 1) := by decide +kernel
theorem dX4_makeRoom_60 : decode cX4_makeRoom 60 = .ok (.goto 6, 3) := by decide +kernel
theorem dX4_makeRoom_63 : decode cX4_makeRoom 63 = .ok (.iload_n 3, 1) := by decide +kernel
theorem dX4_makeRoom_64 : decode cX4_makeRoom 64 = .ok (.iconst 1, 1) := by decide +kernel
theorem dX4_makeRoom_65 : decode cX4_makeRoom 65 = .ok (.isub, 1) := by decide +kernel
theorem dX4_makeRoom_66 : decode cX4_makeRoom 66 = .ok (.ireturn, 1) := by decide +kernel
theorem dX4_makeRoom_67 : decode cX4_makeRoom 67 = .ok (.iload 4, 2) := by decide +kernel
theorem dX4_makeRoom_69 : decode cX4_makeRoom 69 = .ok (.ifCond .lt 46, 3) := by decide +kernel
theorem dX4_makeRoom_72 : decode cX4_makeRoom 72 = .ok (.iload_n 3, 1) := by decide +kernel
theorem dX4_makeRoom_73 : decode cX4_makeRoom 73 = .ok (.iload 4, 2) := by decide +kernel
theorem dX4_makeRoom_75 : decode cX4_makeRoom 75 = .ok (.iadd, 1) := by decide +kernel
theorem dX4_makeRoom_76 : decode cX4_makeRoom 76 = .ok (.istore 5, 2) := by decide +kernel
theorem dX4_makeRoom_78 : decode cX4_makeRoom 78 = .ok (.iload 5, 2) := by decide +kernel
theorem dX4_makeRoom_80 : decode cX4_makeRoom 80 = .ok (.iload_n 3, 1) := by decide +kernel
theorem dX4_makeRoom_81 : decode cX4_makeRoom 81 = .ok (.if_icmp .le 19, 3) := by decide +kernel
theorem dX4_makeRoom_84 : decode cX4_makeRoom 84 = .ok (.aload_n 0, 1) := by decide +kernel
theorem dX4_makeRoom_85 : decode cX4_makeRoom 85 = .ok (.iload 5, 2) := by decide +kernel
theorem dX4_makeRoom_87 : decode cX4_makeRoom 87 = .ok (.iconst 1, 1) := by decide +kernel
theorem dX4_makeRoom_88 : decode cX4_makeRoom 88 = .ok (.isub, 1) := by decide +kernel
theorem dX4_makeRoom_89 : decode cX4_makeRoom 89 = .ok (.iload 5, 2) := by decide +kernel
theorem dX4_makeRoom_91 : decode cX4_makeRoom 91 = .ok (.invokevirtual 75, 3) := by decide +kernel
theorem dX4_makeRoom_94 : decode cX4_makeRoom 94 = .ok (.iinc 5 (-1), 3) := by decide +kernel
theorem dX4_makeRoom_97 : decode cX4_makeRoom 97 = .ok (.goto (-19), 3) := by decide +kernel
theorem dX4_makeRoom_100 : decode cX4_makeRoom 100 = .ok (.aload_n 0, 1) := by decide +kernel
theorem dX4_makeRoom_101 : decode cX4_makeRoom 101 = .ok (.getfield 7, 3) := by decide +kernel
theorem dX4_makeRoom_104 : decode cX4_makeRoom 104 = .ok (.sipush 226, 3) := by decide +kernel
theorem dX4_makeRoom_107 : decode cX4_makeRoom 107 = .ok (.dup2, 1) := by decide +kernel
theorem dX4_makeRoom_108 : decode cX4_makeRoom 108 = .ok (.iaload, 1) := by decide +kernel
theorem dX4_makeRoom_109 : decode cX4_makeRoom 109 = .ok (.iload 4, 2) := by decide +kernel
theorem dX4_makeRoom_111 : decode cX4_makeRoom 111 = .ok (.iadd, 1) := by decide +kernel
theorem dX4_makeRoom_112 : decode cX4_makeRoom 112 = .ok (.iastore, 1) := by decide +kernel
theorem dX4_makeRoom_113 : decode cX4_makeRoom 113 = .ok (.iload_n 3, 1) := by decide +kernel
theorem dX4_makeRoom_114 : decode cX4_makeRoom 114 = .ok (.ireturn, 1) := by decide +kernel
theorem dX4_makeRoom_115 : decode cX4_makeRoom 115 = .ok (.iload_n 2, 1) := by decide +kernel
theorem dX4_makeRoom_116 : decode cX4_makeRoom 116 = .ok (.iconst 1, 1) := by decide +kernel
theorem dX4_makeRoom_117 : decode cX4_makeRoom 117 = .ok (.iadd, 1) := by decide +kernel
theorem dX4_makeRoom_118 : decode cX4_makeRoom 118 = .ok (.iload 4, 2) := by decide +kernel
theorem dX4_makeRoom_120 : decode cX4_makeRoom 120 = .ok (.iadd, 1) := by decide +kernel
theorem dX4_makeRoom_121 : decode cX4_makeRoom 121 = .ok (.istore 5, 2) := by decide +kernel
theorem dX4_makeRoom_123 : decode cX4_makeRoom 123 = .ok (.iload 5, 2) := by decide +kernel
theorem dX4_makeRoom_125 : decode cX4_makeRoom 125 = .ok (.iload_n 2, 1) := by decide +kernel
theorem dX4_makeRoom_126 : decode cX4_makeRoom 126 = .ok (.if_icmp .ge 19, 3) := by decide +kernel
theorem dX4_makeRoom_129 : decode cX4_makeRoom 129 = .ok (.aload_n 0, 1) := by decide +kernel
theorem dX4_makeRoom_130 : decode cX4_makeRoom 130 = .ok (.iload 5, 2) := by decide +kernel
theorem dX4_makeRoom_132 : decode cX4_makeRoom 132 = .ok (.iconst 1, 1) := by decide +kernel
theorem dX4_makeRoom_133 : decode cX4_makeRoom 133 = .ok (.iadd, 1) := by decide +kernel
theorem dX4_makeRoom_134 : decode cX4_makeRoom 134 = .ok (.iload 5, 2) := by decide +kernel
theorem dX4_makeRoom_136 : decode cX4_makeRoom 136 = .ok (.invokevirtual 75, 3) := by decide +kernel
theorem dX4_makeRoom_139 : decode cX4_makeRoom 139 = .ok (.iinc 5 1, 3) := by decide +kernel
theorem dX4_makeRoom_142 : decode cX4_makeRoom 142 = .ok (.goto (-19), 3) := by decide +kernel
theorem dX4_makeRoom_145 : decode cX4_makeRoom 145 = .ok (.aload_n 0, 1) := by decide +kernel
theorem dX4_makeRoom_146 : decode cX4_makeRoom 146 = .ok (.getfield 7, 3) := by decide +kernel
theorem dX4_makeRoom_149 : decode cX4_makeRoom 149 = .ok (.sipush 226, 3) := by decide +kernel
theorem dX4_makeRoom_152 : decode cX4_makeRoom 152 = .ok (.dup2, 1) := by decide +kernel
theorem dX4_makeRoom_153 : decode cX4_makeRoom 153 = .ok (.iaload, 1) := by decide +kernel
theorem dX4_makeRoom_154 : decode cX4_makeRoom 154 = .ok (.iconst (-1), 1) := by decide +kernel
theorem dX4_makeRoom_155 : decode cX4_makeRoom 155 = .ok (.iload 4, 2) := by decide +kernel
theorem dX4_makeRoom_157 : decode cX4_makeRoom 157 = .ok (.isub, 1) := by decide +kernel
theorem dX4_makeRoom_158 : decode cX4_makeRoom 158 = .ok (.iadd, 1) := by decide +kernel
theorem dX4_makeRoom_159 : decode cX4_makeRoom 159 = .ok (.iastore, 1) := by decide +kernel
theorem dX4_makeRoom_160 : decode cX4_makeRoom 160 = .ok (.iload_n 2, 1) := by decide +kernel
theorem dX4_makeRoom_161 : decode cX4_makeRoom 161 = .ok (.ireturn, 1) := by decide +kernel
theorem dX4_put_0 : decode cX4_put 0 = .ok (.bipush 7, 2) := by decide +kernel
theorem dX4_put_2 : decode cX4_put 2 = .ok (.iload_n 1, 1) := by decide +kernel
theorem dX4_put_3 : decode cX4_put 3 = .ok (.imul, 1) := by decide +kernel
theorem dX4_put_4 : decode cX4_put 4 = .ok (.istore 8, 2) := by decide +kernel
theorem dX4_put_6 : decode cX4_put 6 = .ok (.aload_n 0, 1) := by decide +kernel
theorem dX4_put_7 : decode cX4_put 7 = .ok (.getfield 7, 3) := by decide +kernel
theorem dX4_put_10 : decode cX4_put 10 = .ok (.iload 8, 2) := by decide +kernel
theorem dX4_put_12 : decode cX4_put 12 = .ok (.iconst 0, 1) := by decide +kernel
theorem dX4_put_13 : decode cX4_put 13 = .ok (.iadd, 1) := by decide +kernel
theorem dX4_put_14 : decode cX4_put 14 = .ok (.iload_n 2, 1) := by decide +kernel
theorem dX4_put_15 : decode cX4_put 15 = .ok (.iconst 1, 1) := by decide +kernel
theorem dX4_put_16 : decode cX4_put 16 = .ok (.iadd, 1) := by decide +kernel
theorem dX4_put_17 : decode cX4_put 17 = .ok (.iastore, 1) := by decide +kernel
theorem dX4_put_18 : decode cX4_put 18 = .ok (.aload_n 0, 1) := by decide +kernel
theorem dX4_put_19 : decode cX4_put 19 = .ok (.getfield 7, 3) := by decide +kernel
theorem dX4_put_22 : decode cX4_put 22 = .ok (.iload 8, 2) := by decide +kernel
theorem dX4_put_24 : decode cX4_put 24 = .ok (.iconst 1, 1) := by decide +kernel
theorem dX4_put_25 : decode cX4_put 25 = .ok (.iadd, 1) := by decide +kernel
theorem dX4_put_26 : decode cX4_put 26 = .ok (.iload_n 3, 1) := by decide +kernel
theorem dX4_put_27 : decode cX4_put 27 = .ok (.iastore, 1) := by decide +kernel
theorem dX4_put_28 : decode cX4_put 28 = .ok (.aload_n 0, 1) := by decide +kernel
theorem dX4_put_29 : decode cX4_put 29 = .ok (.getfield 7, 3) := by decide +kernel
theorem dX4_put_32 : decode cX4_put 32 = .ok (.iload 8, 2) := by decide +kernel
theorem dX4_put_34 : decode cX4_put 34 = .ok (.iconst 2, 1) := by decide +kernel
theorem dX4_put_35 : decode cX4_put 35 = .ok (.iadd, 1) := by decide +kernel
theorem dX4_put_36 : decode cX4_put 36 = .ok (.iload 4, 2) := by decide +kernel
theorem dX4_put_38 : decode cX4_put 38 = .ok (.iastore, 1) := by decide +kernel
theorem dX4_put_39 : decode cX4_put 39 = .ok (.aload_n 0, 1) := by decide +kernel
theorem dX4_put_40 : decode cX4_put 40 = .ok (.getfield 7, 3) := by decide +kernel
theorem dX4_put_43 : decode cX4_put 43 = .ok (.iload 8, 2) := by decide +kernel
theorem dX4_put_45 : decode cX4_put 45 = .ok (.iconst 3, 1) := by decide +kernel
theorem dX4_put_46 : decode cX4_put 46 = .ok (.iadd, 1) := by decide +kernel
theorem dX4_put_47 : decode cX4_put 47 = .ok (.iload 5, 2) := by decide +kernel
theorem dX4_put_49 : decode cX4_put 49 = .ok (.iastore, 1) := by decide +kernel
theorem dX4_put_50 : decode cX4_put 50 = .ok (.aload_n 0, 1) := by decide +kernel
theorem dX4_put_51 : decode cX4_put 51 = .ok (.getfield 7, 3) := by decide +kernel
theorem dX4_put_54 : decode cX4_put 54 = .ok (.iload 8, 2) := by decide +kernel
theorem dX4_put_56 : decode cX4_put 56 = .ok (.iconst 4, 1) := by decide +kernel
theorem dX4_put_57 : decode cX4_put 57 = .ok (.iadd, 1) := by decide +kernel
theorem dX4_put_58 : decode cX4_put 58 = .ok (.iload 6, 2) := by decide +kernel
theorem dX4_put_60 : decode cX4_put 60 = .ok (.iastore, 1) := by decide +kernel
theorem dX4_put_61 : decode cX4_put 61 = .ok (.aload_n 0, 1) := by decide +kernel
theorem dX4_put_62 : decode cX4_put 62 = .ok (.getfield 7, 3) := by decide +kernel
theorem dX4_put_65 : decode cX4_put 65 = .ok (.iload 8, 2) := by decide +kernel
theorem dX4_put_67 : decode cX4_put 67 = .ok (.iconst 5, 1) := by decide +kernel
theorem dX4_put_68 : decode cX4_put 68 = .ok (.iadd, 1) := by decide +kernel
theorem dX4_put_69 : decode cX4_put 69 = .ok (.iload 7, 2) := by decide +kernel
theorem dX4_put_71 : decode cX4_put 71 = .ok (.iastore, 1) := by decide +kernel
theorem dX4_put_72 : decode cX4_put 72 = .ok (.aload_n 0, 1) := by decide +kernel
theorem dX4_put_73 : decode cX4_put 73 = .ok (.getfield 7, 3) := by decide +kernel
theorem dX4_put_76 : decode cX4_put 76 = .ok (.iload 8, 2) := by decide +kernel
theorem dX4_put_78 : decode cX4_put 78 = .ok (.bipush 6, 2) := by decide +kernel
theorem dX4_put_80 : decode cX4_put 80 = .ok (.iadd, 1) := by decide +kernel
theorem dX4_put_81 : decode cX4_put 81 = .ok (.iconst 0, 1) := by decide +kernel
theorem dX4_put_82 : decode cX4_put 82 = .ok (.iastore, 1) := by decide +kernel
theorem dX4_put_83 : decode cX4_put 83 = .ok (.return_, 1) := by decide +kernel
theorem dX4_clearSlot_0 : decode cX4_clearSlot 0 = .ok (.iconst 0, 1) := by decide +kernel
theorem dX4_clearSlot_1 : decode cX4_clearSlot 1 = .ok (.istore_n 2, 1) := by decide +kernel
theorem dX4_clearSlot_2 : decode cX4_clearSlot 2 = .ok (.iload_n 2, 1) := by decide +kernel
theorem dX4_clearSlot_3 : decode cX4_clearSlot 3 = .ok (.bipush 7, 2) := by decide +kernel
theorem dX4_clearSlot_5 : decode cX4_clearSlot 5 = .ok (.if_icmp .ge 21, 3) := by decide +kernel
theorem dX4_clearSlot_8 : decode cX4_clearSlot 8 = .ok (.aload_n 0, 1) := by decide +kernel
theorem dX4_clearSlot_9 : decode cX4_clearSlot 9 = .ok (.getfield 7, 3) := by decide +kernel
theorem dX4_clearSlot_12 : decode cX4_clearSlot 12 = .ok (.bipush 7, 2) := by decide +kernel
theorem dX4_clearSlot_14 : decode cX4_clearSlot 14 = .ok (.iload_n 1, 1) := by decide +kernel
theorem dX4_clearSlot_15 : decode cX4_clearSlot 15 = .ok (.imul, 1) := by decide +kernel
theorem dX4_clearSlot_16 : decode cX4_clearSlot 16 = .ok (.iload_n 2, 1) := by decide +kernel
theorem dX4_clearSlot_17 : decode cX4_clearSlot 17 = .ok (.iadd, 1) := by decide +kernel
theorem dX4_clearSlot_18 : decode cX4_clearSlot 18 = .ok (.iconst 0, 1) := by decide +kernel
theorem dX4_clearSlot_19 : decode cX4_clearSlot 19 = .ok (.iastore, 1) := by decide +kernel
theorem dX4_clearSlot_20 : decode cX4_clearSlot 20 = .ok (.iinc 2 1, 3) := by decide +kernel
theorem dX4_clearSlot_23 : decode cX4_clearSlot 23 = .ok (.goto (-21), 3) := by decide +kernel
theorem dX4_clearSlot_26 : decode cX4_clearSlot 26 = .ok (.return_, 1) := by decide +kernel
theorem dX4_isByte_0 : decode cX4_isByte 0 = .ok (.iload_n 0, 1) := by decide +kernel
theorem dX4_isByte_1 : decode cX4_isByte 1 = .ok (.iconst 0, 1) := by decide +kernel
theorem dX4_isByte_2 : decode cX4_isByte 2 = .ok (.sipush 255, 3) := by decide +kernel
theorem dX4_isByte_5 : decode cX4_isByte 5 = .ok (.invokestatic 28, 3) := by decide +kernel
theorem dX4_isByte_8 : decode cX4_isByte 8 = .ok (.ireturn, 1) := by decide +kernel
theorem dX4_isRankAndAction_0 : decode cX4_isRankAndAction 0 = .ok (.iload_n 0, 1) := by decide +kernel
theorem dX4_isRankAndAction_1 : decode cX4_isRankAndAction 1 = .ok (.iconst 0, 1) := by decide +kernel
theorem dX4_isRankAndAction_2 : decode cX4_isRankAndAction 2 = .ok (.bipush 99, 2) := by decide +kernel
theorem dX4_isRankAndAction_4 : decode cX4_isRankAndAction 4 = .ok (.invokestatic 28, 3) := by decide +kernel
theorem dX4_isRankAndAction_7 : decode cX4_isRankAndAction 7 = .ok (.ifCond .eq 17, 3) := by decide +kernel
theorem dX4_isRankAndAction_10 : decode cX4_isRankAndAction 10 = .ok (.iload_n 1, 1) := by decide +kernel
theorem dX4_isRankAndAction_11 : decode cX4_isRankAndAction 11 = .ok (.iconst 0, 1) := by decide +kernel
theorem dX4_isRankAndAction_12 : decode cX4_isRankAndAction 12 = .ok (.bipush 9, 2) := by decide +kernel
theorem dX4_isRankAndAction_14 : decode cX4_isRankAndAction 14 = .ok (.invokestatic 28, 3) := by decide +kernel
theorem dX4_isRankAndAction_17 : decode cX4_isRankAndAction 17 = .ok (.ifCond .eq 7, 3) := by decide +kernel
theorem dX4_isRankAndAction_20 : decode cX4_isRankAndAction 20 = .ok (.iconst 1, 1) := by decide +kernel
theorem dX4_isRankAndAction_21 : decode cX4_isRankAndAction 21 = .ok (.goto 4, 3) := by decide +kernel
theorem dX4_isRankAndAction_24 : decode cX4_isRankAndAction 24 = .ok (.iconst 0, 1) := by decide +kernel
theorem dX4_isRankAndAction_25 : decode cX4_isRankAndAction 25 = .ok (.ireturn, 1) := by decide +kernel
theorem dX4_isRange_0 : decode cX4_isRange 0 = .ok (.iload_n 0, 1) := by decide +kernel
theorem dX4_isRange_1 : decode cX4_isRange 1 = .ok (.invokestatic 79, 3) := by decide +kernel
theorem dX4_isRange_4 : decode cX4_isRange 4 = .ok (.ifCond .eq 19, 3) := by decide +kernel
theorem dX4_isRange_7 : decode cX4_isRange 7 = .ok (.iload_n 1, 1) := by decide +kernel
theorem dX4_isRange_8 : decode cX4_isRange 8 = .ok (.invokestatic 79, 3) := by decide +kernel
theorem dX4_isRange_11 : decode cX4_isRange 11 = .ok (.ifCond .eq 12, 3) := by decide +kernel
theorem dX4_isRange_14 : decode cX4_isRange 14 = .ok (.iload_n 0, 1) := by decide +kernel
theorem dX4_isRange_15 : decode cX4_isRange 15 = .ok (.iload_n 1, 1) := by decide +kernel
theorem dX4_isRange_16 : decode cX4_isRange 16 = .ok (.if_icmp .gt 7, 3) := by decide +kernel
theorem dX4_isRange_19 : decode cX4_isRange 19 = .ok (.iconst 1, 1) := by decide +kernel
theorem dX4_isRange_20 : decode cX4_isRange 20 = .ok (.goto 4, 3) := by decide +kernel
theorem dX4_isRange_23 : decode cX4_isRange 23 = .ok (.iconst 0, 1) := by decide +kernel
theorem dX4_isRange_24 : decode cX4_isRange 24 = .ok (.ireturn, 1) := by decide +kernel
theorem dX4_add_0 : decode cX4_add 0 = .ok (.aload_n 0, 1) := by decide +kernel
theorem dX4_add_1 : decode cX4_add 1 = .ok (.getfield 7, 3) := by decide +kernel
theorem dX4_add_4 : decode cX4_add 4 = .ok (.sipush 225, 3) := by decide +kernel
theorem dX4_add_7 : decode cX4_add 7 = .ok (.iaload, 1) := by decide +kernel
theorem dX4_add_8 : decode cX4_add 8 = .ok (.istore 5, 2) := by decide +kernel
theorem dX4_add_10 : decode cX4_add 10 = .ok (.aload_n 0, 1) := by decide +kernel
theorem dX4_add_11 : decode cX4_add 11 = .ok (.aload_n 0, 1) := by decide +kernel
theorem dX4_add_12 : decode cX4_add 12 = .ok (.iload_n 3, 1) := by decide +kernel
theorem dX4_add_13 : decode cX4_add 13 = .ok (.invokevirtual 82, 3) := by decide +kernel
theorem dX4_add_16 : decode cX4_add 16 = .ok (.iload 5, 2) := by decide +kernel
theorem dX4_add_18 : decode cX4_add 18 = .ok (.iconst 0, 1) := by decide +kernel
theorem dX4_add_19 : decode cX4_add 19 = .ok (.iload_n 2, 1) := by decide +kernel
theorem dX4_add_20 : decode cX4_add 20 = .ok (.iload_n 1, 1) := by decide +kernel
theorem dX4_add_21 : decode cX4_add 21 = .ok (.iload_n 2, 1) := by decide +kernel
theorem dX4_add_22 : decode cX4_add 22 = .ok (.iand, 1) := by decide +kernel
theorem dX4_add_23 : decode cX4_add 23 = .ok (.iload_n 3, 1) := by decide +kernel
theorem dX4_add_24 : decode cX4_add 24 = .ok (.iload 4, 2) := by decide +kernel
theorem dX4_add_26 : decode cX4_add 26 = .ok (.invokevirtual 85, 3) := by decide +kernel
theorem dX4_add_29 : decode cX4_add 29 = .ok (.aload_n 0, 1) := by decide +kernel
theorem dX4_add_30 : decode cX4_add 30 = .ok (.getfield 7, 3) := by decide +kernel
theorem dX4_add_33 : decode cX4_add 33 = .ok (.sipush 225, 3) := by decide +kernel
theorem dX4_add_36 : decode cX4_add 36 = .ok (.dup2, 1) := by decide +kernel
theorem dX4_add_37 : decode cX4_add 37 = .ok (.iaload, 1) := by decide +kernel
theorem dX4_add_38 : decode cX4_add 38 = .ok (.iconst 1, 1) := by decide +kernel
theorem dX4_add_39 : decode cX4_add 39 = .ok (.iadd, 1) := by decide +kernel
theorem dX4_add_40 : decode cX4_add 40 = .ok (.iastore, 1) := by decide +kernel
theorem dX4_add_41 : decode cX4_add 41 = .ok (.iload 5, 2) := by decide +kernel
theorem dX4_add_43 : decode cX4_add 43 = .ok (.ireturn, 1) := by decide +kernel
theorem dX4_addRule_0 : decode cX4_addRule 0 = .ok (.iload_n 1, 1) := by decide +kernel
theorem dX4_addRule_1 : decode cX4_addRule 1 = .ok (.invokestatic 79, 3) := by decide +kernel
theorem dX4_addRule_4 : decode cX4_addRule 4 = .ok (.ifCond .eq 19, 3) := by decide +kernel
theorem dX4_addRule_7 : decode cX4_addRule 7 = .ok (.iload_n 2, 1) := by decide +kernel
theorem dX4_addRule_8 : decode cX4_addRule 8 = .ok (.invokestatic 79, 3) := by decide +kernel
theorem dX4_addRule_11 : decode cX4_addRule 11 = .ok (.ifCond .eq 12, 3) := by decide +kernel
theorem dX4_addRule_14 : decode cX4_addRule 14 = .ok (.iload_n 3, 1) := by decide +kernel
theorem dX4_addRule_15 : decode cX4_addRule 15 = .ok (.iload 4, 2) := by decide +kernel
theorem dX4_addRule_17 : decode cX4_addRule 17 = .ok (.invokestatic 89, 3) := by decide +kernel
theorem dX4_addRule_20 : decode cX4_addRule 20 = .ok (.ifCond .ne 6, 3) := by decide +kernel
theorem dX4_addRule_23 : decode cX4_addRule 23 = .ok (.bipush (-2), 2) := by decide +kernel
theorem dX4_addRule_25 : decode cX4_addRule 25 = .ok (.ireturn, 1) := by decide +kernel
theorem dX4_addRule_26 : decode cX4_addRule 26 = .ok (.aload_n 0, 1) := by decide +kernel
theorem dX4_addRule_27 : decode cX4_addRule 27 = .ok (.invokevirtual 93, 3) := by decide +kernel
theorem dX4_addRule_30 : decode cX4_addRule 30 = .ok (.ifCond .ne 6, 3) := by decide +kernel
theorem dX4_addRule_33 : decode cX4_addRule 33 = .ok (.bipush (-3), 2) := by decide +kernel
theorem dX4_addRule_35 : decode cX4_addRule 35 = .ok (.ireturn, 1) := by decide +kernel
theorem dX4_addRule_36 : decode cX4_addRule 36 = .ok (.aload_n 0, 1) := by decide +kernel
theorem dX4_addRule_37 : decode cX4_addRule 37 = .ok (.invokevirtual 48, 3) := by decide +kernel
theorem dX4_addRule_40 : decode cX4_addRule 40 = .ok (.aload_n 0, 1) := by decide +kernel
theorem dX4_addRule_41 : decode cX4_addRule 41 = .ok (.iload_n 1, 1) := by decide +kernel
theorem dX4_addRule_42 : decode cX4_addRule 42 = .ok (.iload_n 2, 1) := by decide +kernel
theorem dX4_addRule_43 : decode cX4_addRule 43 = .ok (.iload_n 3, 1) := by decide +kernel
theorem dX4_addRule_44 : decode cX4_addRule 44 = .ok (.iload 4, 2) := by decide +kernel
theorem dX4_addRule_46 : decode cX4_addRule 46 = .ok (.invokevirtual 96, 3) := by decide +kernel
theorem dX4_addRule_49 : decode cX4_addRule 49 = .ok (.ireturn, 1) := by decide +kernel
theorem dX4_block_0 : decode cX4_block 0 = .ok (.iconst 1, 1) := by decide +kernel
theorem dX4_block_1 : decode cX4_block 1 = .ok (.istore_n 2, 1) := by decide +kernel
theorem dX4_block_2 : decode cX4_block 2 = .ok (.iload_n 2, 1) := by decide +kernel
theorem dX4_block_3 : decode cX4_block 3 = .ok (.sipush 256, 3) := by decide +kernel
theorem dX4_block_6 : decode cX4_block 6 = .ok (.if_icmp .ge 29, 3) := by decide +kernel
theorem dX4_block_9 : decode cX4_block 9 = .ok (.iload_n 0, 1) := by decide +kernel
theorem dX4_block_10 : decode cX4_block 10 = .ok (.iconst 2, 1) := by decide +kernel
theorem dX4_block_11 : decode cX4_block 11 = .ok (.iload_n 2, 1) := by decide +kernel
theorem dX4_block_12 : decode cX4_block 12 = .ok (.imul, 1) := by decide +kernel
theorem dX4_block_13 : decode cX4_block 13 = .ok (.irem, 1) := by decide +kernel
theorem dX4_block_14 : decode cX4_block 14 = .ok (.ifCond .ne 21, 3) := by decide +kernel
theorem dX4_block_17 : decode cX4_block 17 = .ok (.iload_n 0, 1) := by decide +kernel
theorem dX4_block_18 : decode cX4_block 18 = .ok (.iconst 2, 1) := by decide +kernel
theorem dX4_block_19 : decode cX4_block 19 = .ok (.iload_n 2, 1) := by decide +kernel
theorem dX4_block_20 : decode cX4_block 20 = .ok (.imul, 1) := by decide +kernel
theorem dX4_block_21 : decode cX4_block 21 = .ok (.iadd, 1) := by decide +kernel
theorem dX4_block_22 : decode cX4_block 22 = .ok (.iconst 1, 1) := by decide +kernel
theorem dX4_block_23 : decode cX4_block 23 = .ok (.isub, 1) := by decide +kernel
theorem dX4_block_24 : decode cX4_block 24 = .ok (.iload_n 1, 1) := by decide +kernel
theorem dX4_block_25 : decode cX4_block 25 = .ok (.if_icmp .gt 10, 3) := by decide +kernel
theorem dX4_block_28 : decode cX4_block 28 = .ok (.iload_n 2, 1) := by decide +kernel
theorem dX4_block_29 : decode cX4_block 29 = .ok (.iconst 2, 1) := by decide +kernel
theorem dX4_block_30 : decode cX4_block 30 = .ok (.imul, 1) := by decide +kernel
theorem dX4_block_31 : decode cX4_block 31 = .ok (.istore_n 2, 1) := by decide +kernel
theorem dX4_block_32 : decode cX4_block 32 = .ok (.goto (-30), 3) := by decide +kernel
theorem dX4_block_35 : decode cX4_block 35 = .ok (.iload_n 2, 1) := by decide +kernel
theorem dX4_block_36 : decode cX4_block 36 = .ok (.ireturn, 1) := by decide +kernel
theorem dX4_blocks_0 : decode cX4_blocks 0 = .ok (.iconst 0, 1) := by decide +kernel
theorem dX4_blocks_1 : decode cX4_blocks 1 = .ok (.istore_n 2, 1) := by decide +kernel
theorem dX4_blocks_2 : decode cX4_blocks 2 = .ok (.iload_n 0, 1) := by decide +kernel
theorem dX4_blocks_3 : decode cX4_blocks 3 = .ok (.istore_n 3, 1) := by decide +kernel
theorem dX4_blocks_4 : decode cX4_blocks 4 = .ok (.iload_n 3, 1) := by decide +kernel
theorem dX4_blocks_5 : decode cX4_blocks 5 = .ok (.iload_n 1, 1) := by decide +kernel
theorem dX4_blocks_6 : decode cX4_blocks 6 = .ok (.if_icmp .gt 17, 3) := by decide +kernel
theorem dX4_blocks_9 : decode cX4_blocks 9 = .ok (.iinc 2 1, 3) := by decide +kernel
theorem dX4_blocks_12 : decode cX4_blocks 12 = .ok (.iload_n 3, 1) := by decide +kernel
theorem dX4_blocks_13 : decode cX4_blocks 13 = .ok (.iload_n 3, 1) := by decide +kernel
theorem dX4_blocks_14 : decode cX4_blocks 14 = .ok (.iload_n 1, 1) := by decide +kernel
theorem dX4_blocks_15 : decode cX4_blocks 15 = .ok (.invokestatic 100, 3) := by decide +kernel
theorem dX4_blocks_18 : decode cX4_blocks 18 = .ok (.iadd, 1) := by decide +kernel
theorem dX4_blocks_19 : decode cX4_blocks 19 = .ok (.istore_n 3, 1) := by decide +kernel
theorem dX4_blocks_20 : decode cX4_blocks 20 = .ok (.goto (-16), 3) := by decide +kernel
theorem dX4_blocks_23 : decode cX4_blocks 23 = .ok (.iload_n 2, 1) := by decide +kernel
theorem dX4_blocks_24 : decode cX4_blocks 24 = .ok (.ireturn, 1) := by decide +kernel
theorem dX4_addRange_0 : decode cX4_addRange 0 = .ok (.iload_n 1, 1) := by decide +kernel
theorem dX4_addRange_1 : decode cX4_addRange 1 = .ok (.iload_n 2, 1) := by decide +kernel
theorem dX4_addRange_2 : decode cX4_addRange 2 = .ok (.invokestatic 103, 3) := by decide +kernel
theorem dX4_addRange_5 : decode cX4_addRange 5 = .ok (.ifCond .eq 12, 3) := by decide +kernel
theorem dX4_addRange_8 : decode cX4_addRange 8 = .ok (.iload_n 3, 1) := by decide +kernel
theorem dX4_addRange_9 : decode cX4_addRange 9 = .ok (.iload 4, 2) := by decide +kernel
theorem dX4_addRange_11 : decode cX4_addRange 11 = .ok (.invokestatic 89, 3) := by decide +kernel
theorem dX4_addRange_14 : decode cX4_addRange 14 = .ok (.ifCond .ne 6, 3) := by decide +kernel
theorem dX4_addRange_17 : decode cX4_addRange 17 = .ok (.bipush (-2), 2) := by decide +kernel
theorem dX4_addRange_19 : decode cX4_addRange 19 = .ok (.ireturn, 1) := by decide +kernel
theorem dX4_addRange_20 : decode cX4_addRange 20 = .ok (.aload_n 0, 1) := by decide +kernel
theorem dX4_addRange_21 : decode cX4_addRange 21 = .ok (.invokevirtual 93, 3) := by decide +kernel
theorem dX4_addRange_24 : decode cX4_addRange 24 = .ok (.iload_n 1, 1) := by decide +kernel
theorem dX4_addRange_25 : decode cX4_addRange 25 = .ok (.iload_n 2, 1) := by decide +kernel
theorem dX4_addRange_26 : decode cX4_addRange 26 = .ok (.invokestatic 106, 3) := by decide +kernel
theorem dX4_addRange_29 : decode cX4_addRange 29 = .ok (.if_icmp .ge 6, 3) := by decide +kernel
theorem dX4_addRange_32 : decode cX4_addRange 32 = .ok (.bipush (-3), 2) := by decide +kernel
theorem dX4_addRange_34 : decode cX4_addRange 34 = .ok (.ireturn, 1) := by decide +kernel
theorem dX4_addRange_35 : decode cX4_addRange 35 = .ok (.aload_n 0, 1) := by decide +kernel
theorem dX4_addRange_36 : decode cX4_addRange 36 = .ok (.invokevirtual 48, 3) := by decide +kernel
theorem dX4_addRange_39 : decode cX4_addRange 39 = .ok (.aload_n 0, 1) := by decide +kernel
theorem dX4_addRange_40 : decode cX4_addRange 40 = .ok (.getfield 7, 3) := by decide +kernel
theorem dX4_addRange_43 : decode cX4_addRange 43 = .ok (.sipush 225, 3) := by decide +kernel
theorem dX4_addRange_46 : decode cX4_addRange 46 = .ok (.iaload, 1) := by decide +kernel
theorem dX4_addRange_47 : decode cX4_addRange 47 = .ok (.istore 5, 2) := by decide +kernel
theorem dX4_addRange_49 : decode cX4_addRange 49 = .ok (.iconst 0, 1) := by decide +kernel
theorem dX4_addRange_50 : decode cX4_addRange 50 = .ok (.istore 6, 2) := by decide +kernel
theorem dX4_addRange_52 : decode cX4_addRange 52 = .ok (.iload_n 1, 1) := by decide +kernel
theorem dX4_addRange_53 : decode cX4_addRange 53 = .ok (.istore 7, 2) := by decide +kernel
theorem dX4_addRange_55 : decode cX4_addRange 55 = .ok (.iload 7, 2) := by decide +kernel
theorem dX4_addRange_57 : decode cX4_addRange 57 = .ok (.iload_n 2, 1) := by decide +kernel
theorem dX4_addRange_58 : decode cX4_addRange 58 = .ok (.if_icmp .gt 48, 3) := by decide +kernel
theorem dX4_addRange_61 : decode cX4_addRange 61 = .ok (.aload_n 0, 1) := by decide +kernel
theorem dX4_addRange_62 : decode cX4_addRange 62 = .ok (.aload_n 0, 1) := by decide +kernel
theorem dX4_addRange_63 : decode cX4_addRange 63 = .ok (.iload_n 3, 1) := by decide +kernel
theorem dX4_addRange_64 : decode cX4_addRange 64 = .ok (.invokevirtual 82, 3) := by decide +kernel
theorem dX4_addRange_67 : decode cX4_addRange 67 = .ok (.iload 5, 2) := by decide +kernel
theorem dX4_addRange_69 : decode cX4_addRange 69 = .ok (.iload 6, 2) := by decide +kernel
theorem dX4_addRange_71 : decode cX4_addRange 71 = .ok (.sipush 256, 3) := by decide +kernel
theorem dX4_addRange_74 : decode cX4_addRange 74 = .ok (.iload 7, 2) := by decide +kernel
theorem dX4_addRange_76 : decode cX4_addRange 76 = .ok (.iload_n 2, 1) := by decide +kernel
theorem dX4_addRange_77 : decode cX4_addRange 77 = .ok (.invokestatic 100, 3) := by decide +kernel
theorem dX4_addRange_80 : decode cX4_addRange 80 = .ok (.isub, 1) := by decide +kernel
theorem dX4_addRange_81 : decode cX4_addRange 81 = .ok (.iload 7, 2) := by decide +kernel
theorem dX4_addRange_83 : decode cX4_addRange 83 = .ok (.iload_n 3, 1) := by decide +kernel
theorem dX4_addRange_84 : decode cX4_addRange 84 = .ok (.iload 4, 2) := by decide +kernel
theorem dX4_addRange_86 : decode cX4_addRange 86 = .ok (.invokevirtual 85, 3) := by decide +kernel
theorem dX4_addRange_89 : decode cX4_addRange 89 = .ok (.iinc 6 1, 3) := by decide +kernel
theorem dX4_addRange_92 : decode cX4_addRange 92 = .ok (.iload 7, 2) := by decide +kernel
theorem dX4_addRange_94 : decode cX4_addRange 94 = .ok (.iload 7, 2) := by decide +kernel
theorem dX4_addRange_96 : decode cX4_addRange 96 = .ok (.iload_n 2, 1) := by decide +kernel
theorem dX4_addRange_97 : decode cX4_addRange 97 = .ok (.invokestatic 100, 3) := by decide +kernel
theorem dX4_addRange_100 : decode cX4_addRange 100 = .ok (.iadd, 1) := by decide +kernel
theorem dX4_addRange_101 : decode cX4_addRange 101 = .ok (.istore 7, 2) := by decide +kernel
theorem dX4_addRange_103 : decode cX4_addRange 103 = .ok (.goto (-48), 3) := by decide +kernel
theorem dX4_addRange_106 : decode cX4_addRange 106 = .ok (.aload_n 0, 1) := by decide +kernel
theorem dX4_addRange_107 : decode cX4_addRange 107 = .ok (.getfield 7, 3) := by decide +kernel
theorem dX4_addRange_110 : decode cX4_addRange 110 = .ok (.sipush 225, 3) := by decide +kernel
theorem dX4_addRange_113 : decode cX4_addRange 113 = .ok (.dup2, 1) := by decide +kernel
theorem dX4_addRange_114 : decode cX4_addRange 114 = .ok (.iaload, 1) := by decide +kernel
theorem dX4_addRange_115 : decode cX4_addRange 115 = .ok (.iconst 1, 1) := by decide +kernel
theorem dX4_addRange_116 : decode cX4_addRange 116 = .ok (.iadd, 1) := by decide +kernel
theorem dX4_addRange_117 : decode cX4_addRange 117 = .ok (.iastore, 1) := by decide +kernel
theorem dX4_addRange_118 : decode cX4_addRange 118 = .ok (.iload 5, 2) := by decide +kernel
theorem dX4_addRange_120 : decode cX4_addRange 120 = .ok (.ireturn, 1) := by decide +kernel
theorem dX4_slotWith_0 : decode cX4_slotWith 0 = .ok (.bipush 32, 2) := by decide +kernel
theorem dX4_slotWith_2 : decode cX4_slotWith 2 = .ok (.istore_n 3, 1) := by decide +kernel
theorem dX4_slotWith_3 : decode cX4_slotWith 3 = .ok (.iconst 0, 1) := by decide +kernel
theorem dX4_slotWith_4 : decode cX4_slotWith 4 = .ok (.istore 4, 2) := by decide +kernel
theorem dX4_slotWith_6 : decode cX4_slotWith 6 = .ok (.iload 4, 2) := by decide +kernel
theorem dX4_slotWith_8 : decode cX4_slotWith 8 = .ok (.bipush 32, 2) := by decide +kernel
theorem dX4_slotWith_10 : decode cX4_slotWith 10 = .ok (.if_icmp .ge 49, 3) := by decide +kernel
theorem dX4_slotWith_13 : decode cX4_slotWith 13 = .ok (.aload_n 0, 1) := by decide +kernel
theorem dX4_slotWith_14 : decode cX4_slotWith 14 = .ok (.iload 4, 2) := by decide +kernel
theorem dX4_slotWith_16 : decode cX4_slotWith 16 = .ok (.invokevirtual 51, 3) := by decide +kernel
theorem dX4_slotWith_19 : decode cX4_slotWith 19 = .ok (.ifCond .ne 32, 3) := by decide +kernel
theorem dX4_slotWith_22 : decode cX4_slotWith 22 = .ok (.aload_n 0, 1) := by decide +kernel
theorem dX4_slotWith_23 : decode cX4_slotWith 23 = .ok (.iload 4, 2) := by decide +kernel
theorem dX4_slotWith_25 : decode cX4_slotWith 25 = .ok (.iconst 0, 1) := by decide +kernel
theorem dX4_slotWith_26 : decode cX4_slotWith 26 = .ok (.invokevirtual 55, 3) := by decide +kernel
theorem dX4_slotWith_29 : decode cX4_slotWith 29 = .ok (.iconst 1, 1) := by decide +kernel
theorem dX4_slotWith_30 : decode cX4_slotWith 30 = .ok (.isub, 1) := by decide +kernel
theorem dX4_slotWith_31 : decode cX4_slotWith 31 = .ok (.iload_n 1, 1) := by decide +kernel
theorem dX4_slotWith_32 : decode cX4_slotWith 32 = .ok (.if_icmp .ne 19, 3) := by decide +kernel
theorem dX4_slotWith_35 : decode cX4_slotWith 35 = .ok (.aload_n 0, 1) := by decide +kernel
theorem dX4_slotWith_36 : decode cX4_slotWith 36 = .ok (.iload 4, 2) := by decide +kernel
theorem dX4_slotWith_38 : decode cX4_slotWith 38 = .ok (.iconst 1, 1) := by decide +kernel
theorem dX4_slotWith_39 : decode cX4_slotWith 39 = .ok (.invokevirtual 55, 3) := by decide +kernel
theorem dX4_slotWith_42 : decode cX4_slotWith 42 = .ok (.iload_n 2, 1) := by decide +kernel
theorem dX4_slotWith_43 : decode cX4_slotWith 43 = .ok (.if_icmp .ne 8, 3) := by decide +kernel
theorem dX4_slotWith_46 : decode cX4_slotWith 46 = .ok (.iload 4, 2) := by decide +kernel
theorem dX4_slotWith_48 : decode cX4_slotWith 48 = .ok (.goto 4, 3) := by decide +kernel
theorem dX4_slotWith_51 : decode cX4_slotWith 51 = .ok (.iload_n 3, 1) := by decide +kernel
theorem dX4_slotWith_52 : decode cX4_slotWith 52 = .ok (.istore_n 3, 1) := by decide +kernel
theorem dX4_slotWith_53 : decode cX4_slotWith 53 = .ok (.iinc 4 1, 3) := by decide +kernel
theorem dX4_slotWith_56 : decode cX4_slotWith 56 = .ok (.goto (-50), 3) := by decide +kernel
theorem dX4_slotWith_59 : decode cX4_slotWith 59 = .ok (.iload_n 3, 1) := by decide +kernel
theorem dX4_slotWith_60 : decode cX4_slotWith 60 = .ok (.ireturn, 1) := by decide +kernel
theorem dX4_isRule_0 : decode cX4_isRule 0 = .ok (.aload_n 0, 1) := by decide +kernel
theorem dX4_isRule_1 : decode cX4_isRule 1 = .ok (.iload_n 1, 1) := by decide +kernel
theorem dX4_isRule_2 : decode cX4_isRule 2 = .ok (.iconst 0, 1) := by decide +kernel
theorem dX4_isRule_3 : decode cX4_isRule 3 = .ok (.invokevirtual 109, 3) := by decide +kernel
theorem dX4_isRule_6 : decode cX4_isRule 6 = .ok (.bipush 32, 2) := by decide +kernel
theorem dX4_isRule_8 : decode cX4_isRule 8 = .ok (.if_icmp .ge 7, 3) := by decide +kernel
theorem dX4_isRule_11 : decode cX4_isRule 11 = .ok (.iconst 1, 1) := by decide +kernel
theorem dX4_isRule_12 : decode cX4_isRule 12 = .ok (.goto 4, 3) := by decide +kernel
theorem dX4_isRule_15 : decode cX4_isRule 15 = .ok (.iconst 0, 1) := by decide +kernel
theorem dX4_isRule_16 : decode cX4_isRule 16 = .ok (.ireturn, 1) := by decide +kernel
theorem dX4_partsOf_0 : decode cX4_partsOf 0 = .ok (.iconst 0, 1) := by decide +kernel
theorem dX4_partsOf_1 : decode cX4_partsOf 1 = .ok (.istore_n 2, 1) := by decide +kernel
theorem dX4_partsOf_2 : decode cX4_partsOf 2 = .ok (.iconst 0, 1) := by decide +kernel
theorem dX4_partsOf_3 : decode cX4_partsOf 3 = .ok (.istore_n 3, 1) := by decide +kernel
theorem dX4_partsOf_4 : decode cX4_partsOf 4 = .ok (.iload_n 3, 1) := by decide +kernel
theorem dX4_partsOf_5 : decode cX4_partsOf 5 = .ok (.bipush 32, 2) := by decide +kernel
theorem dX4_partsOf_7 : decode cX4_partsOf 7 = .ok (.if_icmp .ge 37, 3) := by decide +kernel
theorem dX4_partsOf_10 : decode cX4_partsOf 10 = .ok (.iload_n 2, 1) := by decide +kernel
theorem dX4_partsOf_11 : decode cX4_partsOf 11 = .ok (.aload_n 0, 1) := by decide +kernel
theorem dX4_partsOf_12 : decode cX4_partsOf 12 = .ok (.iload_n 3, 1) := by decide +kernel
theorem dX4_partsOf_13 : decode cX4_partsOf 13 = .ok (.invokevirtual 51, 3) := by decide +kernel
theorem dX4_partsOf_16 : decode cX4_partsOf 16 = .ok (.ifCond .ne 19, 3) := by decide +kernel
theorem dX4_partsOf_19 : decode cX4_partsOf 19 = .ok (.aload_n 0, 1) := by decide +kernel
theorem dX4_partsOf_20 : decode cX4_partsOf 20 = .ok (.iload_n 3, 1) := by decide +kernel
theorem dX4_partsOf_21 : decode cX4_partsOf 21 = .ok (.iconst 0, 1) := by decide +kernel
theorem dX4_partsOf_22 : decode cX4_partsOf 22 = .ok (.invokevirtual 55, 3) := by decide +kernel
theorem dX4_partsOf_25 : decode cX4_partsOf 25 = .ok (.iconst 1, 1) := by decide +kernel
theorem dX4_partsOf_26 : decode cX4_partsOf 26 = .ok (.isub, 1) := by decide +kernel
theorem dX4_partsOf_27 : decode cX4_partsOf 27 = .ok (.iload_n 1, 1) := by decide +kernel
theorem dX4_partsOf_28 : decode cX4_partsOf 28 = .ok (.if_icmp .ne 7, 3) := by decide +kernel
theorem dX4_partsOf_31 : decode cX4_partsOf 31 = .ok (.iconst 1, 1) := by decide +kernel
theorem dX4_partsOf_32 : decode cX4_partsOf 32 = .ok (.goto 4, 3) := by decide +kernel
theorem dX4_partsOf_35 : decode cX4_partsOf 35 = .ok (.iconst 0, 1) := by decide +kernel
theorem dX4_partsOf_36 : decode cX4_partsOf 36 = .ok (.iadd, 1) := by decide +kernel
theorem dX4_partsOf_37 : decode cX4_partsOf 37 = .ok (.istore_n 2, 1) := by decide +kernel
theorem dX4_partsOf_38 : decode cX4_partsOf 38 = .ok (.iinc 3 1, 3) := by decide +kernel
theorem dX4_partsOf_41 : decode cX4_partsOf 41 = .ok (.goto (-37), 3) := by decide +kernel
theorem dX4_partsOf_44 : decode cX4_partsOf 44 = .ok (.iload_n 2, 1) := by decide +kernel
theorem dX4_partsOf_45 : decode cX4_partsOf 45 = .ok (.ireturn, 1) := by decide +kernel
theorem dX4_remove_0 : decode cX4_remove 0 = .ok (.aload_n 0, 1) := by decide +kernel
theorem dX4_remove_1 : decode cX4_remove 1 = .ok (.iload_n 1, 1) := by decide +kernel
theorem dX4_remove_2 : decode cX4_remove 2 = .ok (.invokevirtual 112, 3) := by decide +kernel
theorem dX4_remove_5 : decode cX4_remove 5 = .ok (.ifCond .ne 5, 3) := by decide +kernel
theorem dX4_remove_8 : decode cX4_remove 8 = .ok (.iconst (-1), 1) := by decide +kernel
theorem dX4_remove_9 : decode cX4_remove 9 = .ok (.ireturn, 1) := by decide +kernel
theorem dX4_remove_10 : decode cX4_remove 10 = .ok (.aload_n 0, 1) := by decide +kernel
theorem dX4_remove_11 : decode cX4_remove 11 = .ok (.invokevirtual 48, 3) := by decide +kernel
theorem dX4_remove_14 : decode cX4_remove 14 = .ok (.iconst 0, 1) := by decide +kernel
theorem dX4_remove_15 : decode cX4_remove 15 = .ok (.istore_n 2, 1) := by decide +kernel
theorem dX4_remove_16 : decode cX4_remove 16 = .ok (.iconst 0, 1) := by decide +kernel
theorem dX4_remove_17 : decode cX4_remove 17 = .ok (.istore_n 3, 1) := by decide +kernel
theorem dX4_remove_18 : decode cX4_remove 18 = .ok (.iload_n 3, 1) := by decide +kernel
theorem dX4_remove_19 : decode cX4_remove 19 = .ok (.bipush 32, 2) := by decide +kernel
theorem dX4_remove_21 : decode cX4_remove 21 = .ok (.if_icmp .ge 37, 3) := by decide +kernel
theorem dX4_remove_24 : decode cX4_remove 24 = .ok (.aload_n 0, 1) := by decide +kernel
theorem dX4_remove_25 : decode cX4_remove 25 = .ok (.iload_n 3, 1) := by decide +kernel
theorem dX4_remove_26 : decode cX4_remove 26 = .ok (.invokevirtual 51, 3) := by decide +kernel
theorem dX4_remove_29 : decode cX4_remove 29 = .ok (.ifCond .ne 23, 3) := by decide +kernel
theorem dX4_remove_32 : decode cX4_remove 32 = .ok (.aload_n 0, 1) := by decide +kernel
theorem dX4_remove_33 : decode cX4_remove 33 = .ok (.iload_n 3, 1) := by decide +kernel
theorem dX4_remove_34 : decode cX4_remove 34 = .ok (.iconst 0, 1) := by decide +kernel
theorem dX4_remove_35 : decode cX4_remove 35 = .ok (.invokevirtual 55, 3) := by decide +kernel
theorem dX4_remove_38 : decode cX4_remove 38 = .ok (.iconst 1, 1) := by decide +kernel
theorem dX4_remove_39 : decode cX4_remove 39 = .ok (.isub, 1) := by decide +kernel
theorem dX4_remove_40 : decode cX4_remove 40 = .ok (.iload_n 1, 1) := by decide +kernel
theorem dX4_remove_41 : decode cX4_remove 41 = .ok (.if_icmp .ne 11, 3) := by decide +kernel
theorem dX4_remove_44 : decode cX4_remove 44 = .ok (.aload_n 0, 1) := by decide +kernel
theorem dX4_remove_45 : decode cX4_remove 45 = .ok (.iload_n 3, 1) := by decide +kernel
theorem dX4_remove_46 : decode cX4_remove 46 = .ok (.invokevirtual 115, 3) := by decide +kernel
theorem dX4_remove_49 : decode cX4_remove 49 = .ok (.iinc 2 1, 3) := by decide +kernel
theorem dX4_remove_52 : decode cX4_remove 52 = .ok (.iinc 3 1, 3) := by decide +kernel
theorem dX4_remove_55 : decode cX4_remove 55 = .ok (.goto (-37), 3) := by decide +kernel
theorem dX4_remove_58 : decode cX4_remove 58 = .ok (.iload_n 2, 1) := by decide +kernel
theorem dX4_remove_59 : decode cX4_remove 59 = .ok (.ireturn, 1) := by decide +kernel
theorem dX4_setPlacing_0 : decode cX4_setPlacing 0 = .ok (.iload_n 1, 1) := by decide +kernel
theorem dX4_setPlacing_1 : decode cX4_setPlacing 1 = .ok (.iconst 0, 1) := by decide +kernel
theorem dX4_setPlacing_2 : decode cX4_setPlacing 2 = .ok (.iconst 2, 1) := by decide +kernel
theorem dX4_setPlacing_3 : decode cX4_setPlacing 3 = .ok (.invokestatic 28, 3) := by decide +kernel
theorem dX4_setPlacing_6 : decode cX4_setPlacing 6 = .ok (.ifCond .ne 6, 3) := by decide +kernel
theorem dX4_setPlacing_9 : decode cX4_setPlacing 9 = .ok (.bipush (-2), 2) := by decide +kernel
theorem dX4_setPlacing_11 : decode cX4_setPlacing 11 = .ok (.ireturn, 1) := by decide +kernel
theorem dX4_setPlacing_12 : decode cX4_setPlacing 12 = .ok (.aload_n 0, 1) := by decide +kernel
theorem dX4_setPlacing_13 : decode cX4_setPlacing 13 = .ok (.getfield 7, 3) := by decide +kernel
theorem dX4_setPlacing_16 : decode cX4_setPlacing 16 = .ok (.sipush 224, 3) := by decide +kernel
theorem dX4_setPlacing_19 : decode cX4_setPlacing 19 = .ok (.iaload, 1) := by decide +kernel
theorem dX4_setPlacing_20 : decode cX4_setPlacing 20 = .ok (.istore_n 2, 1) := by decide +kernel
theorem dX4_setPlacing_21 : decode cX4_setPlacing 21 = .ok (.iload_n 2, 1) := by decide +kernel
theorem dX4_setPlacing_22 : decode cX4_setPlacing 22 = .ok (.iload_n 1, 1) := by decide +kernel
theorem dX4_setPlacing_23 : decode cX4_setPlacing 23 = .ok (.if_icmp .ne 6, 3) := by decide +kernel
theorem dX4_setPlacing_26 : decode cX4_setPlacing 26 = .ok (.bipush (-4), 2) := by decide +kernel
theorem dX4_setPlacing_28 : decode cX4_setPlacing 28 = .ok (.ireturn, 1) := by decide +kernel
theorem dX4_setPlacing_29 : decode cX4_setPlacing 29 = .ok (.aload_n 0, 1) := by decide +kernel
theorem dX4_setPlacing_30 : decode cX4_setPlacing 30 = .ok (.invokevirtual 48, 3) := by decide +kernel
theorem dX4_setPlacing_33 : decode cX4_setPlacing 33 = .ok (.aload_n 0, 1) := by decide +kernel
theorem dX4_setPlacing_34 : decode cX4_setPlacing 34 = .ok (.getfield 7, 3) := by decide +kernel
theorem dX4_setPlacing_37 : decode cX4_setPlacing 37 = .ok (.sipush 224, 3) := by decide +kernel
theorem dX4_setPlacing_40 : decode cX4_setPlacing 40 = .ok (.iload_n 1, 1) := by decide +kernel
theorem dX4_setPlacing_41 : decode cX4_setPlacing 41 = .ok (.iastore, 1) := by decide +kernel
theorem dX4_setPlacing_42 : decode cX4_setPlacing 42 = .ok (.iload_n 2, 1) := by decide +kernel
theorem dX4_setPlacing_43 : decode cX4_setPlacing 43 = .ok (.ireturn, 1) := by decide +kernel
theorem dX4_target_0 : decode cX4_target 0 = .ok (.iload_n 2, 1) := by decide +kernel
theorem dX4_target_1 : decode cX4_target 1 = .ok (.ifCond .eq 12, 3) := by decide +kernel
theorem dX4_target_4 : decode cX4_target 4 = .ok (.bipush 32, 2) := by decide +kernel
theorem dX4_target_6 : decode cX4_target 6 = .ok (.iload_n 0, 1) := by decide +kernel
theorem dX4_target_7 : decode cX4_target 7 = .ok (.imul, 1) := by decide +kernel
theorem dX4_target_8 : decode cX4_target 8 = .ok (.iload_n 1, 1) := by decide +kernel
theorem dX4_target_9 : decode cX4_target 9 = .ok (.idiv, 1) := by decide +kernel
theorem dX4_target_10 : decode cX4_target 10 = .ok (.goto 4, 3) := by decide +kernel
theorem dX4_target_13 : decode cX4_target 13 = .ok (.iload_n 0, 1) := by decide +kernel
theorem dX4_target_14 : decode cX4_target 14 = .ok (.ireturn, 1) := by decide +kernel
theorem dX4_rearrange_0 : decode cX4_rearrange 0 = .ok (.aload_n 0, 1) := by decide +kernel
theorem dX4_rearrange_1 : decode cX4_rearrange 1 = .ok (.invokevirtual 44, 3) := by decide +kernel
theorem dX4_rearrange_4 : decode cX4_rearrange 4 = .ok (.istore_n 2, 1) := by decide +kernel
theorem dX4_rearrange_5 : decode cX4_rearrange 5 = .ok (.iconst 0, 1) := by decide +kernel
theorem dX4_rearrange_6 : decode cX4_rearrange 6 = .ok (.istore_n 3, 1) := by decide +kernel
theorem dX4_rearrange_7 : decode cX4_rearrange 7 = .ok (.iconst 0, 1) := by decide +kernel
theorem dX4_rearrange_8 : decode cX4_rearrange 8 = .ok (.istore 4, 2) := by decide +kernel
theorem dX4_rearrange_10 : decode cX4_rearrange 10 = .ok (.iconst 0, 1) := by decide +kernel
theorem dX4_rearrange_11 : decode cX4_rearrange 11 = .ok (.istore 5, 2) := by decide +kernel
theorem dX4_rearrange_13 : decode cX4_rearrange 13 = .ok (.iload 5, 2) := by decide +kernel
theorem dX4_rearrange_15 : decode cX4_rearrange 15 = .ok (.bipush 32, 2) := by decide +kernel
theorem dX4_rearrange_17 : decode cX4_rearrange 17 = .ok (.if_icmp .ge 42, 3) := by decide +kernel
theorem dX4_rearrange_20 : decode cX4_rearrange 20 = .ok (.aload_n 0, 1) := by decide +kernel
theorem dX4_rearrange_21 : decode cX4_rearrange 21 = .ok (.iload 5, 2) := by decide +kernel
theorem dX4_rearrange_23 : decode cX4_rearrange 23 = .ok (.invokevirtual 51, 3) := by decide +kernel
theorem dX4_rearrange_26 : decode cX4_rearrange 26 = .ok (.ifCond .ne 27, 3) := by decide +kernel
theorem dX4_rearrange_29 : decode cX4_rearrange 29 = .ok (.iload 4, 2) := by decide +kernel
theorem dX4_rearrange_31 : decode cX4_rearrange 31 = .ok (.iload_n 3, 1) := by decide +kernel
theorem dX4_rearrange_32 : decode cX4_rearrange 32 = .ok (.iload_n 2, 1) := by decide +kernel
theorem dX4_rearrange_33 : decode cX4_rearrange 33 = .ok (.iload_n 1, 1) := by decide +kernel
theorem dX4_rearrange_34 : decode cX4_rearrange 34 = .ok (.invokestatic 119, 3) := by decide +kernel
theorem dX4_rearrange_37 : decode cX4_rearrange 37 = .ok (.iload 5, 2) := by decide +kernel
theorem dX4_rearrange_39 : decode cX4_rearrange 39 = .ok (.if_icmp .ne 7, 3) := by decide +kernel
theorem dX4_rearrange_42 : decode cX4_rearrange 42 = .ok (.iconst 0, 1) := by decide +kernel
theorem dX4_rearrange_43 : decode cX4_rearrange 43 = .ok (.goto 4, 3) := by decide +kernel
theorem dX4_rearrange_46 : decode cX4_rearrange 46 = .ok (.iconst 1, 1) := by decide +kernel
theorem dX4_rearrange_47 : decode cX4_rearrange 47 = .ok (.iadd, 1) := by decide +kernel
theorem dX4_rearrange_48 : decode cX4_rearrange 48 = .ok (.istore 4, 2) := by decide +kernel
theorem dX4_rearrange_50 : decode cX4_rearrange 50 = .ok (.iinc 3 1, 3) := by decide +kernel
theorem dX4_rearrange_53 : decode cX4_rearrange 53 = .ok (.iinc 5 1, 3) := by decide +kernel
theorem dX4_rearrange_56 : decode cX4_rearrange 56 = .ok (.goto (-43), 3) := by decide +kernel
theorem dX4_rearrange_59 : decode cX4_rearrange 59 = .ok (.iload 4, 2) := by decide +kernel
theorem dX4_rearrange_61 : decode cX4_rearrange 61 = .ok (.ifCond .ne 6, 3) := by decide +kernel
theorem dX4_rearrange_64 : decode cX4_rearrange 64 = .ok (.bipush (-4), 2) := by decide +kernel
theorem dX4_rearrange_66 : decode cX4_rearrange 66 = .ok (.ireturn, 1) := by decide +kernel
theorem dX4_rearrange_67 : decode cX4_rearrange 67 = .ok (.aload_n 0, 1) := by decide +kernel
theorem dX4_rearrange_68 : decode cX4_rearrange 68 = .ok (.invokevirtual 48, 3) := by decide +kernel
theorem dX4_rearrange_71 : decode cX4_rearrange 71 = .ok (.aload_n 0, 1) := by decide +kernel
theorem dX4_rearrange_72 : decode cX4_rearrange 72 = .ok (.getfield 7, 3) := by decide +kernel
theorem dX4_rearrange_75 : decode cX4_rearrange 75 = .ok (.iconst 0, 1) := by decide +kernel
theorem dX4_rearrange_76 : decode cX4_rearrange 76 = .ok (.aload_n 0, 1) := by decide +kernel
theorem dX4_rearrange_77 : decode cX4_rearrange 77 = .ok (.getfield 13, 3) := by decide +kernel
theorem dX4_rearrange_80 : decode cX4_rearrange 80 = .ok (.iconst 0, 1) := by decide +kernel
theorem dX4_rearrange_81 : decode cX4_rearrange 81 = .ok (.invokestatic 36, 3) := by decide +kernel
theorem dX4_rearrange_84 : decode cX4_rearrange 84 = .ok (.iconst 0, 1) := by decide +kernel
theorem dX4_rearrange_85 : decode cX4_rearrange 85 = .ok (.istore 5, 2) := by decide +kernel
theorem dX4_rearrange_87 : decode cX4_rearrange 87 = .ok (.iload 5, 2) := by decide +kernel
theorem dX4_rearrange_89 : decode cX4_rearrange 89 = .ok (.bipush 32, 2) := by decide +kernel
theorem dX4_rearrange_91 : decode cX4_rearrange 91 = .ok (.if_icmp .ge 15, 3) := by decide +kernel
theorem dX4_rearrange_94 : decode cX4_rearrange 94 = .ok (.aload_n 0, 1) := by decide +kernel
theorem dX4_rearrange_95 : decode cX4_rearrange 95 = .ok (.iload 5, 2) := by decide +kernel
theorem dX4_rearrange_97 : decode cX4_rearrange 97 = .ok (.invokevirtual 115, 3) := by decide +kernel
theorem dX4_rearrange_100 : decode cX4_rearrange 100 = .ok (.iinc 5 1, 3) := by decide +kernel
theorem dX4_rearrange_103 : decode cX4_rearrange 103 = .ok (.goto (-16), 3) := by decide +kernel
theorem dX4_rearrange_106 : decode cX4_rearrange 106 = .ok (.iconst 0, 1) := by decide +kernel
theorem dX4_rearrange_107 : decode cX4_rearrange 107 = .ok (.istore_n 3, 1) := by decide +kernel
theorem dX4_rearrange_108 : decode cX4_rearrange 108 = .ok (.iconst 0, 1) := by decide +kernel
theorem dX4_rearrange_109 : decode cX4_rearrange 109 = .ok (.istore 5, 2) := by decide +kernel
theorem dX4_rearrange_111 : decode cX4_rearrange 111 = .ok (.iload 5, 2) := by decide +kernel
theorem dX4_rearrange_113 : decode cX4_rearrange 113 = .ok (.bipush 32, 2) := by decide +kernel
theorem dX4_rearrange_115 : decode cX4_rearrange 115 = .ok (.if_icmp .ge 77, 3) := by decide +kernel
theorem dX4_rearrange_118 : decode cX4_rearrange 118 = .ok (.aload_n 0, 1) := by decide +kernel
theorem dX4_rearrange_119 : decode cX4_rearrange 119 = .ok (.getfield 13, 3) := by decide +kernel
theorem dX4_rearrange_122 : decode cX4_rearrange 122 = .ok (.bipush 7, 2) := by decide +kernel
theorem dX4_rearrange_124 : decode cX4_rearrange 124 = .ok (.iload 5, 2) := by decide +kernel
theorem dX4_rearrange_126 : decode cX4_rearrange 126 = .ok (.imul, 1) := by decide +kernel
theorem dX4_rearrange_127 : decode cX4_rearrange 127 = .ok (.iconst 0, 1) := by decide +kernel
theorem dX4_rearrange_128 : decode cX4_rearrange 128 = .ok (.iadd, 1) := by decide +kernel
theorem dX4_rearrange_129 : decode cX4_rearrange 129 = .ok (.iaload, 1) := by decide +kernel
theorem dX4_rearrange_130 : decode cX4_rearrange 130 = .ok (.ifCond .eq 56, 3) := by decide +kernel
theorem dX4_rearrange_133 : decode cX4_rearrange 133 = .ok (.iload_n 3, 1) := by decide +kernel
theorem dX4_rearrange_134 : decode cX4_rearrange 134 = .ok (.iload_n 2, 1) := by decide +kernel
theorem dX4_rearrange_135 : decode cX4_rearrange 135 = .ok (.iload_n 1, 1) := by decide +kernel
theorem dX4_rearrange_136 : decode cX4_rearrange 136 = .ok (.invokestatic 119, 3) := by decide +kernel
theorem dX4_rearrange_139 : decode cX4_rearrange 139 = .ok (.istore 6, 2) := by decide +kernel
theorem dX4_rearrange_141 : decode cX4_rearrange 141 = .ok (.iconst 0, 1) := by decide +kernel
theorem dX4_rearrange_142 : decode cX4_rearrange 142 = .ok (.istore 7, 2) := by decide +kernel
theorem dX4_rearrange_144 : decode cX4_rearrange 144 = .ok (.iload 7, 2) := by decide +kernel
theorem dX4_rearrange_146 : decode cX4_rearrange 146 = .ok (.bipush 7, 2) := by decide +kernel
theorem dX4_rearrange_148 : decode cX4_rearrange 148 = .ok (.if_icmp .ge 35, 3) := by decide +kernel
theorem dX4_rearrange_151 : decode cX4_rearrange 151 = .ok (.aload_n 0, 1) := by decide +kernel
theorem dX4_rearrange_152 : decode cX4_rearrange 152 = .ok (.getfield 7, 3) := by decide +kernel
theorem dX4_rearrange_155 : decode cX4_rearrange 155 = .ok (.bipush 7, 2) := by decide +kernel
theorem dX4_rearrange_157 : decode cX4_rearrange 157 = .ok (.iload 6, 2) := by decide +kernel
theorem dX4_rearrange_159 : decode cX4_rearrange 159 = .ok (.imul, 1) := by decide +kernel
theorem dX4_rearrange_160 : decode cX4_rearrange 160 = .ok (.iload 7, 2) := by decide +kernel
theorem dX4_rearrange_162 : decode cX4_rearrange 162 = .ok (.iadd, 1) := by decide +kernel
theorem dX4_rearrange_163 : decode cX4_rearrange 163 = .ok (.aload_n 0, 1) := by decide +kernel
theorem dX4_rearrange_164 : decode cX4_rearrange 164 = .ok (.getfield 13, 3) := by decide +kernel
theorem dX4_rearrange_167 : decode cX4_rearrange 167 = .ok (.bipush 7, 2) := by decide +kernel
theorem dX4_rearrange_169 : decode cX4_rearrange 169 = .ok (.iload 5, 2) := by decide +kernel
theorem dX4_rearrange_171 : decode cX4_rearrange 171 = .ok (.imul, 1) := by decide +kernel
theorem dX4_rearrange_172 : decode cX4_rearrange 172 = .ok (.iload 7, 2) := by decide +kernel
theorem dX4_rearrange_174 : decode cX4_rearrange 174 = .ok (.iadd, 1) := by decide +kernel
theorem dX4_rearrange_175 : decode cX4_rearrange 175 = .ok (.iaload, 1) := by decide +kernel
theorem dX4_rearrange_176 : decode cX4_rearrange 176 = .ok (.iastore, 1) := by decide +kernel
theorem dX4_rearrange_177 : decode cX4_rearrange 177 = .ok (.iinc 7 1, 3) := by decide +kernel
theorem dX4_rearrange_180 : decode cX4_rearrange 180 = .ok (.goto (-36), 3) := by decide +kernel
theorem dX4_rearrange_183 : decode cX4_rearrange 183 = .ok (.iinc 3 1, 3) := by decide +kernel
theorem dX4_rearrange_186 : decode cX4_rearrange 186 = .ok (.iinc 5 1, 3) := by decide +kernel
theorem dX4_rearrange_189 : decode cX4_rearrange 189 = .ok (.goto (-78), 3) := by decide +kernel
theorem dX4_rearrange_192 : decode cX4_rearrange 192 = .ok (.aload_n 0, 1) := by decide +kernel
theorem dX4_rearrange_193 : decode cX4_rearrange 193 = .ok (.getfield 7, 3) := by decide +kernel
theorem dX4_rearrange_196 : decode cX4_rearrange 196 = .ok (.sipush 226, 3) := by decide +kernel
theorem dX4_rearrange_199 : decode cX4_rearrange 199 = .ok (.dup2, 1) := by decide +kernel
theorem dX4_rearrange_200 : decode cX4_rearrange 200 = .ok (.iaload, 1) := by decide +kernel
theorem dX4_rearrange_201 : decode cX4_rearrange 201 = .ok (.iload 4, 2) := by decide +kernel
theorem dX4_rearrange_203 : decode cX4_rearrange 203 = .ok (.iadd, 1) := by decide +kernel
theorem dX4_rearrange_204 : decode cX4_rearrange 204 = .ok (.iastore, 1) := by decide +kernel
theorem dX4_rearrange_205 : decode cX4_rearrange 205 = .ok (.iload 4, 2) := by decide +kernel
theorem dX4_rearrange_207 : decode cX4_rearrange 207 = .ok (.ireturn, 1) := by decide +kernel
theorem dX4_compact_0 : decode cX4_compact 0 = .ok (.aload_n 0, 1) := by decide +kernel
theorem dX4_compact_1 : decode cX4_compact 1 = .ok (.iconst 0, 1) := by decide +kernel
theorem dX4_compact_2 : decode cX4_compact 2 = .ok (.invokevirtual 123, 3) := by decide +kernel
theorem dX4_compact_5 : decode cX4_compact 5 = .ok (.ireturn, 1) := by decide +kernel
theorem dX4_spread_0 : decode cX4_spread 0 = .ok (.aload_n 0, 1) := by decide +kernel
theorem dX4_spread_1 : decode cX4_spread 1 = .ok (.iconst 1, 1) := by decide +kernel
theorem dX4_spread_2 : decode cX4_spread 2 = .ok (.invokevirtual 123, 3) := by decide +kernel
theorem dX4_spread_5 : decode cX4_spread 5 = .ok (.ireturn, 1) := by decide +kernel
theorem dX4_matches_0 : decode cX4_matches 0 = .ok (.aload_n 0, 1) := by decide +kernel
theorem dX4_matches_1 : decode cX4_matches 1 = .ok (.iload_n 1, 1) := by decide +kernel
theorem dX4_matches_2 : decode cX4_matches 2 = .ok (.invokevirtual 51, 3) := by decide +kernel
theorem dX4_matches_5 : decode cX4_matches 5 = .ok (.ifCond .ne 24, 3) := by decide +kernel
theorem dX4_matches_8 : decode cX4_matches 8 = .ok (.iload_n 2, 1) := by decide +kernel
theorem dX4_matches_9 : decode cX4_matches 9 = .ok (.aload_n 0, 1) := by decide +kernel
theorem dX4_matches_10 : decode cX4_matches 10 = .ok (.iload_n 1, 1) := by decide +kernel
theorem dX4_matches_11 : decode cX4_matches 11 = .ok (.iconst 2, 1) := by decide +kernel
theorem dX4_matches_12 : decode cX4_matches 12 = .ok (.invokevirtual 55, 3) := by decide +kernel
theorem dX4_matches_15 : decode cX4_matches 15 = .ok (.iand, 1) := by decide +kernel
theorem dX4_matches_16 : decode cX4_matches 16 = .ok (.aload_n 0, 1) := by decide +kernel
theorem dX4_matches_17 : decode cX4_matches 17 = .ok (.iload_n 1, 1) := by decide +kernel
theorem dX4_matches_18 : decode cX4_matches 18 = .ok (.iconst 3, 1) := by decide +kernel
theorem dX4_matches_19 : decode cX4_matches 19 = .ok (.invokevirtual 55, 3) := by decide +kernel
theorem dX4_matches_22 : decode cX4_matches 22 = .ok (.if_icmp .ne 7, 3) := by decide +kernel
theorem dX4_matches_25 : decode cX4_matches 25 = .ok (.iconst 1, 1) := by decide +kernel
theorem dX4_matches_26 : decode cX4_matches 26 = .ok (.goto 4, 3) := by decide +kernel
theorem dX4_matches_29 : decode cX4_matches 29 = .ok (.iconst 0, 1) := by decide +kernel
theorem dX4_matches_30 : decode cX4_matches 30 = .ok (.ireturn, 1) := by decide +kernel
theorem dX4_slotFor_0 : decode cX4_slotFor 0 = .ok (.iconst 0, 1) := by decide +kernel
theorem dX4_slotFor_1 : decode cX4_slotFor 1 = .ok (.istore_n 2, 1) := by decide +kernel
theorem dX4_slotFor_2 : decode cX4_slotFor 2 = .ok (.iload_n 2, 1) := by decide +kernel
theorem dX4_slotFor_3 : decode cX4_slotFor 3 = .ok (.bipush 32, 2) := by decide +kernel
theorem dX4_slotFor_5 : decode cX4_slotFor 5 = .ok (.if_icmp .ge 18, 3) := by decide +kernel
theorem dX4_slotFor_8 : decode cX4_slotFor 8 = .ok (.aload_n 0, 1) := by decide +kernel
theorem dX4_slotFor_9 : decode cX4_slotFor 9 = .ok (.iload_n 2, 1) := by decide +kernel
theorem dX4_slotFor_10 : decode cX4_slotFor 10 = .ok (.iload_n 1, 1) := by decide +kernel
theorem dX4_slotFor_11 : decode cX4_slotFor 11 = .ok (.invokevirtual 127, 3) := by decide +kernel
theorem dX4_slotFor_14 : decode cX4_slotFor 14 = .ok (.ifCond .ne 9, 3) := by decide +kernel
theorem dX4_slotFor_17 : decode cX4_slotFor 17 = .ok (.iinc 2 1, 3) := by decide +kernel
theorem dX4_slotFor_20 : decode cX4_slotFor 20 = .ok (.goto (-18), 3) := by decide +kernel
theorem dX4_slotFor_23 : decode cX4_slotFor 23 = .ok (.iload_n 2, 1) := by decide +kernel
theorem dX4_slotFor_24 : decode cX4_slotFor 24 = .ok (.ireturn, 1) := by decide +kernel
theorem dX4_entriesIn_0 : decode cX4_entriesIn 0 = .ok (.iconst 0, 1) := by decide +kernel
theorem dX4_entriesIn_1 : decode cX4_entriesIn 1 = .ok (.istore_n 2, 1) := by decide +kernel
theorem dX4_entriesIn_2 : decode cX4_entriesIn 2 = .ok (.iconst 0, 1) := by decide +kernel
theorem dX4_entriesIn_3 : decode cX4_entriesIn 3 = .ok (.istore_n 3, 1) := by decide +kernel
theorem dX4_entriesIn_4 : decode cX4_entriesIn 4 = .ok (.iload_n 3, 1) := by decide +kernel
theorem dX4_entriesIn_5 : decode cX4_entriesIn 5 = .ok (.bipush 8, 2) := by decide +kernel
theorem dX4_entriesIn_7 : decode cX4_entriesIn 7 = .ok (.if_icmp .ge 30, 3) := by decide +kernel
theorem dX4_entriesIn_10 : decode cX4_entriesIn 10 = .ok (.iload_n 2, 1) := by decide +kernel
theorem dX4_entriesIn_11 : decode cX4_entriesIn 11 = .ok (.aload_n 0, 1) := by decide +kernel
theorem dX4_entriesIn_12 : decode cX4_entriesIn 12 = .ok (.bipush 8, 2) := by decide +kernel
theorem dX4_entriesIn_14 : decode cX4_entriesIn 14 = .ok (.iload_n 1, 1) := by decide +kernel
theorem dX4_entriesIn_15 : decode cX4_entriesIn 15 = .ok (.imul, 1) := by decide +kernel
theorem dX4_entriesIn_16 : decode cX4_entriesIn 16 = .ok (.iload_n 3, 1) := by decide +kernel
theorem dX4_entriesIn_17 : decode cX4_entriesIn 17 = .ok (.iadd, 1) := by decide +kernel
theorem dX4_entriesIn_18 : decode cX4_entriesIn 18 = .ok (.invokevirtual 51, 3) := by decide +kernel
theorem dX4_entriesIn_21 : decode cX4_entriesIn 21 = .ok (.ifCond .eq 7, 3) := by decide +kernel
theorem dX4_entriesIn_24 : decode cX4_entriesIn 24 = .ok (.iconst 0, 1) := by decide +kernel
theorem dX4_entriesIn_25 : decode cX4_entriesIn 25 = .ok (.goto 4, 3) := by decide +kernel
theorem dX4_entriesIn_28 : decode cX4_entriesIn 28 = .ok (.iconst 1, 1) := by decide +kernel
theorem dX4_entriesIn_29 : decode cX4_entriesIn 29 = .ok (.iadd, 1) := by decide +kernel
theorem dX4_entriesIn_30 : decode cX4_entriesIn 30 = .ok (.istore_n 2, 1) := by decide +kernel
theorem dX4_entriesIn_31 : decode cX4_entriesIn 31 = .ok (.iinc 3 1, 3) := by decide +kernel
theorem dX4_entriesIn_34 : decode cX4_entriesIn 34 = .ok (.goto (-30), 3) := by decide +kernel
theorem dX4_entriesIn_37 : decode cX4_entriesIn 37 = .ok (.iload_n 2, 1) := by decide +kernel
theorem dX4_entriesIn_38 : decode cX4_entriesIn 38 = .ok (.ireturn, 1) := by decide +kernel
theorem dX4_filter_0 : decode cX4_filter 0 = .ok (.aload_n 0, 1) := by decide +kernel
theorem dX4_filter_1 : decode cX4_filter 1 = .ok (.iload_n 1, 1) := by decide +kernel
theorem dX4_filter_2 : decode cX4_filter 2 = .ok (.invokevirtual 130, 3) := by decide +kernel
theorem dX4_filter_5 : decode cX4_filter 5 = .ok (.istore_n 3, 1) := by decide +kernel
theorem dX4_filter_6 : decode cX4_filter 6 = .ok (.iconst 0, 1) := by decide +kernel
theorem dX4_filter_7 : decode cX4_filter 7 = .ok (.istore 4, 2) := by decide +kernel
theorem dX4_filter_9 : decode cX4_filter 9 = .ok (.iconst 0, 1) := by decide +kernel
theorem dX4_filter_10 : decode cX4_filter 10 = .ok (.istore 5, 2) := by decide +kernel
theorem dX4_filter_12 : decode cX4_filter 12 = .ok (.iload 5, 2) := by decide +kernel
theorem dX4_filter_14 : decode cX4_filter 14 = .ok (.bipush 8, 2) := by decide +kernel
theorem dX4_filter_16 : decode cX4_filter 16 = .ok (.if_icmp .ge 167, 3) := by decide +kernel
theorem dX4_filter_19 : decode cX4_filter 19 = .ok (.iload_n 3, 1) := by decide +kernel
theorem dX4_filter_20 : decode cX4_filter 20 = .ok (.ifCond .le 163, 3) := by decide +kernel
theorem dX4_filter_23 : decode cX4_filter 23 = .ok (.iconst 0, 1) := by decide +kernel
theorem dX4_filter_24 : decode cX4_filter 24 = .ok (.istore 6, 2) := by decide +kernel
theorem dX4_filter_26 : decode cX4_filter 26 = .ok (.iconst 0, 1) := by decide +kernel
theorem dX4_filter_27 : decode cX4_filter 27 = .ok (.istore 7, 2) := by decide +kernel
theorem dX4_filter_29 : decode cX4_filter 29 = .ok (.bipush 8, 2) := by decide +kernel
theorem dX4_filter_31 : decode cX4_filter 31 = .ok (.iload_n 1, 1) := by decide +kernel
theorem dX4_filter_32 : decode cX4_filter 32 = .ok (.imul, 1) := by decide +kernel
theorem dX4_filter_33 : decode cX4_filter 33 = .ok (.istore 8, 2) := by decide +kernel
theorem dX4_filter_35 : decode cX4_filter 35 = .ok (.iload 8, 2) := by decide +kernel
theorem dX4_filter_37 : decode cX4_filter 37 = .ok (.bipush 8, 2) := by decide +kernel
theorem dX4_filter_39 : decode cX4_filter 39 = .ok (.iload_n 1, 1) := by decide +kernel
theorem dX4_filter_40 : decode cX4_filter 40 = .ok (.imul, 1) := by decide +kernel
theorem dX4_filter_41 : decode cX4_filter 41 = .ok (.bipush 8, 2) := by decide +kernel
theorem dX4_filter_43 : decode cX4_filter 43 = .ok (.iadd, 1) := by decide +kernel
theorem dX4_filter_44 : decode cX4_filter 44 = .ok (.if_icmp .ge 104, 3) := by decide +kernel
theorem dX4_filter_47 : decode cX4_filter 47 = .ok (.aload_n 0, 1) := by decide +kernel
theorem dX4_filter_48 : decode cX4_filter 48 = .ok (.iload 8, 2) := by decide +kernel
theorem dX4_filter_50 : decode cX4_filter 50 = .ok (.invokevirtual 51, 3) := by decide +kernel
theorem dX4_filter_53 : decode cX4_filter 53 = .ok (.ifCond .ne 23, 3) := by decide +kernel
theorem dX4_filter_56 : decode cX4_filter 56 = .ok (.aload_n 0, 1) := by decide +kernel
theorem dX4_filter_57 : decode cX4_filter 57 = .ok (.iload 8, 2) := by decide +kernel
theorem dX4_filter_59 : decode cX4_filter 59 = .ok (.iconst 2, 1) := by decide +kernel
theorem dX4_filter_60 : decode cX4_filter 60 = .ok (.invokevirtual 55, 3) := by decide +kernel
theorem dX4_filter_63 : decode cX4_filter 63 = .ok (.iload 5, 2) := by decide +kernel
theorem dX4_filter_65 : decode cX4_filter 65 = .ok (.ishr, 1) := by decide +kernel
theorem dX4_filter_66 : decode cX4_filter 66 = .ok (.iconst 1, 1) := by decide +kernel
theorem dX4_filter_67 : decode cX4_filter 67 = .ok (.iand, 1) := by decide +kernel
theorem dX4_filter_68 : decode cX4_filter 68 = .ok (.iconst 1, 1) := by decide +kernel
theorem dX4_filter_69 : decode cX4_filter 69 = .ok (.if_icmp .ne 7, 3) := by decide +kernel
theorem dX4_filter_72 : decode cX4_filter 72 = .ok (.iconst 1, 1) := by decide +kernel
theorem dX4_filter_73 : decode cX4_filter 73 = .ok (.goto 4, 3) := by decide +kernel
theorem dX4_filter_76 : decode cX4_filter 76 = .ok (.iconst 0, 1) := by decide +kernel
theorem dX4_filter_77 : decode cX4_filter 77 = .ok (.istore 9, 2) := by decide +kernel
theorem dX4_filter_79 : decode cX4_filter 79 = .ok (.aload_n 0, 1) := by decide +kernel
theorem dX4_filter_80 : decode cX4_filter 80 = .ok (.iload 8, 2) := by decide +kernel
theorem dX4_filter_82 : decode cX4_filter 82 = .ok (.iconst 3, 1) := by decide +kernel
theorem dX4_filter_83 : decode cX4_filter 83 = .ok (.invokevirtual 55, 3) := by decide +kernel
theorem dX4_filter_86 : decode cX4_filter 86 = .ok (.iload 5, 2) := by decide +kernel
theorem dX4_filter_88 : decode cX4_filter 88 = .ok (.ishr, 1) := by decide +kernel
theorem dX4_filter_89 : decode cX4_filter 89 = .ok (.iconst 1, 1) := by decide +kernel
theorem dX4_filter_90 : decode cX4_filter 90 = .ok (.iand, 1) := by decide +kernel
theorem dX4_filter_91 : decode cX4_filter 91 = .ok (.iconst 1, 1) := by decide +kernel
theorem dX4_filter_92 : decode cX4_filter 92 = .ok (.if_icmp .ne 7, 3) := by decide +kernel
theorem dX4_filter_95 : decode cX4_filter 95 = .ok (.iconst 1, 1) := by decide +kernel
theorem dX4_filter_96 : decode cX4_filter 96 = .ok (.goto 4, 3) := by decide +kernel
theorem dX4_filter_99 : decode cX4_filter 99 = .ok (.iconst 0, 1) := by decide +kernel
theorem dX4_filter_100 : decode cX4_filter 100 = .ok (.istore 10, 2) := by decide +kernel
theorem dX4_filter_102 : decode cX4_filter 102 = .ok (.iload 7, 2) := by decide +kernel
theorem dX4_filter_104 : decode cX4_filter 104 = .ok (.iload 9, 2) := by decide +kernel
theorem dX4_filter_106 : decode cX4_filter 106 = .ok (.ifCond .eq 12, 3) := by decide +kernel
theorem dX4_filter_109 : decode cX4_filter 109 = .ok (.iload 10, 2) := by decide +kernel
theorem dX4_filter_111 : decode cX4_filter 111 = .ok (.ifCond .eq 7, 3) := by decide +kernel
theorem dX4_filter_114 : decode cX4_filter 114 = .ok (.iconst 1, 1) := by decide +kernel
theorem dX4_filter_115 : decode cX4_filter 115 = .ok (.goto 4, 3) := by decide +kernel
theorem dX4_filter_118 : decode cX4_filter 118 = .ok (.iconst 0, 1) := by decide +kernel
theorem dX4_filter_119 : decode cX4_filter 119 = .ok (.iadd, 1) := by decide +kernel
theorem dX4_filter_120 : decode cX4_filter 120 = .ok (.istore 7, 2) := by decide +kernel
theorem dX4_filter_122 : decode cX4_filter 122 = .ok (.iload 6, 2) := by decide +kernel
theorem dX4_filter_124 : decode cX4_filter 124 = .ok (.iload 9, 2) := by decide +kernel
theorem dX4_filter_126 : decode cX4_filter 126 = .ok (.ifCond .eq 12, 3) := by decide +kernel
theorem dX4_filter_129 : decode cX4_filter 129 = .ok (.iload 10, 2) := by decide +kernel
theorem dX4_filter_131 : decode cX4_filter 131 = .ok (.ifCond .ne 7, 3) := by decide +kernel
theorem dX4_filter_134 : decode cX4_filter 134 = .ok (.iconst 1, 1) := by decide +kernel
theorem dX4_filter_135 : decode cX4_filter 135 = .ok (.goto 4, 3) := by decide +kernel
theorem dX4_filter_138 : decode cX4_filter 138 = .ok (.iconst 0, 1) := by decide +kernel
theorem dX4_filter_139 : decode cX4_filter 139 = .ok (.iadd, 1) := by decide +kernel
theorem dX4_filter_140 : decode cX4_filter 140 = .ok (.istore 6, 2) := by decide +kernel
theorem dX4_filter_142 : decode cX4_filter 142 = .ok (.iinc 8 1, 3) := by decide +kernel
theorem dX4_filter_145 : decode cX4_filter 145 = .ok (.goto (-110), 3) := by decide +kernel
theorem dX4_filter_148 : decode cX4_filter 148 = .ok (.iload 4, 2) := by decide +kernel
theorem dX4_filter_150 : decode cX4_filter 150 = .ok (.iload 7, 2) := by decide +kernel
theorem dX4_filter_152 : decode cX4_filter 152 = .ok (.iload_n 3, 1) := by decide +kernel
theorem dX4_filter_153 : decode cX4_filter 153 = .ok (.if_icmp .eq 13, 3) := by decide +kernel
theorem dX4_filter_156 : decode cX4_filter 156 = .ok (.iload_n 2, 1) := by decide +kernel
theorem dX4_filter_157 : decode cX4_filter 157 = .ok (.ifCond .ne 16, 3) := by decide +kernel
theorem dX4_filter_160 : decode cX4_filter 160 = .ok (.iload 6, 2) := by decide +kernel
theorem dX4_filter_162 : decode cX4_filter 162 = .ok (.iload_n 3, 1) := by decide +kernel
theorem dX4_filter_163 : decode cX4_filter 163 = .ok (.if_icmp .ne 10, 3) := by decide +kernel
theorem dX4_filter_166 : decode cX4_filter 166 = .ok (.iconst 1, 1) := by decide +kernel
theorem dX4_filter_167 : decode cX4_filter 167 = .ok (.iload 5, 2) := by decide +kernel
theorem dX4_filter_169 : decode cX4_filter 169 = .ok (.ishl, 1) := by decide +kernel
theorem dX4_filter_170 : decode cX4_filter 170 = .ok (.goto 4, 3) := by decide +kernel
theorem dX4_filter_173 : decode cX4_filter 173 = .ok (.iconst 0, 1) := by decide +kernel
theorem dX4_filter_174 : decode cX4_filter 174 = .ok (.ior, 1) := by decide +kernel
theorem dX4_filter_175 : decode cX4_filter 175 = .ok (.istore 4, 2) := by decide +kernel
theorem dX4_filter_177 : decode cX4_filter 177 = .ok (.iinc 5 1, 3) := by decide +kernel
theorem dX4_filter_180 : decode cX4_filter 180 = .ok (.goto (-168), 3) := by decide +kernel
theorem dX4_filter_183 : decode cX4_filter 183 = .ok (.iload 4, 2) := by decide +kernel
theorem dX4_filter_185 : decode cX4_filter 185 = .ok (.ireturn, 1) := by decide +kernel
theorem dX4_powerOf_0 : decode cX4_powerOf 0 = .ok (.iconst 0, 1) := by decide +kernel
theorem dX4_powerOf_1 : decode cX4_powerOf 1 = .ok (.istore_n 2, 1) := by decide +kernel
theorem dX4_powerOf_2 : decode cX4_powerOf 2 = .ok (.iconst 0, 1) := by decide +kernel
theorem dX4_powerOf_3 : decode cX4_powerOf 3 = .ok (.istore_n 3, 1) := by decide +kernel
theorem dX4_powerOf_4 : decode cX4_powerOf 4 = .ok (.iload_n 3, 1) := by decide +kernel
theorem dX4_powerOf_5 : decode cX4_powerOf 5 = .ok (.iconst 4, 1) := by decide +kernel
theorem dX4_powerOf_6 : decode cX4_powerOf 6 = .ok (.if_icmp .ge 38, 3) := by decide +kernel
theorem dX4_powerOf_9 : decode cX4_powerOf 9 = .ok (.iload_n 2, 1) := by decide +kernel
theorem dX4_powerOf_10 : decode cX4_powerOf 10 = .ok (.iload_n 1, 1) := by decide +kernel
theorem dX4_powerOf_11 : decode cX4_powerOf 11 = .ok (.aload_n 0, 1) := by decide +kernel
theorem dX4_powerOf_12 : decode cX4_powerOf 12 = .ok (.iload_n 3, 1) := by decide +kernel
theorem dX4_powerOf_13 : decode cX4_powerOf 13 = .ok (.iconst 0, 1) := by decide +kernel
theorem dX4_powerOf_14 : decode cX4_powerOf 14 = .ok (.invokevirtual 133, 3) := by decide +kernel
theorem dX4_powerOf_17 : decode cX4_powerOf 17 = .ok (.iand, 1) := by decide +kernel
theorem dX4_powerOf_18 : decode cX4_powerOf 18 = .ok (.aload_n 0, 1) := by decide +kernel
theorem dX4_powerOf_19 : decode cX4_powerOf 19 = .ok (.iload_n 3, 1) := by decide +kernel
theorem dX4_powerOf_20 : decode cX4_powerOf 20 = .ok (.iconst 1, 1) := by decide +kernel
theorem dX4_powerOf_21 : decode cX4_powerOf 21 = .ok (.invokevirtual 133, 3) := by decide +kernel
theorem dX4_powerOf_24 : decode cX4_powerOf 24 = .ok (.if_icmp .ne 11, 3) := by decide +kernel
theorem dX4_powerOf_27 : decode cX4_powerOf 27 = .ok (.aload_n 0, 1) := by decide +kernel
theorem dX4_powerOf_28 : decode cX4_powerOf 28 = .ok (.iload_n 3, 1) := by decide +kernel
theorem dX4_powerOf_29 : decode cX4_powerOf 29 = .ok (.invokevirtual 130, 3) := by decide +kernel
theorem dX4_powerOf_32 : decode cX4_powerOf 32 = .ok (.goto 4, 3) := by decide +kernel
theorem dX4_powerOf_35 : decode cX4_powerOf 35 = .ok (.iconst 0, 1) := by decide +kernel
theorem dX4_powerOf_36 : decode cX4_powerOf 36 = .ok (.iadd, 1) := by decide +kernel
theorem dX4_powerOf_37 : decode cX4_powerOf 37 = .ok (.istore_n 2, 1) := by decide +kernel
theorem dX4_powerOf_38 : decode cX4_powerOf 38 = .ok (.iinc 3 1, 3) := by decide +kernel
theorem dX4_powerOf_41 : decode cX4_powerOf 41 = .ok (.goto (-37), 3) := by decide +kernel
theorem dX4_powerOf_44 : decode cX4_powerOf 44 = .ok (.iload_n 2, 1) := by decide +kernel
theorem dX4_powerOf_45 : decode cX4_powerOf 45 = .ok (.ireturn, 1) := by decide +kernel
theorem dX4_search_0 : decode cX4_search 0 = .ok (.iload_n 1, 1) := by decide +kernel
theorem dX4_search_1 : decode cX4_search 1 = .ok (.invokestatic 79, 3) := by decide +kernel
theorem dX4_search_4 : decode cX4_search 4 = .ok (.ifCond .ne 6, 3) := by decide +kernel
theorem dX4_search_7 : decode cX4_search 7 = .ok (.bipush (-2), 2) := by decide +kernel
theorem dX4_search_9 : decode cX4_search 9 = .ok (.ireturn, 1) := by decide +kernel
theorem dX4_search_10 : decode cX4_search 10 = .ok (.aload_n 0, 1) := by decide +kernel
theorem dX4_search_11 : decode cX4_search 11 = .ok (.iload_n 1, 1) := by decide +kernel
theorem dX4_search_12 : decode cX4_search 12 = .ok (.invokevirtual 137, 3) := by decide +kernel
theorem dX4_search_15 : decode cX4_search 15 = .ok (.istore_n 2, 1) := by decide +kernel
theorem dX4_search_16 : decode cX4_search 16 = .ok (.iload_n 2, 1) := by decide +kernel
theorem dX4_search_17 : decode cX4_search 17 = .ok (.bipush 32, 2) := by decide +kernel
theorem dX4_search_19 : decode cX4_search 19 = .ok (.if_icmp .ne 6, 3) := by decide +kernel
theorem dX4_search_22 : decode cX4_search 22 = .ok (.bipush (-4), 2) := by decide +kernel
theorem dX4_search_24 : decode cX4_search 24 = .ok (.ireturn, 1) := by decide +kernel
theorem dX4_search_25 : decode cX4_search 25 = .ok (.aload_n 0, 1) := by decide +kernel
theorem dX4_search_26 : decode cX4_search 26 = .ok (.invokevirtual 48, 3) := by decide +kernel
theorem dX4_search_29 : decode cX4_search 29 = .ok (.aload_n 0, 1) := by decide +kernel
theorem dX4_search_30 : decode cX4_search 30 = .ok (.getfield 7, 3) := by decide +kernel
theorem dX4_search_33 : decode cX4_search 33 = .ok (.sipush 227, 3) := by decide +kernel
theorem dX4_search_36 : decode cX4_search 36 = .ok (.dup2, 1) := by decide +kernel
theorem dX4_search_37 : decode cX4_search 37 = .ok (.iaload, 1) := by decide +kernel
theorem dX4_search_38 : decode cX4_search 38 = .ok (.iconst 1, 1) := by decide +kernel
theorem dX4_search_39 : decode cX4_search 39 = .ok (.iadd, 1) := by decide +kernel
theorem dX4_search_40 : decode cX4_search 40 = .ok (.iastore, 1) := by decide +kernel
theorem dX4_search_41 : decode cX4_search 41 = .ok (.aload_n 0, 1) := by decide +kernel
theorem dX4_search_42 : decode cX4_search 42 = .ok (.getfield 7, 3) := by decide +kernel
theorem dX4_search_45 : decode cX4_search 45 = .ok (.sipush 228, 3) := by decide +kernel
theorem dX4_search_48 : decode cX4_search 48 = .ok (.dup2, 1) := by decide +kernel
theorem dX4_search_49 : decode cX4_search 49 = .ok (.iaload, 1) := by decide +kernel
theorem dX4_search_50 : decode cX4_search 50 = .ok (.aload_n 0, 1) := by decide +kernel
theorem dX4_search_51 : decode cX4_search 51 = .ok (.iload_n 1, 1) := by decide +kernel
theorem dX4_search_52 : decode cX4_search 52 = .ok (.invokevirtual 140, 3) := by decide +kernel
theorem dX4_search_55 : decode cX4_search 55 = .ok (.iadd, 1) := by decide +kernel
theorem dX4_search_56 : decode cX4_search 56 = .ok (.iastore, 1) := by decide +kernel
theorem dX4_search_57 : decode cX4_search 57 = .ok (.aload_n 0, 1) := by decide +kernel
theorem dX4_search_58 : decode cX4_search 58 = .ok (.getfield 7, 3) := by decide +kernel
theorem dX4_search_61 : decode cX4_search 61 = .ok (.bipush 7, 2) := by decide +kernel
theorem dX4_search_63 : decode cX4_search 63 = .ok (.aload_n 0, 1) := by decide +kernel
theorem dX4_search_64 : decode cX4_search 64 = .ok (.aload_n 0, 1) := by decide +kernel
theorem dX4_search_65 : decode cX4_search 65 = .ok (.iload_n 2, 1) := by decide +kernel
theorem dX4_search_66 : decode cX4_search 66 = .ok (.iconst 0, 1) := by decide +kernel
theorem dX4_search_67 : decode cX4_search 67 = .ok (.invokevirtual 55, 3) := by decide +kernel
theorem dX4_search_70 : decode cX4_search 70 = .ok (.iconst 1, 1) := by decide +kernel
theorem dX4_search_71 : decode cX4_search 71 = .ok (.isub, 1) := by decide +kernel
theorem dX4_search_72 : decode cX4_search 72 = .ok (.iconst 0, 1) := by decide +kernel
theorem dX4_search_73 : decode cX4_search 73 = .ok (.invokevirtual 109, 3) := by decide +kernel
theorem dX4_search_76 : decode cX4_search 76 = .ok (.imul, 1) := by decide +kernel
theorem dX4_search_77 : decode cX4_search 77 = .ok (.bipush 6, 2) := by decide +kernel
theorem dX4_search_79 : decode cX4_search 79 = .ok (.iadd, 1) := by decide +kernel
theorem dX4_search_80 : decode cX4_search 80 = .ok (.dup2, 1) := by decide +kernel
theorem dX4_search_81 : decode cX4_search 81 = .ok (.iaload, 1) := by decide +kernel
theorem dX4_search_82 : decode cX4_search 82 = .ok (.iconst 1, 1) := by decide +kernel
theorem dX4_search_83 : decode cX4_search 83 = .ok (.iadd, 1) := by decide +kernel
theorem dX4_search_84 : decode cX4_search 84 = .ok (.iastore, 1) := by decide +kernel
theorem dX4_search_85 : decode cX4_search 85 = .ok (.aload_n 0, 1) := by decide +kernel
theorem dX4_search_86 : decode cX4_search 86 = .ok (.iload_n 2, 1) := by decide +kernel
theorem dX4_search_87 : decode cX4_search 87 = .ok (.iconst 5, 1) := by decide +kernel
theorem dX4_search_88 : decode cX4_search 88 = .ok (.invokevirtual 55, 3) := by decide +kernel
theorem dX4_search_91 : decode cX4_search 91 = .ok (.ireturn, 1) := by decide +kernel
theorem dX4_find_0 : decode cX4_find 0 = .ok (.iload_n 1, 1) := by decide +kernel
theorem dX4_find_1 : decode cX4_find 1 = .ok (.invokestatic 79, 3) := by decide +kernel
theorem dX4_find_4 : decode cX4_find 4 = .ok (.ifCond .ne 6, 3) := by decide +kernel
theorem dX4_find_7 : decode cX4_find 7 = .ok (.bipush (-2), 2) := by decide +kernel
theorem dX4_find_9 : decode cX4_find 9 = .ok (.ireturn, 1) := by decide +kernel
theorem dX4_find_10 : decode cX4_find 10 = .ok (.aload_n 0, 1) := by decide +kernel
theorem dX4_find_11 : decode cX4_find 11 = .ok (.iload_n 1, 1) := by decide +kernel
theorem dX4_find_12 : decode cX4_find 12 = .ok (.invokevirtual 137, 3) := by decide +kernel
theorem dX4_find_15 : decode cX4_find 15 = .ok (.istore_n 2, 1) := by decide +kernel
theorem dX4_find_16 : decode cX4_find 16 = .ok (.iload_n 2, 1) := by decide +kernel
theorem dX4_find_17 : decode cX4_find 17 = .ok (.bipush 32, 2) := by decide +kernel
theorem dX4_find_19 : decode cX4_find 19 = .ok (.if_icmp .ne 8, 3) := by decide +kernel
theorem dX4_find_22 : decode cX4_find 22 = .ok (.bipush (-4), 2) := by decide +kernel
theorem dX4_find_24 : decode cX4_find 24 = .ok (.goto 11, 3) := by decide +kernel
theorem dX4_find_27 : decode cX4_find 27 = .ok (.aload_n 0, 1) := by decide +kernel
theorem dX4_find_28 : decode cX4_find 28 = .ok (.iload_n 2, 1) := by decide +kernel
theorem dX4_find_29 : decode cX4_find 29 = .ok (.iconst 0, 1) := by decide +kernel
theorem dX4_find_30 : decode cX4_find 30 = .ok (.invokevirtual 55, 3) := by decide +kernel
theorem dX4_find_33 : decode cX4_find 33 = .ok (.iconst 1, 1) := by decide +kernel
theorem dX4_find_34 : decode cX4_find 34 = .ok (.isub, 1) := by decide +kernel
theorem dX4_find_35 : decode cX4_find 35 = .ok (.ireturn, 1) := by decide +kernel
theorem dX4_power_0 : decode cX4_power 0 = .ok (.iload_n 1, 1) := by decide +kernel
theorem dX4_power_1 : decode cX4_power 1 = .ok (.invokestatic 79, 3) := by decide +kernel
theorem dX4_power_4 : decode cX4_power 4 = .ok (.ifCond .eq 11, 3) := by decide +kernel
theorem dX4_power_7 : decode cX4_power 7 = .ok (.aload_n 0, 1) := by decide +kernel
theorem dX4_power_8 : decode cX4_power 8 = .ok (.iload_n 1, 1) := by decide +kernel
theorem dX4_power_9 : decode cX4_power 9 = .ok (.invokevirtual 140, 3) := by decide +kernel
theorem dX4_power_12 : decode cX4_power 12 = .ok (.goto 5, 3) := by decide +kernel
theorem dX4_power_15 : decode cX4_power 15 = .ok (.bipush (-2), 2) := by decide +kernel
theorem dX4_power_17 : decode cX4_power 17 = .ok (.ireturn, 1) := by decide +kernel
theorem dX4_filterMask_0 : decode cX4_filterMask 0 = .ok (.iload_n 1, 1) := by decide +kernel
theorem dX4_filterMask_1 : decode cX4_filterMask 1 = .ok (.iconst 0, 1) := by decide +kernel
theorem dX4_filterMask_2 : decode cX4_filterMask 2 = .ok (.iconst 3, 1) := by decide +kernel
theorem dX4_filterMask_3 : decode cX4_filterMask 3 = .ok (.invokestatic 28, 3) := by decide +kernel
theorem dX4_filterMask_6 : decode cX4_filterMask 6 = .ok (.ifCond .eq 12, 3) := by decide +kernel
theorem dX4_filterMask_9 : decode cX4_filterMask 9 = .ok (.aload_n 0, 1) := by decide +kernel
theorem dX4_filterMask_10 : decode cX4_filterMask 10 = .ok (.iload_n 1, 1) := by decide +kernel
theorem dX4_filterMask_11 : decode cX4_filterMask 11 = .ok (.iconst 0, 1) := by decide +kernel
theorem dX4_filterMask_12 : decode cX4_filterMask 12 = .ok (.invokevirtual 133, 3) := by decide +kernel
theorem dX4_filterMask_15 : decode cX4_filterMask 15 = .ok (.goto 4, 3) := by decide +kernel
theorem dX4_filterMask_18 : decode cX4_filterMask 18 = .ok (.iconst (-1), 1) := by decide +kernel
theorem dX4_filterMask_19 : decode cX4_filterMask 19 = .ok (.ireturn, 1) := by decide +kernel
theorem dX4_filterValue_0 : decode cX4_filterValue 0 = .ok (.iload_n 1, 1) := by decide +kernel
theorem dX4_filterValue_1 : decode cX4_filterValue 1 = .ok (.iconst 0, 1) := by decide +kernel
theorem dX4_filterValue_2 : decode cX4_filterValue 2 = .ok (.iconst 3, 1) := by decide +kernel
theorem dX4_filterValue_3 : decode cX4_filterValue 3 = .ok (.invokestatic 28, 3) := by decide +kernel
theorem dX4_filterValue_6 : decode cX4_filterValue 6 = .ok (.ifCond .eq 12, 3) := by decide +kernel
theorem dX4_filterValue_9 : decode cX4_filterValue 9 = .ok (.aload_n 0, 1) := by decide +kernel
theorem dX4_filterValue_10 : decode cX4_filterValue 10 = .ok (.iload_n 1, 1) := by decide +kernel
theorem dX4_filterValue_11 : decode cX4_filterValue 11 = .ok (.iconst 1, 1) := by decide +kernel
theorem dX4_filterValue_12 : decode cX4_filterValue 12 = .ok (.invokevirtual 133, 3) := by decide +kernel
theorem dX4_filterValue_15 : decode cX4_filterValue 15 = .ok (.goto 4, 3) := by decide +kernel
theorem dX4_filterValue_18 : decode cX4_filterValue 18 = .ok (.iconst (-1), 1) := by decide +kernel
theorem dX4_filterValue_19 : decode cX4_filterValue 19 = .ok (.ireturn, 1) := by decide +kernel
theorem dX4_type_0 : decode cX4_type 0 = .ok (.aload_n 0, 1) := by decide +kernel
theorem dX4_type_1 : decode cX4_type 1 = .ok (.getfield 143, 3) := by decide +kernel
theorem dX4_type_4 : decode cX4_type 4 = .ok (.bipush 60, 2) := by decide +kernel
theorem dX4_type_6 : decode cX4_type 6 = .ok (.if_icmp .ne 6, 3) := by decide +kernel
theorem dX4_type_9 : decode cX4_type 9 = .ok (.bipush (-3), 2) := by decide +kernel
theorem dX4_type_11 : decode cX4_type 11 = .ok (.ireturn, 1) := by decide +kernel
theorem dX4_type_12 : decode cX4_type 12 = .ok (.aload_n 0, 1) := by decide +kernel
theorem dX4_type_13 : decode cX4_type 13 = .ok (.getfield 22, 3) := by decide +kernel
theorem dX4_type_16 : decode cX4_type 16 = .ok (.aload_n 0, 1) := by decide +kernel
theorem dX4_type_17 : decode cX4_type 17 = .ok (.getfield 143, 3) := by decide +kernel
theorem dX4_type_20 : decode cX4_type 20 = .ok (.iload_n 1, 1) := by decide +kernel
theorem dX4_type_21 : decode cX4_type 21 = .ok (.iastore, 1) := by decide +kernel
theorem dX4_type_22 : decode cX4_type 22 = .ok (.aload_n 0, 1) := by decide +kernel
theorem dX4_type_23 : decode cX4_type 23 = .ok (.dup, 1) := by decide +kernel
theorem dX4_type_24 : decode cX4_type 24 = .ok (.getfield 143, 3) := by decide +kernel
theorem dX4_type_27 : decode cX4_type 27 = .ok (.iconst 1, 1) := by decide +kernel
theorem dX4_type_28 : decode cX4_type 28 = .ok (.iadd, 1) := by decide +kernel
theorem dX4_type_29 : decode cX4_type 29 = .ok (.putfield 143, 3) := by decide +kernel
theorem dX4_type_32 : decode cX4_type 32 = .ok (.aload_n 0, 1) := by decide +kernel
theorem dX4_type_33 : decode cX4_type 33 = .ok (.getfield 143, 3) := by decide +kernel
theorem dX4_type_36 : decode cX4_type 36 = .ok (.ireturn, 1) := by decide +kernel
theorem dX4_clearText_0 : decode cX4_clearText 0 = .ok (.aload_n 0, 1) := by decide +kernel
theorem dX4_clearText_1 : decode cX4_clearText 1 = .ok (.getfield 143, 3) := by decide +kernel
theorem dX4_clearText_4 : decode cX4_clearText 4 = .ok (.istore_n 1, 1) := by decide +kernel
theorem dX4_clearText_5 : decode cX4_clearText 5 = .ok (.aload_n 0, 1) := by decide +kernel
theorem dX4_clearText_6 : decode cX4_clearText 6 = .ok (.iconst 0, 1) := by decide +kernel
theorem dX4_clearText_7 : decode cX4_clearText 7 = .ok (.putfield 143, 3) := by decide +kernel
theorem dX4_clearText_10 : decode cX4_clearText 10 = .ok (.iload_n 1, 1) := by decide +kernel
theorem dX4_clearText_11 : decode cX4_clearText 11 = .ok (.ireturn, 1) := by decide +kernel
theorem dX4_sees_0 : decode cX4_sees 0 = .ok (.aload_n 0, 1) := by decide +kernel
theorem dX4_sees_1 : decode cX4_sees 1 = .ok (.getfield 146, 3) := by decide +kernel
theorem dX4_sees_4 : decode cX4_sees 4 = .ok (.aload_n 0, 1) := by decide +kernel
theorem dX4_sees_5 : decode cX4_sees 5 = .ok (.getfield 143, 3) := by decide +kernel
theorem dX4_sees_8 : decode cX4_sees 8 = .ok (.if_icmp .ge 24, 3) := by decide +kernel
theorem dX4_sees_11 : decode cX4_sees 11 = .ok (.aload_n 0, 1) := by decide +kernel
theorem dX4_sees_12 : decode cX4_sees 12 = .ok (.getfield 22, 3) := by decide +kernel
theorem dX4_sees_15 : decode cX4_sees 15 = .ok (.aload_n 0, 1) := by decide +kernel
theorem dX4_sees_16 : decode cX4_sees 16 = .ok (.getfield 146, 3) := by decide +kernel
theorem dX4_sees_19 : decode cX4_sees 19 = .ok (.iaload, 1) := by decide +kernel
theorem dX4_sees_20 : decode cX4_sees 20 = .ok (.iload_n 1, 1) := by decide +kernel
theorem dX4_sees_21 : decode cX4_sees 21 = .ok (.iload_n 2, 1) := by decide +kernel
theorem dX4_sees_22 : decode cX4_sees 22 = .ok (.invokestatic 28, 3) := by decide +kernel
theorem dX4_sees_25 : decode cX4_sees 25 = .ok (.ifCond .eq 7, 3) := by decide +kernel
theorem dX4_sees_28 : decode cX4_sees 28 = .ok (.iconst 1, 1) := by decide +kernel
theorem dX4_sees_29 : decode cX4_sees 29 = .ok (.goto 4, 3) := by decide +kernel
theorem dX4_sees_32 : decode cX4_sees 32 = .ok (.iconst 0, 1) := by decide +kernel
theorem dX4_sees_33 : decode cX4_sees 33 = .ok (.ireturn, 1) := by decide +kernel
theorem dX4_takes_0 : decode cX4_takes 0 = .ok (.aload_n 0, 1) := by decide +kernel
theorem dX4_takes_1 : decode cX4_takes 1 = .ok (.iload_n 1, 1) := by decide +kernel
theorem dX4_takes_2 : decode cX4_takes 2 = .ok (.iload_n 1, 1) := by decide +kernel
theorem dX4_takes_3 : decode cX4_takes 3 = .ok (.invokevirtual 149, 3) := by decide +kernel
theorem dX4_takes_6 : decode cX4_takes 6 = .ok (.istore_n 2, 1) := by decide +kernel
theorem dX4_takes_7 : decode cX4_takes 7 = .ok (.aload_n 0, 1) := by decide +kernel
theorem dX4_takes_8 : decode cX4_takes 8 = .ok (.dup, 1) := by decide +kernel
theorem dX4_takes_9 : decode cX4_takes 9 = .ok (.getfield 146, 3) := by decide +kernel
theorem dX4_takes_12 : decode cX4_takes 12 = .ok (.iload_n 2, 1) := by decide +kernel
theorem dX4_takes_13 : decode cX4_takes 13 = .ok (.ifCond .eq 7, 3) := by decide +kernel
theorem dX4_takes_16 : decode cX4_takes 16 = .ok (.iconst 1, 1) := by decide +kernel
theorem dX4_takes_17 : decode cX4_takes 17 = .ok (.goto 4, 3) := by decide +kernel
theorem dX4_takes_20 : decode cX4_takes 20 = .ok (.iconst 0, 1) := by decide +kernel
theorem dX4_takes_21 : decode cX4_takes 21 = .ok (.iadd, 1) := by decide +kernel
theorem dX4_takes_22 : decode cX4_takes 22 = .ok (.putfield 146, 3) := by decide +kernel
theorem dX4_takes_25 : decode cX4_takes 25 = .ok (.iload_n 2, 1) := by decide +kernel
theorem dX4_takes_26 : decode cX4_takes 26 = .ok (.ireturn, 1) := by decide +kernel
theorem dX4_number_0 : decode cX4_number 0 = .ok (.iconst 0, 1) := by decide +kernel
theorem dX4_number_1 : decode cX4_number 1 = .ok (.istore_n 2, 1) := by decide +kernel
theorem dX4_number_2 : decode cX4_number 2 = .ok (.iconst 0, 1) := by decide +kernel
theorem dX4_number_3 : decode cX4_number 3 = .ok (.istore_n 3, 1) := by decide +kernel
theorem dX4_number_4 : decode cX4_number 4 = .ok (.iload_n 3, 1) := by decide +kernel
theorem dX4_number_5 : decode cX4_number 5 = .ok (.iload_n 1, 1) := by decide +kernel
theorem dX4_number_6 : decode cX4_number 6 = .ok (.if_icmp .ge 48, 3) := by decide +kernel
theorem dX4_number_9 : decode cX4_number 9 = .ok (.aload_n 0, 1) := by decide +kernel
theorem dX4_number_10 : decode cX4_number 10 = .ok (.bipush 48, 2) := by decide +kernel
theorem dX4_number_12 : decode cX4_number 12 = .ok (.bipush 57, 2) := by decide +kernel
theorem dX4_number_14 : decode cX4_number 14 = .ok (.invokevirtual 149, 3) := by decide +kernel
theorem dX4_number_17 : decode cX4_number 17 = .ok (.ifCond .eq 37, 3) := by decide +kernel
theorem dX4_number_20 : decode cX4_number 20 = .ok (.bipush 10, 2) := by decide +kernel
theorem dX4_number_22 : decode cX4_number 22 = .ok (.iload_n 2, 1) := by decide +kernel
theorem dX4_number_23 : decode cX4_number 23 = .ok (.imul, 1) := by decide +kernel
theorem dX4_number_24 : decode cX4_number 24 = .ok (.aload_n 0, 1) := by decide +kernel
theorem dX4_number_25 : decode cX4_number 25 = .ok (.getfield 22, 3) := by decide +kernel
theorem dX4_number_28 : decode cX4_number 28 = .ok (.aload_n 0, 1) := by decide +kernel
theorem dX4_number_29 : decode cX4_number 29 = .ok (.getfield 146, 3) := by decide +kernel
theorem dX4_number_32 : decode cX4_number 32 = .ok (.iaload, 1) := by decide +kernel
theorem dX4_number_33 : decode cX4_number 33 = .ok (.iadd, 1) := by decide +kernel
theorem dX4_number_34 : decode cX4_number 34 = .ok (.bipush 48, 2) := by decide +kernel
theorem dX4_number_36 : decode cX4_number 36 = .ok (.isub, 1) := by decide +kernel
theorem dX4_number_37 : decode cX4_number 37 = .ok (.istore_n 2, 1) := by decide +kernel
theorem dX4_number_38 : decode cX4_number 38 = .ok (.aload_n 0, 1) := by decide +kernel
theorem dX4_number_39 : decode cX4_number 39 = .ok (.dup, 1) := by decide +kernel
theorem dX4_number_40 : decode cX4_number 40 = .ok (.getfield 146, 3) := by decide +kernel
theorem dX4_number_43 : decode cX4_number 43 = .ok (.iconst 1, 1) := by decide +kernel
theorem dX4_number_44 : decode cX4_number 44 = .ok (.iadd, 1) := by decide +kernel
theorem dX4_number_45 : decode cX4_number 45 = .ok (.putfield 146, 3) := by decide +kernel
theorem dX4_number_48 : decode cX4_number 48 = .ok (.iinc 3 1, 3) := by decide +kernel
theorem dX4_number_51 : decode cX4_number 51 = .ok (.goto (-47), 3) := by decide +kernel
theorem dX4_number_54 : decode cX4_number 54 = .ok (.iload_n 3, 1) := by decide +kernel
theorem dX4_number_55 : decode cX4_number 55 = .ok (.ifCond .ne 7, 3) := by decide +kernel
theorem dX4_number_58 : decode cX4_number 58 = .ok (.iconst (-1), 1) := by decide +kernel
theorem dX4_number_59 : decode cX4_number 59 = .ok (.goto 4, 3) := by decide +kernel
theorem dX4_number_62 : decode cX4_number 62 = .ok (.iload_n 2, 1) := by decide +kernel
theorem dX4_number_63 : decode cX4_number 63 = .ok (.ireturn, 1) := by decide +kernel
theorem dX4_readRule_0 : decode cX4_readRule 0 = .ok (.iconst 0, 1) := by decide +kernel
theorem dX4_readRule_1 : decode cX4_readRule 1 = .ok (.istore_n 1, 1) := by decide +kernel
theorem dX4_readRule_2 : decode cX4_readRule 2 = .ok (.iconst 0, 1) := by decide +kernel
theorem dX4_readRule_3 : decode cX4_readRule 3 = .ok (.istore_n 2, 1) := by decide +kernel
theorem dX4_readRule_4 : decode cX4_readRule 4 = .ok (.bipush 7, 2) := by decide +kernel
theorem dX4_readRule_6 : decode cX4_readRule 6 = .ok (.istore_n 3, 1) := by decide +kernel
theorem dX4_readRule_7 : decode cX4_readRule 7 = .ok (.iload_n 3, 1) := by decide +kernel
theorem dX4_readRule_8 : decode cX4_readRule 8 = .ok (.ifCond .lt 102, 3) := by decide +kernel
theorem dX4_readRule_11 : decode cX4_readRule 11 = .ok (.aload_n 0, 1) := by decide +kernel
theorem dX4_readRule_12 : decode cX4_readRule 12 = .ok (.getfield 146, 3) := by decide +kernel
theorem dX4_readRule_15 : decode cX4_readRule 15 = .ok (.aload_n 0, 1) := by decide +kernel
theorem dX4_readRule_16 : decode cX4_readRule 16 = .ok (.getfield 143, 3) := by decide +kernel
theorem dX4_readRule_19 : decode cX4_readRule 19 = .ok (.if_icmp .ge 15, 3) := by decide +kernel
theorem dX4_readRule_22 : decode cX4_readRule 22 = .ok (.aload_n 0, 1) := by decide +kernel
theorem dX4_readRule_23 : decode cX4_readRule 23 = .ok (.getfield 22, 3) := by decide +kernel
theorem dX4_readRule_26 : decode cX4_readRule 26 = .ok (.aload_n 0, 1) := by decide +kernel
theorem dX4_readRule_27 : decode cX4_readRule 27 = .ok (.getfield 146, 3) := by decide +kernel
theorem dX4_readRule_30 : decode cX4_readRule 30 = .ok (.iaload, 1) := by decide +kernel
theorem dX4_readRule_31 : decode cX4_readRule 31 = .ok (.goto 4, 3) := by decide +kernel
theorem dX4_readRule_34 : decode cX4_readRule 34 = .ok (.iconst 0, 1) := by decide +kernel
theorem dX4_readRule_35 : decode cX4_readRule 35 = .ok (.istore 4, 2) := by decide +kernel
theorem dX4_readRule_37 : decode cX4_readRule 37 = .ok (.iload 4, 2) := by decide +kernel
theorem dX4_readRule_39 : decode cX4_readRule 39 = .ok (.bipush 48, 2) := by decide +kernel
theorem dX4_readRule_41 : decode cX4_readRule 41 = .ok (.if_icmp .eq 19, 3) := by decide +kernel
theorem dX4_readRule_44 : decode cX4_readRule 44 = .ok (.iload 4, 2) := by decide +kernel
theorem dX4_readRule_46 : decode cX4_readRule 46 = .ok (.bipush 49, 2) := by decide +kernel
theorem dX4_readRule_48 : decode cX4_readRule 48 = .ok (.if_icmp .eq 12, 3) := by decide +kernel
theorem dX4_readRule_51 : decode cX4_readRule 51 = .ok (.iload 4, 2) := by decide +kernel
theorem dX4_readRule_53 : decode cX4_readRule 53 = .ok (.bipush 42, 2) := by decide +kernel
theorem dX4_readRule_55 : decode cX4_readRule 55 = .ok (.if_icmp .eq 5, 3) := by decide +kernel
theorem dX4_readRule_58 : decode cX4_readRule 58 = .ok (.iconst 0, 1) := by decide +kernel
theorem dX4_readRule_59 : decode cX4_readRule 59 = .ok (.ireturn, 1) := by decide +kernel
theorem dX4_readRule_60 : decode cX4_readRule 60 = .ok (.iload_n 1, 1) := by decide +kernel
theorem dX4_readRule_61 : decode cX4_readRule 61 = .ok (.iload 4, 2) := by decide +kernel
theorem dX4_readRule_63 : decode cX4_readRule 63 = .ok (.bipush 49, 2) := by decide +kernel
theorem dX4_readRule_65 : decode cX4_readRule 65 = .ok (.if_icmp .ne 9, 3) := by decide +kernel
theorem dX4_readRule_68 : decode cX4_readRule 68 = .ok (.iconst 1, 1) := by decide +kernel
theorem dX4_readRule_69 : decode cX4_readRule 69 = .ok (.iload_n 3, 1) := by decide +kernel
theorem dX4_readRule_70 : decode cX4_readRule 70 = .ok (.ishl, 1) := by decide +kernel
theorem dX4_readRule_71 : decode cX4_readRule 71 = .ok (.goto 4, 3) := by decide +kernel
theorem dX4_readRule_74 : decode cX4_readRule 74 = .ok (.iconst 0, 1) := by decide +kernel
theorem dX4_readRule_75 : decode cX4_readRule 75 = .ok (.ior, 1) := by decide +kernel
theorem dX4_readRule_76 : decode cX4_readRule 76 = .ok (.istore_n 1, 1) := by decide +kernel
theorem dX4_readRule_77 : decode cX4_readRule 77 = .ok (.iload_n 2, 1) := by decide +kernel
theorem dX4_readRule_78 : decode cX4_readRule 78 = .ok (.iload 4, 2) := by decide +kernel
theorem dX4_readRule_80 : decode cX4_readRule 80 = .ok (.bipush 42, 2) := by decide +kernel
theorem dX4_readRule_82 : decode cX4_readRule 82 = .ok (.if_icmp .ne 7, 3) := by decide +kernel
theorem dX4_readRule_85 : decode cX4_readRule 85 = .ok (.iconst 0, 1) := by decide +kernel
theorem dX4_readRule_86 : decode cX4_readRule 86 = .ok (.goto 6, 3) := by decide +kernel
theorem dX4_readRule_89 : decode cX4_readRule 89 = .ok (.iconst 1, 1) := by decide +kernel
theorem dX4_readRule_90 : decode cX4_readRule 90 = .ok (.iload_n 3, 1) := by decide +kernel
theorem dX4_readRule_91 : decode cX4_readRule 91 = .ok (.ishl, 1) := by decide +kernel
theorem dX4_readRule_92 : decode cX4_readRule 92 = .ok (.ior, 1) := by decide +kernel
theorem dX4_readRule_93 : decode cX4_readRule 93 = .ok (.istore_n 2, 1) := by decide +kernel
theorem dX4_readRule_94 : decode cX4_readRule 94 = .ok (.aload_n 0, 1) := by decide +kernel
theorem dX4_readRule_95 : decode cX4_readRule 95 = .ok (.dup, 1) := by decide +kernel
theorem dX4_readRule_96 : decode cX4_readRule 96 = .ok (.getfield 146, 3) := by decide +kernel
theorem dX4_readRule_99 : decode cX4_readRule 99 = .ok (.iconst 1, 1) := by decide +kernel
theorem dX4_readRule_100 : decode cX4_readRule 100 = .ok (.iadd, 1) := by decide +kernel
theorem dX4_readRule_101 : decode cX4_readRule 101 = .ok (.putfield 146, 3) := by decide +kernel
theorem dX4_readRule_104 : decode cX4_readRule 104 = .ok (.iinc 3 (-1), 3) := by decide +kernel
theorem dX4_readRule_107 : decode cX4_readRule 107 = .ok (.goto (-100), 3) := by decide +kernel
theorem dX4_readRule_110 : decode cX4_readRule 110 = .ok (.aload_n 0, 1) := by decide +kernel
theorem dX4_readRule_111 : decode cX4_readRule 111 = .ok (.bipush 44, 2) := by decide +kernel
theorem dX4_readRule_113 : decode cX4_readRule 113 = .ok (.invokevirtual 152, 3) := by decide +kernel
theorem dX4_readRule_116 : decode cX4_readRule 116 = .ok (.ifCond .ne 5, 3) := by decide +kernel
theorem dX4_readRule_119 : decode cX4_readRule 119 = .ok (.iconst 0, 1) := by decide +kernel
theorem dX4_readRule_120 : decode cX4_readRule 120 = .ok (.ireturn, 1) := by decide +kernel
theorem dX4_readRule_121 : decode cX4_readRule 121 = .ok (.aload_n 0, 1) := by decide +kernel
theorem dX4_readRule_122 : decode cX4_readRule 122 = .ok (.iconst 2, 1) := by decide +kernel
theorem dX4_readRule_123 : decode cX4_readRule 123 = .ok (.invokevirtual 155, 3) := by decide +kernel
theorem dX4_readRule_126 : decode cX4_readRule 126 = .ok (.istore_n 3, 1) := by decide +kernel
theorem dX4_readRule_127 : decode cX4_readRule 127 = .ok (.iload_n 3, 1) := by decide +kernel
theorem dX4_readRule_128 : decode cX4_readRule 128 = .ok (.ifCond .lt 12, 3) := by decide +kernel
theorem dX4_readRule_131 : decode cX4_readRule 131 = .ok (.aload_n 0, 1) := by decide +kernel
theorem dX4_readRule_132 : decode cX4_readRule 132 = .ok (.bipush 44, 2) := by decide +kernel
theorem dX4_readRule_134 : decode cX4_readRule 134 = .ok (.invokevirtual 152, 3) := by decide +kernel
theorem dX4_readRule_137 : decode cX4_readRule 137 = .ok (.ifCond .ne 5, 3) := by decide +kernel
theorem dX4_readRule_140 : decode cX4_readRule 140 = .ok (.iconst 0, 1) := by decide +kernel
theorem dX4_readRule_141 : decode cX4_readRule 141 = .ok (.ireturn, 1) := by decide +kernel
theorem dX4_readRule_142 : decode cX4_readRule 142 = .ok (.aload_n 0, 1) := by decide +kernel
theorem dX4_readRule_143 : decode cX4_readRule 143 = .ok (.iconst 1, 1) := by decide +kernel
theorem dX4_readRule_144 : decode cX4_readRule 144 = .ok (.invokevirtual 155, 3) := by decide +kernel
theorem dX4_readRule_147 : decode cX4_readRule 147 = .ok (.istore 4, 2) := by decide +kernel
theorem dX4_readRule_149 : decode cX4_readRule 149 = .ok (.iload 4, 2) := by decide +kernel
theorem dX4_readRule_151 : decode cX4_readRule 151 = .ok (.ifCond .ge 5, 3) := by decide +kernel
theorem dX4_readRule_154 : decode cX4_readRule 154 = .ok (.iconst 0, 1) := by decide +kernel
theorem dX4_readRule_155 : decode cX4_readRule 155 = .ok (.ireturn, 1) := by decide +kernel
theorem dX4_readRule_156 : decode cX4_readRule 156 = .ok (.aload_n 0, 1) := by decide +kernel
theorem dX4_readRule_157 : decode cX4_readRule 157 = .ok (.getfield 25, 3) := by decide +kernel
theorem dX4_readRule_160 : decode cX4_readRule 160 = .ok (.iconst 4, 1) := by decide +kernel
theorem dX4_readRule_161 : decode cX4_readRule 161 = .ok (.aload_n 0, 1) := by decide +kernel
theorem dX4_readRule_162 : decode cX4_readRule 162 = .ok (.getfield 158, 3) := by decide +kernel
theorem dX4_readRule_165 : decode cX4_readRule 165 = .ok (.imul, 1) := by decide +kernel
theorem dX4_readRule_166 : decode cX4_readRule 166 = .ok (.iload_n 1, 1) := by decide +kernel
theorem dX4_readRule_167 : decode cX4_readRule 167 = .ok (.iastore, 1) := by decide +kernel
theorem dX4_readRule_168 : decode cX4_readRule 168 = .ok (.aload_n 0, 1) := by decide +kernel
theorem dX4_readRule_169 : decode cX4_readRule 169 = .ok (.getfield 25, 3) := by decide +kernel
theorem dX4_readRule_172 : decode cX4_readRule 172 = .ok (.iconst 4, 1) := by decide +kernel
theorem dX4_readRule_173 : decode cX4_readRule 173 = .ok (.aload_n 0, 1) := by decide +kernel
theorem dX4_readRule_174 : decode cX4_readRule 174 = .ok (.getfield 158, 3) := by decide +kernel
theorem dX4_readRule_177 : decode cX4_readRule 177 = .ok (.imul, 1) := by decide +kernel
theorem dX4_readRule_178 : decode cX4_readRule 178 = .ok (.iconst 1, 1) := by decide +kernel
theorem dX4_readRule_179 : decode cX4_readRule 179 = .ok (.iadd, 1) := by decide +kernel
theorem dX4_readRule_180 : decode cX4_readRule 180 = .ok (.iload_n 2, 1) := by decide +kernel
theorem dX4_readRule_181 : decode cX4_readRule 181 = .ok (.iastore, 1) := by decide +kernel
theorem dX4_readRule_182 : decode cX4_readRule 182 = .ok (.aload_n 0, 1) := by decide +kernel
theorem dX4_readRule_183 : decode cX4_readRule 183 = .ok (.getfield 25, 3) := by decide +kernel
theorem dX4_readRule_186 : decode cX4_readRule 186 = .ok (.iconst 4, 1) := by decide +kernel
theorem dX4_readRule_187 : decode cX4_readRule 187 = .ok (.aload_n 0, 1) := by decide +kernel
theorem dX4_readRule_188 : decode cX4_readRule 188 = .ok (.getfield 158, 3) := by decide +kernel
theorem dX4_readRule_191 : decode cX4_readRule 191 = .ok (.imul, 1) := by decide +kernel
theorem dX4_readRule_192 : decode cX4_readRule 192 = .ok (.iconst 2, 1) := by decide +kernel
theorem dX4_readRule_193 : decode cX4_readRule 193 = .ok (.iadd, 1) := by decide +kernel
theorem dX4_readRule_194 : decode cX4_readRule 194 = .ok (.iload_n 3, 1) := by decide +kernel
theorem dX4_readRule_195 : decode cX4_readRule 195 = .ok (.iastore, 1) := by decide +kernel
theorem dX4_readRule_196 : decode cX4_readRule 196 = .ok (.aload_n 0, 1) := by decide +kernel
theorem dX4_readRule_197 : decode cX4_readRule 197 = .ok (.getfield 25, 3) := by decide +kernel
theorem dX4_readRule_200 : decode cX4_readRule 200 = .ok (.iconst 4, 1) := by decide +kernel
theorem dX4_readRule_201 : decode cX4_readRule 201 = .ok (.aload_n 0, 1) := by decide +kernel
theorem dX4_readRule_202 : decode cX4_readRule 202 = .ok (.getfield 158, 3) := by decide +kernel
theorem dX4_readRule_205 : decode cX4_readRule 205 = .ok (.imul, 1) := by decide +kernel
theorem dX4_readRule_206 : decode cX4_readRule 206 = .ok (.iconst 3, 1) := by decide +kernel
theorem dX4_readRule_207 : decode cX4_readRule 207 = .ok (.iadd, 1) := by decide +kernel
theorem dX4_readRule_208 : decode cX4_readRule 208 = .ok (.iload 4, 2) := by decide +kernel
theorem dX4_readRule_210 : decode cX4_readRule 210 = .ok (.iastore, 1) := by decide +kernel
theorem dX4_readRule_211 : decode cX4_readRule 211 = .ok (.aload_n 0, 1) := by decide +kernel
theorem dX4_readRule_212 : decode cX4_readRule 212 = .ok (.dup, 1) := by decide +kernel
theorem dX4_readRule_213 : decode cX4_readRule 213 = .ok (.getfield 158, 3) := by decide +kernel
theorem dX4_readRule_216 : decode cX4_readRule 216 = .ok (.iconst 1, 1) := by decide +kernel
theorem dX4_readRule_217 : decode cX4_readRule 217 = .ok (.iadd, 1) := by decide +kernel
theorem dX4_readRule_218 : decode cX4_readRule 218 = .ok (.putfield 158, 3) := by decide +kernel
theorem dX4_readRule_221 : decode cX4_readRule 221 = .ok (.iconst 1, 1) := by decide +kernel
theorem dX4_readRule_222 : decode cX4_readRule 222 = .ok (.ireturn, 1) := by decide +kernel
theorem dX4_readText_0 : decode cX4_readText 0 = .ok (.aload_n 0, 1) := by decide +kernel
theorem dX4_readText_1 : decode cX4_readText 1 = .ok (.iconst 0, 1) := by decide +kernel
theorem dX4_readText_2 : decode cX4_readText 2 = .ok (.putfield 146, 3) := by decide +kernel
theorem dX4_readText_5 : decode cX4_readText 5 = .ok (.aload_n 0, 1) := by decide +kernel
theorem dX4_readText_6 : decode cX4_readText 6 = .ok (.iconst 0, 1) := by decide +kernel
theorem dX4_readText_7 : decode cX4_readText 7 = .ok (.putfield 158, 3) := by decide +kernel
theorem dX4_readText_10 : decode cX4_readText 10 = .ok (.aload_n 0, 1) := by decide +kernel
theorem dX4_readText_11 : decode cX4_readText 11 = .ok (.invokevirtual 161, 3) := by decide +kernel
theorem dX4_readText_14 : decode cX4_readText 14 = .ok (.istore_n 1, 1) := by decide +kernel
theorem dX4_readText_15 : decode cX4_readText 15 = .ok (.iload_n 1, 1) := by decide +kernel
theorem dX4_readText_16 : decode cX4_readText 16 = .ok (.ifCond .eq 39, 3) := by decide +kernel
theorem dX4_readText_19 : decode cX4_readText 19 = .ok (.aload_n 0, 1) := by decide +kernel
theorem dX4_readText_20 : decode cX4_readText 20 = .ok (.getfield 146, 3) := by decide +kernel
theorem dX4_readText_23 : decode cX4_readText 23 = .ok (.aload_n 0, 1) := by decide +kernel
theorem dX4_readText_24 : decode cX4_readText 24 = .ok (.getfield 143, 3) := by decide +kernel
theorem dX4_readText_27 : decode cX4_readText 27 = .ok (.if_icmp .ge 28, 3) := by decide +kernel
theorem dX4_readText_30 : decode cX4_readText 30 = .ok (.aload_n 0, 1) := by decide +kernel
theorem dX4_readText_31 : decode cX4_readText 31 = .ok (.bipush 59, 2) := by decide +kernel
theorem dX4_readText_33 : decode cX4_readText 33 = .ok (.invokevirtual 152, 3) := by decide +kernel
theorem dX4_readText_36 : decode cX4_readText 36 = .ok (.ifCond .eq 14, 3) := by decide +kernel
theorem dX4_readText_39 : decode cX4_readText 39 = .ok (.aload_n 0, 1) := by decide +kernel
theorem dX4_readText_40 : decode cX4_readText 40 = .ok (.invokevirtual 161, 3) := by decide +kernel
theorem dX4_readText_43 : decode cX4_readText 43 = .ok (.ifCond .eq 7, 3) := by decide +kernel
theorem dX4_readText_46 : decode cX4_readText 46 = .ok (.iconst 1, 1) := by decide +kernel
theorem dX4_readText_47 : decode cX4_readText 47 = .ok (.goto 4, 3) := by decide +kernel
theorem dX4_readText_50 : decode cX4_readText 50 = .ok (.iconst 0, 1) := by decide +kernel
theorem dX4_readText_51 : decode cX4_readText 51 = .ok (.istore_n 1, 1) := by decide +kernel
theorem dX4_readText_52 : decode cX4_readText 52 = .ok (.goto (-37), 3) := by decide +kernel
theorem dX4_readText_55 : decode cX4_readText 55 = .ok (.iload_n 1, 1) := by decide +kernel
theorem dX4_readText_56 : decode cX4_readText 56 = .ok (.ireturn, 1) := by decide +kernel
theorem dX4_addText_0 : decode cX4_addText 0 = .ok (.aload_n 0, 1) := by decide +kernel
theorem dX4_addText_1 : decode cX4_addText 1 = .ok (.invokevirtual 165, 3) := by decide +kernel
theorem dX4_addText_4 : decode cX4_addText 4 = .ok (.ifCond .ne 11, 3) := by decide +kernel
theorem dX4_addText_7 : decode cX4_addText 7 = .ok (.bipush (-100), 2) := by decide +kernel
theorem dX4_addText_9 : decode cX4_addText 9 = .ok (.aload_n 0, 1) := by decide +kernel
theorem dX4_addText_10 : decode cX4_addText 10 = .ok (.getfield 146, 3) := by decide +kernel
theorem dX4_addText_13 : decode cX4_addText 13 = .ok (.isub, 1) := by decide +kernel
theorem dX4_addText_14 : decode cX4_addText 14 = .ok (.ireturn, 1) := by decide +kernel
theorem dX4_addText_15 : decode cX4_addText 15 = .ok (.aload_n 0, 1) := by decide +kernel
theorem dX4_addText_16 : decode cX4_addText 16 = .ok (.invokevirtual 93, 3) := by decide +kernel
theorem dX4_addText_19 : decode cX4_addText 19 = .ok (.aload_n 0, 1) := by decide +kernel
theorem dX4_addText_20 : decode cX4_addText 20 = .ok (.getfield 158, 3) := by decide +kernel
theorem dX4_addText_23 : decode cX4_addText 23 = .ok (.if_icmp .ge 6, 3) := by decide +kernel
theorem dX4_addText_26 : decode cX4_addText 26 = .ok (.bipush (-3), 2) := by decide +kernel
theorem dX4_addText_28 : decode cX4_addText 28 = .ok (.ireturn, 1) := by decide +kernel
theorem dX4_addText_29 : decode cX4_addText 29 = .ok (.aload_n 0, 1) := by decide +kernel
theorem dX4_addText_30 : decode cX4_addText 30 = .ok (.invokevirtual 48, 3) := by decide +kernel
theorem dX4_addText_33 : decode cX4_addText 33 = .ok (.iconst 0, 1) := by decide +kernel
theorem dX4_addText_34 : decode cX4_addText 34 = .ok (.istore_n 1, 1) := by decide +kernel
theorem dX4_addText_35 : decode cX4_addText 35 = .ok (.iload_n 1, 1) := by decide +kernel
theorem dX4_addText_36 : decode cX4_addText 36 = .ok (.aload_n 0, 1) := by decide +kernel
theorem dX4_addText_37 : decode cX4_addText 37 = .ok (.getfield 158, 3) := by decide +kernel
theorem dX4_addText_40 : decode cX4_addText 40 = .ok (.if_icmp .ge 52, 3) := by decide +kernel
theorem dX4_addText_43 : decode cX4_addText 43 = .ok (.aload_n 0, 1) := by decide +kernel
theorem dX4_addText_44 : decode cX4_addText 44 = .ok (.aload_n 0, 1) := by decide +kernel
theorem dX4_addText_45 : decode cX4_addText 45 = .ok (.getfield 25, 3) := by decide +kernel
theorem dX4_addText_48 : decode cX4_addText 48 = .ok (.iconst 4, 1) := by decide +kernel
theorem dX4_addText_49 : decode cX4_addText 49 = .ok (.iload_n 1, 1) := by decide +kernel
theorem dX4_addText_50 : decode cX4_addText 50 = .ok (.imul, 1) := by decide +kernel
theorem dX4_addText_51 : decode cX4_addText 51 = .ok (.iaload, 1) := by decide +kernel
theorem dX4_addText_52 : decode cX4_addText 52 = .ok (.aload_n 0, 1) := by decide +kernel
theorem dX4_addText_53 : decode cX4_addText 53 = .ok (.getfield 25, 3) := by decide +kernel
theorem dX4_addText_56 : decode cX4_addText 56 = .ok (.iconst 4, 1) := by decide +kernel
theorem dX4_addText_57 : decode cX4_addText 57 = .ok (.iload_n 1, 1) := by decide +kernel
theorem dX4_addText_58 : decode cX4_addText 58 = .ok (.imul, 1) := by decide +kernel
theorem dX4_addText_59 : decode cX4_addText 59 = .ok (.iconst 1, 1) := by decide +kernel
theorem dX4_addText_60 : decode cX4_addText 60 = .ok (.iadd, 1) := by decide +kernel
theorem dX4_addText_61 : decode cX4_addText 61 = .ok (.iaload, 1) := by decide +kernel
theorem dX4_addText_62 : decode cX4_addText 62 = .ok (.aload_n 0, 1) := by decide +kernel
theorem dX4_addText_63 : decode cX4_addText 63 = .ok (.getfield 25, 3) := by decide +kernel
theorem dX4_addText_66 : decode cX4_addText 66 = .ok (.iconst 4, 1) := by decide +kernel
theorem dX4_addText_67 : decode cX4_addText 67 = .ok (.iload_n 1, 1) := by decide +kernel
theorem dX4_addText_68 : decode cX4_addText 68 = .ok (.imul, 1) := by decide +kernel
theorem dX4_addText_69 : decode cX4_addText 69 = .ok (.iconst 2, 1) := by decide +kernel
theorem dX4_addText_70 : decode cX4_addText 70 = .ok (.iadd, 1) := by decide +kernel
theorem dX4_addText_71 : decode cX4_addText 71 = .ok (.iaload, 1) := by decide +kernel
theorem dX4_addText_72 : decode cX4_addText 72 = .ok (.aload_n 0, 1) := by decide +kernel
theorem dX4_addText_73 : decode cX4_addText 73 = .ok (.getfield 25, 3) := by decide +kernel
theorem dX4_addText_76 : decode cX4_addText 76 = .ok (.iconst 4, 1) := by decide +kernel
theorem dX4_addText_77 : decode cX4_addText 77 = .ok (.iload_n 1, 1) := by decide +kernel
theorem dX4_addText_78 : decode cX4_addText 78 = .ok (.imul, 1) := by decide +kernel
theorem dX4_addText_79 : decode cX4_addText 79 = .ok (.iconst 3, 1) := by decide +kernel
theorem dX4_addText_80 : decode cX4_addText 80 = .ok (.iadd, 1) := by decide +kernel
theorem dX4_addText_81 : decode cX4_addText 81 = .ok (.iaload, 1) := by decide +kernel
theorem dX4_addText_82 : decode cX4_addText 82 = .ok (.invokevirtual 96, 3) := by decide +kernel
theorem dX4_addText_85 : decode cX4_addText 85 = .ok (.pop, 1) := by decide +kernel
theorem dX4_addText_86 : decode cX4_addText 86 = .ok (.iinc 1 1, 3) := by decide +kernel
theorem dX4_addText_89 : decode cX4_addText 89 = .ok (.goto (-54), 3) := by decide +kernel
theorem dX4_addText_92 : decode cX4_addText 92 = .ok (.aload_n 0, 1) := by decide +kernel
theorem dX4_addText_93 : decode cX4_addText 93 = .ok (.getfield 158, 3) := by decide +kernel
theorem dX4_addText_96 : decode cX4_addText 96 = .ok (.ireturn, 1) := by decide +kernel
theorem dX4_inSlot_0 : decode cX4_inSlot 0 = .ok (.iload_n 1, 1) := by decide +kernel
theorem dX4_inSlot_1 : decode cX4_inSlot 1 = .ok (.invokestatic 168, 3) := by decide +kernel
theorem dX4_inSlot_4 : decode cX4_inSlot 4 = .ok (.ifCond .ne 7, 3) := by decide +kernel
theorem dX4_inSlot_7 : decode cX4_inSlot 7 = .ok (.iconst (-1), 1) := by decide +kernel
theorem dX4_inSlot_8 : decode cX4_inSlot 8 = .ok (.goto 22, 3) := by decide +kernel
theorem dX4_inSlot_11 : decode cX4_inSlot 11 = .ok (.aload_n 0, 1) := by decide +kernel
theorem dX4_inSlot_12 : decode cX4_inSlot 12 = .ok (.iload_n 1, 1) := by decide +kernel
theorem dX4_inSlot_13 : decode cX4_inSlot 13 = .ok (.invokevirtual 51, 3) := by decide +kernel
theorem dX4_inSlot_16 : decode cX4_inSlot 16 = .ok (.ifCond .eq 8, 3) := by decide +kernel
theorem dX4_inSlot_19 : decode cX4_inSlot 19 = .ok (.bipush (-4), 2) := by decide +kernel
theorem dX4_inSlot_21 : decode cX4_inSlot 21 = .ok (.goto 9, 3) := by decide +kernel
theorem dX4_inSlot_24 : decode cX4_inSlot 24 = .ok (.aload_n 0, 1) := by decide +kernel
theorem dX4_inSlot_25 : decode cX4_inSlot 25 = .ok (.iload_n 1, 1) := by decide +kernel
theorem dX4_inSlot_26 : decode cX4_inSlot 26 = .ok (.iload_n 2, 1) := by decide +kernel
theorem dX4_inSlot_27 : decode cX4_inSlot 27 = .ok (.invokevirtual 55, 3) := by decide +kernel
theorem dX4_inSlot_30 : decode cX4_inSlot 30 = .ok (.ireturn, 1) := by decide +kernel
theorem dX4_ruleIn_0 : decode cX4_ruleIn 0 = .ok (.aload_n 0, 1) := by decide +kernel
theorem dX4_ruleIn_1 : decode cX4_ruleIn 1 = .ok (.iload_n 1, 1) := by decide +kernel
theorem dX4_ruleIn_2 : decode cX4_ruleIn 2 = .ok (.iconst 0, 1) := by decide +kernel
theorem dX4_ruleIn_3 : decode cX4_ruleIn 3 = .ok (.invokevirtual 171, 3) := by decide +kernel
theorem dX4_ruleIn_6 : decode cX4_ruleIn 6 = .ok (.istore_n 2, 1) := by decide +kernel
theorem dX4_ruleIn_7 : decode cX4_ruleIn 7 = .ok (.iload_n 2, 1) := by decide +kernel
theorem dX4_ruleIn_8 : decode cX4_ruleIn 8 = .ok (.ifCond .ge 7, 3) := by decide +kernel
theorem dX4_ruleIn_11 : decode cX4_ruleIn 11 = .ok (.iload_n 2, 1) := by decide +kernel
theorem dX4_ruleIn_12 : decode cX4_ruleIn 12 = .ok (.goto 6, 3) := by decide +kernel
theorem dX4_ruleIn_15 : decode cX4_ruleIn 15 = .ok (.iload_n 2, 1) := by decide +kernel
theorem dX4_ruleIn_16 : decode cX4_ruleIn 16 = .ok (.iconst 1, 1) := by decide +kernel
theorem dX4_ruleIn_17 : decode cX4_ruleIn 17 = .ok (.isub, 1) := by decide +kernel
theorem dX4_ruleIn_18 : decode cX4_ruleIn 18 = .ok (.ireturn, 1) := by decide +kernel
theorem dX4_maskIn_0 : decode cX4_maskIn 0 = .ok (.aload_n 0, 1) := by decide +kernel
theorem dX4_maskIn_1 : decode cX4_maskIn 1 = .ok (.iload_n 1, 1) := by decide +kernel
theorem dX4_maskIn_2 : decode cX4_maskIn 2 = .ok (.iconst 2, 1) := by decide +kernel
theorem dX4_maskIn_3 : decode cX4_maskIn 3 = .ok (.invokevirtual 171, 3) := by decide +kernel
theorem dX4_maskIn_6 : decode cX4_maskIn 6 = .ok (.ireturn, 1) := by decide +kernel
theorem dX4_valueIn_0 : decode cX4_valueIn 0 = .ok (.aload_n 0, 1) := by decide +kernel
theorem dX4_valueIn_1 : decode cX4_valueIn 1 = .ok (.iload_n 1, 1) := by decide +kernel
theorem dX4_valueIn_2 : decode cX4_valueIn 2 = .ok (.iconst 3, 1) := by decide +kernel
theorem dX4_valueIn_3 : decode cX4_valueIn 3 = .ok (.invokevirtual 171, 3) := by decide +kernel
theorem dX4_valueIn_6 : decode cX4_valueIn 6 = .ok (.ireturn, 1) := by decide +kernel
theorem dX4_sortIn_0 : decode cX4_sortIn 0 = .ok (.aload_n 0, 1) := by decide +kernel
theorem dX4_sortIn_1 : decode cX4_sortIn 1 = .ok (.iload_n 1, 1) := by decide +kernel
theorem dX4_sortIn_2 : decode cX4_sortIn 2 = .ok (.iconst 2, 1) := by decide +kernel
theorem dX4_sortIn_3 : decode cX4_sortIn 3 = .ok (.invokevirtual 171, 3) := by decide +kernel
theorem dX4_sortIn_6 : decode cX4_sortIn 6 = .ok (.istore_n 2, 1) := by decide +kernel
theorem dX4_sortIn_7 : decode cX4_sortIn 7 = .ok (.iload_n 2, 1) := by decide +kernel
theorem dX4_sortIn_8 : decode cX4_sortIn 8 = .ok (.ifCond .ge 5, 3) := by decide +kernel
theorem dX4_sortIn_11 : decode cX4_sortIn 11 = .ok (.iload_n 2, 1) := by decide +kernel
theorem dX4_sortIn_12 : decode cX4_sortIn 12 = .ok (.ireturn, 1) := by decide +kernel
theorem dX4_sortIn_13 : decode cX4_sortIn 13 = .ok (.sipush 255, 3) := by decide +kernel
theorem dX4_sortIn_16 : decode cX4_sortIn 16 = .ok (.iload_n 2, 1) := by decide +kernel
theorem dX4_sortIn_17 : decode cX4_sortIn 17 = .ok (.isub, 1) := by decide +kernel
theorem dX4_sortIn_18 : decode cX4_sortIn 18 = .ok (.istore_n 3, 1) := by decide +kernel
theorem dX4_sortIn_19 : decode cX4_sortIn 19 = .ok (.iload_n 3, 1) := by decide +kernel
theorem dX4_sortIn_20 : decode cX4_sortIn 20 = .ok (.ifCond .ne 7, 3) := by decide +kernel
theorem dX4_sortIn_23 : decode cX4_sortIn 23 = .ok (.iconst 0, 1) := by decide +kernel
theorem dX4_sortIn_24 : decode cX4_sortIn 24 = .ok (.goto 16, 3) := by decide +kernel
theorem dX4_sortIn_27 : decode cX4_sortIn 27 = .ok (.iload_n 3, 1) := by decide +kernel
theorem dX4_sortIn_28 : decode cX4_sortIn 28 = .ok (.iload_n 3, 1) := by decide +kernel
theorem dX4_sortIn_29 : decode cX4_sortIn 29 = .ok (.iconst 1, 1) := by decide +kernel
theorem dX4_sortIn_30 : decode cX4_sortIn 30 = .ok (.iadd, 1) := by decide +kernel
theorem dX4_sortIn_31 : decode cX4_sortIn 31 = .ok (.iand, 1) := by decide +kernel
theorem dX4_sortIn_32 : decode cX4_sortIn 32 = .ok (.ifCond .ne 7, 3) := by decide +kernel
theorem dX4_sortIn_35 : decode cX4_sortIn 35 = .ok (.iconst 1, 1) := by decide +kernel
theorem dX4_sortIn_36 : decode cX4_sortIn 36 = .ok (.goto 4, 3) := by decide +kernel
theorem dX4_sortIn_39 : decode cX4_sortIn 39 = .ok (.iconst 2, 1) := by decide +kernel
theorem dX4_sortIn_40 : decode cX4_sortIn 40 = .ok (.ireturn, 1) := by decide +kernel
theorem dX4_slotOf_0 : decode cX4_slotOf 0 = .ok (.aload_n 0, 1) := by decide +kernel
theorem dX4_slotOf_1 : decode cX4_slotOf 1 = .ok (.iload_n 1, 1) := by decide +kernel
theorem dX4_slotOf_2 : decode cX4_slotOf 2 = .ok (.iload_n 2, 1) := by decide +kernel
theorem dX4_slotOf_3 : decode cX4_slotOf 3 = .ok (.invokevirtual 109, 3) := by decide +kernel
theorem dX4_slotOf_6 : decode cX4_slotOf 6 = .ok (.istore_n 3, 1) := by decide +kernel
theorem dX4_slotOf_7 : decode cX4_slotOf 7 = .ok (.iload_n 3, 1) := by decide +kernel
theorem dX4_slotOf_8 : decode cX4_slotOf 8 = .ok (.bipush 32, 2) := by decide +kernel
theorem dX4_slotOf_10 : decode cX4_slotOf 10 = .ok (.if_icmp .ne 7, 3) := by decide +kernel
theorem dX4_slotOf_13 : decode cX4_slotOf 13 = .ok (.iconst (-1), 1) := by decide +kernel
theorem dX4_slotOf_14 : decode cX4_slotOf 14 = .ok (.goto 4, 3) := by decide +kernel
theorem dX4_slotOf_17 : decode cX4_slotOf 17 = .ok (.iload_n 3, 1) := by decide +kernel
theorem dX4_slotOf_18 : decode cX4_slotOf 18 = .ok (.ireturn, 1) := by decide +kernel
theorem dX4_parts_0 : decode cX4_parts 0 = .ok (.aload_n 0, 1) := by decide +kernel
theorem dX4_parts_1 : decode cX4_parts 1 = .ok (.iload_n 1, 1) := by decide +kernel
theorem dX4_parts_2 : decode cX4_parts 2 = .ok (.invokevirtual 112, 3) := by decide +kernel
theorem dX4_parts_5 : decode cX4_parts 5 = .ok (.ifCond .eq 11, 3) := by decide +kernel
theorem dX4_parts_8 : decode cX4_parts 8 = .ok (.aload_n 0, 1) := by decide +kernel
theorem dX4_parts_9 : decode cX4_parts 9 = .ok (.iload_n 1, 1) := by decide +kernel
theorem dX4_parts_10 : decode cX4_parts 10 = .ok (.invokevirtual 174, 3) := by decide +kernel
theorem dX4_parts_13 : decode cX4_parts 13 = .ok (.goto 4, 3) := by decide +kernel
theorem dX4_parts_16 : decode cX4_parts 16 = .ok (.iconst (-1), 1) := by decide +kernel
theorem dX4_parts_17 : decode cX4_parts 17 = .ok (.ireturn, 1) := by decide +kernel
theorem dX4_ofRule_0 : decode cX4_ofRule 0 = .ok (.aload_n 0, 1) := by decide +kernel
theorem dX4_ofRule_1 : decode cX4_ofRule 1 = .ok (.iload_n 1, 1) := by decide +kernel
theorem dX4_ofRule_2 : decode cX4_ofRule 2 = .ok (.invokevirtual 112, 3) := by decide +kernel
theorem dX4_ofRule_5 : decode cX4_ofRule 5 = .ok (.ifCond .eq 17, 3) := by decide +kernel
theorem dX4_ofRule_8 : decode cX4_ofRule 8 = .ok (.aload_n 0, 1) := by decide +kernel
theorem dX4_ofRule_9 : decode cX4_ofRule 9 = .ok (.aload_n 0, 1) := by decide +kernel
theorem dX4_ofRule_10 : decode cX4_ofRule 10 = .ok (.iload_n 1, 1) := by decide +kernel
theorem dX4_ofRule_11 : decode cX4_ofRule 11 = .ok (.iconst 0, 1) := by decide +kernel
theorem dX4_ofRule_12 : decode cX4_ofRule 12 = .ok (.invokevirtual 109, 3) := by decide +kernel
theorem dX4_ofRule_15 : decode cX4_ofRule 15 = .ok (.iload_n 2, 1) := by decide +kernel
theorem dX4_ofRule_16 : decode cX4_ofRule 16 = .ok (.invokevirtual 55, 3) := by decide +kernel
theorem dX4_ofRule_19 : decode cX4_ofRule 19 = .ok (.goto 4, 3) := by decide +kernel
theorem dX4_ofRule_22 : decode cX4_ofRule 22 = .ok (.iconst (-1), 1) := by decide +kernel
theorem dX4_ofRule_23 : decode cX4_ofRule 23 = .ok (.ireturn, 1) := by decide +kernel
theorem dX4_rank_0 : decode cX4_rank 0 = .ok (.aload_n 0, 1) := by decide +kernel
theorem dX4_rank_1 : decode cX4_rank 1 = .ok (.iload_n 1, 1) := by decide +kernel
theorem dX4_rank_2 : decode cX4_rank 2 = .ok (.iconst 4, 1) := by decide +kernel
theorem dX4_rank_3 : decode cX4_rank 3 = .ok (.invokevirtual 177, 3) := by decide +kernel
theorem dX4_rank_6 : decode cX4_rank 6 = .ok (.ireturn, 1) := by decide +kernel
theorem dX4_action_0 : decode cX4_action 0 = .ok (.aload_n 0, 1) := by decide +kernel
theorem dX4_action_1 : decode cX4_action 1 = .ok (.iload_n 1, 1) := by decide +kernel
theorem dX4_action_2 : decode cX4_action 2 = .ok (.iconst 5, 1) := by decide +kernel
theorem dX4_action_3 : decode cX4_action 3 = .ok (.invokevirtual 177, 3) := by decide +kernel
theorem dX4_action_6 : decode cX4_action 6 = .ok (.ireturn, 1) := by decide +kernel
theorem dX4_hits_0 : decode cX4_hits 0 = .ok (.aload_n 0, 1) := by decide +kernel
theorem dX4_hits_1 : decode cX4_hits 1 = .ok (.iload_n 1, 1) := by decide +kernel
theorem dX4_hits_2 : decode cX4_hits 2 = .ok (.bipush 6, 2) := by decide +kernel
theorem dX4_hits_4 : decode cX4_hits 4 = .ok (.invokevirtual 177, 3) := by decide +kernel
theorem dX4_hits_7 : decode cX4_hits 7 = .ok (.ireturn, 1) := by decide +kernel
theorem dX4_hides_0 : decode cX4_hides 0 = .ok (.aload_n 0, 1) := by decide +kernel
theorem dX4_hides_1 : decode cX4_hides 1 = .ok (.iload_n 1, 1) := by decide +kernel
theorem dX4_hides_2 : decode cX4_hides 2 = .ok (.invokevirtual 51, 3) := by decide +kernel
theorem dX4_hides_5 : decode cX4_hides 5 = .ok (.ifCond .ne 7, 3) := by decide +kernel
theorem dX4_hides_8 : decode cX4_hides 8 = .ok (.iconst 1, 1) := by decide +kernel
theorem dX4_hides_9 : decode cX4_hides 9 = .ok (.goto 4, 3) := by decide +kernel
theorem dX4_hides_12 : decode cX4_hides 12 = .ok (.iconst 0, 1) := by decide +kernel
theorem dX4_hides_13 : decode cX4_hides 13 = .ok (.istore_n 3, 1) := by decide +kernel
theorem dX4_hides_14 : decode cX4_hides 14 = .ok (.iconst 0, 1) := by decide +kernel
theorem dX4_hides_15 : decode cX4_hides 15 = .ok (.istore 4, 2) := by decide +kernel
theorem dX4_hides_17 : decode cX4_hides 17 = .ok (.iload 4, 2) := by decide +kernel
theorem dX4_hides_19 : decode cX4_hides 19 = .ok (.sipush 256, 3) := by decide +kernel
theorem dX4_hides_22 : decode cX4_hides 22 = .ok (.if_icmp .ge 39, 3) := by decide +kernel
theorem dX4_hides_25 : decode cX4_hides 25 = .ok (.iload_n 3, 1) := by decide +kernel
theorem dX4_hides_26 : decode cX4_hides 26 = .ok (.ifCond .eq 35, 3) := by decide +kernel
theorem dX4_hides_29 : decode cX4_hides 29 = .ok (.aload_n 0, 1) := by decide +kernel
theorem dX4_hides_30 : decode cX4_hides 30 = .ok (.iload_n 2, 1) := by decide +kernel
theorem dX4_hides_31 : decode cX4_hides 31 = .ok (.iload 4, 2) := by decide +kernel
theorem dX4_hides_33 : decode cX4_hides 33 = .ok (.invokevirtual 127, 3) := by decide +kernel
theorem dX4_hides_36 : decode cX4_hides 36 = .ok (.ifCond .eq 13, 3) := by decide +kernel
theorem dX4_hides_39 : decode cX4_hides 39 = .ok (.aload_n 0, 1) := by decide +kernel
theorem dX4_hides_40 : decode cX4_hides 40 = .ok (.iload_n 1, 1) := by decide +kernel
theorem dX4_hides_41 : decode cX4_hides 41 = .ok (.iload 4, 2) := by decide +kernel
theorem dX4_hides_43 : decode cX4_hides 43 = .ok (.invokevirtual 127, 3) := by decide +kernel
theorem dX4_hides_46 : decode cX4_hides 46 = .ok (.ifCond .eq 7, 3) := by decide +kernel
theorem dX4_hides_49 : decode cX4_hides 49 = .ok (.iconst 1, 1) := by decide +kernel
theorem dX4_hides_50 : decode cX4_hides 50 = .ok (.goto 4, 3) := by decide +kernel
theorem dX4_hides_53 : decode cX4_hides 53 = .ok (.iconst 0, 1) := by decide +kernel
theorem dX4_hides_54 : decode cX4_hides 54 = .ok (.istore_n 3, 1) := by decide +kernel
theorem dX4_hides_55 : decode cX4_hides 55 = .ok (.iinc 4 1, 3) := by decide +kernel
theorem dX4_hides_58 : decode cX4_hides 58 = .ok (.goto (-41), 3) := by decide +kernel
theorem dX4_hides_61 : decode cX4_hides 61 = .ok (.iload_n 3, 1) := by decide +kernel
theorem dX4_hides_62 : decode cX4_hides 62 = .ok (.ireturn, 1) := by decide +kernel
theorem dX4_hiddenBy_0 : decode cX4_hiddenBy 0 = .ok (.iload_n 1, 1) := by decide +kernel
theorem dX4_hiddenBy_1 : decode cX4_hiddenBy 1 = .ok (.invokestatic 168, 3) := by decide +kernel
theorem dX4_hiddenBy_4 : decode cX4_hiddenBy 4 = .ok (.ifCond .ne 5, 3) := by decide +kernel
theorem dX4_hiddenBy_7 : decode cX4_hiddenBy 7 = .ok (.iconst (-1), 1) := by decide +kernel
theorem dX4_hiddenBy_8 : decode cX4_hiddenBy 8 = .ok (.ireturn, 1) := by decide +kernel
theorem dX4_hiddenBy_9 : decode cX4_hiddenBy 9 = .ok (.iconst 0, 1) := by decide +kernel
theorem dX4_hiddenBy_10 : decode cX4_hiddenBy 10 = .ok (.istore_n 2, 1) := by decide +kernel
theorem dX4_hiddenBy_11 : decode cX4_hiddenBy 11 = .ok (.iload_n 2, 1) := by decide +kernel
theorem dX4_hiddenBy_12 : decode cX4_hiddenBy 12 = .ok (.iload_n 1, 1) := by decide +kernel
theorem dX4_hiddenBy_13 : decode cX4_hiddenBy 13 = .ok (.if_icmp .ge 28, 3) := by decide +kernel
theorem dX4_hiddenBy_16 : decode cX4_hiddenBy 16 = .ok (.aload_n 0, 1) := by decide +kernel
theorem dX4_hiddenBy_17 : decode cX4_hiddenBy 17 = .ok (.iload_n 1, 1) := by decide +kernel
theorem dX4_hiddenBy_18 : decode cX4_hiddenBy 18 = .ok (.invokevirtual 51, 3) := by decide +kernel
theorem dX4_hiddenBy_21 : decode cX4_hiddenBy 21 = .ok (.ifCond .ne 20, 3) := by decide +kernel
theorem dX4_hiddenBy_24 : decode cX4_hiddenBy 24 = .ok (.aload_n 0, 1) := by decide +kernel
theorem dX4_hiddenBy_25 : decode cX4_hiddenBy 25 = .ok (.iload_n 2, 1) := by decide +kernel
theorem dX4_hiddenBy_26 : decode cX4_hiddenBy 26 = .ok (.iload_n 1, 1) := by decide +kernel
theorem dX4_hiddenBy_27 : decode cX4_hiddenBy 27 = .ok (.invokevirtual 180, 3) := by decide +kernel
theorem dX4_hiddenBy_30 : decode cX4_hiddenBy 30 = .ok (.ifCond .eq 5, 3) := by decide +kernel
theorem dX4_hiddenBy_33 : decode cX4_hiddenBy 33 = .ok (.iload_n 2, 1) := by decide +kernel
theorem dX4_hiddenBy_34 : decode cX4_hiddenBy 34 = .ok (.ireturn, 1) := by decide +kernel
theorem dX4_hiddenBy_35 : decode cX4_hiddenBy 35 = .ok (.iinc 2 1, 3) := by decide +kernel
theorem dX4_hiddenBy_38 : decode cX4_hiddenBy 38 = .ok (.goto (-27), 3) := by decide +kernel
theorem dX4_hiddenBy_41 : decode cX4_hiddenBy 41 = .ok (.bipush (-4), 2) := by decide +kernel
theorem dX4_hiddenBy_43 : decode cX4_hiddenBy 43 = .ok (.ireturn, 1) := by decide +kernel
theorem dX4_keysWith_0 : decode cX4_keysWith 0 = .ok (.iconst 0, 1) := by decide +kernel
theorem dX4_keysWith_1 : decode cX4_keysWith 1 = .ok (.istore_n 2, 1) := by decide +kernel
theorem dX4_keysWith_2 : decode cX4_keysWith 2 = .ok (.iconst 0, 1) := by decide +kernel
theorem dX4_keysWith_3 : decode cX4_keysWith 3 = .ok (.istore_n 3, 1) := by decide +kernel
theorem dX4_keysWith_4 : decode cX4_keysWith 4 = .ok (.iload_n 3, 1) := by decide +kernel
theorem dX4_keysWith_5 : decode cX4_keysWith 5 = .ok (.sipush 256, 3) := by decide +kernel
theorem dX4_keysWith_8 : decode cX4_keysWith 8 = .ok (.if_icmp .ge 26, 3) := by decide +kernel
theorem dX4_keysWith_11 : decode cX4_keysWith 11 = .ok (.iload_n 2, 1) := by decide +kernel
theorem dX4_keysWith_12 : decode cX4_keysWith 12 = .ok (.aload_n 0, 1) := by decide +kernel
theorem dX4_keysWith_13 : decode cX4_keysWith 13 = .ok (.iload_n 3, 1) := by decide +kernel
theorem dX4_keysWith_14 : decode cX4_keysWith 14 = .ok (.invokevirtual 137, 3) := by decide +kernel
theorem dX4_keysWith_17 : decode cX4_keysWith 17 = .ok (.iload_n 1, 1) := by decide +kernel
theorem dX4_keysWith_18 : decode cX4_keysWith 18 = .ok (.if_icmp .ne 7, 3) := by decide +kernel
theorem dX4_keysWith_21 : decode cX4_keysWith 21 = .ok (.iconst 1, 1) := by decide +kernel
theorem dX4_keysWith_22 : decode cX4_keysWith 22 = .ok (.goto 4, 3) := by decide +kernel
theorem dX4_keysWith_25 : decode cX4_keysWith 25 = .ok (.iconst 0, 1) := by decide +kernel
theorem dX4_keysWith_26 : decode cX4_keysWith 26 = .ok (.iadd, 1) := by decide +kernel
theorem dX4_keysWith_27 : decode cX4_keysWith 27 = .ok (.istore_n 2, 1) := by decide +kernel
theorem dX4_keysWith_28 : decode cX4_keysWith 28 = .ok (.iinc 3 1, 3) := by decide +kernel
theorem dX4_keysWith_31 : decode cX4_keysWith 31 = .ok (.goto (-27), 3) := by decide +kernel
theorem dX4_keysWith_34 : decode cX4_keysWith 34 = .ok (.iload_n 2, 1) := by decide +kernel
theorem dX4_keysWith_35 : decode cX4_keysWith 35 = .ok (.ireturn, 1) := by decide +kernel
theorem dX4_keysFor_0 : decode cX4_keysFor 0 = .ok (.iload_n 1, 1) := by decide +kernel
theorem dX4_keysFor_1 : decode cX4_keysFor 1 = .ok (.invokestatic 168, 3) := by decide +kernel
theorem dX4_keysFor_4 : decode cX4_keysFor 4 = .ok (.ifCond .eq 11, 3) := by decide +kernel
theorem dX4_keysFor_7 : decode cX4_keysFor 7 = .ok (.aload_n 0, 1) := by decide +kernel
theorem dX4_keysFor_8 : decode cX4_keysFor 8 = .ok (.iload_n 1, 1) := by decide +kernel
theorem dX4_keysFor_9 : decode cX4_keysFor 9 = .ok (.invokevirtual 183, 3) := by decide +kernel
theorem dX4_keysFor_12 : decode cX4_keysFor 12 = .ok (.goto 4, 3) := by decide +kernel
theorem dX4_keysFor_15 : decode cX4_keysFor 15 = .ok (.iconst (-1), 1) := by decide +kernel
theorem dX4_keysFor_16 : decode cX4_keysFor 16 = .ok (.ireturn, 1) := by decide +kernel
theorem dX4_wouldMove_0 : decode cX4_wouldMove 0 = .ok (.iload_n 1, 1) := by decide +kernel
theorem dX4_wouldMove_1 : decode cX4_wouldMove 1 = .ok (.iconst 0, 1) := by decide +kernel
theorem dX4_wouldMove_2 : decode cX4_wouldMove 2 = .ok (.bipush 99, 2) := by decide +kernel
theorem dX4_wouldMove_4 : decode cX4_wouldMove 4 = .ok (.invokestatic 28, 3) := by decide +kernel
theorem dX4_wouldMove_7 : decode cX4_wouldMove 7 = .ok (.ifCond .ne 6, 3) := by decide +kernel
theorem dX4_wouldMove_10 : decode cX4_wouldMove 10 = .ok (.bipush (-2), 2) := by decide +kernel
theorem dX4_wouldMove_12 : decode cX4_wouldMove 12 = .ok (.ireturn, 1) := by decide +kernel
theorem dX4_wouldMove_13 : decode cX4_wouldMove 13 = .ok (.aload_n 0, 1) := by decide +kernel
theorem dX4_wouldMove_14 : decode cX4_wouldMove 14 = .ok (.invokevirtual 93, 3) := by decide +kernel
theorem dX4_wouldMove_17 : decode cX4_wouldMove 17 = .ok (.ifCond .ne 6, 3) := by decide +kernel
theorem dX4_wouldMove_20 : decode cX4_wouldMove 20 = .ok (.bipush (-3), 2) := by decide +kernel
theorem dX4_wouldMove_22 : decode cX4_wouldMove 22 = .ok (.ireturn, 1) := by decide +kernel
theorem dX4_wouldMove_23 : decode cX4_wouldMove 23 = .ok (.aload_n 0, 1) := by decide +kernel
theorem dX4_wouldMove_24 : decode cX4_wouldMove 24 = .ok (.iload_n 1, 1) := by decide +kernel
theorem dX4_wouldMove_25 : decode cX4_wouldMove 25 = .ok (.invokevirtual 72, 3) := by decide +kernel
theorem dX4_wouldMove_28 : decode cX4_wouldMove 28 = .ok (.istore_n 2, 1) := by decide +kernel
theorem dX4_wouldMove_29 : decode cX4_wouldMove 29 = .ok (.iload_n 2, 1) := by decide +kernel
theorem dX4_wouldMove_30 : decode cX4_wouldMove 30 = .ok (.ifCond .ge 9, 3) := by decide +kernel
theorem dX4_wouldMove_33 : decode cX4_wouldMove 33 = .ok (.iconst (-1), 1) := by decide +kernel
theorem dX4_wouldMove_34 : decode cX4_wouldMove 34 = .ok (.iload_n 2, 1) := by decide +kernel
theorem dX4_wouldMove_35 : decode cX4_wouldMove 35 = .ok (.isub, 1) := by decide +kernel
theorem dX4_wouldMove_36 : decode cX4_wouldMove 36 = .ok (.goto 4, 3) := by decide +kernel
theorem dX4_wouldMove_39 : decode cX4_wouldMove 39 = .ok (.iload_n 2, 1) := by decide +kernel
theorem dX4_wouldMove_40 : decode cX4_wouldMove 40 = .ok (.ireturn, 1) := by decide +kernel
theorem dX4_entriesFor_0 : decode cX4_entriesFor 0 = .ok (.iload_n 1, 1) := by decide +kernel
theorem dX4_entriesFor_1 : decode cX4_entriesFor 1 = .ok (.iload_n 2, 1) := by decide +kernel
theorem dX4_entriesFor_2 : decode cX4_entriesFor 2 = .ok (.invokestatic 103, 3) := by decide +kernel
theorem dX4_entriesFor_5 : decode cX4_entriesFor 5 = .ok (.ifCond .eq 11, 3) := by decide +kernel
theorem dX4_entriesFor_8 : decode cX4_entriesFor 8 = .ok (.iload_n 1, 1) := by decide +kernel
theorem dX4_entriesFor_9 : decode cX4_entriesFor 9 = .ok (.iload_n 2, 1) := by decide +kernel
theorem dX4_entriesFor_10 : decode cX4_entriesFor 10 = .ok (.invokestatic 106, 3) := by decide +kernel
theorem dX4_entriesFor_13 : decode cX4_entriesFor 13 = .ok (.goto 5, 3) := by decide +kernel
theorem dX4_entriesFor_16 : decode cX4_entriesFor 16 = .ok (.bipush (-2), 2) := by decide +kernel
theorem dX4_entriesFor_18 : decode cX4_entriesFor 18 = .ok (.ireturn, 1) := by decide +kernel
theorem dX4_rules_0 : decode cX4_rules 0 = .ok (.iconst 0, 1) := by decide +kernel
theorem dX4_rules_1 : decode cX4_rules 1 = .ok (.istore_n 1, 1) := by decide +kernel
theorem dX4_rules_2 : decode cX4_rules 2 = .ok (.iconst 0, 1) := by decide +kernel
theorem dX4_rules_3 : decode cX4_rules 3 = .ok (.istore_n 2, 1) := by decide +kernel
theorem dX4_rules_4 : decode cX4_rules 4 = .ok (.iload_n 2, 1) := by decide +kernel
theorem dX4_rules_5 : decode cX4_rules 5 = .ok (.bipush 32, 2) := by decide +kernel
theorem dX4_rules_7 : decode cX4_rules 7 = .ok (.if_icmp .ge 34, 3) := by decide +kernel
theorem dX4_rules_10 : decode cX4_rules 10 = .ok (.iload_n 1, 1) := by decide +kernel
theorem dX4_rules_11 : decode cX4_rules 11 = .ok (.aload_n 0, 1) := by decide +kernel
theorem dX4_rules_12 : decode cX4_rules 12 = .ok (.iload_n 2, 1) := by decide +kernel
theorem dX4_rules_13 : decode cX4_rules 13 = .ok (.invokevirtual 51, 3) := by decide +kernel
theorem dX4_rules_16 : decode cX4_rules 16 = .ok (.ifCond .ne 16, 3) := by decide +kernel
theorem dX4_rules_19 : decode cX4_rules 19 = .ok (.aload_n 0, 1) := by decide +kernel
theorem dX4_rules_20 : decode cX4_rules 20 = .ok (.iload_n 2, 1) := by decide +kernel
theorem dX4_rules_21 : decode cX4_rules 21 = .ok (.iconst 1, 1) := by decide +kernel
theorem dX4_rules_22 : decode cX4_rules 22 = .ok (.invokevirtual 55, 3) := by decide +kernel
theorem dX4_rules_25 : decode cX4_rules 25 = .ok (.ifCond .ne 7, 3) := by decide +kernel
theorem dX4_rules_28 : decode cX4_rules 28 = .ok (.iconst 1, 1) := by decide +kernel
theorem dX4_rules_29 : decode cX4_rules 29 = .ok (.goto 4, 3) := by decide +kernel
theorem dX4_rules_32 : decode cX4_rules 32 = .ok (.iconst 0, 1) := by decide +kernel
theorem dX4_rules_33 : decode cX4_rules 33 = .ok (.iadd, 1) := by decide +kernel
theorem dX4_rules_34 : decode cX4_rules 34 = .ok (.istore_n 1, 1) := by decide +kernel
theorem dX4_rules_35 : decode cX4_rules 35 = .ok (.iinc 2 1, 3) := by decide +kernel
theorem dX4_rules_38 : decode cX4_rules 38 = .ok (.goto (-34), 3) := by decide +kernel
theorem dX4_rules_41 : decode cX4_rules 41 = .ok (.iload_n 1, 1) := by decide +kernel
theorem dX4_rules_42 : decode cX4_rules 42 = .ok (.ireturn, 1) := by decide +kernel
theorem dX4_entriesWithoutKeys_0 : decode cX4_entriesWithoutKeys 0 = .ok (.iconst 0, 1) := by decide +kernel
theorem dX4_entriesWithoutKeys_1 : decode cX4_entriesWithoutKeys 1 = .ok (.istore_n 1, 1) := by decide +kernel
theorem dX4_entriesWithoutKeys_2 : decode cX4_entriesWithoutKeys 2 = .ok (.iconst 0, 1) := by decide +kernel
theorem dX4_entriesWithoutKeys_3 : decode cX4_entriesWithoutKeys 3 = .ok (.istore_n 2, 1) := by decide +kernel
theorem dX4_entriesWithoutKeys_4 : decode cX4_entriesWithoutKeys 4 = .ok (.iload_n 2, 1) := by decide +kernel
theorem dX4_entriesWithoutKeys_5 : decode cX4_entriesWithoutKeys 5 = .ok (.bipush 32, 2) := by decide +kernel
theorem dX4_entriesWithoutKeys_7 : decode cX4_entriesWithoutKeys 7 = .ok (.if_icmp .ge 33, 3) := by decide +kernel
theorem dX4_entriesWithoutKeys_10 : decode cX4_entriesWithoutKeys 10 = .ok (.iload_n 1, 1) := by decide +kernel
theorem dX4_entriesWithoutKeys_11 : decode cX4_entriesWithoutKeys 11 = .ok (.aload_n 0, 1) := by decide +kernel
theorem dX4_entriesWithoutKeys_12 : decode cX4_entriesWithoutKeys 12 = .ok (.iload_n 2, 1) := by decide +kernel
theorem dX4_entriesWithoutKeys_13 : decode cX4_entriesWithoutKeys 13 = .ok (.invokevirtual 51, 3) := by decide +kernel
theorem dX4_entriesWithoutKeys_16 : decode cX4_entriesWithoutKeys 16 = .ok (.ifCond .ne 15, 3) := by decide +kernel
theorem dX4_entriesWithoutKeys_19 : decode cX4_entriesWithoutKeys 19 = .ok (.aload_n 0, 1) := by decide +kernel
theorem dX4_entriesWithoutKeys_20 : decode cX4_entriesWithoutKeys 20 = .ok (.iload_n 2, 1) := by decide +kernel
theorem dX4_entriesWithoutKeys_21 : decode cX4_entriesWithoutKeys 21 = .ok (.invokevirtual 183, 3) := by decide +kernel
theorem dX4_entriesWithoutKeys_24 : decode cX4_entriesWithoutKeys 24 = .ok (.ifCond .ne 7, 3) := by decide +kernel
theorem dX4_entriesWithoutKeys_27 : decode cX4_entriesWithoutKeys 27 = .ok (.iconst 1, 1) := by decide +kernel
theorem dX4_entriesWithoutKeys_28 : decode cX4_entriesWithoutKeys 28 = .ok (.goto 4, 3) := by decide +kernel
theorem dX4_entriesWithoutKeys_31 : decode cX4_entriesWithoutKeys 31 = .ok (.iconst 0, 1) := by decide +kernel
theorem dX4_entriesWithoutKeys_32 : decode cX4_entriesWithoutKeys 32 = .ok (.iadd, 1) := by decide +kernel
theorem dX4_entriesWithoutKeys_33 : decode cX4_entriesWithoutKeys 33 = .ok (.istore_n 1, 1) := by decide +kernel
theorem dX4_entriesWithoutKeys_34 : decode cX4_entriesWithoutKeys 34 = .ok (.iinc 2 1, 3) := by decide +kernel
theorem dX4_entriesWithoutKeys_37 : decode cX4_entriesWithoutKeys 37 = .ok (.goto (-33), 3) := by decide +kernel
theorem dX4_entriesWithoutKeys_40 : decode cX4_entriesWithoutKeys 40 = .ok (.iload_n 1, 1) := by decide +kernel
theorem dX4_entriesWithoutKeys_41 : decode cX4_entriesWithoutKeys 41 = .ok (.ireturn, 1) := by decide +kernel
theorem dX4_total_0 : decode cX4_total 0 = .ok (.iload_n 1, 1) := by decide +kernel
theorem dX4_total_1 : decode cX4_total 1 = .ok (.tableswitch 136 0 10 #[59, 64, 69, 78, 87, 96, 105, 114, 119, 126, 131], 59) := by decide +kernel
theorem dX4_total_60 : decode cX4_total 60 = .ok (.aload_n 0, 1) := by decide +kernel
theorem dX4_total_61 : decode cX4_total 61 = .ok (.invokevirtual 44, 3) := by decide +kernel
theorem dX4_total_64 : decode cX4_total 64 = .ok (.ireturn, 1) := by decide +kernel
theorem dX4_total_65 : decode cX4_total 65 = .ok (.aload_n 0, 1) := by decide +kernel
theorem dX4_total_66 : decode cX4_total 66 = .ok (.invokevirtual 186, 3) := by decide +kernel
theorem dX4_total_69 : decode cX4_total 69 = .ok (.ireturn, 1) := by decide +kernel
theorem dX4_total_70 : decode cX4_total 70 = .ok (.aload_n 0, 1) := by decide +kernel
theorem dX4_total_71 : decode cX4_total 71 = .ok (.getfield 7, 3) := by decide +kernel
theorem dX4_total_74 : decode cX4_total 74 = .ok (.sipush 225, 3) := by decide +kernel
theorem dX4_total_77 : decode cX4_total 77 = .ok (.iaload, 1) := by decide +kernel
theorem dX4_total_78 : decode cX4_total 78 = .ok (.ireturn, 1) := by decide +kernel
theorem dX4_total_79 : decode cX4_total 79 = .ok (.aload_n 0, 1) := by decide +kernel
theorem dX4_total_80 : decode cX4_total 80 = .ok (.getfield 7, 3) := by decide +kernel
theorem dX4_total_83 : decode cX4_total 83 = .ok (.sipush 224, 3) := by decide +kernel
theorem dX4_total_86 : decode cX4_total 86 = .ok (.iaload, 1) := by decide +kernel
theorem dX4_total_87 : decode cX4_total 87 = .ok (.ireturn, 1) := by decide +kernel
theorem dX4_total_88 : decode cX4_total 88 = .ok (.aload_n 0, 1) := by decide +kernel
theorem dX4_total_89 : decode cX4_total 89 = .ok (.getfield 7, 3) := by decide +kernel
theorem dX4_total_92 : decode cX4_total 92 = .ok (.sipush 226, 3) := by decide +kernel
theorem dX4_total_95 : decode cX4_total 95 = .ok (.iaload, 1) := by decide +kernel
theorem dX4_total_96 : decode cX4_total 96 = .ok (.ireturn, 1) := by decide +kernel
theorem dX4_total_97 : decode cX4_total 97 = .ok (.aload_n 0, 1) := by decide +kernel
theorem dX4_total_98 : decode cX4_total 98 = .ok (.getfield 7, 3) := by decide +kernel
theorem dX4_total_101 : decode cX4_total 101 = .ok (.sipush 227, 3) := by decide +kernel
theorem dX4_total_104 : decode cX4_total 104 = .ok (.iaload, 1) := by decide +kernel
theorem dX4_total_105 : decode cX4_total 105 = .ok (.ireturn, 1) := by decide +kernel
theorem dX4_total_106 : decode cX4_total 106 = .ok (.aload_n 0, 1) := by decide +kernel
theorem dX4_total_107 : decode cX4_total 107 = .ok (.getfield 7, 3) := by decide +kernel
theorem dX4_total_110 : decode cX4_total 110 = .ok (.sipush 228, 3) := by decide +kernel
theorem dX4_total_113 : decode cX4_total 113 = .ok (.iaload, 1) := by decide +kernel
theorem dX4_total_114 : decode cX4_total 114 = .ok (.ireturn, 1) := by decide +kernel
theorem dX4_total_115 : decode cX4_total 115 = .ok (.aload_n 0, 1) := by decide +kernel
theorem dX4_total_116 : decode cX4_total 116 = .ok (.invokevirtual 189, 3) := by decide +kernel
theorem dX4_total_119 : decode cX4_total 119 = .ok (.ireturn, 1) := by decide +kernel
theorem dX4_total_120 : decode cX4_total 120 = .ok (.aload_n 0, 1) := by decide +kernel
theorem dX4_total_121 : decode cX4_total 121 = .ok (.bipush 32, 2) := by decide +kernel
theorem dX4_total_123 : decode cX4_total 123 = .ok (.invokevirtual 183, 3) := by decide +kernel
theorem dX4_total_126 : decode cX4_total 126 = .ok (.ireturn, 1) := by decide +kernel
theorem dX4_total_127 : decode cX4_total 127 = .ok (.aload_n 0, 1) := by decide +kernel
theorem dX4_total_128 : decode cX4_total 128 = .ok (.getfield 32, 3) := by decide +kernel
theorem dX4_total_131 : decode cX4_total 131 = .ok (.ireturn, 1) := by decide +kernel
theorem dX4_total_132 : decode cX4_total 132 = .ok (.aload_n 0, 1) := by decide +kernel
theorem dX4_total_133 : decode cX4_total 133 = .ok (.getfield 143, 3) := by decide +kernel
theorem dX4_total_136 : decode cX4_total 136 = .ok (.ireturn, 1) := by decide +kernel
theorem dX4_total_137 : decode cX4_total 137 = .ok (.bipush (-2), 2) := by decide +kernel
theorem dX4_total_139 : decode cX4_total 139 = .ok (.ireturn, 1) := by decide +kernel
