theorem dX0_init_0 : decode cX0_init 0 = .ok (.aload_n 0, 1) := by decide +kernel
theorem dX0_init_1 : decode cX0_init 1 = .ok (.invokespecial 1, 3) := by decide +kernel
theorem dX0_init_4 : decode cX0_init 4 = .ok (.return_, 1) := by decide +kernel
theorem dX0_open_0 : decode cX0_open 0 = .ok (.aload_n 0, 1) := by decide +kernel
theorem dX0_open_1 : decode cX0_open 1 = .ok (.aload_n 1, 1) := by decide +kernel
theorem dX0_open_2 : decode cX0_open 2 = .ok (.putfield 7, 3) := by decide +kernel
theorem dX0_open_5 : decode cX0_open 5 = .ok (.aload_n 0, 1) := by decide +kernel
theorem dX0_open_6 : decode cX0_open 6 = .ok (.iload_n 2, 1) := by decide +kernel
theorem dX0_open_7 : decode cX0_open 7 = .ok (.putfield 13, 3) := by decide +kernel
theorem dX0_open_10 : decode cX0_open 10 = .ok (.aload_n 0, 1) := by decide +kernel
theorem dX0_open_11 : decode cX0_open 11 = .ok (.iload_n 3, 1) := by decide +kernel
theorem dX0_open_12 : decode cX0_open 12 = .ok (.putfield 17, 3) := by decide +kernel
theorem dX0_open_15 : decode cX0_open 15 = .ok (.return_, 1) := by decide +kernel
theorem dX0_close_0 : decode cX0_close 0 = .ok (.aload_n 0, 1) := by decide +kernel
theorem dX0_close_1 : decode cX0_close 1 = .ok (.aconst_null, 1) := by decide +kernel
theorem dX0_close_2 : decode cX0_close 2 = .ok (.putfield 7, 3) := by decide +kernel
theorem dX0_close_5 : decode cX0_close 5 = .ok (.return_, 1) := by decide +kernel
theorem dX0_change_0 : decode cX0_change 0 = .ok (.aload_n 0, 1) := by decide +kernel
theorem dX0_change_1 : decode cX0_change 1 = .ok (.aload_n 1, 1) := by decide +kernel
theorem dX0_change_2 : decode cX0_change 2 = .ok (.putfield 7, 3) := by decide +kernel
theorem dX0_change_5 : decode cX0_change 5 = .ok (.return_, 1) := by decide +kernel
theorem dX0_isStale_0 : decode cX0_isStale 0 = .ok (.aload_n 0, 1) := by decide +kernel
theorem dX0_isStale_1 : decode cX0_isStale 1 = .ok (.getfield 7, 3) := by decide +kernel
theorem dX0_isStale_4 : decode cX0_isStale 4 = .ok (.ifnonnull 7, 3) := by decide +kernel
theorem dX0_isStale_7 : decode cX0_isStale 7 = .ok (.iconst 1, 1) := by decide +kernel
theorem dX0_isStale_8 : decode cX0_isStale 8 = .ok (.goto 4, 3) := by decide +kernel
theorem dX0_isStale_11 : decode cX0_isStale 11 = .ok (.iconst 0, 1) := by decide +kernel
theorem dX0_isStale_12 : decode cX0_isStale 12 = .ok (.ireturn, 1) := by decide +kernel
theorem dX0_root_0 : decode cX0_root 0 = .ok (.aload_n 0, 1) := by decide +kernel
theorem dX0_root_1 : decode cX0_root 1 = .ok (.getfield 7, 3) := by decide +kernel
theorem dX0_root_4 : decode cX0_root 4 = .ok (.areturn, 1) := by decide +kernel
theorem dX0_token_0 : decode cX0_token 0 = .ok (.aload_n 0, 1) := by decide +kernel
theorem dX0_token_1 : decode cX0_token 1 = .ok (.getfield 13, 3) := by decide +kernel
theorem dX0_token_4 : decode cX0_token 4 = .ok (.ireturn, 1) := by decide +kernel
theorem dX0_from_0 : decode cX0_from 0 = .ok (.aload_n 0, 1) := by decide +kernel
theorem dX0_from_1 : decode cX0_from 1 = .ok (.getfield 17, 3) := by decide +kernel
theorem dX0_from_4 : decode cX0_from 4 = .ok (.ireturn, 1) := by decide +kernel
theorem dX1_init_0 : decode cX1_init 0 = .ok (.aload_n 0, 1) := by decide +kernel
theorem dX1_init_1 : decode cX1_init 1 = .ok (.invokespecial 3, 3) := by decide +kernel
theorem dX1_init_4 : decode cX1_init 4 = .ok (.aload_n 0, 1) := by decide +kernel
theorem dX1_init_5 : decode cX1_init 5 = .ok (.iconst 4, 1) := by decide +kernel
theorem dX1_init_6 : decode cX1_init 6 = .ok (.putfield 9, 3) := by decide +kernel
theorem dX1_init_9 : decode cX1_init 9 = .ok (.return_, 1) := by decide +kernel
theorem dX1_open_0 : decode cX1_open 0 = .ok (.aload_n 0, 1) := by decide +kernel
theorem dX1_open_1 : decode cX1_open 1 = .ok (.iload_n 1, 1) := by decide +kernel
theorem dX1_open_2 : decode cX1_open 2 = .ok (.putfield 9, 3) := by decide +kernel
theorem dX1_open_5 : decode cX1_open 5 = .ok (.aload_n 0, 1) := by decide +kernel
theorem dX1_open_6 : decode cX1_open 6 = .ok (.iconst 0, 1) := by decide +kernel
theorem dX1_open_7 : decode cX1_open 7 = .ok (.putfield 15, 3) := by decide +kernel
theorem dX1_open_10 : decode cX1_open 10 = .ok (.return_, 1) := by decide +kernel
theorem dX1_width_0 : decode cX1_width 0 = .ok (.aload_n 0, 1) := by decide +kernel
theorem dX1_width_1 : decode cX1_width 1 = .ok (.getfield 9, 3) := by decide +kernel
theorem dX1_width_4 : decode cX1_width 4 = .ok (.ireturn, 1) := by decide +kernel
theorem dX1_made_0 : decode cX1_made 0 = .ok (.aload_n 0, 1) := by decide +kernel
theorem dX1_made_1 : decode cX1_made 1 = .ok (.getfield 15, 3) := by decide +kernel
theorem dX1_made_4 : decode cX1_made 4 = .ok (.ireturn, 1) := by decide +kernel
theorem dX1_newToken_0 : decode cX1_newToken 0 = .ok (.aload_n 0, 1) := by decide +kernel
theorem dX1_newToken_1 : decode cX1_newToken 1 = .ok (.dup, 1) := by decide +kernel
theorem dX1_newToken_2 : decode cX1_newToken 2 = .ok (.getfield 18, 3) := by decide +kernel
theorem dX1_newToken_5 : decode cX1_newToken 5 = .ok (.dup_x1, 1) := by decide +kernel
theorem dX1_newToken_6 : decode cX1_newToken 6 = .ok (.iconst 1, 1) := by decide +kernel
theorem dX1_newToken_7 : decode cX1_newToken 7 = .ok (.iadd, 1) := by decide +kernel
theorem dX1_newToken_8 : decode cX1_newToken 8 = .ok (.putfield 18, 3) := by decide +kernel
theorem dX1_newToken_11 : decode cX1_newToken 11 = .ok (.ireturn, 1) := by decide +kernel
theorem dX1_newNode_0 : decode cX1_newNode 0 = .ok (.aload_n 0, 1) := by decide +kernel
theorem dX1_newNode_1 : decode cX1_newNode 1 = .ok (.dup, 1) := by decide +kernel
theorem dX1_newNode_2 : decode cX1_newNode 2 = .ok (.getfield 15, 3) := by decide +kernel
theorem dX1_newNode_5 : decode cX1_newNode 5 = .ok (.iconst 1, 1) := by decide +kernel
theorem dX1_newNode_6 : decode cX1_newNode 6 = .ok (.iadd, 1) := by decide +kernel
theorem dX1_newNode_7 : decode cX1_newNode 7 = .ok (.putfield 15, 3) := by decide +kernel
theorem dX1_newNode_10 : decode cX1_newNode 10 = .ok (.new 21, 3) := by decide +kernel
theorem dX1_newNode_13 : decode cX1_newNode 13 = .ok (.dup, 1) := by decide +kernel
theorem dX1_newNode_14 : decode cX1_newNode 14 = .ok (.iload_n 1, 1) := by decide +kernel
theorem dX1_newNode_15 : decode cX1_newNode 15 = .ok (.iload_n 2, 1) := by decide +kernel
theorem dX1_newNode_16 : decode cX1_newNode 16 = .ok (.invokespecial 23, 3) := by decide +kernel
theorem dX1_newNode_19 : decode cX1_newNode 19 = .ok (.areturn, 1) := by decide +kernel
theorem dX1_least_0 : decode cX1_least 0 = .ok (.aload_n 0, 1) := by decide +kernel
theorem dX1_least_1 : decode cX1_least 1 = .ok (.getfield 9, 3) := by decide +kernel
theorem dX1_least_4 : decode cX1_least 4 = .ok (.iconst 1, 1) := by decide +kernel
theorem dX1_least_5 : decode cX1_least 5 = .ok (.iadd, 1) := by decide +kernel
theorem dX1_least_6 : decode cX1_least 6 = .ok (.iconst 2, 1) := by decide +kernel
theorem dX1_least_7 : decode cX1_least 7 = .ok (.idiv, 1) := by decide +kernel
theorem dX1_least_8 : decode cX1_least 8 = .ok (.ireturn, 1) := by decide +kernel
theorem dX1_edited_0 : decode cX1_edited 0 = .ok (.aload_n 1, 1) := by decide +kernel
theorem dX1_edited_1 : decode cX1_edited 1 = .ok (.invokevirtual 26, 3) := by decide +kernel
theorem dX1_edited_4 : decode cX1_edited 4 = .ok (.iload_n 2, 1) := by decide +kernel
theorem dX1_edited_5 : decode cX1_edited 5 = .ok (.if_icmp .ne 5, 3) := by decide +kernel
theorem dX1_edited_8 : decode cX1_edited 8 = .ok (.aload_n 1, 1) := by decide +kernel
theorem dX1_edited_9 : decode cX1_edited 9 = .ok (.areturn, 1) := by decide +kernel
theorem dX1_edited_10 : decode cX1_edited 10 = .ok (.aload_n 0, 1) := by decide +kernel
theorem dX1_edited_11 : decode cX1_edited 11 = .ok (.dup, 1) := by decide +kernel
theorem dX1_edited_12 : decode cX1_edited 12 = .ok (.getfield 15, 3) := by decide +kernel
theorem dX1_edited_15 : decode cX1_edited 15 = .ok (.iconst 1, 1) := by decide +kernel
theorem dX1_edited_16 : decode cX1_edited 16 = .ok (.iadd, 1) := by decide +kernel
theorem dX1_edited_17 : decode cX1_edited 17 = .ok (.putfield 15, 3) := by decide +kernel
theorem dX1_edited_20 : decode cX1_edited 20 = .ok (.new 21, 3) := by decide +kernel
theorem dX1_edited_23 : decode cX1_edited 23 = .ok (.dup, 1) := by decide +kernel
theorem dX1_edited_24 : decode cX1_edited 24 = .ok (.aload_n 1, 1) := by decide +kernel
theorem dX1_edited_25 : decode cX1_edited 25 = .ok (.iload_n 2, 1) := by decide +kernel
theorem dX1_edited_26 : decode cX1_edited 26 = .ok (.invokespecial 30, 3) := by decide +kernel
theorem dX1_edited_29 : decode cX1_edited 29 = .ok (.areturn, 1) := by decide +kernel
theorem dX1_editedKid_0 : decode cX1_editedKid 0 = .ok (.aload_n 1, 1) := by decide +kernel
theorem dX1_editedKid_1 : decode cX1_editedKid 1 = .ok (.iload_n 2, 1) := by decide +kernel
theorem dX1_editedKid_2 : decode cX1_editedKid 2 = .ok (.invokevirtual 33, 3) := by decide +kernel
theorem dX1_editedKid_5 : decode cX1_editedKid 5 = .ok (.astore 4, 2) := by decide +kernel
theorem dX1_editedKid_7 : decode cX1_editedKid 7 = .ok (.aload 4, 2) := by decide +kernel
theorem dX1_editedKid_9 : decode cX1_editedKid 9 = .ok (.ifnonnull 5, 3) := by decide +kernel
theorem dX1_editedKid_12 : decode cX1_editedKid 12 = .ok (.aconst_null, 1) := by decide +kernel
theorem dX1_editedKid_13 : decode cX1_editedKid 13 = .ok (.areturn, 1) := by decide +kernel
theorem dX1_editedKid_14 : decode cX1_editedKid 14 = .ok (.aload_n 0, 1) := by decide +kernel
theorem dX1_editedKid_15 : decode cX1_editedKid 15 = .ok (.aload 4, 2) := by decide +kernel
theorem dX1_editedKid_17 : decode cX1_editedKid 17 = .ok (.iload_n 3, 1) := by decide +kernel
theorem dX1_editedKid_18 : decode cX1_editedKid 18 = .ok (.invokevirtual 37, 3) := by decide +kernel
theorem dX1_editedKid_21 : decode cX1_editedKid 21 = .ok (.astore 5, 2) := by decide +kernel
theorem dX1_editedKid_23 : decode cX1_editedKid 23 = .ok (.aload_n 1, 1) := by decide +kernel
theorem dX1_editedKid_24 : decode cX1_editedKid 24 = .ok (.iload_n 2, 1) := by decide +kernel
theorem dX1_editedKid_25 : decode cX1_editedKid 25 = .ok (.aload 5, 2) := by decide +kernel
theorem dX1_editedKid_27 : decode cX1_editedKid 27 = .ok (.invokevirtual 41, 3) := by decide +kernel
theorem dX1_editedKid_30 : decode cX1_editedKid 30 = .ok (.aload 5, 2) := by decide +kernel
theorem dX1_editedKid_32 : decode cX1_editedKid 32 = .ok (.areturn, 1) := by decide +kernel
theorem dX1_put_0 : decode cX1_put 0 = .ok (.aload_n 1, 1) := by decide +kernel
theorem dX1_put_1 : decode cX1_put 1 = .ok (.ifnull 13, 3) := by decide +kernel
theorem dX1_put_4 : decode cX1_put 4 = .ok (.aload_n 1, 1) := by decide +kernel
theorem dX1_put_5 : decode cX1_put 5 = .ok (.iload_n 3, 1) := by decide +kernel
theorem dX1_put_6 : decode cX1_put 6 = .ok (.invokestatic 45, 3) := by decide +kernel
theorem dX1_put_9 : decode cX1_put 9 = .ok (.iload 4, 2) := by decide +kernel
theorem dX1_put_11 : decode cX1_put 11 = .ok (.if_icmp .ne 5, 3) := by decide +kernel
theorem dX1_put_14 : decode cX1_put 14 = .ok (.aload_n 1, 1) := by decide +kernel
theorem dX1_put_15 : decode cX1_put 15 = .ok (.areturn, 1) := by decide +kernel
theorem dX1_put_16 : decode cX1_put 16 = .ok (.aload_n 0, 1) := by decide +kernel
theorem dX1_put_17 : decode cX1_put 17 = .ok (.aload_n 1, 1) := by decide +kernel
theorem dX1_put_18 : decode cX1_put 18 = .ok (.iload_n 2, 1) := by decide +kernel
theorem dX1_put_19 : decode cX1_put 19 = .ok (.invokevirtual 37, 3) := by decide +kernel
theorem dX1_put_22 : decode cX1_put 22 = .ok (.astore 5, 2) := by decide +kernel
theorem dX1_put_24 : decode cX1_put 24 = .ok (.aload_n 0, 1) := by decide +kernel
theorem dX1_put_25 : decode cX1_put 25 = .ok (.aload 5, 2) := by decide +kernel
theorem dX1_put_27 : decode cX1_put 27 = .ok (.iload_n 2, 1) := by decide +kernel
theorem dX1_put_28 : decode cX1_put 28 = .ok (.iload_n 3, 1) := by decide +kernel
theorem dX1_put_29 : decode cX1_put 29 = .ok (.iload 4, 2) := by decide +kernel
theorem dX1_put_31 : decode cX1_put 31 = .ok (.iconst 0, 1) := by decide +kernel
theorem dX1_put_32 : decode cX1_put 32 = .ok (.invokestatic 49, 3) := by decide +kernel
theorem dX1_put_35 : decode cX1_put 35 = .ok (.astore 6, 2) := by decide +kernel
theorem dX1_put_37 : decode cX1_put 37 = .ok (.aload 6, 2) := by decide +kernel
theorem dX1_put_39 : decode cX1_put 39 = .ok (.ifnonnull 6, 3) := by decide +kernel
theorem dX1_put_42 : decode cX1_put 42 = .ok (.aload 5, 2) := by decide +kernel
theorem dX1_put_44 : decode cX1_put 44 = .ok (.areturn, 1) := by decide +kernel
theorem dX1_put_45 : decode cX1_put 45 = .ok (.aload_n 0, 1) := by decide +kernel
theorem dX1_put_46 : decode cX1_put 46 = .ok (.iconst 0, 1) := by decide +kernel
theorem dX1_put_47 : decode cX1_put 47 = .ok (.iload_n 2, 1) := by decide +kernel
theorem dX1_put_48 : decode cX1_put 48 = .ok (.invokevirtual 53, 3) := by decide +kernel
theorem dX1_put_51 : decode cX1_put 51 = .ok (.astore 7, 2) := by decide +kernel
theorem dX1_put_53 : decode cX1_put 53 = .ok (.aload 7, 2) := by decide +kernel
theorem dX1_put_55 : decode cX1_put 55 = .ok (.iconst 0, 1) := by decide +kernel
theorem dX1_put_56 : decode cX1_put 56 = .ok (.aload 5, 2) := by decide +kernel
theorem dX1_put_58 : decode cX1_put 58 = .ok (.invokevirtual 57, 3) := by decide +kernel
theorem dX1_put_61 : decode cX1_put 61 = .ok (.aload 7, 2) := by decide +kernel
theorem dX1_put_63 : decode cX1_put 63 = .ok (.iconst 1, 1) := by decide +kernel
theorem dX1_put_64 : decode cX1_put 64 = .ok (.aload 6, 2) := by decide +kernel
theorem dX1_put_66 : decode cX1_put 66 = .ok (.invokevirtual 57, 3) := by decide +kernel
theorem dX1_put_69 : decode cX1_put 69 = .ok (.aload 7, 2) := by decide +kernel
theorem dX1_put_71 : decode cX1_put 71 = .ok (.areturn, 1) := by decide +kernel
theorem dX1_putBelow_0 : decode cX1_putBelow 0 = .ok (.aload_n 1, 1) := by decide +kernel
theorem dX1_putBelow_1 : decode cX1_putBelow 1 = .ok (.ifnull 10, 3) := by decide +kernel
theorem dX1_putBelow_4 : decode cX1_putBelow 4 = .ok (.iload 5, 2) := by decide +kernel
theorem dX1_putBelow_6 : decode cX1_putBelow 6 = .ok (.bipush 12, 2) := by decide +kernel
theorem dX1_putBelow_8 : decode cX1_putBelow 8 = .ok (.if_icmp .lt 5, 3) := by decide +kernel
theorem dX1_putBelow_11 : decode cX1_putBelow 11 = .ok (.aconst_null, 1) := by decide +kernel
theorem dX1_putBelow_12 : decode cX1_putBelow 12 = .ok (.areturn, 1) := by decide +kernel
theorem dX1_putBelow_13 : decode cX1_putBelow 13 = .ok (.aload_n 1, 1) := by decide +kernel
theorem dX1_putBelow_14 : decode cX1_putBelow 14 = .ok (.invokevirtual 60, 3) := by decide +kernel
theorem dX1_putBelow_17 : decode cX1_putBelow 17 = .ok (.ifCond .eq 13, 3) := by decide +kernel
theorem dX1_putBelow_20 : decode cX1_putBelow 20 = .ok (.aload_n 1, 1) := by decide +kernel
theorem dX1_putBelow_21 : decode cX1_putBelow 21 = .ok (.iload_n 3, 1) := by decide +kernel
theorem dX1_putBelow_22 : decode cX1_putBelow 22 = .ok (.iload 4, 2) := by decide +kernel
theorem dX1_putBelow_24 : decode cX1_putBelow 24 = .ok (.invokevirtual 64, 3) := by decide +kernel
theorem dX1_putBelow_27 : decode cX1_putBelow 27 = .ok (.goto 51, 3) := by decide +kernel
theorem dX1_putBelow_30 : decode cX1_putBelow 30 = .ok (.aload_n 1, 1) := by decide +kernel
theorem dX1_putBelow_31 : decode cX1_putBelow 31 = .ok (.iload_n 3, 1) := by decide +kernel
theorem dX1_putBelow_32 : decode cX1_putBelow 32 = .ok (.invokevirtual 68, 3) := by decide +kernel
theorem dX1_putBelow_35 : decode cX1_putBelow 35 = .ok (.istore 6, 2) := by decide +kernel
theorem dX1_putBelow_37 : decode cX1_putBelow 37 = .ok (.aload_n 0, 1) := by decide +kernel
theorem dX1_putBelow_38 : decode cX1_putBelow 38 = .ok (.aload_n 1, 1) := by decide +kernel
theorem dX1_putBelow_39 : decode cX1_putBelow 39 = .ok (.iload 6, 2) := by decide +kernel
theorem dX1_putBelow_41 : decode cX1_putBelow 41 = .ok (.iload_n 2, 1) := by decide +kernel
theorem dX1_putBelow_42 : decode cX1_putBelow 42 = .ok (.invokevirtual 72, 3) := by decide +kernel
theorem dX1_putBelow_45 : decode cX1_putBelow 45 = .ok (.astore 7, 2) := by decide +kernel
theorem dX1_putBelow_47 : decode cX1_putBelow 47 = .ok (.aload_n 0, 1) := by decide +kernel
theorem dX1_putBelow_48 : decode cX1_putBelow 48 = .ok (.aload 7, 2) := by decide +kernel
theorem dX1_putBelow_50 : decode cX1_putBelow 50 = .ok (.iload_n 2, 1) := by decide +kernel
theorem dX1_putBelow_51 : decode cX1_putBelow 51 = .ok (.iload_n 3, 1) := by decide +kernel
theorem dX1_putBelow_52 : decode cX1_putBelow 52 = .ok (.iload 4, 2) := by decide +kernel
theorem dX1_putBelow_54 : decode cX1_putBelow 54 = .ok (.iload 5, 2) := by decide +kernel
theorem dX1_putBelow_56 : decode cX1_putBelow 56 = .ok (.iconst 1, 1) := by decide +kernel
theorem dX1_putBelow_57 : decode cX1_putBelow 57 = .ok (.iadd, 1) := by decide +kernel
theorem dX1_putBelow_58 : decode cX1_putBelow 58 = .ok (.invokestatic 49, 3) := by decide +kernel
theorem dX1_putBelow_61 : decode cX1_putBelow 61 = .ok (.astore 8, 2) := by decide +kernel
theorem dX1_putBelow_63 : decode cX1_putBelow 63 = .ok (.aload 8, 2) := by decide +kernel
theorem dX1_putBelow_65 : decode cX1_putBelow 65 = .ok (.ifnull 13, 3) := by decide +kernel
theorem dX1_putBelow_68 : decode cX1_putBelow 68 = .ok (.aload_n 1, 1) := by decide +kernel
theorem dX1_putBelow_69 : decode cX1_putBelow 69 = .ok (.iload 6, 2) := by decide +kernel
theorem dX1_putBelow_71 : decode cX1_putBelow 71 = .ok (.iconst 1, 1) := by decide +kernel
theorem dX1_putBelow_72 : decode cX1_putBelow 72 = .ok (.iadd, 1) := by decide +kernel
theorem dX1_putBelow_73 : decode cX1_putBelow 73 = .ok (.aload 8, 2) := by decide +kernel
theorem dX1_putBelow_75 : decode cX1_putBelow 75 = .ok (.invokevirtual 57, 3) := by decide +kernel
theorem dX1_putBelow_78 : decode cX1_putBelow 78 = .ok (.aload_n 1, 1) := by decide +kernel
theorem dX1_putBelow_79 : decode cX1_putBelow 79 = .ok (.invokevirtual 76, 3) := by decide +kernel
theorem dX1_putBelow_82 : decode cX1_putBelow 82 = .ok (.aload_n 0, 1) := by decide +kernel
theorem dX1_putBelow_83 : decode cX1_putBelow 83 = .ok (.getfield 9, 3) := by decide +kernel
theorem dX1_putBelow_86 : decode cX1_putBelow 86 = .ok (.if_icmp .le 12, 3) := by decide +kernel
theorem dX1_putBelow_89 : decode cX1_putBelow 89 = .ok (.aload_n 0, 1) := by decide +kernel
theorem dX1_putBelow_90 : decode cX1_putBelow 90 = .ok (.aload_n 1, 1) := by decide +kernel
theorem dX1_putBelow_91 : decode cX1_putBelow 91 = .ok (.iload_n 2, 1) := by decide +kernel
theorem dX1_putBelow_92 : decode cX1_putBelow 92 = .ok (.invokevirtual 79, 3) := by decide +kernel
theorem dX1_putBelow_95 : decode cX1_putBelow 95 = .ok (.goto 4, 3) := by decide +kernel
theorem dX1_putBelow_98 : decode cX1_putBelow 98 = .ok (.aconst_null, 1) := by decide +kernel
theorem dX1_putBelow_99 : decode cX1_putBelow 99 = .ok (.areturn, 1) := by decide +kernel
theorem dX1_parted_0 : decode cX1_parted 0 = .ok (.aload_n 0, 1) := by decide +kernel
theorem dX1_parted_1 : decode cX1_parted 1 = .ok (.aload_n 1, 1) := by decide +kernel
theorem dX1_parted_2 : decode cX1_parted 2 = .ok (.invokevirtual 60, 3) := by decide +kernel
theorem dX1_parted_5 : decode cX1_parted 5 = .ok (.iload_n 2, 1) := by decide +kernel
theorem dX1_parted_6 : decode cX1_parted 6 = .ok (.invokevirtual 53, 3) := by decide +kernel
theorem dX1_parted_9 : decode cX1_parted 9 = .ok (.astore_n 3, 1) := by decide +kernel
theorem dX1_parted_10 : decode cX1_parted 10 = .ok (.aload_n 3, 1) := by decide +kernel
theorem dX1_parted_11 : decode cX1_parted 11 = .ok (.aload_n 1, 1) := by decide +kernel
theorem dX1_parted_12 : decode cX1_parted 12 = .ok (.aload_n 0, 1) := by decide +kernel
theorem dX1_parted_13 : decode cX1_parted 13 = .ok (.invokevirtual 82, 3) := by decide +kernel
theorem dX1_parted_16 : decode cX1_parted 16 = .ok (.invokevirtual 85, 3) := by decide +kernel
theorem dX1_parted_19 : decode cX1_parted 19 = .ok (.aload_n 3, 1) := by decide +kernel
theorem dX1_parted_20 : decode cX1_parted 20 = .ok (.areturn, 1) := by decide +kernel
theorem dX1_takeOut_0 : decode cX1_takeOut 0 = .ok (.aload_n 1, 1) := by decide +kernel
theorem dX1_takeOut_1 : decode cX1_takeOut 1 = .ok (.ifnull 13, 3) := by decide +kernel
theorem dX1_takeOut_4 : decode cX1_takeOut 4 = .ok (.aload_n 1, 1) := by decide +kernel
theorem dX1_takeOut_5 : decode cX1_takeOut 5 = .ok (.iload_n 3, 1) := by decide +kernel
theorem dX1_takeOut_6 : decode cX1_takeOut 6 = .ok (.invokestatic 45, 3) := by decide +kernel
theorem dX1_takeOut_9 : decode cX1_takeOut 9 = .ok (.ldc 88, 2) := by decide +kernel
theorem dX1_takeOut_11 : decode cX1_takeOut 11 = .ok (.if_icmp .ne 5, 3) := by decide +kernel
theorem dX1_takeOut_14 : decode cX1_takeOut 14 = .ok (.aload_n 1, 1) := by decide +kernel
theorem dX1_takeOut_15 : decode cX1_takeOut 15 = .ok (.areturn, 1) := by decide +kernel
theorem dX1_takeOut_16 : decode cX1_takeOut 16 = .ok (.aload_n 0, 1) := by decide +kernel
theorem dX1_takeOut_17 : decode cX1_takeOut 17 = .ok (.aload_n 1, 1) := by decide +kernel
theorem dX1_takeOut_18 : decode cX1_takeOut 18 = .ok (.iload_n 2, 1) := by decide +kernel
theorem dX1_takeOut_19 : decode cX1_takeOut 19 = .ok (.invokevirtual 37, 3) := by decide +kernel
theorem dX1_takeOut_22 : decode cX1_takeOut 22 = .ok (.astore 4, 2) := by decide +kernel
theorem dX1_takeOut_24 : decode cX1_takeOut 24 = .ok (.aload_n 0, 1) := by decide +kernel
theorem dX1_takeOut_25 : decode cX1_takeOut 25 = .ok (.aload 4, 2) := by decide +kernel
theorem dX1_takeOut_27 : decode cX1_takeOut 27 = .ok (.iload_n 2, 1) := by decide +kernel
theorem dX1_takeOut_28 : decode cX1_takeOut 28 = .ok (.iload_n 3, 1) := by decide +kernel
theorem dX1_takeOut_29 : decode cX1_takeOut 29 = .ok (.iconst 0, 1) := by decide +kernel
theorem dX1_takeOut_30 : decode cX1_takeOut 30 = .ok (.invokestatic 89, 3) := by decide +kernel
theorem dX1_takeOut_33 : decode cX1_takeOut 33 = .ok (.aload 4, 2) := by decide +kernel
theorem dX1_takeOut_35 : decode cX1_takeOut 35 = .ok (.invokevirtual 60, 3) := by decide +kernel
theorem dX1_takeOut_38 : decode cX1_takeOut 38 = .ok (.ifCond .ne 21, 3) := by decide +kernel
theorem dX1_takeOut_41 : decode cX1_takeOut 41 = .ok (.aload 4, 2) := by decide +kernel
theorem dX1_takeOut_43 : decode cX1_takeOut 43 = .ok (.invokevirtual 76, 3) := by decide +kernel
theorem dX1_takeOut_46 : decode cX1_takeOut 46 = .ok (.iconst 1, 1) := by decide +kernel
theorem dX1_takeOut_47 : decode cX1_takeOut 47 = .ok (.if_icmp .ne 12, 3) := by decide +kernel
theorem dX1_takeOut_50 : decode cX1_takeOut 50 = .ok (.aload 4, 2) := by decide +kernel
theorem dX1_takeOut_52 : decode cX1_takeOut 52 = .ok (.iconst 0, 1) := by decide +kernel
theorem dX1_takeOut_53 : decode cX1_takeOut 53 = .ok (.invokevirtual 33, 3) := by decide +kernel
theorem dX1_takeOut_56 : decode cX1_takeOut 56 = .ok (.goto 5, 3) := by decide +kernel
theorem dX1_takeOut_59 : decode cX1_takeOut 59 = .ok (.aload 4, 2) := by decide +kernel
theorem dX1_takeOut_61 : decode cX1_takeOut 61 = .ok (.areturn, 1) := by decide +kernel
theorem dX1_takeBelow_0 : decode cX1_takeBelow 0 = .ok (.aload_n 1, 1) := by decide +kernel
theorem dX1_takeBelow_1 : decode cX1_takeBelow 1 = .ok (.ifnull 10, 3) := by decide +kernel
theorem dX1_takeBelow_4 : decode cX1_takeBelow 4 = .ok (.iload 4, 2) := by decide +kernel
theorem dX1_takeBelow_6 : decode cX1_takeBelow 6 = .ok (.bipush 12, 2) := by decide +kernel
theorem dX1_takeBelow_8 : decode cX1_takeBelow 8 = .ok (.if_icmp .lt 4, 3) := by decide +kernel
theorem dX1_takeBelow_11 : decode cX1_takeBelow 11 = .ok (.return_, 1) := by decide +kernel
theorem dX1_takeBelow_12 : decode cX1_takeBelow 12 = .ok (.aload_n 1, 1) := by decide +kernel
theorem dX1_takeBelow_13 : decode cX1_takeBelow 13 = .ok (.invokevirtual 60, 3) := by decide +kernel
theorem dX1_takeBelow_16 : decode cX1_takeBelow 16 = .ok (.ifCond .eq 9, 3) := by decide +kernel
theorem dX1_takeBelow_19 : decode cX1_takeBelow 19 = .ok (.aload_n 1, 1) := by decide +kernel
theorem dX1_takeBelow_20 : decode cX1_takeBelow 20 = .ok (.iload_n 3, 1) := by decide +kernel
theorem dX1_takeBelow_21 : decode cX1_takeBelow 21 = .ok (.invokevirtual 93, 3) := by decide +kernel
theorem dX1_takeBelow_24 : decode cX1_takeBelow 24 = .ok (.return_, 1) := by decide +kernel
theorem dX1_takeBelow_25 : decode cX1_takeBelow 25 = .ok (.aload_n 1, 1) := by decide +kernel
theorem dX1_takeBelow_26 : decode cX1_takeBelow 26 = .ok (.iload_n 3, 1) := by decide +kernel
theorem dX1_takeBelow_27 : decode cX1_takeBelow 27 = .ok (.invokevirtual 68, 3) := by decide +kernel
theorem dX1_takeBelow_30 : decode cX1_takeBelow 30 = .ok (.istore 5, 2) := by decide +kernel
theorem dX1_takeBelow_32 : decode cX1_takeBelow 32 = .ok (.aload_n 0, 1) := by decide +kernel
theorem dX1_takeBelow_33 : decode cX1_takeBelow 33 = .ok (.aload_n 1, 1) := by decide +kernel
theorem dX1_takeBelow_34 : decode cX1_takeBelow 34 = .ok (.iload 5, 2) := by decide +kernel
theorem dX1_takeBelow_36 : decode cX1_takeBelow 36 = .ok (.iload_n 2, 1) := by decide +kernel
theorem dX1_takeBelow_37 : decode cX1_takeBelow 37 = .ok (.invokevirtual 72, 3) := by decide +kernel
theorem dX1_takeBelow_40 : decode cX1_takeBelow 40 = .ok (.astore 6, 2) := by decide +kernel
theorem dX1_takeBelow_42 : decode cX1_takeBelow 42 = .ok (.aload_n 0, 1) := by decide +kernel
theorem dX1_takeBelow_43 : decode cX1_takeBelow 43 = .ok (.aload 6, 2) := by decide +kernel
theorem dX1_takeBelow_45 : decode cX1_takeBelow 45 = .ok (.iload_n 2, 1) := by decide +kernel
theorem dX1_takeBelow_46 : decode cX1_takeBelow 46 = .ok (.iload_n 3, 1) := by decide +kernel
theorem dX1_takeBelow_47 : decode cX1_takeBelow 47 = .ok (.iload 4, 2) := by decide +kernel
theorem dX1_takeBelow_49 : decode cX1_takeBelow 49 = .ok (.iconst 1, 1) := by decide +kernel
theorem dX1_takeBelow_50 : decode cX1_takeBelow 50 = .ok (.iadd, 1) := by decide +kernel
theorem dX1_takeBelow_51 : decode cX1_takeBelow 51 = .ok (.invokestatic 89, 3) := by decide +kernel
theorem dX1_takeBelow_54 : decode cX1_takeBelow 54 = .ok (.aload 6, 2) := by decide +kernel
theorem dX1_takeBelow_56 : decode cX1_takeBelow 56 = .ok (.ifnull 25, 3) := by decide +kernel
theorem dX1_takeBelow_59 : decode cX1_takeBelow 59 = .ok (.aload 6, 2) := by decide +kernel
theorem dX1_takeBelow_61 : decode cX1_takeBelow 61 = .ok (.invokevirtual 76, 3) := by decide +kernel
theorem dX1_takeBelow_64 : decode cX1_takeBelow 64 = .ok (.aload_n 0, 1) := by decide +kernel
theorem dX1_takeBelow_65 : decode cX1_takeBelow 65 = .ok (.invokevirtual 82, 3) := by decide +kernel
theorem dX1_takeBelow_68 : decode cX1_takeBelow 68 = .ok (.if_icmp .ge 13, 3) := by decide +kernel
theorem dX1_takeBelow_71 : decode cX1_takeBelow 71 = .ok (.aload_n 0, 1) := by decide +kernel
theorem dX1_takeBelow_72 : decode cX1_takeBelow 72 = .ok (.aload_n 1, 1) := by decide +kernel
theorem dX1_takeBelow_73 : decode cX1_takeBelow 73 = .ok (.iload 5, 2) := by decide +kernel
theorem dX1_takeBelow_75 : decode cX1_takeBelow 75 = .ok (.aload 6, 2) := by decide +kernel
theorem dX1_takeBelow_77 : decode cX1_takeBelow 77 = .ok (.iload_n 2, 1) := by decide +kernel
theorem dX1_takeBelow_78 : decode cX1_takeBelow 78 = .ok (.invokevirtual 97, 3) := by decide +kernel
theorem dX1_takeBelow_81 : decode cX1_takeBelow 81 = .ok (.return_, 1) := by decide +kernel
theorem dX1_refill_0 : decode cX1_refill 0 = .ok (.aload_n 1, 1) := by decide +kernel
theorem dX1_refill_1 : decode cX1_refill 1 = .ok (.iload_n 2, 1) := by decide +kernel
theorem dX1_refill_2 : decode cX1_refill 2 = .ok (.iconst 1, 1) := by decide +kernel
theorem dX1_refill_3 : decode cX1_refill 3 = .ok (.isub, 1) := by decide +kernel
theorem dX1_refill_4 : decode cX1_refill 4 = .ok (.invokevirtual 33, 3) := by decide +kernel
theorem dX1_refill_7 : decode cX1_refill 7 = .ok (.astore 5, 2) := by decide +kernel
theorem dX1_refill_9 : decode cX1_refill 9 = .ok (.aload_n 1, 1) := by decide +kernel
theorem dX1_refill_10 : decode cX1_refill 10 = .ok (.iload_n 2, 1) := by decide +kernel
theorem dX1_refill_11 : decode cX1_refill 11 = .ok (.iconst 1, 1) := by decide +kernel
theorem dX1_refill_12 : decode cX1_refill 12 = .ok (.iadd, 1) := by decide +kernel
theorem dX1_refill_13 : decode cX1_refill 13 = .ok (.invokevirtual 33, 3) := by decide +kernel
theorem dX1_refill_16 : decode cX1_refill 16 = .ok (.astore 6, 2) := by decide +kernel
theorem dX1_refill_18 : decode cX1_refill 18 = .ok (.aload 5, 2) := by decide +kernel
theorem dX1_refill_20 : decode cX1_refill 20 = .ok (.ifnull 43, 3) := by decide +kernel
theorem dX1_refill_23 : decode cX1_refill 23 = .ok (.aload 5, 2) := by decide +kernel
theorem dX1_refill_25 : decode cX1_refill 25 = .ok (.invokevirtual 76, 3) := by decide +kernel
theorem dX1_refill_28 : decode cX1_refill 28 = .ok (.aload_n 0, 1) := by decide +kernel
theorem dX1_refill_29 : decode cX1_refill 29 = .ok (.invokevirtual 82, 3) := by decide +kernel
theorem dX1_refill_32 : decode cX1_refill 32 = .ok (.if_icmp .le 31, 3) := by decide +kernel
theorem dX1_refill_35 : decode cX1_refill 35 = .ok (.aload_n 0, 1) := by decide +kernel
theorem dX1_refill_36 : decode cX1_refill 36 = .ok (.aload 5, 2) := by decide +kernel
theorem dX1_refill_38 : decode cX1_refill 38 = .ok (.iload 4, 2) := by decide +kernel
theorem dX1_refill_40 : decode cX1_refill 40 = .ok (.invokevirtual 37, 3) := by decide +kernel
theorem dX1_refill_43 : decode cX1_refill 43 = .ok (.astore 7, 2) := by decide +kernel
theorem dX1_refill_45 : decode cX1_refill 45 = .ok (.aload_n 1, 1) := by decide +kernel
theorem dX1_refill_46 : decode cX1_refill 46 = .ok (.iload_n 2, 1) := by decide +kernel
theorem dX1_refill_47 : decode cX1_refill 47 = .ok (.iconst 1, 1) := by decide +kernel
theorem dX1_refill_48 : decode cX1_refill 48 = .ok (.isub, 1) := by decide +kernel
theorem dX1_refill_49 : decode cX1_refill 49 = .ok (.aload 7, 2) := by decide +kernel
theorem dX1_refill_51 : decode cX1_refill 51 = .ok (.invokevirtual 41, 3) := by decide +kernel
theorem dX1_refill_54 : decode cX1_refill 54 = .ok (.aload_n 3, 1) := by decide +kernel
theorem dX1_refill_55 : decode cX1_refill 55 = .ok (.aload 7, 2) := by decide +kernel
theorem dX1_refill_57 : decode cX1_refill 57 = .ok (.invokevirtual 101, 3) := by decide +kernel
theorem dX1_refill_60 : decode cX1_refill 60 = .ok (.goto 104, 3) := by decide +kernel
theorem dX1_refill_63 : decode cX1_refill 63 = .ok (.aload 6, 2) := by decide +kernel
theorem dX1_refill_65 : decode cX1_refill 65 = .ok (.ifnull 43, 3) := by decide +kernel
theorem dX1_refill_68 : decode cX1_refill 68 = .ok (.aload 6, 2) := by decide +kernel
theorem dX1_refill_70 : decode cX1_refill 70 = .ok (.invokevirtual 76, 3) := by decide +kernel
theorem dX1_refill_73 : decode cX1_refill 73 = .ok (.aload_n 0, 1) := by decide +kernel
theorem dX1_refill_74 : decode cX1_refill 74 = .ok (.invokevirtual 82, 3) := by decide +kernel
theorem dX1_refill_77 : decode cX1_refill 77 = .ok (.if_icmp .le 31, 3) := by decide +kernel
theorem dX1_refill_80 : decode cX1_refill 80 = .ok (.aload_n 0, 1) := by decide +kernel
theorem dX1_refill_81 : decode cX1_refill 81 = .ok (.aload 6, 2) := by decide +kernel
theorem dX1_refill_83 : decode cX1_refill 83 = .ok (.iload 4, 2) := by decide +kernel
theorem dX1_refill_85 : decode cX1_refill 85 = .ok (.invokevirtual 37, 3) := by decide +kernel
theorem dX1_refill_88 : decode cX1_refill 88 = .ok (.astore 7, 2) := by decide +kernel
theorem dX1_refill_90 : decode cX1_refill 90 = .ok (.aload_n 1, 1) := by decide +kernel
theorem dX1_refill_91 : decode cX1_refill 91 = .ok (.iload_n 2, 1) := by decide +kernel
theorem dX1_refill_92 : decode cX1_refill 92 = .ok (.iconst 1, 1) := by decide +kernel
theorem dX1_refill_93 : decode cX1_refill 93 = .ok (.iadd, 1) := by decide +kernel
theorem dX1_refill_94 : decode cX1_refill 94 = .ok (.aload 7, 2) := by decide +kernel
theorem dX1_refill_96 : decode cX1_refill 96 = .ok (.invokevirtual 41, 3) := by decide +kernel
theorem dX1_refill_99 : decode cX1_refill 99 = .ok (.aload_n 3, 1) := by decide +kernel
theorem dX1_refill_100 : decode cX1_refill 100 = .ok (.aload 7, 2) := by decide +kernel
theorem dX1_refill_102 : decode cX1_refill 102 = .ok (.invokevirtual 105, 3) := by decide +kernel
theorem dX1_refill_105 : decode cX1_refill 105 = .ok (.goto 59, 3) := by decide +kernel
theorem dX1_refill_108 : decode cX1_refill 108 = .ok (.aload 5, 2) := by decide +kernel
theorem dX1_refill_110 : decode cX1_refill 110 = .ok (.ifnull 36, 3) := by decide +kernel
theorem dX1_refill_113 : decode cX1_refill 113 = .ok (.aload_n 0, 1) := by decide +kernel
theorem dX1_refill_114 : decode cX1_refill 114 = .ok (.aload 5, 2) := by decide +kernel
theorem dX1_refill_116 : decode cX1_refill 116 = .ok (.iload 4, 2) := by decide +kernel
theorem dX1_refill_118 : decode cX1_refill 118 = .ok (.invokevirtual 37, 3) := by decide +kernel
theorem dX1_refill_121 : decode cX1_refill 121 = .ok (.astore 7, 2) := by decide +kernel
theorem dX1_refill_123 : decode cX1_refill 123 = .ok (.aload 7, 2) := by decide +kernel
theorem dX1_refill_125 : decode cX1_refill 125 = .ok (.aload_n 3, 1) := by decide +kernel
theorem dX1_refill_126 : decode cX1_refill 126 = .ok (.invokevirtual 108, 3) := by decide +kernel
theorem dX1_refill_129 : decode cX1_refill 129 = .ok (.aload_n 1, 1) := by decide +kernel
theorem dX1_refill_130 : decode cX1_refill 130 = .ok (.iload_n 2, 1) := by decide +kernel
theorem dX1_refill_131 : decode cX1_refill 131 = .ok (.iconst 1, 1) := by decide +kernel
theorem dX1_refill_132 : decode cX1_refill 132 = .ok (.isub, 1) := by decide +kernel
theorem dX1_refill_133 : decode cX1_refill 133 = .ok (.aload 7, 2) := by decide +kernel
theorem dX1_refill_135 : decode cX1_refill 135 = .ok (.invokevirtual 41, 3) := by decide +kernel
theorem dX1_refill_138 : decode cX1_refill 138 = .ok (.aload_n 1, 1) := by decide +kernel
theorem dX1_refill_139 : decode cX1_refill 139 = .ok (.iload_n 2, 1) := by decide +kernel
theorem dX1_refill_140 : decode cX1_refill 140 = .ok (.invokevirtual 111, 3) := by decide +kernel
theorem dX1_refill_143 : decode cX1_refill 143 = .ok (.goto 21, 3) := by decide +kernel
theorem dX1_refill_146 : decode cX1_refill 146 = .ok (.aload 6, 2) := by decide +kernel
theorem dX1_refill_148 : decode cX1_refill 148 = .ok (.ifnull 16, 3) := by decide +kernel
theorem dX1_refill_151 : decode cX1_refill 151 = .ok (.aload_n 3, 1) := by decide +kernel
theorem dX1_refill_152 : decode cX1_refill 152 = .ok (.aload 6, 2) := by decide +kernel
theorem dX1_refill_154 : decode cX1_refill 154 = .ok (.invokevirtual 108, 3) := by decide +kernel
theorem dX1_refill_157 : decode cX1_refill 157 = .ok (.aload_n 1, 1) := by decide +kernel
theorem dX1_refill_158 : decode cX1_refill 158 = .ok (.iload_n 2, 1) := by decide +kernel
theorem dX1_refill_159 : decode cX1_refill 159 = .ok (.iconst 1, 1) := by decide +kernel
theorem dX1_refill_160 : decode cX1_refill 160 = .ok (.iadd, 1) := by decide +kernel
theorem dX1_refill_161 : decode cX1_refill 161 = .ok (.invokevirtual 111, 3) := by decide +kernel
theorem dX1_refill_164 : decode cX1_refill 164 = .ok (.return_, 1) := by decide +kernel
theorem dX2_init_0 : decode cX2_init 0 = .ok (.aload_n 0, 1) := by decide +kernel
theorem dX2_init_1 : decode cX2_init 1 = .ok (.invokespecial 3, 3) := by decide +kernel
theorem dX2_init_4 : decode cX2_init 4 = .ok (.aload_n 0, 1) := by decide +kernel
theorem dX2_init_5 : decode cX2_init 5 = .ok (.bipush 64, 2) := by decide +kernel
theorem dX2_init_7 : decode cX2_init 7 = .ok (.anewarray 9, 3) := by decide +kernel
theorem dX2_init_10 : decode cX2_init 10 = .ok (.putfield 11, 3) := by decide +kernel
theorem dX2_init_13 : decode cX2_init 13 = .ok (.aload_n 0, 1) := by decide +kernel
theorem dX2_init_14 : decode cX2_init 14 = .ok (.bipush 64, 2) := by decide +kernel
theorem dX2_init_16 : decode cX2_init 16 = .ok (.newarray .int, 2) := by decide +kernel
theorem dX2_init_18 : decode cX2_init 18 = .ok (.putfield 17, 3) := by decide +kernel
theorem dX2_init_21 : decode cX2_init 21 = .ok (.return_, 1) := by decide +kernel
theorem dX2_fill_0 : decode cX2_fill 0 = .ok (.aload_n 0, 1) := by decide +kernel
theorem dX2_fill_1 : decode cX2_fill 1 = .ok (.iconst 0, 1) := by decide +kernel
theorem dX2_fill_2 : decode cX2_fill 2 = .ok (.putfield 21, 3) := by decide +kernel
theorem dX2_fill_5 : decode cX2_fill 5 = .ok (.aload_n 0, 1) := by decide +kernel
theorem dX2_fill_6 : decode cX2_fill 6 = .ok (.aload_n 1, 1) := by decide +kernel
theorem dX2_fill_7 : decode cX2_fill 7 = .ok (.iconst 0, 1) := by decide +kernel
theorem dX2_fill_8 : decode cX2_fill 8 = .ok (.invokestatic 25, 3) := by decide +kernel
theorem dX2_fill_11 : decode cX2_fill 11 = .ok (.return_, 1) := by decide +kernel
theorem dX2_list_0 : decode cX2_list 0 = .ok (.aload_n 1, 1) := by decide +kernel
theorem dX2_list_1 : decode cX2_list 1 = .ok (.ifnull 9, 3) := by decide +kernel
theorem dX2_list_4 : decode cX2_list 4 = .ok (.iload_n 2, 1) := by decide +kernel
theorem dX2_list_5 : decode cX2_list 5 = .ok (.bipush 12, 2) := by decide +kernel
theorem dX2_list_7 : decode cX2_list 7 = .ok (.if_icmp .lt 4, 3) := by decide +kernel
theorem dX2_list_10 : decode cX2_list 10 = .ok (.return_, 1) := by decide +kernel
theorem dX2_list_11 : decode cX2_list 11 = .ok (.aload_n 0, 1) := by decide +kernel
theorem dX2_list_12 : decode cX2_list 12 = .ok (.aload_n 1, 1) := by decide +kernel
theorem dX2_list_13 : decode cX2_list 13 = .ok (.iload_n 2, 1) := by decide +kernel
theorem dX2_list_14 : decode cX2_list 14 = .ok (.invokevirtual 29, 3) := by decide +kernel
theorem dX2_list_17 : decode cX2_list 17 = .ok (.aload_n 1, 1) := by decide +kernel
theorem dX2_list_18 : decode cX2_list 18 = .ok (.invokevirtual 33, 3) := by decide +kernel
theorem dX2_list_21 : decode cX2_list 21 = .ok (.ifCond .eq 4, 3) := by decide +kernel
theorem dX2_list_24 : decode cX2_list 24 = .ok (.return_, 1) := by decide +kernel
theorem dX2_list_25 : decode cX2_list 25 = .ok (.iconst 0, 1) := by decide +kernel
theorem dX2_list_26 : decode cX2_list 26 = .ok (.istore_n 3, 1) := by decide +kernel
theorem dX2_list_27 : decode cX2_list 27 = .ok (.iload_n 3, 1) := by decide +kernel
theorem dX2_list_28 : decode cX2_list 28 = .ok (.aload_n 1, 1) := by decide +kernel
theorem dX2_list_29 : decode cX2_list 29 = .ok (.invokevirtual 37, 3) := by decide +kernel
theorem dX2_list_32 : decode cX2_list 32 = .ok (.if_icmp .ge 21, 3) := by decide +kernel
theorem dX2_list_35 : decode cX2_list 35 = .ok (.aload_n 0, 1) := by decide +kernel
theorem dX2_list_36 : decode cX2_list 36 = .ok (.aload_n 1, 1) := by decide +kernel
theorem dX2_list_37 : decode cX2_list 37 = .ok (.iload_n 3, 1) := by decide +kernel
theorem dX2_list_38 : decode cX2_list 38 = .ok (.invokevirtual 40, 3) := by decide +kernel
theorem dX2_list_41 : decode cX2_list 41 = .ok (.iload_n 2, 1) := by decide +kernel
theorem dX2_list_42 : decode cX2_list 42 = .ok (.iconst 1, 1) := by decide +kernel
theorem dX2_list_43 : decode cX2_list 43 = .ok (.iadd, 1) := by decide +kernel
theorem dX2_list_44 : decode cX2_list 44 = .ok (.invokestatic 25, 3) := by decide +kernel
theorem dX2_list_47 : decode cX2_list 47 = .ok (.iinc 3 1, 3) := by decide +kernel
theorem dX2_list_50 : decode cX2_list 50 = .ok (.goto (-23), 3) := by decide +kernel
theorem dX2_list_53 : decode cX2_list 53 = .ok (.return_, 1) := by decide +kernel
theorem dX2_append_0 : decode cX2_append 0 = .ok (.aload_n 0, 1) := by decide +kernel
theorem dX2_append_1 : decode cX2_append 1 = .ok (.getfield 21, 3) := by decide +kernel
theorem dX2_append_4 : decode cX2_append 4 = .ok (.aload_n 0, 1) := by decide +kernel
theorem dX2_append_5 : decode cX2_append 5 = .ok (.getfield 11, 3) := by decide +kernel
theorem dX2_append_8 : decode cX2_append 8 = .ok (.arraylength, 1) := by decide +kernel
theorem dX2_append_9 : decode cX2_append 9 = .ok (.if_icmp .ge 45, 3) := by decide +kernel
theorem dX2_append_12 : decode cX2_append 12 = .ok (.aload_n 0, 1) := by decide +kernel
theorem dX2_append_13 : decode cX2_append 13 = .ok (.getfield 21, 3) := by decide +kernel
theorem dX2_append_16 : decode cX2_append 16 = .ok (.aload_n 0, 1) := by decide +kernel
theorem dX2_append_17 : decode cX2_append 17 = .ok (.getfield 17, 3) := by decide +kernel
theorem dX2_append_20 : decode cX2_append 20 = .ok (.arraylength, 1) := by decide +kernel
theorem dX2_append_21 : decode cX2_append 21 = .ok (.if_icmp .ge 33, 3) := by decide +kernel
theorem dX2_append_24 : decode cX2_append 24 = .ok (.aload_n 0, 1) := by decide +kernel
theorem dX2_append_25 : decode cX2_append 25 = .ok (.getfield 11, 3) := by decide +kernel
theorem dX2_append_28 : decode cX2_append 28 = .ok (.aload_n 0, 1) := by decide +kernel
theorem dX2_append_29 : decode cX2_append 29 = .ok (.getfield 21, 3) := by decide +kernel
theorem dX2_append_32 : decode cX2_append 32 = .ok (.aload_n 1, 1) := by decide +kernel
theorem dX2_append_33 : decode cX2_append 33 = .ok (.aastore, 1) := by decide +kernel
theorem dX2_append_34 : decode cX2_append 34 = .ok (.aload_n 0, 1) := by decide +kernel
theorem dX2_append_35 : decode cX2_append 35 = .ok (.getfield 17, 3) := by decide +kernel
theorem dX2_append_38 : decode cX2_append 38 = .ok (.aload_n 0, 1) := by decide +kernel
theorem dX2_append_39 : decode cX2_append 39 = .ok (.getfield 21, 3) := by decide +kernel
theorem dX2_append_42 : decode cX2_append 42 = .ok (.iload_n 2, 1) := by decide +kernel
theorem dX2_append_43 : decode cX2_append 43 = .ok (.iastore, 1) := by decide +kernel
theorem dX2_append_44 : decode cX2_append 44 = .ok (.aload_n 0, 1) := by decide +kernel
theorem dX2_append_45 : decode cX2_append 45 = .ok (.dup, 1) := by decide +kernel
theorem dX2_append_46 : decode cX2_append 46 = .ok (.getfield 21, 3) := by decide +kernel
theorem dX2_append_49 : decode cX2_append 49 = .ok (.iconst 1, 1) := by decide +kernel
theorem dX2_append_50 : decode cX2_append 50 = .ok (.iadd, 1) := by decide +kernel
theorem dX2_append_51 : decode cX2_append 51 = .ok (.putfield 21, 3) := by decide +kernel
theorem dX2_append_54 : decode cX2_append 54 = .ok (.return_, 1) := by decide +kernel
theorem dX2_size_0 : decode cX2_size 0 = .ok (.aload_n 0, 1) := by decide +kernel
theorem dX2_size_1 : decode cX2_size 1 = .ok (.getfield 21, 3) := by decide +kernel
theorem dX2_size_4 : decode cX2_size 4 = .ok (.ireturn, 1) := by decide +kernel
theorem dX2_nodeAt_0 : decode cX2_nodeAt 0 = .ok (.iload_n 1, 1) := by decide +kernel
theorem dX2_nodeAt_1 : decode cX2_nodeAt 1 = .ok (.ifCond .lt 29, 3) := by decide +kernel
theorem dX2_nodeAt_4 : decode cX2_nodeAt 4 = .ok (.iload_n 1, 1) := by decide +kernel
theorem dX2_nodeAt_5 : decode cX2_nodeAt 5 = .ok (.aload_n 0, 1) := by decide +kernel
theorem dX2_nodeAt_6 : decode cX2_nodeAt 6 = .ok (.getfield 21, 3) := by decide +kernel
theorem dX2_nodeAt_9 : decode cX2_nodeAt 9 = .ok (.if_icmp .ge 21, 3) := by decide +kernel
theorem dX2_nodeAt_12 : decode cX2_nodeAt 12 = .ok (.iload_n 1, 1) := by decide +kernel
theorem dX2_nodeAt_13 : decode cX2_nodeAt 13 = .ok (.aload_n 0, 1) := by decide +kernel
theorem dX2_nodeAt_14 : decode cX2_nodeAt 14 = .ok (.getfield 11, 3) := by decide +kernel
theorem dX2_nodeAt_17 : decode cX2_nodeAt 17 = .ok (.arraylength, 1) := by decide +kernel
theorem dX2_nodeAt_18 : decode cX2_nodeAt 18 = .ok (.if_icmp .ge 12, 3) := by decide +kernel
theorem dX2_nodeAt_21 : decode cX2_nodeAt 21 = .ok (.aload_n 0, 1) := by decide +kernel
theorem dX2_nodeAt_22 : decode cX2_nodeAt 22 = .ok (.getfield 11, 3) := by decide +kernel
theorem dX2_nodeAt_25 : decode cX2_nodeAt 25 = .ok (.iload_n 1, 1) := by decide +kernel
theorem dX2_nodeAt_26 : decode cX2_nodeAt 26 = .ok (.aaload, 1) := by decide +kernel
theorem dX2_nodeAt_27 : decode cX2_nodeAt 27 = .ok (.goto 4, 3) := by decide +kernel
theorem dX2_nodeAt_30 : decode cX2_nodeAt 30 = .ok (.aconst_null, 1) := by decide +kernel
theorem dX2_nodeAt_31 : decode cX2_nodeAt 31 = .ok (.areturn, 1) := by decide +kernel
theorem dX2_depthAt_0 : decode cX2_depthAt 0 = .ok (.iload_n 1, 1) := by decide +kernel
theorem dX2_depthAt_1 : decode cX2_depthAt 1 = .ok (.ifCond .lt 29, 3) := by decide +kernel
theorem dX2_depthAt_4 : decode cX2_depthAt 4 = .ok (.iload_n 1, 1) := by decide +kernel
theorem dX2_depthAt_5 : decode cX2_depthAt 5 = .ok (.aload_n 0, 1) := by decide +kernel
theorem dX2_depthAt_6 : decode cX2_depthAt 6 = .ok (.getfield 21, 3) := by decide +kernel
theorem dX2_depthAt_9 : decode cX2_depthAt 9 = .ok (.if_icmp .ge 21, 3) := by decide +kernel
theorem dX2_depthAt_12 : decode cX2_depthAt 12 = .ok (.iload_n 1, 1) := by decide +kernel
theorem dX2_depthAt_13 : decode cX2_depthAt 13 = .ok (.aload_n 0, 1) := by decide +kernel
theorem dX2_depthAt_14 : decode cX2_depthAt 14 = .ok (.getfield 17, 3) := by decide +kernel
theorem dX2_depthAt_17 : decode cX2_depthAt 17 = .ok (.arraylength, 1) := by decide +kernel
theorem dX2_depthAt_18 : decode cX2_depthAt 18 = .ok (.if_icmp .ge 12, 3) := by decide +kernel
theorem dX2_depthAt_21 : decode cX2_depthAt 21 = .ok (.aload_n 0, 1) := by decide +kernel
theorem dX2_depthAt_22 : decode cX2_depthAt 22 = .ok (.getfield 17, 3) := by decide +kernel
theorem dX2_depthAt_25 : decode cX2_depthAt 25 = .ok (.iload_n 1, 1) := by decide +kernel
theorem dX2_depthAt_26 : decode cX2_depthAt 26 = .ok (.iaload, 1) := by decide +kernel
theorem dX2_depthAt_27 : decode cX2_depthAt 27 = .ok (.goto 4, 3) := by decide +kernel
theorem dX2_depthAt_30 : decode cX2_depthAt 30 = .ok (.iconst (-1), 1) := by decide +kernel
theorem dX2_depthAt_31 : decode cX2_depthAt 31 = .ok (.ireturn, 1) := by decide +kernel
theorem dX2_levels_0 : decode cX2_levels 0 = .ok (.aload_n 0, 1) := by decide +kernel
theorem dX2_levels_1 : decode cX2_levels 1 = .ok (.aload_n 0, 1) := by decide +kernel
theorem dX2_levels_2 : decode cX2_levels 2 = .ok (.getfield 21, 3) := by decide +kernel
theorem dX2_levels_5 : decode cX2_levels 5 = .ok (.iconst 1, 1) := by decide +kernel
theorem dX2_levels_6 : decode cX2_levels 6 = .ok (.isub, 1) := by decide +kernel
theorem dX2_levels_7 : decode cX2_levels 7 = .ok (.invokevirtual 44, 3) := by decide +kernel
theorem dX2_levels_10 : decode cX2_levels 10 = .ok (.iconst 1, 1) := by decide +kernel
theorem dX2_levels_11 : decode cX2_levels 11 = .ok (.iadd, 1) := by decide +kernel
theorem dX2_levels_12 : decode cX2_levels 12 = .ok (.ireturn, 1) := by decide +kernel
theorem dX2_leaves_0 : decode cX2_leaves 0 = .ok (.iconst 0, 1) := by decide +kernel
theorem dX2_leaves_1 : decode cX2_leaves 1 = .ok (.istore_n 1, 1) := by decide +kernel
theorem dX2_leaves_2 : decode cX2_leaves 2 = .ok (.iconst 0, 1) := by decide +kernel
theorem dX2_leaves_3 : decode cX2_leaves 3 = .ok (.istore_n 2, 1) := by decide +kernel
theorem dX2_leaves_4 : decode cX2_leaves 4 = .ok (.iload_n 2, 1) := by decide +kernel
theorem dX2_leaves_5 : decode cX2_leaves 5 = .ok (.aload_n 0, 1) := by decide +kernel
theorem dX2_leaves_6 : decode cX2_leaves 6 = .ok (.getfield 21, 3) := by decide +kernel
theorem dX2_leaves_9 : decode cX2_leaves 9 = .ok (.if_icmp .ge 29, 3) := by decide +kernel
theorem dX2_leaves_12 : decode cX2_leaves 12 = .ok (.aload_n 0, 1) := by decide +kernel
theorem dX2_leaves_13 : decode cX2_leaves 13 = .ok (.iload_n 2, 1) := by decide +kernel
theorem dX2_leaves_14 : decode cX2_leaves 14 = .ok (.invokevirtual 48, 3) := by decide +kernel
theorem dX2_leaves_17 : decode cX2_leaves 17 = .ok (.astore_n 3, 1) := by decide +kernel
theorem dX2_leaves_18 : decode cX2_leaves 18 = .ok (.aload_n 3, 1) := by decide +kernel
theorem dX2_leaves_19 : decode cX2_leaves 19 = .ok (.ifnull 13, 3) := by decide +kernel
theorem dX2_leaves_22 : decode cX2_leaves 22 = .ok (.aload_n 3, 1) := by decide +kernel
theorem dX2_leaves_23 : decode cX2_leaves 23 = .ok (.invokevirtual 33, 3) := by decide +kernel
theorem dX2_leaves_26 : decode cX2_leaves 26 = .ok (.ifCond .eq 6, 3) := by decide +kernel
theorem dX2_leaves_29 : decode cX2_leaves 29 = .ok (.iinc 1 1, 3) := by decide +kernel
theorem dX2_leaves_32 : decode cX2_leaves 32 = .ok (.iinc 2 1, 3) := by decide +kernel
theorem dX2_leaves_35 : decode cX2_leaves 35 = .ok (.goto (-31), 3) := by decide +kernel
theorem dX2_leaves_38 : decode cX2_leaves 38 = .ok (.iload_n 1, 1) := by decide +kernel
theorem dX2_leaves_39 : decode cX2_leaves 39 = .ok (.ireturn, 1) := by decide +kernel
theorem dX2_sizeOf_0 : decode cX2_sizeOf 0 = .ok (.iconst 0, 1) := by decide +kernel
theorem dX2_sizeOf_1 : decode cX2_sizeOf 1 = .ok (.istore_n 2, 1) := by decide +kernel
theorem dX2_sizeOf_2 : decode cX2_sizeOf 2 = .ok (.iconst 0, 1) := by decide +kernel
theorem dX2_sizeOf_3 : decode cX2_sizeOf 3 = .ok (.istore_n 3, 1) := by decide +kernel
theorem dX2_sizeOf_4 : decode cX2_sizeOf 4 = .ok (.iload_n 3, 1) := by decide +kernel
theorem dX2_sizeOf_5 : decode cX2_sizeOf 5 = .ok (.aload_n 0, 1) := by decide +kernel
theorem dX2_sizeOf_6 : decode cX2_sizeOf 6 = .ok (.getfield 21, 3) := by decide +kernel
theorem dX2_sizeOf_9 : decode cX2_sizeOf 9 = .ok (.if_icmp .ge 33, 3) := by decide +kernel
theorem dX2_sizeOf_12 : decode cX2_sizeOf 12 = .ok (.aload_n 0, 1) := by decide +kernel
theorem dX2_sizeOf_13 : decode cX2_sizeOf 13 = .ok (.iload_n 3, 1) := by decide +kernel
theorem dX2_sizeOf_14 : decode cX2_sizeOf 14 = .ok (.invokevirtual 48, 3) := by decide +kernel
theorem dX2_sizeOf_17 : decode cX2_sizeOf 17 = .ok (.astore 4, 2) := by decide +kernel
theorem dX2_sizeOf_19 : decode cX2_sizeOf 19 = .ok (.aload 4, 2) := by decide +kernel
theorem dX2_sizeOf_21 : decode cX2_sizeOf 21 = .ok (.ifnull 15, 3) := by decide +kernel
theorem dX2_sizeOf_24 : decode cX2_sizeOf 24 = .ok (.aload 4, 2) := by decide +kernel
theorem dX2_sizeOf_26 : decode cX2_sizeOf 26 = .ok (.invokevirtual 51, 3) := by decide +kernel
theorem dX2_sizeOf_29 : decode cX2_sizeOf 29 = .ok (.iload_n 1, 1) := by decide +kernel
theorem dX2_sizeOf_30 : decode cX2_sizeOf 30 = .ok (.if_icmp .ne 6, 3) := by decide +kernel
theorem dX2_sizeOf_33 : decode cX2_sizeOf 33 = .ok (.iinc 2 1, 3) := by decide +kernel
theorem dX2_sizeOf_36 : decode cX2_sizeOf 36 = .ok (.iinc 3 1, 3) := by decide +kernel
theorem dX2_sizeOf_39 : decode cX2_sizeOf 39 = .ok (.goto (-35), 3) := by decide +kernel
theorem dX2_sizeOf_42 : decode cX2_sizeOf 42 = .ok (.iload_n 2, 1) := by decide +kernel
theorem dX2_sizeOf_43 : decode cX2_sizeOf 43 = .ok (.ireturn, 1) := by decide +kernel
theorem dX2_has_0 : decode cX2_has 0 = .ok (.iconst 0, 1) := by decide +kernel
theorem dX2_has_1 : decode cX2_has 1 = .ok (.istore_n 2, 1) := by decide +kernel
theorem dX2_has_2 : decode cX2_has 2 = .ok (.iload_n 2, 1) := by decide +kernel
theorem dX2_has_3 : decode cX2_has 3 = .ok (.aload_n 0, 1) := by decide +kernel
theorem dX2_has_4 : decode cX2_has 4 = .ok (.getfield 21, 3) := by decide +kernel
theorem dX2_has_7 : decode cX2_has 7 = .ok (.if_icmp .ge 20, 3) := by decide +kernel
theorem dX2_has_10 : decode cX2_has 10 = .ok (.aload_n 0, 1) := by decide +kernel
theorem dX2_has_11 : decode cX2_has 11 = .ok (.iload_n 2, 1) := by decide +kernel
theorem dX2_has_12 : decode cX2_has 12 = .ok (.invokevirtual 48, 3) := by decide +kernel
theorem dX2_has_15 : decode cX2_has 15 = .ok (.aload_n 1, 1) := by decide +kernel
theorem dX2_has_16 : decode cX2_has 16 = .ok (.if_acmp .ne 5, 3) := by decide +kernel
theorem dX2_has_19 : decode cX2_has 19 = .ok (.iconst 1, 1) := by decide +kernel
theorem dX2_has_20 : decode cX2_has 20 = .ok (.ireturn, 1) := by decide +kernel
theorem dX2_has_21 : decode cX2_has 21 = .ok (.iinc 2 1, 3) := by decide +kernel
theorem dX2_has_24 : decode cX2_has 24 = .ok (.goto (-22), 3) := by decide +kernel
theorem dX2_has_27 : decode cX2_has 27 = .ok (.iconst 0, 1) := by decide +kernel
theorem dX2_has_28 : decode cX2_has 28 = .ok (.ireturn, 1) := by decide +kernel
theorem dX2_mark_0 : decode cX2_mark 0 = .ok (.iconst 0, 1) := by decide +kernel
theorem dX2_mark_1 : decode cX2_mark 1 = .ok (.istore_n 2, 1) := by decide +kernel
theorem dX2_mark_2 : decode cX2_mark 2 = .ok (.iconst 0, 1) := by decide +kernel
theorem dX2_mark_3 : decode cX2_mark 3 = .ok (.istore_n 3, 1) := by decide +kernel
theorem dX2_mark_4 : decode cX2_mark 4 = .ok (.iload_n 3, 1) := by decide +kernel
theorem dX2_mark_5 : decode cX2_mark 5 = .ok (.aload_n 0, 1) := by decide +kernel
theorem dX2_mark_6 : decode cX2_mark 6 = .ok (.getfield 21, 3) := by decide +kernel
theorem dX2_mark_9 : decode cX2_mark 9 = .ok (.if_icmp .ge 39, 3) := by decide +kernel
theorem dX2_mark_12 : decode cX2_mark 12 = .ok (.aload_n 0, 1) := by decide +kernel
theorem dX2_mark_13 : decode cX2_mark 13 = .ok (.iload_n 3, 1) := by decide +kernel
theorem dX2_mark_14 : decode cX2_mark 14 = .ok (.invokevirtual 48, 3) := by decide +kernel
theorem dX2_mark_17 : decode cX2_mark 17 = .ok (.astore 4, 2) := by decide +kernel
theorem dX2_mark_19 : decode cX2_mark 19 = .ok (.aload 4, 2) := by decide +kernel
theorem dX2_mark_21 : decode cX2_mark 21 = .ok (.ifnull 21, 3) := by decide +kernel
theorem dX2_mark_24 : decode cX2_mark 24 = .ok (.aload 4, 2) := by decide +kernel
theorem dX2_mark_26 : decode cX2_mark 26 = .ok (.iload_n 1, 1) := by decide +kernel
theorem dX2_mark_27 : decode cX2_mark 27 = .ok (.invokevirtual 54, 3) := by decide +kernel
theorem dX2_mark_30 : decode cX2_mark 30 = .ok (.ifCond .ne 12, 3) := by decide +kernel
theorem dX2_mark_33 : decode cX2_mark 33 = .ok (.aload 4, 2) := by decide +kernel
theorem dX2_mark_35 : decode cX2_mark 35 = .ok (.iload_n 1, 1) := by decide +kernel
theorem dX2_mark_36 : decode cX2_mark 36 = .ok (.invokevirtual 58, 3) := by decide +kernel
theorem dX2_mark_39 : decode cX2_mark 39 = .ok (.iinc 2 1, 3) := by decide +kernel
theorem dX2_mark_42 : decode cX2_mark 42 = .ok (.iinc 3 1, 3) := by decide +kernel
theorem dX2_mark_45 : decode cX2_mark 45 = .ok (.goto (-41), 3) := by decide +kernel
theorem dX2_mark_48 : decode cX2_mark 48 = .ok (.iload_n 2, 1) := by decide +kernel
theorem dX2_mark_49 : decode cX2_mark 49 = .ok (.ireturn, 1) := by decide +kernel
theorem dX3_init_0 : decode cX3_init 0 = .ok (.aload_n 0, 1) := by decide +kernel
theorem dX3_init_1 : decode cX3_init 1 = .ok (.invokespecial 3, 3) := by decide +kernel
theorem dX3_init_4 : decode cX3_init 4 = .ok (.aload_n 0, 1) := by decide +kernel
theorem dX3_init_5 : decode cX3_init 5 = .ok (.sipush 999, 3) := by decide +kernel
theorem dX3_init_8 : decode cX3_init 8 = .ok (.anewarray 9, 3) := by decide +kernel
theorem dX3_init_11 : decode cX3_init 11 = .ok (.putfield 11, 3) := by decide +kernel
theorem dX3_init_14 : decode cX3_init 14 = .ok (.aload_n 0, 1) := by decide +kernel
theorem dX3_init_15 : decode cX3_init 15 = .ok (.sipush 999, 3) := by decide +kernel
theorem dX3_init_18 : decode cX3_init 18 = .ok (.newarray .int, 2) := by decide +kernel
theorem dX3_init_20 : decode cX3_init 20 = .ok (.putfield 17, 3) := by decide +kernel
theorem dX3_init_23 : decode cX3_init 23 = .ok (.aload_n 0, 1) := by decide +kernel
theorem dX3_init_24 : decode cX3_init 24 = .ok (.sipush 999, 3) := by decide +kernel
theorem dX3_init_27 : decode cX3_init 27 = .ok (.newarray .int, 2) := by decide +kernel
theorem dX3_init_29 : decode cX3_init 29 = .ok (.putfield 21, 3) := by decide +kernel
theorem dX3_init_32 : decode cX3_init 32 = .ok (.aload_n 0, 1) := by decide +kernel
theorem dX3_init_33 : decode cX3_init 33 = .ok (.sipush 999, 3) := by decide +kernel
theorem dX3_init_36 : decode cX3_init 36 = .ok (.newarray .boolean, 2) := by decide +kernel
theorem dX3_init_38 : decode cX3_init 38 = .ok (.putfield 24, 3) := by decide +kernel
theorem dX3_init_41 : decode cX3_init 41 = .ok (.aload_n 0, 1) := by decide +kernel
theorem dX3_init_42 : decode cX3_init 42 = .ok (.sipush 999, 3) := by decide +kernel
theorem dX3_init_45 : decode cX3_init 45 = .ok (.newarray .boolean, 2) := by decide +kernel
theorem dX3_init_47 : decode cX3_init 47 = .ok (.putfield 28, 3) := by decide +kernel
theorem dX3_init_50 : decode cX3_init 50 = .ok (.aload_n 0, 1) := by decide +kernel
theorem dX3_init_51 : decode cX3_init 51 = .ok (.sipush 999, 3) := by decide +kernel
theorem dX3_init_54 : decode cX3_init 54 = .ok (.newarray .int, 2) := by decide +kernel
theorem dX3_init_56 : decode cX3_init 56 = .ok (.putfield 31, 3) := by decide +kernel
theorem dX3_init_59 : decode cX3_init 59 = .ok (.return_, 1) := by decide +kernel
theorem dX3_open_0 : decode cX3_open 0 = .ok (.iconst 0, 1) := by decide +kernel
theorem dX3_open_1 : decode cX3_open 1 = .ok (.istore_n 1, 1) := by decide +kernel
theorem dX3_open_2 : decode cX3_open 2 = .ok (.iload_n 1, 1) := by decide +kernel
theorem dX3_open_3 : decode cX3_open 3 = .ok (.sipush 999, 3) := by decide +kernel
theorem dX3_open_6 : decode cX3_open 6 = .ok (.if_icmp .ge 30, 3) := by decide +kernel
theorem dX3_open_9 : decode cX3_open 9 = .ok (.aload_n 0, 1) := by decide +kernel
theorem dX3_open_10 : decode cX3_open 10 = .ok (.getfield 24, 3) := by decide +kernel
theorem dX3_open_13 : decode cX3_open 13 = .ok (.iload_n 1, 1) := by decide +kernel
theorem dX3_open_14 : decode cX3_open 14 = .ok (.iconst 0, 1) := by decide +kernel
theorem dX3_open_15 : decode cX3_open 15 = .ok (.bastore, 1) := by decide +kernel
theorem dX3_open_16 : decode cX3_open 16 = .ok (.aload_n 0, 1) := by decide +kernel
theorem dX3_open_17 : decode cX3_open 17 = .ok (.getfield 28, 3) := by decide +kernel
theorem dX3_open_20 : decode cX3_open 20 = .ok (.iload_n 1, 1) := by decide +kernel
theorem dX3_open_21 : decode cX3_open 21 = .ok (.iconst 0, 1) := by decide +kernel
theorem dX3_open_22 : decode cX3_open 22 = .ok (.bastore, 1) := by decide +kernel
theorem dX3_open_23 : decode cX3_open 23 = .ok (.aload_n 0, 1) := by decide +kernel
theorem dX3_open_24 : decode cX3_open 24 = .ok (.getfield 11, 3) := by decide +kernel
theorem dX3_open_27 : decode cX3_open 27 = .ok (.iload_n 1, 1) := by decide +kernel
theorem dX3_open_28 : decode cX3_open 28 = .ok (.aconst_null, 1) := by decide +kernel
theorem dX3_open_29 : decode cX3_open 29 = .ok (.aastore, 1) := by decide +kernel
theorem dX3_open_30 : decode cX3_open 30 = .ok (.iinc 1 1, 3) := by decide +kernel
theorem dX3_open_33 : decode cX3_open 33 = .ok (.goto (-31), 3) := by decide +kernel
theorem dX3_open_36 : decode cX3_open 36 = .ok (.aload_n 0, 1) := by decide +kernel
theorem dX3_open_37 : decode cX3_open 37 = .ok (.iconst 0, 1) := by decide +kernel
theorem dX3_open_38 : decode cX3_open 38 = .ok (.putfield 34, 3) := by decide +kernel
theorem dX3_open_41 : decode cX3_open 41 = .ok (.aload_n 0, 1) := by decide +kernel
theorem dX3_open_42 : decode cX3_open 42 = .ok (.iconst 0, 1) := by decide +kernel
theorem dX3_open_43 : decode cX3_open 43 = .ok (.putfield 38, 3) := by decide +kernel
theorem dX3_open_46 : decode cX3_open 46 = .ok (.aload_n 0, 1) := by decide +kernel
theorem dX3_open_47 : decode cX3_open 47 = .ok (.iconst 0, 1) := by decide +kernel
theorem dX3_open_48 : decode cX3_open 48 = .ok (.putfield 42, 3) := by decide +kernel
theorem dX3_open_51 : decode cX3_open 51 = .ok (.return_, 1) := by decide +kernel
theorem dX3_given_0 : decode cX3_given 0 = .ok (.aload_n 0, 1) := by decide +kernel
theorem dX3_given_1 : decode cX3_given 1 = .ok (.getfield 38, 3) := by decide +kernel
theorem dX3_given_4 : decode cX3_given 4 = .ok (.ireturn, 1) := by decide +kernel
theorem dX3_held_0 : decode cX3_held 0 = .ok (.aload_n 0, 1) := by decide +kernel
theorem dX3_held_1 : decode cX3_held 1 = .ok (.getfield 42, 3) := by decide +kernel
theorem dX3_held_4 : decode cX3_held 4 = .ok (.ireturn, 1) := by decide +kernel
theorem dX3_hasRoom_0 : decode cX3_hasRoom 0 = .ok (.aload_n 0, 1) := by decide +kernel
theorem dX3_hasRoom_1 : decode cX3_hasRoom 1 = .ok (.getfield 42, 3) := by decide +kernel
theorem dX3_hasRoom_4 : decode cX3_hasRoom 4 = .ok (.bipush 16, 2) := by decide +kernel
theorem dX3_hasRoom_6 : decode cX3_hasRoom 6 = .ok (.if_icmp .ge 17, 3) := by decide +kernel
theorem dX3_hasRoom_9 : decode cX3_hasRoom 9 = .ok (.aload_n 0, 1) := by decide +kernel
theorem dX3_hasRoom_10 : decode cX3_hasRoom 10 = .ok (.getfield 38, 3) := by decide +kernel
theorem dX3_hasRoom_13 : decode cX3_hasRoom 13 = .ok (.sipush 999, 3) := by decide +kernel
theorem dX3_hasRoom_16 : decode cX3_hasRoom 16 = .ok (.if_icmp .ge 7, 3) := by decide +kernel
theorem dX3_hasRoom_19 : decode cX3_hasRoom 19 = .ok (.iconst 1, 1) := by decide +kernel
theorem dX3_hasRoom_20 : decode cX3_hasRoom 20 = .ok (.goto 4, 3) := by decide +kernel
theorem dX3_hasRoom_23 : decode cX3_hasRoom 23 = .ok (.iconst 0, 1) := by decide +kernel
theorem dX3_hasRoom_24 : decode cX3_hasRoom 24 = .ok (.ireturn, 1) := by decide +kernel
theorem dX3_keep_0 : decode cX3_keep 0 = .ok (.aload_n 0, 1) := by decide +kernel
theorem dX3_keep_1 : decode cX3_keep 1 = .ok (.getfield 38, 3) := by decide +kernel
theorem dX3_keep_4 : decode cX3_keep 4 = .ok (.ifCond .lt 13, 3) := by decide +kernel
theorem dX3_keep_7 : decode cX3_keep 7 = .ok (.aload_n 0, 1) := by decide +kernel
theorem dX3_keep_8 : decode cX3_keep 8 = .ok (.getfield 38, 3) := by decide +kernel
theorem dX3_keep_11 : decode cX3_keep 11 = .ok (.sipush 999, 3) := by decide +kernel
theorem dX3_keep_14 : decode cX3_keep 14 = .ok (.if_icmp .lt 5, 3) := by decide +kernel
theorem dX3_keep_17 : decode cX3_keep 17 = .ok (.iconst (-1), 1) := by decide +kernel
theorem dX3_keep_18 : decode cX3_keep 18 = .ok (.ireturn, 1) := by decide +kernel
theorem dX3_keep_19 : decode cX3_keep 19 = .ok (.aload_n 0, 1) := by decide +kernel
theorem dX3_keep_20 : decode cX3_keep 20 = .ok (.getfield 11, 3) := by decide +kernel
theorem dX3_keep_23 : decode cX3_keep 23 = .ok (.aload_n 0, 1) := by decide +kernel
theorem dX3_keep_24 : decode cX3_keep 24 = .ok (.getfield 38, 3) := by decide +kernel
theorem dX3_keep_27 : decode cX3_keep 27 = .ok (.aload_n 1, 1) := by decide +kernel
theorem dX3_keep_28 : decode cX3_keep 28 = .ok (.aastore, 1) := by decide +kernel
theorem dX3_keep_29 : decode cX3_keep 29 = .ok (.aload_n 0, 1) := by decide +kernel
theorem dX3_keep_30 : decode cX3_keep 30 = .ok (.getfield 17, 3) := by decide +kernel
theorem dX3_keep_33 : decode cX3_keep 33 = .ok (.aload_n 0, 1) := by decide +kernel
theorem dX3_keep_34 : decode cX3_keep 34 = .ok (.getfield 38, 3) := by decide +kernel
theorem dX3_keep_37 : decode cX3_keep 37 = .ok (.iload_n 2, 1) := by decide +kernel
theorem dX3_keep_38 : decode cX3_keep 38 = .ok (.iastore, 1) := by decide +kernel
theorem dX3_keep_39 : decode cX3_keep 39 = .ok (.aload_n 0, 1) := by decide +kernel
theorem dX3_keep_40 : decode cX3_keep 40 = .ok (.getfield 21, 3) := by decide +kernel
theorem dX3_keep_43 : decode cX3_keep 43 = .ok (.aload_n 0, 1) := by decide +kernel
theorem dX3_keep_44 : decode cX3_keep 44 = .ok (.getfield 38, 3) := by decide +kernel
theorem dX3_keep_47 : decode cX3_keep 47 = .ok (.iload_n 3, 1) := by decide +kernel
theorem dX3_keep_48 : decode cX3_keep 48 = .ok (.iastore, 1) := by decide +kernel
theorem dX3_keep_49 : decode cX3_keep 49 = .ok (.aload_n 0, 1) := by decide +kernel
theorem dX3_keep_50 : decode cX3_keep 50 = .ok (.getfield 24, 3) := by decide +kernel
theorem dX3_keep_53 : decode cX3_keep 53 = .ok (.aload_n 0, 1) := by decide +kernel
theorem dX3_keep_54 : decode cX3_keep 54 = .ok (.getfield 38, 3) := by decide +kernel
theorem dX3_keep_57 : decode cX3_keep 57 = .ok (.iconst 1, 1) := by decide +kernel
theorem dX3_keep_58 : decode cX3_keep 58 = .ok (.bastore, 1) := by decide +kernel
theorem dX3_keep_59 : decode cX3_keep 59 = .ok (.aload_n 0, 1) := by decide +kernel
theorem dX3_keep_60 : decode cX3_keep 60 = .ok (.dup, 1) := by decide +kernel
theorem dX3_keep_61 : decode cX3_keep 61 = .ok (.getfield 42, 3) := by decide +kernel
theorem dX3_keep_64 : decode cX3_keep 64 = .ok (.iconst 1, 1) := by decide +kernel
theorem dX3_keep_65 : decode cX3_keep 65 = .ok (.iadd, 1) := by decide +kernel
theorem dX3_keep_66 : decode cX3_keep 66 = .ok (.putfield 42, 3) := by decide +kernel
theorem dX3_keep_69 : decode cX3_keep 69 = .ok (.aload_n 0, 1) := by decide +kernel
theorem dX3_keep_70 : decode cX3_keep 70 = .ok (.dup, 1) := by decide +kernel
theorem dX3_keep_71 : decode cX3_keep 71 = .ok (.getfield 38, 3) := by decide +kernel
theorem dX3_keep_74 : decode cX3_keep 74 = .ok (.dup_x1, 1) := by decide +kernel
theorem dX3_keep_75 : decode cX3_keep 75 = .ok (.iconst 1, 1) := by decide +kernel
theorem dX3_keep_76 : decode cX3_keep 76 = .ok (.iadd, 1) := by decide +kernel
theorem dX3_keep_77 : decode cX3_keep 77 = .ok (.putfield 38, 3) := by decide +kernel
theorem dX3_keep_80 : decode cX3_keep 80 = .ok (.ireturn, 1) := by decide +kernel
theorem dX3_heldRoot_0 : decode cX3_heldRoot 0 = .ok (.iload_n 1, 1) := by decide +kernel
theorem dX3_heldRoot_1 : decode cX3_heldRoot 1 = .ok (.ifCond .lt 36, 3) := by decide +kernel
theorem dX3_heldRoot_4 : decode cX3_heldRoot 4 = .ok (.iload_n 1, 1) := by decide +kernel
theorem dX3_heldRoot_5 : decode cX3_heldRoot 5 = .ok (.aload_n 0, 1) := by decide +kernel
theorem dX3_heldRoot_6 : decode cX3_heldRoot 6 = .ok (.getfield 38, 3) := by decide +kernel
theorem dX3_heldRoot_9 : decode cX3_heldRoot 9 = .ok (.if_icmp .ge 28, 3) := by decide +kernel
theorem dX3_heldRoot_12 : decode cX3_heldRoot 12 = .ok (.iload_n 1, 1) := by decide +kernel
theorem dX3_heldRoot_13 : decode cX3_heldRoot 13 = .ok (.sipush 999, 3) := by decide +kernel
theorem dX3_heldRoot_16 : decode cX3_heldRoot 16 = .ok (.if_icmp .ge 21, 3) := by decide +kernel
theorem dX3_heldRoot_19 : decode cX3_heldRoot 19 = .ok (.aload_n 0, 1) := by decide +kernel
theorem dX3_heldRoot_20 : decode cX3_heldRoot 20 = .ok (.getfield 24, 3) := by decide +kernel
theorem dX3_heldRoot_23 : decode cX3_heldRoot 23 = .ok (.iload_n 1, 1) := by decide +kernel
theorem dX3_heldRoot_24 : decode cX3_heldRoot 24 = .ok (.baload, 1) := by decide +kernel
theorem dX3_heldRoot_25 : decode cX3_heldRoot 25 = .ok (.ifCond .eq 12, 3) := by decide +kernel
theorem dX3_heldRoot_28 : decode cX3_heldRoot 28 = .ok (.aload_n 0, 1) := by decide +kernel
theorem dX3_heldRoot_29 : decode cX3_heldRoot 29 = .ok (.getfield 11, 3) := by decide +kernel
theorem dX3_heldRoot_32 : decode cX3_heldRoot 32 = .ok (.iload_n 1, 1) := by decide +kernel
theorem dX3_heldRoot_33 : decode cX3_heldRoot 33 = .ok (.aaload, 1) := by decide +kernel
theorem dX3_heldRoot_34 : decode cX3_heldRoot 34 = .ok (.goto 4, 3) := by decide +kernel
theorem dX3_heldRoot_37 : decode cX3_heldRoot 37 = .ok (.aconst_null, 1) := by decide +kernel
theorem dX3_heldRoot_38 : decode cX3_heldRoot 38 = .ok (.areturn, 1) := by decide +kernel
theorem dX3_release_0 : decode cX3_release 0 = .ok (.iload_n 1, 1) := by decide +kernel
theorem dX3_release_1 : decode cX3_release 1 = .ok (.ifCond .lt 36, 3) := by decide +kernel
theorem dX3_release_4 : decode cX3_release 4 = .ok (.iload_n 1, 1) := by decide +kernel
theorem dX3_release_5 : decode cX3_release 5 = .ok (.sipush 999, 3) := by decide +kernel
theorem dX3_release_8 : decode cX3_release 8 = .ok (.if_icmp .ge 29, 3) := by decide +kernel
theorem dX3_release_11 : decode cX3_release 11 = .ok (.aload_n 0, 1) := by decide +kernel
theorem dX3_release_12 : decode cX3_release 12 = .ok (.getfield 24, 3) := by decide +kernel
theorem dX3_release_15 : decode cX3_release 15 = .ok (.iload_n 1, 1) := by decide +kernel
theorem dX3_release_16 : decode cX3_release 16 = .ok (.baload, 1) := by decide +kernel
theorem dX3_release_17 : decode cX3_release 17 = .ok (.ifCond .eq 20, 3) := by decide +kernel
theorem dX3_release_20 : decode cX3_release 20 = .ok (.aload_n 0, 1) := by decide +kernel
theorem dX3_release_21 : decode cX3_release 21 = .ok (.getfield 24, 3) := by decide +kernel
theorem dX3_release_24 : decode cX3_release 24 = .ok (.iload_n 1, 1) := by decide +kernel
theorem dX3_release_25 : decode cX3_release 25 = .ok (.iconst 0, 1) := by decide +kernel
theorem dX3_release_26 : decode cX3_release 26 = .ok (.bastore, 1) := by decide +kernel
theorem dX3_release_27 : decode cX3_release 27 = .ok (.aload_n 0, 1) := by decide +kernel
theorem dX3_release_28 : decode cX3_release 28 = .ok (.dup, 1) := by decide +kernel
theorem dX3_release_29 : decode cX3_release 29 = .ok (.getfield 42, 3) := by decide +kernel
theorem dX3_release_32 : decode cX3_release 32 = .ok (.iconst 1, 1) := by decide +kernel
theorem dX3_release_33 : decode cX3_release 33 = .ok (.isub, 1) := by decide +kernel
theorem dX3_release_34 : decode cX3_release 34 = .ok (.putfield 42, 3) := by decide +kernel
theorem dX3_release_37 : decode cX3_release 37 = .ok (.return_, 1) := by decide +kernel
theorem dX3_oneOf_0 : decode cX3_oneOf 0 = .ok (.iload_n 1, 1) := by decide +kernel
theorem dX3_oneOf_1 : decode cX3_oneOf 1 = .ok (.ifCond .lt 27, 3) := by decide +kernel
theorem dX3_oneOf_4 : decode cX3_oneOf 4 = .ok (.iload_n 1, 1) := by decide +kernel
theorem dX3_oneOf_5 : decode cX3_oneOf 5 = .ok (.aload_n 0, 1) := by decide +kernel
theorem dX3_oneOf_6 : decode cX3_oneOf 6 = .ok (.getfield 38, 3) := by decide +kernel
theorem dX3_oneOf_9 : decode cX3_oneOf 9 = .ok (.if_icmp .ge 19, 3) := by decide +kernel
theorem dX3_oneOf_12 : decode cX3_oneOf 12 = .ok (.iload_n 1, 1) := by decide +kernel
theorem dX3_oneOf_13 : decode cX3_oneOf 13 = .ok (.sipush 999, 3) := by decide +kernel
theorem dX3_oneOf_16 : decode cX3_oneOf 16 = .ok (.if_icmp .ge 12, 3) := by decide +kernel
theorem dX3_oneOf_19 : decode cX3_oneOf 19 = .ok (.aload_n 0, 1) := by decide +kernel
theorem dX3_oneOf_20 : decode cX3_oneOf 20 = .ok (.getfield 17, 3) := by decide +kernel
theorem dX3_oneOf_23 : decode cX3_oneOf 23 = .ok (.iload_n 1, 1) := by decide +kernel
theorem dX3_oneOf_24 : decode cX3_oneOf 24 = .ok (.iaload, 1) := by decide +kernel
theorem dX3_oneOf_25 : decode cX3_oneOf 25 = .ok (.goto 4, 3) := by decide +kernel
theorem dX3_oneOf_28 : decode cX3_oneOf 28 = .ok (.iconst (-1), 1) := by decide +kernel
theorem dX3_oneOf_29 : decode cX3_oneOf 29 = .ok (.ireturn, 1) := by decide +kernel
theorem dX3_twoOf_0 : decode cX3_twoOf 0 = .ok (.iload_n 1, 1) := by decide +kernel
theorem dX3_twoOf_1 : decode cX3_twoOf 1 = .ok (.ifCond .lt 27, 3) := by decide +kernel
theorem dX3_twoOf_4 : decode cX3_twoOf 4 = .ok (.iload_n 1, 1) := by decide +kernel
theorem dX3_twoOf_5 : decode cX3_twoOf 5 = .ok (.aload_n 0, 1) := by decide +kernel
theorem dX3_twoOf_6 : decode cX3_twoOf 6 = .ok (.getfield 38, 3) := by decide +kernel
theorem dX3_twoOf_9 : decode cX3_twoOf 9 = .ok (.if_icmp .ge 19, 3) := by decide +kernel
theorem dX3_twoOf_12 : decode cX3_twoOf 12 = .ok (.iload_n 1, 1) := by decide +kernel
theorem dX3_twoOf_13 : decode cX3_twoOf 13 = .ok (.sipush 999, 3) := by decide +kernel
theorem dX3_twoOf_16 : decode cX3_twoOf 16 = .ok (.if_icmp .ge 12, 3) := by decide +kernel
theorem dX3_twoOf_19 : decode cX3_twoOf 19 = .ok (.aload_n 0, 1) := by decide +kernel
theorem dX3_twoOf_20 : decode cX3_twoOf 20 = .ok (.getfield 21, 3) := by decide +kernel
theorem dX3_twoOf_23 : decode cX3_twoOf 23 = .ok (.iload_n 1, 1) := by decide +kernel
theorem dX3_twoOf_24 : decode cX3_twoOf 24 = .ok (.iaload, 1) := by decide +kernel
theorem dX3_twoOf_25 : decode cX3_twoOf 25 = .ok (.goto 4, 3) := by decide +kernel
theorem dX3_twoOf_28 : decode cX3_twoOf 28 = .ok (.iconst (-1), 1) := by decide +kernel
theorem dX3_twoOf_29 : decode cX3_twoOf 29 = .ok (.ireturn, 1) := by decide +kernel
theorem dX3_keepImage_0 : decode cX3_keepImage 0 = .ok (.aload_n 0, 1) := by decide +kernel
theorem dX3_keepImage_1 : decode cX3_keepImage 1 = .ok (.iconst 1, 1) := by decide +kernel
theorem dX3_keepImage_2 : decode cX3_keepImage 2 = .ok (.putfield 34, 3) := by decide +kernel
theorem dX3_keepImage_5 : decode cX3_keepImage 5 = .ok (.iconst 0, 1) := by decide +kernel
theorem dX3_keepImage_6 : decode cX3_keepImage 6 = .ok (.istore_n 1, 1) := by decide +kernel
theorem dX3_keepImage_7 : decode cX3_keepImage 7 = .ok (.iload_n 1, 1) := by decide +kernel
theorem dX3_keepImage_8 : decode cX3_keepImage 8 = .ok (.sipush 999, 3) := by decide +kernel
theorem dX3_keepImage_11 : decode cX3_keepImage 11 = .ok (.if_icmp .ge 21, 3) := by decide +kernel
theorem dX3_keepImage_14 : decode cX3_keepImage 14 = .ok (.aload_n 0, 1) := by decide +kernel
theorem dX3_keepImage_15 : decode cX3_keepImage 15 = .ok (.getfield 28, 3) := by decide +kernel
theorem dX3_keepImage_18 : decode cX3_keepImage 18 = .ok (.iload_n 1, 1) := by decide +kernel
theorem dX3_keepImage_19 : decode cX3_keepImage 19 = .ok (.aload_n 0, 1) := by decide +kernel
theorem dX3_keepImage_20 : decode cX3_keepImage 20 = .ok (.getfield 24, 3) := by decide +kernel
theorem dX3_keepImage_23 : decode cX3_keepImage 23 = .ok (.iload_n 1, 1) := by decide +kernel
theorem dX3_keepImage_24 : decode cX3_keepImage 24 = .ok (.baload, 1) := by decide +kernel
theorem dX3_keepImage_25 : decode cX3_keepImage 25 = .ok (.bastore, 1) := by decide +kernel
theorem dX3_keepImage_26 : decode cX3_keepImage 26 = .ok (.iinc 1 1, 3) := by decide +kernel
theorem dX3_keepImage_29 : decode cX3_keepImage 29 = .ok (.goto (-22), 3) := by decide +kernel
theorem dX3_keepImage_32 : decode cX3_keepImage 32 = .ok (.return_, 1) := by decide +kernel
theorem dX3_restoreImage_0 : decode cX3_restoreImage 0 = .ok (.aload_n 0, 1) := by decide +kernel
theorem dX3_restoreImage_1 : decode cX3_restoreImage 1 = .ok (.getfield 34, 3) := by decide +kernel
theorem dX3_restoreImage_4 : decode cX3_restoreImage 4 = .ok (.ifCond .ne 5, 3) := by decide +kernel
theorem dX3_restoreImage_7 : decode cX3_restoreImage 7 = .ok (.iconst 0, 1) := by decide +kernel
theorem dX3_restoreImage_8 : decode cX3_restoreImage 8 = .ok (.ireturn, 1) := by decide +kernel
theorem dX3_restoreImage_9 : decode cX3_restoreImage 9 = .ok (.aload_n 0, 1) := by decide +kernel
theorem dX3_restoreImage_10 : decode cX3_restoreImage 10 = .ok (.iconst 0, 1) := by decide +kernel
theorem dX3_restoreImage_11 : decode cX3_restoreImage 11 = .ok (.putfield 42, 3) := by decide +kernel
theorem dX3_restoreImage_14 : decode cX3_restoreImage 14 = .ok (.iconst 0, 1) := by decide +kernel
theorem dX3_restoreImage_15 : decode cX3_restoreImage 15 = .ok (.istore_n 1, 1) := by decide +kernel
theorem dX3_restoreImage_16 : decode cX3_restoreImage 16 = .ok (.iload_n 1, 1) := by decide +kernel
theorem dX3_restoreImage_17 : decode cX3_restoreImage 17 = .ok (.sipush 999, 3) := by decide +kernel
theorem dX3_restoreImage_20 : decode cX3_restoreImage 20 = .ok (.if_icmp .ge 44, 3) := by decide +kernel
theorem dX3_restoreImage_23 : decode cX3_restoreImage 23 = .ok (.aload_n 0, 1) := by decide +kernel
theorem dX3_restoreImage_24 : decode cX3_restoreImage 24 = .ok (.getfield 24, 3) := by decide +kernel
theorem dX3_restoreImage_27 : decode cX3_restoreImage 27 = .ok (.iload_n 1, 1) := by decide +kernel
theorem dX3_restoreImage_28 : decode cX3_restoreImage 28 = .ok (.aload_n 0, 1) := by decide +kernel
theorem dX3_restoreImage_29 : decode cX3_restoreImage 29 = .ok (.getfield 28, 3) := by decide +kernel
theorem dX3_restoreImage_32 : decode cX3_restoreImage 32 = .ok (.iload_n 1, 1) := by decide +kernel
theorem dX3_restoreImage_33 : decode cX3_restoreImage 33 = .ok (.baload, 1) := by decide +kernel
theorem dX3_restoreImage_34 : decode cX3_restoreImage 34 = .ok (.bastore, 1) := by decide +kernel
theorem dX3_restoreImage_35 : decode cX3_restoreImage 35 = .ok (.aload_n 0, 1) := by decide +kernel
theorem dX3_restoreImage_36 : decode cX3_restoreImage 36 = .ok (.dup, 1) := by decide +kernel
theorem dX3_restoreImage_37 : decode cX3_restoreImage 37 = .ok (.getfield 42, 3) := by decide +kernel
theorem dX3_restoreImage_40 : decode cX3_restoreImage 40 = .ok (.aload_n 0, 1) := by decide +kernel
theorem dX3_restoreImage_41 : decode cX3_restoreImage 41 = .ok (.getfield 28, 3) := by decide +kernel
theorem dX3_restoreImage_44 : decode cX3_restoreImage 44 = .ok (.iload_n 1, 1) := by decide +kernel
theorem dX3_restoreImage_45 : decode cX3_restoreImage 45 = .ok (.baload, 1) := by decide +kernel
theorem dX3_restoreImage_46 : decode cX3_restoreImage 46 = .ok (.ifCond .eq 7, 3) := by decide +kernel
theorem dX3_restoreImage_49 : decode cX3_restoreImage 49 = .ok (.iconst 1, 1) := by decide +kernel
theorem dX3_restoreImage_50 : decode cX3_restoreImage 50 = .ok (.goto 4, 3) := by decide +kernel
theorem dX3_restoreImage_53 : decode cX3_restoreImage 53 = .ok (.iconst 0, 1) := by decide +kernel
theorem dX3_restoreImage_54 : decode cX3_restoreImage 54 = .ok (.iadd, 1) := by decide +kernel
theorem dX3_restoreImage_55 : decode cX3_restoreImage 55 = .ok (.putfield 42, 3) := by decide +kernel
theorem dX3_restoreImage_58 : decode cX3_restoreImage 58 = .ok (.iinc 1 1, 3) := by decide +kernel
theorem dX3_restoreImage_61 : decode cX3_restoreImage 61 = .ok (.goto (-45), 3) := by decide +kernel
theorem dX3_restoreImage_64 : decode cX3_restoreImage 64 = .ok (.iconst 1, 1) := by decide +kernel
theorem dX3_restoreImage_65 : decode cX3_restoreImage 65 = .ok (.ireturn, 1) := by decide +kernel
theorem dX3_highestBehind_0 : decode cX3_highestBehind 0 = .ok (.iconst 0, 1) := by decide +kernel
theorem dX3_highestBehind_1 : decode cX3_highestBehind 1 = .ok (.istore_n 3, 1) := by decide +kernel
theorem dX3_highestBehind_2 : decode cX3_highestBehind 2 = .ok (.iload_n 3, 1) := by decide +kernel
theorem dX3_highestBehind_3 : decode cX3_highestBehind 3 = .ok (.sipush 999, 3) := by decide +kernel
theorem dX3_highestBehind_6 : decode cX3_highestBehind 6 = .ok (.if_icmp .ge 16, 3) := by decide +kernel
theorem dX3_highestBehind_9 : decode cX3_highestBehind 9 = .ok (.aload_n 0, 1) := by decide +kernel
theorem dX3_highestBehind_10 : decode cX3_highestBehind 10 = .ok (.getfield 31, 3) := by decide +kernel
theorem dX3_highestBehind_13 : decode cX3_highestBehind 13 = .ok (.iload_n 3, 1) := by decide +kernel
theorem dX3_highestBehind_14 : decode cX3_highestBehind 14 = .ok (.iconst 0, 1) := by decide +kernel
theorem dX3_highestBehind_15 : decode cX3_highestBehind 15 = .ok (.iastore, 1) := by decide +kernel
theorem dX3_highestBehind_16 : decode cX3_highestBehind 16 = .ok (.iinc 3 1, 3) := by decide +kernel
theorem dX3_highestBehind_19 : decode cX3_highestBehind 19 = .ok (.goto (-17), 3) := by decide +kernel
theorem dX3_highestBehind_22 : decode cX3_highestBehind 22 = .ok (.aload_n 0, 1) := by decide +kernel
theorem dX3_highestBehind_23 : decode cX3_highestBehind 23 = .ok (.iload_n 1, 1) := by decide +kernel
theorem dX3_highestBehind_24 : decode cX3_highestBehind 24 = .ok (.iconst 1, 1) := by decide +kernel
theorem dX3_highestBehind_25 : decode cX3_highestBehind 25 = .ok (.invokevirtual 45, 3) := by decide +kernel
theorem dX3_highestBehind_28 : decode cX3_highestBehind 28 = .ok (.aload_n 0, 1) := by decide +kernel
theorem dX3_highestBehind_29 : decode cX3_highestBehind 29 = .ok (.iload_n 2, 1) := by decide +kernel
theorem dX3_highestBehind_30 : decode cX3_highestBehind 30 = .ok (.iconst 2, 1) := by decide +kernel
theorem dX3_highestBehind_31 : decode cX3_highestBehind 31 = .ok (.invokevirtual 45, 3) := by decide +kernel
theorem dX3_highestBehind_34 : decode cX3_highestBehind 34 = .ok (.sipush 998, 3) := by decide +kernel
theorem dX3_highestBehind_37 : decode cX3_highestBehind 37 = .ok (.istore_n 3, 1) := by decide +kernel
theorem dX3_highestBehind_38 : decode cX3_highestBehind 38 = .ok (.iload_n 3, 1) := by decide +kernel
theorem dX3_highestBehind_39 : decode cX3_highestBehind 39 = .ok (.ifCond .lt 60, 3) := by decide +kernel
theorem dX3_highestBehind_42 : decode cX3_highestBehind 42 = .ok (.aload_n 0, 1) := by decide +kernel
theorem dX3_highestBehind_43 : decode cX3_highestBehind 43 = .ok (.getfield 31, 3) := by decide +kernel
theorem dX3_highestBehind_46 : decode cX3_highestBehind 46 = .ok (.iload_n 3, 1) := by decide +kernel
theorem dX3_highestBehind_47 : decode cX3_highestBehind 47 = .ok (.iaload, 1) := by decide +kernel
theorem dX3_highestBehind_48 : decode cX3_highestBehind 48 = .ok (.iconst 3, 1) := by decide +kernel
theorem dX3_highestBehind_49 : decode cX3_highestBehind 49 = .ok (.if_icmp .ne 5, 3) := by decide +kernel
theorem dX3_highestBehind_52 : decode cX3_highestBehind 52 = .ok (.iload_n 3, 1) := by decide +kernel
theorem dX3_highestBehind_53 : decode cX3_highestBehind 53 = .ok (.ireturn, 1) := by decide +kernel
theorem dX3_highestBehind_54 : decode cX3_highestBehind 54 = .ok (.aload_n 0, 1) := by decide +kernel
theorem dX3_highestBehind_55 : decode cX3_highestBehind 55 = .ok (.getfield 31, 3) := by decide +kernel
theorem dX3_highestBehind_58 : decode cX3_highestBehind 58 = .ok (.iload_n 3, 1) := by decide +kernel
theorem dX3_highestBehind_59 : decode cX3_highestBehind 59 = .ok (.iaload, 1) := by decide +kernel
theorem dX3_highestBehind_60 : decode cX3_highestBehind 60 = .ok (.ifCond .eq 33, 3) := by decide +kernel
theorem dX3_highestBehind_63 : decode cX3_highestBehind 63 = .ok (.aload_n 0, 1) := by decide +kernel
theorem dX3_highestBehind_64 : decode cX3_highestBehind 64 = .ok (.aload_n 0, 1) := by decide +kernel
theorem dX3_highestBehind_65 : decode cX3_highestBehind 65 = .ok (.iload_n 3, 1) := by decide +kernel
theorem dX3_highestBehind_66 : decode cX3_highestBehind 66 = .ok (.invokevirtual 49, 3) := by decide +kernel
theorem dX3_highestBehind_69 : decode cX3_highestBehind 69 = .ok (.aload_n 0, 1) := by decide +kernel
theorem dX3_highestBehind_70 : decode cX3_highestBehind 70 = .ok (.getfield 31, 3) := by decide +kernel
theorem dX3_highestBehind_73 : decode cX3_highestBehind 73 = .ok (.iload_n 3, 1) := by decide +kernel
theorem dX3_highestBehind_74 : decode cX3_highestBehind 74 = .ok (.iaload, 1) := by decide +kernel
theorem dX3_highestBehind_75 : decode cX3_highestBehind 75 = .ok (.invokevirtual 45, 3) := by decide +kernel
theorem dX3_highestBehind_78 : decode cX3_highestBehind 78 = .ok (.aload_n 0, 1) := by decide +kernel
theorem dX3_highestBehind_79 : decode cX3_highestBehind 79 = .ok (.aload_n 0, 1) := by decide +kernel
theorem dX3_highestBehind_80 : decode cX3_highestBehind 80 = .ok (.iload_n 3, 1) := by decide +kernel
theorem dX3_highestBehind_81 : decode cX3_highestBehind 81 = .ok (.invokevirtual 53, 3) := by decide +kernel
theorem dX3_highestBehind_84 : decode cX3_highestBehind 84 = .ok (.aload_n 0, 1) := by decide +kernel
theorem dX3_highestBehind_85 : decode cX3_highestBehind 85 = .ok (.getfield 31, 3) := by decide +kernel
theorem dX3_highestBehind_88 : decode cX3_highestBehind 88 = .ok (.iload_n 3, 1) := by decide +kernel
theorem dX3_highestBehind_89 : decode cX3_highestBehind 89 = .ok (.iaload, 1) := by decide +kernel
theorem dX3_highestBehind_90 : decode cX3_highestBehind 90 = .ok (.invokevirtual 45, 3) := by decide +kernel
theorem dX3_highestBehind_93 : decode cX3_highestBehind 93 = .ok (.iinc 3 (-1), 3) := by decide +kernel
theorem dX3_highestBehind_96 : decode cX3_highestBehind 96 = .ok (.goto (-58), 3) := by decide +kernel
theorem dX3_highestBehind_99 : decode cX3_highestBehind 99 = .ok (.iconst (-1), 1) := by decide +kernel
theorem dX3_highestBehind_100 : decode cX3_highestBehind 100 = .ok (.ireturn, 1) := by decide +kernel
theorem dX3_join_0 : decode cX3_join 0 = .ok (.iload_n 1, 1) := by decide +kernel
theorem dX3_join_1 : decode cX3_join 1 = .ok (.ifCond .lt 20, 3) := by decide +kernel
theorem dX3_join_4 : decode cX3_join 4 = .ok (.iload_n 1, 1) := by decide +kernel
theorem dX3_join_5 : decode cX3_join 5 = .ok (.sipush 999, 3) := by decide +kernel
theorem dX3_join_8 : decode cX3_join 8 = .ok (.if_icmp .ge 13, 3) := by decide +kernel
theorem dX3_join_11 : decode cX3_join 11 = .ok (.aload_n 0, 1) := by decide +kernel
theorem dX3_join_12 : decode cX3_join 12 = .ok (.getfield 31, 3) := by decide +kernel
theorem dX3_join_15 : decode cX3_join 15 = .ok (.iload_n 1, 1) := by decide +kernel
theorem dX3_join_16 : decode cX3_join 16 = .ok (.dup2, 1) := by decide +kernel
theorem dX3_join_17 : decode cX3_join 17 = .ok (.iaload, 1) := by decide +kernel
theorem dX3_join_18 : decode cX3_join 18 = .ok (.iload_n 2, 1) := by decide +kernel
theorem dX3_join_19 : decode cX3_join 19 = .ok (.ior, 1) := by decide +kernel
theorem dX3_join_20 : decode cX3_join 20 = .ok (.iastore, 1) := by decide +kernel
theorem dX3_join_21 : decode cX3_join 21 = .ok (.return_, 1) := by decide +kernel
theorem dX4_init_0 : decode cX4_init 0 = .ok (.aload_n 0, 1) := by decide +kernel
theorem dX4_init_1 : decode cX4_init 1 = .ok (.invokespecial 3, 3) := by decide +kernel
theorem dX4_init_4 : decode cX4_init 4 = .ok (.aload_n 0, 1) := by decide +kernel
theorem dX4_init_5 : decode cX4_init 5 = .ok (.iload_n 2, 1) := by decide +kernel
theorem dX4_init_6 : decode cX4_init 6 = .ok (.putfield 9, 3) := by decide +kernel
theorem dX4_init_9 : decode cX4_init 9 = .ok (.aload_n 0, 1) := by decide +kernel
theorem dX4_init_10 : decode cX4_init 10 = .ok (.iload_n 1, 1) := by decide +kernel
theorem dX4_init_11 : decode cX4_init 11 = .ok (.ifCond .eq 10, 3) := by decide +kernel
theorem dX4_init_14 : decode cX4_init 14 = .ok (.bipush 14, 2) := by decide +kernel
theorem dX4_init_16 : decode cX4_init 16 = .ok (.newarray .int, 2) := by decide +kernel
theorem dX4_init_18 : decode cX4_init 18 = .ok (.goto 4, 3) := by decide +kernel
theorem dX4_init_21 : decode cX4_init 21 = .ok (.aconst_null, 1) := by decide +kernel
theorem dX4_init_22 : decode cX4_init 22 = .ok (.putfield 15, 3) := by decide +kernel
theorem dX4_init_25 : decode cX4_init 25 = .ok (.aload_n 0, 1) := by decide +kernel
theorem dX4_init_26 : decode cX4_init 26 = .ok (.iload_n 1, 1) := by decide +kernel
theorem dX4_init_27 : decode cX4_init 27 = .ok (.ifCond .eq 7, 3) := by decide +kernel
theorem dX4_init_30 : decode cX4_init 30 = .ok (.aconst_null, 1) := by decide +kernel
theorem dX4_init_31 : decode cX4_init 31 = .ok (.goto 8, 3) := by decide +kernel
theorem dX4_init_34 : decode cX4_init 34 = .ok (.bipush 7, 2) := by decide +kernel
theorem dX4_init_36 : decode cX4_init 36 = .ok (.anewarray 10, 3) := by decide +kernel
theorem dX4_init_39 : decode cX4_init 39 = .ok (.putfield 19, 3) := by decide +kernel
theorem dX4_init_42 : decode cX4_init 42 = .ok (.return_, 1) := by decide +kernel
theorem dX4_init__0 : decode cX4_init_ 0 = .ok (.aload_n 0, 1) := by decide +kernel
theorem dX4_init__1 : decode cX4_init_ 1 = .ok (.invokespecial 3, 3) := by decide +kernel
theorem dX4_init__4 : decode cX4_init_ 4 = .ok (.aload_n 0, 1) := by decide +kernel
theorem dX4_init__5 : decode cX4_init_ 5 = .ok (.iload_n 2, 1) := by decide +kernel
theorem dX4_init__6 : decode cX4_init_ 6 = .ok (.putfield 9, 3) := by decide +kernel
theorem dX4_init__9 : decode cX4_init_ 9 = .ok (.aload_n 0, 1) := by decide +kernel
theorem dX4_init__10 : decode cX4_init_ 10 = .ok (.aload_n 1, 1) := by decide +kernel
theorem dX4_init__11 : decode cX4_init_ 11 = .ok (.getfield 15, 3) := by decide +kernel
theorem dX4_init__14 : decode cX4_init_ 14 = .ok (.ifnonnull 7, 3) := by decide +kernel
theorem dX4_init__17 : decode cX4_init_ 17 = .ok (.aconst_null, 1) := by decide +kernel
theorem dX4_init__18 : decode cX4_init_ 18 = .ok (.goto 13, 3) := by decide +kernel
theorem dX4_init__21 : decode cX4_init_ 21 = .ok (.aload_n 1, 1) := by decide +kernel
theorem dX4_init__22 : decode cX4_init_ 22 = .ok (.getfield 15, 3) := by decide +kernel
theorem dX4_init__25 : decode cX4_init_ 25 = .ok (.invokevirtual 23, 3) := by decide +kernel
theorem dX4_init__28 : decode cX4_init_ 28 = .ok (.checkcast 24, 3) := by decide +kernel
theorem dX4_init__31 : decode cX4_init_ 31 = .ok (.putfield 15, 3) := by decide +kernel
theorem dX4_init__34 : decode cX4_init_ 34 = .ok (.aload_n 0, 1) := by decide +kernel
theorem dX4_init__35 : decode cX4_init_ 35 = .ok (.aload_n 1, 1) := by decide +kernel
theorem dX4_init__36 : decode cX4_init_ 36 = .ok (.getfield 19, 3) := by decide +kernel
theorem dX4_init__39 : decode cX4_init_ 39 = .ok (.ifnonnull 7, 3) := by decide +kernel
theorem dX4_init__42 : decode cX4_init_ 42 = .ok (.aconst_null, 1) := by decide +kernel
theorem dX4_init__43 : decode cX4_init_ 43 = .ok (.goto 13, 3) := by decide +kernel
theorem dX4_init__46 : decode cX4_init_ 46 = .ok (.aload_n 1, 1) := by decide +kernel
theorem dX4_init__47 : decode cX4_init_ 47 = .ok (.getfield 19, 3) := by decide +kernel
theorem dX4_init__50 : decode cX4_init_ 50 = .ok (.invokevirtual 28, 3) := by decide +kernel
theorem dX4_init__53 : decode cX4_init_ 53 = .ok (.checkcast 29, 3) := by decide +kernel
theorem dX4_init__56 : decode cX4_init_ 56 = .ok (.putfield 19, 3) := by decide +kernel
theorem dX4_init__59 : decode cX4_init_ 59 = .ok (.aload_n 0, 1) := by decide +kernel
theorem dX4_init__60 : decode cX4_init_ 60 = .ok (.aload_n 1, 1) := by decide +kernel
theorem dX4_init__61 : decode cX4_init_ 61 = .ok (.getfield 30, 3) := by decide +kernel
theorem dX4_init__64 : decode cX4_init_ 64 = .ok (.putfield 30, 3) := by decide +kernel
theorem dX4_init__67 : decode cX4_init_ 67 = .ok (.return_, 1) := by decide +kernel
theorem dX4_isLeaf_0 : decode cX4_isLeaf 0 = .ok (.aload_n 0, 1) := by decide +kernel
theorem dX4_isLeaf_1 : decode cX4_isLeaf 1 = .ok (.getfield 15, 3) := by decide +kernel
theorem dX4_isLeaf_4 : decode cX4_isLeaf 4 = .ok (.ifnull 7, 3) := by decide +kernel
theorem dX4_isLeaf_7 : decode cX4_isLeaf 7 = .ok (.iconst 1, 1) := by decide +kernel
theorem dX4_isLeaf_8 : decode cX4_isLeaf 8 = .ok (.goto 4, 3) := by decide +kernel
theorem dX4_isLeaf_11 : decode cX4_isLeaf 11 = .ok (.iconst 0, 1) := by decide +kernel
theorem dX4_isLeaf_12 : decode cX4_isLeaf 12 = .ok (.ireturn, 1) := by decide +kernel
theorem dX4_size_0 : decode cX4_size 0 = .ok (.aload_n 0, 1) := by decide +kernel
theorem dX4_size_1 : decode cX4_size 1 = .ok (.getfield 30, 3) := by decide +kernel
theorem dX4_size_4 : decode cX4_size 4 = .ok (.ireturn, 1) := by decide +kernel
theorem dX4_token_0 : decode cX4_token 0 = .ok (.aload_n 0, 1) := by decide +kernel
theorem dX4_token_1 : decode cX4_token 1 = .ok (.getfield 9, 3) := by decide +kernel
theorem dX4_token_4 : decode cX4_token 4 = .ok (.ireturn, 1) := by decide +kernel
theorem dX4_bears_0 : decode cX4_bears 0 = .ok (.aload_n 0, 1) := by decide +kernel
theorem dX4_bears_1 : decode cX4_bears 1 = .ok (.getfield 33, 3) := by decide +kernel
theorem dX4_bears_4 : decode cX4_bears 4 = .ok (.iload_n 1, 1) := by decide +kernel
theorem dX4_bears_5 : decode cX4_bears 5 = .ok (.if_icmp .ne 7, 3) := by decide +kernel
theorem dX4_bears_8 : decode cX4_bears 8 = .ok (.iconst 1, 1) := by decide +kernel
theorem dX4_bears_9 : decode cX4_bears 9 = .ok (.goto 4, 3) := by decide +kernel
theorem dX4_bears_12 : decode cX4_bears 12 = .ok (.iconst 0, 1) := by decide +kernel
theorem dX4_bears_13 : decode cX4_bears 13 = .ok (.ireturn, 1) := by decide +kernel
theorem dX4_bear_0 : decode cX4_bear 0 = .ok (.aload_n 0, 1) := by decide +kernel
theorem dX4_bear_1 : decode cX4_bear 1 = .ok (.iload_n 1, 1) := by decide +kernel
theorem dX4_bear_2 : decode cX4_bear 2 = .ok (.putfield 33, 3) := by decide +kernel
theorem dX4_bear_5 : decode cX4_bear 5 = .ok (.return_, 1) := by decide +kernel
theorem dX4_keyAt_0 : decode cX4_keyAt 0 = .ok (.aload_n 0, 1) := by decide +kernel
theorem dX4_keyAt_1 : decode cX4_keyAt 1 = .ok (.getfield 15, 3) := by decide +kernel
theorem dX4_keyAt_4 : decode cX4_keyAt 4 = .ok (.ifnull 32, 3) := by decide +kernel
theorem dX4_keyAt_7 : decode cX4_keyAt 7 = .ok (.iload_n 1, 1) := by decide +kernel
theorem dX4_keyAt_8 : decode cX4_keyAt 8 = .ok (.ifCond .lt 28, 3) := by decide +kernel
theorem dX4_keyAt_11 : decode cX4_keyAt 11 = .ok (.iload_n 1, 1) := by decide +kernel
theorem dX4_keyAt_12 : decode cX4_keyAt 12 = .ok (.aload_n 0, 1) := by decide +kernel
theorem dX4_keyAt_13 : decode cX4_keyAt 13 = .ok (.getfield 30, 3) := by decide +kernel
theorem dX4_keyAt_16 : decode cX4_keyAt 16 = .ok (.if_icmp .ge 20, 3) := by decide +kernel
theorem dX4_keyAt_19 : decode cX4_keyAt 19 = .ok (.iload_n 1, 1) := by decide +kernel
theorem dX4_keyAt_20 : decode cX4_keyAt 20 = .ok (.bipush 7, 2) := by decide +kernel
theorem dX4_keyAt_22 : decode cX4_keyAt 22 = .ok (.if_icmp .ge 14, 3) := by decide +kernel
theorem dX4_keyAt_25 : decode cX4_keyAt 25 = .ok (.aload_n 0, 1) := by decide +kernel
theorem dX4_keyAt_26 : decode cX4_keyAt 26 = .ok (.getfield 15, 3) := by decide +kernel
theorem dX4_keyAt_29 : decode cX4_keyAt 29 = .ok (.iconst 2, 1) := by decide +kernel
theorem dX4_keyAt_30 : decode cX4_keyAt 30 = .ok (.iload_n 1, 1) := by decide +kernel
theorem dX4_keyAt_31 : decode cX4_keyAt 31 = .ok (.imul, 1) := by decide +kernel
theorem dX4_keyAt_32 : decode cX4_keyAt 32 = .ok (.iaload, 1) := by decide +kernel
theorem dX4_keyAt_33 : decode cX4_keyAt 33 = .ok (.goto 4, 3) := by decide +kernel
theorem dX4_keyAt_36 : decode cX4_keyAt 36 = .ok (.iconst (-1), 1) := by decide +kernel
theorem dX4_keyAt_37 : decode cX4_keyAt 37 = .ok (.ireturn, 1) := by decide +kernel
theorem dX4_valueAt_0 : decode cX4_valueAt 0 = .ok (.aload_n 0, 1) := by decide +kernel
theorem dX4_valueAt_1 : decode cX4_valueAt 1 = .ok (.getfield 15, 3) := by decide +kernel
theorem dX4_valueAt_4 : decode cX4_valueAt 4 = .ok (.ifnull 34, 3) := by decide +kernel
theorem dX4_valueAt_7 : decode cX4_valueAt 7 = .ok (.iload_n 1, 1) := by decide +kernel
theorem dX4_valueAt_8 : decode cX4_valueAt 8 = .ok (.ifCond .lt 30, 3) := by decide +kernel
theorem dX4_valueAt_11 : decode cX4_valueAt 11 = .ok (.iload_n 1, 1) := by decide +kernel
theorem dX4_valueAt_12 : decode cX4_valueAt 12 = .ok (.aload_n 0, 1) := by decide +kernel
theorem dX4_valueAt_13 : decode cX4_valueAt 13 = .ok (.getfield 30, 3) := by decide +kernel
theorem dX4_valueAt_16 : decode cX4_valueAt 16 = .ok (.if_icmp .ge 22, 3) := by decide +kernel
theorem dX4_valueAt_19 : decode cX4_valueAt 19 = .ok (.iload_n 1, 1) := by decide +kernel
theorem dX4_valueAt_20 : decode cX4_valueAt 20 = .ok (.bipush 7, 2) := by decide +kernel
theorem dX4_valueAt_22 : decode cX4_valueAt 22 = .ok (.if_icmp .ge 16, 3) := by decide +kernel
theorem dX4_valueAt_25 : decode cX4_valueAt 25 = .ok (.aload_n 0, 1) := by decide +kernel
theorem dX4_valueAt_26 : decode cX4_valueAt 26 = .ok (.getfield 15, 3) := by decide +kernel
theorem dX4_valueAt_29 : decode cX4_valueAt 29 = .ok (.iconst 2, 1) := by decide +kernel
theorem dX4_valueAt_30 : decode cX4_valueAt 30 = .ok (.iload_n 1, 1) := by decide +kernel
theorem dX4_valueAt_31 : decode cX4_valueAt 31 = .ok (.imul, 1) := by decide +kernel
theorem dX4_valueAt_32 : decode cX4_valueAt 32 = .ok (.iconst 1, 1) := by decide +kernel
theorem dX4_valueAt_33 : decode cX4_valueAt 33 = .ok (.iadd, 1) := by decide +kernel
theorem dX4_valueAt_34 : decode cX4_valueAt 34 = .ok (.iaload, 1) := by decide +kernel
theorem dX4_valueAt_35 : decode cX4_valueAt 35 = .ok (.goto 5, 3) := by decide +kernel
theorem dX4_valueAt_38 : decode cX4_valueAt 38 = .ok (.ldc 36, 2) := by decide +kernel
theorem dX4_valueAt_40 : decode cX4_valueAt 40 = .ok (.ireturn, 1) := by decide +kernel
theorem dX4_kidAt_0 : decode cX4_kidAt 0 = .ok (.aload_n 0, 1) := by decide +kernel
theorem dX4_kidAt_1 : decode cX4_kidAt 1 = .ok (.getfield 19, 3) := by decide +kernel
theorem dX4_kidAt_4 : decode cX4_kidAt 4 = .ok (.ifnull 30, 3) := by decide +kernel
theorem dX4_kidAt_7 : decode cX4_kidAt 7 = .ok (.iload_n 1, 1) := by decide +kernel
theorem dX4_kidAt_8 : decode cX4_kidAt 8 = .ok (.ifCond .lt 26, 3) := by decide +kernel
theorem dX4_kidAt_11 : decode cX4_kidAt 11 = .ok (.iload_n 1, 1) := by decide +kernel
theorem dX4_kidAt_12 : decode cX4_kidAt 12 = .ok (.aload_n 0, 1) := by decide +kernel
theorem dX4_kidAt_13 : decode cX4_kidAt 13 = .ok (.getfield 30, 3) := by decide +kernel
theorem dX4_kidAt_16 : decode cX4_kidAt 16 = .ok (.if_icmp .ge 18, 3) := by decide +kernel
theorem dX4_kidAt_19 : decode cX4_kidAt 19 = .ok (.iload_n 1, 1) := by decide +kernel
theorem dX4_kidAt_20 : decode cX4_kidAt 20 = .ok (.bipush 7, 2) := by decide +kernel
theorem dX4_kidAt_22 : decode cX4_kidAt 22 = .ok (.if_icmp .ge 12, 3) := by decide +kernel
theorem dX4_kidAt_25 : decode cX4_kidAt 25 = .ok (.aload_n 0, 1) := by decide +kernel
theorem dX4_kidAt_26 : decode cX4_kidAt 26 = .ok (.getfield 19, 3) := by decide +kernel
theorem dX4_kidAt_29 : decode cX4_kidAt 29 = .ok (.iload_n 1, 1) := by decide +kernel
theorem dX4_kidAt_30 : decode cX4_kidAt 30 = .ok (.aaload, 1) := by decide +kernel
theorem dX4_kidAt_31 : decode cX4_kidAt 31 = .ok (.goto 4, 3) := by decide +kernel
theorem dX4_kidAt_34 : decode cX4_kidAt 34 = .ok (.aconst_null, 1) := by decide +kernel
theorem dX4_kidAt_35 : decode cX4_kidAt 35 = .ok (.areturn, 1) := by decide +kernel
theorem dX4_valueOf_0 : decode cX4_valueOf 0 = .ok (.aload_n 0, 1) := by decide +kernel
theorem dX4_valueOf_1 : decode cX4_valueOf 1 = .ok (.iload_n 1, 1) := by decide +kernel
theorem dX4_valueOf_2 : decode cX4_valueOf 2 = .ok (.invokevirtual 37, 3) := by decide +kernel
theorem dX4_valueOf_5 : decode cX4_valueOf 5 = .ok (.istore_n 2, 1) := by decide +kernel
theorem dX4_valueOf_6 : decode cX4_valueOf 6 = .ok (.iload_n 2, 1) := by decide +kernel
theorem dX4_valueOf_7 : decode cX4_valueOf 7 = .ok (.aload_n 0, 1) := by decide +kernel
theorem dX4_valueOf_8 : decode cX4_valueOf 8 = .ok (.getfield 30, 3) := by decide +kernel
theorem dX4_valueOf_11 : decode cX4_valueOf 11 = .ok (.if_icmp .ge 20, 3) := by decide +kernel
theorem dX4_valueOf_14 : decode cX4_valueOf 14 = .ok (.aload_n 0, 1) := by decide +kernel
theorem dX4_valueOf_15 : decode cX4_valueOf 15 = .ok (.iload_n 2, 1) := by decide +kernel
theorem dX4_valueOf_16 : decode cX4_valueOf 16 = .ok (.invokevirtual 41, 3) := by decide +kernel
theorem dX4_valueOf_19 : decode cX4_valueOf 19 = .ok (.iload_n 1, 1) := by decide +kernel
theorem dX4_valueOf_20 : decode cX4_valueOf 20 = .ok (.if_icmp .ne 11, 3) := by decide +kernel
theorem dX4_valueOf_23 : decode cX4_valueOf 23 = .ok (.aload_n 0, 1) := by decide +kernel
theorem dX4_valueOf_24 : decode cX4_valueOf 24 = .ok (.iload_n 2, 1) := by decide +kernel
theorem dX4_valueOf_25 : decode cX4_valueOf 25 = .ok (.invokevirtual 44, 3) := by decide +kernel
theorem dX4_valueOf_28 : decode cX4_valueOf 28 = .ok (.goto 5, 3) := by decide +kernel
theorem dX4_valueOf_31 : decode cX4_valueOf 31 = .ok (.ldc 36, 2) := by decide +kernel
theorem dX4_valueOf_33 : decode cX4_valueOf 33 = .ok (.ireturn, 1) := by decide +kernel
theorem dX4_placeOfKey_0 : decode cX4_placeOfKey 0 = .ok (.iconst 0, 1) := by decide +kernel
theorem dX4_placeOfKey_1 : decode cX4_placeOfKey 1 = .ok (.istore_n 2, 1) := by decide +kernel
theorem dX4_placeOfKey_2 : decode cX4_placeOfKey 2 = .ok (.iload_n 2, 1) := by decide +kernel
theorem dX4_placeOfKey_3 : decode cX4_placeOfKey 3 = .ok (.aload_n 0, 1) := by decide +kernel
theorem dX4_placeOfKey_4 : decode cX4_placeOfKey 4 = .ok (.getfield 30, 3) := by decide +kernel
theorem dX4_placeOfKey_7 : decode cX4_placeOfKey 7 = .ok (.if_icmp .ge 18, 3) := by decide +kernel
theorem dX4_placeOfKey_10 : decode cX4_placeOfKey 10 = .ok (.aload_n 0, 1) := by decide +kernel
theorem dX4_placeOfKey_11 : decode cX4_placeOfKey 11 = .ok (.iload_n 2, 1) := by decide +kernel
theorem dX4_placeOfKey_12 : decode cX4_placeOfKey 12 = .ok (.invokevirtual 41, 3) := by decide +kernel
theorem dX4_placeOfKey_15 : decode cX4_placeOfKey 15 = .ok (.iload_n 1, 1) := by decide +kernel
theorem dX4_placeOfKey_16 : decode cX4_placeOfKey 16 = .ok (.if_icmp .ge 9, 3) := by decide +kernel
theorem dX4_placeOfKey_19 : decode cX4_placeOfKey 19 = .ok (.iinc 2 1, 3) := by decide +kernel
theorem dX4_placeOfKey_22 : decode cX4_placeOfKey 22 = .ok (.goto (-20), 3) := by decide +kernel
theorem dX4_placeOfKey_25 : decode cX4_placeOfKey 25 = .ok (.iload_n 2, 1) := by decide +kernel
theorem dX4_placeOfKey_26 : decode cX4_placeOfKey 26 = .ok (.ireturn, 1) := by decide +kernel
theorem dX4_placeOfKid_0 : decode cX4_placeOfKid 0 = .ok (.iconst 0, 1) := by decide +kernel
theorem dX4_placeOfKid_1 : decode cX4_placeOfKid 1 = .ok (.istore_n 2, 1) := by decide +kernel
theorem dX4_placeOfKid_2 : decode cX4_placeOfKid 2 = .ok (.iconst 1, 1) := by decide +kernel
theorem dX4_placeOfKid_3 : decode cX4_placeOfKid 3 = .ok (.istore_n 3, 1) := by decide +kernel
theorem dX4_placeOfKid_4 : decode cX4_placeOfKid 4 = .ok (.iload_n 3, 1) := by decide +kernel
theorem dX4_placeOfKid_5 : decode cX4_placeOfKid 5 = .ok (.aload_n 0, 1) := by decide +kernel
theorem dX4_placeOfKid_6 : decode cX4_placeOfKid 6 = .ok (.getfield 30, 3) := by decide +kernel
theorem dX4_placeOfKid_9 : decode cX4_placeOfKid 9 = .ok (.if_icmp .ge 32, 3) := by decide +kernel
theorem dX4_placeOfKid_12 : decode cX4_placeOfKid 12 = .ok (.aload_n 0, 1) := by decide +kernel
theorem dX4_placeOfKid_13 : decode cX4_placeOfKid 13 = .ok (.iload_n 3, 1) := by decide +kernel
theorem dX4_placeOfKid_14 : decode cX4_placeOfKid 14 = .ok (.invokevirtual 47, 3) := by decide +kernel
theorem dX4_placeOfKid_17 : decode cX4_placeOfKid 17 = .ok (.astore 4, 2) := by decide +kernel
theorem dX4_placeOfKid_19 : decode cX4_placeOfKid 19 = .ok (.aload 4, 2) := by decide +kernel
theorem dX4_placeOfKid_21 : decode cX4_placeOfKid 21 = .ok (.ifnull 14, 3) := by decide +kernel
theorem dX4_placeOfKid_24 : decode cX4_placeOfKid 24 = .ok (.aload 4, 2) := by decide +kernel
theorem dX4_placeOfKid_26 : decode cX4_placeOfKid 26 = .ok (.invokevirtual 51, 3) := by decide +kernel
theorem dX4_placeOfKid_29 : decode cX4_placeOfKid 29 = .ok (.iload_n 1, 1) := by decide +kernel
theorem dX4_placeOfKid_30 : decode cX4_placeOfKid 30 = .ok (.if_icmp .gt 5, 3) := by decide +kernel
theorem dX4_placeOfKid_33 : decode cX4_placeOfKid 33 = .ok (.iload_n 3, 1) := by decide +kernel
theorem dX4_placeOfKid_34 : decode cX4_placeOfKid 34 = .ok (.istore_n 2, 1) := by decide +kernel
theorem dX4_placeOfKid_35 : decode cX4_placeOfKid 35 = .ok (.iinc 3 1, 3) := by decide +kernel
theorem dX4_placeOfKid_38 : decode cX4_placeOfKid 38 = .ok (.goto (-34), 3) := by decide +kernel
theorem dX4_placeOfKid_41 : decode cX4_placeOfKid 41 = .ok (.iload_n 2, 1) := by decide +kernel
theorem dX4_placeOfKid_42 : decode cX4_placeOfKid 42 = .ok (.ireturn, 1) := by decide +kernel
theorem dX4_lowestKey_0 : decode cX4_lowestKey 0 = .ok (.aload_n 0, 1) := by decide +kernel
theorem dX4_lowestKey_1 : decode cX4_lowestKey 1 = .ok (.astore_n 1, 1) := by decide +kernel
theorem dX4_lowestKey_2 : decode cX4_lowestKey 2 = .ok (.iconst 0, 1) := by decide +kernel
theorem dX4_lowestKey_3 : decode cX4_lowestKey 3 = .ok (.istore_n 2, 1) := by decide +kernel
theorem dX4_lowestKey_4 : decode cX4_lowestKey 4 = .ok (.iload_n 2, 1) := by decide +kernel
theorem dX4_lowestKey_5 : decode cX4_lowestKey 5 = .ok (.bipush 12, 2) := by decide +kernel
theorem dX4_lowestKey_7 : decode cX4_lowestKey 7 = .ok (.if_icmp .ge 26, 3) := by decide +kernel
theorem dX4_lowestKey_10 : decode cX4_lowestKey 10 = .ok (.aload_n 1, 1) := by decide +kernel
theorem dX4_lowestKey_11 : decode cX4_lowestKey 11 = .ok (.ifnull 22, 3) := by decide +kernel
theorem dX4_lowestKey_14 : decode cX4_lowestKey 14 = .ok (.aload_n 1, 1) := by decide +kernel
theorem dX4_lowestKey_15 : decode cX4_lowestKey 15 = .ok (.invokevirtual 55, 3) := by decide +kernel
theorem dX4_lowestKey_18 : decode cX4_lowestKey 18 = .ok (.ifCond .ne 15, 3) := by decide +kernel
theorem dX4_lowestKey_21 : decode cX4_lowestKey 21 = .ok (.aload_n 1, 1) := by decide +kernel
theorem dX4_lowestKey_22 : decode cX4_lowestKey 22 = .ok (.iconst 0, 1) := by decide +kernel
theorem dX4_lowestKey_23 : decode cX4_lowestKey 23 = .ok (.invokevirtual 47, 3) := by decide +kernel
theorem dX4_lowestKey_26 : decode cX4_lowestKey 26 = .ok (.astore_n 1, 1) := by decide +kernel
theorem dX4_lowestKey_27 : decode cX4_lowestKey 27 = .ok (.iinc 2 1, 3) := by decide +kernel
theorem dX4_lowestKey_30 : decode cX4_lowestKey 30 = .ok (.goto (-26), 3) := by decide +kernel
theorem dX4_lowestKey_33 : decode cX4_lowestKey 33 = .ok (.aload_n 1, 1) := by decide +kernel
theorem dX4_lowestKey_34 : decode cX4_lowestKey 34 = .ok (.ifnonnull 7, 3) := by decide +kernel
theorem dX4_lowestKey_37 : decode cX4_lowestKey 37 = .ok (.iconst (-1), 1) := by decide +kernel
theorem dX4_lowestKey_38 : decode cX4_lowestKey 38 = .ok (.goto 8, 3) := by decide +kernel
theorem dX4_lowestKey_41 : decode cX4_lowestKey 41 = .ok (.aload_n 1, 1) := by decide +kernel
theorem dX4_lowestKey_42 : decode cX4_lowestKey 42 = .ok (.iconst 0, 1) := by decide +kernel
theorem dX4_lowestKey_43 : decode cX4_lowestKey 43 = .ok (.invokevirtual 41, 3) := by decide +kernel
theorem dX4_lowestKey_46 : decode cX4_lowestKey 46 = .ok (.ireturn, 1) := by decide +kernel
theorem dX4_setEntry_0 : decode cX4_setEntry 0 = .ok (.aload_n 0, 1) := by decide +kernel
theorem dX4_setEntry_1 : decode cX4_setEntry 1 = .ok (.iload_n 1, 1) := by decide +kernel
theorem dX4_setEntry_2 : decode cX4_setEntry 2 = .ok (.invokevirtual 37, 3) := by decide +kernel
theorem dX4_setEntry_5 : decode cX4_setEntry 5 = .ok (.istore_n 3, 1) := by decide +kernel
theorem dX4_setEntry_6 : decode cX4_setEntry 6 = .ok (.aload_n 0, 1) := by decide +kernel
theorem dX4_setEntry_7 : decode cX4_setEntry 7 = .ok (.getfield 15, 3) := by decide +kernel
theorem dX4_setEntry_10 : decode cX4_setEntry 10 = .ok (.ifnull 9, 3) := by decide +kernel
theorem dX4_setEntry_13 : decode cX4_setEntry 13 = .ok (.iload_n 3, 1) := by decide +kernel
theorem dX4_setEntry_14 : decode cX4_setEntry 14 = .ok (.bipush 7, 2) := by decide +kernel
theorem dX4_setEntry_16 : decode cX4_setEntry 16 = .ok (.if_icmp .lt 4, 3) := by decide +kernel
theorem dX4_setEntry_19 : decode cX4_setEntry 19 = .ok (.return_, 1) := by decide +kernel
theorem dX4_setEntry_20 : decode cX4_setEntry 20 = .ok (.iload_n 3, 1) := by decide +kernel
theorem dX4_setEntry_21 : decode cX4_setEntry 21 = .ok (.aload_n 0, 1) := by decide +kernel
theorem dX4_setEntry_22 : decode cX4_setEntry 22 = .ok (.getfield 30, 3) := by decide +kernel
theorem dX4_setEntry_25 : decode cX4_setEntry 25 = .ok (.if_icmp .ge 12, 3) := by decide +kernel
theorem dX4_setEntry_28 : decode cX4_setEntry 28 = .ok (.aload_n 0, 1) := by decide +kernel
theorem dX4_setEntry_29 : decode cX4_setEntry 29 = .ok (.iload_n 3, 1) := by decide +kernel
theorem dX4_setEntry_30 : decode cX4_setEntry 30 = .ok (.invokevirtual 41, 3) := by decide +kernel
theorem dX4_setEntry_33 : decode cX4_setEntry 33 = .ok (.iload_n 1, 1) := by decide +kernel
theorem dX4_setEntry_34 : decode cX4_setEntry 34 = .ok (.if_icmp .eq 8, 3) := by decide +kernel
theorem dX4_setEntry_37 : decode cX4_setEntry 37 = .ok (.aload_n 0, 1) := by decide +kernel
theorem dX4_setEntry_38 : decode cX4_setEntry 38 = .ok (.iload_n 3, 1) := by decide +kernel
theorem dX4_setEntry_39 : decode cX4_setEntry 39 = .ok (.invokevirtual 59, 3) := by decide +kernel
theorem dX4_setEntry_42 : decode cX4_setEntry 42 = .ok (.aload_n 0, 1) := by decide +kernel
theorem dX4_setEntry_43 : decode cX4_setEntry 43 = .ok (.getfield 15, 3) := by decide +kernel
theorem dX4_setEntry_46 : decode cX4_setEntry 46 = .ok (.iconst 2, 1) := by decide +kernel
theorem dX4_setEntry_47 : decode cX4_setEntry 47 = .ok (.iload_n 3, 1) := by decide +kernel
theorem dX4_setEntry_48 : decode cX4_setEntry 48 = .ok (.imul, 1) := by decide +kernel
theorem dX4_setEntry_49 : decode cX4_setEntry 49 = .ok (.iload_n 1, 1) := by decide +kernel
theorem dX4_setEntry_50 : decode cX4_setEntry 50 = .ok (.iastore, 1) := by decide +kernel
theorem dX4_setEntry_51 : decode cX4_setEntry 51 = .ok (.aload_n 0, 1) := by decide +kernel
theorem dX4_setEntry_52 : decode cX4_setEntry 52 = .ok (.getfield 15, 3) := by decide +kernel
theorem dX4_setEntry_55 : decode cX4_setEntry 55 = .ok (.iconst 2, 1) := by decide +kernel
theorem dX4_setEntry_56 : decode cX4_setEntry 56 = .ok (.iload_n 3, 1) := by decide +kernel
theorem dX4_setEntry_57 : decode cX4_setEntry 57 = .ok (.imul, 1) := by decide +kernel
theorem dX4_setEntry_58 : decode cX4_setEntry 58 = .ok (.iconst 1, 1) := by decide +kernel
theorem dX4_setEntry_59 : decode cX4_setEntry 59 = .ok (.iadd, 1) := by decide +kernel
theorem dX4_setEntry_60 : decode cX4_setEntry 60 = .ok (.iload_n 2, 1) := by decide +kernel
theorem dX4_setEntry_61 : decode cX4_setEntry 61 = .ok (.iastore, 1) := by decide +kernel
theorem dX4_setEntry_62 : decode cX4_setEntry 62 = .ok (.return_, 1) := by decide +kernel
theorem dX4_removeEntry_0 : decode cX4_removeEntry 0 = .ok (.aload_n 0, 1) := by decide +kernel
theorem dX4_removeEntry_1 : decode cX4_removeEntry 1 = .ok (.iload_n 1, 1) := by decide +kernel
theorem dX4_removeEntry_2 : decode cX4_removeEntry 2 = .ok (.invokevirtual 37, 3) := by decide +kernel
theorem dX4_removeEntry_5 : decode cX4_removeEntry 5 = .ok (.istore_n 2, 1) := by decide +kernel
theorem dX4_removeEntry_6 : decode cX4_removeEntry 6 = .ok (.iload_n 2, 1) := by decide +kernel
theorem dX4_removeEntry_7 : decode cX4_removeEntry 7 = .ok (.aload_n 0, 1) := by decide +kernel
theorem dX4_removeEntry_8 : decode cX4_removeEntry 8 = .ok (.getfield 30, 3) := by decide +kernel
theorem dX4_removeEntry_11 : decode cX4_removeEntry 11 = .ok (.if_icmp .ge 17, 3) := by decide +kernel
theorem dX4_removeEntry_14 : decode cX4_removeEntry 14 = .ok (.aload_n 0, 1) := by decide +kernel
theorem dX4_removeEntry_15 : decode cX4_removeEntry 15 = .ok (.iload_n 2, 1) := by decide +kernel
theorem dX4_removeEntry_16 : decode cX4_removeEntry 16 = .ok (.invokevirtual 41, 3) := by decide +kernel
theorem dX4_removeEntry_19 : decode cX4_removeEntry 19 = .ok (.iload_n 1, 1) := by decide +kernel
theorem dX4_removeEntry_20 : decode cX4_removeEntry 20 = .ok (.if_icmp .ne 8, 3) := by decide +kernel
theorem dX4_removeEntry_23 : decode cX4_removeEntry 23 = .ok (.aload_n 0, 1) := by decide +kernel
theorem dX4_removeEntry_24 : decode cX4_removeEntry 24 = .ok (.iload_n 2, 1) := by decide +kernel
theorem dX4_removeEntry_25 : decode cX4_removeEntry 25 = .ok (.invokevirtual 63, 3) := by decide +kernel
theorem dX4_removeEntry_28 : decode cX4_removeEntry 28 = .ok (.return_, 1) := by decide +kernel
theorem dX4_setKid_0 : decode cX4_setKid 0 = .ok (.aload_n 0, 1) := by decide +kernel
theorem dX4_setKid_1 : decode cX4_setKid 1 = .ok (.getfield 19, 3) := by decide +kernel
theorem dX4_setKid_4 : decode cX4_setKid 4 = .ok (.ifnull 20, 3) := by decide +kernel
theorem dX4_setKid_7 : decode cX4_setKid 7 = .ok (.iload_n 1, 1) := by decide +kernel
theorem dX4_setKid_8 : decode cX4_setKid 8 = .ok (.ifCond .lt 16, 3) := by decide +kernel
theorem dX4_setKid_11 : decode cX4_setKid 11 = .ok (.iload_n 1, 1) := by decide +kernel
theorem dX4_setKid_12 : decode cX4_setKid 12 = .ok (.bipush 7, 2) := by decide +kernel
theorem dX4_setKid_14 : decode cX4_setKid 14 = .ok (.if_icmp .ge 10, 3) := by decide +kernel
theorem dX4_setKid_17 : decode cX4_setKid 17 = .ok (.aload_n 0, 1) := by decide +kernel
theorem dX4_setKid_18 : decode cX4_setKid 18 = .ok (.getfield 19, 3) := by decide +kernel
theorem dX4_setKid_21 : decode cX4_setKid 21 = .ok (.iload_n 1, 1) := by decide +kernel
theorem dX4_setKid_22 : decode cX4_setKid 22 = .ok (.aload_n 2, 1) := by decide +kernel
theorem dX4_setKid_23 : decode cX4_setKid 23 = .ok (.aastore, 1) := by decide +kernel
theorem dX4_setKid_24 : decode cX4_setKid 24 = .ok (.return_, 1) := by decide +kernel
theorem dX4_insertKid_0 : decode cX4_insertKid 0 = .ok (.aload_n 0, 1) := by decide +kernel
theorem dX4_insertKid_1 : decode cX4_insertKid 1 = .ok (.iload_n 1, 1) := by decide +kernel
theorem dX4_insertKid_2 : decode cX4_insertKid 2 = .ok (.invokevirtual 59, 3) := by decide +kernel
theorem dX4_insertKid_5 : decode cX4_insertKid 5 = .ok (.aload_n 0, 1) := by decide +kernel
theorem dX4_insertKid_6 : decode cX4_insertKid 6 = .ok (.iload_n 1, 1) := by decide +kernel
theorem dX4_insertKid_7 : decode cX4_insertKid 7 = .ok (.aload_n 2, 1) := by decide +kernel
theorem dX4_insertKid_8 : decode cX4_insertKid 8 = .ok (.invokevirtual 66, 3) := by decide +kernel
theorem dX4_insertKid_11 : decode cX4_insertKid 11 = .ok (.return_, 1) := by decide +kernel
theorem dX4_removeKid_0 : decode cX4_removeKid 0 = .ok (.aload_n 0, 1) := by decide +kernel
theorem dX4_removeKid_1 : decode cX4_removeKid 1 = .ok (.iload_n 1, 1) := by decide +kernel
theorem dX4_removeKid_2 : decode cX4_removeKid 2 = .ok (.invokevirtual 63, 3) := by decide +kernel
theorem dX4_removeKid_5 : decode cX4_removeKid 5 = .ok (.return_, 1) := by decide +kernel
theorem dX4_openSlot_0 : decode cX4_openSlot 0 = .ok (.iload_n 1, 1) := by decide +kernel
theorem dX4_openSlot_1 : decode cX4_openSlot 1 = .ok (.ifCond .lt 20, 3) := by decide +kernel
theorem dX4_openSlot_4 : decode cX4_openSlot 4 = .ok (.iload_n 1, 1) := by decide +kernel
theorem dX4_openSlot_5 : decode cX4_openSlot 5 = .ok (.aload_n 0, 1) := by decide +kernel
theorem dX4_openSlot_6 : decode cX4_openSlot 6 = .ok (.getfield 30, 3) := by decide +kernel
theorem dX4_openSlot_9 : decode cX4_openSlot 9 = .ok (.if_icmp .gt 12, 3) := by decide +kernel
theorem dX4_openSlot_12 : decode cX4_openSlot 12 = .ok (.aload_n 0, 1) := by decide +kernel
theorem dX4_openSlot_13 : decode cX4_openSlot 13 = .ok (.getfield 30, 3) := by decide +kernel
theorem dX4_openSlot_16 : decode cX4_openSlot 16 = .ok (.bipush 7, 2) := by decide +kernel
theorem dX4_openSlot_18 : decode cX4_openSlot 18 = .ok (.if_icmp .lt 4, 3) := by decide +kernel
theorem dX4_openSlot_21 : decode cX4_openSlot 21 = .ok (.return_, 1) := by decide +kernel
theorem dX4_openSlot_22 : decode cX4_openSlot 22 = .ok (.aload_n 0, 1) := by decide +kernel
theorem dX4_openSlot_23 : decode cX4_openSlot 23 = .ok (.getfield 30, 3) := by decide +kernel
theorem dX4_openSlot_26 : decode cX4_openSlot 26 = .ok (.istore_n 2, 1) := by decide +kernel
theorem dX4_openSlot_27 : decode cX4_openSlot 27 = .ok (.iload_n 2, 1) := by decide +kernel
