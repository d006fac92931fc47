theorem dX0_init_0 : decode cX0_init 0 = .ok (.aload_n 0, 1) := by decide +kernel
theorem dX0_init_1 : decode cX0_init 1 = .ok (.invokespecial 3, 3) := by decide +kernel
theorem dX0_init_4 : decode cX0_init 4 = .ok (.return_, 1) := by decide +kernel
theorem dX0_isFallen_0 : decode cX0_isFallen 0 = .ok (.aload_n 0, 1) := by decide +kernel
theorem dX0_isFallen_1 : decode cX0_isFallen 1 = .ok (.getfield 9, 3) := by decide +kernel
theorem dX0_isFallen_4 : decode cX0_isFallen 4 = .ok (.ifCond .ne 7, 3) := by decide +kernel
theorem dX0_isFallen_7 : decode cX0_isFallen 7 = .ok (.iconst 1, 1) := by decide +kernel
theorem dX0_isFallen_8 : decode cX0_isFallen 8 = .ok (.goto 4, 3) := by decide +kernel
theorem dX0_isFallen_11 : decode cX0_isFallen 11 = .ok (.iconst 0, 1) := by decide +kernel
theorem dX0_isFallen_12 : decode cX0_isFallen 12 = .ok (.ireturn, 1) := by decide +kernel
theorem dX0_isKind_0 : decode cX0_isKind 0 = .ok (.iload_n 1, 1) := by decide +kernel
theorem dX0_isKind_1 : decode cX0_isKind 1 = .ok (.ifCond .eq 24, 3) := by decide +kernel
theorem dX0_isKind_4 : decode cX0_isKind 4 = .ok (.iload_n 1, 1) := by decide +kernel
theorem dX0_isKind_5 : decode cX0_isKind 5 = .ok (.aload_n 0, 1) := by decide +kernel
theorem dX0_isKind_6 : decode cX0_isKind 6 = .ok (.getfield 15, 3) := by decide +kernel
theorem dX0_isKind_9 : decode cX0_isKind 9 = .ok (.if_icmp .eq 16, 3) := by decide +kernel
theorem dX0_isKind_12 : decode cX0_isKind 12 = .ok (.iload_n 1, 1) := by decide +kernel
theorem dX0_isKind_13 : decode cX0_isKind 13 = .ok (.iconst 2, 1) := by decide +kernel
theorem dX0_isKind_14 : decode cX0_isKind 14 = .ok (.if_icmp .ne 15, 3) := by decide +kernel
theorem dX0_isKind_17 : decode cX0_isKind 17 = .ok (.aload_n 0, 1) := by decide +kernel
theorem dX0_isKind_18 : decode cX0_isKind 18 = .ok (.getfield 15, 3) := by decide +kernel
theorem dX0_isKind_21 : decode cX0_isKind 21 = .ok (.iconst 3, 1) := by decide +kernel
theorem dX0_isKind_22 : decode cX0_isKind 22 = .ok (.if_icmp .ne 7, 3) := by decide +kernel
theorem dX0_isKind_25 : decode cX0_isKind 25 = .ok (.iconst 1, 1) := by decide +kernel
theorem dX0_isKind_26 : decode cX0_isKind 26 = .ok (.goto 4, 3) := by decide +kernel
theorem dX0_isKind_29 : decode cX0_isKind 29 = .ok (.iconst 0, 1) := by decide +kernel
theorem dX0_isKind_30 : decode cX0_isKind 30 = .ok (.ireturn, 1) := by decide +kernel
theorem dX0_loss_0 : decode cX0_loss 0 = .ok (.aload_n 0, 1) := by decide +kernel
theorem dX0_loss_1 : decode cX0_loss 1 = .ok (.invokevirtual 18, 3) := by decide +kernel
theorem dX0_loss_4 : decode cX0_loss 4 = .ok (.ifCond .eq 7, 3) := by decide +kernel
theorem dX0_loss_7 : decode cX0_loss 7 = .ok (.iconst 0, 1) := by decide +kernel
theorem dX0_loss_8 : decode cX0_loss 8 = .ok (.goto 14, 3) := by decide +kernel
theorem dX0_loss_11 : decode cX0_loss 11 = .ok (.aload_n 0, 1) := by decide +kernel
theorem dX0_loss_12 : decode cX0_loss 12 = .ok (.invokevirtual 22, 3) := by decide +kernel
theorem dX0_loss_15 : decode cX0_loss 15 = .ok (.aload_n 0, 1) := by decide +kernel
theorem dX0_loss_16 : decode cX0_loss 16 = .ok (.iload_n 1, 1) := by decide +kernel
theorem dX0_loss_17 : decode cX0_loss 17 = .ok (.iload_n 2, 1) := by decide +kernel
theorem dX0_loss_18 : decode cX0_loss 18 = .ok (.invokevirtual 26, 3) := by decide +kernel
theorem dX0_loss_21 : decode cX0_loss 21 = .ok (.iadd, 1) := by decide +kernel
theorem dX0_loss_22 : decode cX0_loss 22 = .ok (.ireturn, 1) := by decide +kernel
theorem dX0_wear_0 : decode cX0_wear 0 = .ok (.bipush 10, 2) := by decide +kernel
theorem dX0_wear_2 : decode cX0_wear 2 = .ok (.iconst 4, 1) := by decide +kernel
theorem dX0_wear_3 : decode cX0_wear 3 = .ok (.aload_n 0, 1) := by decide +kernel
theorem dX0_wear_4 : decode cX0_wear 4 = .ok (.getfield 30, 3) := by decide +kernel
theorem dX0_wear_7 : decode cX0_wear 7 = .ok (.imul, 1) := by decide +kernel
theorem dX0_wear_8 : decode cX0_wear 8 = .ok (.iadd, 1) := by decide +kernel
theorem dX0_wear_9 : decode cX0_wear 9 = .ok (.istore_n 1, 1) := by decide +kernel
theorem dX0_wear_10 : decode cX0_wear 10 = .ok (.aload_n 0, 1) := by decide +kernel
theorem dX0_wear_11 : decode cX0_wear 11 = .ok (.getfield 15, 3) := by decide +kernel
theorem dX0_wear_14 : decode cX0_wear 14 = .ok (.tableswitch 42 1 3 #[26, 30, 35], 26) := by decide +kernel
theorem dX0_wear_40 : decode cX0_wear 40 = .ok (.iload_n 1, 1) := by decide +kernel
theorem dX0_wear_41 : decode cX0_wear 41 = .ok (.iconst 2, 1) := by decide +kernel
theorem dX0_wear_42 : decode cX0_wear 42 = .ok (.idiv, 1) := by decide +kernel
theorem dX0_wear_43 : decode cX0_wear 43 = .ok (.ireturn, 1) := by decide +kernel
theorem dX0_wear_44 : decode cX0_wear 44 = .ok (.iload_n 1, 1) := by decide +kernel
theorem dX0_wear_45 : decode cX0_wear 45 = .ok (.bipush 15, 2) := by decide +kernel
theorem dX0_wear_47 : decode cX0_wear 47 = .ok (.iadd, 1) := by decide +kernel
theorem dX0_wear_48 : decode cX0_wear 48 = .ok (.ireturn, 1) := by decide +kernel
theorem dX0_wear_49 : decode cX0_wear 49 = .ok (.iconst 2, 1) := by decide +kernel
theorem dX0_wear_50 : decode cX0_wear 50 = .ok (.iload_n 1, 1) := by decide +kernel
theorem dX0_wear_51 : decode cX0_wear 51 = .ok (.bipush 15, 2) := by decide +kernel
theorem dX0_wear_53 : decode cX0_wear 53 = .ok (.iadd, 1) := by decide +kernel
theorem dX0_wear_54 : decode cX0_wear 54 = .ok (.imul, 1) := by decide +kernel
theorem dX0_wear_55 : decode cX0_wear 55 = .ok (.ireturn, 1) := by decide +kernel
theorem dX0_wear_56 : decode cX0_wear 56 = .ok (.iload_n 1, 1) := by decide +kernel
theorem dX0_wear_57 : decode cX0_wear 57 = .ok (.ireturn, 1) := by decide +kernel
theorem dX0_scour_0 : decode cX0_scour 0 = .ok (.iload_n 1, 1) := by decide +kernel
theorem dX0_scour_1 : decode cX0_scour 1 = .ok (.bipush 10, 2) := by decide +kernel
theorem dX0_scour_3 : decode cX0_scour 3 = .ok (.iload_n 2, 1) := by decide +kernel
theorem dX0_scour_4 : decode cX0_scour 4 = .ok (.iadd, 1) := by decide +kernel
theorem dX0_scour_5 : decode cX0_scour 5 = .ok (.imul, 1) := by decide +kernel
theorem dX0_scour_6 : decode cX0_scour 6 = .ok (.bipush 10, 2) := by decide +kernel
theorem dX0_scour_8 : decode cX0_scour 8 = .ok (.idiv, 1) := by decide +kernel
theorem dX0_scour_9 : decode cX0_scour 9 = .ok (.istore_n 3, 1) := by decide +kernel
theorem dX0_scour_10 : decode cX0_scour 10 = .ok (.aload_n 0, 1) := by decide +kernel
theorem dX0_scour_11 : decode cX0_scour 11 = .ok (.getfield 15, 3) := by decide +kernel
theorem dX0_scour_14 : decode cX0_scour 14 = .ok (.iconst 1, 1) := by decide +kernel
theorem dX0_scour_15 : decode cX0_scour 15 = .ok (.if_icmp .ne 9, 3) := by decide +kernel
theorem dX0_scour_18 : decode cX0_scour 18 = .ok (.iload_n 3, 1) := by decide +kernel
theorem dX0_scour_19 : decode cX0_scour 19 = .ok (.iconst 2, 1) := by decide +kernel
theorem dX0_scour_20 : decode cX0_scour 20 = .ok (.idiv, 1) := by decide +kernel
theorem dX0_scour_21 : decode cX0_scour 21 = .ok (.goto 4, 3) := by decide +kernel
theorem dX0_scour_24 : decode cX0_scour 24 = .ok (.iload_n 3, 1) := by decide +kernel
theorem dX0_scour_25 : decode cX0_scour 25 = .ok (.ireturn, 1) := by decide +kernel
theorem dX0_weaken_0 : decode cX0_weaken 0 = .ok (.aload_n 0, 1) := by decide +kernel
theorem dX0_weaken_1 : decode cX0_weaken 1 = .ok (.iconst 0, 1) := by decide +kernel
theorem dX0_weaken_2 : decode cX0_weaken 2 = .ok (.aload_n 0, 1) := by decide +kernel
theorem dX0_weaken_3 : decode cX0_weaken 3 = .ok (.getfield 9, 3) := by decide +kernel
theorem dX0_weaken_6 : decode cX0_weaken 6 = .ok (.iload_n 1, 1) := by decide +kernel
theorem dX0_weaken_7 : decode cX0_weaken 7 = .ok (.isub, 1) := by decide +kernel
theorem dX0_weaken_8 : decode cX0_weaken 8 = .ok (.invokestatic 33, 3) := by decide +kernel
theorem dX0_weaken_11 : decode cX0_weaken 11 = .ok (.putfield 9, 3) := by decide +kernel
theorem dX0_weaken_14 : decode cX0_weaken 14 = .ok (.aload_n 0, 1) := by decide +kernel
theorem dX0_weaken_15 : decode cX0_weaken 15 = .ok (.invokevirtual 18, 3) := by decide +kernel
theorem dX0_weaken_18 : decode cX0_weaken 18 = .ok (.ifCond .eq 13, 3) := by decide +kernel
theorem dX0_weaken_21 : decode cX0_weaken 21 = .ok (.aload_n 0, 1) := by decide +kernel
theorem dX0_weaken_22 : decode cX0_weaken 22 = .ok (.iconst 0, 1) := by decide +kernel
theorem dX0_weaken_23 : decode cX0_weaken 23 = .ok (.putfield 30, 3) := by decide +kernel
theorem dX0_weaken_26 : decode cX0_weaken 26 = .ok (.aload_n 0, 1) := by decide +kernel
theorem dX0_weaken_27 : decode cX0_weaken 27 = .ok (.iconst 0, 1) := by decide +kernel
theorem dX0_weaken_28 : decode cX0_weaken 28 = .ok (.putfield 38, 3) := by decide +kernel
theorem dX0_weaken_31 : decode cX0_weaken 31 = .ok (.return_, 1) := by decide +kernel
theorem dX0_gain_0 : decode cX0_gain 0 = .ok (.aload_n 0, 1) := by decide +kernel
theorem dX0_gain_1 : decode cX0_gain 1 = .ok (.getfield 15, 3) := by decide +kernel
theorem dX0_gain_4 : decode cX0_gain 4 = .ok (.tableswitch 33 1 3 #[28, 30, 30], 28) := by decide +kernel
theorem dX0_gain_32 : decode cX0_gain 32 = .ok (.iconst 4, 1) := by decide +kernel
theorem dX0_gain_33 : decode cX0_gain 33 = .ok (.ireturn, 1) := by decide +kernel
theorem dX0_gain_34 : decode cX0_gain 34 = .ok (.bipush 9, 2) := by decide +kernel
theorem dX0_gain_36 : decode cX0_gain 36 = .ok (.ireturn, 1) := by decide +kernel
theorem dX0_gain_37 : decode cX0_gain 37 = .ok (.bipush 6, 2) := by decide +kernel
theorem dX0_gain_39 : decode cX0_gain 39 = .ok (.ireturn, 1) := by decide +kernel
theorem dX0_coinsUpTo_0 : decode cX0_coinsUpTo 0 = .ok (.iconst 0, 1) := by decide +kernel
theorem dX0_coinsUpTo_1 : decode cX0_coinsUpTo 1 = .ok (.iload_n 1, 1) := by decide +kernel
theorem dX0_coinsUpTo_2 : decode cX0_coinsUpTo 2 = .ok (.aload_n 0, 1) := by decide +kernel
theorem dX0_coinsUpTo_3 : decode cX0_coinsUpTo 3 = .ok (.getfield 9, 3) := by decide +kernel
theorem dX0_coinsUpTo_6 : decode cX0_coinsUpTo 6 = .ok (.isub, 1) := by decide +kernel
theorem dX0_coinsUpTo_7 : decode cX0_coinsUpTo 7 = .ok (.invokestatic 33, 3) := by decide +kernel
theorem dX0_coinsUpTo_10 : decode cX0_coinsUpTo 10 = .ok (.istore_n 2, 1) := by decide +kernel
theorem dX0_coinsUpTo_11 : decode cX0_coinsUpTo 11 = .ok (.iload_n 2, 1) := by decide +kernel
theorem dX0_coinsUpTo_12 : decode cX0_coinsUpTo 12 = .ok (.aload_n 0, 1) := by decide +kernel
theorem dX0_coinsUpTo_13 : decode cX0_coinsUpTo 13 = .ok (.invokevirtual 41, 3) := by decide +kernel
theorem dX0_coinsUpTo_16 : decode cX0_coinsUpTo 16 = .ok (.iadd, 1) := by decide +kernel
theorem dX0_coinsUpTo_17 : decode cX0_coinsUpTo 17 = .ok (.iconst 1, 1) := by decide +kernel
theorem dX0_coinsUpTo_18 : decode cX0_coinsUpTo 18 = .ok (.isub, 1) := by decide +kernel
theorem dX0_coinsUpTo_19 : decode cX0_coinsUpTo 19 = .ok (.aload_n 0, 1) := by decide +kernel
theorem dX0_coinsUpTo_20 : decode cX0_coinsUpTo 20 = .ok (.invokevirtual 41, 3) := by decide +kernel
theorem dX0_coinsUpTo_23 : decode cX0_coinsUpTo 23 = .ok (.idiv, 1) := by decide +kernel
theorem dX0_coinsUpTo_24 : decode cX0_coinsUpTo 24 = .ok (.ireturn, 1) := by decide +kernel
theorem dX0_mend_0 : decode cX0_mend 0 = .ok (.aload_n 0, 1) := by decide +kernel
theorem dX0_mend_1 : decode cX0_mend 1 = .ok (.sipush 1000, 3) := by decide +kernel
theorem dX0_mend_4 : decode cX0_mend 4 = .ok (.aload_n 0, 1) := by decide +kernel
theorem dX0_mend_5 : decode cX0_mend 5 = .ok (.getfield 9, 3) := by decide +kernel
theorem dX0_mend_8 : decode cX0_mend 8 = .ok (.iload_n 1, 1) := by decide +kernel
theorem dX0_mend_9 : decode cX0_mend 9 = .ok (.aload_n 0, 1) := by decide +kernel
theorem dX0_mend_10 : decode cX0_mend 10 = .ok (.invokevirtual 41, 3) := by decide +kernel
theorem dX0_mend_13 : decode cX0_mend 13 = .ok (.imul, 1) := by decide +kernel
theorem dX0_mend_14 : decode cX0_mend 14 = .ok (.iadd, 1) := by decide +kernel
theorem dX0_mend_15 : decode cX0_mend 15 = .ok (.invokestatic 44, 3) := by decide +kernel
theorem dX0_mend_18 : decode cX0_mend 18 = .ok (.putfield 9, 3) := by decide +kernel
theorem dX0_mend_21 : decode cX0_mend 21 = .ok (.aload_n 0, 1) := by decide +kernel
theorem dX0_mend_22 : decode cX0_mend 22 = .ok (.dup, 1) := by decide +kernel
theorem dX0_mend_23 : decode cX0_mend 23 = .ok (.getfield 47, 3) := by decide +kernel
theorem dX0_mend_26 : decode cX0_mend 26 = .ok (.iload_n 1, 1) := by decide +kernel
theorem dX0_mend_27 : decode cX0_mend 27 = .ok (.iadd, 1) := by decide +kernel
theorem dX0_mend_28 : decode cX0_mend 28 = .ok (.putfield 47, 3) := by decide +kernel
theorem dX0_mend_31 : decode cX0_mend 31 = .ok (.return_, 1) := by decide +kernel
theorem dX0_becomeLike_0 : decode cX0_becomeLike 0 = .ok (.aload_n 0, 1) := by decide +kernel
theorem dX0_becomeLike_1 : decode cX0_becomeLike 1 = .ok (.aload_n 1, 1) := by decide +kernel
theorem dX0_becomeLike_2 : decode cX0_becomeLike 2 = .ok (.getfield 15, 3) := by decide +kernel
theorem dX0_becomeLike_5 : decode cX0_becomeLike 5 = .ok (.putfield 15, 3) := by decide +kernel
theorem dX0_becomeLike_8 : decode cX0_becomeLike 8 = .ok (.aload_n 0, 1) := by decide +kernel
theorem dX0_becomeLike_9 : decode cX0_becomeLike 9 = .ok (.aload_n 1, 1) := by decide +kernel
theorem dX0_becomeLike_10 : decode cX0_becomeLike 10 = .ok (.getfield 9, 3) := by decide +kernel
theorem dX0_becomeLike_13 : decode cX0_becomeLike 13 = .ok (.putfield 9, 3) := by decide +kernel
theorem dX0_becomeLike_16 : decode cX0_becomeLike 16 = .ok (.aload_n 0, 1) := by decide +kernel
theorem dX0_becomeLike_17 : decode cX0_becomeLike 17 = .ok (.aload_n 1, 1) := by decide +kernel
theorem dX0_becomeLike_18 : decode cX0_becomeLike 18 = .ok (.getfield 30, 3) := by decide +kernel
theorem dX0_becomeLike_21 : decode cX0_becomeLike 21 = .ok (.putfield 30, 3) := by decide +kernel
theorem dX0_becomeLike_24 : decode cX0_becomeLike 24 = .ok (.aload_n 0, 1) := by decide +kernel
theorem dX0_becomeLike_25 : decode cX0_becomeLike 25 = .ok (.aload_n 1, 1) := by decide +kernel
theorem dX0_becomeLike_26 : decode cX0_becomeLike 26 = .ok (.getfield 38, 3) := by decide +kernel
theorem dX0_becomeLike_29 : decode cX0_becomeLike 29 = .ok (.putfield 38, 3) := by decide +kernel
theorem dX0_becomeLike_32 : decode cX0_becomeLike 32 = .ok (.return_, 1) := by decide +kernel
theorem dX1_init_0 : decode cX1_init 0 = .ok (.aload_n 0, 1) := by decide +kernel
theorem dX1_init_1 : decode cX1_init 1 = .ok (.invokespecial 3, 3) := by decide +kernel
theorem dX1_init_4 : decode cX1_init 4 = .ok (.aload_n 0, 1) := by decide +kernel
theorem dX1_init_5 : decode cX1_init 5 = .ok (.sipush 800, 3) := by decide +kernel
theorem dX1_init_8 : decode cX1_init 8 = .ok (.newarray .int, 2) := by decide +kernel
theorem dX1_init_10 : decode cX1_init 10 = .ok (.putfield 9, 3) := by decide +kernel
theorem dX1_init_13 : decode cX1_init 13 = .ok (.return_, 1) := by decide +kernel
theorem dX1_write_0 : decode cX1_write 0 = .ok (.aload_n 0, 1) := by decide +kernel
theorem dX1_write_1 : decode cX1_write 1 = .ok (.getfield 15, 3) := by decide +kernel
theorem dX1_write_4 : decode cX1_write 4 = .ok (.aload_n 0, 1) := by decide +kernel
theorem dX1_write_5 : decode cX1_write 5 = .ok (.getfield 19, 3) := by decide +kernel
theorem dX1_write_8 : decode cX1_write 8 = .ok (.iadd, 1) := by decide +kernel
theorem dX1_write_9 : decode cX1_write 9 = .ok (.sipush 200, 3) := by decide +kernel
theorem dX1_write_12 : decode cX1_write 12 = .ok (.irem, 1) := by decide +kernel
theorem dX1_write_13 : decode cX1_write 13 = .ok (.iconst 4, 1) := by decide +kernel
theorem dX1_write_14 : decode cX1_write 14 = .ok (.imul, 1) := by decide +kernel
theorem dX1_write_15 : decode cX1_write 15 = .ok (.istore 5, 2) := by decide +kernel
theorem dX1_write_17 : decode cX1_write 17 = .ok (.aload_n 0, 1) := by decide +kernel
theorem dX1_write_18 : decode cX1_write 18 = .ok (.getfield 9, 3) := by decide +kernel
theorem dX1_write_21 : decode cX1_write 21 = .ok (.iload 5, 2) := by decide +kernel
theorem dX1_write_23 : decode cX1_write 23 = .ok (.iload_n 1, 1) := by decide +kernel
theorem dX1_write_24 : decode cX1_write 24 = .ok (.iastore, 1) := by decide +kernel
theorem dX1_write_25 : decode cX1_write 25 = .ok (.aload_n 0, 1) := by decide +kernel
theorem dX1_write_26 : decode cX1_write 26 = .ok (.getfield 9, 3) := by decide +kernel
theorem dX1_write_29 : decode cX1_write 29 = .ok (.iload 5, 2) := by decide +kernel
theorem dX1_write_31 : decode cX1_write 31 = .ok (.iconst 1, 1) := by decide +kernel
theorem dX1_write_32 : decode cX1_write 32 = .ok (.iadd, 1) := by decide +kernel
theorem dX1_write_33 : decode cX1_write 33 = .ok (.iload_n 2, 1) := by decide +kernel
theorem dX1_write_34 : decode cX1_write 34 = .ok (.iastore, 1) := by decide +kernel
theorem dX1_write_35 : decode cX1_write 35 = .ok (.aload_n 0, 1) := by decide +kernel
theorem dX1_write_36 : decode cX1_write 36 = .ok (.getfield 9, 3) := by decide +kernel
theorem dX1_write_39 : decode cX1_write 39 = .ok (.iload 5, 2) := by decide +kernel
theorem dX1_write_41 : decode cX1_write 41 = .ok (.iconst 2, 1) := by decide +kernel
theorem dX1_write_42 : decode cX1_write 42 = .ok (.iadd, 1) := by decide +kernel
theorem dX1_write_43 : decode cX1_write 43 = .ok (.iload_n 3, 1) := by decide +kernel
theorem dX1_write_44 : decode cX1_write 44 = .ok (.iastore, 1) := by decide +kernel
theorem dX1_write_45 : decode cX1_write 45 = .ok (.aload_n 0, 1) := by decide +kernel
theorem dX1_write_46 : decode cX1_write 46 = .ok (.getfield 9, 3) := by decide +kernel
theorem dX1_write_49 : decode cX1_write 49 = .ok (.iload 5, 2) := by decide +kernel
theorem dX1_write_51 : decode cX1_write 51 = .ok (.iconst 3, 1) := by decide +kernel
theorem dX1_write_52 : decode cX1_write 52 = .ok (.iadd, 1) := by decide +kernel
theorem dX1_write_53 : decode cX1_write 53 = .ok (.iload 4, 2) := by decide +kernel
theorem dX1_write_55 : decode cX1_write 55 = .ok (.iastore, 1) := by decide +kernel
theorem dX1_write_56 : decode cX1_write 56 = .ok (.aload_n 0, 1) := by decide +kernel
theorem dX1_write_57 : decode cX1_write 57 = .ok (.getfield 19, 3) := by decide +kernel
theorem dX1_write_60 : decode cX1_write 60 = .ok (.sipush 200, 3) := by decide +kernel
theorem dX1_write_63 : decode cX1_write 63 = .ok (.if_icmp .ge 16, 3) := by decide +kernel
theorem dX1_write_66 : decode cX1_write 66 = .ok (.aload_n 0, 1) := by decide +kernel
theorem dX1_write_67 : decode cX1_write 67 = .ok (.dup, 1) := by decide +kernel
theorem dX1_write_68 : decode cX1_write 68 = .ok (.getfield 19, 3) := by decide +kernel
theorem dX1_write_71 : decode cX1_write 71 = .ok (.iconst 1, 1) := by decide +kernel
theorem dX1_write_72 : decode cX1_write 72 = .ok (.iadd, 1) := by decide +kernel
theorem dX1_write_73 : decode cX1_write 73 = .ok (.putfield 19, 3) := by decide +kernel
theorem dX1_write_76 : decode cX1_write 76 = .ok (.goto 17, 3) := by decide +kernel
theorem dX1_write_79 : decode cX1_write 79 = .ok (.aload_n 0, 1) := by decide +kernel
theorem dX1_write_80 : decode cX1_write 80 = .ok (.aload_n 0, 1) := by decide +kernel
theorem dX1_write_81 : decode cX1_write 81 = .ok (.getfield 15, 3) := by decide +kernel
theorem dX1_write_84 : decode cX1_write 84 = .ok (.iconst 1, 1) := by decide +kernel
theorem dX1_write_85 : decode cX1_write 85 = .ok (.iadd, 1) := by decide +kernel
theorem dX1_write_86 : decode cX1_write 86 = .ok (.sipush 200, 3) := by decide +kernel
theorem dX1_write_89 : decode cX1_write 89 = .ok (.irem, 1) := by decide +kernel
theorem dX1_write_90 : decode cX1_write 90 = .ok (.putfield 15, 3) := by decide +kernel
theorem dX1_write_93 : decode cX1_write 93 = .ok (.return_, 1) := by decide +kernel
theorem dX1_read_0 : decode cX1_read 0 = .ok (.aload_n 0, 1) := by decide +kernel
theorem dX1_read_1 : decode cX1_read 1 = .ok (.getfield 9, 3) := by decide +kernel
theorem dX1_read_4 : decode cX1_read 4 = .ok (.aload_n 0, 1) := by decide +kernel
theorem dX1_read_5 : decode cX1_read 5 = .ok (.getfield 15, 3) := by decide +kernel
theorem dX1_read_8 : decode cX1_read 8 = .ok (.iload_n 1, 1) := by decide +kernel
theorem dX1_read_9 : decode cX1_read 9 = .ok (.iadd, 1) := by decide +kernel
theorem dX1_read_10 : decode cX1_read 10 = .ok (.sipush 200, 3) := by decide +kernel
theorem dX1_read_13 : decode cX1_read 13 = .ok (.irem, 1) := by decide +kernel
theorem dX1_read_14 : decode cX1_read 14 = .ok (.iconst 4, 1) := by decide +kernel
theorem dX1_read_15 : decode cX1_read 15 = .ok (.imul, 1) := by decide +kernel
theorem dX1_read_16 : decode cX1_read 16 = .ok (.iload_n 2, 1) := by decide +kernel
theorem dX1_read_17 : decode cX1_read 17 = .ok (.iadd, 1) := by decide +kernel
theorem dX1_read_18 : decode cX1_read 18 = .ok (.iaload, 1) := by decide +kernel
theorem dX1_read_19 : decode cX1_read 19 = .ok (.ireturn, 1) := by decide +kernel
theorem dX2_init_0 : decode cX2_init 0 = .ok (.aload_n 0, 1) := by decide +kernel
theorem dX2_init_1 : decode cX2_init 1 = .ok (.invokespecial 3, 3) := by decide +kernel
theorem dX2_init_4 : decode cX2_init 4 = .ok (.aload_n 0, 1) := by decide +kernel
theorem dX2_init_5 : decode cX2_init 5 = .ok (.bipush 10, 2) := by decide +kernel
theorem dX2_init_7 : decode cX2_init 7 = .ok (.anewarray 9, 3) := by decide +kernel
theorem dX2_init_10 : decode cX2_init 10 = .ok (.putfield 11, 3) := by decide +kernel
theorem dX2_init_13 : decode cX2_init 13 = .ok (.iconst 0, 1) := by decide +kernel
theorem dX2_init_14 : decode cX2_init 14 = .ok (.istore_n 1, 1) := by decide +kernel
theorem dX2_init_15 : decode cX2_init 15 = .ok (.iload_n 1, 1) := by decide +kernel
theorem dX2_init_16 : decode cX2_init 16 = .ok (.bipush 10, 2) := by decide +kernel
theorem dX2_init_18 : decode cX2_init 18 = .ok (.if_icmp .ge 22, 3) := by decide +kernel
theorem dX2_init_21 : decode cX2_init 21 = .ok (.aload_n 0, 1) := by decide +kernel
theorem dX2_init_22 : decode cX2_init 22 = .ok (.getfield 11, 3) := by decide +kernel
theorem dX2_init_25 : decode cX2_init 25 = .ok (.iload_n 1, 1) := by decide +kernel
theorem dX2_init_26 : decode cX2_init 26 = .ok (.new 9, 3) := by decide +kernel
theorem dX2_init_29 : decode cX2_init 29 = .ok (.dup, 1) := by decide +kernel
theorem dX2_init_30 : decode cX2_init 30 = .ok (.invokespecial 17, 3) := by decide +kernel
theorem dX2_init_33 : decode cX2_init 33 = .ok (.aastore, 1) := by decide +kernel
theorem dX2_init_34 : decode cX2_init 34 = .ok (.iinc 1 1, 3) := by decide +kernel
theorem dX2_init_37 : decode cX2_init 37 = .ok (.goto (-22), 3) := by decide +kernel
theorem dX2_init_40 : decode cX2_init 40 = .ok (.return_, 1) := by decide +kernel
theorem dX2_has_0 : decode cX2_has 0 = .ok (.iload_n 1, 1) := by decide +kernel
theorem dX2_has_1 : decode cX2_has 1 = .ok (.iconst 0, 1) := by decide +kernel
theorem dX2_has_2 : decode cX2_has 2 = .ok (.aload_n 0, 1) := by decide +kernel
theorem dX2_has_3 : decode cX2_has 3 = .ok (.getfield 18, 3) := by decide +kernel
theorem dX2_has_6 : decode cX2_has 6 = .ok (.iconst 1, 1) := by decide +kernel
theorem dX2_has_7 : decode cX2_has 7 = .ok (.isub, 1) := by decide +kernel
theorem dX2_has_8 : decode cX2_has 8 = .ok (.invokestatic 22, 3) := by decide +kernel
theorem dX2_has_11 : decode cX2_has 11 = .ok (.ireturn, 1) := by decide +kernel
theorem dX2_build_0 : decode cX2_build 0 = .ok (.aload_n 0, 1) := by decide +kernel
theorem dX2_build_1 : decode cX2_build 1 = .ok (.getfield 11, 3) := by decide +kernel
theorem dX2_build_4 : decode cX2_build 4 = .ok (.aload_n 0, 1) := by decide +kernel
theorem dX2_build_5 : decode cX2_build 5 = .ok (.getfield 18, 3) := by decide +kernel
theorem dX2_build_8 : decode cX2_build 8 = .ok (.aaload, 1) := by decide +kernel
theorem dX2_build_9 : decode cX2_build 9 = .ok (.iload_n 1, 1) := by decide +kernel
theorem dX2_build_10 : decode cX2_build 10 = .ok (.putfield 26, 3) := by decide +kernel
theorem dX2_build_13 : decode cX2_build 13 = .ok (.aload_n 0, 1) := by decide +kernel
theorem dX2_build_14 : decode cX2_build 14 = .ok (.getfield 11, 3) := by decide +kernel
theorem dX2_build_17 : decode cX2_build 17 = .ok (.aload_n 0, 1) := by decide +kernel
theorem dX2_build_18 : decode cX2_build 18 = .ok (.getfield 18, 3) := by decide +kernel
theorem dX2_build_21 : decode cX2_build 21 = .ok (.aaload, 1) := by decide +kernel
theorem dX2_build_22 : decode cX2_build 22 = .ok (.sipush 1000, 3) := by decide +kernel
theorem dX2_build_25 : decode cX2_build 25 = .ok (.putfield 29, 3) := by decide +kernel
theorem dX2_build_28 : decode cX2_build 28 = .ok (.aload_n 0, 1) := by decide +kernel
theorem dX2_build_29 : decode cX2_build 29 = .ok (.dup, 1) := by decide +kernel
theorem dX2_build_30 : decode cX2_build 30 = .ok (.getfield 18, 3) := by decide +kernel
theorem dX2_build_33 : decode cX2_build 33 = .ok (.iconst 1, 1) := by decide +kernel
theorem dX2_build_34 : decode cX2_build 34 = .ok (.iadd, 1) := by decide +kernel
theorem dX2_build_35 : decode cX2_build 35 = .ok (.putfield 18, 3) := by decide +kernel
theorem dX2_build_38 : decode cX2_build 38 = .ok (.aload_n 0, 1) := by decide +kernel
theorem dX2_build_39 : decode cX2_build 39 = .ok (.getfield 18, 3) := by decide +kernel
theorem dX2_build_42 : decode cX2_build 42 = .ok (.iconst 1, 1) := by decide +kernel
theorem dX2_build_43 : decode cX2_build 43 = .ok (.isub, 1) := by decide +kernel
theorem dX2_build_44 : decode cX2_build 44 = .ok (.ireturn, 1) := by decide +kernel
theorem dX2_fallen_0 : decode cX2_fallen 0 = .ok (.iconst 0, 1) := by decide +kernel
theorem dX2_fallen_1 : decode cX2_fallen 1 = .ok (.istore_n 1, 1) := by decide +kernel
theorem dX2_fallen_2 : decode cX2_fallen 2 = .ok (.iconst 0, 1) := by decide +kernel
theorem dX2_fallen_3 : decode cX2_fallen 3 = .ok (.istore_n 2, 1) := by decide +kernel
theorem dX2_fallen_4 : decode cX2_fallen 4 = .ok (.iload_n 2, 1) := by decide +kernel
theorem dX2_fallen_5 : decode cX2_fallen 5 = .ok (.aload_n 0, 1) := by decide +kernel
theorem dX2_fallen_6 : decode cX2_fallen 6 = .ok (.getfield 18, 3) := by decide +kernel
theorem dX2_fallen_9 : decode cX2_fallen 9 = .ok (.if_icmp .ge 29, 3) := by decide +kernel
theorem dX2_fallen_12 : decode cX2_fallen 12 = .ok (.iload_n 1, 1) := by decide +kernel
theorem dX2_fallen_13 : decode cX2_fallen 13 = .ok (.aload_n 0, 1) := by decide +kernel
theorem dX2_fallen_14 : decode cX2_fallen 14 = .ok (.getfield 11, 3) := by decide +kernel
theorem dX2_fallen_17 : decode cX2_fallen 17 = .ok (.iload_n 2, 1) := by decide +kernel
theorem dX2_fallen_18 : decode cX2_fallen 18 = .ok (.aaload, 1) := by decide +kernel
theorem dX2_fallen_19 : decode cX2_fallen 19 = .ok (.invokevirtual 32, 3) := by decide +kernel
theorem dX2_fallen_22 : decode cX2_fallen 22 = .ok (.ifCond .eq 7, 3) := by decide +kernel
theorem dX2_fallen_25 : decode cX2_fallen 25 = .ok (.iconst 1, 1) := by decide +kernel
theorem dX2_fallen_26 : decode cX2_fallen 26 = .ok (.goto 4, 3) := by decide +kernel
theorem dX2_fallen_29 : decode cX2_fallen 29 = .ok (.iconst 0, 1) := by decide +kernel
theorem dX2_fallen_30 : decode cX2_fallen 30 = .ok (.iadd, 1) := by decide +kernel
theorem dX2_fallen_31 : decode cX2_fallen 31 = .ok (.istore_n 1, 1) := by decide +kernel
theorem dX2_fallen_32 : decode cX2_fallen 32 = .ok (.iinc 2 1, 3) := by decide +kernel
theorem dX2_fallen_35 : decode cX2_fallen 35 = .ok (.goto (-31), 3) := by decide +kernel
theorem dX2_fallen_38 : decode cX2_fallen 38 = .ok (.iload_n 1, 1) := by decide +kernel
theorem dX2_fallen_39 : decode cX2_fallen 39 = .ok (.ireturn, 1) := by decide +kernel
theorem dX2_houses_0 : decode cX2_houses 0 = .ok (.iconst 0, 1) := by decide +kernel
theorem dX2_houses_1 : decode cX2_houses 1 = .ok (.istore_n 1, 1) := by decide +kernel
theorem dX2_houses_2 : decode cX2_houses 2 = .ok (.iconst 0, 1) := by decide +kernel
theorem dX2_houses_3 : decode cX2_houses 3 = .ok (.istore_n 2, 1) := by decide +kernel
theorem dX2_houses_4 : decode cX2_houses 4 = .ok (.iload_n 2, 1) := by decide +kernel
theorem dX2_houses_5 : decode cX2_houses 5 = .ok (.aload_n 0, 1) := by decide +kernel
theorem dX2_houses_6 : decode cX2_houses 6 = .ok (.getfield 18, 3) := by decide +kernel
theorem dX2_houses_9 : decode cX2_houses 9 = .ok (.if_icmp .ge 21, 3) := by decide +kernel
theorem dX2_houses_12 : decode cX2_houses 12 = .ok (.iload_n 1, 1) := by decide +kernel
theorem dX2_houses_13 : decode cX2_houses 13 = .ok (.aload_n 0, 1) := by decide +kernel
theorem dX2_houses_14 : decode cX2_houses 14 = .ok (.getfield 11, 3) := by decide +kernel
theorem dX2_houses_17 : decode cX2_houses 17 = .ok (.iload_n 2, 1) := by decide +kernel
theorem dX2_houses_18 : decode cX2_houses 18 = .ok (.aaload, 1) := by decide +kernel
theorem dX2_houses_19 : decode cX2_houses 19 = .ok (.getfield 36, 3) := by decide +kernel
theorem dX2_houses_22 : decode cX2_houses 22 = .ok (.iadd, 1) := by decide +kernel
theorem dX2_houses_23 : decode cX2_houses 23 = .ok (.istore_n 1, 1) := by decide +kernel
theorem dX2_houses_24 : decode cX2_houses 24 = .ok (.iinc 2 1, 3) := by decide +kernel
theorem dX2_houses_27 : decode cX2_houses 27 = .ok (.goto (-23), 3) := by decide +kernel
theorem dX2_houses_30 : decode cX2_houses 30 = .ok (.iload_n 1, 1) := by decide +kernel
theorem dX2_houses_31 : decode cX2_houses 31 = .ok (.ireturn, 1) := by decide +kernel
theorem dX2_hasDraw_0 : decode cX2_hasDraw 0 = .ok (.iconst 0, 1) := by decide +kernel
theorem dX2_hasDraw_1 : decode cX2_hasDraw 1 = .ok (.istore_n 1, 1) := by decide +kernel
theorem dX2_hasDraw_2 : decode cX2_hasDraw 2 = .ok (.iload_n 1, 1) := by decide +kernel
theorem dX2_hasDraw_3 : decode cX2_hasDraw 3 = .ok (.aload_n 0, 1) := by decide +kernel
theorem dX2_hasDraw_4 : decode cX2_hasDraw 4 = .ok (.getfield 18, 3) := by decide +kernel
theorem dX2_hasDraw_7 : decode cX2_hasDraw 7 = .ok (.if_icmp .ge 36, 3) := by decide +kernel
theorem dX2_hasDraw_10 : decode cX2_hasDraw 10 = .ok (.aload_n 0, 1) := by decide +kernel
theorem dX2_hasDraw_11 : decode cX2_hasDraw 11 = .ok (.getfield 11, 3) := by decide +kernel
theorem dX2_hasDraw_14 : decode cX2_hasDraw 14 = .ok (.iload_n 1, 1) := by decide +kernel
theorem dX2_hasDraw_15 : decode cX2_hasDraw 15 = .ok (.aaload, 1) := by decide +kernel
theorem dX2_hasDraw_16 : decode cX2_hasDraw 16 = .ok (.getfield 26, 3) := by decide +kernel
theorem dX2_hasDraw_19 : decode cX2_hasDraw 19 = .ok (.iconst 3, 1) := by decide +kernel
theorem dX2_hasDraw_20 : decode cX2_hasDraw 20 = .ok (.if_icmp .ne 17, 3) := by decide +kernel
theorem dX2_hasDraw_23 : decode cX2_hasDraw 23 = .ok (.aload_n 0, 1) := by decide +kernel
theorem dX2_hasDraw_24 : decode cX2_hasDraw 24 = .ok (.getfield 11, 3) := by decide +kernel
theorem dX2_hasDraw_27 : decode cX2_hasDraw 27 = .ok (.iload_n 1, 1) := by decide +kernel
theorem dX2_hasDraw_28 : decode cX2_hasDraw 28 = .ok (.aaload, 1) := by decide +kernel
theorem dX2_hasDraw_29 : decode cX2_hasDraw 29 = .ok (.invokevirtual 32, 3) := by decide +kernel
theorem dX2_hasDraw_32 : decode cX2_hasDraw 32 = .ok (.ifCond .ne 5, 3) := by decide +kernel
theorem dX2_hasDraw_35 : decode cX2_hasDraw 35 = .ok (.iconst 1, 1) := by decide +kernel
theorem dX2_hasDraw_36 : decode cX2_hasDraw 36 = .ok (.ireturn, 1) := by decide +kernel
theorem dX2_hasDraw_37 : decode cX2_hasDraw 37 = .ok (.iinc 1 1, 3) := by decide +kernel
theorem dX2_hasDraw_40 : decode cX2_hasDraw 40 = .ok (.goto (-38), 3) := by decide +kernel
theorem dX2_hasDraw_43 : decode cX2_hasDraw 43 = .ok (.iconst 0, 1) := by decide +kernel
theorem dX2_hasDraw_44 : decode cX2_hasDraw 44 = .ok (.ireturn, 1) := by decide +kernel
theorem dX2_blocked_0 : decode cX2_blocked 0 = .ok (.iconst 0, 1) := by decide +kernel
theorem dX2_blocked_1 : decode cX2_blocked 1 = .ok (.istore_n 1, 1) := by decide +kernel
theorem dX2_blocked_2 : decode cX2_blocked 2 = .ok (.iconst 0, 1) := by decide +kernel
theorem dX2_blocked_3 : decode cX2_blocked 3 = .ok (.istore_n 2, 1) := by decide +kernel
theorem dX2_blocked_4 : decode cX2_blocked 4 = .ok (.iload_n 2, 1) := by decide +kernel
theorem dX2_blocked_5 : decode cX2_blocked 5 = .ok (.aload_n 0, 1) := by decide +kernel
theorem dX2_blocked_6 : decode cX2_blocked 6 = .ok (.getfield 18, 3) := by decide +kernel
theorem dX2_blocked_9 : decode cX2_blocked 9 = .ok (.if_icmp .ge 21, 3) := by decide +kernel
theorem dX2_blocked_12 : decode cX2_blocked 12 = .ok (.iload_n 1, 1) := by decide +kernel
theorem dX2_blocked_13 : decode cX2_blocked 13 = .ok (.aload_n 0, 1) := by decide +kernel
theorem dX2_blocked_14 : decode cX2_blocked 14 = .ok (.getfield 11, 3) := by decide +kernel
theorem dX2_blocked_17 : decode cX2_blocked 17 = .ok (.iload_n 2, 1) := by decide +kernel
theorem dX2_blocked_18 : decode cX2_blocked 18 = .ok (.aaload, 1) := by decide +kernel
theorem dX2_blocked_19 : decode cX2_blocked 19 = .ok (.getfield 39, 3) := by decide +kernel
theorem dX2_blocked_22 : decode cX2_blocked 22 = .ok (.iadd, 1) := by decide +kernel
theorem dX2_blocked_23 : decode cX2_blocked 23 = .ok (.istore_n 1, 1) := by decide +kernel
theorem dX2_blocked_24 : decode cX2_blocked 24 = .ok (.iinc 2 1, 3) := by decide +kernel
theorem dX2_blocked_27 : decode cX2_blocked 27 = .ok (.goto (-23), 3) := by decide +kernel
theorem dX2_blocked_30 : decode cX2_blocked 30 = .ok (.iload_n 1, 1) := by decide +kernel
theorem dX2_blocked_31 : decode cX2_blocked 31 = .ok (.aload_n 0, 1) := by decide +kernel
theorem dX2_blocked_32 : decode cX2_blocked 32 = .ok (.invokevirtual 42, 3) := by decide +kernel
theorem dX2_blocked_35 : decode cX2_blocked 35 = .ok (.iadd, 1) := by decide +kernel
theorem dX2_blocked_36 : decode cX2_blocked 36 = .ok (.ireturn, 1) := by decide +kernel
theorem dX2_sufferYear_0 : decode cX2_sufferYear 0 = .ok (.aload_n 0, 1) := by decide +kernel
theorem dX2_sufferYear_1 : decode cX2_sufferYear 1 = .ok (.invokevirtual 46, 3) := by decide +kernel
theorem dX2_sufferYear_4 : decode cX2_sufferYear 4 = .ok (.istore_n 2, 1) := by decide +kernel
theorem dX2_sufferYear_5 : decode cX2_sufferYear 5 = .ok (.iconst 0, 1) := by decide +kernel
theorem dX2_sufferYear_6 : decode cX2_sufferYear 6 = .ok (.istore_n 3, 1) := by decide +kernel
theorem dX2_sufferYear_7 : decode cX2_sufferYear 7 = .ok (.iload_n 3, 1) := by decide +kernel
theorem dX2_sufferYear_8 : decode cX2_sufferYear 8 = .ok (.aload_n 0, 1) := by decide +kernel
theorem dX2_sufferYear_9 : decode cX2_sufferYear 9 = .ok (.getfield 18, 3) := by decide +kernel
theorem dX2_sufferYear_12 : decode cX2_sufferYear 12 = .ok (.if_icmp .ge 29, 3) := by decide +kernel
theorem dX2_sufferYear_15 : decode cX2_sufferYear 15 = .ok (.aload_n 0, 1) := by decide +kernel
theorem dX2_sufferYear_16 : decode cX2_sufferYear 16 = .ok (.getfield 11, 3) := by decide +kernel
theorem dX2_sufferYear_19 : decode cX2_sufferYear 19 = .ok (.iload_n 3, 1) := by decide +kernel
theorem dX2_sufferYear_20 : decode cX2_sufferYear 20 = .ok (.aaload, 1) := by decide +kernel
theorem dX2_sufferYear_21 : decode cX2_sufferYear 21 = .ok (.aload_n 0, 1) := by decide +kernel
theorem dX2_sufferYear_22 : decode cX2_sufferYear 22 = .ok (.getfield 11, 3) := by decide +kernel
theorem dX2_sufferYear_25 : decode cX2_sufferYear 25 = .ok (.iload_n 3, 1) := by decide +kernel
theorem dX2_sufferYear_26 : decode cX2_sufferYear 26 = .ok (.aaload, 1) := by decide +kernel
theorem dX2_sufferYear_27 : decode cX2_sufferYear 27 = .ok (.iload_n 1, 1) := by decide +kernel
theorem dX2_sufferYear_28 : decode cX2_sufferYear 28 = .ok (.iload_n 2, 1) := by decide +kernel
theorem dX2_sufferYear_29 : decode cX2_sufferYear 29 = .ok (.invokevirtual 49, 3) := by decide +kernel
theorem dX2_sufferYear_32 : decode cX2_sufferYear 32 = .ok (.invokevirtual 53, 3) := by decide +kernel
theorem dX2_sufferYear_35 : decode cX2_sufferYear 35 = .ok (.iinc 3 1, 3) := by decide +kernel
theorem dX2_sufferYear_38 : decode cX2_sufferYear 38 = .ok (.goto (-31), 3) := by decide +kernel
theorem dX2_sufferYear_41 : decode cX2_sufferYear 41 = .ok (.return_, 1) := by decide +kernel
theorem dX2_becomeLike_0 : decode cX2_becomeLike 0 = .ok (.aload_n 0, 1) := by decide +kernel
theorem dX2_becomeLike_1 : decode cX2_becomeLike 1 = .ok (.aload_n 1, 1) := by decide +kernel
theorem dX2_becomeLike_2 : decode cX2_becomeLike 2 = .ok (.getfield 18, 3) := by decide +kernel
theorem dX2_becomeLike_5 : decode cX2_becomeLike 5 = .ok (.putfield 18, 3) := by decide +kernel
theorem dX2_becomeLike_8 : decode cX2_becomeLike 8 = .ok (.iconst 0, 1) := by decide +kernel
theorem dX2_becomeLike_9 : decode cX2_becomeLike 9 = .ok (.istore_n 2, 1) := by decide +kernel
theorem dX2_becomeLike_10 : decode cX2_becomeLike 10 = .ok (.iload_n 2, 1) := by decide +kernel
theorem dX2_becomeLike_11 : decode cX2_becomeLike 11 = .ok (.aload_n 0, 1) := by decide +kernel
theorem dX2_becomeLike_12 : decode cX2_becomeLike 12 = .ok (.getfield 18, 3) := by decide +kernel
theorem dX2_becomeLike_15 : decode cX2_becomeLike 15 = .ok (.if_icmp .ge 24, 3) := by decide +kernel
theorem dX2_becomeLike_18 : decode cX2_becomeLike 18 = .ok (.aload_n 0, 1) := by decide +kernel
theorem dX2_becomeLike_19 : decode cX2_becomeLike 19 = .ok (.getfield 11, 3) := by decide +kernel
theorem dX2_becomeLike_22 : decode cX2_becomeLike 22 = .ok (.iload_n 2, 1) := by decide +kernel
theorem dX2_becomeLike_23 : decode cX2_becomeLike 23 = .ok (.aaload, 1) := by decide +kernel
theorem dX2_becomeLike_24 : decode cX2_becomeLike 24 = .ok (.aload_n 1, 1) := by decide +kernel
theorem dX2_becomeLike_25 : decode cX2_becomeLike 25 = .ok (.getfield 11, 3) := by decide +kernel
theorem dX2_becomeLike_28 : decode cX2_becomeLike 28 = .ok (.iload_n 2, 1) := by decide +kernel
theorem dX2_becomeLike_29 : decode cX2_becomeLike 29 = .ok (.aaload, 1) := by decide +kernel
theorem dX2_becomeLike_30 : decode cX2_becomeLike 30 = .ok (.invokevirtual 57, 3) := by decide +kernel
theorem dX2_becomeLike_33 : decode cX2_becomeLike 33 = .ok (.iinc 2 1, 3) := by decide +kernel
theorem dX2_becomeLike_36 : decode cX2_becomeLike 36 = .ok (.goto (-26), 3) := by decide +kernel
theorem dX2_becomeLike_39 : decode cX2_becomeLike 39 = .ok (.return_, 1) := by decide +kernel
theorem dX2_forgetChosen_0 : decode cX2_forgetChosen 0 = .ok (.iconst 0, 1) := by decide +kernel
theorem dX2_forgetChosen_1 : decode cX2_forgetChosen 1 = .ok (.istore_n 1, 1) := by decide +kernel
theorem dX2_forgetChosen_2 : decode cX2_forgetChosen 2 = .ok (.iload_n 1, 1) := by decide +kernel
theorem dX2_forgetChosen_3 : decode cX2_forgetChosen 3 = .ok (.aload_n 0, 1) := by decide +kernel
theorem dX2_forgetChosen_4 : decode cX2_forgetChosen 4 = .ok (.getfield 18, 3) := by decide +kernel
theorem dX2_forgetChosen_7 : decode cX2_forgetChosen 7 = .ok (.if_icmp .ge 19, 3) := by decide +kernel
theorem dX2_forgetChosen_10 : decode cX2_forgetChosen 10 = .ok (.aload_n 0, 1) := by decide +kernel
theorem dX2_forgetChosen_11 : decode cX2_forgetChosen 11 = .ok (.getfield 11, 3) := by decide +kernel
theorem dX2_forgetChosen_14 : decode cX2_forgetChosen 14 = .ok (.iload_n 1, 1) := by decide +kernel
theorem dX2_forgetChosen_15 : decode cX2_forgetChosen 15 = .ok (.aaload, 1) := by decide +kernel
theorem dX2_forgetChosen_16 : decode cX2_forgetChosen 16 = .ok (.iconst 0, 1) := by decide +kernel
theorem dX2_forgetChosen_17 : decode cX2_forgetChosen 17 = .ok (.putfield 61, 3) := by decide +kernel
theorem dX2_forgetChosen_20 : decode cX2_forgetChosen 20 = .ok (.iinc 1 1, 3) := by decide +kernel
theorem dX2_forgetChosen_23 : decode cX2_forgetChosen 23 = .ok (.goto (-21), 3) := by decide +kernel
theorem dX2_forgetChosen_26 : decode cX2_forgetChosen 26 = .ok (.return_, 1) := by decide +kernel
theorem dX2_weakestBelow_0 : decode cX2_weakestBelow 0 = .ok (.iconst (-1), 1) := by decide +kernel
theorem dX2_weakestBelow_1 : decode cX2_weakestBelow 1 = .ok (.istore_n 2, 1) := by decide +kernel
theorem dX2_weakestBelow_2 : decode cX2_weakestBelow 2 = .ok (.iload_n 1, 1) := by decide +kernel
theorem dX2_weakestBelow_3 : decode cX2_weakestBelow 3 = .ok (.istore_n 3, 1) := by decide +kernel
theorem dX2_weakestBelow_4 : decode cX2_weakestBelow 4 = .ok (.iconst 0, 1) := by decide +kernel
theorem dX2_weakestBelow_5 : decode cX2_weakestBelow 5 = .ok (.istore 4, 2) := by decide +kernel
theorem dX2_weakestBelow_7 : decode cX2_weakestBelow 7 = .ok (.iload 4, 2) := by decide +kernel
theorem dX2_weakestBelow_9 : decode cX2_weakestBelow 9 = .ok (.aload_n 0, 1) := by decide +kernel
theorem dX2_weakestBelow_10 : decode cX2_weakestBelow 10 = .ok (.getfield 18, 3) := by decide +kernel
theorem dX2_weakestBelow_13 : decode cX2_weakestBelow 13 = .ok (.if_icmp .ge 52, 3) := by decide +kernel
theorem dX2_weakestBelow_16 : decode cX2_weakestBelow 16 = .ok (.aload_n 0, 1) := by decide +kernel
theorem dX2_weakestBelow_17 : decode cX2_weakestBelow 17 = .ok (.getfield 11, 3) := by decide +kernel
theorem dX2_weakestBelow_20 : decode cX2_weakestBelow 20 = .ok (.iload 4, 2) := by decide +kernel
theorem dX2_weakestBelow_22 : decode cX2_weakestBelow 22 = .ok (.aaload, 1) := by decide +kernel
theorem dX2_weakestBelow_23 : decode cX2_weakestBelow 23 = .ok (.astore 5, 2) := by decide +kernel
theorem dX2_weakestBelow_25 : decode cX2_weakestBelow 25 = .ok (.aload 5, 2) := by decide +kernel
theorem dX2_weakestBelow_27 : decode cX2_weakestBelow 27 = .ok (.invokevirtual 32, 3) := by decide +kernel
theorem dX2_weakestBelow_30 : decode cX2_weakestBelow 30 = .ok (.ifCond .ne 29, 3) := by decide +kernel
theorem dX2_weakestBelow_33 : decode cX2_weakestBelow 33 = .ok (.aload 5, 2) := by decide +kernel
theorem dX2_weakestBelow_35 : decode cX2_weakestBelow 35 = .ok (.getfield 61, 3) := by decide +kernel
theorem dX2_weakestBelow_38 : decode cX2_weakestBelow 38 = .ok (.ifCond .ne 21, 3) := by decide +kernel
theorem dX2_weakestBelow_41 : decode cX2_weakestBelow 41 = .ok (.aload 5, 2) := by decide +kernel
theorem dX2_weakestBelow_43 : decode cX2_weakestBelow 43 = .ok (.getfield 29, 3) := by decide +kernel
theorem dX2_weakestBelow_46 : decode cX2_weakestBelow 46 = .ok (.iload_n 3, 1) := by decide +kernel
theorem dX2_weakestBelow_47 : decode cX2_weakestBelow 47 = .ok (.if_icmp .ge 12, 3) := by decide +kernel
theorem dX2_weakestBelow_50 : decode cX2_weakestBelow 50 = .ok (.iload 4, 2) := by decide +kernel
theorem dX2_weakestBelow_52 : decode cX2_weakestBelow 52 = .ok (.istore_n 2, 1) := by decide +kernel
theorem dX2_weakestBelow_53 : decode cX2_weakestBelow 53 = .ok (.aload 5, 2) := by decide +kernel
theorem dX2_weakestBelow_55 : decode cX2_weakestBelow 55 = .ok (.getfield 29, 3) := by decide +kernel
theorem dX2_weakestBelow_58 : decode cX2_weakestBelow 58 = .ok (.istore_n 3, 1) := by decide +kernel
theorem dX2_weakestBelow_59 : decode cX2_weakestBelow 59 = .ok (.iinc 4 1, 3) := by decide +kernel
theorem dX2_weakestBelow_62 : decode cX2_weakestBelow 62 = .ok (.goto (-55), 3) := by decide +kernel
theorem dX2_weakestBelow_65 : decode cX2_weakestBelow 65 = .ok (.iload_n 2, 1) := by decide +kernel
theorem dX2_weakestBelow_66 : decode cX2_weakestBelow 66 = .ok (.ireturn, 1) := by decide +kernel
theorem dX3_init_0 : decode cX3_init 0 = .ok (.aload_n 0, 1) := by decide +kernel
theorem dX3_init_1 : decode cX3_init 1 = .ok (.invokespecial 3, 3) := by decide +kernel
theorem dX3_init_4 : decode cX3_init 4 = .ok (.aload_n 0, 1) := by decide +kernel
theorem dX3_init_5 : decode cX3_init 5 = .ok (.bipush 20, 2) := by decide +kernel
theorem dX3_init_7 : decode cX3_init 7 = .ok (.anewarray 9, 3) := by decide +kernel
theorem dX3_init_10 : decode cX3_init 10 = .ok (.putfield 11, 3) := by decide +kernel
theorem dX3_init_13 : decode cX3_init 13 = .ok (.aload_n 0, 1) := by decide +kernel
theorem dX3_init_14 : decode cX3_init 14 = .ok (.iconst 1, 1) := by decide +kernel
theorem dX3_init_15 : decode cX3_init 15 = .ok (.putfield 17, 3) := by decide +kernel
theorem dX3_init_18 : decode cX3_init 18 = .ok (.iconst 0, 1) := by decide +kernel
theorem dX3_init_19 : decode cX3_init 19 = .ok (.istore_n 1, 1) := by decide +kernel
theorem dX3_init_20 : decode cX3_init 20 = .ok (.iload_n 1, 1) := by decide +kernel
theorem dX3_init_21 : decode cX3_init 21 = .ok (.bipush 20, 2) := by decide +kernel
theorem dX3_init_23 : decode cX3_init 23 = .ok (.if_icmp .ge 22, 3) := by decide +kernel
theorem dX3_init_26 : decode cX3_init 26 = .ok (.aload_n 0, 1) := by decide +kernel
theorem dX3_init_27 : decode cX3_init 27 = .ok (.getfield 11, 3) := by decide +kernel
theorem dX3_init_30 : decode cX3_init 30 = .ok (.iload_n 1, 1) := by decide +kernel
theorem dX3_init_31 : decode cX3_init 31 = .ok (.new 9, 3) := by decide +kernel
theorem dX3_init_34 : decode cX3_init 34 = .ok (.dup, 1) := by decide +kernel
theorem dX3_init_35 : decode cX3_init 35 = .ok (.invokespecial 21, 3) := by decide +kernel
theorem dX3_init_38 : decode cX3_init 38 = .ok (.aastore, 1) := by decide +kernel
theorem dX3_init_39 : decode cX3_init 39 = .ok (.iinc 1 1, 3) := by decide +kernel
theorem dX3_init_42 : decode cX3_init 42 = .ok (.goto (-22), 3) := by decide +kernel
theorem dX3_init_45 : decode cX3_init 45 = .ok (.aload_n 0, 1) := by decide +kernel
theorem dX3_init_46 : decode cX3_init 46 = .ok (.getfield 11, 3) := by decide +kernel
theorem dX3_init_49 : decode cX3_init 49 = .ok (.iconst 0, 1) := by decide +kernel
theorem dX3_init_50 : decode cX3_init 50 = .ok (.aaload, 1) := by decide +kernel
theorem dX3_init_51 : decode cX3_init 51 = .ok (.iconst 0, 1) := by decide +kernel
theorem dX3_init_52 : decode cX3_init 52 = .ok (.putfield 22, 3) := by decide +kernel
theorem dX3_init_55 : decode cX3_init 55 = .ok (.aload_n 0, 1) := by decide +kernel
theorem dX3_init_56 : decode cX3_init 56 = .ok (.getfield 11, 3) := by decide +kernel
theorem dX3_init_59 : decode cX3_init 59 = .ok (.iconst 0, 1) := by decide +kernel
theorem dX3_init_60 : decode cX3_init 60 = .ok (.aaload, 1) := by decide +kernel
theorem dX3_init_61 : decode cX3_init 61 = .ok (.sipush 200, 3) := by decide +kernel
theorem dX3_init_64 : decode cX3_init 64 = .ok (.putfield 25, 3) := by decide +kernel
theorem dX3_init_67 : decode cX3_init 67 = .ok (.return_, 1) := by decide +kernel
theorem dX3_has_0 : decode cX3_has 0 = .ok (.iload_n 1, 1) := by decide +kernel
theorem dX3_has_1 : decode cX3_has 1 = .ok (.iconst 0, 1) := by decide +kernel
theorem dX3_has_2 : decode cX3_has 2 = .ok (.aload_n 0, 1) := by decide +kernel
theorem dX3_has_3 : decode cX3_has 3 = .ok (.getfield 17, 3) := by decide +kernel
theorem dX3_has_6 : decode cX3_has 6 = .ok (.iconst 1, 1) := by decide +kernel
theorem dX3_has_7 : decode cX3_has 7 = .ok (.isub, 1) := by decide +kernel
theorem dX3_has_8 : decode cX3_has 8 = .ok (.invokestatic 28, 3) := by decide +kernel
theorem dX3_has_11 : decode cX3_has 11 = .ok (.ireturn, 1) := by decide +kernel
theorem dX3_make_0 : decode cX3_make 0 = .ok (.aload_n 0, 1) := by decide +kernel
theorem dX3_make_1 : decode cX3_make 1 = .ok (.getfield 11, 3) := by decide +kernel
theorem dX3_make_4 : decode cX3_make 4 = .ok (.aload_n 0, 1) := by decide +kernel
theorem dX3_make_5 : decode cX3_make 5 = .ok (.getfield 17, 3) := by decide +kernel
theorem dX3_make_8 : decode cX3_make 8 = .ok (.aaload, 1) := by decide +kernel
theorem dX3_make_9 : decode cX3_make 9 = .ok (.astore_n 2, 1) := by decide +kernel
theorem dX3_make_10 : decode cX3_make 10 = .ok (.aload_n 2, 1) := by decide +kernel
theorem dX3_make_11 : decode cX3_make 11 = .ok (.aload_n 1, 1) := by decide +kernel
theorem dX3_make_12 : decode cX3_make 12 = .ok (.getfield 32, 3) := by decide +kernel
theorem dX3_make_15 : decode cX3_make 15 = .ok (.putfield 22, 3) := by decide +kernel
theorem dX3_make_18 : decode cX3_make 18 = .ok (.aload_n 2, 1) := by decide +kernel
theorem dX3_make_19 : decode cX3_make 19 = .ok (.aload_n 1, 1) := by decide +kernel
theorem dX3_make_20 : decode cX3_make 20 = .ok (.getfield 35, 3) := by decide +kernel
theorem dX3_make_23 : decode cX3_make 23 = .ok (.putfield 38, 3) := by decide +kernel
theorem dX3_make_26 : decode cX3_make 26 = .ok (.aload_n 2, 1) := by decide +kernel
theorem dX3_make_27 : decode cX3_make 27 = .ok (.aload_n 1, 1) := by decide +kernel
theorem dX3_make_28 : decode cX3_make 28 = .ok (.getfield 39, 3) := by decide +kernel
theorem dX3_make_31 : decode cX3_make 31 = .ok (.putfield 25, 3) := by decide +kernel
theorem dX3_make_34 : decode cX3_make 34 = .ok (.aload_n 2, 1) := by decide +kernel
theorem dX3_make_35 : decode cX3_make 35 = .ok (.aload_n 1, 1) := by decide +kernel
theorem dX3_make_36 : decode cX3_make 36 = .ok (.getfield 40, 3) := by decide +kernel
theorem dX3_make_39 : decode cX3_make 39 = .ok (.putfield 43, 3) := by decide +kernel
theorem dX3_make_42 : decode cX3_make 42 = .ok (.aload_n 2, 1) := by decide +kernel
theorem dX3_make_43 : decode cX3_make 43 = .ok (.aload_n 1, 1) := by decide +kernel
theorem dX3_make_44 : decode cX3_make 44 = .ok (.getfield 44, 3) := by decide +kernel
theorem dX3_make_47 : decode cX3_make 47 = .ok (.putfield 47, 3) := by decide +kernel
theorem dX3_make_50 : decode cX3_make 50 = .ok (.aload_n 0, 1) := by decide +kernel
theorem dX3_make_51 : decode cX3_make 51 = .ok (.dup, 1) := by decide +kernel
theorem dX3_make_52 : decode cX3_make 52 = .ok (.getfield 17, 3) := by decide +kernel
theorem dX3_make_55 : decode cX3_make 55 = .ok (.iconst 1, 1) := by decide +kernel
theorem dX3_make_56 : decode cX3_make 56 = .ok (.iadd, 1) := by decide +kernel
theorem dX3_make_57 : decode cX3_make 57 = .ok (.putfield 17, 3) := by decide +kernel
theorem dX3_make_60 : decode cX3_make 60 = .ok (.aload_n 0, 1) := by decide +kernel
theorem dX3_make_61 : decode cX3_make 61 = .ok (.getfield 17, 3) := by decide +kernel
theorem dX3_make_64 : decode cX3_make 64 = .ok (.iconst 1, 1) := by decide +kernel
theorem dX3_make_65 : decode cX3_make 65 = .ok (.isub, 1) := by decide +kernel
theorem dX3_make_66 : decode cX3_make 66 = .ok (.ireturn, 1) := by decide +kernel
theorem dX3_allCoins_0 : decode cX3_allCoins 0 = .ok (.iconst 0, 1) := by decide +kernel
theorem dX3_allCoins_1 : decode cX3_allCoins 1 = .ok (.istore_n 1, 1) := by decide +kernel
theorem dX3_allCoins_2 : decode cX3_allCoins 2 = .ok (.iconst 0, 1) := by decide +kernel
theorem dX3_allCoins_3 : decode cX3_allCoins 3 = .ok (.istore_n 2, 1) := by decide +kernel
theorem dX3_allCoins_4 : decode cX3_allCoins 4 = .ok (.iload_n 2, 1) := by decide +kernel
theorem dX3_allCoins_5 : decode cX3_allCoins 5 = .ok (.aload_n 0, 1) := by decide +kernel
theorem dX3_allCoins_6 : decode cX3_allCoins 6 = .ok (.getfield 17, 3) := by decide +kernel
theorem dX3_allCoins_9 : decode cX3_allCoins 9 = .ok (.if_icmp .ge 21, 3) := by decide +kernel
theorem dX3_allCoins_12 : decode cX3_allCoins 12 = .ok (.iload_n 1, 1) := by decide +kernel
theorem dX3_allCoins_13 : decode cX3_allCoins 13 = .ok (.aload_n 0, 1) := by decide +kernel
theorem dX3_allCoins_14 : decode cX3_allCoins 14 = .ok (.getfield 11, 3) := by decide +kernel
theorem dX3_allCoins_17 : decode cX3_allCoins 17 = .ok (.iload_n 2, 1) := by decide +kernel
theorem dX3_allCoins_18 : decode cX3_allCoins 18 = .ok (.aaload, 1) := by decide +kernel
theorem dX3_allCoins_19 : decode cX3_allCoins 19 = .ok (.getfield 48, 3) := by decide +kernel
theorem dX3_allCoins_22 : decode cX3_allCoins 22 = .ok (.iadd, 1) := by decide +kernel
theorem dX3_allCoins_23 : decode cX3_allCoins 23 = .ok (.istore_n 1, 1) := by decide +kernel
theorem dX3_allCoins_24 : decode cX3_allCoins 24 = .ok (.iinc 2 1, 3) := by decide +kernel
theorem dX3_allCoins_27 : decode cX3_allCoins 27 = .ok (.goto (-23), 3) := by decide +kernel
theorem dX3_allCoins_30 : decode cX3_allCoins 30 = .ok (.iload_n 1, 1) := by decide +kernel
theorem dX3_allCoins_31 : decode cX3_allCoins 31 = .ok (.ireturn, 1) := by decide +kernel
theorem dX3_coinsFor_0 : decode cX3_coinsFor 0 = .ok (.iconst 0, 1) := by decide +kernel
theorem dX3_coinsFor_1 : decode cX3_coinsFor 1 = .ok (.istore_n 3, 1) := by decide +kernel
theorem dX3_coinsFor_2 : decode cX3_coinsFor 2 = .ok (.iconst 0, 1) := by decide +kernel
theorem dX3_coinsFor_3 : decode cX3_coinsFor 3 = .ok (.istore 4, 2) := by decide +kernel
theorem dX3_coinsFor_5 : decode cX3_coinsFor 5 = .ok (.iload 4, 2) := by decide +kernel
theorem dX3_coinsFor_7 : decode cX3_coinsFor 7 = .ok (.aload_n 0, 1) := by decide +kernel
theorem dX3_coinsFor_8 : decode cX3_coinsFor 8 = .ok (.getfield 17, 3) := by decide +kernel
theorem dX3_coinsFor_11 : decode cX3_coinsFor 11 = .ok (.if_icmp .ge 41, 3) := by decide +kernel
theorem dX3_coinsFor_14 : decode cX3_coinsFor 14 = .ok (.iload_n 3, 1) := by decide +kernel
theorem dX3_coinsFor_15 : decode cX3_coinsFor 15 = .ok (.aload_n 0, 1) := by decide +kernel
theorem dX3_coinsFor_16 : decode cX3_coinsFor 16 = .ok (.getfield 11, 3) := by decide +kernel
theorem dX3_coinsFor_19 : decode cX3_coinsFor 19 = .ok (.iload 4, 2) := by decide +kernel
theorem dX3_coinsFor_21 : decode cX3_coinsFor 21 = .ok (.aaload, 1) := by decide +kernel
theorem dX3_coinsFor_22 : decode cX3_coinsFor 22 = .ok (.iload_n 1, 1) := by decide +kernel
theorem dX3_coinsFor_23 : decode cX3_coinsFor 23 = .ok (.iload_n 2, 1) := by decide +kernel
theorem dX3_coinsFor_24 : decode cX3_coinsFor 24 = .ok (.invokevirtual 51, 3) := by decide +kernel
theorem dX3_coinsFor_27 : decode cX3_coinsFor 27 = .ok (.ifCond .eq 16, 3) := by decide +kernel
theorem dX3_coinsFor_30 : decode cX3_coinsFor 30 = .ok (.aload_n 0, 1) := by decide +kernel
theorem dX3_coinsFor_31 : decode cX3_coinsFor 31 = .ok (.getfield 11, 3) := by decide +kernel
theorem dX3_coinsFor_34 : decode cX3_coinsFor 34 = .ok (.iload 4, 2) := by decide +kernel
theorem dX3_coinsFor_36 : decode cX3_coinsFor 36 = .ok (.aaload, 1) := by decide +kernel
theorem dX3_coinsFor_37 : decode cX3_coinsFor 37 = .ok (.getfield 48, 3) := by decide +kernel
theorem dX3_coinsFor_40 : decode cX3_coinsFor 40 = .ok (.goto 4, 3) := by decide +kernel
theorem dX3_coinsFor_43 : decode cX3_coinsFor 43 = .ok (.iconst 0, 1) := by decide +kernel
theorem dX3_coinsFor_44 : decode cX3_coinsFor 44 = .ok (.iadd, 1) := by decide +kernel
theorem dX3_coinsFor_45 : decode cX3_coinsFor 45 = .ok (.istore_n 3, 1) := by decide +kernel
theorem dX3_coinsFor_46 : decode cX3_coinsFor 46 = .ok (.iinc 4 1, 3) := by decide +kernel
theorem dX3_coinsFor_49 : decode cX3_coinsFor 49 = .ok (.goto (-44), 3) := by decide +kernel
theorem dX3_coinsFor_52 : decode cX3_coinsFor 52 = .ok (.iload_n 3, 1) := by decide +kernel
theorem dX3_coinsFor_53 : decode cX3_coinsFor 53 = .ok (.ireturn, 1) := by decide +kernel
theorem dX3_nextToPay_0 : decode cX3_nextToPay 0 = .ok (.iconst (-1), 1) := by decide +kernel
theorem dX3_nextToPay_1 : decode cX3_nextToPay 1 = .ok (.istore_n 3, 1) := by decide +kernel
theorem dX3_nextToPay_2 : decode cX3_nextToPay 2 = .ok (.iconst 0, 1) := by decide +kernel
theorem dX3_nextToPay_3 : decode cX3_nextToPay 3 = .ok (.istore 4, 2) := by decide +kernel
theorem dX3_nextToPay_5 : decode cX3_nextToPay 5 = .ok (.iload 4, 2) := by decide +kernel
theorem dX3_nextToPay_7 : decode cX3_nextToPay 7 = .ok (.aload_n 0, 1) := by decide +kernel
theorem dX3_nextToPay_8 : decode cX3_nextToPay 8 = .ok (.getfield 17, 3) := by decide +kernel
theorem dX3_nextToPay_11 : decode cX3_nextToPay 11 = .ok (.if_icmp .ge 51, 3) := by decide +kernel
theorem dX3_nextToPay_14 : decode cX3_nextToPay 14 = .ok (.aload_n 0, 1) := by decide +kernel
theorem dX3_nextToPay_15 : decode cX3_nextToPay 15 = .ok (.getfield 11, 3) := by decide +kernel
theorem dX3_nextToPay_18 : decode cX3_nextToPay 18 = .ok (.iload 4, 2) := by decide +kernel
theorem dX3_nextToPay_20 : decode cX3_nextToPay 20 = .ok (.aaload, 1) := by decide +kernel
theorem dX3_nextToPay_21 : decode cX3_nextToPay 21 = .ok (.iload_n 1, 1) := by decide +kernel
theorem dX3_nextToPay_22 : decode cX3_nextToPay 22 = .ok (.iload_n 2, 1) := by decide +kernel
theorem dX3_nextToPay_23 : decode cX3_nextToPay 23 = .ok (.invokevirtual 51, 3) := by decide +kernel
theorem dX3_nextToPay_26 : decode cX3_nextToPay 26 = .ok (.ifCond .eq 30, 3) := by decide +kernel
theorem dX3_nextToPay_29 : decode cX3_nextToPay 29 = .ok (.iload_n 3, 1) := by decide +kernel
theorem dX3_nextToPay_30 : decode cX3_nextToPay 30 = .ok (.iconst (-1), 1) := by decide +kernel
theorem dX3_nextToPay_31 : decode cX3_nextToPay 31 = .ok (.if_icmp .eq 22, 3) := by decide +kernel
theorem dX3_nextToPay_34 : decode cX3_nextToPay 34 = .ok (.aload_n 0, 1) := by decide +kernel
theorem dX3_nextToPay_35 : decode cX3_nextToPay 35 = .ok (.getfield 11, 3) := by decide +kernel
theorem dX3_nextToPay_38 : decode cX3_nextToPay 38 = .ok (.iload 4, 2) := by decide +kernel
theorem dX3_nextToPay_40 : decode cX3_nextToPay 40 = .ok (.aaload, 1) := by decide +kernel
theorem dX3_nextToPay_41 : decode cX3_nextToPay 41 = .ok (.aload_n 0, 1) := by decide +kernel
theorem dX3_nextToPay_42 : decode cX3_nextToPay 42 = .ok (.getfield 11, 3) := by decide +kernel
theorem dX3_nextToPay_45 : decode cX3_nextToPay 45 = .ok (.iload_n 3, 1) := by decide +kernel
theorem dX3_nextToPay_46 : decode cX3_nextToPay 46 = .ok (.aaload, 1) := by decide +kernel
theorem dX3_nextToPay_47 : decode cX3_nextToPay 47 = .ok (.invokevirtual 55, 3) := by decide +kernel
theorem dX3_nextToPay_50 : decode cX3_nextToPay 50 = .ok (.ifCond .eq 6, 3) := by decide +kernel
theorem dX3_nextToPay_53 : decode cX3_nextToPay 53 = .ok (.iload 4, 2) := by decide +kernel
theorem dX3_nextToPay_55 : decode cX3_nextToPay 55 = .ok (.istore_n 3, 1) := by decide +kernel
theorem dX3_nextToPay_56 : decode cX3_nextToPay 56 = .ok (.iinc 4 1, 3) := by decide +kernel
theorem dX3_nextToPay_59 : decode cX3_nextToPay 59 = .ok (.goto (-54), 3) := by decide +kernel
theorem dX3_nextToPay_62 : decode cX3_nextToPay 62 = .ok (.iload_n 3, 1) := by decide +kernel
theorem dX3_nextToPay_63 : decode cX3_nextToPay 63 = .ok (.ireturn, 1) := by decide +kernel
theorem dX4_init_0 : decode cX4_init 0 = .ok (.aload_n 0, 1) := by decide +kernel
theorem dX4_init_1 : decode cX4_init 1 = .ok (.invokespecial 3, 3) := by decide +kernel
theorem dX4_init_4 : decode cX4_init 4 = .ok (.aload_n 0, 1) := by decide +kernel
theorem dX4_init_5 : decode cX4_init 5 = .ok (.aload_n 1, 1) := by decide +kernel
theorem dX4_init_6 : decode cX4_init 6 = .ok (.putfield 9, 3) := by decide +kernel
theorem dX4_init_9 : decode cX4_init 9 = .ok (.return_, 1) := by decide +kernel
theorem dX4_isGift_0 : decode cX4_isGift 0 = .ok (.aload_n 0, 1) := by decide +kernel
theorem dX4_isGift_1 : decode cX4_isGift 1 = .ok (.iconst 0, 1) := by decide +kernel
theorem dX4_isGift_2 : decode cX4_isGift 2 = .ok (.putfield 15, 3) := by decide +kernel
theorem dX4_isGift_5 : decode cX4_isGift 5 = .ok (.aload_n 0, 1) := by decide +kernel
theorem dX4_isGift_6 : decode cX4_isGift 6 = .ok (.invokevirtual 19, 3) := by decide +kernel
theorem dX4_isGift_9 : decode cX4_isGift 9 = .ok (.aload_n 0, 1) := by decide +kernel
theorem dX4_isGift_10 : decode cX4_isGift 10 = .ok (.aload_n 0, 1) := by decide +kernel
theorem dX4_isGift_11 : decode cX4_isGift 11 = .ok (.invokevirtual 22, 3) := by decide +kernel
theorem dX4_isGift_14 : decode cX4_isGift 14 = .ok (.putfield 26, 3) := by decide +kernel
theorem dX4_isGift_17 : decode cX4_isGift 17 = .ok (.aload_n 0, 1) := by decide +kernel
theorem dX4_isGift_18 : decode cX4_isGift 18 = .ok (.getfield 26, 3) := by decide +kernel
theorem dX4_isGift_21 : decode cX4_isGift 21 = .ok (.iconst 1, 1) := by decide +kernel
theorem dX4_isGift_22 : decode cX4_isGift 22 = .ok (.sipush 9999, 3) := by decide +kernel
theorem dX4_isGift_25 : decode cX4_isGift 25 = .ok (.invokestatic 29, 3) := by decide +kernel
theorem dX4_isGift_28 : decode cX4_isGift 28 = .ok (.ifCond .ne 5, 3) := by decide +kernel
theorem dX4_isGift_31 : decode cX4_isGift 31 = .ok (.iconst 0, 1) := by decide +kernel
theorem dX4_isGift_32 : decode cX4_isGift 32 = .ok (.ireturn, 1) := by decide +kernel
theorem dX4_isGift_33 : decode cX4_isGift 33 = .ok (.aload_n 0, 1) := by decide +kernel
theorem dX4_isGift_34 : decode cX4_isGift 34 = .ok (.invokevirtual 19, 3) := by decide +kernel
theorem dX4_isGift_37 : decode cX4_isGift 37 = .ok (.aload_n 0, 1) := by decide +kernel
theorem dX4_isGift_38 : decode cX4_isGift 38 = .ok (.ldc 33, 2) := by decide +kernel
theorem dX4_isGift_40 : decode cX4_isGift 40 = .ok (.invokevirtual 35, 3) := by decide +kernel
theorem dX4_isGift_43 : decode cX4_isGift 43 = .ok (.ifCond .ne 5, 3) := by decide +kernel
theorem dX4_isGift_46 : decode cX4_isGift 46 = .ok (.iconst 0, 1) := by decide +kernel
theorem dX4_isGift_47 : decode cX4_isGift 47 = .ok (.ireturn, 1) := by decide +kernel
theorem dX4_isGift_48 : decode cX4_isGift 48 = .ok (.aload_n 0, 1) := by decide +kernel
theorem dX4_isGift_49 : decode cX4_isGift 49 = .ok (.invokevirtual 19, 3) := by decide +kernel
theorem dX4_isGift_52 : decode cX4_isGift 52 = .ok (.aload_n 0, 1) := by decide +kernel
theorem dX4_isGift_53 : decode cX4_isGift 53 = .ok (.iload_n 1, 1) := by decide +kernel
theorem dX4_isGift_54 : decode cX4_isGift 54 = .ok (.invokevirtual 39, 3) := by decide +kernel
theorem dX4_isGift_57 : decode cX4_isGift 57 = .ok (.ifCond .eq 29, 3) := by decide +kernel
theorem dX4_isGift_60 : decode cX4_isGift 60 = .ok (.aload_n 0, 1) := by decide +kernel
theorem dX4_isGift_61 : decode cX4_isGift 61 = .ok (.iload_n 2, 1) := by decide +kernel
theorem dX4_isGift_62 : decode cX4_isGift 62 = .ok (.invokevirtual 43, 3) := by decide +kernel
theorem dX4_isGift_65 : decode cX4_isGift 65 = .ok (.ifCond .eq 21, 3) := by decide +kernel
theorem dX4_isGift_68 : decode cX4_isGift 68 = .ok (.aload_n 0, 1) := by decide +kernel
theorem dX4_isGift_69 : decode cX4_isGift 69 = .ok (.getfield 46, 3) := by decide +kernel
theorem dX4_isGift_72 : decode cX4_isGift 72 = .ok (.aload_n 0, 1) := by decide +kernel
theorem dX4_isGift_73 : decode cX4_isGift 73 = .ok (.getfield 9, 3) := by decide +kernel
theorem dX4_isGift_76 : decode cX4_isGift 76 = .ok (.getfield 49, 3) := by decide +kernel
theorem dX4_isGift_79 : decode cX4_isGift 79 = .ok (.if_icmp .ne 7, 3) := by decide +kernel
theorem dX4_isGift_82 : decode cX4_isGift 82 = .ok (.iconst 1, 1) := by decide +kernel
theorem dX4_isGift_83 : decode cX4_isGift 83 = .ok (.goto 4, 3) := by decide +kernel
theorem dX4_isGift_86 : decode cX4_isGift 86 = .ok (.iconst 0, 1) := by decide +kernel
theorem dX4_isGift_87 : decode cX4_isGift 87 = .ok (.ireturn, 1) := by decide +kernel
theorem dX4_isEndRead_0 : decode cX4_isEndRead 0 = .ok (.aload_n 0, 1) := by decide +kernel
theorem dX4_isEndRead_1 : decode cX4_isEndRead 1 = .ok (.ldc 54, 2) := by decide +kernel
theorem dX4_isEndRead_3 : decode cX4_isEndRead 3 = .ok (.invokevirtual 35, 3) := by decide +kernel
theorem dX4_isEndRead_6 : decode cX4_isEndRead 6 = .ok (.ifCond .eq 35, 3) := by decide +kernel
theorem dX4_isEndRead_9 : decode cX4_isEndRead 9 = .ok (.aload_n 0, 1) := by decide +kernel
theorem dX4_isEndRead_10 : decode cX4_isEndRead 10 = .ok (.invokevirtual 19, 3) := by decide +kernel
theorem dX4_isEndRead_13 : decode cX4_isEndRead 13 = .ok (.aload_n 0, 1) := by decide +kernel
theorem dX4_isEndRead_14 : decode cX4_isEndRead 14 = .ok (.invokevirtual 22, 3) := by decide +kernel
theorem dX4_isEndRead_17 : decode cX4_isEndRead 17 = .ok (.istore_n 2, 1) := by decide +kernel
theorem dX4_isEndRead_18 : decode cX4_isEndRead 18 = .ok (.iload_n 2, 1) := by decide +kernel
theorem dX4_isEndRead_19 : decode cX4_isEndRead 19 = .ok (.iconst 0, 1) := by decide +kernel
theorem dX4_isEndRead_20 : decode cX4_isEndRead 20 = .ok (.iload_n 1, 1) := by decide +kernel
theorem dX4_isEndRead_21 : decode cX4_isEndRead 21 = .ok (.iconst 1, 1) := by decide +kernel
theorem dX4_isEndRead_22 : decode cX4_isEndRead 22 = .ok (.isub, 1) := by decide +kernel
theorem dX4_isEndRead_23 : decode cX4_isEndRead 23 = .ok (.invokestatic 29, 3) := by decide +kernel
theorem dX4_isEndRead_26 : decode cX4_isEndRead 26 = .ok (.ifCond .ne 5, 3) := by decide +kernel
theorem dX4_isEndRead_29 : decode cX4_isEndRead 29 = .ok (.iconst 0, 1) := by decide +kernel
theorem dX4_isEndRead_30 : decode cX4_isEndRead 30 = .ok (.ireturn, 1) := by decide +kernel
theorem dX4_isEndRead_31 : decode cX4_isEndRead 31 = .ok (.aload_n 0, 1) := by decide +kernel
theorem dX4_isEndRead_32 : decode cX4_isEndRead 32 = .ok (.iconst 4, 1) := by decide +kernel
theorem dX4_isEndRead_33 : decode cX4_isEndRead 33 = .ok (.iload_n 2, 1) := by decide +kernel
theorem dX4_isEndRead_34 : decode cX4_isEndRead 34 = .ok (.iadd, 1) := by decide +kernel
theorem dX4_isEndRead_35 : decode cX4_isEndRead 35 = .ok (.putfield 56, 3) := by decide +kernel
theorem dX4_isEndRead_38 : decode cX4_isEndRead 38 = .ok (.goto 73, 3) := by decide +kernel
theorem dX4_isEndRead_41 : decode cX4_isEndRead 41 = .ok (.aload_n 0, 1) := by decide +kernel
theorem dX4_isEndRead_42 : decode cX4_isEndRead 42 = .ok (.ldc 59, 2) := by decide +kernel
theorem dX4_isEndRead_44 : decode cX4_isEndRead 44 = .ok (.invokevirtual 35, 3) := by decide +kernel
theorem dX4_isEndRead_47 : decode cX4_isEndRead 47 = .ok (.ifCond .eq 11, 3) := by decide +kernel
theorem dX4_isEndRead_50 : decode cX4_isEndRead 50 = .ok (.aload_n 0, 1) := by decide +kernel
theorem dX4_isEndRead_51 : decode cX4_isEndRead 51 = .ok (.iconst 0, 1) := by decide +kernel
theorem dX4_isEndRead_52 : decode cX4_isEndRead 52 = .ok (.putfield 56, 3) := by decide +kernel
theorem dX4_isEndRead_55 : decode cX4_isEndRead 55 = .ok (.goto 56, 3) := by decide +kernel
theorem dX4_isEndRead_58 : decode cX4_isEndRead 58 = .ok (.aload_n 0, 1) := by decide +kernel
theorem dX4_isEndRead_59 : decode cX4_isEndRead 59 = .ok (.ldc 61, 2) := by decide +kernel
theorem dX4_isEndRead_61 : decode cX4_isEndRead 61 = .ok (.invokevirtual 35, 3) := by decide +kernel
theorem dX4_isEndRead_64 : decode cX4_isEndRead 64 = .ok (.ifCond .eq 11, 3) := by decide +kernel
theorem dX4_isEndRead_67 : decode cX4_isEndRead 67 = .ok (.aload_n 0, 1) := by decide +kernel
theorem dX4_isEndRead_68 : decode cX4_isEndRead 68 = .ok (.iconst 1, 1) := by decide +kernel
theorem dX4_isEndRead_69 : decode cX4_isEndRead 69 = .ok (.putfield 56, 3) := by decide +kernel
theorem dX4_isEndRead_72 : decode cX4_isEndRead 72 = .ok (.goto 39, 3) := by decide +kernel
theorem dX4_isEndRead_75 : decode cX4_isEndRead 75 = .ok (.aload_n 0, 1) := by decide +kernel
theorem dX4_isEndRead_76 : decode cX4_isEndRead 76 = .ok (.ldc 63, 2) := by decide +kernel
theorem dX4_isEndRead_78 : decode cX4_isEndRead 78 = .ok (.invokevirtual 35, 3) := by decide +kernel
theorem dX4_isEndRead_81 : decode cX4_isEndRead 81 = .ok (.ifCond .eq 11, 3) := by decide +kernel
theorem dX4_isEndRead_84 : decode cX4_isEndRead 84 = .ok (.aload_n 0, 1) := by decide +kernel
theorem dX4_isEndRead_85 : decode cX4_isEndRead 85 = .ok (.iconst 2, 1) := by decide +kernel
theorem dX4_isEndRead_86 : decode cX4_isEndRead 86 = .ok (.putfield 56, 3) := by decide +kernel
theorem dX4_isEndRead_89 : decode cX4_isEndRead 89 = .ok (.goto 22, 3) := by decide +kernel
theorem dX4_isEndRead_92 : decode cX4_isEndRead 92 = .ok (.aload_n 0, 1) := by decide +kernel
theorem dX4_isEndRead_93 : decode cX4_isEndRead 93 = .ok (.ldc 65, 2) := by decide +kernel
theorem dX4_isEndRead_95 : decode cX4_isEndRead 95 = .ok (.invokevirtual 35, 3) := by decide +kernel
theorem dX4_isEndRead_98 : decode cX4_isEndRead 98 = .ok (.ifCond .eq 11, 3) := by decide +kernel
theorem dX4_isEndRead_101 : decode cX4_isEndRead 101 = .ok (.aload_n 0, 1) := by decide +kernel
theorem dX4_isEndRead_102 : decode cX4_isEndRead 102 = .ok (.iconst 3, 1) := by decide +kernel
theorem dX4_isEndRead_103 : decode cX4_isEndRead 103 = .ok (.putfield 56, 3) := by decide +kernel
theorem dX4_isEndRead_106 : decode cX4_isEndRead 106 = .ok (.goto 5, 3) := by decide +kernel
theorem dX4_isEndRead_109 : decode cX4_isEndRead 109 = .ok (.iconst 0, 1) := by decide +kernel
theorem dX4_isEndRead_110 : decode cX4_isEndRead 110 = .ok (.ireturn, 1) := by decide +kernel
theorem dX4_isEndRead_111 : decode cX4_isEndRead 111 = .ok (.aload_n 0, 1) := by decide +kernel
theorem dX4_isEndRead_112 : decode cX4_isEndRead 112 = .ok (.invokevirtual 19, 3) := by decide +kernel
theorem dX4_isEndRead_115 : decode cX4_isEndRead 115 = .ok (.iconst 1, 1) := by decide +kernel
theorem dX4_isEndRead_116 : decode cX4_isEndRead 116 = .ok (.ireturn, 1) := by decide +kernel
theorem dX4_areYearsRead_0 : decode cX4_areYearsRead 0 = .ok (.aload_n 0, 1) := by decide +kernel
theorem dX4_areYearsRead_1 : decode cX4_areYearsRead 1 = .ok (.iload_n 1, 1) := by decide +kernel
theorem dX4_areYearsRead_2 : decode cX4_areYearsRead 2 = .ok (.putfield 67, 3) := by decide +kernel
theorem dX4_areYearsRead_5 : decode cX4_areYearsRead 5 = .ok (.aload_n 0, 1) := by decide +kernel
theorem dX4_areYearsRead_6 : decode cX4_areYearsRead 6 = .ok (.sipush 200, 3) := by decide +kernel
theorem dX4_areYearsRead_9 : decode cX4_areYearsRead 9 = .ok (.putfield 70, 3) := by decide +kernel
theorem dX4_areYearsRead_12 : decode cX4_areYearsRead 12 = .ok (.aload_n 0, 1) := by decide +kernel
theorem dX4_areYearsRead_13 : decode cX4_areYearsRead 13 = .ok (.ldc 73, 2) := by decide +kernel
theorem dX4_areYearsRead_15 : decode cX4_areYearsRead 15 = .ok (.invokevirtual 35, 3) := by decide +kernel
theorem dX4_areYearsRead_18 : decode cX4_areYearsRead 18 = .ok (.ifCond .eq 35, 3) := by decide +kernel
theorem dX4_areYearsRead_21 : decode cX4_areYearsRead 21 = .ok (.aload_n 0, 1) := by decide +kernel
theorem dX4_areYearsRead_22 : decode cX4_areYearsRead 22 = .ok (.invokevirtual 19, 3) := by decide +kernel
theorem dX4_areYearsRead_25 : decode cX4_areYearsRead 25 = .ok (.aload_n 0, 1) := by decide +kernel
theorem dX4_areYearsRead_26 : decode cX4_areYearsRead 26 = .ok (.aload_n 0, 1) := by decide +kernel
theorem dX4_areYearsRead_27 : decode cX4_areYearsRead 27 = .ok (.invokevirtual 22, 3) := by decide +kernel
theorem dX4_areYearsRead_30 : decode cX4_areYearsRead 30 = .ok (.putfield 67, 3) := by decide +kernel
theorem dX4_areYearsRead_33 : decode cX4_areYearsRead 33 = .ok (.aload_n 0, 1) := by decide +kernel
theorem dX4_areYearsRead_34 : decode cX4_areYearsRead 34 = .ok (.getfield 67, 3) := by decide +kernel
theorem dX4_areYearsRead_37 : decode cX4_areYearsRead 37 = .ok (.iconst 0, 1) := by decide +kernel
theorem dX4_areYearsRead_38 : decode cX4_areYearsRead 38 = .ok (.sipush 200, 3) := by decide +kernel
theorem dX4_areYearsRead_41 : decode cX4_areYearsRead 41 = .ok (.invokestatic 29, 3) := by decide +kernel
theorem dX4_areYearsRead_44 : decode cX4_areYearsRead 44 = .ok (.ifCond .ne 5, 3) := by decide +kernel
theorem dX4_areYearsRead_47 : decode cX4_areYearsRead 47 = .ok (.iconst 0, 1) := by decide +kernel
theorem dX4_areYearsRead_48 : decode cX4_areYearsRead 48 = .ok (.ireturn, 1) := by decide +kernel
theorem dX4_areYearsRead_49 : decode cX4_areYearsRead 49 = .ok (.aload_n 0, 1) := by decide +kernel
theorem dX4_areYearsRead_50 : decode cX4_areYearsRead 50 = .ok (.invokevirtual 19, 3) := by decide +kernel
theorem dX4_areYearsRead_53 : decode cX4_areYearsRead 53 = .ok (.aload_n 0, 1) := by decide +kernel
theorem dX4_areYearsRead_54 : decode cX4_areYearsRead 54 = .ok (.ldc 74, 2) := by decide +kernel
theorem dX4_areYearsRead_56 : decode cX4_areYearsRead 56 = .ok (.invokevirtual 35, 3) := by decide +kernel
theorem dX4_areYearsRead_59 : decode cX4_areYearsRead 59 = .ok (.ifCond .eq 38, 3) := by decide +kernel
theorem dX4_areYearsRead_62 : decode cX4_areYearsRead 62 = .ok (.aload_n 0, 1) := by decide +kernel
theorem dX4_areYearsRead_63 : decode cX4_areYearsRead 63 = .ok (.invokevirtual 19, 3) := by decide +kernel
theorem dX4_areYearsRead_66 : decode cX4_areYearsRead 66 = .ok (.aload_n 0, 1) := by decide +kernel
theorem dX4_areYearsRead_67 : decode cX4_areYearsRead 67 = .ok (.aload_n 0, 1) := by decide +kernel
theorem dX4_areYearsRead_68 : decode cX4_areYearsRead 68 = .ok (.invokevirtual 22, 3) := by decide +kernel
theorem dX4_areYearsRead_71 : decode cX4_areYearsRead 71 = .ok (.putfield 70, 3) := by decide +kernel
theorem dX4_areYearsRead_74 : decode cX4_areYearsRead 74 = .ok (.aload_n 0, 1) := by decide +kernel
theorem dX4_areYearsRead_75 : decode cX4_areYearsRead 75 = .ok (.getfield 70, 3) := by decide +kernel
theorem dX4_areYearsRead_78 : decode cX4_areYearsRead 78 = .ok (.aload_n 0, 1) := by decide +kernel
theorem dX4_areYearsRead_79 : decode cX4_areYearsRead 79 = .ok (.getfield 67, 3) := by decide +kernel
theorem dX4_areYearsRead_82 : decode cX4_areYearsRead 82 = .ok (.sipush 200, 3) := by decide +kernel
theorem dX4_areYearsRead_85 : decode cX4_areYearsRead 85 = .ok (.invokestatic 29, 3) := by decide +kernel
theorem dX4_areYearsRead_88 : decode cX4_areYearsRead 88 = .ok (.ifCond .ne 5, 3) := by decide +kernel
theorem dX4_areYearsRead_91 : decode cX4_areYearsRead 91 = .ok (.iconst 0, 1) := by decide +kernel
theorem dX4_areYearsRead_92 : decode cX4_areYearsRead 92 = .ok (.ireturn, 1) := by decide +kernel
theorem dX4_areYearsRead_93 : decode cX4_areYearsRead 93 = .ok (.aload_n 0, 1) := by decide +kernel
theorem dX4_areYearsRead_94 : decode cX4_areYearsRead 94 = .ok (.invokevirtual 19, 3) := by decide +kernel
theorem dX4_areYearsRead_97 : decode cX4_areYearsRead 97 = .ok (.aload_n 0, 1) := by decide +kernel
theorem dX4_areYearsRead_98 : decode cX4_areYearsRead 98 = .ok (.aload_n 0, 1) := by decide +kernel
theorem dX4_areYearsRead_99 : decode cX4_areYearsRead 99 = .ok (.ldc 75, 2) := by decide +kernel
theorem dX4_areYearsRead_101 : decode cX4_areYearsRead 101 = .ok (.invokevirtual 35, 3) := by decide +kernel
theorem dX4_areYearsRead_104 : decode cX4_areYearsRead 104 = .ok (.ifCond .eq 7, 3) := by decide +kernel
theorem dX4_areYearsRead_107 : decode cX4_areYearsRead 107 = .ok (.iconst 1, 1) := by decide +kernel
theorem dX4_areYearsRead_108 : decode cX4_areYearsRead 108 = .ok (.goto 4, 3) := by decide +kernel
theorem dX4_areYearsRead_111 : decode cX4_areYearsRead 111 = .ok (.iconst 0, 1) := by decide +kernel
theorem dX4_areYearsRead_112 : decode cX4_areYearsRead 112 = .ok (.putfield 77, 3) := by decide +kernel
theorem dX4_areYearsRead_115 : decode cX4_areYearsRead 115 = .ok (.aload_n 0, 1) := by decide +kernel
theorem dX4_areYearsRead_116 : decode cX4_areYearsRead 116 = .ok (.getfield 77, 3) := by decide +kernel
theorem dX4_areYearsRead_119 : decode cX4_areYearsRead 119 = .ok (.iconst 1, 1) := by decide +kernel
theorem dX4_areYearsRead_120 : decode cX4_areYearsRead 120 = .ok (.if_icmp .ne 7, 3) := by decide +kernel
theorem dX4_areYearsRead_123 : decode cX4_areYearsRead 123 = .ok (.aload_n 0, 1) := by decide +kernel
theorem dX4_areYearsRead_124 : decode cX4_areYearsRead 124 = .ok (.invokevirtual 19, 3) := by decide +kernel
theorem dX4_areYearsRead_127 : decode cX4_areYearsRead 127 = .ok (.iconst 1, 1) := by decide +kernel
theorem dX4_areYearsRead_128 : decode cX4_areYearsRead 128 = .ok (.ireturn, 1) := by decide +kernel
theorem dX4_toNextWord_0 : decode cX4_toNextWord 0 = .ok (.aload_n 0, 1) := by decide +kernel
theorem dX4_toNextWord_1 : decode cX4_toNextWord 1 = .ok (.aload_n 0, 1) := by decide +kernel
theorem dX4_toNextWord_2 : decode cX4_toNextWord 2 = .ok (.getfield 15, 3) := by decide +kernel
theorem dX4_toNextWord_5 : decode cX4_toNextWord 5 = .ok (.putfield 46, 3) := by decide +kernel
theorem dX4_toNextWord_8 : decode cX4_toNextWord 8 = .ok (.aload_n 0, 1) := by decide +kernel
theorem dX4_toNextWord_9 : decode cX4_toNextWord 9 = .ok (.getfield 46, 3) := by decide +kernel
theorem dX4_toNextWord_12 : decode cX4_toNextWord 12 = .ok (.aload_n 0, 1) := by decide +kernel
theorem dX4_toNextWord_13 : decode cX4_toNextWord 13 = .ok (.getfield 9, 3) := by decide +kernel
theorem dX4_toNextWord_16 : decode cX4_toNextWord 16 = .ok (.getfield 49, 3) := by decide +kernel
theorem dX4_toNextWord_19 : decode cX4_toNextWord 19 = .ok (.if_icmp .ge 33, 3) := by decide +kernel
theorem dX4_toNextWord_22 : decode cX4_toNextWord 22 = .ok (.aload_n 0, 1) := by decide +kernel
theorem dX4_toNextWord_23 : decode cX4_toNextWord 23 = .ok (.getfield 9, 3) := by decide +kernel
theorem dX4_toNextWord_26 : decode cX4_toNextWord 26 = .ok (.getfield 79, 3) := by decide +kernel
theorem dX4_toNextWord_29 : decode cX4_toNextWord 29 = .ok (.aload_n 0, 1) := by decide +kernel
theorem dX4_toNextWord_30 : decode cX4_toNextWord 30 = .ok (.getfield 46, 3) := by decide +kernel
theorem dX4_toNextWord_33 : decode cX4_toNextWord 33 = .ok (.baload, 1) := by decide +kernel
theorem dX4_toNextWord_34 : decode cX4_toNextWord 34 = .ok (.bipush 32, 2) := by decide +kernel
theorem dX4_toNextWord_36 : decode cX4_toNextWord 36 = .ok (.if_icmp .ne 16, 3) := by decide +kernel
theorem dX4_toNextWord_39 : decode cX4_toNextWord 39 = .ok (.aload_n 0, 1) := by decide +kernel
theorem dX4_toNextWord_40 : decode cX4_toNextWord 40 = .ok (.dup, 1) := by decide +kernel
theorem dX4_toNextWord_41 : decode cX4_toNextWord 41 = .ok (.getfield 46, 3) := by decide +kernel
theorem dX4_toNextWord_44 : decode cX4_toNextWord 44 = .ok (.iconst 1, 1) := by decide +kernel
theorem dX4_toNextWord_45 : decode cX4_toNextWord 45 = .ok (.iadd, 1) := by decide +kernel
theorem dX4_toNextWord_46 : decode cX4_toNextWord 46 = .ok (.putfield 46, 3) := by decide +kernel
theorem dX4_toNextWord_49 : decode cX4_toNextWord 49 = .ok (.goto (-41), 3) := by decide +kernel
theorem dX4_toNextWord_52 : decode cX4_toNextWord 52 = .ok (.aload_n 0, 1) := by decide +kernel
theorem dX4_toNextWord_53 : decode cX4_toNextWord 53 = .ok (.aload_n 0, 1) := by decide +kernel
theorem dX4_toNextWord_54 : decode cX4_toNextWord 54 = .ok (.getfield 46, 3) := by decide +kernel
theorem dX4_toNextWord_57 : decode cX4_toNextWord 57 = .ok (.putfield 15, 3) := by decide +kernel
theorem dX4_toNextWord_60 : decode cX4_toNextWord 60 = .ok (.aload_n 0, 1) := by decide +kernel
theorem dX4_toNextWord_61 : decode cX4_toNextWord 61 = .ok (.getfield 15, 3) := by decide +kernel
theorem dX4_toNextWord_64 : decode cX4_toNextWord 64 = .ok (.aload_n 0, 1) := by decide +kernel
theorem dX4_toNextWord_65 : decode cX4_toNextWord 65 = .ok (.getfield 9, 3) := by decide +kernel
theorem dX4_toNextWord_68 : decode cX4_toNextWord 68 = .ok (.getfield 49, 3) := by decide +kernel
theorem dX4_toNextWord_71 : decode cX4_toNextWord 71 = .ok (.if_icmp .ge 33, 3) := by decide +kernel
theorem dX4_toNextWord_74 : decode cX4_toNextWord 74 = .ok (.aload_n 0, 1) := by decide +kernel
theorem dX4_toNextWord_75 : decode cX4_toNextWord 75 = .ok (.getfield 9, 3) := by decide +kernel
theorem dX4_toNextWord_78 : decode cX4_toNextWord 78 = .ok (.getfield 79, 3) := by decide +kernel
theorem dX4_toNextWord_81 : decode cX4_toNextWord 81 = .ok (.aload_n 0, 1) := by decide +kernel
theorem dX4_toNextWord_82 : decode cX4_toNextWord 82 = .ok (.getfield 15, 3) := by decide +kernel
theorem dX4_toNextWord_85 : decode cX4_toNextWord 85 = .ok (.baload, 1) := by decide +kernel
theorem dX4_toNextWord_86 : decode cX4_toNextWord 86 = .ok (.bipush 32, 2) := by decide +kernel
theorem dX4_toNextWord_88 : decode cX4_toNextWord 88 = .ok (.if_icmp .eq 16, 3) := by decide +kernel
theorem dX4_toNextWord_91 : decode cX4_toNextWord 91 = .ok (.aload_n 0, 1) := by decide +kernel
theorem dX4_toNextWord_92 : decode cX4_toNextWord 92 = .ok (.dup, 1) := by decide +kernel
theorem dX4_toNextWord_93 : decode cX4_toNextWord 93 = .ok (.getfield 15, 3) := by decide +kernel
theorem dX4_toNextWord_96 : decode cX4_toNextWord 96 = .ok (.iconst 1, 1) := by decide +kernel
theorem dX4_toNextWord_97 : decode cX4_toNextWord 97 = .ok (.iadd, 1) := by decide +kernel
theorem dX4_toNextWord_98 : decode cX4_toNextWord 98 = .ok (.putfield 15, 3) := by decide +kernel
theorem dX4_toNextWord_101 : decode cX4_toNextWord 101 = .ok (.goto (-41), 3) := by decide +kernel
theorem dX4_toNextWord_104 : decode cX4_toNextWord 104 = .ok (.return_, 1) := by decide +kernel
theorem dX4_isWord_0 : decode cX4_isWord 0 = .ok (.aload_n 0, 1) := by decide +kernel
theorem dX4_isWord_1 : decode cX4_isWord 1 = .ok (.getfield 15, 3) := by decide +kernel
theorem dX4_isWord_4 : decode cX4_isWord 4 = .ok (.aload_n 0, 1) := by decide +kernel
theorem dX4_isWord_5 : decode cX4_isWord 5 = .ok (.getfield 46, 3) := by decide +kernel
theorem dX4_isWord_8 : decode cX4_isWord 8 = .ok (.isub, 1) := by decide +kernel
theorem dX4_isWord_9 : decode cX4_isWord 9 = .ok (.aload_n 1, 1) := by decide +kernel
theorem dX4_isWord_10 : decode cX4_isWord 10 = .ok (.invokevirtual 83, 3) := by decide +kernel
theorem dX4_isWord_13 : decode cX4_isWord 13 = .ok (.if_icmp .eq 5, 3) := by decide +kernel
theorem dX4_isWord_16 : decode cX4_isWord 16 = .ok (.iconst 0, 1) := by decide +kernel
theorem dX4_isWord_17 : decode cX4_isWord 17 = .ok (.ireturn, 1) := by decide +kernel
theorem dX4_isWord_18 : decode cX4_isWord 18 = .ok (.iconst 0, 1) := by decide +kernel
theorem dX4_isWord_19 : decode cX4_isWord 19 = .ok (.istore_n 2, 1) := by decide +kernel
theorem dX4_isWord_20 : decode cX4_isWord 20 = .ok (.iload_n 2, 1) := by decide +kernel
theorem dX4_isWord_21 : decode cX4_isWord 21 = .ok (.aload_n 1, 1) := by decide +kernel
theorem dX4_isWord_22 : decode cX4_isWord 22 = .ok (.invokevirtual 83, 3) := by decide +kernel
theorem dX4_isWord_25 : decode cX4_isWord 25 = .ok (.if_icmp .ge 33, 3) := by decide +kernel
theorem dX4_isWord_28 : decode cX4_isWord 28 = .ok (.aload_n 0, 1) := by decide +kernel
theorem dX4_isWord_29 : decode cX4_isWord 29 = .ok (.getfield 9, 3) := by decide +kernel
theorem dX4_isWord_32 : decode cX4_isWord 32 = .ok (.getfield 79, 3) := by decide +kernel
theorem dX4_isWord_35 : decode cX4_isWord 35 = .ok (.aload_n 0, 1) := by decide +kernel
theorem dX4_isWord_36 : decode cX4_isWord 36 = .ok (.getfield 46, 3) := by decide +kernel
theorem dX4_isWord_39 : decode cX4_isWord 39 = .ok (.iload_n 2, 1) := by decide +kernel
theorem dX4_isWord_40 : decode cX4_isWord 40 = .ok (.iadd, 1) := by decide +kernel
theorem dX4_isWord_41 : decode cX4_isWord 41 = .ok (.baload, 1) := by decide +kernel
theorem dX4_isWord_42 : decode cX4_isWord 42 = .ok (.aload_n 1, 1) := by decide +kernel
theorem dX4_isWord_43 : decode cX4_isWord 43 = .ok (.iload_n 2, 1) := by decide +kernel
theorem dX4_isWord_44 : decode cX4_isWord 44 = .ok (.invokevirtual 88, 3) := by decide +kernel
theorem dX4_isWord_47 : decode cX4_isWord 47 = .ok (.if_icmp .eq 5, 3) := by decide +kernel
theorem dX4_isWord_50 : decode cX4_isWord 50 = .ok (.iconst 0, 1) := by decide +kernel
theorem dX4_isWord_51 : decode cX4_isWord 51 = .ok (.ireturn, 1) := by decide +kernel
theorem dX4_isWord_52 : decode cX4_isWord 52 = .ok (.iinc 2 1, 3) := by decide +kernel
theorem dX4_isWord_55 : decode cX4_isWord 55 = .ok (.goto (-35), 3) := by decide +kernel
theorem dX4_isWord_58 : decode cX4_isWord 58 = .ok (.iconst 1, 1) := by decide +kernel
theorem dX4_isWord_59 : decode cX4_isWord 59 = .ok (.ireturn, 1) := by decide +kernel
theorem dX4_number_0 : decode cX4_number 0 = .ok (.aload_n 0, 1) := by decide +kernel
theorem dX4_number_1 : decode cX4_number 1 = .ok (.getfield 46, 3) := by decide +kernel
theorem dX4_number_4 : decode cX4_number 4 = .ok (.aload_n 0, 1) := by decide +kernel
theorem dX4_number_5 : decode cX4_number 5 = .ok (.getfield 15, 3) := by decide +kernel
theorem dX4_number_8 : decode cX4_number 8 = .ok (.if_icmp .ne 5, 3) := by decide +kernel
theorem dX4_number_11 : decode cX4_number 11 = .ok (.iconst (-1), 1) := by decide +kernel
theorem dX4_number_12 : decode cX4_number 12 = .ok (.ireturn, 1) := by decide +kernel
theorem dX4_number_13 : decode cX4_number 13 = .ok (.iconst 0, 1) := by decide +kernel
theorem dX4_number_14 : decode cX4_number 14 = .ok (.istore_n 1, 1) := by decide +kernel
theorem dX4_number_15 : decode cX4_number 15 = .ok (.aload_n 0, 1) := by decide +kernel
theorem dX4_number_16 : decode cX4_number 16 = .ok (.getfield 46, 3) := by decide +kernel
theorem dX4_number_19 : decode cX4_number 19 = .ok (.istore_n 2, 1) := by decide +kernel
theorem dX4_number_20 : decode cX4_number 20 = .ok (.iload_n 2, 1) := by decide +kernel
theorem dX4_number_21 : decode cX4_number 21 = .ok (.aload_n 0, 1) := by decide +kernel
theorem dX4_number_22 : decode cX4_number 22 = .ok (.getfield 15, 3) := by decide +kernel
theorem dX4_number_25 : decode cX4_number 25 = .ok (.if_icmp .ge 47, 3) := by decide +kernel
theorem dX4_number_28 : decode cX4_number 28 = .ok (.aload_n 0, 1) := by decide +kernel
theorem dX4_number_29 : decode cX4_number 29 = .ok (.getfield 9, 3) := by decide +kernel
theorem dX4_number_32 : decode cX4_number 32 = .ok (.getfield 79, 3) := by decide +kernel
theorem dX4_number_35 : decode cX4_number 35 = .ok (.iload_n 2, 1) := by decide +kernel
theorem dX4_number_36 : decode cX4_number 36 = .ok (.baload, 1) := by decide +kernel
theorem dX4_number_37 : decode cX4_number 37 = .ok (.bipush 48, 2) := by decide +kernel
theorem dX4_number_39 : decode cX4_number 39 = .ok (.isub, 1) := by decide +kernel
theorem dX4_number_40 : decode cX4_number 40 = .ok (.istore_n 3, 1) := by decide +kernel
theorem dX4_number_41 : decode cX4_number 41 = .ok (.iload_n 3, 1) := by decide +kernel
theorem dX4_number_42 : decode cX4_number 42 = .ok (.iconst 0, 1) := by decide +kernel
theorem dX4_number_43 : decode cX4_number 43 = .ok (.bipush 9, 2) := by decide +kernel
theorem dX4_number_45 : decode cX4_number 45 = .ok (.invokestatic 29, 3) := by decide +kernel
theorem dX4_number_48 : decode cX4_number 48 = .ok (.ifCond .ne 5, 3) := by decide +kernel
theorem dX4_number_51 : decode cX4_number 51 = .ok (.iconst (-1), 1) := by decide +kernel
theorem dX4_number_52 : decode cX4_number 52 = .ok (.ireturn, 1) := by decide +kernel
theorem dX4_number_53 : decode cX4_number 53 = .ok (.bipush 10, 2) := by decide +kernel
theorem dX4_number_55 : decode cX4_number 55 = .ok (.iload_n 1, 1) := by decide +kernel
theorem dX4_number_56 : decode cX4_number 56 = .ok (.imul, 1) := by decide +kernel
theorem dX4_number_57 : decode cX4_number 57 = .ok (.iload_n 3, 1) := by decide +kernel
theorem dX4_number_58 : decode cX4_number 58 = .ok (.iadd, 1) := by decide +kernel
theorem dX4_number_59 : decode cX4_number 59 = .ok (.sipush 10000, 3) := by decide +kernel
theorem dX4_number_62 : decode cX4_number 62 = .ok (.invokestatic 92, 3) := by decide +kernel
theorem dX4_number_65 : decode cX4_number 65 = .ok (.istore_n 1, 1) := by decide +kernel
theorem dX4_number_66 : decode cX4_number 66 = .ok (.iinc 2 1, 3) := by decide +kernel
theorem dX4_number_69 : decode cX4_number 69 = .ok (.goto (-49), 3) := by decide +kernel
theorem dX4_number_72 : decode cX4_number 72 = .ok (.iload_n 1, 1) := by decide +kernel
theorem dX4_number_73 : decode cX4_number 73 = .ok (.ireturn, 1) := by decide +kernel
theorem dX5_init_0 : decode cX5_init 0 = .ok (.aload_n 0, 1) := by decide +kernel
theorem dX5_init_1 : decode cX5_init 1 = .ok (.invokespecial 3, 3) := by decide +kernel
theorem dX5_init_4 : decode cX5_init 4 = .ok (.aload_n 0, 1) := by decide +kernel
theorem dX5_init_5 : decode cX5_init 5 = .ok (.bipush 12, 2) := by decide +kernel
theorem dX5_init_7 : decode cX5_init 7 = .ok (.newarray .int, 2) := by decide +kernel
theorem dX5_init_9 : decode cX5_init 9 = .ok (.putfield 9, 3) := by decide +kernel
theorem dX5_init_12 : decode cX5_init 12 = .ok (.return_, 1) := by decide +kernel
theorem dX5_isOpen_0 : decode cX5_isOpen 0 = .ok (.iload_n 1, 1) := by decide +kernel
theorem dX5_isOpen_1 : decode cX5_isOpen 1 = .ok (.aload_n 0, 1) := by decide +kernel
theorem dX5_isOpen_2 : decode cX5_isOpen 2 = .ok (.getfield 15, 3) := by decide +kernel
theorem dX5_isOpen_5 : decode cX5_isOpen 5 = .ok (.if_icmp .lt 15, 3) := by decide +kernel
theorem dX5_isOpen_8 : decode cX5_isOpen 8 = .ok (.iload_n 1, 1) := by decide +kernel
theorem dX5_isOpen_9 : decode cX5_isOpen 9 = .ok (.aload_n 0, 1) := by decide +kernel
theorem dX5_isOpen_10 : decode cX5_isOpen 10 = .ok (.getfield 19, 3) := by decide +kernel
theorem dX5_isOpen_13 : decode cX5_isOpen 13 = .ok (.if_icmp .gt 7, 3) := by decide +kernel
theorem dX5_isOpen_16 : decode cX5_isOpen 16 = .ok (.iconst 1, 1) := by decide +kernel
theorem dX5_isOpen_17 : decode cX5_isOpen 17 = .ok (.goto 4, 3) := by decide +kernel
theorem dX5_isOpen_20 : decode cX5_isOpen 20 = .ok (.iconst 0, 1) := by decide +kernel
theorem dX5_isOpen_21 : decode cX5_isOpen 21 = .ok (.ireturn, 1) := by decide +kernel
theorem dX5_isDue_0 : decode cX5_isDue 0 = .ok (.iload_n 1, 1) := by decide +kernel
theorem dX5_isDue_1 : decode cX5_isDue 1 = .ok (.aload_n 0, 1) := by decide +kernel
theorem dX5_isDue_2 : decode cX5_isDue 2 = .ok (.getfield 15, 3) := by decide +kernel
theorem dX5_isDue_5 : decode cX5_isDue 5 = .ok (.if_icmp .eq 19, 3) := by decide +kernel
theorem dX5_isDue_8 : decode cX5_isDue 8 = .ok (.aload_n 0, 1) := by decide +kernel
theorem dX5_isDue_9 : decode cX5_isDue 9 = .ok (.getfield 22, 3) := by decide +kernel
theorem dX5_isDue_12 : decode cX5_isDue 12 = .ok (.iconst 1, 1) := by decide +kernel
theorem dX5_isDue_13 : decode cX5_isDue 13 = .ok (.if_icmp .ne 15, 3) := by decide +kernel
theorem dX5_isDue_16 : decode cX5_isDue 16 = .ok (.aload_n 0, 1) := by decide +kernel
theorem dX5_isDue_17 : decode cX5_isDue 17 = .ok (.iload_n 1, 1) := by decide +kernel
theorem dX5_isDue_18 : decode cX5_isDue 18 = .ok (.invokevirtual 25, 3) := by decide +kernel
theorem dX5_isDue_21 : decode cX5_isDue 21 = .ok (.ifCond .eq 7, 3) := by decide +kernel
theorem dX5_isDue_24 : decode cX5_isDue 24 = .ok (.iconst 1, 1) := by decide +kernel
theorem dX5_isDue_25 : decode cX5_isDue 25 = .ok (.goto 4, 3) := by decide +kernel
theorem dX5_isDue_28 : decode cX5_isDue 28 = .ok (.iconst 0, 1) := by decide +kernel
theorem dX5_isDue_29 : decode cX5_isDue 29 = .ok (.ireturn, 1) := by decide +kernel
theorem dX5_canPay_0 : decode cX5_canPay 0 = .ok (.aload_n 0, 1) := by decide +kernel
theorem dX5_canPay_1 : decode cX5_canPay 1 = .ok (.getfield 29, 3) := by decide +kernel
theorem dX5_canPay_4 : decode cX5_canPay 4 = .ok (.ifCond .le 23, 3) := by decide +kernel
theorem dX5_canPay_7 : decode cX5_canPay 7 = .ok (.aload_n 0, 1) := by decide +kernel
theorem dX5_canPay_8 : decode cX5_canPay 8 = .ok (.iload_n 2, 1) := by decide +kernel
theorem dX5_canPay_9 : decode cX5_canPay 9 = .ok (.invokevirtual 25, 3) := by decide +kernel
theorem dX5_canPay_12 : decode cX5_canPay 12 = .ok (.ifCond .eq 15, 3) := by decide +kernel
theorem dX5_canPay_15 : decode cX5_canPay 15 = .ok (.aload_n 0, 1) := by decide +kernel
theorem dX5_canPay_16 : decode cX5_canPay 16 = .ok (.iload_n 1, 1) := by decide +kernel
theorem dX5_canPay_17 : decode cX5_canPay 17 = .ok (.invokevirtual 32, 3) := by decide +kernel
theorem dX5_canPay_20 : decode cX5_canPay 20 = .ok (.ifCond .eq 7, 3) := by decide +kernel
theorem dX5_canPay_23 : decode cX5_canPay 23 = .ok (.iconst 1, 1) := by decide +kernel
theorem dX5_canPay_24 : decode cX5_canPay 24 = .ok (.goto 4, 3) := by decide +kernel
theorem dX5_canPay_27 : decode cX5_canPay 27 = .ok (.iconst 0, 1) := by decide +kernel
theorem dX5_canPay_28 : decode cX5_canPay 28 = .ok (.ireturn, 1) := by decide +kernel
theorem dX5_serves_0 : decode cX5_serves 0 = .ok (.aload_n 0, 1) := by decide +kernel
theorem dX5_serves_1 : decode cX5_serves 1 = .ok (.getfield 35, 3) := by decide +kernel
theorem dX5_serves_4 : decode cX5_serves 4 = .ok (.tableswitch 66 0 3 #[32, 34, 45, 55], 32) := by decide +kernel
theorem dX5_serves_36 : decode cX5_serves 36 = .ok (.iconst 1, 1) := by decide +kernel
theorem dX5_serves_37 : decode cX5_serves 37 = .ok (.ireturn, 1) := by decide +kernel
theorem dX5_serves_38 : decode cX5_serves 38 = .ok (.iload_n 1, 1) := by decide +kernel
theorem dX5_serves_39 : decode cX5_serves 39 = .ok (.iconst 2, 1) := by decide +kernel
theorem dX5_serves_40 : decode cX5_serves 40 = .ok (.if_icmp .lt 7, 3) := by decide +kernel
theorem dX5_serves_43 : decode cX5_serves 43 = .ok (.iconst 1, 1) := by decide +kernel
theorem dX5_serves_44 : decode cX5_serves 44 = .ok (.goto 4, 3) := by decide +kernel
theorem dX5_serves_47 : decode cX5_serves 47 = .ok (.iconst 0, 1) := by decide +kernel
theorem dX5_serves_48 : decode cX5_serves 48 = .ok (.ireturn, 1) := by decide +kernel
theorem dX5_serves_49 : decode cX5_serves 49 = .ok (.iload_n 1, 1) := by decide +kernel
theorem dX5_serves_50 : decode cX5_serves 50 = .ok (.ifCond .ne 7, 3) := by decide +kernel
theorem dX5_serves_53 : decode cX5_serves 53 = .ok (.iconst 1, 1) := by decide +kernel
theorem dX5_serves_54 : decode cX5_serves 54 = .ok (.goto 4, 3) := by decide +kernel
theorem dX5_serves_57 : decode cX5_serves 57 = .ok (.iconst 0, 1) := by decide +kernel
theorem dX5_serves_58 : decode cX5_serves 58 = .ok (.ireturn, 1) := by decide +kernel
theorem dX5_serves_59 : decode cX5_serves 59 = .ok (.iload_n 1, 1) := by decide +kernel
theorem dX5_serves_60 : decode cX5_serves 60 = .ok (.iconst 1, 1) := by decide +kernel
theorem dX5_serves_61 : decode cX5_serves 61 = .ok (.if_icmp .ne 7, 3) := by decide +kernel
theorem dX5_serves_64 : decode cX5_serves 64 = .ok (.iconst 1, 1) := by decide +kernel
theorem dX5_serves_65 : decode cX5_serves 65 = .ok (.goto 4, 3) := by decide +kernel
theorem dX5_serves_68 : decode cX5_serves 68 = .ok (.iconst 0, 1) := by decide +kernel
theorem dX5_serves_69 : decode cX5_serves 69 = .ok (.ireturn, 1) := by decide +kernel
theorem dX5_serves_70 : decode cX5_serves 70 = .ok (.iload_n 1, 1) := by decide +kernel
theorem dX5_serves_71 : decode cX5_serves 71 = .ok (.iconst 2, 1) := by decide +kernel
theorem dX5_serves_72 : decode cX5_serves 72 = .ok (.isub, 1) := by decide +kernel
theorem dX5_serves_73 : decode cX5_serves 73 = .ok (.aload_n 0, 1) := by decide +kernel
theorem dX5_serves_74 : decode cX5_serves 74 = .ok (.getfield 35, 3) := by decide +kernel
theorem dX5_serves_77 : decode cX5_serves 77 = .ok (.iconst 4, 1) := by decide +kernel
theorem dX5_serves_78 : decode cX5_serves 78 = .ok (.isub, 1) := by decide +kernel
theorem dX5_serves_79 : decode cX5_serves 79 = .ok (.if_icmp .ne 7, 3) := by decide +kernel
theorem dX5_serves_82 : decode cX5_serves 82 = .ok (.iconst 1, 1) := by decide +kernel
theorem dX5_serves_83 : decode cX5_serves 83 = .ok (.goto 4, 3) := by decide +kernel
theorem dX5_serves_86 : decode cX5_serves 86 = .ok (.iconst 0, 1) := by decide +kernel
theorem dX5_serves_87 : decode cX5_serves 87 = .ok (.ireturn, 1) := by decide +kernel
theorem dX5_breadth_0 : decode cX5_breadth 0 = .ok (.aload_n 0, 1) := by decide +kernel
theorem dX5_breadth_1 : decode cX5_breadth 1 = .ok (.getfield 35, 3) := by decide +kernel
theorem dX5_breadth_4 : decode cX5_breadth 4 = .ok (.tableswitch 40 0 3 #[32, 38, 36, 34], 32) := by decide +kernel
theorem dX5_breadth_36 : decode cX5_breadth 36 = .ok (.iconst 4, 1) := by decide +kernel
theorem dX5_breadth_37 : decode cX5_breadth 37 = .ok (.ireturn, 1) := by decide +kernel
theorem dX5_breadth_38 : decode cX5_breadth 38 = .ok (.iconst 3, 1) := by decide +kernel
theorem dX5_breadth_39 : decode cX5_breadth 39 = .ok (.ireturn, 1) := by decide +kernel
theorem dX5_breadth_40 : decode cX5_breadth 40 = .ok (.iconst 2, 1) := by decide +kernel
theorem dX5_breadth_41 : decode cX5_breadth 41 = .ok (.ireturn, 1) := by decide +kernel
theorem dX5_breadth_42 : decode cX5_breadth 42 = .ok (.iconst 1, 1) := by decide +kernel
theorem dX5_breadth_43 : decode cX5_breadth 43 = .ok (.ireturn, 1) := by decide +kernel
theorem dX5_breadth_44 : decode cX5_breadth 44 = .ok (.iconst 0, 1) := by decide +kernel
theorem dX5_breadth_45 : decode cX5_breadth 45 = .ok (.ireturn, 1) := by decide +kernel
theorem dX5_paysAheadOf_0 : decode cX5_paysAheadOf 0 = .ok (.aload_n 0, 1) := by decide +kernel
theorem dX5_paysAheadOf_1 : decode cX5_paysAheadOf 1 = .ok (.invokevirtual 38, 3) := by decide +kernel
theorem dX5_paysAheadOf_4 : decode cX5_paysAheadOf 4 = .ok (.aload_n 1, 1) := by decide +kernel
theorem dX5_paysAheadOf_5 : decode cX5_paysAheadOf 5 = .ok (.invokevirtual 38, 3) := by decide +kernel
theorem dX5_paysAheadOf_8 : decode cX5_paysAheadOf 8 = .ok (.if_icmp .lt 25, 3) := by decide +kernel
theorem dX5_paysAheadOf_11 : decode cX5_paysAheadOf 11 = .ok (.aload_n 0, 1) := by decide +kernel
theorem dX5_paysAheadOf_12 : decode cX5_paysAheadOf 12 = .ok (.invokevirtual 38, 3) := by decide +kernel
theorem dX5_paysAheadOf_15 : decode cX5_paysAheadOf 15 = .ok (.aload_n 1, 1) := by decide +kernel
theorem dX5_paysAheadOf_16 : decode cX5_paysAheadOf 16 = .ok (.invokevirtual 38, 3) := by decide +kernel
theorem dX5_paysAheadOf_19 : decode cX5_paysAheadOf 19 = .ok (.if_icmp .ne 18, 3) := by decide +kernel
theorem dX5_paysAheadOf_22 : decode cX5_paysAheadOf 22 = .ok (.aload_n 0, 1) := by decide +kernel
theorem dX5_paysAheadOf_23 : decode cX5_paysAheadOf 23 = .ok (.getfield 19, 3) := by decide +kernel
theorem dX5_paysAheadOf_26 : decode cX5_paysAheadOf 26 = .ok (.aload_n 1, 1) := by decide +kernel
theorem dX5_paysAheadOf_27 : decode cX5_paysAheadOf 27 = .ok (.getfield 19, 3) := by decide +kernel
theorem dX5_paysAheadOf_30 : decode cX5_paysAheadOf 30 = .ok (.if_icmp .ge 7, 3) := by decide +kernel
theorem dX5_paysAheadOf_33 : decode cX5_paysAheadOf 33 = .ok (.iconst 1, 1) := by decide +kernel
theorem dX5_paysAheadOf_34 : decode cX5_paysAheadOf 34 = .ok (.goto 4, 3) := by decide +kernel
theorem dX5_paysAheadOf_37 : decode cX5_paysAheadOf 37 = .ok (.iconst 0, 1) := by decide +kernel
theorem dX5_paysAheadOf_38 : decode cX5_paysAheadOf 38 = .ok (.ireturn, 1) := by decide +kernel
theorem dX5_receive_0 : decode cX5_receive 0 = .ok (.aload_n 0, 1) := by decide +kernel
theorem dX5_receive_1 : decode cX5_receive 1 = .ok (.dup, 1) := by decide +kernel
theorem dX5_receive_2 : decode cX5_receive 2 = .ok (.getfield 29, 3) := by decide +kernel
theorem dX5_receive_5 : decode cX5_receive 5 = .ok (.iload_n 1, 1) := by decide +kernel
theorem dX5_receive_6 : decode cX5_receive 6 = .ok (.iadd, 1) := by decide +kernel
theorem dX5_receive_7 : decode cX5_receive 7 = .ok (.putfield 29, 3) := by decide +kernel
theorem dX5_receive_10 : decode cX5_receive 10 = .ok (.aload_n 0, 1) := by decide +kernel
theorem dX5_receive_11 : decode cX5_receive 11 = .ok (.dup, 1) := by decide +kernel
theorem dX5_receive_12 : decode cX5_receive 12 = .ok (.getfield 42, 3) := by decide +kernel
theorem dX5_receive_15 : decode cX5_receive 15 = .ok (.iload_n 1, 1) := by decide +kernel
theorem dX5_receive_16 : decode cX5_receive 16 = .ok (.iadd, 1) := by decide +kernel
theorem dX5_receive_17 : decode cX5_receive 17 = .ok (.putfield 42, 3) := by decide +kernel
theorem dX5_receive_20 : decode cX5_receive 20 = .ok (.return_, 1) := by decide +kernel
theorem dX5_pay_0 : decode cX5_pay 0 = .ok (.aload_n 0, 1) := by decide +kernel
theorem dX5_pay_1 : decode cX5_pay 1 = .ok (.dup, 1) := by decide +kernel
theorem dX5_pay_2 : decode cX5_pay 2 = .ok (.getfield 29, 3) := by decide +kernel
theorem dX5_pay_5 : decode cX5_pay 5 = .ok (.iload_n 2, 1) := by decide +kernel
theorem dX5_pay_6 : decode cX5_pay 6 = .ok (.isub, 1) := by decide +kernel
theorem dX5_pay_7 : decode cX5_pay 7 = .ok (.putfield 29, 3) := by decide +kernel
theorem dX5_pay_10 : decode cX5_pay 10 = .ok (.aload_n 0, 1) := by decide +kernel
theorem dX5_pay_11 : decode cX5_pay 11 = .ok (.getfield 9, 3) := by decide +kernel
theorem dX5_pay_14 : decode cX5_pay 14 = .ok (.iload_n 1, 1) := by decide +kernel
theorem dX5_pay_15 : decode cX5_pay 15 = .ok (.dup2, 1) := by decide +kernel
theorem dX5_pay_16 : decode cX5_pay 16 = .ok (.iaload, 1) := by decide +kernel
theorem dX5_pay_17 : decode cX5_pay 17 = .ok (.iload_n 2, 1) := by decide +kernel
theorem dX5_pay_18 : decode cX5_pay 18 = .ok (.iadd, 1) := by decide +kernel
theorem dX5_pay_19 : decode cX5_pay 19 = .ok (.iastore, 1) := by decide +kernel
theorem dX5_pay_20 : decode cX5_pay 20 = .ok (.return_, 1) := by decide +kernel
theorem dX5_lapse_0 : decode cX5_lapse 0 = .ok (.aload_n 0, 1) := by decide +kernel
theorem dX5_lapse_1 : decode cX5_lapse 1 = .ok (.getfield 29, 3) := by decide +kernel
theorem dX5_lapse_4 : decode cX5_lapse 4 = .ok (.istore_n 1, 1) := by decide +kernel
theorem dX5_lapse_5 : decode cX5_lapse 5 = .ok (.aload_n 0, 1) := by decide +kernel
theorem dX5_lapse_6 : decode cX5_lapse 6 = .ok (.iconst 0, 1) := by decide +kernel
theorem dX5_lapse_7 : decode cX5_lapse 7 = .ok (.putfield 29, 3) := by decide +kernel
theorem dX5_lapse_10 : decode cX5_lapse 10 = .ok (.aload_n 0, 1) := by decide +kernel
theorem dX5_lapse_11 : decode cX5_lapse 11 = .ok (.dup, 1) := by decide +kernel
theorem dX5_lapse_12 : decode cX5_lapse 12 = .ok (.getfield 45, 3) := by decide +kernel
theorem dX5_lapse_15 : decode cX5_lapse 15 = .ok (.iload_n 1, 1) := by decide +kernel
theorem dX5_lapse_16 : decode cX5_lapse 16 = .ok (.iadd, 1) := by decide +kernel
theorem dX5_lapse_17 : decode cX5_lapse 17 = .ok (.putfield 45, 3) := by decide +kernel
theorem dX5_lapse_20 : decode cX5_lapse 20 = .ok (.iload_n 1, 1) := by decide +kernel
theorem dX5_lapse_21 : decode cX5_lapse 21 = .ok (.ireturn, 1) := by decide +kernel
theorem dX6_init_0 : decode cX6_init 0 = .ok (.aload_n 0, 1) := by decide +kernel
theorem dX6_init_1 : decode cX6_init 1 = .ok (.invokespecial 3, 3) := by decide +kernel
theorem dX6_init_4 : decode cX6_init 4 = .ok (.aload_n 0, 1) := by decide +kernel
theorem dX6_init_5 : decode cX6_init 5 = .ok (.sipush 1407, 3) := by decide +kernel
theorem dX6_init_8 : decode cX6_init 8 = .ok (.newarray .int, 2) := by decide +kernel
theorem dX6_init_10 : decode cX6_init 10 = .ok (.putfield 9, 3) := by decide +kernel
theorem dX6_init_13 : decode cX6_init 13 = .ok (.return_, 1) := by decide +kernel
theorem dX6_add_0 : decode cX6_add 0 = .ok (.aload_n 0, 1) := by decide +kernel
theorem dX6_add_1 : decode cX6_add 1 = .ok (.getfield 9, 3) := by decide +kernel
theorem dX6_add_4 : decode cX6_add 4 = .ok (.iload_n 1, 1) := by decide +kernel
theorem dX6_add_5 : decode cX6_add 5 = .ok (.bipush 7, 2) := by decide +kernel
theorem dX6_add_7 : decode cX6_add 7 = .ok (.imul, 1) := by decide +kernel
theorem dX6_add_8 : decode cX6_add 8 = .ok (.iload_n 2, 1) := by decide +kernel
theorem dX6_add_9 : decode cX6_add 9 = .ok (.iadd, 1) := by decide +kernel
theorem dX6_add_10 : decode cX6_add 10 = .ok (.dup2, 1) := by decide +kernel
theorem dX6_add_11 : decode cX6_add 11 = .ok (.iaload, 1) := by decide +kernel
theorem dX6_add_12 : decode cX6_add 12 = .ok (.iload_n 3, 1) := by decide +kernel
theorem dX6_add_13 : decode cX6_add 13 = .ok (.iadd, 1) := by decide +kernel
theorem dX6_add_14 : decode cX6_add 14 = .ok (.iastore, 1) := by decide +kernel
theorem dX6_add_15 : decode cX6_add 15 = .ok (.return_, 1) := by decide +kernel
theorem dX6_read_0 : decode cX6_read 0 = .ok (.aload_n 0, 1) := by decide +kernel
theorem dX6_read_1 : decode cX6_read 1 = .ok (.getfield 9, 3) := by decide +kernel
theorem dX6_read_4 : decode cX6_read 4 = .ok (.iload_n 1, 1) := by decide +kernel
theorem dX6_read_5 : decode cX6_read 5 = .ok (.bipush 7, 2) := by decide +kernel
theorem dX6_read_7 : decode cX6_read 7 = .ok (.imul, 1) := by decide +kernel
theorem dX6_read_8 : decode cX6_read 8 = .ok (.iload_n 2, 1) := by decide +kernel
theorem dX6_read_9 : decode cX6_read 9 = .ok (.iadd, 1) := by decide +kernel
theorem dX6_read_10 : decode cX6_read 10 = .ok (.iaload, 1) := by decide +kernel
theorem dX6_read_11 : decode cX6_read 11 = .ok (.ireturn, 1) := by decide +kernel
theorem dX7_init_0 : decode cX7_init 0 = .ok (.aload_n 0, 1) := by decide +kernel
theorem dX7_init_1 : decode cX7_init 1 = .ok (.invokespecial 3, 3) := by decide +kernel
theorem dX7_init_4 : decode cX7_init 4 = .ok (.aload_n 0, 1) := by decide +kernel
theorem dX7_init_5 : decode cX7_init 5 = .ok (.sipush 200, 3) := by decide +kernel
theorem dX7_init_8 : decode cX7_init 8 = .ok (.newarray .int, 2) := by decide +kernel
theorem dX7_init_10 : decode cX7_init 10 = .ok (.putfield 9, 3) := by decide +kernel
theorem dX7_init_13 : decode cX7_init 13 = .ok (.aload_n 0, 1) := by decide +kernel
theorem dX7_init_14 : decode cX7_init 14 = .ok (.iconst 1, 1) := by decide +kernel
theorem dX7_init_15 : decode cX7_init 15 = .ok (.putfield 15, 3) := by decide +kernel
theorem dX7_init_18 : decode cX7_init 18 = .ok (.return_, 1) := by decide +kernel
theorem dX7_begin_0 : decode cX7_begin 0 = .ok (.aload_n 0, 1) := by decide +kernel
theorem dX7_begin_1 : decode cX7_begin 1 = .ok (.iconst 0, 1) := by decide +kernel
theorem dX7_begin_2 : decode cX7_begin 2 = .ok (.putfield 15, 3) := by decide +kernel
theorem dX7_begin_5 : decode cX7_begin 5 = .ok (.aload_n 0, 1) := by decide +kernel
theorem dX7_begin_6 : decode cX7_begin 6 = .ok (.iload_n 1, 1) := by decide +kernel
theorem dX7_begin_7 : decode cX7_begin 7 = .ok (.putfield 19, 3) := by decide +kernel
theorem dX7_begin_10 : decode cX7_begin 10 = .ok (.aload_n 0, 1) := by decide +kernel
theorem dX7_begin_11 : decode cX7_begin 11 = .ok (.iload_n 2, 1) := by decide +kernel
theorem dX7_begin_12 : decode cX7_begin 12 = .ok (.putfield 23, 3) := by decide +kernel
theorem dX7_begin_15 : decode cX7_begin 15 = .ok (.iconst 0, 1) := by decide +kernel
theorem dX7_begin_16 : decode cX7_begin 16 = .ok (.istore_n 3, 1) := by decide +kernel
theorem dX7_begin_17 : decode cX7_begin 17 = .ok (.iload_n 3, 1) := by decide +kernel
theorem dX7_begin_18 : decode cX7_begin 18 = .ok (.sipush 200, 3) := by decide +kernel
theorem dX7_begin_21 : decode cX7_begin 21 = .ok (.if_icmp .ge 16, 3) := by decide +kernel
theorem dX7_begin_24 : decode cX7_begin 24 = .ok (.aload_n 0, 1) := by decide +kernel
theorem dX7_begin_25 : decode cX7_begin 25 = .ok (.getfield 9, 3) := by decide +kernel
theorem dX7_begin_28 : decode cX7_begin 28 = .ok (.iload_n 3, 1) := by decide +kernel
theorem dX7_begin_29 : decode cX7_begin 29 = .ok (.iconst 0, 1) := by decide +kernel
theorem dX7_begin_30 : decode cX7_begin 30 = .ok (.iastore, 1) := by decide +kernel
theorem dX7_begin_31 : decode cX7_begin 31 = .ok (.iinc 3 1, 3) := by decide +kernel
theorem dX7_begin_34 : decode cX7_begin 34 = .ok (.goto (-17), 3) := by decide +kernel
theorem dX7_begin_37 : decode cX7_begin 37 = .ok (.return_, 1) := by decide +kernel
theorem dX7_mostInPlace_0 : decode cX7_mostInPlace 0 = .ok (.aload_n 0, 1) := by decide +kernel
theorem dX7_mostInPlace_1 : decode cX7_mostInPlace 1 = .ok (.getfield 19, 3) := by decide +kernel
theorem dX7_mostInPlace_4 : decode cX7_mostInPlace 4 = .ok (.ifCond .ne 8, 3) := by decide +kernel
theorem dX7_mostInPlace_7 : decode cX7_mostInPlace 7 = .ok (.bipush 100, 2) := by decide +kernel
theorem dX7_mostInPlace_9 : decode cX7_mostInPlace 9 = .ok (.goto 6, 3) := by decide +kernel
theorem dX7_mostInPlace_12 : decode cX7_mostInPlace 12 = .ok (.sipush 1000, 3) := by decide +kernel
theorem dX7_mostInPlace_15 : decode cX7_mostInPlace 15 = .ok (.ireturn, 1) := by decide +kernel
theorem dX7_write_0 : decode cX7_write 0 = .ok (.aload_n 0, 1) := by decide +kernel
theorem dX7_write_1 : decode cX7_write 1 = .ok (.getfield 9, 3) := by decide +kernel
theorem dX7_write_4 : decode cX7_write 4 = .ok (.iload_n 1, 1) := by decide +kernel
theorem dX7_write_5 : decode cX7_write 5 = .ok (.iaload, 1) := by decide +kernel
theorem dX7_write_6 : decode cX7_write 6 = .ok (.istore_n 3, 1) := by decide +kernel
theorem dX7_write_7 : decode cX7_write 7 = .ok (.aload_n 0, 1) := by decide +kernel
theorem dX7_write_8 : decode cX7_write 8 = .ok (.getfield 9, 3) := by decide +kernel
theorem dX7_write_11 : decode cX7_write 11 = .ok (.iload_n 1, 1) := by decide +kernel
theorem dX7_write_12 : decode cX7_write 12 = .ok (.iload_n 2, 1) := by decide +kernel
theorem dX7_write_13 : decode cX7_write 13 = .ok (.iastore, 1) := by decide +kernel
theorem dX7_write_14 : decode cX7_write 14 = .ok (.iload_n 3, 1) := by decide +kernel
theorem dX7_write_15 : decode cX7_write 15 = .ok (.ireturn, 1) := by decide +kernel
theorem dX7_hasPlaces_0 : decode cX7_hasPlaces 0 = .ok (.iload_n 2, 1) := by decide +kernel
theorem dX7_hasPlaces_1 : decode cX7_hasPlaces 1 = .ok (.iconst 0, 1) := by decide +kernel
theorem dX7_hasPlaces_2 : decode cX7_hasPlaces 2 = .ok (.aload_n 0, 1) := by decide +kernel
theorem dX7_hasPlaces_3 : decode cX7_hasPlaces 3 = .ok (.getfield 23, 3) := by decide +kernel
theorem dX7_hasPlaces_6 : decode cX7_hasPlaces 6 = .ok (.invokestatic 26, 3) := by decide +kernel
theorem dX7_hasPlaces_9 : decode cX7_hasPlaces 9 = .ok (.ifCond .eq 21, 3) := by decide +kernel
theorem dX7_hasPlaces_12 : decode cX7_hasPlaces 12 = .ok (.iload_n 1, 1) := by decide +kernel
theorem dX7_hasPlaces_13 : decode cX7_hasPlaces 13 = .ok (.iconst 0, 1) := by decide +kernel
theorem dX7_hasPlaces_14 : decode cX7_hasPlaces 14 = .ok (.aload_n 0, 1) := by decide +kernel
theorem dX7_hasPlaces_15 : decode cX7_hasPlaces 15 = .ok (.getfield 23, 3) := by decide +kernel
theorem dX7_hasPlaces_18 : decode cX7_hasPlaces 18 = .ok (.iload_n 2, 1) := by decide +kernel
theorem dX7_hasPlaces_19 : decode cX7_hasPlaces 19 = .ok (.isub, 1) := by decide +kernel
theorem dX7_hasPlaces_20 : decode cX7_hasPlaces 20 = .ok (.invokestatic 26, 3) := by decide +kernel
theorem dX7_hasPlaces_23 : decode cX7_hasPlaces 23 = .ok (.ifCond .eq 7, 3) := by decide +kernel
theorem dX7_hasPlaces_26 : decode cX7_hasPlaces 26 = .ok (.iconst 1, 1) := by decide +kernel
theorem dX7_hasPlaces_27 : decode cX7_hasPlaces 27 = .ok (.goto 4, 3) := by decide +kernel
theorem dX7_hasPlaces_30 : decode cX7_hasPlaces 30 = .ok (.iconst 0, 1) := by decide +kernel
theorem dX7_hasPlaces_31 : decode cX7_hasPlaces 31 = .ok (.ireturn, 1) := by decide +kernel
theorem dX7_inYear_0 : decode cX7_inYear 0 = .ok (.aload_n 0, 1) := by decide +kernel
theorem dX7_inYear_1 : decode cX7_inYear 1 = .ok (.getfield 15, 3) := by decide +kernel
theorem dX7_inYear_4 : decode cX7_inYear 4 = .ok (.ifCond .ne 17, 3) := by decide +kernel
theorem dX7_inYear_7 : decode cX7_inYear 7 = .ok (.iload_n 1, 1) := by decide +kernel
theorem dX7_inYear_8 : decode cX7_inYear 8 = .ok (.iconst 0, 1) := by decide +kernel
theorem dX7_inYear_9 : decode cX7_inYear 9 = .ok (.aload_n 0, 1) := by decide +kernel
theorem dX7_inYear_10 : decode cX7_inYear 10 = .ok (.getfield 23, 3) := by decide +kernel
theorem dX7_inYear_13 : decode cX7_inYear 13 = .ok (.iconst 1, 1) := by decide +kernel
theorem dX7_inYear_14 : decode cX7_inYear 14 = .ok (.isub, 1) := by decide +kernel
theorem dX7_inYear_15 : decode cX7_inYear 15 = .ok (.invokestatic 26, 3) := by decide +kernel
theorem dX7_inYear_18 : decode cX7_inYear 18 = .ok (.ifCond .ne 7, 3) := by decide +kernel
theorem dX7_inYear_21 : decode cX7_inYear 21 = .ok (.iconst 0, 1) := by decide +kernel
theorem dX7_inYear_22 : decode cX7_inYear 22 = .ok (.goto 9, 3) := by decide +kernel
theorem dX7_inYear_25 : decode cX7_inYear 25 = .ok (.aload_n 0, 1) := by decide +kernel
theorem dX7_inYear_26 : decode cX7_inYear 26 = .ok (.getfield 9, 3) := by decide +kernel
theorem dX7_inYear_29 : decode cX7_inYear 29 = .ok (.iload_n 1, 1) := by decide +kernel
theorem dX7_inYear_30 : decode cX7_inYear 30 = .ok (.iaload, 1) := by decide +kernel
theorem dX7_inYear_31 : decode cX7_inYear 31 = .ok (.ireturn, 1) := by decide +kernel
theorem dX8_init_0 : decode cX8_init 0 = .ok (.aload_n 0, 1) := by decide +kernel
theorem dX8_init_1 : decode cX8_init 1 = .ok (.invokespecial 3, 3) := by decide +kernel
theorem dX8_init_4 : decode cX8_init 4 = .ok (.aload_n 0, 1) := by decide +kernel
theorem dX8_init_5 : decode cX8_init 5 = .ok (.bipush 48, 2) := by decide +kernel
theorem dX8_init_7 : decode cX8_init 7 = .ok (.newarray .byte, 2) := by decide +kernel
theorem dX8_init_9 : decode cX8_init 9 = .ok (.putfield 9, 3) := by decide +kernel
theorem dX8_init_12 : decode cX8_init 12 = .ok (.return_, 1) := by decide +kernel
theorem dX8_addNumber_0 : decode cX8_addNumber 0 = .ok (.bipush 24, 2) := by decide +kernel
theorem dX8_addNumber_2 : decode cX8_addNumber 2 = .ok (.istore_n 2, 1) := by decide +kernel
theorem dX8_addNumber_3 : decode cX8_addNumber 3 = .ok (.iload_n 2, 1) := by decide +kernel
theorem dX8_addNumber_4 : decode cX8_addNumber 4 = .ok (.ifCond .lt 41, 3) := by decide +kernel
theorem dX8_addNumber_7 : decode cX8_addNumber 7 = .ok (.aload_n 0, 1) := by decide +kernel
theorem dX8_addNumber_8 : decode cX8_addNumber 8 = .ok (.getfield 15, 3) := by decide +kernel
theorem dX8_addNumber_11 : decode cX8_addNumber 11 = .ok (.bipush 48, 2) := by decide +kernel
theorem dX8_addNumber_13 : decode cX8_addNumber 13 = .ok (.if_icmp .ge 32, 3) := by decide +kernel
theorem dX8_addNumber_16 : decode cX8_addNumber 16 = .ok (.aload_n 0, 1) := by decide +kernel
theorem dX8_addNumber_17 : decode cX8_addNumber 17 = .ok (.getfield 9, 3) := by decide +kernel
theorem dX8_addNumber_20 : decode cX8_addNumber 20 = .ok (.aload_n 0, 1) := by decide +kernel
theorem dX8_addNumber_21 : decode cX8_addNumber 21 = .ok (.getfield 15, 3) := by decide +kernel
theorem dX8_addNumber_24 : decode cX8_addNumber 24 = .ok (.iload_n 1, 1) := by decide +kernel
theorem dX8_addNumber_25 : decode cX8_addNumber 25 = .ok (.iload_n 2, 1) := by decide +kernel
theorem dX8_addNumber_26 : decode cX8_addNumber 26 = .ok (.ishr, 1) := by decide +kernel
theorem dX8_addNumber_27 : decode cX8_addNumber 27 = .ok (.i2b, 1) := by decide +kernel
theorem dX8_addNumber_28 : decode cX8_addNumber 28 = .ok (.bastore, 1) := by decide +kernel
theorem dX8_addNumber_29 : decode cX8_addNumber 29 = .ok (.aload_n 0, 1) := by decide +kernel
theorem dX8_addNumber_30 : decode cX8_addNumber 30 = .ok (.dup, 1) := by decide +kernel
theorem dX8_addNumber_31 : decode cX8_addNumber 31 = .ok (.getfield 15, 3) := by decide +kernel
theorem dX8_addNumber_34 : decode cX8_addNumber 34 = .ok (.iconst 1, 1) := by decide +kernel
theorem dX8_addNumber_35 : decode cX8_addNumber 35 = .ok (.iadd, 1) := by decide +kernel
theorem dX8_addNumber_36 : decode cX8_addNumber 36 = .ok (.putfield 15, 3) := by decide +kernel
theorem dX8_addNumber_39 : decode cX8_addNumber 39 = .ok (.iinc 2 (-8), 3) := by decide +kernel
theorem dX8_addNumber_42 : decode cX8_addNumber 42 = .ok (.goto (-39), 3) := by decide +kernel
theorem dX8_addNumber_45 : decode cX8_addNumber 45 = .ok (.return_, 1) := by decide +kernel
theorem dX9_init_0 : decode cX9_init 0 = .ok (.aload_n 0, 1) := by decide +kernel
theorem dX9_init_1 : decode cX9_init 1 = .ok (.invokespecial 3, 3) := by decide +kernel
theorem dX9_init_4 : decode cX9_init 4 = .ok (.aload_n 0, 1) := by decide +kernel
theorem dX9_init_5 : decode cX9_init 5 = .ok (.new 9, 3) := by decide +kernel
theorem dX9_init_8 : decode cX9_init 8 = .ok (.dup, 1) := by decide +kernel
theorem dX9_init_9 : decode cX9_init 9 = .ok (.invokespecial 11, 3) := by decide +kernel
theorem dX9_init_12 : decode cX9_init 12 = .ok (.putfield 12, 3) := by decide +kernel
theorem dX9_init_15 : decode cX9_init 15 = .ok (.aload_n 0, 1) := by decide +kernel
theorem dX9_init_16 : decode cX9_init 16 = .ok (.new 9, 3) := by decide +kernel
theorem dX9_init_19 : decode cX9_init 19 = .ok (.dup, 1) := by decide +kernel
theorem dX9_init_20 : decode cX9_init 20 = .ok (.invokespecial 11, 3) := by decide +kernel
theorem dX9_init_23 : decode cX9_init 23 = .ok (.putfield 16, 3) := by decide +kernel
theorem dX9_init_26 : decode cX9_init 26 = .ok (.aload_n 0, 1) := by decide +kernel
theorem dX9_init_27 : decode cX9_init 27 = .ok (.iconst 4, 1) := by decide +kernel
theorem dX9_init_28 : decode cX9_init 28 = .ok (.anewarray 19, 3) := by decide +kernel
theorem dX9_init_31 : decode cX9_init 31 = .ok (.putfield 21, 3) := by decide +kernel
theorem dX9_init_34 : decode cX9_init 34 = .ok (.aload_n 0, 1) := by decide +kernel
theorem dX9_init_35 : decode cX9_init 35 = .ok (.new 25, 3) := by decide +kernel
theorem dX9_init_38 : decode cX9_init 38 = .ok (.dup, 1) := by decide +kernel
theorem dX9_init_39 : decode cX9_init 39 = .ok (.invokespecial 27, 3) := by decide +kernel
theorem dX9_init_42 : decode cX9_init 42 = .ok (.putfield 28, 3) := by decide +kernel
theorem dX9_init_45 : decode cX9_init 45 = .ok (.aload_n 0, 1) := by decide +kernel
theorem dX9_init_46 : decode cX9_init 46 = .ok (.new 32, 3) := by decide +kernel
theorem dX9_init_49 : decode cX9_init 49 = .ok (.dup, 1) := by decide +kernel
theorem dX9_init_50 : decode cX9_init 50 = .ok (.aload_n 0, 1) := by decide +kernel
theorem dX9_init_51 : decode cX9_init 51 = .ok (.getfield 28, 3) := by decide +kernel
theorem dX9_init_54 : decode cX9_init 54 = .ok (.invokespecial 34, 3) := by decide +kernel
theorem dX9_init_57 : decode cX9_init 57 = .ok (.putfield 37, 3) := by decide +kernel
theorem dX9_init_60 : decode cX9_init 60 = .ok (.aload_n 0, 1) := by decide +kernel
theorem dX9_init_61 : decode cX9_init 61 = .ok (.new 41, 3) := by decide +kernel
theorem dX9_init_64 : decode cX9_init 64 = .ok (.dup, 1) := by decide +kernel
theorem dX9_init_65 : decode cX9_init 65 = .ok (.invokespecial 43, 3) := by decide +kernel
theorem dX9_init_68 : decode cX9_init 68 = .ok (.putfield 44, 3) := by decide +kernel
theorem dX9_init_71 : decode cX9_init 71 = .ok (.aload_n 0, 1) := by decide +kernel
theorem dX9_init_72 : decode cX9_init 72 = .ok (.new 48, 3) := by decide +kernel
theorem dX9_init_75 : decode cX9_init 75 = .ok (.dup, 1) := by decide +kernel
theorem dX9_init_76 : decode cX9_init 76 = .ok (.invokespecial 50, 3) := by decide +kernel
theorem dX9_init_79 : decode cX9_init 79 = .ok (.putfield 51, 3) := by decide +kernel
theorem dX9_init_82 : decode cX9_init 82 = .ok (.aload_n 0, 1) := by decide +kernel
theorem dX9_init_83 : decode cX9_init 83 = .ok (.new 55, 3) := by decide +kernel
theorem dX9_init_86 : decode cX9_init 86 = .ok (.dup, 1) := by decide +kernel
theorem dX9_init_87 : decode cX9_init 87 = .ok (.invokespecial 57, 3) := by decide +kernel
theorem dX9_init_90 : decode cX9_init 90 = .ok (.putfield 58, 3) := by decide +kernel
theorem dX9_init_93 : decode cX9_init 93 = .ok (.aload_n 0, 1) := by decide +kernel
theorem dX9_init_94 : decode cX9_init 94 = .ok (.bipush 6, 2) := by decide +kernel
theorem dX9_init_96 : decode cX9_init 96 = .ok (.newarray .int, 2) := by decide +kernel
theorem dX9_init_98 : decode cX9_init 98 = .ok (.putfield 62, 3) := by decide +kernel
theorem dX9_init_101 : decode cX9_init 101 = .ok (.iconst 0, 1) := by decide +kernel
theorem dX9_init_102 : decode cX9_init 102 = .ok (.istore_n 1, 1) := by decide +kernel
theorem dX9_init_103 : decode cX9_init 103 = .ok (.iload_n 1, 1) := by decide +kernel
theorem dX9_init_104 : decode cX9_init 104 = .ok (.iconst 4, 1) := by decide +kernel
theorem dX9_init_105 : decode cX9_init 105 = .ok (.if_icmp .ge 22, 3) := by decide +kernel
theorem dX9_init_108 : decode cX9_init 108 = .ok (.aload_n 0, 1) := by decide +kernel
theorem dX9_init_109 : decode cX9_init 109 = .ok (.getfield 21, 3) := by decide +kernel
theorem dX9_init_112 : decode cX9_init 112 = .ok (.iload_n 1, 1) := by decide +kernel
theorem dX9_init_113 : decode cX9_init 113 = .ok (.new 19, 3) := by decide +kernel
theorem dX9_init_116 : decode cX9_init 116 = .ok (.dup, 1) := by decide +kernel
theorem dX9_init_117 : decode cX9_init 117 = .ok (.invokespecial 66, 3) := by decide +kernel
theorem dX9_init_120 : decode cX9_init 120 = .ok (.aastore, 1) := by decide +kernel
theorem dX9_init_121 : decode cX9_init 121 = .ok (.iinc 1 1, 3) := by decide +kernel
theorem dX9_init_124 : decode cX9_init 124 = .ok (.goto (-21), 3) := by decide +kernel
theorem dX9_init_127 : decode cX9_init 127 = .ok (.return_, 1) := by decide +kernel
theorem dX9_arch_0 : decode cX9_arch 0 = .ok (.iload_n 1, 1) := by decide +kernel
theorem dX9_arch_1 : decode cX9_arch 1 = .ok (.iconst 0, 1) := by decide +kernel
theorem dX9_arch_2 : decode cX9_arch 2 = .ok (.iconst 3, 1) := by decide +kernel
theorem dX9_arch_3 : decode cX9_arch 3 = .ok (.invokestatic 67, 3) := by decide +kernel
theorem dX9_arch_6 : decode cX9_arch 6 = .ok (.ifCond .ne 6, 3) := by decide +kernel
theorem dX9_arch_9 : decode cX9_arch 9 = .ok (.ldc 71, 2) := by decide +kernel
theorem dX9_arch_11 : decode cX9_arch 11 = .ok (.ireturn, 1) := by decide +kernel
theorem dX9_arch_12 : decode cX9_arch 12 = .ok (.aload_n 0, 1) := by decide +kernel
theorem dX9_arch_13 : decode cX9_arch 13 = .ok (.getfield 12, 3) := by decide +kernel
theorem dX9_arch_16 : decode cX9_arch 16 = .ok (.getfield 72, 3) := by decide +kernel
theorem dX9_arch_19 : decode cX9_arch 19 = .ok (.bipush 10, 2) := by decide +kernel
theorem dX9_arch_21 : decode cX9_arch 21 = .ok (.if_icmp .lt 8, 3) := by decide +kernel
theorem dX9_arch_24 : decode cX9_arch 24 = .ok (.ldc 76, 2) := by decide +kernel
theorem dX9_arch_26 : decode cX9_arch 26 = .ok (.goto 11, 3) := by decide +kernel
theorem dX9_arch_29 : decode cX9_arch 29 = .ok (.aload_n 0, 1) := by decide +kernel
theorem dX9_arch_30 : decode cX9_arch 30 = .ok (.getfield 12, 3) := by decide +kernel
theorem dX9_arch_33 : decode cX9_arch 33 = .ok (.iload_n 1, 1) := by decide +kernel
theorem dX9_arch_34 : decode cX9_arch 34 = .ok (.invokevirtual 77, 3) := by decide +kernel
theorem dX9_arch_37 : decode cX9_arch 37 = .ok (.ireturn, 1) := by decide +kernel
theorem dX9_set_0 : decode cX9_set 0 = .ok (.aload_n 0, 1) := by decide +kernel
theorem dX9_set_1 : decode cX9_set 1 = .ok (.getfield 12, 3) := by decide +kernel
theorem dX9_set_4 : decode cX9_set 4 = .ok (.iload_n 1, 1) := by decide +kernel
theorem dX9_set_5 : decode cX9_set 5 = .ok (.invokevirtual 81, 3) := by decide +kernel
theorem dX9_set_8 : decode cX9_set 8 = .ok (.ifCond .eq 29, 3) := by decide +kernel
theorem dX9_set_11 : decode cX9_set 11 = .ok (.iload_n 2, 1) := by decide +kernel
theorem dX9_set_12 : decode cX9_set 12 = .ok (.iconst 0, 1) := by decide +kernel
theorem dX9_set_13 : decode cX9_set 13 = .ok (.iconst 1, 1) := by decide +kernel
theorem dX9_set_14 : decode cX9_set 14 = .ok (.invokestatic 67, 3) := by decide +kernel
theorem dX9_set_17 : decode cX9_set 17 = .ok (.ifCond .eq 20, 3) := by decide +kernel
theorem dX9_set_20 : decode cX9_set 20 = .ok (.iload_n 3, 1) := by decide +kernel
theorem dX9_set_21 : decode cX9_set 21 = .ok (.iconst 0, 1) := by decide +kernel
theorem dX9_set_22 : decode cX9_set 22 = .ok (.iload_n 2, 1) := by decide +kernel
theorem dX9_set_23 : decode cX9_set 23 = .ok (.ifCond .ne 7, 3) := by decide +kernel
theorem dX9_set_26 : decode cX9_set 26 = .ok (.iconst 4, 1) := by decide +kernel
theorem dX9_set_27 : decode cX9_set 27 = .ok (.goto 4, 3) := by decide +kernel
theorem dX9_set_30 : decode cX9_set 30 = .ok (.iconst 1, 1) := by decide +kernel
theorem dX9_set_31 : decode cX9_set 31 = .ok (.invokestatic 67, 3) := by decide +kernel
theorem dX9_set_34 : decode cX9_set 34 = .ok (.ifCond .ne 6, 3) := by decide +kernel
theorem dX9_set_37 : decode cX9_set 37 = .ok (.ldc 71, 2) := by decide +kernel
theorem dX9_set_39 : decode cX9_set 39 = .ok (.ireturn, 1) := by decide +kernel
theorem dX9_set_40 : decode cX9_set 40 = .ok (.aload_n 0, 1) := by decide +kernel
theorem dX9_set_41 : decode cX9_set 41 = .ok (.getfield 12, 3) := by decide +kernel
theorem dX9_set_44 : decode cX9_set 44 = .ok (.getfield 85, 3) := by decide +kernel
theorem dX9_set_47 : decode cX9_set 47 = .ok (.iload_n 1, 1) := by decide +kernel
theorem dX9_set_48 : decode cX9_set 48 = .ok (.aaload, 1) := by decide +kernel
theorem dX9_set_49 : decode cX9_set 49 = .ok (.astore 4, 2) := by decide +kernel
theorem dX9_set_51 : decode cX9_set 51 = .ok (.aload 4, 2) := by decide +kernel
theorem dX9_set_53 : decode cX9_set 53 = .ok (.invokevirtual 89, 3) := by decide +kernel
theorem dX9_set_56 : decode cX9_set 56 = .ok (.ifCond .eq 6, 3) := by decide +kernel
theorem dX9_set_59 : decode cX9_set 59 = .ok (.ldc 95, 2) := by decide +kernel
theorem dX9_set_61 : decode cX9_set 61 = .ok (.ireturn, 1) := by decide +kernel
theorem dX9_set_62 : decode cX9_set 62 = .ok (.iload_n 2, 1) := by decide +kernel
theorem dX9_set_63 : decode cX9_set 63 = .ok (.ifCond .ne 11, 3) := by decide +kernel
theorem dX9_set_66 : decode cX9_set 66 = .ok (.aload 4, 2) := by decide +kernel
theorem dX9_set_68 : decode cX9_set 68 = .ok (.getfield 96, 3) := by decide +kernel
theorem dX9_set_71 : decode cX9_set 71 = .ok (.goto 8, 3) := by decide +kernel
theorem dX9_set_74 : decode cX9_set 74 = .ok (.aload 4, 2) := by decide +kernel
theorem dX9_set_76 : decode cX9_set 76 = .ok (.getfield 99, 3) := by decide +kernel
theorem dX9_set_79 : decode cX9_set 79 = .ok (.istore 5, 2) := by decide +kernel
theorem dX9_set_81 : decode cX9_set 81 = .ok (.iload_n 2, 1) := by decide +kernel
theorem dX9_set_82 : decode cX9_set 82 = .ok (.ifCond .ne 12, 3) := by decide +kernel
theorem dX9_set_85 : decode cX9_set 85 = .ok (.aload 4, 2) := by decide +kernel
theorem dX9_set_87 : decode cX9_set 87 = .ok (.iload_n 3, 1) := by decide +kernel
theorem dX9_set_88 : decode cX9_set 88 = .ok (.putfield 96, 3) := by decide +kernel
theorem dX9_set_91 : decode cX9_set 91 = .ok (.goto 9, 3) := by decide +kernel
theorem dX9_set_94 : decode cX9_set 94 = .ok (.aload 4, 2) := by decide +kernel
theorem dX9_set_96 : decode cX9_set 96 = .ok (.iload_n 3, 1) := by decide +kernel
theorem dX9_set_97 : decode cX9_set 97 = .ok (.putfield 99, 3) := by decide +kernel
theorem dX9_set_100 : decode cX9_set 100 = .ok (.iload 5, 2) := by decide +kernel
theorem dX9_set_102 : decode cX9_set 102 = .ok (.ireturn, 1) := by decide +kernel
theorem dX9_about_0 : decode cX9_about 0 = .ok (.aload_n 0, 1) := by decide +kernel
theorem dX9_about_1 : decode cX9_about 1 = .ok (.getfield 12, 3) := by decide +kernel
theorem dX9_about_4 : decode cX9_about 4 = .ok (.iload_n 1, 1) := by decide +kernel
theorem dX9_about_5 : decode cX9_about 5 = .ok (.invokevirtual 81, 3) := by decide +kernel
theorem dX9_about_8 : decode cX9_about 8 = .ok (.ifCond .ne 6, 3) := by decide +kernel
theorem dX9_about_11 : decode cX9_about 11 = .ok (.ldc 71, 2) := by decide +kernel
theorem dX9_about_13 : decode cX9_about 13 = .ok (.ireturn, 1) := by decide +kernel
theorem dX9_about_14 : decode cX9_about 14 = .ok (.aload_n 0, 1) := by decide +kernel
theorem dX9_about_15 : decode cX9_about 15 = .ok (.getfield 12, 3) := by decide +kernel
theorem dX9_about_18 : decode cX9_about 18 = .ok (.getfield 85, 3) := by decide +kernel
theorem dX9_about_21 : decode cX9_about 21 = .ok (.iload_n 1, 1) := by decide +kernel
theorem dX9_about_22 : decode cX9_about 22 = .ok (.aaload, 1) := by decide +kernel
theorem dX9_about_23 : decode cX9_about 23 = .ok (.astore_n 3, 1) := by decide +kernel
theorem dX9_about_24 : decode cX9_about 24 = .ok (.iload_n 2, 1) := by decide +kernel
theorem dX9_about_25 : decode cX9_about 25 = .ok (.tableswitch 116 0 7 #[47, 52, 57, 62, 67, 80, 105, 111], 47) := by decide +kernel
theorem dX9_about_72 : decode cX9_about 72 = .ok (.aload_n 3, 1) := by decide +kernel
theorem dX9_about_73 : decode cX9_about 73 = .ok (.getfield 102, 3) := by decide +kernel
theorem dX9_about_76 : decode cX9_about 76 = .ok (.ireturn, 1) := by decide +kernel
theorem dX9_about_77 : decode cX9_about 77 = .ok (.aload_n 3, 1) := by decide +kernel
theorem dX9_about_78 : decode cX9_about 78 = .ok (.getfield 105, 3) := by decide +kernel
theorem dX9_about_81 : decode cX9_about 81 = .ok (.ireturn, 1) := by decide +kernel
theorem dX9_about_82 : decode cX9_about 82 = .ok (.aload_n 3, 1) := by decide +kernel
theorem dX9_about_83 : decode cX9_about 83 = .ok (.getfield 96, 3) := by decide +kernel
theorem dX9_about_86 : decode cX9_about 86 = .ok (.ireturn, 1) := by decide +kernel
theorem dX9_about_87 : decode cX9_about 87 = .ok (.aload_n 3, 1) := by decide +kernel
theorem dX9_about_88 : decode cX9_about 88 = .ok (.getfield 99, 3) := by decide +kernel
theorem dX9_about_91 : decode cX9_about 91 = .ok (.ireturn, 1) := by decide +kernel
theorem dX9_about_92 : decode cX9_about 92 = .ok (.aload_n 3, 1) := by decide +kernel
theorem dX9_about_93 : decode cX9_about 93 = .ok (.invokevirtual 89, 3) := by decide +kernel
theorem dX9_about_96 : decode cX9_about 96 = .ok (.ifCond .eq 7, 3) := by decide +kernel
theorem dX9_about_99 : decode cX9_about 99 = .ok (.iconst 1, 1) := by decide +kernel
theorem dX9_about_100 : decode cX9_about 100 = .ok (.goto 4, 3) := by decide +kernel
theorem dX9_about_103 : decode cX9_about 103 = .ok (.iconst 0, 1) := by decide +kernel
theorem dX9_about_104 : decode cX9_about 104 = .ok (.ireturn, 1) := by decide +kernel
theorem dX9_about_105 : decode cX9_about 105 = .ok (.aload_n 3, 1) := by decide +kernel
theorem dX9_about_106 : decode cX9_about 106 = .ok (.aload_n 0, 1) := by decide +kernel
theorem dX9_about_107 : decode cX9_about 107 = .ok (.getfield 21, 3) := by decide +kernel
theorem dX9_about_110 : decode cX9_about 110 = .ok (.iconst 0, 1) := by decide +kernel
theorem dX9_about_111 : decode cX9_about 111 = .ok (.aaload, 1) := by decide +kernel
theorem dX9_about_112 : decode cX9_about 112 = .ok (.aload_n 0, 1) := by decide +kernel
theorem dX9_about_113 : decode cX9_about 113 = .ok (.getfield 108, 3) := by decide +kernel
theorem dX9_about_116 : decode cX9_about 116 = .ok (.invokevirtual 111, 3) := by decide +kernel
theorem dX9_about_119 : decode cX9_about 119 = .ok (.aload_n 0, 1) := by decide +kernel
theorem dX9_about_120 : decode cX9_about 120 = .ok (.getfield 12, 3) := by decide +kernel
theorem dX9_about_123 : decode cX9_about 123 = .ok (.invokevirtual 114, 3) := by decide +kernel
theorem dX9_about_126 : decode cX9_about 126 = .ok (.invokevirtual 118, 3) := by decide +kernel
theorem dX9_about_129 : decode cX9_about 129 = .ok (.ireturn, 1) := by decide +kernel
theorem dX9_about_130 : decode cX9_about 130 = .ok (.aload_n 0, 1) := by decide +kernel
theorem dX9_about_131 : decode cX9_about 131 = .ok (.iload_n 1, 1) := by decide +kernel
theorem dX9_about_132 : decode cX9_about 132 = .ok (.invokevirtual 122, 3) := by decide +kernel
theorem dX9_about_135 : decode cX9_about 135 = .ok (.ireturn, 1) := by decide +kernel
theorem dX9_about_136 : decode cX9_about 136 = .ok (.aload_n 3, 1) := by decide +kernel
theorem dX9_about_137 : decode cX9_about 137 = .ok (.getfield 125, 3) := by decide +kernel
theorem dX9_about_140 : decode cX9_about 140 = .ok (.ireturn, 1) := by decide +kernel
theorem dX9_about_141 : decode cX9_about 141 = .ok (.ldc 71, 2) := by decide +kernel
theorem dX9_about_143 : decode cX9_about 143 = .ok (.ireturn, 1) := by decide +kernel
theorem dX9_isOf_0 : decode cX9_isOf 0 = .ok (.aload_n 0, 1) := by decide +kernel
theorem dX9_isOf_1 : decode cX9_isOf 1 = .ok (.getfield 12, 3) := by decide +kernel
theorem dX9_isOf_4 : decode cX9_isOf 4 = .ok (.iload_n 1, 1) := by decide +kernel
theorem dX9_isOf_5 : decode cX9_isOf 5 = .ok (.invokevirtual 81, 3) := by decide +kernel
theorem dX9_isOf_8 : decode cX9_isOf 8 = .ok (.ifCond .eq 12, 3) := by decide +kernel
theorem dX9_isOf_11 : decode cX9_isOf 11 = .ok (.iload_n 2, 1) := by decide +kernel
theorem dX9_isOf_12 : decode cX9_isOf 12 = .ok (.iconst 0, 1) := by decide +kernel
theorem dX9_isOf_13 : decode cX9_isOf 13 = .ok (.iconst 3, 1) := by decide +kernel
theorem dX9_isOf_14 : decode cX9_isOf 14 = .ok (.invokestatic 67, 3) := by decide +kernel
theorem dX9_isOf_17 : decode cX9_isOf 17 = .ok (.ifCond .ne 6, 3) := by decide +kernel
theorem dX9_isOf_20 : decode cX9_isOf 20 = .ok (.ldc 71, 2) := by decide +kernel
theorem dX9_isOf_22 : decode cX9_isOf 22 = .ok (.ireturn, 1) := by decide +kernel
theorem dX9_isOf_23 : decode cX9_isOf 23 = .ok (.aload_n 0, 1) := by decide +kernel
theorem dX9_isOf_24 : decode cX9_isOf 24 = .ok (.getfield 12, 3) := by decide +kernel
theorem dX9_isOf_27 : decode cX9_isOf 27 = .ok (.getfield 85, 3) := by decide +kernel
theorem dX9_isOf_30 : decode cX9_isOf 30 = .ok (.iload_n 1, 1) := by decide +kernel
theorem dX9_isOf_31 : decode cX9_isOf 31 = .ok (.aaload, 1) := by decide +kernel
theorem dX9_isOf_32 : decode cX9_isOf 32 = .ok (.iload_n 2, 1) := by decide +kernel
theorem dX9_isOf_33 : decode cX9_isOf 33 = .ok (.invokevirtual 128, 3) := by decide +kernel
theorem dX9_isOf_36 : decode cX9_isOf 36 = .ok (.ifCond .eq 7, 3) := by decide +kernel
theorem dX9_isOf_39 : decode cX9_isOf 39 = .ok (.iconst 1, 1) := by decide +kernel
theorem dX9_isOf_40 : decode cX9_isOf 40 = .ok (.goto 4, 3) := by decide +kernel
theorem dX9_isOf_43 : decode cX9_isOf 43 = .ok (.iconst 0, 1) := by decide +kernel
theorem dX9_isOf_44 : decode cX9_isOf 44 = .ok (.ireturn, 1) := by decide +kernel
theorem dX9_sheet_0 : decode cX9_sheet 0 = .ok (.iload_n 1, 1) := by decide +kernel
theorem dX9_sheet_1 : decode cX9_sheet 1 = .ok (.invokestatic 131, 3) := by decide +kernel
theorem dX9_sheet_4 : decode cX9_sheet 4 = .ok (.ifCond .eq 19, 3) := by decide +kernel
theorem dX9_sheet_7 : decode cX9_sheet 7 = .ok (.iload_n 2, 1) := by decide +kernel
theorem dX9_sheet_8 : decode cX9_sheet 8 = .ok (.iconst 0, 1) := by decide +kernel
theorem dX9_sheet_9 : decode cX9_sheet 9 = .ok (.iconst 2, 1) := by decide +kernel
theorem dX9_sheet_10 : decode cX9_sheet 10 = .ok (.invokestatic 67, 3) := by decide +kernel
theorem dX9_sheet_13 : decode cX9_sheet 13 = .ok (.ifCond .eq 10, 3) := by decide +kernel
theorem dX9_sheet_16 : decode cX9_sheet 16 = .ok (.iload_n 3, 1) := by decide +kernel
theorem dX9_sheet_17 : decode cX9_sheet 17 = .ok (.sipush 200, 3) := by decide +kernel
theorem dX9_sheet_20 : decode cX9_sheet 20 = .ok (.if_icmp .le 6, 3) := by decide +kernel
theorem dX9_sheet_23 : decode cX9_sheet 23 = .ok (.ldc 71, 2) := by decide +kernel
theorem dX9_sheet_25 : decode cX9_sheet 25 = .ok (.ireturn, 1) := by decide +kernel
theorem dX9_sheet_26 : decode cX9_sheet 26 = .ok (.iload_n 3, 1) := by decide +kernel
theorem dX9_sheet_27 : decode cX9_sheet 27 = .ok (.ifCond .ge 6, 3) := by decide +kernel
theorem dX9_sheet_30 : decode cX9_sheet 30 = .ok (.ldc 134, 2) := by decide +kernel
theorem dX9_sheet_32 : decode cX9_sheet 32 = .ok (.ireturn, 1) := by decide +kernel
theorem dX9_sheet_33 : decode cX9_sheet 33 = .ok (.aload_n 0, 1) := by decide +kernel
theorem dX9_sheet_34 : decode cX9_sheet 34 = .ok (.getfield 21, 3) := by decide +kernel
theorem dX9_sheet_37 : decode cX9_sheet 37 = .ok (.iload_n 1, 1) := by decide +kernel
theorem dX9_sheet_38 : decode cX9_sheet 38 = .ok (.aaload, 1) := by decide +kernel
theorem dX9_sheet_39 : decode cX9_sheet 39 = .ok (.iload_n 2, 1) := by decide +kernel
theorem dX9_sheet_40 : decode cX9_sheet 40 = .ok (.iload_n 3, 1) := by decide +kernel
theorem dX9_sheet_41 : decode cX9_sheet 41 = .ok (.invokevirtual 135, 3) := by decide +kernel
theorem dX9_sheet_44 : decode cX9_sheet 44 = .ok (.iload_n 3, 1) := by decide +kernel
theorem dX9_sheet_45 : decode cX9_sheet 45 = .ok (.ireturn, 1) := by decide +kernel
theorem dX9_enter_0 : decode cX9_enter 0 = .ok (.iload_n 1, 1) := by decide +kernel
theorem dX9_enter_1 : decode cX9_enter 1 = .ok (.invokestatic 131, 3) := by decide +kernel
theorem dX9_enter_4 : decode cX9_enter 4 = .ok (.ifCond .ne 6, 3) := by decide +kernel
theorem dX9_enter_7 : decode cX9_enter 7 = .ok (.ldc 71, 2) := by decide +kernel
theorem dX9_enter_9 : decode cX9_enter 9 = .ok (.ireturn, 1) := by decide +kernel
theorem dX9_enter_10 : decode cX9_enter 10 = .ok (.aload_n 0, 1) := by decide +kernel
theorem dX9_enter_11 : decode cX9_enter 11 = .ok (.getfield 21, 3) := by decide +kernel
theorem dX9_enter_14 : decode cX9_enter 14 = .ok (.iload_n 1, 1) := by decide +kernel
theorem dX9_enter_15 : decode cX9_enter 15 = .ok (.aaload, 1) := by decide +kernel
theorem dX9_enter_16 : decode cX9_enter 16 = .ok (.astore 4, 2) := by decide +kernel
theorem dX9_enter_18 : decode cX9_enter 18 = .ok (.aload 4, 2) := by decide +kernel
theorem dX9_enter_20 : decode cX9_enter 20 = .ok (.getfield 139, 3) := by decide +kernel
theorem dX9_enter_23 : decode cX9_enter 23 = .ok (.ifCond .eq 6, 3) := by decide +kernel
theorem dX9_enter_26 : decode cX9_enter 26 = .ok (.ldc 143, 2) := by decide +kernel
theorem dX9_enter_28 : decode cX9_enter 28 = .ok (.ireturn, 1) := by decide +kernel
theorem dX9_enter_29 : decode cX9_enter 29 = .ok (.iload_n 2, 1) := by decide +kernel
theorem dX9_enter_30 : decode cX9_enter 30 = .ok (.iconst 0, 1) := by decide +kernel
theorem dX9_enter_31 : decode cX9_enter 31 = .ok (.aload 4, 2) := by decide +kernel
theorem dX9_enter_33 : decode cX9_enter 33 = .ok (.getfield 144, 3) := by decide +kernel
theorem dX9_enter_36 : decode cX9_enter 36 = .ok (.iconst 1, 1) := by decide +kernel
theorem dX9_enter_37 : decode cX9_enter 37 = .ok (.isub, 1) := by decide +kernel
theorem dX9_enter_38 : decode cX9_enter 38 = .ok (.invokestatic 67, 3) := by decide +kernel
theorem dX9_enter_41 : decode cX9_enter 41 = .ok (.ifCond .ne 6, 3) := by decide +kernel
theorem dX9_enter_44 : decode cX9_enter 44 = .ok (.ldc 145, 2) := by decide +kernel
theorem dX9_enter_46 : decode cX9_enter 46 = .ok (.ireturn, 1) := by decide +kernel
theorem dX9_enter_47 : decode cX9_enter 47 = .ok (.iload_n 3, 1) := by decide +kernel
theorem dX9_enter_48 : decode cX9_enter 48 = .ok (.iconst 0, 1) := by decide +kernel
theorem dX9_enter_49 : decode cX9_enter 49 = .ok (.aload 4, 2) := by decide +kernel
theorem dX9_enter_51 : decode cX9_enter 51 = .ok (.invokevirtual 146, 3) := by decide +kernel
theorem dX9_enter_54 : decode cX9_enter 54 = .ok (.invokestatic 67, 3) := by decide +kernel
theorem dX9_enter_57 : decode cX9_enter 57 = .ok (.ifCond .eq 13, 3) := by decide +kernel
theorem dX9_enter_60 : decode cX9_enter 60 = .ok (.aload 4, 2) := by decide +kernel
theorem dX9_enter_62 : decode cX9_enter 62 = .ok (.iload_n 2, 1) := by decide +kernel
theorem dX9_enter_63 : decode cX9_enter 63 = .ok (.iload_n 3, 1) := by decide +kernel
theorem dX9_enter_64 : decode cX9_enter 64 = .ok (.invokevirtual 149, 3) := by decide +kernel
theorem dX9_enter_67 : decode cX9_enter 67 = .ok (.goto 5, 3) := by decide +kernel
theorem dX9_enter_70 : decode cX9_enter 70 = .ok (.ldc 71, 2) := by decide +kernel
theorem dX9_enter_72 : decode cX9_enter 72 = .ok (.ireturn, 1) := by decide +kernel
theorem dX9_copy_0 : decode cX9_copy 0 = .ok (.iload_n 1, 1) := by decide +kernel
theorem dX9_copy_1 : decode cX9_copy 1 = .ok (.invokestatic 131, 3) := by decide +kernel
theorem dX9_copy_4 : decode cX9_copy 4 = .ok (.ifCond .eq 10, 3) := by decide +kernel
theorem dX9_copy_7 : decode cX9_copy 7 = .ok (.iload_n 3, 1) := by decide +kernel
theorem dX9_copy_8 : decode cX9_copy 8 = .ok (.invokestatic 131, 3) := by decide +kernel
theorem dX9_copy_11 : decode cX9_copy 11 = .ok (.ifCond .ne 6, 3) := by decide +kernel
theorem dX9_copy_14 : decode cX9_copy 14 = .ok (.ldc 71, 2) := by decide +kernel
theorem dX9_copy_16 : decode cX9_copy 16 = .ok (.ireturn, 1) := by decide +kernel
theorem dX9_copy_17 : decode cX9_copy 17 = .ok (.aload_n 0, 1) := by decide +kernel
theorem dX9_copy_18 : decode cX9_copy 18 = .ok (.getfield 21, 3) := by decide +kernel
theorem dX9_copy_21 : decode cX9_copy 21 = .ok (.iload_n 1, 1) := by decide +kernel
theorem dX9_copy_22 : decode cX9_copy 22 = .ok (.aaload, 1) := by decide +kernel
theorem dX9_copy_23 : decode cX9_copy 23 = .ok (.astore 6, 2) := by decide +kernel
theorem dX9_copy_25 : decode cX9_copy 25 = .ok (.aload_n 0, 1) := by decide +kernel
theorem dX9_copy_26 : decode cX9_copy 26 = .ok (.getfield 21, 3) := by decide +kernel
theorem dX9_copy_29 : decode cX9_copy 29 = .ok (.iload_n 3, 1) := by decide +kernel
theorem dX9_copy_30 : decode cX9_copy 30 = .ok (.aaload, 1) := by decide +kernel
theorem dX9_copy_31 : decode cX9_copy 31 = .ok (.astore 7, 2) := by decide +kernel
theorem dX9_copy_33 : decode cX9_copy 33 = .ok (.aload 6, 2) := by decide +kernel
theorem dX9_copy_35 : decode cX9_copy 35 = .ok (.getfield 139, 3) := by decide +kernel
theorem dX9_copy_38 : decode cX9_copy 38 = .ok (.ifCond .ne 11, 3) := by decide +kernel
theorem dX9_copy_41 : decode cX9_copy 41 = .ok (.aload 7, 2) := by decide +kernel
theorem dX9_copy_43 : decode cX9_copy 43 = .ok (.getfield 139, 3) := by decide +kernel
theorem dX9_copy_46 : decode cX9_copy 46 = .ok (.ifCond .eq 6, 3) := by decide +kernel
theorem dX9_copy_49 : decode cX9_copy 49 = .ok (.ldc 143, 2) := by decide +kernel
theorem dX9_copy_51 : decode cX9_copy 51 = .ok (.ireturn, 1) := by decide +kernel
theorem dX9_copy_52 : decode cX9_copy 52 = .ok (.aload 6, 2) := by decide +kernel
theorem dX9_copy_54 : decode cX9_copy 54 = .ok (.getfield 152, 3) := by decide +kernel
theorem dX9_copy_57 : decode cX9_copy 57 = .ok (.aload 7, 2) := by decide +kernel
theorem dX9_copy_59 : decode cX9_copy 59 = .ok (.getfield 152, 3) := by decide +kernel
theorem dX9_copy_62 : decode cX9_copy 62 = .ok (.if_icmp .eq 6, 3) := by decide +kernel
theorem dX9_copy_65 : decode cX9_copy 65 = .ok (.ldc 95, 2) := by decide +kernel
theorem dX9_copy_67 : decode cX9_copy 67 = .ok (.ireturn, 1) := by decide +kernel
theorem dX9_copy_68 : decode cX9_copy 68 = .ok (.aload 6, 2) := by decide +kernel
theorem dX9_copy_70 : decode cX9_copy 70 = .ok (.iload_n 2, 1) := by decide +kernel
theorem dX9_copy_71 : decode cX9_copy 71 = .ok (.iload 5, 2) := by decide +kernel
theorem dX9_copy_73 : decode cX9_copy 73 = .ok (.invokevirtual 155, 3) := by decide +kernel
theorem dX9_copy_76 : decode cX9_copy 76 = .ok (.ifCond .eq 15, 3) := by decide +kernel
theorem dX9_copy_79 : decode cX9_copy 79 = .ok (.aload 7, 2) := by decide +kernel
theorem dX9_copy_81 : decode cX9_copy 81 = .ok (.iload 4, 2) := by decide +kernel
theorem dX9_copy_83 : decode cX9_copy 83 = .ok (.iload 5, 2) := by decide +kernel
theorem dX9_copy_85 : decode cX9_copy 85 = .ok (.invokevirtual 155, 3) := by decide +kernel
theorem dX9_copy_88 : decode cX9_copy 88 = .ok (.ifCond .ne 6, 3) := by decide +kernel
theorem dX9_copy_91 : decode cX9_copy 91 = .ok (.ldc 145, 2) := by decide +kernel
theorem dX9_copy_93 : decode cX9_copy 93 = .ok (.ireturn, 1) := by decide +kernel
theorem dX9_copy_94 : decode cX9_copy 94 = .ok (.aload 6, 2) := by decide +kernel
theorem dX9_copy_96 : decode cX9_copy 96 = .ok (.getfield 159, 3) := by decide +kernel
theorem dX9_copy_99 : decode cX9_copy 99 = .ok (.iload_n 2, 1) := by decide +kernel
theorem dX9_copy_100 : decode cX9_copy 100 = .ok (.aload 7, 2) := by decide +kernel
theorem dX9_copy_102 : decode cX9_copy 102 = .ok (.getfield 159, 3) := by decide +kernel
theorem dX9_copy_105 : decode cX9_copy 105 = .ok (.iload 4, 2) := by decide +kernel
theorem dX9_copy_107 : decode cX9_copy 107 = .ok (.iload 5, 2) := by decide +kernel
theorem dX9_copy_109 : decode cX9_copy 109 = .ok (.invokestatic 162, 3) := by decide +kernel
theorem dX9_copy_112 : decode cX9_copy 112 = .ok (.iload 5, 2) := by decide +kernel
theorem dX9_copy_114 : decode cX9_copy 114 = .ok (.ireturn, 1) := by decide +kernel
theorem dX9_lose_0 : decode cX9_lose 0 = .ok (.iload_n 1, 1) := by decide +kernel
theorem dX9_lose_1 : decode cX9_lose 1 = .ok (.invokestatic 131, 3) := by decide +kernel
theorem dX9_lose_4 : decode cX9_lose 4 = .ok (.ifCond .ne 6, 3) := by decide +kernel
theorem dX9_lose_7 : decode cX9_lose 7 = .ok (.ldc 71, 2) := by decide +kernel
theorem dX9_lose_9 : decode cX9_lose 9 = .ok (.ireturn, 1) := by decide +kernel
theorem dX9_lose_10 : decode cX9_lose 10 = .ok (.aload_n 0, 1) := by decide +kernel
theorem dX9_lose_11 : decode cX9_lose 11 = .ok (.getfield 21, 3) := by decide +kernel
theorem dX9_lose_14 : decode cX9_lose 14 = .ok (.iload_n 1, 1) := by decide +kernel
theorem dX9_lose_15 : decode cX9_lose 15 = .ok (.aaload, 1) := by decide +kernel
theorem dX9_lose_16 : decode cX9_lose 16 = .ok (.getfield 139, 3) := by decide +kernel
theorem dX9_lose_19 : decode cX9_lose 19 = .ok (.ifCond .eq 6, 3) := by decide +kernel
theorem dX9_lose_22 : decode cX9_lose 22 = .ok (.ldc 143, 2) := by decide +kernel
theorem dX9_lose_24 : decode cX9_lose 24 = .ok (.ireturn, 1) := by decide +kernel
theorem dX9_lose_25 : decode cX9_lose 25 = .ok (.aload_n 0, 1) := by decide +kernel
theorem dX9_lose_26 : decode cX9_lose 26 = .ok (.getfield 21, 3) := by decide +kernel
theorem dX9_lose_29 : decode cX9_lose 29 = .ok (.iload_n 1, 1) := by decide +kernel
theorem dX9_lose_30 : decode cX9_lose 30 = .ok (.aaload, 1) := by decide +kernel
theorem dX9_lose_31 : decode cX9_lose 31 = .ok (.iconst 1, 1) := by decide +kernel
theorem dX9_lose_32 : decode cX9_lose 32 = .ok (.putfield 139, 3) := by decide +kernel
theorem dX9_lose_35 : decode cX9_lose 35 = .ok (.aload_n 0, 1) := by decide +kernel
theorem dX9_lose_36 : decode cX9_lose 36 = .ok (.getfield 21, 3) := by decide +kernel
theorem dX9_lose_39 : decode cX9_lose 39 = .ok (.iload_n 1, 1) := by decide +kernel
theorem dX9_lose_40 : decode cX9_lose 40 = .ok (.aaload, 1) := by decide +kernel
theorem dX9_lose_41 : decode cX9_lose 41 = .ok (.getfield 144, 3) := by decide +kernel
theorem dX9_lose_44 : decode cX9_lose 44 = .ok (.ireturn, 1) := by decide +kernel
theorem dX9_feed_0 : decode cX9_feed 0 = .ok (.aload_n 0, 1) := by decide +kernel
theorem dX9_feed_1 : decode cX9_feed 1 = .ok (.getfield 28, 3) := by decide +kernel
theorem dX9_feed_4 : decode cX9_feed 4 = .ok (.getfield 168, 3) := by decide +kernel
theorem dX9_feed_7 : decode cX9_feed 7 = .ok (.bipush 36, 2) := by decide +kernel
theorem dX9_feed_9 : decode cX9_feed 9 = .ok (.if_icmp .le 6, 3) := by decide +kernel
theorem dX9_feed_12 : decode cX9_feed 12 = .ok (.ldc 76, 2) := by decide +kernel
theorem dX9_feed_14 : decode cX9_feed 14 = .ok (.ireturn, 1) := by decide +kernel
theorem dX9_feed_15 : decode cX9_feed 15 = .ok (.aload_n 0, 1) := by decide +kernel
theorem dX9_feed_16 : decode cX9_feed 16 = .ok (.getfield 28, 3) := by decide +kernel
theorem dX9_feed_19 : decode cX9_feed 19 = .ok (.iload_n 1, 1) := by decide +kernel
theorem dX9_feed_20 : decode cX9_feed 20 = .ok (.invokevirtual 169, 3) := by decide +kernel
theorem dX9_feed_23 : decode cX9_feed 23 = .ok (.aload_n 0, 1) := by decide +kernel
theorem dX9_feed_24 : decode cX9_feed 24 = .ok (.getfield 28, 3) := by decide +kernel
theorem dX9_feed_27 : decode cX9_feed 27 = .ok (.iload_n 2, 1) := by decide +kernel
theorem dX9_feed_28 : decode cX9_feed 28 = .ok (.invokevirtual 169, 3) := by decide +kernel
theorem dX9_feed_31 : decode cX9_feed 31 = .ok (.aload_n 0, 1) := by decide +kernel
theorem dX9_feed_32 : decode cX9_feed 32 = .ok (.getfield 28, 3) := by decide +kernel
theorem dX9_feed_35 : decode cX9_feed 35 = .ok (.iload_n 3, 1) := by decide +kernel
theorem dX9_feed_36 : decode cX9_feed 36 = .ok (.invokevirtual 169, 3) := by decide +kernel
theorem dX9_feed_39 : decode cX9_feed 39 = .ok (.aload_n 0, 1) := by decide +kernel
theorem dX9_feed_40 : decode cX9_feed 40 = .ok (.getfield 28, 3) := by decide +kernel
theorem dX9_feed_43 : decode cX9_feed 43 = .ok (.getfield 168, 3) := by decide +kernel
theorem dX9_feed_46 : decode cX9_feed 46 = .ok (.ireturn, 1) := by decide +kernel
theorem dX9_trim_0 : decode cX9_trim 0 = .ok (.iload_n 1, 1) := by decide +kernel
theorem dX9_trim_1 : decode cX9_trim 1 = .ok (.iconst 0, 1) := by decide +kernel
theorem dX9_trim_2 : decode cX9_trim 2 = .ok (.aload_n 0, 1) := by decide +kernel
theorem dX9_trim_3 : decode cX9_trim 3 = .ok (.getfield 28, 3) := by decide +kernel
theorem dX9_trim_6 : decode cX9_trim 6 = .ok (.getfield 168, 3) := by decide +kernel
theorem dX9_trim_9 : decode cX9_trim 9 = .ok (.invokestatic 67, 3) := by decide +kernel
theorem dX9_trim_12 : decode cX9_trim 12 = .ok (.ifCond .ne 6, 3) := by decide +kernel
theorem dX9_trim_15 : decode cX9_trim 15 = .ok (.ldc 71, 2) := by decide +kernel
theorem dX9_trim_17 : decode cX9_trim 17 = .ok (.ireturn, 1) := by decide +kernel
theorem dX9_trim_18 : decode cX9_trim 18 = .ok (.aload_n 0, 1) := by decide +kernel
theorem dX9_trim_19 : decode cX9_trim 19 = .ok (.getfield 28, 3) := by decide +kernel
theorem dX9_trim_22 : decode cX9_trim 22 = .ok (.iload_n 1, 1) := by decide +kernel
theorem dX9_trim_23 : decode cX9_trim 23 = .ok (.putfield 168, 3) := by decide +kernel
theorem dX9_trim_26 : decode cX9_trim 26 = .ok (.iload_n 1, 1) := by decide +kernel
theorem dX9_trim_27 : decode cX9_trim 27 = .ok (.ireturn, 1) := by decide +kernel
theorem dX9_gift_0 : decode cX9_gift 0 = .ok (.aload_n 0, 1) := by decide +kernel
theorem dX9_gift_1 : decode cX9_gift 1 = .ok (.getfield 37, 3) := by decide +kernel
theorem dX9_gift_4 : decode cX9_gift 4 = .ok (.aload_n 0, 1) := by decide +kernel
theorem dX9_gift_5 : decode cX9_gift 5 = .ok (.getfield 12, 3) := by decide +kernel
theorem dX9_gift_8 : decode cX9_gift 8 = .ok (.getfield 72, 3) := by decide +kernel
theorem dX9_gift_11 : decode cX9_gift 11 = .ok (.aload_n 0, 1) := by decide +kernel
theorem dX9_gift_12 : decode cX9_gift 12 = .ok (.getfield 108, 3) := by decide +kernel
theorem dX9_gift_15 : decode cX9_gift 15 = .ok (.invokevirtual 173, 3) := by decide +kernel
theorem dX9_gift_18 : decode cX9_gift 18 = .ok (.istore_n 1, 1) := by decide +kernel
theorem dX9_gift_19 : decode cX9_gift 19 = .ok (.aload_n 0, 1) := by decide +kernel
theorem dX9_gift_20 : decode cX9_gift 20 = .ok (.getfield 28, 3) := by decide +kernel
theorem dX9_gift_23 : decode cX9_gift 23 = .ok (.iconst 0, 1) := by decide +kernel
theorem dX9_gift_24 : decode cX9_gift 24 = .ok (.putfield 168, 3) := by decide +kernel
theorem dX9_gift_27 : decode cX9_gift 27 = .ok (.iload_n 1, 1) := by decide +kernel
theorem dX9_gift_28 : decode cX9_gift 28 = .ok (.ifCond .ne 14, 3) := by decide +kernel
theorem dX9_gift_31 : decode cX9_gift 31 = .ok (.bipush (-100), 2) := by decide +kernel
theorem dX9_gift_33 : decode cX9_gift 33 = .ok (.aload_n 0, 1) := by decide +kernel
theorem dX9_gift_34 : decode cX9_gift 34 = .ok (.getfield 37, 3) := by decide +kernel
theorem dX9_gift_37 : decode cX9_gift 37 = .ok (.getfield 176, 3) := by decide +kernel
theorem dX9_gift_40 : decode cX9_gift 40 = .ok (.isub, 1) := by decide +kernel
theorem dX9_gift_41 : decode cX9_gift 41 = .ok (.ireturn, 1) := by decide +kernel
theorem dX9_gift_42 : decode cX9_gift 42 = .ok (.aload_n 0, 1) := by decide +kernel
theorem dX9_gift_43 : decode cX9_gift 43 = .ok (.getfield 44, 3) := by decide +kernel
theorem dX9_gift_46 : decode cX9_gift 46 = .ok (.getfield 179, 3) := by decide +kernel
theorem dX9_gift_49 : decode cX9_gift 49 = .ok (.bipush 20, 2) := by decide +kernel
theorem dX9_gift_51 : decode cX9_gift 51 = .ok (.if_icmp .lt 6, 3) := by decide +kernel
theorem dX9_gift_54 : decode cX9_gift 54 = .ok (.ldc 76, 2) := by decide +kernel
theorem dX9_gift_56 : decode cX9_gift 56 = .ok (.ireturn, 1) := by decide +kernel
theorem dX9_gift_57 : decode cX9_gift 57 = .ok (.aload_n 0, 1) := by decide +kernel
theorem dX9_gift_58 : decode cX9_gift 58 = .ok (.getfield 44, 3) := by decide +kernel
theorem dX9_gift_61 : decode cX9_gift 61 = .ok (.aload_n 0, 1) := by decide +kernel
theorem dX9_gift_62 : decode cX9_gift 62 = .ok (.getfield 37, 3) := by decide +kernel
theorem dX9_gift_65 : decode cX9_gift 65 = .ok (.invokevirtual 180, 3) := by decide +kernel
theorem dX9_gift_68 : decode cX9_gift 68 = .ok (.istore_n 2, 1) := by decide +kernel
theorem dX9_gift_69 : decode cX9_gift 69 = .ok (.aload_n 0, 1) := by decide +kernel
theorem dX9_gift_70 : decode cX9_gift 70 = .ok (.getfield 37, 3) := by decide +kernel
theorem dX9_gift_73 : decode cX9_gift 73 = .ok (.getfield 184, 3) := by decide +kernel
theorem dX9_gift_76 : decode cX9_gift 76 = .ok (.aload_n 0, 1) := by decide +kernel
theorem dX9_gift_77 : decode cX9_gift 77 = .ok (.getfield 108, 3) := by decide +kernel
theorem dX9_gift_80 : decode cX9_gift 80 = .ok (.if_icmp .gt 16, 3) := by decide +kernel
theorem dX9_gift_83 : decode cX9_gift 83 = .ok (.aload_n 0, 1) := by decide +kernel
theorem dX9_gift_84 : decode cX9_gift 84 = .ok (.aload_n 0, 1) := by decide +kernel
theorem dX9_gift_85 : decode cX9_gift 85 = .ok (.getfield 44, 3) := by decide +kernel
theorem dX9_gift_88 : decode cX9_gift 88 = .ok (.getfield 187, 3) := by decide +kernel
theorem dX9_gift_91 : decode cX9_gift 91 = .ok (.iload_n 2, 1) := by decide +kernel
theorem dX9_gift_92 : decode cX9_gift 92 = .ok (.aaload, 1) := by decide +kernel
theorem dX9_gift_93 : decode cX9_gift 93 = .ok (.invokevirtual 191, 3) := by decide +kernel
theorem dX9_gift_96 : decode cX9_gift 96 = .ok (.iload_n 2, 1) := by decide +kernel
theorem dX9_gift_97 : decode cX9_gift 97 = .ok (.ireturn, 1) := by decide +kernel
theorem dX9_purse_0 : decode cX9_purse 0 = .ok (.aload_n 0, 1) := by decide +kernel
theorem dX9_purse_1 : decode cX9_purse 1 = .ok (.getfield 44, 3) := by decide +kernel
theorem dX9_purse_4 : decode cX9_purse 4 = .ok (.iload_n 1, 1) := by decide +kernel
theorem dX9_purse_5 : decode cX9_purse 5 = .ok (.invokevirtual 195, 3) := by decide +kernel
theorem dX9_purse_8 : decode cX9_purse 8 = .ok (.ifCond .ne 6, 3) := by decide +kernel
theorem dX9_purse_11 : decode cX9_purse 11 = .ok (.ldc 71, 2) := by decide +kernel
theorem dX9_purse_13 : decode cX9_purse 13 = .ok (.ireturn, 1) := by decide +kernel
theorem dX9_purse_14 : decode cX9_purse 14 = .ok (.aload_n 0, 1) := by decide +kernel
theorem dX9_purse_15 : decode cX9_purse 15 = .ok (.getfield 44, 3) := by decide +kernel
theorem dX9_purse_18 : decode cX9_purse 18 = .ok (.getfield 187, 3) := by decide +kernel
theorem dX9_purse_21 : decode cX9_purse 21 = .ok (.iload_n 1, 1) := by decide +kernel
theorem dX9_purse_22 : decode cX9_purse 22 = .ok (.aaload, 1) := by decide +kernel
theorem dX9_purse_23 : decode cX9_purse 23 = .ok (.astore_n 3, 1) := by decide +kernel
theorem dX9_purse_24 : decode cX9_purse 24 = .ok (.iload_n 2, 1) := by decide +kernel
theorem dX9_purse_25 : decode cX9_purse 25 = .ok (.tableswitch 99 0 7 #[47, 52, 57, 62, 67, 72, 89, 94], 47) := by decide +kernel
theorem dX9_purse_72 : decode cX9_purse 72 = .ok (.aload_n 3, 1) := by decide +kernel
theorem dX9_purse_73 : decode cX9_purse 73 = .ok (.getfield 196, 3) := by decide +kernel
theorem dX9_purse_76 : decode cX9_purse 76 = .ok (.ireturn, 1) := by decide +kernel
theorem dX9_purse_77 : decode cX9_purse 77 = .ok (.aload_n 3, 1) := by decide +kernel
theorem dX9_purse_78 : decode cX9_purse 78 = .ok (.getfield 201, 3) := by decide +kernel
theorem dX9_purse_81 : decode cX9_purse 81 = .ok (.ireturn, 1) := by decide +kernel
theorem dX9_purse_82 : decode cX9_purse 82 = .ok (.aload_n 3, 1) := by decide +kernel
theorem dX9_purse_83 : decode cX9_purse 83 = .ok (.getfield 202, 3) := by decide +kernel
theorem dX9_purse_86 : decode cX9_purse 86 = .ok (.ireturn, 1) := by decide +kernel
theorem dX9_purse_87 : decode cX9_purse 87 = .ok (.aload_n 3, 1) := by decide +kernel
theorem dX9_purse_88 : decode cX9_purse 88 = .ok (.getfield 205, 3) := by decide +kernel
theorem dX9_purse_91 : decode cX9_purse 91 = .ok (.ireturn, 1) := by decide +kernel
theorem dX9_purse_92 : decode cX9_purse 92 = .ok (.aload_n 3, 1) := by decide +kernel
theorem dX9_purse_93 : decode cX9_purse 93 = .ok (.getfield 208, 3) := by decide +kernel
theorem dX9_purse_96 : decode cX9_purse 96 = .ok (.ireturn, 1) := by decide +kernel
theorem dX9_purse_97 : decode cX9_purse 97 = .ok (.aload_n 3, 1) := by decide +kernel
theorem dX9_purse_98 : decode cX9_purse 98 = .ok (.aload_n 0, 1) := by decide +kernel
theorem dX9_purse_99 : decode cX9_purse 99 = .ok (.getfield 108, 3) := by decide +kernel
theorem dX9_purse_102 : decode cX9_purse 102 = .ok (.invokevirtual 211, 3) := by decide +kernel
theorem dX9_purse_105 : decode cX9_purse 105 = .ok (.ifCond .eq 7, 3) := by decide +kernel
theorem dX9_purse_108 : decode cX9_purse 108 = .ok (.iconst 1, 1) := by decide +kernel
theorem dX9_purse_109 : decode cX9_purse 109 = .ok (.goto 4, 3) := by decide +kernel
theorem dX9_purse_112 : decode cX9_purse 112 = .ok (.iconst 0, 1) := by decide +kernel
theorem dX9_purse_113 : decode cX9_purse 113 = .ok (.ireturn, 1) := by decide +kernel
theorem dX9_purse_114 : decode cX9_purse 114 = .ok (.aload_n 3, 1) := by decide +kernel
theorem dX9_purse_115 : decode cX9_purse 115 = .ok (.getfield 214, 3) := by decide +kernel
theorem dX9_purse_118 : decode cX9_purse 118 = .ok (.ireturn, 1) := by decide +kernel
theorem dX9_purse_119 : decode cX9_purse 119 = .ok (.aload_n 3, 1) := by decide +kernel
theorem dX9_purse_120 : decode cX9_purse 120 = .ok (.getfield 217, 3) := by decide +kernel
theorem dX9_purse_123 : decode cX9_purse 123 = .ok (.ireturn, 1) := by decide +kernel
theorem dX9_purse_124 : decode cX9_purse 124 = .ok (.ldc 71, 2) := by decide +kernel
theorem dX9_purse_126 : decode cX9_purse 126 = .ok (.ireturn, 1) := by decide +kernel
theorem dX9_funds_0 : decode cX9_funds 0 = .ok (.aload_n 0, 1) := by decide +kernel
theorem dX9_funds_1 : decode cX9_funds 1 = .ok (.iload_n 1, 1) := by decide +kernel
theorem dX9_funds_2 : decode cX9_funds 2 = .ok (.invokevirtual 220, 3) := by decide +kernel
theorem dX9_funds_5 : decode cX9_funds 5 = .ok (.ifCond .eq 18, 3) := by decide +kernel
theorem dX9_funds_8 : decode cX9_funds 8 = .ok (.aload_n 0, 1) := by decide +kernel
theorem dX9_funds_9 : decode cX9_funds 9 = .ok (.getfield 44, 3) := by decide +kernel
theorem dX9_funds_12 : decode cX9_funds 12 = .ok (.iload_n 1, 1) := by decide +kernel
theorem dX9_funds_13 : decode cX9_funds 13 = .ok (.aload_n 0, 1) := by decide +kernel
theorem dX9_funds_14 : decode cX9_funds 14 = .ok (.getfield 108, 3) := by decide +kernel
theorem dX9_funds_17 : decode cX9_funds 17 = .ok (.invokevirtual 223, 3) := by decide +kernel
theorem dX9_funds_20 : decode cX9_funds 20 = .ok (.goto 5, 3) := by decide +kernel
theorem dX9_funds_23 : decode cX9_funds 23 = .ok (.ldc 71, 2) := by decide +kernel
theorem dX9_funds_25 : decode cX9_funds 25 = .ok (.ireturn, 1) := by decide +kernel
theorem dX9_rule_0 : decode cX9_rule 0 = .ok (.iload_n 1, 1) := by decide +kernel
theorem dX9_rule_1 : decode cX9_rule 1 = .ok (.iconst 0, 1) := by decide +kernel
theorem dX9_rule_2 : decode cX9_rule 2 = .ok (.iconst 5, 1) := by decide +kernel
theorem dX9_rule_3 : decode cX9_rule 3 = .ok (.invokestatic 67, 3) := by decide +kernel
theorem dX9_rule_6 : decode cX9_rule 6 = .ok (.ifCond .eq 15, 3) := by decide +kernel
theorem dX9_rule_9 : decode cX9_rule 9 = .ok (.iload_n 2, 1) := by decide +kernel
theorem dX9_rule_10 : decode cX9_rule 10 = .ok (.iconst 0, 1) := by decide +kernel
theorem dX9_rule_11 : decode cX9_rule 11 = .ok (.iload_n 1, 1) := by decide +kernel
theorem dX9_rule_12 : decode cX9_rule 12 = .ok (.invokestatic 226, 3) := by decide +kernel
theorem dX9_rule_15 : decode cX9_rule 15 = .ok (.invokestatic 67, 3) := by decide +kernel
theorem dX9_rule_18 : decode cX9_rule 18 = .ok (.ifCond .ne 6, 3) := by decide +kernel
theorem dX9_rule_21 : decode cX9_rule 21 = .ok (.ldc 71, 2) := by decide +kernel
theorem dX9_rule_23 : decode cX9_rule 23 = .ok (.ireturn, 1) := by decide +kernel
theorem dX9_rule_24 : decode cX9_rule 24 = .ok (.aload_n 0, 1) := by decide +kernel
theorem dX9_rule_25 : decode cX9_rule 25 = .ok (.getfield 62, 3) := by decide +kernel
theorem dX9_rule_28 : decode cX9_rule 28 = .ok (.iload_n 1, 1) := by decide +kernel
theorem dX9_rule_29 : decode cX9_rule 29 = .ok (.iaload, 1) := by decide +kernel
theorem dX9_rule_30 : decode cX9_rule 30 = .ok (.istore_n 3, 1) := by decide +kernel
theorem dX9_rule_31 : decode cX9_rule 31 = .ok (.aload_n 0, 1) := by decide +kernel
theorem dX9_rule_32 : decode cX9_rule 32 = .ok (.getfield 62, 3) := by decide +kernel
theorem dX9_rule_35 : decode cX9_rule 35 = .ok (.iload_n 1, 1) := by decide +kernel
theorem dX9_rule_36 : decode cX9_rule 36 = .ok (.iload_n 2, 1) := by decide +kernel
theorem dX9_rule_37 : decode cX9_rule 37 = .ok (.iastore, 1) := by decide +kernel
theorem dX9_rule_38 : decode cX9_rule 38 = .ok (.iload_n 3, 1) := by decide +kernel
theorem dX9_rule_39 : decode cX9_rule 39 = .ok (.ireturn, 1) := by decide +kernel
theorem dX9_spend_0 : decode cX9_spend 0 = .ok (.iload_n 1, 1) := by decide +kernel
theorem dX9_spend_1 : decode cX9_spend 1 = .ok (.iconst 0, 1) := by decide +kernel
theorem dX9_spend_2 : decode cX9_spend 2 = .ok (.iconst 1, 1) := by decide +kernel
theorem dX9_spend_3 : decode cX9_spend 3 = .ok (.invokestatic 67, 3) := by decide +kernel
theorem dX9_spend_6 : decode cX9_spend 6 = .ok (.ifCond .eq 13, 3) := by decide +kernel
theorem dX9_spend_9 : decode cX9_spend 9 = .ok (.iload_n 2, 1) := by decide +kernel
theorem dX9_spend_10 : decode cX9_spend 10 = .ok (.iconst 1, 1) := by decide +kernel
theorem dX9_spend_11 : decode cX9_spend 11 = .ok (.ldc 229, 2) := by decide +kernel
theorem dX9_spend_13 : decode cX9_spend 13 = .ok (.invokestatic 67, 3) := by decide +kernel
theorem dX9_spend_16 : decode cX9_spend 16 = .ok (.ifCond .ne 6, 3) := by decide +kernel
theorem dX9_spend_19 : decode cX9_spend 19 = .ok (.ldc 71, 2) := by decide +kernel
theorem dX9_spend_21 : decode cX9_spend 21 = .ok (.ireturn, 1) := by decide +kernel
theorem dX9_spend_22 : decode cX9_spend 22 = .ok (.aload_n 0, 1) := by decide +kernel
theorem dX9_spend_23 : decode cX9_spend 23 = .ok (.getfield 44, 3) := by decide +kernel
theorem dX9_spend_26 : decode cX9_spend 26 = .ok (.iload_n 1, 1) := by decide +kernel
theorem dX9_spend_27 : decode cX9_spend 27 = .ok (.aload_n 0, 1) := by decide +kernel
theorem dX9_spend_28 : decode cX9_spend 28 = .ok (.getfield 108, 3) := by decide +kernel
theorem dX9_spend_31 : decode cX9_spend 31 = .ok (.invokevirtual 223, 3) := by decide +kernel
theorem dX9_spend_34 : decode cX9_spend 34 = .ok (.iload_n 2, 1) := by decide +kernel
theorem dX9_spend_35 : decode cX9_spend 35 = .ok (.if_icmp .ge 8, 3) := by decide +kernel
theorem dX9_spend_38 : decode cX9_spend 38 = .ok (.ldc 95, 2) := by decide +kernel
theorem dX9_spend_40 : decode cX9_spend 40 = .ok (.goto 9, 3) := by decide +kernel
theorem dX9_spend_43 : decode cX9_spend 43 = .ok (.aload_n 0, 1) := by decide +kernel
theorem dX9_spend_44 : decode cX9_spend 44 = .ok (.iload_n 1, 1) := by decide +kernel
theorem dX9_spend_45 : decode cX9_spend 45 = .ok (.iload_n 2, 1) := by decide +kernel
theorem dX9_spend_46 : decode cX9_spend 46 = .ok (.invokevirtual 230, 3) := by decide +kernel
theorem dX9_spend_49 : decode cX9_spend 49 = .ok (.ireturn, 1) := by decide +kernel
theorem dX9_work_0 : decode cX9_work 0 = .ok (.aload_n 0, 1) := by decide +kernel
theorem dX9_work_1 : decode cX9_work 1 = .ok (.getfield 12, 3) := by decide +kernel
theorem dX9_work_4 : decode cX9_work 4 = .ok (.iload_n 1, 1) := by decide +kernel
theorem dX9_work_5 : decode cX9_work 5 = .ok (.invokevirtual 81, 3) := by decide +kernel
theorem dX9_work_8 : decode cX9_work 8 = .ok (.ifCond .eq 13, 3) := by decide +kernel
theorem dX9_work_11 : decode cX9_work 11 = .ok (.iload_n 2, 1) := by decide +kernel
theorem dX9_work_12 : decode cX9_work 12 = .ok (.iconst 1, 1) := by decide +kernel
theorem dX9_work_13 : decode cX9_work 13 = .ok (.ldc 229, 2) := by decide +kernel
theorem dX9_work_15 : decode cX9_work 15 = .ok (.invokestatic 67, 3) := by decide +kernel
theorem dX9_work_18 : decode cX9_work 18 = .ok (.ifCond .ne 6, 3) := by decide +kernel
theorem dX9_work_21 : decode cX9_work 21 = .ok (.ldc 71, 2) := by decide +kernel
theorem dX9_work_23 : decode cX9_work 23 = .ok (.ireturn, 1) := by decide +kernel
theorem dX9_work_24 : decode cX9_work 24 = .ok (.aload_n 0, 1) := by decide +kernel
theorem dX9_work_25 : decode cX9_work 25 = .ok (.getfield 12, 3) := by decide +kernel
theorem dX9_work_28 : decode cX9_work 28 = .ok (.getfield 85, 3) := by decide +kernel
theorem dX9_work_31 : decode cX9_work 31 = .ok (.iload_n 1, 1) := by decide +kernel
theorem dX9_work_32 : decode cX9_work 32 = .ok (.aaload, 1) := by decide +kernel
theorem dX9_work_33 : decode cX9_work 33 = .ok (.sipush 1000, 3) := by decide +kernel
theorem dX9_work_36 : decode cX9_work 36 = .ok (.invokevirtual 233, 3) := by decide +kernel
theorem dX9_work_39 : decode cX9_work 39 = .ok (.istore_n 3, 1) := by decide +kernel
theorem dX9_work_40 : decode cX9_work 40 = .ok (.aload_n 0, 1) := by decide +kernel
theorem dX9_work_41 : decode cX9_work 41 = .ok (.iload_n 1, 1) := by decide +kernel
theorem dX9_work_42 : decode cX9_work 42 = .ok (.iload_n 2, 1) := by decide +kernel
theorem dX9_work_43 : decode cX9_work 43 = .ok (.iload_n 3, 1) := by decide +kernel
theorem dX9_work_44 : decode cX9_work 44 = .ok (.invokestatic 236, 3) := by decide +kernel
theorem dX9_work_47 : decode cX9_work 47 = .ok (.invokevirtual 241, 3) := by decide +kernel
theorem dX9_work_50 : decode cX9_work 50 = .ok (.istore 4, 2) := by decide +kernel
theorem dX9_work_52 : decode cX9_work 52 = .ok (.iload 4, 2) := by decide +kernel
theorem dX9_work_54 : decode cX9_work 54 = .ok (.ifCond .ne 8, 3) := by decide +kernel
theorem dX9_work_57 : decode cX9_work 57 = .ok (.ldc 95, 2) := by decide +kernel
theorem dX9_work_59 : decode cX9_work 59 = .ok (.goto 5, 3) := by decide +kernel
theorem dX9_work_62 : decode cX9_work 62 = .ok (.iload 4, 2) := by decide +kernel
theorem dX9_work_64 : decode cX9_work 64 = .ok (.ireturn, 1) := by decide +kernel
theorem dX9_years_0 : decode cX9_years 0 = .ok (.iload_n 1, 1) := by decide +kernel
theorem dX9_years_1 : decode cX9_years 1 = .ok (.iconst 1, 1) := by decide +kernel
theorem dX9_years_2 : decode cX9_years 2 = .ok (.bipush 50, 2) := by decide +kernel
theorem dX9_years_4 : decode cX9_years 4 = .ok (.invokestatic 67, 3) := by decide +kernel
theorem dX9_years_7 : decode cX9_years 7 = .ok (.ifCond .eq 15, 3) := by decide +kernel
theorem dX9_years_10 : decode cX9_years 10 = .ok (.aload_n 0, 1) := by decide +kernel
theorem dX9_years_11 : decode cX9_years 11 = .ok (.getfield 108, 3) := by decide +kernel
theorem dX9_years_14 : decode cX9_years 14 = .ok (.iload_n 1, 1) := by decide +kernel
theorem dX9_years_15 : decode cX9_years 15 = .ok (.iadd, 1) := by decide +kernel
theorem dX9_years_16 : decode cX9_years 16 = .ok (.sipush 200, 3) := by decide +kernel
theorem dX9_years_19 : decode cX9_years 19 = .ok (.if_icmp .le 6, 3) := by decide +kernel
theorem dX9_years_22 : decode cX9_years 22 = .ok (.ldc 71, 2) := by decide +kernel
theorem dX9_years_24 : decode cX9_years 24 = .ok (.ireturn, 1) := by decide +kernel
theorem dX9_years_25 : decode cX9_years 25 = .ok (.iconst 0, 1) := by decide +kernel
theorem dX9_years_26 : decode cX9_years 26 = .ok (.istore_n 2, 1) := by decide +kernel
theorem dX9_years_27 : decode cX9_years 27 = .ok (.iload_n 2, 1) := by decide +kernel
theorem dX9_years_28 : decode cX9_years 28 = .ok (.iload_n 1, 1) := by decide +kernel
theorem dX9_years_29 : decode cX9_years 29 = .ok (.if_icmp .ge 59, 3) := by decide +kernel
theorem dX9_years_32 : decode cX9_years 32 = .ok (.aload_n 0, 1) := by decide +kernel
theorem dX9_years_33 : decode cX9_years 33 = .ok (.dup, 1) := by decide +kernel
theorem dX9_years_34 : decode cX9_years 34 = .ok (.getfield 108, 3) := by decide +kernel
theorem dX9_years_37 : decode cX9_years 37 = .ok (.iconst 1, 1) := by decide +kernel
theorem dX9_years_38 : decode cX9_years 38 = .ok (.iadd, 1) := by decide +kernel
theorem dX9_years_39 : decode cX9_years 39 = .ok (.putfield 108, 3) := by decide +kernel
theorem dX9_years_42 : decode cX9_years 42 = .ok (.aload_n 0, 1) := by decide +kernel
theorem dX9_years_43 : decode cX9_years 43 = .ok (.invokevirtual 244, 3) := by decide +kernel
theorem dX9_years_46 : decode cX9_years 46 = .ok (.aload_n 0, 1) := by decide +kernel
theorem dX9_years_47 : decode cX9_years 47 = .ok (.invokevirtual 247, 3) := by decide +kernel
theorem dX9_years_50 : decode cX9_years 50 = .ok (.aload_n 0, 1) := by decide +kernel
theorem dX9_years_51 : decode cX9_years 51 = .ok (.invokevirtual 250, 3) := by decide +kernel
theorem dX9_years_54 : decode cX9_years 54 = .ok (.aload_n 0, 1) := by decide +kernel
theorem dX9_years_55 : decode cX9_years 55 = .ok (.invokevirtual 253, 3) := by decide +kernel
theorem dX9_years_58 : decode cX9_years 58 = .ok (.aload_n 0, 1) := by decide +kernel
theorem dX9_years_59 : decode cX9_years 59 = .ok (.getfield 12, 3) := by decide +kernel
theorem dX9_years_62 : decode cX9_years 62 = .ok (.aload_n 0, 1) := by decide +kernel
theorem dX9_years_63 : decode cX9_years 63 = .ok (.getfield 21, 3) := by decide +kernel
theorem dX9_years_66 : decode cX9_years 66 = .ok (.iconst 0, 1) := by decide +kernel
theorem dX9_years_67 : decode cX9_years 67 = .ok (.aaload, 1) := by decide +kernel
theorem dX9_years_68 : decode cX9_years 68 = .ok (.aload_n 0, 1) := by decide +kernel
theorem dX9_years_69 : decode cX9_years 69 = .ok (.getfield 108, 3) := by decide +kernel
theorem dX9_years_72 : decode cX9_years 72 = .ok (.invokevirtual 111, 3) := by decide +kernel
theorem dX9_years_75 : decode cX9_years 75 = .ok (.invokevirtual 256, 3) := by decide +kernel
theorem dX9_years_78 : decode cX9_years 78 = .ok (.aload_n 0, 1) := by decide +kernel
theorem dX9_years_79 : decode cX9_years 79 = .ok (.invokevirtual 259, 3) := by decide +kernel
theorem dX9_years_82 : decode cX9_years 82 = .ok (.iinc 2 1, 3) := by decide +kernel
theorem dX9_years_85 : decode cX9_years 85 = .ok (.goto (-58), 3) := by decide +kernel
theorem dX9_years_88 : decode cX9_years 88 = .ok (.aload_n 0, 1) := by decide +kernel
theorem dX9_years_89 : decode cX9_years 89 = .ok (.getfield 108, 3) := by decide +kernel
theorem dX9_years_92 : decode cX9_years 92 = .ok (.ireturn, 1) := by decide +kernel
theorem dX9_row_0 : decode cX9_row 0 = .ok (.iload_n 1, 1) := by decide +kernel
theorem dX9_row_1 : decode cX9_row 1 = .ok (.ifCond .lt 12, 3) := by decide +kernel
theorem dX9_row_4 : decode cX9_row 4 = .ok (.iload_n 2, 1) := by decide +kernel
theorem dX9_row_5 : decode cX9_row 5 = .ok (.iconst 0, 1) := by decide +kernel
theorem dX9_row_6 : decode cX9_row 6 = .ok (.iconst 3, 1) := by decide +kernel
theorem dX9_row_7 : decode cX9_row 7 = .ok (.invokestatic 67, 3) := by decide +kernel
theorem dX9_row_10 : decode cX9_row 10 = .ok (.ifCond .ne 6, 3) := by decide +kernel
theorem dX9_row_13 : decode cX9_row 13 = .ok (.ldc 71, 2) := by decide +kernel
theorem dX9_row_15 : decode cX9_row 15 = .ok (.ireturn, 1) := by decide +kernel
theorem dX9_row_16 : decode cX9_row 16 = .ok (.iload_n 1, 1) := by decide +kernel
theorem dX9_row_17 : decode cX9_row 17 = .ok (.aload_n 0, 1) := by decide +kernel
theorem dX9_row_18 : decode cX9_row 18 = .ok (.getfield 51, 3) := by decide +kernel
theorem dX9_row_21 : decode cX9_row 21 = .ok (.getfield 262, 3) := by decide +kernel
theorem dX9_row_24 : decode cX9_row 24 = .ok (.if_icmp .lt 9, 3) := by decide +kernel
theorem dX9_row_27 : decode cX9_row 27 = .ok (.ldc_w 263, 3) := by decide +kernel
theorem dX9_row_30 : decode cX9_row 30 = .ok (.goto 12, 3) := by decide +kernel
theorem dX9_row_33 : decode cX9_row 33 = .ok (.aload_n 0, 1) := by decide +kernel
theorem dX9_row_34 : decode cX9_row 34 = .ok (.getfield 51, 3) := by decide +kernel
theorem dX9_row_37 : decode cX9_row 37 = .ok (.iload_n 1, 1) := by decide +kernel
theorem dX9_row_38 : decode cX9_row 38 = .ok (.iload_n 2, 1) := by decide +kernel
theorem dX9_row_39 : decode cX9_row 39 = .ok (.invokevirtual 264, 3) := by decide +kernel
theorem dX9_row_42 : decode cX9_row 42 = .ok (.ireturn, 1) := by decide +kernel
theorem dX9_roll_0 : decode cX9_roll 0 = .ok (.iload_n 1, 1) := by decide +kernel
theorem dX9_roll_1 : decode cX9_roll 1 = .ok (.iconst 0, 1) := by decide +kernel
theorem dX9_roll_2 : decode cX9_roll 2 = .ok (.sipush 200, 3) := by decide +kernel
theorem dX9_roll_5 : decode cX9_roll 5 = .ok (.invokestatic 67, 3) := by decide +kernel
theorem dX9_roll_8 : decode cX9_roll 8 = .ok (.ifCond .eq 13, 3) := by decide +kernel
theorem dX9_roll_11 : decode cX9_roll 11 = .ok (.iload_n 2, 1) := by decide +kernel
theorem dX9_roll_12 : decode cX9_roll 12 = .ok (.iconst 0, 1) := by decide +kernel
theorem dX9_roll_13 : decode cX9_roll 13 = .ok (.bipush 6, 2) := by decide +kernel
theorem dX9_roll_15 : decode cX9_roll 15 = .ok (.invokestatic 67, 3) := by decide +kernel
theorem dX9_roll_18 : decode cX9_roll 18 = .ok (.ifCond .ne 6, 3) := by decide +kernel
theorem dX9_roll_21 : decode cX9_roll 21 = .ok (.ldc 71, 2) := by decide +kernel
theorem dX9_roll_23 : decode cX9_roll 23 = .ok (.ireturn, 1) := by decide +kernel
theorem dX9_roll_24 : decode cX9_roll 24 = .ok (.aload_n 0, 1) := by decide +kernel
theorem dX9_roll_25 : decode cX9_roll 25 = .ok (.getfield 58, 3) := by decide +kernel
theorem dX9_roll_28 : decode cX9_roll 28 = .ok (.iload_n 1, 1) := by decide +kernel
theorem dX9_roll_29 : decode cX9_roll 29 = .ok (.iload_n 2, 1) := by decide +kernel
theorem dX9_roll_30 : decode cX9_roll 30 = .ok (.invokevirtual 267, 3) := by decide +kernel
theorem dX9_roll_33 : decode cX9_roll 33 = .ok (.ireturn, 1) := by decide +kernel
theorem dX9_sum_0 : decode cX9_sum 0 = .ok (.aload_n 0, 1) := by decide +kernel
theorem dX9_sum_1 : decode cX9_sum 1 = .ok (.getfield 44, 3) := by decide +kernel
theorem dX9_sum_4 : decode cX9_sum 4 = .ok (.invokevirtual 268, 3) := by decide +kernel
theorem dX9_sum_7 : decode cX9_sum 7 = .ok (.ireturn, 1) := by decide +kernel
theorem dX9_spent_0 : decode cX9_spent 0 = .ok (.aload_n 0, 1) := by decide +kernel
theorem dX9_spent_1 : decode cX9_spent 1 = .ok (.getfield 44, 3) := by decide +kernel
theorem dX9_spent_4 : decode cX9_spent 4 = .ok (.iload_n 1, 1) := by decide +kernel
theorem dX9_spent_5 : decode cX9_spent 5 = .ok (.invokevirtual 195, 3) := by decide +kernel
theorem dX9_spent_8 : decode cX9_spent 8 = .ok (.ifCond .eq 28, 3) := by decide +kernel
theorem dX9_spent_11 : decode cX9_spent 11 = .ok (.aload_n 0, 1) := by decide +kernel
theorem dX9_spent_12 : decode cX9_spent 12 = .ok (.iload_n 2, 1) := by decide +kernel
theorem dX9_spent_13 : decode cX9_spent 13 = .ok (.invokevirtual 220, 3) := by decide +kernel
theorem dX9_spent_16 : decode cX9_spent 16 = .ok (.ifCond .eq 20, 3) := by decide +kernel
theorem dX9_spent_19 : decode cX9_spent 19 = .ok (.aload_n 0, 1) := by decide +kernel
theorem dX9_spent_20 : decode cX9_spent 20 = .ok (.getfield 44, 3) := by decide +kernel
theorem dX9_spent_23 : decode cX9_spent 23 = .ok (.getfield 187, 3) := by decide +kernel
theorem dX9_spent_26 : decode cX9_spent 26 = .ok (.iload_n 1, 1) := by decide +kernel
theorem dX9_spent_27 : decode cX9_spent 27 = .ok (.aaload, 1) := by decide +kernel
theorem dX9_spent_28 : decode cX9_spent 28 = .ok (.getfield 271, 3) := by decide +kernel
theorem dX9_spent_31 : decode cX9_spent 31 = .ok (.iload_n 2, 1) := by decide +kernel
theorem dX9_spent_32 : decode cX9_spent 32 = .ok (.iaload, 1) := by decide +kernel
theorem dX9_spent_33 : decode cX9_spent 33 = .ok (.goto 5, 3) := by decide +kernel
theorem dX9_spent_36 : decode cX9_spent 36 = .ok (.ldc 71, 2) := by decide +kernel
theorem dX9_spent_38 : decode cX9_spent 38 = .ok (.ireturn, 1) := by decide +kernel
theorem dX9_count_0 : decode cX9_count 0 = .ok (.iload_n 1, 1) := by decide +kernel
theorem dX9_count_1 : decode cX9_count 1 = .ok (.tableswitch 105 0 7 #[47, 55, 63, 71, 79, 84, 92, 100], 47) := by decide +kernel
theorem dX9_count_48 : decode cX9_count 48 = .ok (.aload_n 0, 1) := by decide +kernel
theorem dX9_count_49 : decode cX9_count 49 = .ok (.getfield 12, 3) := by decide +kernel
theorem dX9_count_52 : decode cX9_count 52 = .ok (.getfield 72, 3) := by decide +kernel
theorem dX9_count_55 : decode cX9_count 55 = .ok (.ireturn, 1) := by decide +kernel
theorem dX9_count_56 : decode cX9_count 56 = .ok (.aload_n 0, 1) := by decide +kernel
theorem dX9_count_57 : decode cX9_count 57 = .ok (.getfield 12, 3) := by decide +kernel
theorem dX9_count_60 : decode cX9_count 60 = .ok (.invokevirtual 273, 3) := by decide +kernel
theorem dX9_count_63 : decode cX9_count 63 = .ok (.ireturn, 1) := by decide +kernel
theorem dX9_count_64 : decode cX9_count 64 = .ok (.aload_n 0, 1) := by decide +kernel
theorem dX9_count_65 : decode cX9_count 65 = .ok (.getfield 44, 3) := by decide +kernel
theorem dX9_count_68 : decode cX9_count 68 = .ok (.getfield 179, 3) := by decide +kernel
theorem dX9_count_71 : decode cX9_count 71 = .ok (.ireturn, 1) := by decide +kernel
theorem dX9_count_72 : decode cX9_count 72 = .ok (.aload_n 0, 1) := by decide +kernel
theorem dX9_count_73 : decode cX9_count 73 = .ok (.getfield 51, 3) := by decide +kernel
theorem dX9_count_76 : decode cX9_count 76 = .ok (.getfield 262, 3) := by decide +kernel
theorem dX9_count_79 : decode cX9_count 79 = .ok (.ireturn, 1) := by decide +kernel
theorem dX9_count_80 : decode cX9_count 80 = .ok (.aload_n 0, 1) := by decide +kernel
theorem dX9_count_81 : decode cX9_count 81 = .ok (.getfield 108, 3) := by decide +kernel
theorem dX9_count_84 : decode cX9_count 84 = .ok (.ireturn, 1) := by decide +kernel
theorem dX9_count_85 : decode cX9_count 85 = .ok (.aload_n 0, 1) := by decide +kernel
theorem dX9_count_86 : decode cX9_count 86 = .ok (.getfield 28, 3) := by decide +kernel
theorem dX9_count_89 : decode cX9_count 89 = .ok (.getfield 168, 3) := by decide +kernel
theorem dX9_count_92 : decode cX9_count 92 = .ok (.ireturn, 1) := by decide +kernel
theorem dX9_count_93 : decode cX9_count 93 = .ok (.aload_n 0, 1) := by decide +kernel
theorem dX9_count_94 : decode cX9_count 94 = .ok (.getfield 12, 3) := by decide +kernel
theorem dX9_count_97 : decode cX9_count 97 = .ok (.invokevirtual 276, 3) := by decide +kernel
theorem dX9_count_100 : decode cX9_count 100 = .ok (.ireturn, 1) := by decide +kernel
theorem dX9_count_101 : decode cX9_count 101 = .ok (.aload_n 0, 1) := by decide +kernel
theorem dX9_count_102 : decode cX9_count 102 = .ok (.invokevirtual 278, 3) := by decide +kernel
theorem dX9_count_105 : decode cX9_count 105 = .ok (.ireturn, 1) := by decide +kernel
theorem dX9_count_106 : decode cX9_count 106 = .ok (.ldc 71, 2) := by decide +kernel
theorem dX9_count_108 : decode cX9_count 108 = .ok (.ireturn, 1) := by decide +kernel
theorem dX9_isWithin_0 : decode cX9_isWithin 0 = .ok (.iload_n 0, 1) := by decide +kernel
theorem dX9_isWithin_1 : decode cX9_isWithin 1 = .ok (.iload_n 1, 1) := by decide +kernel
theorem dX9_isWithin_2 : decode cX9_isWithin 2 = .ok (.if_icmp .lt 12, 3) := by decide +kernel
theorem dX9_isWithin_5 : decode cX9_isWithin 5 = .ok (.iload_n 0, 1) := by decide +kernel
theorem dX9_isWithin_6 : decode cX9_isWithin 6 = .ok (.iload_n 2, 1) := by decide +kernel
theorem dX9_isWithin_7 : decode cX9_isWithin 7 = .ok (.if_icmp .gt 7, 3) := by decide +kernel
theorem dX9_isWithin_10 : decode cX9_isWithin 10 = .ok (.iconst 1, 1) := by decide +kernel
theorem dX9_isWithin_11 : decode cX9_isWithin 11 = .ok (.goto 4, 3) := by decide +kernel
theorem dX9_isWithin_14 : decode cX9_isWithin 14 = .ok (.iconst 0, 1) := by decide +kernel
theorem dX9_isWithin_15 : decode cX9_isWithin 15 = .ok (.ireturn, 1) := by decide +kernel
theorem dX9_isSheet_0 : decode cX9_isSheet 0 = .ok (.iload_n 0, 1) := by decide +kernel
theorem dX9_isSheet_1 : decode cX9_isSheet 1 = .ok (.iconst 0, 1) := by decide +kernel
theorem dX9_isSheet_2 : decode cX9_isSheet 2 = .ok (.iconst 3, 1) := by decide +kernel
theorem dX9_isSheet_3 : decode cX9_isSheet 3 = .ok (.invokestatic 67, 3) := by decide +kernel
theorem dX9_isSheet_6 : decode cX9_isSheet 6 = .ok (.ireturn, 1) := by decide +kernel
theorem dX9_isEnd_0 : decode cX9_isEnd 0 = .ok (.iload_n 1, 1) := by decide +kernel
theorem dX9_isEnd_1 : decode cX9_isEnd 1 = .ok (.iconst 0, 1) := by decide +kernel
theorem dX9_isEnd_2 : decode cX9_isEnd 2 = .ok (.iconst 1, 1) := by decide +kernel
theorem dX9_isEnd_3 : decode cX9_isEnd 3 = .ok (.invokestatic 67, 3) := by decide +kernel
theorem dX9_isEnd_6 : decode cX9_isEnd 6 = .ok (.ifCond .ne 21, 3) := by decide +kernel
theorem dX9_isEnd_9 : decode cX9_isEnd 9 = .ok (.iload_n 1, 1) := by decide +kernel
theorem dX9_isEnd_10 : decode cX9_isEnd 10 = .ok (.iconst 2, 1) := by decide +kernel
theorem dX9_isEnd_11 : decode cX9_isEnd 11 = .ok (.if_icmp .lt 20, 3) := by decide +kernel
theorem dX9_isEnd_14 : decode cX9_isEnd 14 = .ok (.aload_n 0, 1) := by decide +kernel
theorem dX9_isEnd_15 : decode cX9_isEnd 15 = .ok (.getfield 12, 3) := by decide +kernel
theorem dX9_isEnd_18 : decode cX9_isEnd 18 = .ok (.iload_n 1, 1) := by decide +kernel
theorem dX9_isEnd_19 : decode cX9_isEnd 19 = .ok (.iconst 2, 1) := by decide +kernel
theorem dX9_isEnd_20 : decode cX9_isEnd 20 = .ok (.isub, 1) := by decide +kernel
theorem dX9_isEnd_21 : decode cX9_isEnd 21 = .ok (.invokevirtual 81, 3) := by decide +kernel
theorem dX9_isEnd_24 : decode cX9_isEnd 24 = .ok (.ifCond .eq 7, 3) := by decide +kernel
theorem dX9_isEnd_27 : decode cX9_isEnd 27 = .ok (.iconst 1, 1) := by decide +kernel
theorem dX9_isEnd_28 : decode cX9_isEnd 28 = .ok (.goto 4, 3) := by decide +kernel
theorem dX9_isEnd_31 : decode cX9_isEnd 31 = .ok (.iconst 0, 1) := by decide +kernel
theorem dX9_isEnd_32 : decode cX9_isEnd 32 = .ok (.ireturn, 1) := by decide +kernel
theorem dX9_mostOfRule_0 : decode cX9_mostOfRule 0 = .ok (.iload_n 0, 1) := by decide +kernel
theorem dX9_mostOfRule_1 : decode cX9_mostOfRule 1 = .ok (.lookupswitch 34 #[(4, 27), (5, 30)], 27) := by decide +kernel
theorem dX9_mostOfRule_28 : decode cX9_mostOfRule 28 = .ok (.bipush 10, 2) := by decide +kernel
theorem dX9_mostOfRule_30 : decode cX9_mostOfRule 30 = .ok (.ireturn, 1) := by decide +kernel
theorem dX9_mostOfRule_31 : decode cX9_mostOfRule 31 = .ok (.sipush 1000, 3) := by decide +kernel
theorem dX9_mostOfRule_34 : decode cX9_mostOfRule 34 = .ok (.ireturn, 1) := by decide +kernel
theorem dX9_mostOfRule_35 : decode cX9_mostOfRule 35 = .ok (.bipush 100, 2) := by decide +kernel
theorem dX9_mostOfRule_37 : decode cX9_mostOfRule 37 = .ok (.ireturn, 1) := by decide +kernel
theorem dX9_sheetsThere_0 : decode cX9_sheetsThere 0 = .ok (.iconst 0, 1) := by decide +kernel
theorem dX9_sheetsThere_1 : decode cX9_sheetsThere 1 = .ok (.istore_n 1, 1) := by decide +kernel
theorem dX9_sheetsThere_2 : decode cX9_sheetsThere 2 = .ok (.iconst 0, 1) := by decide +kernel
theorem dX9_sheetsThere_3 : decode cX9_sheetsThere 3 = .ok (.istore_n 2, 1) := by decide +kernel
theorem dX9_sheetsThere_4 : decode cX9_sheetsThere 4 = .ok (.iload_n 2, 1) := by decide +kernel
theorem dX9_sheetsThere_5 : decode cX9_sheetsThere 5 = .ok (.iconst 4, 1) := by decide +kernel
theorem dX9_sheetsThere_6 : decode cX9_sheetsThere 6 = .ok (.if_icmp .ge 29, 3) := by decide +kernel
theorem dX9_sheetsThere_9 : decode cX9_sheetsThere 9 = .ok (.iload_n 1, 1) := by decide +kernel
theorem dX9_sheetsThere_10 : decode cX9_sheetsThere 10 = .ok (.aload_n 0, 1) := by decide +kernel
theorem dX9_sheetsThere_11 : decode cX9_sheetsThere 11 = .ok (.getfield 21, 3) := by decide +kernel
theorem dX9_sheetsThere_14 : decode cX9_sheetsThere 14 = .ok (.iload_n 2, 1) := by decide +kernel
theorem dX9_sheetsThere_15 : decode cX9_sheetsThere 15 = .ok (.aaload, 1) := by decide +kernel
theorem dX9_sheetsThere_16 : decode cX9_sheetsThere 16 = .ok (.getfield 139, 3) := by decide +kernel
theorem dX9_sheetsThere_19 : decode cX9_sheetsThere 19 = .ok (.ifCond .eq 7, 3) := by decide +kernel
theorem dX9_sheetsThere_22 : decode cX9_sheetsThere 22 = .ok (.iconst 0, 1) := by decide +kernel
theorem dX9_sheetsThere_23 : decode cX9_sheetsThere 23 = .ok (.goto 4, 3) := by decide +kernel
theorem dX9_sheetsThere_26 : decode cX9_sheetsThere 26 = .ok (.iconst 1, 1) := by decide +kernel
theorem dX9_sheetsThere_27 : decode cX9_sheetsThere 27 = .ok (.iadd, 1) := by decide +kernel
theorem dX9_sheetsThere_28 : decode cX9_sheetsThere 28 = .ok (.istore_n 1, 1) := by decide +kernel
theorem dX9_sheetsThere_29 : decode cX9_sheetsThere 29 = .ok (.iinc 2 1, 3) := by decide +kernel
theorem dX9_sheetsThere_32 : decode cX9_sheetsThere 32 = .ok (.goto (-28), 3) := by decide +kernel
theorem dX9_sheetsThere_35 : decode cX9_sheetsThere 35 = .ok (.iload_n 1, 1) := by decide +kernel
theorem dX9_sheetsThere_36 : decode cX9_sheetsThere 36 = .ok (.ireturn, 1) := by decide +kernel
theorem dX9_yearOfFall_0 : decode cX9_yearOfFall 0 = .ok (.aload_n 0, 1) := by decide +kernel
theorem dX9_yearOfFall_1 : decode cX9_yearOfFall 1 = .ok (.getfield 12, 3) := by decide +kernel
theorem dX9_yearOfFall_4 : decode cX9_yearOfFall 4 = .ok (.getfield 85, 3) := by decide +kernel
theorem dX9_yearOfFall_7 : decode cX9_yearOfFall 7 = .ok (.iload_n 1, 1) := by decide +kernel
theorem dX9_yearOfFall_8 : decode cX9_yearOfFall 8 = .ok (.aaload, 1) := by decide +kernel
theorem dX9_yearOfFall_9 : decode cX9_yearOfFall 9 = .ok (.invokevirtual 89, 3) := by decide +kernel
theorem dX9_yearOfFall_12 : decode cX9_yearOfFall 12 = .ok (.ifCond .eq 7, 3) := by decide +kernel
theorem dX9_yearOfFall_15 : decode cX9_yearOfFall 15 = .ok (.ldc_w 263, 3) := by decide +kernel
theorem dX9_yearOfFall_18 : decode cX9_yearOfFall 18 = .ok (.ireturn, 1) := by decide +kernel
theorem dX9_yearOfFall_19 : decode cX9_yearOfFall 19 = .ok (.aload_n 0, 1) := by decide +kernel
theorem dX9_yearOfFall_20 : decode cX9_yearOfFall 20 = .ok (.getfield 16, 3) := by decide +kernel
theorem dX9_yearOfFall_23 : decode cX9_yearOfFall 23 = .ok (.aload_n 0, 1) := by decide +kernel
theorem dX9_yearOfFall_24 : decode cX9_yearOfFall 24 = .ok (.getfield 12, 3) := by decide +kernel
theorem dX9_yearOfFall_27 : decode cX9_yearOfFall 27 = .ok (.invokevirtual 281, 3) := by decide +kernel
theorem dX9_yearOfFall_30 : decode cX9_yearOfFall 30 = .ok (.aload_n 0, 1) := by decide +kernel
theorem dX9_yearOfFall_31 : decode cX9_yearOfFall 31 = .ok (.getfield 108, 3) := by decide +kernel
theorem dX9_yearOfFall_34 : decode cX9_yearOfFall 34 = .ok (.bipush 60, 2) := by decide +kernel
theorem dX9_yearOfFall_36 : decode cX9_yearOfFall 36 = .ok (.iadd, 1) := by decide +kernel
theorem dX9_yearOfFall_37 : decode cX9_yearOfFall 37 = .ok (.sipush 200, 3) := by decide +kernel
theorem dX9_yearOfFall_40 : decode cX9_yearOfFall 40 = .ok (.invokestatic 236, 3) := by decide +kernel
theorem dX9_yearOfFall_43 : decode cX9_yearOfFall 43 = .ok (.istore_n 2, 1) := by decide +kernel
theorem dX9_yearOfFall_44 : decode cX9_yearOfFall 44 = .ok (.aload_n 0, 1) := by decide +kernel
theorem dX9_yearOfFall_45 : decode cX9_yearOfFall 45 = .ok (.getfield 108, 3) := by decide +kernel
theorem dX9_yearOfFall_48 : decode cX9_yearOfFall 48 = .ok (.iconst 1, 1) := by decide +kernel
theorem dX9_yearOfFall_49 : decode cX9_yearOfFall 49 = .ok (.iadd, 1) := by decide +kernel
theorem dX9_yearOfFall_50 : decode cX9_yearOfFall 50 = .ok (.istore_n 3, 1) := by decide +kernel
theorem dX9_yearOfFall_51 : decode cX9_yearOfFall 51 = .ok (.iload_n 3, 1) := by decide +kernel
theorem dX9_yearOfFall_52 : decode cX9_yearOfFall 52 = .ok (.iload_n 2, 1) := by decide +kernel
theorem dX9_yearOfFall_53 : decode cX9_yearOfFall 53 = .ok (.if_icmp .gt 43, 3) := by decide +kernel
theorem dX9_yearOfFall_56 : decode cX9_yearOfFall 56 = .ok (.aload_n 0, 1) := by decide +kernel
theorem dX9_yearOfFall_57 : decode cX9_yearOfFall 57 = .ok (.getfield 16, 3) := by decide +kernel
theorem dX9_yearOfFall_60 : decode cX9_yearOfFall 60 = .ok (.aload_n 0, 1) := by decide +kernel
theorem dX9_yearOfFall_61 : decode cX9_yearOfFall 61 = .ok (.getfield 21, 3) := by decide +kernel
theorem dX9_yearOfFall_64 : decode cX9_yearOfFall 64 = .ok (.iconst 0, 1) := by decide +kernel
theorem dX9_yearOfFall_65 : decode cX9_yearOfFall 65 = .ok (.aaload, 1) := by decide +kernel
theorem dX9_yearOfFall_66 : decode cX9_yearOfFall 66 = .ok (.iload_n 3, 1) := by decide +kernel
theorem dX9_yearOfFall_67 : decode cX9_yearOfFall 67 = .ok (.invokevirtual 111, 3) := by decide +kernel
theorem dX9_yearOfFall_70 : decode cX9_yearOfFall 70 = .ok (.invokevirtual 256, 3) := by decide +kernel
theorem dX9_yearOfFall_73 : decode cX9_yearOfFall 73 = .ok (.aload_n 0, 1) := by decide +kernel
theorem dX9_yearOfFall_74 : decode cX9_yearOfFall 74 = .ok (.getfield 16, 3) := by decide +kernel
theorem dX9_yearOfFall_77 : decode cX9_yearOfFall 77 = .ok (.getfield 85, 3) := by decide +kernel
theorem dX9_yearOfFall_80 : decode cX9_yearOfFall 80 = .ok (.iload_n 1, 1) := by decide +kernel
theorem dX9_yearOfFall_81 : decode cX9_yearOfFall 81 = .ok (.aaload, 1) := by decide +kernel
theorem dX9_yearOfFall_82 : decode cX9_yearOfFall 82 = .ok (.invokevirtual 89, 3) := by decide +kernel
theorem dX9_yearOfFall_85 : decode cX9_yearOfFall 85 = .ok (.ifCond .eq 5, 3) := by decide +kernel
theorem dX9_yearOfFall_88 : decode cX9_yearOfFall 88 = .ok (.iload_n 3, 1) := by decide +kernel
theorem dX9_yearOfFall_89 : decode cX9_yearOfFall 89 = .ok (.ireturn, 1) := by decide +kernel
theorem dX9_yearOfFall_90 : decode cX9_yearOfFall 90 = .ok (.iinc 3 1, 3) := by decide +kernel
theorem dX9_yearOfFall_93 : decode cX9_yearOfFall 93 = .ok (.goto (-42), 3) := by decide +kernel
theorem dX9_yearOfFall_96 : decode cX9_yearOfFall 96 = .ok (.ldc_w 263, 3) := by decide +kernel
theorem dX9_yearOfFall_99 : decode cX9_yearOfFall 99 = .ok (.ireturn, 1) := by decide +kernel
theorem dX9_bringGift_0 : decode cX9_bringGift 0 = .ok (.aload_n 1, 1) := by decide +kernel
theorem dX9_bringGift_1 : decode cX9_bringGift 1 = .ok (.aload_n 1, 1) := by decide +kernel
theorem dX9_bringGift_2 : decode cX9_bringGift 2 = .ok (.getfield 285, 3) := by decide +kernel
theorem dX9_bringGift_5 : decode cX9_bringGift 5 = .ok (.invokevirtual 288, 3) := by decide +kernel
theorem dX9_bringGift_8 : decode cX9_bringGift 8 = .ok (.aload_n 0, 1) := by decide +kernel
theorem dX9_bringGift_9 : decode cX9_bringGift 9 = .ok (.getfield 58, 3) := by decide +kernel
theorem dX9_bringGift_12 : decode cX9_bringGift 12 = .ok (.aload_n 0, 1) := by decide +kernel
theorem dX9_bringGift_13 : decode cX9_bringGift 13 = .ok (.getfield 108, 3) := by decide +kernel
theorem dX9_bringGift_16 : decode cX9_bringGift 16 = .ok (.iconst 0, 1) := by decide +kernel
theorem dX9_bringGift_17 : decode cX9_bringGift 17 = .ok (.aload_n 1, 1) := by decide +kernel
theorem dX9_bringGift_18 : decode cX9_bringGift 18 = .ok (.getfield 285, 3) := by decide +kernel
theorem dX9_bringGift_21 : decode cX9_bringGift 21 = .ok (.invokevirtual 291, 3) := by decide +kernel
theorem dX9_bringGift_24 : decode cX9_bringGift 24 = .ok (.return_, 1) := by decide +kernel
theorem dX9_takeCoins_0 : decode cX9_takeCoins 0 = .ok (.iload_n 2, 1) := by decide +kernel
theorem dX9_takeCoins_1 : decode cX9_takeCoins 1 = .ok (.istore_n 3, 1) := by decide +kernel
theorem dX9_takeCoins_2 : decode cX9_takeCoins 2 = .ok (.iconst 0, 1) := by decide +kernel
theorem dX9_takeCoins_3 : decode cX9_takeCoins 3 = .ok (.istore 4, 2) := by decide +kernel
theorem dX9_takeCoins_5 : decode cX9_takeCoins 5 = .ok (.iload 4, 2) := by decide +kernel
theorem dX9_takeCoins_7 : decode cX9_takeCoins 7 = .ok (.bipush 20, 2) := by decide +kernel
theorem dX9_takeCoins_9 : decode cX9_takeCoins 9 = .ok (.if_icmp .ge 92, 3) := by decide +kernel
theorem dX9_takeCoins_12 : decode cX9_takeCoins 12 = .ok (.iload_n 3, 1) := by decide +kernel
theorem dX9_takeCoins_13 : decode cX9_takeCoins 13 = .ok (.ifCond .le 88, 3) := by decide +kernel
theorem dX9_takeCoins_16 : decode cX9_takeCoins 16 = .ok (.aload_n 0, 1) := by decide +kernel
theorem dX9_takeCoins_17 : decode cX9_takeCoins 17 = .ok (.getfield 44, 3) := by decide +kernel
theorem dX9_takeCoins_20 : decode cX9_takeCoins 20 = .ok (.iload_n 1, 1) := by decide +kernel
theorem dX9_takeCoins_21 : decode cX9_takeCoins 21 = .ok (.aload_n 0, 1) := by decide +kernel
theorem dX9_takeCoins_22 : decode cX9_takeCoins 22 = .ok (.getfield 108, 3) := by decide +kernel
theorem dX9_takeCoins_25 : decode cX9_takeCoins 25 = .ok (.invokevirtual 295, 3) := by decide +kernel
theorem dX9_takeCoins_28 : decode cX9_takeCoins 28 = .ok (.istore 5, 2) := by decide +kernel
theorem dX9_takeCoins_30 : decode cX9_takeCoins 30 = .ok (.iload 5, 2) := by decide +kernel
theorem dX9_takeCoins_32 : decode cX9_takeCoins 32 = .ok (.iconst (-1), 1) := by decide +kernel
theorem dX9_takeCoins_33 : decode cX9_takeCoins 33 = .ok (.if_icmp .ne 6, 3) := by decide +kernel
theorem dX9_takeCoins_36 : decode cX9_takeCoins 36 = .ok (.goto 65, 3) := by decide +kernel
theorem dX9_takeCoins_39 : decode cX9_takeCoins 39 = .ok (.iload_n 3, 1) := by decide +kernel
theorem dX9_takeCoins_40 : decode cX9_takeCoins 40 = .ok (.aload_n 0, 1) := by decide +kernel
theorem dX9_takeCoins_41 : decode cX9_takeCoins 41 = .ok (.getfield 44, 3) := by decide +kernel
theorem dX9_takeCoins_44 : decode cX9_takeCoins 44 = .ok (.getfield 187, 3) := by decide +kernel
theorem dX9_takeCoins_47 : decode cX9_takeCoins 47 = .ok (.iload 5, 2) := by decide +kernel
theorem dX9_takeCoins_49 : decode cX9_takeCoins 49 = .ok (.aaload, 1) := by decide +kernel
theorem dX9_takeCoins_50 : decode cX9_takeCoins 50 = .ok (.getfield 205, 3) := by decide +kernel
theorem dX9_takeCoins_53 : decode cX9_takeCoins 53 = .ok (.invokestatic 236, 3) := by decide +kernel
theorem dX9_takeCoins_56 : decode cX9_takeCoins 56 = .ok (.istore 6, 2) := by decide +kernel
theorem dX9_takeCoins_58 : decode cX9_takeCoins 58 = .ok (.aload_n 0, 1) := by decide +kernel
theorem dX9_takeCoins_59 : decode cX9_takeCoins 59 = .ok (.getfield 44, 3) := by decide +kernel
theorem dX9_takeCoins_62 : decode cX9_takeCoins 62 = .ok (.getfield 187, 3) := by decide +kernel
theorem dX9_takeCoins_65 : decode cX9_takeCoins 65 = .ok (.iload 5, 2) := by decide +kernel
theorem dX9_takeCoins_67 : decode cX9_takeCoins 67 = .ok (.aaload, 1) := by decide +kernel
theorem dX9_takeCoins_68 : decode cX9_takeCoins 68 = .ok (.iload_n 1, 1) := by decide +kernel
theorem dX9_takeCoins_69 : decode cX9_takeCoins 69 = .ok (.iload 6, 2) := by decide +kernel
theorem dX9_takeCoins_71 : decode cX9_takeCoins 71 = .ok (.invokevirtual 298, 3) := by decide +kernel
theorem dX9_takeCoins_74 : decode cX9_takeCoins 74 = .ok (.aload_n 0, 1) := by decide +kernel
theorem dX9_takeCoins_75 : decode cX9_takeCoins 75 = .ok (.getfield 51, 3) := by decide +kernel
theorem dX9_takeCoins_78 : decode cX9_takeCoins 78 = .ok (.aload_n 0, 1) := by decide +kernel
theorem dX9_takeCoins_79 : decode cX9_takeCoins 79 = .ok (.getfield 108, 3) := by decide +kernel
theorem dX9_takeCoins_82 : decode cX9_takeCoins 82 = .ok (.iload 5, 2) := by decide +kernel
theorem dX9_takeCoins_84 : decode cX9_takeCoins 84 = .ok (.iload_n 1, 1) := by decide +kernel
theorem dX9_takeCoins_85 : decode cX9_takeCoins 85 = .ok (.iload 6, 2) := by decide +kernel
theorem dX9_takeCoins_87 : decode cX9_takeCoins 87 = .ok (.invokevirtual 301, 3) := by decide +kernel
theorem dX9_takeCoins_90 : decode cX9_takeCoins 90 = .ok (.iload_n 3, 1) := by decide +kernel
theorem dX9_takeCoins_91 : decode cX9_takeCoins 91 = .ok (.iload 6, 2) := by decide +kernel
theorem dX9_takeCoins_93 : decode cX9_takeCoins 93 = .ok (.isub, 1) := by decide +kernel
theorem dX9_takeCoins_94 : decode cX9_takeCoins 94 = .ok (.istore_n 3, 1) := by decide +kernel
theorem dX9_takeCoins_95 : decode cX9_takeCoins 95 = .ok (.iinc 4 1, 3) := by decide +kernel
theorem dX9_takeCoins_98 : decode cX9_takeCoins 98 = .ok (.goto (-93), 3) := by decide +kernel
theorem dX9_takeCoins_101 : decode cX9_takeCoins 101 = .ok (.aload_n 0, 1) := by decide +kernel
theorem dX9_takeCoins_102 : decode cX9_takeCoins 102 = .ok (.getfield 58, 3) := by decide +kernel
theorem dX9_takeCoins_105 : decode cX9_takeCoins 105 = .ok (.aload_n 0, 1) := by decide +kernel
theorem dX9_takeCoins_106 : decode cX9_takeCoins 106 = .ok (.getfield 108, 3) := by decide +kernel
theorem dX9_takeCoins_109 : decode cX9_takeCoins 109 = .ok (.iconst 3, 1) := by decide +kernel
theorem dX9_takeCoins_110 : decode cX9_takeCoins 110 = .ok (.iload_n 1, 1) := by decide +kernel
theorem dX9_takeCoins_111 : decode cX9_takeCoins 111 = .ok (.iconst 2, 1) := by decide +kernel
theorem dX9_takeCoins_112 : decode cX9_takeCoins 112 = .ok (.invokestatic 236, 3) := by decide +kernel
theorem dX9_takeCoins_115 : decode cX9_takeCoins 115 = .ok (.iadd, 1) := by decide +kernel
theorem dX9_takeCoins_116 : decode cX9_takeCoins 116 = .ok (.iload_n 2, 1) := by decide +kernel
theorem dX9_takeCoins_117 : decode cX9_takeCoins 117 = .ok (.iload_n 3, 1) := by decide +kernel
theorem dX9_takeCoins_118 : decode cX9_takeCoins 118 = .ok (.isub, 1) := by decide +kernel
theorem dX9_takeCoins_119 : decode cX9_takeCoins 119 = .ok (.invokevirtual 291, 3) := by decide +kernel
theorem dX9_takeCoins_122 : decode cX9_takeCoins 122 = .ok (.iload_n 2, 1) := by decide +kernel
theorem dX9_takeCoins_123 : decode cX9_takeCoins 123 = .ok (.iload_n 3, 1) := by decide +kernel
theorem dX9_takeCoins_124 : decode cX9_takeCoins 124 = .ok (.isub, 1) := by decide +kernel
theorem dX9_takeCoins_125 : decode cX9_takeCoins 125 = .ok (.ireturn, 1) := by decide +kernel
theorem dX9_workFor_0 : decode cX9_workFor 0 = .ok (.aload_n 0, 1) := by decide +kernel
theorem dX9_workFor_1 : decode cX9_workFor 1 = .ok (.iconst 2, 1) := by decide +kernel
theorem dX9_workFor_2 : decode cX9_workFor 2 = .ok (.iload_n 1, 1) := by decide +kernel
theorem dX9_workFor_3 : decode cX9_workFor 3 = .ok (.iadd, 1) := by decide +kernel
theorem dX9_workFor_4 : decode cX9_workFor 4 = .ok (.iload_n 2, 1) := by decide +kernel
theorem dX9_workFor_5 : decode cX9_workFor 5 = .ok (.invokevirtual 230, 3) := by decide +kernel
theorem dX9_workFor_8 : decode cX9_workFor 8 = .ok (.istore_n 3, 1) := by decide +kernel
theorem dX9_workFor_9 : decode cX9_workFor 9 = .ok (.aload_n 0, 1) := by decide +kernel
theorem dX9_workFor_10 : decode cX9_workFor 10 = .ok (.getfield 12, 3) := by decide +kernel
theorem dX9_workFor_13 : decode cX9_workFor 13 = .ok (.getfield 85, 3) := by decide +kernel
theorem dX9_workFor_16 : decode cX9_workFor 16 = .ok (.iload_n 1, 1) := by decide +kernel
theorem dX9_workFor_17 : decode cX9_workFor 17 = .ok (.aaload, 1) := by decide +kernel
theorem dX9_workFor_18 : decode cX9_workFor 18 = .ok (.iload_n 3, 1) := by decide +kernel
theorem dX9_workFor_19 : decode cX9_workFor 19 = .ok (.invokevirtual 304, 3) := by decide +kernel
theorem dX9_workFor_22 : decode cX9_workFor 22 = .ok (.iload_n 3, 1) := by decide +kernel
theorem dX9_workFor_23 : decode cX9_workFor 23 = .ok (.ireturn, 1) := by decide +kernel
theorem dX9_lapsePurses_0 : decode cX9_lapsePurses 0 = .ok (.iconst 1, 1) := by decide +kernel
theorem dX9_lapsePurses_1 : decode cX9_lapsePurses 1 = .ok (.istore_n 1, 1) := by decide +kernel
theorem dX9_lapsePurses_2 : decode cX9_lapsePurses 2 = .ok (.iload_n 1, 1) := by decide +kernel
theorem dX9_lapsePurses_3 : decode cX9_lapsePurses 3 = .ok (.aload_n 0, 1) := by decide +kernel
theorem dX9_lapsePurses_4 : decode cX9_lapsePurses 4 = .ok (.getfield 44, 3) := by decide +kernel
theorem dX9_lapsePurses_7 : decode cX9_lapsePurses 7 = .ok (.getfield 179, 3) := by decide +kernel
theorem dX9_lapsePurses_10 : decode cX9_lapsePurses 10 = .ok (.if_icmp .ge 53, 3) := by decide +kernel
theorem dX9_lapsePurses_13 : decode cX9_lapsePurses 13 = .ok (.aload_n 0, 1) := by decide +kernel
theorem dX9_lapsePurses_14 : decode cX9_lapsePurses 14 = .ok (.getfield 44, 3) := by decide +kernel
theorem dX9_lapsePurses_17 : decode cX9_lapsePurses 17 = .ok (.getfield 187, 3) := by decide +kernel
theorem dX9_lapsePurses_20 : decode cX9_lapsePurses 20 = .ok (.iload_n 1, 1) := by decide +kernel
theorem dX9_lapsePurses_21 : decode cX9_lapsePurses 21 = .ok (.aaload, 1) := by decide +kernel
theorem dX9_lapsePurses_22 : decode cX9_lapsePurses 22 = .ok (.getfield 202, 3) := by decide +kernel
theorem dX9_lapsePurses_25 : decode cX9_lapsePurses 25 = .ok (.aload_n 0, 1) := by decide +kernel
theorem dX9_lapsePurses_26 : decode cX9_lapsePurses 26 = .ok (.getfield 108, 3) := by decide +kernel
theorem dX9_lapsePurses_29 : decode cX9_lapsePurses 29 = .ok (.if_icmp .ge 28, 3) := by decide +kernel
theorem dX9_lapsePurses_32 : decode cX9_lapsePurses 32 = .ok (.aload_n 0, 1) := by decide +kernel
theorem dX9_lapsePurses_33 : decode cX9_lapsePurses 33 = .ok (.getfield 58, 3) := by decide +kernel
theorem dX9_lapsePurses_36 : decode cX9_lapsePurses 36 = .ok (.aload_n 0, 1) := by decide +kernel
theorem dX9_lapsePurses_37 : decode cX9_lapsePurses 37 = .ok (.getfield 108, 3) := by decide +kernel
theorem dX9_lapsePurses_40 : decode cX9_lapsePurses 40 = .ok (.bipush 6, 2) := by decide +kernel
theorem dX9_lapsePurses_42 : decode cX9_lapsePurses 42 = .ok (.aload_n 0, 1) := by decide +kernel
theorem dX9_lapsePurses_43 : decode cX9_lapsePurses 43 = .ok (.getfield 44, 3) := by decide +kernel
theorem dX9_lapsePurses_46 : decode cX9_lapsePurses 46 = .ok (.getfield 187, 3) := by decide +kernel
theorem dX9_lapsePurses_49 : decode cX9_lapsePurses 49 = .ok (.iload_n 1, 1) := by decide +kernel
theorem dX9_lapsePurses_50 : decode cX9_lapsePurses 50 = .ok (.aaload, 1) := by decide +kernel
theorem dX9_lapsePurses_51 : decode cX9_lapsePurses 51 = .ok (.invokevirtual 307, 3) := by decide +kernel
theorem dX9_lapsePurses_54 : decode cX9_lapsePurses 54 = .ok (.invokevirtual 291, 3) := by decide +kernel
theorem dX9_lapsePurses_57 : decode cX9_lapsePurses 57 = .ok (.iinc 1 1, 3) := by decide +kernel
theorem dX9_lapsePurses_60 : decode cX9_lapsePurses 60 = .ok (.goto (-58), 3) := by decide +kernel
theorem dX9_lapsePurses_63 : decode cX9_lapsePurses 63 = .ok (.return_, 1) := by decide +kernel
theorem dX9_bringGiftsOfYear_0 : decode cX9_bringGiftsOfYear 0 = .ok (.iconst 1, 1) := by decide +kernel
theorem dX9_bringGiftsOfYear_1 : decode cX9_bringGiftsOfYear 1 = .ok (.istore_n 1, 1) := by decide +kernel
theorem dX9_bringGiftsOfYear_2 : decode cX9_bringGiftsOfYear 2 = .ok (.iload_n 1, 1) := by decide +kernel
theorem dX9_bringGiftsOfYear_3 : decode cX9_bringGiftsOfYear 3 = .ok (.aload_n 0, 1) := by decide +kernel
theorem dX9_bringGiftsOfYear_4 : decode cX9_bringGiftsOfYear 4 = .ok (.getfield 44, 3) := by decide +kernel
theorem dX9_bringGiftsOfYear_7 : decode cX9_bringGiftsOfYear 7 = .ok (.getfield 179, 3) := by decide +kernel
theorem dX9_bringGiftsOfYear_10 : decode cX9_bringGiftsOfYear 10 = .ok (.if_icmp .ge 41, 3) := by decide +kernel
theorem dX9_bringGiftsOfYear_13 : decode cX9_bringGiftsOfYear 13 = .ok (.aload_n 0, 1) := by decide +kernel
theorem dX9_bringGiftsOfYear_14 : decode cX9_bringGiftsOfYear 14 = .ok (.getfield 44, 3) := by decide +kernel
theorem dX9_bringGiftsOfYear_17 : decode cX9_bringGiftsOfYear 17 = .ok (.getfield 187, 3) := by decide +kernel
theorem dX9_bringGiftsOfYear_20 : decode cX9_bringGiftsOfYear 20 = .ok (.iload_n 1, 1) := by decide +kernel
theorem dX9_bringGiftsOfYear_21 : decode cX9_bringGiftsOfYear 21 = .ok (.aaload, 1) := by decide +kernel
theorem dX9_bringGiftsOfYear_22 : decode cX9_bringGiftsOfYear 22 = .ok (.aload_n 0, 1) := by decide +kernel
theorem dX9_bringGiftsOfYear_23 : decode cX9_bringGiftsOfYear 23 = .ok (.getfield 108, 3) := by decide +kernel
theorem dX9_bringGiftsOfYear_26 : decode cX9_bringGiftsOfYear 26 = .ok (.invokevirtual 310, 3) := by decide +kernel
theorem dX9_bringGiftsOfYear_29 : decode cX9_bringGiftsOfYear 29 = .ok (.ifCond .eq 16, 3) := by decide +kernel
theorem dX9_bringGiftsOfYear_32 : decode cX9_bringGiftsOfYear 32 = .ok (.aload_n 0, 1) := by decide +kernel
theorem dX9_bringGiftsOfYear_33 : decode cX9_bringGiftsOfYear 33 = .ok (.aload_n 0, 1) := by decide +kernel
theorem dX9_bringGiftsOfYear_34 : decode cX9_bringGiftsOfYear 34 = .ok (.getfield 44, 3) := by decide +kernel
theorem dX9_bringGiftsOfYear_37 : decode cX9_bringGiftsOfYear 37 = .ok (.getfield 187, 3) := by decide +kernel
theorem dX9_bringGiftsOfYear_40 : decode cX9_bringGiftsOfYear 40 = .ok (.iload_n 1, 1) := by decide +kernel
theorem dX9_bringGiftsOfYear_41 : decode cX9_bringGiftsOfYear 41 = .ok (.aaload, 1) := by decide +kernel
theorem dX9_bringGiftsOfYear_42 : decode cX9_bringGiftsOfYear 42 = .ok (.invokevirtual 191, 3) := by decide +kernel
theorem dX9_bringGiftsOfYear_45 : decode cX9_bringGiftsOfYear 45 = .ok (.iinc 1 1, 3) := by decide +kernel
theorem dX9_bringGiftsOfYear_48 : decode cX9_bringGiftsOfYear 48 = .ok (.goto (-46), 3) := by decide +kernel
theorem dX9_bringGiftsOfYear_51 : decode cX9_bringGiftsOfYear 51 = .ok (.return_, 1) := by decide +kernel
theorem dX9_bringTolls_0 : decode cX9_bringTolls 0 = .ok (.aload_n 0, 1) := by decide +kernel
theorem dX9_bringTolls_1 : decode cX9_bringTolls 1 = .ok (.getfield 12, 3) := by decide +kernel
theorem dX9_bringTolls_4 : decode cX9_bringTolls 4 = .ok (.invokevirtual 273, 3) := by decide +kernel
theorem dX9_bringTolls_7 : decode cX9_bringTolls 7 = .ok (.ifCond .ne 7, 3) := by decide +kernel
theorem dX9_bringTolls_10 : decode cX9_bringTolls 10 = .ok (.iconst 1, 1) := by decide +kernel
theorem dX9_bringTolls_11 : decode cX9_bringTolls 11 = .ok (.goto 4, 3) := by decide +kernel
theorem dX9_bringTolls_14 : decode cX9_bringTolls 14 = .ok (.iconst 0, 1) := by decide +kernel
theorem dX9_bringTolls_15 : decode cX9_bringTolls 15 = .ok (.istore_n 1, 1) := by decide +kernel
theorem dX9_bringTolls_16 : decode cX9_bringTolls 16 = .ok (.iconst 0, 1) := by decide +kernel
theorem dX9_bringTolls_17 : decode cX9_bringTolls 17 = .ok (.istore_n 2, 1) := by decide +kernel
theorem dX9_bringTolls_18 : decode cX9_bringTolls 18 = .ok (.iconst 0, 1) := by decide +kernel
theorem dX9_bringTolls_19 : decode cX9_bringTolls 19 = .ok (.istore_n 3, 1) := by decide +kernel
theorem dX9_bringTolls_20 : decode cX9_bringTolls 20 = .ok (.iload_n 3, 1) := by decide +kernel
theorem dX9_bringTolls_21 : decode cX9_bringTolls 21 = .ok (.iconst 3, 1) := by decide +kernel
theorem dX9_bringTolls_22 : decode cX9_bringTolls 22 = .ok (.if_icmp .ge 57, 3) := by decide +kernel
theorem dX9_bringTolls_25 : decode cX9_bringTolls 25 = .ok (.iload_n 3, 1) := by decide +kernel
theorem dX9_bringTolls_26 : decode cX9_bringTolls 26 = .ok (.iconst 2, 1) := by decide +kernel
theorem dX9_bringTolls_27 : decode cX9_bringTolls 27 = .ok (.if_icmp .ge 7, 3) := by decide +kernel
theorem dX9_bringTolls_30 : decode cX9_bringTolls 30 = .ok (.iload_n 1, 1) := by decide +kernel
theorem dX9_bringTolls_31 : decode cX9_bringTolls 31 = .ok (.goto 10, 3) := by decide +kernel
theorem dX9_bringTolls_34 : decode cX9_bringTolls 34 = .ok (.aload_n 0, 1) := by decide +kernel
theorem dX9_bringTolls_35 : decode cX9_bringTolls 35 = .ok (.getfield 12, 3) := by decide +kernel
theorem dX9_bringTolls_38 : decode cX9_bringTolls 38 = .ok (.invokevirtual 313, 3) := by decide +kernel
theorem dX9_bringTolls_41 : decode cX9_bringTolls 41 = .ok (.istore 4, 2) := by decide +kernel
theorem dX9_bringTolls_43 : decode cX9_bringTolls 43 = .ok (.iload 4, 2) := by decide +kernel
theorem dX9_bringTolls_45 : decode cX9_bringTolls 45 = .ok (.ifCond .eq 28, 3) := by decide +kernel
theorem dX9_bringTolls_48 : decode cX9_bringTolls 48 = .ok (.iload_n 2, 1) := by decide +kernel
theorem dX9_bringTolls_49 : decode cX9_bringTolls 49 = .ok (.aload_n 0, 1) := by decide +kernel
theorem dX9_bringTolls_50 : decode cX9_bringTolls 50 = .ok (.getfield 62, 3) := by decide +kernel
theorem dX9_bringTolls_53 : decode cX9_bringTolls 53 = .ok (.iload_n 3, 1) := by decide +kernel
theorem dX9_bringTolls_54 : decode cX9_bringTolls 54 = .ok (.iaload, 1) := by decide +kernel
theorem dX9_bringTolls_55 : decode cX9_bringTolls 55 = .ok (.aload_n 0, 1) := by decide +kernel
theorem dX9_bringTolls_56 : decode cX9_bringTolls 56 = .ok (.getfield 21, 3) := by decide +kernel
theorem dX9_bringTolls_59 : decode cX9_bringTolls 59 = .ok (.iconst 1, 1) := by decide +kernel
theorem dX9_bringTolls_60 : decode cX9_bringTolls 60 = .ok (.iload_n 3, 1) := by decide +kernel
theorem dX9_bringTolls_61 : decode cX9_bringTolls 61 = .ok (.iadd, 1) := by decide +kernel
theorem dX9_bringTolls_62 : decode cX9_bringTolls 62 = .ok (.aaload, 1) := by decide +kernel
theorem dX9_bringTolls_63 : decode cX9_bringTolls 63 = .ok (.aload_n 0, 1) := by decide +kernel
theorem dX9_bringTolls_64 : decode cX9_bringTolls 64 = .ok (.getfield 108, 3) := by decide +kernel
theorem dX9_bringTolls_67 : decode cX9_bringTolls 67 = .ok (.invokevirtual 111, 3) := by decide +kernel
theorem dX9_bringTolls_70 : decode cX9_bringTolls 70 = .ok (.imul, 1) := by decide +kernel
theorem dX9_bringTolls_71 : decode cX9_bringTolls 71 = .ok (.iadd, 1) := by decide +kernel
theorem dX9_bringTolls_72 : decode cX9_bringTolls 72 = .ok (.istore_n 2, 1) := by decide +kernel
theorem dX9_bringTolls_73 : decode cX9_bringTolls 73 = .ok (.iinc 3 1, 3) := by decide +kernel
theorem dX9_bringTolls_76 : decode cX9_bringTolls 76 = .ok (.goto (-56), 3) := by decide +kernel
theorem dX9_bringTolls_79 : decode cX9_bringTolls 79 = .ok (.aload_n 0, 1) := by decide +kernel
theorem dX9_bringTolls_80 : decode cX9_bringTolls 80 = .ok (.getfield 44, 3) := by decide +kernel
theorem dX9_bringTolls_83 : decode cX9_bringTolls 83 = .ok (.getfield 187, 3) := by decide +kernel
theorem dX9_bringTolls_86 : decode cX9_bringTolls 86 = .ok (.iconst 0, 1) := by decide +kernel
theorem dX9_bringTolls_87 : decode cX9_bringTolls 87 = .ok (.aaload, 1) := by decide +kernel
theorem dX9_bringTolls_88 : decode cX9_bringTolls 88 = .ok (.iload_n 2, 1) := by decide +kernel
theorem dX9_bringTolls_89 : decode cX9_bringTolls 89 = .ok (.invokevirtual 288, 3) := by decide +kernel
theorem dX9_bringTolls_92 : decode cX9_bringTolls 92 = .ok (.aload_n 0, 1) := by decide +kernel
theorem dX9_bringTolls_93 : decode cX9_bringTolls 93 = .ok (.getfield 58, 3) := by decide +kernel
theorem dX9_bringTolls_96 : decode cX9_bringTolls 96 = .ok (.aload_n 0, 1) := by decide +kernel
theorem dX9_bringTolls_97 : decode cX9_bringTolls 97 = .ok (.getfield 108, 3) := by decide +kernel
theorem dX9_bringTolls_100 : decode cX9_bringTolls 100 = .ok (.iconst 1, 1) := by decide +kernel
theorem dX9_bringTolls_101 : decode cX9_bringTolls 101 = .ok (.iload_n 2, 1) := by decide +kernel
theorem dX9_bringTolls_102 : decode cX9_bringTolls 102 = .ok (.invokevirtual 291, 3) := by decide +kernel
theorem dX9_bringTolls_105 : decode cX9_bringTolls 105 = .ok (.return_, 1) := by decide +kernel
theorem dX9_bringRents_0 : decode cX9_bringRents 0 = .ok (.aload_n 0, 1) := by decide +kernel
theorem dX9_bringRents_1 : decode cX9_bringRents 1 = .ok (.getfield 62, 3) := by decide +kernel
theorem dX9_bringRents_4 : decode cX9_bringRents 4 = .ok (.iconst 3, 1) := by decide +kernel
theorem dX9_bringRents_5 : decode cX9_bringRents 5 = .ok (.iaload, 1) := by decide +kernel
theorem dX9_bringRents_6 : decode cX9_bringRents 6 = .ok (.aload_n 0, 1) := by decide +kernel
theorem dX9_bringRents_7 : decode cX9_bringRents 7 = .ok (.getfield 12, 3) := by decide +kernel
theorem dX9_bringRents_10 : decode cX9_bringRents 10 = .ok (.invokevirtual 276, 3) := by decide +kernel
theorem dX9_bringRents_13 : decode cX9_bringRents 13 = .ok (.imul, 1) := by decide +kernel
theorem dX9_bringRents_14 : decode cX9_bringRents 14 = .ok (.istore_n 1, 1) := by decide +kernel
theorem dX9_bringRents_15 : decode cX9_bringRents 15 = .ok (.aload_n 0, 1) := by decide +kernel
theorem dX9_bringRents_16 : decode cX9_bringRents 16 = .ok (.getfield 44, 3) := by decide +kernel
theorem dX9_bringRents_19 : decode cX9_bringRents 19 = .ok (.getfield 187, 3) := by decide +kernel
theorem dX9_bringRents_22 : decode cX9_bringRents 22 = .ok (.iconst 0, 1) := by decide +kernel
theorem dX9_bringRents_23 : decode cX9_bringRents 23 = .ok (.aaload, 1) := by decide +kernel
theorem dX9_bringRents_24 : decode cX9_bringRents 24 = .ok (.iload_n 1, 1) := by decide +kernel
theorem dX9_bringRents_25 : decode cX9_bringRents 25 = .ok (.invokevirtual 288, 3) := by decide +kernel
theorem dX9_bringRents_28 : decode cX9_bringRents 28 = .ok (.aload_n 0, 1) := by decide +kernel
theorem dX9_bringRents_29 : decode cX9_bringRents 29 = .ok (.getfield 58, 3) := by decide +kernel
theorem dX9_bringRents_32 : decode cX9_bringRents 32 = .ok (.aload_n 0, 1) := by decide +kernel
theorem dX9_bringRents_33 : decode cX9_bringRents 33 = .ok (.getfield 108, 3) := by decide +kernel
theorem dX9_bringRents_36 : decode cX9_bringRents 36 = .ok (.iconst 2, 1) := by decide +kernel
theorem dX9_bringRents_37 : decode cX9_bringRents 37 = .ok (.iload_n 1, 1) := by decide +kernel
theorem dX9_bringRents_38 : decode cX9_bringRents 38 = .ok (.invokevirtual 291, 3) := by decide +kernel
theorem dX9_bringRents_41 : decode cX9_bringRents 41 = .ok (.return_, 1) := by decide +kernel
theorem dX9_keepUp_0 : decode cX9_keepUp 0 = .ok (.aload_n 0, 1) := by decide +kernel
theorem dX9_keepUp_1 : decode cX9_keepUp 1 = .ok (.getfield 12, 3) := by decide +kernel
theorem dX9_keepUp_4 : decode cX9_keepUp 4 = .ok (.invokevirtual 316, 3) := by decide +kernel
theorem dX9_keepUp_7 : decode cX9_keepUp 7 = .ok (.iconst 0, 1) := by decide +kernel
theorem dX9_keepUp_8 : decode cX9_keepUp 8 = .ok (.istore_n 1, 1) := by decide +kernel
theorem dX9_keepUp_9 : decode cX9_keepUp 9 = .ok (.iload_n 1, 1) := by decide +kernel
theorem dX9_keepUp_10 : decode cX9_keepUp 10 = .ok (.aload_n 0, 1) := by decide +kernel
theorem dX9_keepUp_11 : decode cX9_keepUp 11 = .ok (.getfield 62, 3) := by decide +kernel
theorem dX9_keepUp_14 : decode cX9_keepUp 14 = .ok (.iconst 4, 1) := by decide +kernel
theorem dX9_keepUp_15 : decode cX9_keepUp 15 = .ok (.iaload, 1) := by decide +kernel
theorem dX9_keepUp_16 : decode cX9_keepUp 16 = .ok (.if_icmp .ge 68, 3) := by decide +kernel
theorem dX9_keepUp_19 : decode cX9_keepUp 19 = .ok (.aload_n 0, 1) := by decide +kernel
theorem dX9_keepUp_20 : decode cX9_keepUp 20 = .ok (.getfield 12, 3) := by decide +kernel
theorem dX9_keepUp_23 : decode cX9_keepUp 23 = .ok (.aload_n 0, 1) := by decide +kernel
theorem dX9_keepUp_24 : decode cX9_keepUp 24 = .ok (.getfield 62, 3) := by decide +kernel
theorem dX9_keepUp_27 : decode cX9_keepUp 27 = .ok (.iconst 5, 1) := by decide +kernel
theorem dX9_keepUp_28 : decode cX9_keepUp 28 = .ok (.iaload, 1) := by decide +kernel
theorem dX9_keepUp_29 : decode cX9_keepUp 29 = .ok (.invokevirtual 319, 3) := by decide +kernel
theorem dX9_keepUp_32 : decode cX9_keepUp 32 = .ok (.istore_n 2, 1) := by decide +kernel
theorem dX9_keepUp_33 : decode cX9_keepUp 33 = .ok (.iload_n 2, 1) := by decide +kernel
theorem dX9_keepUp_34 : decode cX9_keepUp 34 = .ok (.iconst (-1), 1) := by decide +kernel
theorem dX9_keepUp_35 : decode cX9_keepUp 35 = .ok (.if_icmp .ne 6, 3) := by decide +kernel
theorem dX9_keepUp_38 : decode cX9_keepUp 38 = .ok (.goto 46, 3) := by decide +kernel
theorem dX9_keepUp_41 : decode cX9_keepUp 41 = .ok (.aload_n 0, 1) := by decide +kernel
theorem dX9_keepUp_42 : decode cX9_keepUp 42 = .ok (.getfield 12, 3) := by decide +kernel
theorem dX9_keepUp_45 : decode cX9_keepUp 45 = .ok (.getfield 85, 3) := by decide +kernel
theorem dX9_keepUp_48 : decode cX9_keepUp 48 = .ok (.iload_n 2, 1) := by decide +kernel
theorem dX9_keepUp_49 : decode cX9_keepUp 49 = .ok (.aaload, 1) := by decide +kernel
theorem dX9_keepUp_50 : decode cX9_keepUp 50 = .ok (.iconst 1, 1) := by decide +kernel
theorem dX9_keepUp_51 : decode cX9_keepUp 51 = .ok (.putfield 322, 3) := by decide +kernel
theorem dX9_keepUp_54 : decode cX9_keepUp 54 = .ok (.aload_n 0, 1) := by decide +kernel
theorem dX9_keepUp_55 : decode cX9_keepUp 55 = .ok (.iload_n 2, 1) := by decide +kernel
theorem dX9_keepUp_56 : decode cX9_keepUp 56 = .ok (.aload_n 0, 1) := by decide +kernel
theorem dX9_keepUp_57 : decode cX9_keepUp 57 = .ok (.getfield 12, 3) := by decide +kernel
theorem dX9_keepUp_60 : decode cX9_keepUp 60 = .ok (.getfield 85, 3) := by decide +kernel
theorem dX9_keepUp_63 : decode cX9_keepUp 63 = .ok (.iload_n 2, 1) := by decide +kernel
theorem dX9_keepUp_64 : decode cX9_keepUp 64 = .ok (.aaload, 1) := by decide +kernel
theorem dX9_keepUp_65 : decode cX9_keepUp 65 = .ok (.aload_n 0, 1) := by decide +kernel
theorem dX9_keepUp_66 : decode cX9_keepUp 66 = .ok (.getfield 62, 3) := by decide +kernel
theorem dX9_keepUp_69 : decode cX9_keepUp 69 = .ok (.iconst 5, 1) := by decide +kernel
theorem dX9_keepUp_70 : decode cX9_keepUp 70 = .ok (.iaload, 1) := by decide +kernel
theorem dX9_keepUp_71 : decode cX9_keepUp 71 = .ok (.invokevirtual 233, 3) := by decide +kernel
theorem dX9_keepUp_74 : decode cX9_keepUp 74 = .ok (.invokevirtual 241, 3) := by decide +kernel
theorem dX9_keepUp_77 : decode cX9_keepUp 77 = .ok (.pop, 1) := by decide +kernel
theorem dX9_keepUp_78 : decode cX9_keepUp 78 = .ok (.iinc 1 1, 3) := by decide +kernel
theorem dX9_keepUp_81 : decode cX9_keepUp 81 = .ok (.goto (-72), 3) := by decide +kernel
theorem dX9_keepUp_84 : decode cX9_keepUp 84 = .ok (.return_, 1) := by decide +kernel
theorem dX10_init_0 : decode cX10_init 0 = .ok (.aload_n 0, 1) := by decide +kernel
theorem dX10_init_1 : decode cX10_init 1 = .ok (.invokespecial 1, 3) := by decide +kernel
theorem dX10_init_4 : decode cX10_init 4 = .ok (.aload_n 0, 1) := by decide +kernel
theorem dX10_init_5 : decode cX10_init 5 = .ok (.bipush 10, 2) := by decide +kernel
theorem dX10_init_7 : decode cX10_init 7 = .ok (.newarray .int, 2) := by decide +kernel
theorem dX10_init_9 : decode cX10_init 9 = .ok (.putfield 7, 3) := by decide +kernel
theorem dX10_init_12 : decode cX10_init 12 = .ok (.aload_n 0, 1) := by decide +kernel
theorem dX10_init_13 : decode cX10_init 13 = .ok (.bipush 10, 2) := by decide +kernel
theorem dX10_init_15 : decode cX10_init 15 = .ok (.newarray .int, 2) := by decide +kernel
theorem dX10_init_17 : decode cX10_init 17 = .ok (.putfield 13, 3) := by decide +kernel
theorem dX10_init_20 : decode cX10_init 20 = .ok (.aload_n 0, 1) := by decide +kernel
theorem dX10_init_21 : decode cX10_init 21 = .ok (.bipush 10, 2) := by decide +kernel
theorem dX10_init_23 : decode cX10_init 23 = .ok (.newarray .int, 2) := by decide +kernel
theorem dX10_init_25 : decode cX10_init 25 = .ok (.putfield 16, 3) := by decide +kernel
theorem dX10_init_28 : decode cX10_init 28 = .ok (.aload_n 0, 1) := by decide +kernel
theorem dX10_init_29 : decode cX10_init 29 = .ok (.bipush 10, 2) := by decide +kernel
theorem dX10_init_31 : decode cX10_init 31 = .ok (.newarray .int, 2) := by decide +kernel
theorem dX10_init_33 : decode cX10_init 33 = .ok (.putfield 19, 3) := by decide +kernel
theorem dX10_init_36 : decode cX10_init 36 = .ok (.aload_n 0, 1) := by decide +kernel
theorem dX10_init_37 : decode cX10_init 37 = .ok (.bipush 6, 2) := by decide +kernel
theorem dX10_init_39 : decode cX10_init 39 = .ok (.newarray .int, 2) := by decide +kernel
theorem dX10_init_41 : decode cX10_init 41 = .ok (.putfield 22, 3) := by decide +kernel
theorem dX10_init_44 : decode cX10_init 44 = .ok (.aload_n 0, 1) := by decide +kernel
theorem dX10_init_45 : decode cX10_init 45 = .ok (.iconst 4, 1) := by decide +kernel
theorem dX10_init_46 : decode cX10_init 46 = .ok (.newarray .boolean, 2) := by decide +kernel
theorem dX10_init_48 : decode cX10_init 48 = .ok (.putfield 25, 3) := by decide +kernel
theorem dX10_init_51 : decode cX10_init 51 = .ok (.aload_n 0, 1) := by decide +kernel
theorem dX10_init_52 : decode cX10_init 52 = .ok (.iconst 4, 1) := by decide +kernel
theorem dX10_init_53 : decode cX10_init 53 = .ok (.newarray .int, 2) := by decide +kernel
theorem dX10_init_55 : decode cX10_init 55 = .ok (.putfield 29, 3) := by decide +kernel
theorem dX10_init_58 : decode cX10_init 58 = .ok (.aload_n 0, 1) := by decide +kernel
theorem dX10_init_59 : decode cX10_init 59 = .ok (.iconst 4, 1) := by decide +kernel
theorem dX10_init_60 : decode cX10_init 60 = .ok (.newarray .int, 2) := by decide +kernel
theorem dX10_init_62 : decode cX10_init 62 = .ok (.putfield 32, 3) := by decide +kernel
theorem dX10_init_65 : decode cX10_init 65 = .ok (.aload_n 0, 1) := by decide +kernel
theorem dX10_init_66 : decode cX10_init 66 = .ok (.sipush 800, 3) := by decide +kernel
theorem dX10_init_69 : decode cX10_init 69 = .ok (.newarray .int, 2) := by decide +kernel
theorem dX10_init_71 : decode cX10_init 71 = .ok (.putfield 35, 3) := by decide +kernel
theorem dX10_init_74 : decode cX10_init 74 = .ok (.aload_n 0, 1) := by decide +kernel
theorem dX10_init_75 : decode cX10_init 75 = .ok (.bipush 48, 2) := by decide +kernel
theorem dX10_init_77 : decode cX10_init 77 = .ok (.newarray .int, 2) := by decide +kernel
theorem dX10_init_79 : decode cX10_init 79 = .ok (.putfield 38, 3) := by decide +kernel
theorem dX10_init_82 : decode cX10_init 82 = .ok (.aload_n 0, 1) := by decide +kernel
theorem dX10_init_83 : decode cX10_init 83 = .ok (.bipush 20, 2) := by decide +kernel
theorem dX10_init_85 : decode cX10_init 85 = .ok (.newarray .int, 2) := by decide +kernel
theorem dX10_init_87 : decode cX10_init 87 = .ok (.putfield 41, 3) := by decide +kernel
theorem dX10_init_90 : decode cX10_init 90 = .ok (.aload_n 0, 1) := by decide +kernel
theorem dX10_init_91 : decode cX10_init 91 = .ok (.bipush 20, 2) := by decide +kernel
theorem dX10_init_93 : decode cX10_init 93 = .ok (.newarray .int, 2) := by decide +kernel
theorem dX10_init_95 : decode cX10_init 95 = .ok (.putfield 44, 3) := by decide +kernel
theorem dX10_init_98 : decode cX10_init 98 = .ok (.aload_n 0, 1) := by decide +kernel
theorem dX10_init_99 : decode cX10_init 99 = .ok (.bipush 20, 2) := by decide +kernel
theorem dX10_init_101 : decode cX10_init 101 = .ok (.newarray .int, 2) := by decide +kernel
theorem dX10_init_103 : decode cX10_init 103 = .ok (.putfield 47, 3) := by decide +kernel
theorem dX10_init_106 : decode cX10_init 106 = .ok (.aload_n 0, 1) := by decide +kernel
theorem dX10_init_107 : decode cX10_init 107 = .ok (.bipush 20, 2) := by decide +kernel
theorem dX10_init_109 : decode cX10_init 109 = .ok (.newarray .int, 2) := by decide +kernel
theorem dX10_init_111 : decode cX10_init 111 = .ok (.putfield 50, 3) := by decide +kernel
theorem dX10_init_114 : decode cX10_init 114 = .ok (.aload_n 0, 1) := by decide +kernel
theorem dX10_init_115 : decode cX10_init 115 = .ok (.bipush 20, 2) := by decide +kernel
theorem dX10_init_117 : decode cX10_init 117 = .ok (.newarray .int, 2) := by decide +kernel
theorem dX10_init_119 : decode cX10_init 119 = .ok (.putfield 53, 3) := by decide +kernel
theorem dX10_init_122 : decode cX10_init 122 = .ok (.aload_n 0, 1) := by decide +kernel
theorem dX10_init_123 : decode cX10_init 123 = .ok (.bipush 20, 2) := by decide +kernel
theorem dX10_init_125 : decode cX10_init 125 = .ok (.newarray .int, 2) := by decide +kernel
theorem dX10_init_127 : decode cX10_init 127 = .ok (.putfield 56, 3) := by decide +kernel
theorem dX10_init_130 : decode cX10_init 130 = .ok (.aload_n 0, 1) := by decide +kernel
theorem dX10_init_131 : decode cX10_init 131 = .ok (.bipush 20, 2) := by decide +kernel
theorem dX10_init_133 : decode cX10_init 133 = .ok (.newarray .int, 2) := by decide +kernel
theorem dX10_init_135 : decode cX10_init 135 = .ok (.putfield 59, 3) := by decide +kernel
theorem dX10_init_138 : decode cX10_init 138 = .ok (.aload_n 0, 1) := by decide +kernel
theorem dX10_init_139 : decode cX10_init 139 = .ok (.bipush 20, 2) := by decide +kernel
theorem dX10_init_141 : decode cX10_init 141 = .ok (.newarray .int, 2) := by decide +kernel
theorem dX10_init_143 : decode cX10_init 143 = .ok (.putfield 62, 3) := by decide +kernel
theorem dX10_init_146 : decode cX10_init 146 = .ok (.aload_n 0, 1) := by decide +kernel
theorem dX10_init_147 : decode cX10_init 147 = .ok (.sipush 240, 3) := by decide +kernel
theorem dX10_init_150 : decode cX10_init 150 = .ok (.newarray .int, 2) := by decide +kernel
theorem dX10_init_152 : decode cX10_init 152 = .ok (.putfield 65, 3) := by decide +kernel
theorem dX10_init_155 : decode cX10_init 155 = .ok (.aload_n 0, 1) := by decide +kernel
theorem dX10_init_156 : decode cX10_init 156 = .ok (.sipush 800, 3) := by decide +kernel
theorem dX10_init_159 : decode cX10_init 159 = .ok (.newarray .int, 2) := by decide +kernel
theorem dX10_init_161 : decode cX10_init 161 = .ok (.putfield 68, 3) := by decide +kernel
theorem dX10_init_164 : decode cX10_init 164 = .ok (.aload_n 0, 1) := by decide +kernel
theorem dX10_init_165 : decode cX10_init 165 = .ok (.sipush 1407, 3) := by decide +kernel
theorem dX10_init_168 : decode cX10_init 168 = .ok (.newarray .int, 2) := by decide +kernel
theorem dX10_init_170 : decode cX10_init 170 = .ok (.putfield 71, 3) := by decide +kernel
theorem dX10_init_173 : decode cX10_init 173 = .ok (.aload_n 0, 1) := by decide +kernel
theorem dX10_init_174 : decode cX10_init 174 = .ok (.bipush 10, 2) := by decide +kernel
theorem dX10_init_176 : decode cX10_init 176 = .ok (.newarray .int, 2) := by decide +kernel
theorem dX10_init_178 : decode cX10_init 178 = .ok (.putfield 74, 3) := by decide +kernel
theorem dX10_init_181 : decode cX10_init 181 = .ok (.aload_n 0, 1) := by decide +kernel
theorem dX10_init_182 : decode cX10_init 182 = .ok (.bipush 10, 2) := by decide +kernel
theorem dX10_init_184 : decode cX10_init 184 = .ok (.newarray .int, 2) := by decide +kernel
theorem dX10_init_186 : decode cX10_init 186 = .ok (.putfield 77, 3) := by decide +kernel
theorem dX10_init_189 : decode cX10_init 189 = .ok (.aload_n 0, 1) := by decide +kernel
theorem dX10_init_190 : decode cX10_init 190 = .ok (.bipush 10, 2) := by decide +kernel
theorem dX10_init_192 : decode cX10_init 192 = .ok (.newarray .int, 2) := by decide +kernel
theorem dX10_init_194 : decode cX10_init 194 = .ok (.putfield 80, 3) := by decide +kernel
theorem dX10_init_197 : decode cX10_init 197 = .ok (.aload_n 0, 1) := by decide +kernel
theorem dX10_init_198 : decode cX10_init 198 = .ok (.bipush 10, 2) := by decide +kernel
theorem dX10_init_200 : decode cX10_init 200 = .ok (.newarray .int, 2) := by decide +kernel
theorem dX10_init_202 : decode cX10_init 202 = .ok (.putfield 83, 3) := by decide +kernel
theorem dX10_init_205 : decode cX10_init 205 = .ok (.aload_n 0, 1) := by decide +kernel
theorem dX10_init_206 : decode cX10_init 206 = .ok (.sipush 200, 3) := by decide +kernel
theorem dX10_init_209 : decode cX10_init 209 = .ok (.newarray .int, 2) := by decide +kernel
theorem dX10_init_211 : decode cX10_init 211 = .ok (.putfield 86, 3) := by decide +kernel
theorem dX10_init_214 : decode cX10_init 214 = .ok (.aload_n 0, 1) := by decide +kernel
theorem dX10_init_215 : decode cX10_init 215 = .ok (.bipush 10, 2) := by decide +kernel
theorem dX10_init_217 : decode cX10_init 217 = .ok (.newarray .boolean, 2) := by decide +kernel
theorem dX10_init_219 : decode cX10_init 219 = .ok (.putfield 89, 3) := by decide +kernel
theorem dX10_init_222 : decode cX10_init 222 = .ok (.aload_n 0, 1) := by decide +kernel
theorem dX10_init_223 : decode cX10_init 223 = .ok (.iconst 1, 1) := by decide +kernel
theorem dX10_init_224 : decode cX10_init 224 = .ok (.putfield 92, 3) := by decide +kernel
theorem dX10_init_227 : decode cX10_init 227 = .ok (.aload_n 0, 1) := by decide +kernel
theorem dX10_init_228 : decode cX10_init 228 = .ok (.getfield 47, 3) := by decide +kernel
theorem dX10_init_231 : decode cX10_init 231 = .ok (.iconst 0, 1) := by decide +kernel
theorem dX10_init_232 : decode cX10_init 232 = .ok (.sipush 200, 3) := by decide +kernel
theorem dX10_init_235 : decode cX10_init 235 = .ok (.iastore, 1) := by decide +kernel
theorem dX10_init_236 : decode cX10_init 236 = .ok (.return_, 1) := by decide +kernel
theorem dX10_isIn_0 : decode cX10_isIn 0 = .ok (.iload_n 0, 1) := by decide +kernel
theorem dX10_isIn_1 : decode cX10_isIn 1 = .ok (.iload_n 1, 1) := by decide +kernel
theorem dX10_isIn_2 : decode cX10_isIn 2 = .ok (.if_icmp .lt 12, 3) := by decide +kernel
theorem dX10_isIn_5 : decode cX10_isIn 5 = .ok (.iload_n 0, 1) := by decide +kernel
theorem dX10_isIn_6 : decode cX10_isIn 6 = .ok (.iload_n 2, 1) := by decide +kernel
theorem dX10_isIn_7 : decode cX10_isIn 7 = .ok (.if_icmp .gt 7, 3) := by decide +kernel
theorem dX10_isIn_10 : decode cX10_isIn 10 = .ok (.iconst 1, 1) := by decide +kernel
theorem dX10_isIn_11 : decode cX10_isIn 11 = .ok (.goto 4, 3) := by decide +kernel
theorem dX10_isIn_14 : decode cX10_isIn 14 = .ok (.iconst 0, 1) := by decide +kernel
theorem dX10_isIn_15 : decode cX10_isIn 15 = .ok (.ireturn, 1) := by decide +kernel
theorem dX10_isArch_0 : decode cX10_isArch 0 = .ok (.iload_n 1, 1) := by decide +kernel
theorem dX10_isArch_1 : decode cX10_isArch 1 = .ok (.iconst 0, 1) := by decide +kernel
theorem dX10_isArch_2 : decode cX10_isArch 2 = .ok (.aload_n 0, 1) := by decide +kernel
theorem dX10_isArch_3 : decode cX10_isArch 3 = .ok (.getfield 96, 3) := by decide +kernel
theorem dX10_isArch_6 : decode cX10_isArch 6 = .ok (.iconst 1, 1) := by decide +kernel
theorem dX10_isArch_7 : decode cX10_isArch 7 = .ok (.isub, 1) := by decide +kernel
theorem dX10_isArch_8 : decode cX10_isArch 8 = .ok (.invokestatic 99, 3) := by decide +kernel
theorem dX10_isArch_11 : decode cX10_isArch 11 = .ok (.ireturn, 1) := by decide +kernel
theorem dX10_told_0 : decode cX10_told 0 = .ok (.aload_n 0, 1) := by decide +kernel
theorem dX10_told_1 : decode cX10_told 1 = .ok (.getfield 71, 3) := by decide +kernel
theorem dX10_told_4 : decode cX10_told 4 = .ok (.bipush 7, 2) := by decide +kernel
theorem dX10_told_6 : decode cX10_told 6 = .ok (.aload_n 0, 1) := by decide +kernel
theorem dX10_told_7 : decode cX10_told 7 = .ok (.getfield 103, 3) := by decide +kernel
theorem dX10_told_10 : decode cX10_told 10 = .ok (.imul, 1) := by decide +kernel
theorem dX10_told_11 : decode cX10_told 11 = .ok (.iload_n 1, 1) := by decide +kernel
theorem dX10_told_12 : decode cX10_told 12 = .ok (.iadd, 1) := by decide +kernel
theorem dX10_told_13 : decode cX10_told 13 = .ok (.dup2, 1) := by decide +kernel
theorem dX10_told_14 : decode cX10_told 14 = .ok (.iaload, 1) := by decide +kernel
theorem dX10_told_15 : decode cX10_told 15 = .ok (.iload_n 2, 1) := by decide +kernel
theorem dX10_told_16 : decode cX10_told 16 = .ok (.iadd, 1) := by decide +kernel
theorem dX10_told_17 : decode cX10_told 17 = .ok (.iastore, 1) := by decide +kernel
theorem dX10_told_18 : decode cX10_told 18 = .ok (.return_, 1) := by decide +kernel
theorem dX10_arch_0 : decode cX10_arch 0 = .ok (.iload_n 1, 1) := by decide +kernel
theorem dX10_arch_1 : decode cX10_arch 1 = .ok (.iconst 0, 1) := by decide +kernel
theorem dX10_arch_2 : decode cX10_arch 2 = .ok (.iconst 3, 1) := by decide +kernel
theorem dX10_arch_3 : decode cX10_arch 3 = .ok (.invokestatic 99, 3) := by decide +kernel
theorem dX10_arch_6 : decode cX10_arch 6 = .ok (.ifCond .ne 6, 3) := by decide +kernel
theorem dX10_arch_9 : decode cX10_arch 9 = .ok (.ldc 106, 2) := by decide +kernel
theorem dX10_arch_11 : decode cX10_arch 11 = .ok (.ireturn, 1) := by decide +kernel
theorem dX10_arch_12 : decode cX10_arch 12 = .ok (.aload_n 0, 1) := by decide +kernel
theorem dX10_arch_13 : decode cX10_arch 13 = .ok (.getfield 96, 3) := by decide +kernel
theorem dX10_arch_16 : decode cX10_arch 16 = .ok (.bipush 10, 2) := by decide +kernel
theorem dX10_arch_18 : decode cX10_arch 18 = .ok (.if_icmp .ne 6, 3) := by decide +kernel
theorem dX10_arch_21 : decode cX10_arch 21 = .ok (.ldc 107, 2) := by decide +kernel
theorem dX10_arch_23 : decode cX10_arch 23 = .ok (.ireturn, 1) := by decide +kernel
theorem dX10_arch_24 : decode cX10_arch 24 = .ok (.aload_n 0, 1) := by decide +kernel
theorem dX10_arch_25 : decode cX10_arch 25 = .ok (.getfield 7, 3) := by decide +kernel
theorem dX10_arch_28 : decode cX10_arch 28 = .ok (.aload_n 0, 1) := by decide +kernel
theorem dX10_arch_29 : decode cX10_arch 29 = .ok (.getfield 96, 3) := by decide +kernel
theorem dX10_arch_32 : decode cX10_arch 32 = .ok (.iload_n 1, 1) := by decide +kernel
theorem dX10_arch_33 : decode cX10_arch 33 = .ok (.iastore, 1) := by decide +kernel
theorem dX10_arch_34 : decode cX10_arch 34 = .ok (.aload_n 0, 1) := by decide +kernel
theorem dX10_arch_35 : decode cX10_arch 35 = .ok (.getfield 13, 3) := by decide +kernel
theorem dX10_arch_38 : decode cX10_arch 38 = .ok (.aload_n 0, 1) := by decide +kernel
theorem dX10_arch_39 : decode cX10_arch 39 = .ok (.getfield 96, 3) := by decide +kernel
theorem dX10_arch_42 : decode cX10_arch 42 = .ok (.sipush 1000, 3) := by decide +kernel
theorem dX10_arch_45 : decode cX10_arch 45 = .ok (.iastore, 1) := by decide +kernel
theorem dX10_arch_46 : decode cX10_arch 46 = .ok (.aload_n 0, 1) := by decide +kernel
theorem dX10_arch_47 : decode cX10_arch 47 = .ok (.dup, 1) := by decide +kernel
theorem dX10_arch_48 : decode cX10_arch 48 = .ok (.getfield 96, 3) := by decide +kernel
theorem dX10_arch_51 : decode cX10_arch 51 = .ok (.iconst 1, 1) := by decide +kernel
theorem dX10_arch_52 : decode cX10_arch 52 = .ok (.iadd, 1) := by decide +kernel
theorem dX10_arch_53 : decode cX10_arch 53 = .ok (.putfield 96, 3) := by decide +kernel
theorem dX10_arch_56 : decode cX10_arch 56 = .ok (.aload_n 0, 1) := by decide +kernel
theorem dX10_arch_57 : decode cX10_arch 57 = .ok (.getfield 96, 3) := by decide +kernel
theorem dX10_arch_60 : decode cX10_arch 60 = .ok (.iconst 1, 1) := by decide +kernel
theorem dX10_arch_61 : decode cX10_arch 61 = .ok (.isub, 1) := by decide +kernel
theorem dX10_arch_62 : decode cX10_arch 62 = .ok (.ireturn, 1) := by decide +kernel
theorem dX10_set_0 : decode cX10_set 0 = .ok (.aload_n 0, 1) := by decide +kernel
theorem dX10_set_1 : decode cX10_set 1 = .ok (.iload_n 1, 1) := by decide +kernel
theorem dX10_set_2 : decode cX10_set 2 = .ok (.invokevirtual 108, 3) := by decide +kernel
theorem dX10_set_5 : decode cX10_set 5 = .ok (.ifCond .eq 29, 3) := by decide +kernel
theorem dX10_set_8 : decode cX10_set 8 = .ok (.iload_n 2, 1) := by decide +kernel
theorem dX10_set_9 : decode cX10_set 9 = .ok (.iconst 0, 1) := by decide +kernel
theorem dX10_set_10 : decode cX10_set 10 = .ok (.iconst 1, 1) := by decide +kernel
theorem dX10_set_11 : decode cX10_set 11 = .ok (.invokestatic 99, 3) := by decide +kernel
theorem dX10_set_14 : decode cX10_set 14 = .ok (.ifCond .eq 20, 3) := by decide +kernel
theorem dX10_set_17 : decode cX10_set 17 = .ok (.iload_n 3, 1) := by decide +kernel
theorem dX10_set_18 : decode cX10_set 18 = .ok (.iconst 0, 1) := by decide +kernel
theorem dX10_set_19 : decode cX10_set 19 = .ok (.iload_n 2, 1) := by decide +kernel
theorem dX10_set_20 : decode cX10_set 20 = .ok (.ifCond .ne 7, 3) := by decide +kernel
theorem dX10_set_23 : decode cX10_set 23 = .ok (.iconst 4, 1) := by decide +kernel
theorem dX10_set_24 : decode cX10_set 24 = .ok (.goto 4, 3) := by decide +kernel
theorem dX10_set_27 : decode cX10_set 27 = .ok (.iconst 1, 1) := by decide +kernel
theorem dX10_set_28 : decode cX10_set 28 = .ok (.invokestatic 99, 3) := by decide +kernel
theorem dX10_set_31 : decode cX10_set 31 = .ok (.ifCond .ne 6, 3) := by decide +kernel
theorem dX10_set_34 : decode cX10_set 34 = .ok (.ldc 106, 2) := by decide +kernel
theorem dX10_set_36 : decode cX10_set 36 = .ok (.ireturn, 1) := by decide +kernel
theorem dX10_set_37 : decode cX10_set 37 = .ok (.aload_n 0, 1) := by decide +kernel
theorem dX10_set_38 : decode cX10_set 38 = .ok (.getfield 13, 3) := by decide +kernel
theorem dX10_set_41 : decode cX10_set 41 = .ok (.iload_n 1, 1) := by decide +kernel
theorem dX10_set_42 : decode cX10_set 42 = .ok (.iaload, 1) := by decide +kernel
theorem dX10_set_43 : decode cX10_set 43 = .ok (.ifCond .ne 6, 3) := by decide +kernel
theorem dX10_set_46 : decode cX10_set 46 = .ok (.ldc 112, 2) := by decide +kernel
theorem dX10_set_48 : decode cX10_set 48 = .ok (.ireturn, 1) := by decide +kernel
theorem dX10_set_49 : decode cX10_set 49 = .ok (.iload_n 2, 1) := by decide +kernel
theorem dX10_set_50 : decode cX10_set 50 = .ok (.ifCond .ne 12, 3) := by decide +kernel
theorem dX10_set_53 : decode cX10_set 53 = .ok (.aload_n 0, 1) := by decide +kernel
theorem dX10_set_54 : decode cX10_set 54 = .ok (.getfield 16, 3) := by decide +kernel
theorem dX10_set_57 : decode cX10_set 57 = .ok (.iload_n 1, 1) := by decide +kernel
theorem dX10_set_58 : decode cX10_set 58 = .ok (.iaload, 1) := by decide +kernel
theorem dX10_set_59 : decode cX10_set 59 = .ok (.goto 9, 3) := by decide +kernel
theorem dX10_set_62 : decode cX10_set 62 = .ok (.aload_n 0, 1) := by decide +kernel
theorem dX10_set_63 : decode cX10_set 63 = .ok (.getfield 19, 3) := by decide +kernel
theorem dX10_set_66 : decode cX10_set 66 = .ok (.iload_n 1, 1) := by decide +kernel
theorem dX10_set_67 : decode cX10_set 67 = .ok (.iaload, 1) := by decide +kernel
theorem dX10_set_68 : decode cX10_set 68 = .ok (.istore 4, 2) := by decide +kernel
theorem dX10_set_70 : decode cX10_set 70 = .ok (.iload_n 2, 1) := by decide +kernel
theorem dX10_set_71 : decode cX10_set 71 = .ok (.ifCond .ne 13, 3) := by decide +kernel
theorem dX10_set_74 : decode cX10_set 74 = .ok (.aload_n 0, 1) := by decide +kernel
theorem dX10_set_75 : decode cX10_set 75 = .ok (.getfield 16, 3) := by decide +kernel
theorem dX10_set_78 : decode cX10_set 78 = .ok (.iload_n 1, 1) := by decide +kernel
theorem dX10_set_79 : decode cX10_set 79 = .ok (.iload_n 3, 1) := by decide +kernel
theorem dX10_set_80 : decode cX10_set 80 = .ok (.iastore, 1) := by decide +kernel
theorem dX10_set_81 : decode cX10_set 81 = .ok (.goto 10, 3) := by decide +kernel
theorem dX10_set_84 : decode cX10_set 84 = .ok (.aload_n 0, 1) := by decide +kernel
theorem dX10_set_85 : decode cX10_set 85 = .ok (.getfield 19, 3) := by decide +kernel
theorem dX10_set_88 : decode cX10_set 88 = .ok (.iload_n 1, 1) := by decide +kernel
theorem dX10_set_89 : decode cX10_set 89 = .ok (.iload_n 3, 1) := by decide +kernel
theorem dX10_set_90 : decode cX10_set 90 = .ok (.iastore, 1) := by decide +kernel
theorem dX10_set_91 : decode cX10_set 91 = .ok (.iload 4, 2) := by decide +kernel
theorem dX10_set_93 : decode cX10_set 93 = .ok (.ireturn, 1) := by decide +kernel
theorem dX10_numberOf_0 : decode cX10_numberOf 0 = .ok (.aload_n 0, 1) := by decide +kernel
theorem dX10_numberOf_1 : decode cX10_numberOf 1 = .ok (.getfield 25, 3) := by decide +kernel
theorem dX10_numberOf_4 : decode cX10_numberOf 4 = .ok (.iload_n 1, 1) := by decide +kernel
theorem dX10_numberOf_5 : decode cX10_numberOf 5 = .ok (.baload, 1) := by decide +kernel
theorem dX10_numberOf_6 : decode cX10_numberOf 6 = .ok (.ifCond .eq 28, 3) := by decide +kernel
theorem dX10_numberOf_9 : decode cX10_numberOf 9 = .ok (.iload_n 2, 1) := by decide +kernel
theorem dX10_numberOf_10 : decode cX10_numberOf 10 = .ok (.aload_n 0, 1) := by decide +kernel
theorem dX10_numberOf_11 : decode cX10_numberOf 11 = .ok (.getfield 32, 3) := by decide +kernel
theorem dX10_numberOf_14 : decode cX10_numberOf 14 = .ok (.iload_n 1, 1) := by decide +kernel
theorem dX10_numberOf_15 : decode cX10_numberOf 15 = .ok (.iaload, 1) := by decide +kernel
theorem dX10_numberOf_16 : decode cX10_numberOf 16 = .ok (.if_icmp .ge 18, 3) := by decide +kernel
theorem dX10_numberOf_19 : decode cX10_numberOf 19 = .ok (.aload_n 0, 1) := by decide +kernel
theorem dX10_numberOf_20 : decode cX10_numberOf 20 = .ok (.getfield 35, 3) := by decide +kernel
theorem dX10_numberOf_23 : decode cX10_numberOf 23 = .ok (.sipush 200, 3) := by decide +kernel
theorem dX10_numberOf_26 : decode cX10_numberOf 26 = .ok (.iload_n 1, 1) := by decide +kernel
theorem dX10_numberOf_27 : decode cX10_numberOf 27 = .ok (.imul, 1) := by decide +kernel
theorem dX10_numberOf_28 : decode cX10_numberOf 28 = .ok (.iload_n 2, 1) := by decide +kernel
theorem dX10_numberOf_29 : decode cX10_numberOf 29 = .ok (.iadd, 1) := by decide +kernel
theorem dX10_numberOf_30 : decode cX10_numberOf 30 = .ok (.iaload, 1) := by decide +kernel
theorem dX10_numberOf_31 : decode cX10_numberOf 31 = .ok (.goto 4, 3) := by decide +kernel
theorem dX10_numberOf_34 : decode cX10_numberOf 34 = .ok (.iconst 0, 1) := by decide +kernel
theorem dX10_numberOf_35 : decode cX10_numberOf 35 = .ok (.ireturn, 1) := by decide +kernel
theorem dX10_asItIs_0 : decode cX10_asItIs 0 = .ok (.iconst 0, 1) := by decide +kernel
theorem dX10_asItIs_1 : decode cX10_asItIs 1 = .ok (.istore_n 1, 1) := by decide +kernel
theorem dX10_asItIs_2 : decode cX10_asItIs 2 = .ok (.iload_n 1, 1) := by decide +kernel
theorem dX10_asItIs_3 : decode cX10_asItIs 3 = .ok (.aload_n 0, 1) := by decide +kernel
theorem dX10_asItIs_4 : decode cX10_asItIs 4 = .ok (.getfield 96, 3) := by decide +kernel
theorem dX10_asItIs_7 : decode cX10_asItIs 7 = .ok (.if_icmp .ge 45, 3) := by decide +kernel
theorem dX10_asItIs_10 : decode cX10_asItIs 10 = .ok (.aload_n 0, 1) := by decide +kernel
theorem dX10_asItIs_11 : decode cX10_asItIs 11 = .ok (.getfield 74, 3) := by decide +kernel
theorem dX10_asItIs_14 : decode cX10_asItIs 14 = .ok (.iload_n 1, 1) := by decide +kernel
theorem dX10_asItIs_15 : decode cX10_asItIs 15 = .ok (.aload_n 0, 1) := by decide +kernel
theorem dX10_asItIs_16 : decode cX10_asItIs 16 = .ok (.getfield 13, 3) := by decide +kernel
theorem dX10_asItIs_19 : decode cX10_asItIs 19 = .ok (.iload_n 1, 1) := by decide +kernel
theorem dX10_asItIs_20 : decode cX10_asItIs 20 = .ok (.iaload, 1) := by decide +kernel
theorem dX10_asItIs_21 : decode cX10_asItIs 21 = .ok (.iastore, 1) := by decide +kernel
theorem dX10_asItIs_22 : decode cX10_asItIs 22 = .ok (.aload_n 0, 1) := by decide +kernel
theorem dX10_asItIs_23 : decode cX10_asItIs 23 = .ok (.getfield 77, 3) := by decide +kernel
theorem dX10_asItIs_26 : decode cX10_asItIs 26 = .ok (.iload_n 1, 1) := by decide +kernel
theorem dX10_asItIs_27 : decode cX10_asItIs 27 = .ok (.aload_n 0, 1) := by decide +kernel
theorem dX10_asItIs_28 : decode cX10_asItIs 28 = .ok (.getfield 16, 3) := by decide +kernel
theorem dX10_asItIs_31 : decode cX10_asItIs 31 = .ok (.iload_n 1, 1) := by decide +kernel
theorem dX10_asItIs_32 : decode cX10_asItIs 32 = .ok (.iaload, 1) := by decide +kernel
theorem dX10_asItIs_33 : decode cX10_asItIs 33 = .ok (.iastore, 1) := by decide +kernel
theorem dX10_asItIs_34 : decode cX10_asItIs 34 = .ok (.aload_n 0, 1) := by decide +kernel
theorem dX10_asItIs_35 : decode cX10_asItIs 35 = .ok (.getfield 80, 3) := by decide +kernel
theorem dX10_asItIs_38 : decode cX10_asItIs 38 = .ok (.iload_n 1, 1) := by decide +kernel
theorem dX10_asItIs_39 : decode cX10_asItIs 39 = .ok (.aload_n 0, 1) := by decide +kernel
theorem dX10_asItIs_40 : decode cX10_asItIs 40 = .ok (.getfield 19, 3) := by decide +kernel
theorem dX10_asItIs_43 : decode cX10_asItIs 43 = .ok (.iload_n 1, 1) := by decide +kernel
theorem dX10_asItIs_44 : decode cX10_asItIs 44 = .ok (.iaload, 1) := by decide +kernel
theorem dX10_asItIs_45 : decode cX10_asItIs 45 = .ok (.iastore, 1) := by decide +kernel
theorem dX10_asItIs_46 : decode cX10_asItIs 46 = .ok (.iinc 1 1, 3) := by decide +kernel
theorem dX10_asItIs_49 : decode cX10_asItIs 49 = .ok (.goto (-47), 3) := by decide +kernel
theorem dX10_asItIs_52 : decode cX10_asItIs 52 = .ok (.return_, 1) := by decide +kernel
theorem dX10_findLosses_0 : decode cX10_findLosses 0 = .ok (.iconst 0, 1) := by decide +kernel
theorem dX10_findLosses_1 : decode cX10_findLosses 1 = .ok (.istore_n 2, 1) := by decide +kernel
theorem dX10_findLosses_2 : decode cX10_findLosses 2 = .ok (.iconst 0, 1) := by decide +kernel
theorem dX10_findLosses_3 : decode cX10_findLosses 3 = .ok (.istore_n 3, 1) := by decide +kernel
theorem dX10_findLosses_4 : decode cX10_findLosses 4 = .ok (.iload_n 3, 1) := by decide +kernel
theorem dX10_findLosses_5 : decode cX10_findLosses 5 = .ok (.aload_n 0, 1) := by decide +kernel
theorem dX10_findLosses_6 : decode cX10_findLosses 6 = .ok (.getfield 96, 3) := by decide +kernel
theorem dX10_findLosses_9 : decode cX10_findLosses 9 = .ok (.if_icmp .ge 36, 3) := by decide +kernel
theorem dX10_findLosses_12 : decode cX10_findLosses 12 = .ok (.iload_n 2, 1) := by decide +kernel
theorem dX10_findLosses_13 : decode cX10_findLosses 13 = .ok (.aload_n 0, 1) := by decide +kernel
theorem dX10_findLosses_14 : decode cX10_findLosses 14 = .ok (.getfield 80, 3) := by decide +kernel
theorem dX10_findLosses_17 : decode cX10_findLosses 17 = .ok (.iload_n 3, 1) := by decide +kernel
theorem dX10_findLosses_18 : decode cX10_findLosses 18 = .ok (.iaload, 1) := by decide +kernel
theorem dX10_findLosses_19 : decode cX10_findLosses 19 = .ok (.iconst 1, 1) := by decide +kernel
theorem dX10_findLosses_20 : decode cX10_findLosses 20 = .ok (.if_icmp .eq 12, 3) := by decide +kernel
theorem dX10_findLosses_23 : decode cX10_findLosses 23 = .ok (.aload_n 0, 1) := by decide +kernel
theorem dX10_findLosses_24 : decode cX10_findLosses 24 = .ok (.getfield 74, 3) := by decide +kernel
theorem dX10_findLosses_27 : decode cX10_findLosses 27 = .ok (.iload_n 3, 1) := by decide +kernel
theorem dX10_findLosses_28 : decode cX10_findLosses 28 = .ok (.iaload, 1) := by decide +kernel
theorem dX10_findLosses_29 : decode cX10_findLosses 29 = .ok (.ifCond .ne 7, 3) := by decide +kernel
theorem dX10_findLosses_32 : decode cX10_findLosses 32 = .ok (.iconst 1, 1) := by decide +kernel
theorem dX10_findLosses_33 : decode cX10_findLosses 33 = .ok (.goto 4, 3) := by decide +kernel
theorem dX10_findLosses_36 : decode cX10_findLosses 36 = .ok (.iconst 0, 1) := by decide +kernel
theorem dX10_findLosses_37 : decode cX10_findLosses 37 = .ok (.iadd, 1) := by decide +kernel
theorem dX10_findLosses_38 : decode cX10_findLosses 38 = .ok (.istore_n 2, 1) := by decide +kernel
theorem dX10_findLosses_39 : decode cX10_findLosses 39 = .ok (.iinc 3 1, 3) := by decide +kernel
theorem dX10_findLosses_42 : decode cX10_findLosses 42 = .ok (.goto (-38), 3) := by decide +kernel
theorem dX10_findLosses_45 : decode cX10_findLosses 45 = .ok (.aload_n 0, 1) := by decide +kernel
theorem dX10_findLosses_46 : decode cX10_findLosses 46 = .ok (.iconst 0, 1) := by decide +kernel
theorem dX10_findLosses_47 : decode cX10_findLosses 47 = .ok (.iload_n 1, 1) := by decide +kernel
theorem dX10_findLosses_48 : decode cX10_findLosses 48 = .ok (.invokevirtual 113, 3) := by decide +kernel
theorem dX10_findLosses_51 : decode cX10_findLosses 51 = .ok (.bipush 10, 2) := by decide +kernel
theorem dX10_findLosses_53 : decode cX10_findLosses 53 = .ok (.iload_n 2, 1) := by decide +kernel
theorem dX10_findLosses_54 : decode cX10_findLosses 54 = .ok (.iadd, 1) := by decide +kernel
theorem dX10_findLosses_55 : decode cX10_findLosses 55 = .ok (.imul, 1) := by decide +kernel
theorem dX10_findLosses_56 : decode cX10_findLosses 56 = .ok (.bipush 10, 2) := by decide +kernel
theorem dX10_findLosses_58 : decode cX10_findLosses 58 = .ok (.idiv, 1) := by decide +kernel
theorem dX10_findLosses_59 : decode cX10_findLosses 59 = .ok (.istore_n 3, 1) := by decide +kernel
theorem dX10_findLosses_60 : decode cX10_findLosses 60 = .ok (.iconst 0, 1) := by decide +kernel
theorem dX10_findLosses_61 : decode cX10_findLosses 61 = .ok (.istore 4, 2) := by decide +kernel
theorem dX10_findLosses_63 : decode cX10_findLosses 63 = .ok (.iload 4, 2) := by decide +kernel
theorem dX10_findLosses_65 : decode cX10_findLosses 65 = .ok (.aload_n 0, 1) := by decide +kernel
theorem dX10_findLosses_66 : decode cX10_findLosses 66 = .ok (.getfield 96, 3) := by decide +kernel
theorem dX10_findLosses_69 : decode cX10_findLosses 69 = .ok (.if_icmp .ge 127, 3) := by decide +kernel
theorem dX10_findLosses_72 : decode cX10_findLosses 72 = .ok (.bipush 10, 2) := by decide +kernel
theorem dX10_findLosses_74 : decode cX10_findLosses 74 = .ok (.iconst 4, 1) := by decide +kernel
theorem dX10_findLosses_75 : decode cX10_findLosses 75 = .ok (.aload_n 0, 1) := by decide +kernel
theorem dX10_findLosses_76 : decode cX10_findLosses 76 = .ok (.getfield 77, 3) := by decide +kernel
theorem dX10_findLosses_79 : decode cX10_findLosses 79 = .ok (.iload 4, 2) := by decide +kernel
theorem dX10_findLosses_81 : decode cX10_findLosses 81 = .ok (.iaload, 1) := by decide +kernel
theorem dX10_findLosses_82 : decode cX10_findLosses 82 = .ok (.imul, 1) := by decide +kernel
theorem dX10_findLosses_83 : decode cX10_findLosses 83 = .ok (.iadd, 1) := by decide +kernel
theorem dX10_findLosses_84 : decode cX10_findLosses 84 = .ok (.istore 5, 2) := by decide +kernel
theorem dX10_findLosses_86 : decode cX10_findLosses 86 = .ok (.aload_n 0, 1) := by decide +kernel
theorem dX10_findLosses_87 : decode cX10_findLosses 87 = .ok (.getfield 7, 3) := by decide +kernel
theorem dX10_findLosses_90 : decode cX10_findLosses 90 = .ok (.iload 4, 2) := by decide +kernel
theorem dX10_findLosses_92 : decode cX10_findLosses 92 = .ok (.iaload, 1) := by decide +kernel
theorem dX10_findLosses_93 : decode cX10_findLosses 93 = .ok (.iconst 1, 1) := by decide +kernel
theorem dX10_findLosses_94 : decode cX10_findLosses 94 = .ok (.if_icmp .ne 10, 3) := by decide +kernel
theorem dX10_findLosses_97 : decode cX10_findLosses 97 = .ok (.iload 5, 2) := by decide +kernel
theorem dX10_findLosses_99 : decode cX10_findLosses 99 = .ok (.iconst 2, 1) := by decide +kernel
theorem dX10_findLosses_100 : decode cX10_findLosses 100 = .ok (.idiv, 1) := by decide +kernel
theorem dX10_findLosses_101 : decode cX10_findLosses 101 = .ok (.goto 45, 3) := by decide +kernel
theorem dX10_findLosses_104 : decode cX10_findLosses 104 = .ok (.aload_n 0, 1) := by decide +kernel
theorem dX10_findLosses_105 : decode cX10_findLosses 105 = .ok (.getfield 7, 3) := by decide +kernel
theorem dX10_findLosses_108 : decode cX10_findLosses 108 = .ok (.iload 4, 2) := by decide +kernel
theorem dX10_findLosses_110 : decode cX10_findLosses 110 = .ok (.iaload, 1) := by decide +kernel
theorem dX10_findLosses_111 : decode cX10_findLosses 111 = .ok (.iconst 2, 1) := by decide +kernel
theorem dX10_findLosses_112 : decode cX10_findLosses 112 = .ok (.if_icmp .ne 11, 3) := by decide +kernel
theorem dX10_findLosses_115 : decode cX10_findLosses 115 = .ok (.iload 5, 2) := by decide +kernel
theorem dX10_findLosses_117 : decode cX10_findLosses 117 = .ok (.bipush 15, 2) := by decide +kernel
theorem dX10_findLosses_119 : decode cX10_findLosses 119 = .ok (.iadd, 1) := by decide +kernel
theorem dX10_findLosses_120 : decode cX10_findLosses 120 = .ok (.goto 26, 3) := by decide +kernel
theorem dX10_findLosses_123 : decode cX10_findLosses 123 = .ok (.aload_n 0, 1) := by decide +kernel
theorem dX10_findLosses_124 : decode cX10_findLosses 124 = .ok (.getfield 7, 3) := by decide +kernel
theorem dX10_findLosses_127 : decode cX10_findLosses 127 = .ok (.iload 4, 2) := by decide +kernel
theorem dX10_findLosses_129 : decode cX10_findLosses 129 = .ok (.iaload, 1) := by decide +kernel
theorem dX10_findLosses_130 : decode cX10_findLosses 130 = .ok (.iconst 3, 1) := by decide +kernel
theorem dX10_findLosses_131 : decode cX10_findLosses 131 = .ok (.if_icmp .ne 13, 3) := by decide +kernel
theorem dX10_findLosses_134 : decode cX10_findLosses 134 = .ok (.iconst 2, 1) := by decide +kernel
theorem dX10_findLosses_135 : decode cX10_findLosses 135 = .ok (.iload 5, 2) := by decide +kernel
theorem dX10_findLosses_137 : decode cX10_findLosses 137 = .ok (.bipush 15, 2) := by decide +kernel
theorem dX10_findLosses_139 : decode cX10_findLosses 139 = .ok (.iadd, 1) := by decide +kernel
theorem dX10_findLosses_140 : decode cX10_findLosses 140 = .ok (.imul, 1) := by decide +kernel
theorem dX10_findLosses_141 : decode cX10_findLosses 141 = .ok (.goto 5, 3) := by decide +kernel
theorem dX10_findLosses_144 : decode cX10_findLosses 144 = .ok (.iload 5, 2) := by decide +kernel
theorem dX10_findLosses_146 : decode cX10_findLosses 146 = .ok (.istore 6, 2) := by decide +kernel
theorem dX10_findLosses_148 : decode cX10_findLosses 148 = .ok (.aload_n 0, 1) := by decide +kernel
theorem dX10_findLosses_149 : decode cX10_findLosses 149 = .ok (.getfield 83, 3) := by decide +kernel
theorem dX10_findLosses_152 : decode cX10_findLosses 152 = .ok (.iload 4, 2) := by decide +kernel
theorem dX10_findLosses_154 : decode cX10_findLosses 154 = .ok (.aload_n 0, 1) := by decide +kernel
theorem dX10_findLosses_155 : decode cX10_findLosses 155 = .ok (.getfield 74, 3) := by decide +kernel
theorem dX10_findLosses_158 : decode cX10_findLosses 158 = .ok (.iload 4, 2) := by decide +kernel
theorem dX10_findLosses_160 : decode cX10_findLosses 160 = .ok (.iaload, 1) := by decide +kernel
theorem dX10_findLosses_161 : decode cX10_findLosses 161 = .ok (.ifCond .ne 7, 3) := by decide +kernel
theorem dX10_findLosses_164 : decode cX10_findLosses 164 = .ok (.iconst 0, 1) := by decide +kernel
theorem dX10_findLosses_165 : decode cX10_findLosses 165 = .ok (.goto 24, 3) := by decide +kernel
theorem dX10_findLosses_168 : decode cX10_findLosses 168 = .ok (.iload 6, 2) := by decide +kernel
theorem dX10_findLosses_170 : decode cX10_findLosses 170 = .ok (.aload_n 0, 1) := by decide +kernel
theorem dX10_findLosses_171 : decode cX10_findLosses 171 = .ok (.getfield 7, 3) := by decide +kernel
theorem dX10_findLosses_174 : decode cX10_findLosses 174 = .ok (.iload 4, 2) := by decide +kernel
theorem dX10_findLosses_176 : decode cX10_findLosses 176 = .ok (.iaload, 1) := by decide +kernel
theorem dX10_findLosses_177 : decode cX10_findLosses 177 = .ok (.iconst 1, 1) := by decide +kernel
theorem dX10_findLosses_178 : decode cX10_findLosses 178 = .ok (.if_icmp .ne 9, 3) := by decide +kernel
theorem dX10_findLosses_181 : decode cX10_findLosses 181 = .ok (.iload_n 3, 1) := by decide +kernel
theorem dX10_findLosses_182 : decode cX10_findLosses 182 = .ok (.iconst 2, 1) := by decide +kernel
theorem dX10_findLosses_183 : decode cX10_findLosses 183 = .ok (.idiv, 1) := by decide +kernel
theorem dX10_findLosses_184 : decode cX10_findLosses 184 = .ok (.goto 4, 3) := by decide +kernel
theorem dX10_findLosses_187 : decode cX10_findLosses 187 = .ok (.iload_n 3, 1) := by decide +kernel
theorem dX10_findLosses_188 : decode cX10_findLosses 188 = .ok (.iadd, 1) := by decide +kernel
theorem dX10_findLosses_189 : decode cX10_findLosses 189 = .ok (.iastore, 1) := by decide +kernel
theorem dX10_findLosses_190 : decode cX10_findLosses 190 = .ok (.iinc 4 1, 3) := by decide +kernel
theorem dX10_findLosses_193 : decode cX10_findLosses 193 = .ok (.goto (-130), 3) := by decide +kernel
theorem dX10_findLosses_196 : decode cX10_findLosses 196 = .ok (.return_, 1) := by decide +kernel
theorem dX10_lose_0 : decode cX10_lose 0 = .ok (.iconst 0, 1) := by decide +kernel
theorem dX10_lose_1 : decode cX10_lose 1 = .ok (.istore_n 1, 1) := by decide +kernel
theorem dX10_lose_2 : decode cX10_lose 2 = .ok (.iload_n 1, 1) := by decide +kernel
theorem dX10_lose_3 : decode cX10_lose 3 = .ok (.aload_n 0, 1) := by decide +kernel
theorem dX10_lose_4 : decode cX10_lose 4 = .ok (.getfield 96, 3) := by decide +kernel
theorem dX10_lose_7 : decode cX10_lose 7 = .ok (.if_icmp .ge 70, 3) := by decide +kernel
theorem dX10_lose_10 : decode cX10_lose 10 = .ok (.aload_n 0, 1) := by decide +kernel
theorem dX10_lose_11 : decode cX10_lose 11 = .ok (.getfield 74, 3) := by decide +kernel
theorem dX10_lose_14 : decode cX10_lose 14 = .ok (.iload_n 1, 1) := by decide +kernel
theorem dX10_lose_15 : decode cX10_lose 15 = .ok (.aload_n 0, 1) := by decide +kernel
theorem dX10_lose_16 : decode cX10_lose 16 = .ok (.getfield 74, 3) := by decide +kernel
theorem dX10_lose_19 : decode cX10_lose 19 = .ok (.iload_n 1, 1) := by decide +kernel
theorem dX10_lose_20 : decode cX10_lose 20 = .ok (.iaload, 1) := by decide +kernel
theorem dX10_lose_21 : decode cX10_lose 21 = .ok (.aload_n 0, 1) := by decide +kernel
theorem dX10_lose_22 : decode cX10_lose 22 = .ok (.getfield 83, 3) := by decide +kernel
theorem dX10_lose_25 : decode cX10_lose 25 = .ok (.iload_n 1, 1) := by decide +kernel
theorem dX10_lose_26 : decode cX10_lose 26 = .ok (.iaload, 1) := by decide +kernel
theorem dX10_lose_27 : decode cX10_lose 27 = .ok (.if_icmp .le 19, 3) := by decide +kernel
theorem dX10_lose_30 : decode cX10_lose 30 = .ok (.aload_n 0, 1) := by decide +kernel
theorem dX10_lose_31 : decode cX10_lose 31 = .ok (.getfield 74, 3) := by decide +kernel
theorem dX10_lose_34 : decode cX10_lose 34 = .ok (.iload_n 1, 1) := by decide +kernel
theorem dX10_lose_35 : decode cX10_lose 35 = .ok (.iaload, 1) := by decide +kernel
theorem dX10_lose_36 : decode cX10_lose 36 = .ok (.aload_n 0, 1) := by decide +kernel
theorem dX10_lose_37 : decode cX10_lose 37 = .ok (.getfield 83, 3) := by decide +kernel
theorem dX10_lose_40 : decode cX10_lose 40 = .ok (.iload_n 1, 1) := by decide +kernel
theorem dX10_lose_41 : decode cX10_lose 41 = .ok (.iaload, 1) := by decide +kernel
theorem dX10_lose_42 : decode cX10_lose 42 = .ok (.isub, 1) := by decide +kernel
theorem dX10_lose_43 : decode cX10_lose 43 = .ok (.goto 4, 3) := by decide +kernel
theorem dX10_lose_46 : decode cX10_lose 46 = .ok (.iconst 0, 1) := by decide +kernel
theorem dX10_lose_47 : decode cX10_lose 47 = .ok (.iastore, 1) := by decide +kernel
theorem dX10_lose_48 : decode cX10_lose 48 = .ok (.aload_n 0, 1) := by decide +kernel
theorem dX10_lose_49 : decode cX10_lose 49 = .ok (.getfield 74, 3) := by decide +kernel
theorem dX10_lose_52 : decode cX10_lose 52 = .ok (.iload_n 1, 1) := by decide +kernel
theorem dX10_lose_53 : decode cX10_lose 53 = .ok (.iaload, 1) := by decide +kernel
theorem dX10_lose_54 : decode cX10_lose 54 = .ok (.ifCond .ne 17, 3) := by decide +kernel
theorem dX10_lose_57 : decode cX10_lose 57 = .ok (.aload_n 0, 1) := by decide +kernel
theorem dX10_lose_58 : decode cX10_lose 58 = .ok (.getfield 77, 3) := by decide +kernel
theorem dX10_lose_61 : decode cX10_lose 61 = .ok (.iload_n 1, 1) := by decide +kernel
theorem dX10_lose_62 : decode cX10_lose 62 = .ok (.iconst 0, 1) := by decide +kernel
theorem dX10_lose_63 : decode cX10_lose 63 = .ok (.iastore, 1) := by decide +kernel
theorem dX10_lose_64 : decode cX10_lose 64 = .ok (.aload_n 0, 1) := by decide +kernel
theorem dX10_lose_65 : decode cX10_lose 65 = .ok (.getfield 80, 3) := by decide +kernel
theorem dX10_lose_68 : decode cX10_lose 68 = .ok (.iload_n 1, 1) := by decide +kernel
theorem dX10_lose_69 : decode cX10_lose 69 = .ok (.iconst 0, 1) := by decide +kernel
theorem dX10_lose_70 : decode cX10_lose 70 = .ok (.iastore, 1) := by decide +kernel
theorem dX10_lose_71 : decode cX10_lose 71 = .ok (.iinc 1 1, 3) := by decide +kernel
theorem dX10_lose_74 : decode cX10_lose 74 = .ok (.goto (-72), 3) := by decide +kernel
theorem dX10_lose_77 : decode cX10_lose 77 = .ok (.return_, 1) := by decide +kernel
theorem dX10_toldOf_0 : decode cX10_toldOf 0 = .ok (.aload_n 0, 1) := by decide +kernel
theorem dX10_toldOf_1 : decode cX10_toldOf 1 = .ok (.invokevirtual 117, 3) := by decide +kernel
theorem dX10_toldOf_4 : decode cX10_toldOf 4 = .ok (.aload_n 0, 1) := by decide +kernel
theorem dX10_toldOf_5 : decode cX10_toldOf 5 = .ok (.getfield 74, 3) := by decide +kernel
theorem dX10_toldOf_8 : decode cX10_toldOf 8 = .ok (.iload_n 1, 1) := by decide +kernel
theorem dX10_toldOf_9 : decode cX10_toldOf 9 = .ok (.iaload, 1) := by decide +kernel
theorem dX10_toldOf_10 : decode cX10_toldOf 10 = .ok (.ifCond .ne 6, 3) := by decide +kernel
theorem dX10_toldOf_13 : decode cX10_toldOf 13 = .ok (.ldc 120, 2) := by decide +kernel
theorem dX10_toldOf_15 : decode cX10_toldOf 15 = .ok (.ireturn, 1) := by decide +kernel
theorem dX10_toldOf_16 : decode cX10_toldOf 16 = .ok (.aload_n 0, 1) := by decide +kernel
theorem dX10_toldOf_17 : decode cX10_toldOf 17 = .ok (.getfield 103, 3) := by decide +kernel
theorem dX10_toldOf_20 : decode cX10_toldOf 20 = .ok (.iconst 1, 1) := by decide +kernel
theorem dX10_toldOf_21 : decode cX10_toldOf 21 = .ok (.iadd, 1) := by decide +kernel
theorem dX10_toldOf_22 : decode cX10_toldOf 22 = .ok (.istore_n 2, 1) := by decide +kernel
theorem dX10_toldOf_23 : decode cX10_toldOf 23 = .ok (.iload_n 2, 1) := by decide +kernel
theorem dX10_toldOf_24 : decode cX10_toldOf 24 = .ok (.sipush 200, 3) := by decide +kernel
theorem dX10_toldOf_27 : decode cX10_toldOf 27 = .ok (.if_icmp .gt 40, 3) := by decide +kernel
theorem dX10_toldOf_30 : decode cX10_toldOf 30 = .ok (.iload_n 2, 1) := by decide +kernel
theorem dX10_toldOf_31 : decode cX10_toldOf 31 = .ok (.aload_n 0, 1) := by decide +kernel
theorem dX10_toldOf_32 : decode cX10_toldOf 32 = .ok (.getfield 103, 3) := by decide +kernel
theorem dX10_toldOf_35 : decode cX10_toldOf 35 = .ok (.bipush 60, 2) := by decide +kernel
theorem dX10_toldOf_37 : decode cX10_toldOf 37 = .ok (.iadd, 1) := by decide +kernel
theorem dX10_toldOf_38 : decode cX10_toldOf 38 = .ok (.if_icmp .gt 29, 3) := by decide +kernel
theorem dX10_toldOf_41 : decode cX10_toldOf 41 = .ok (.aload_n 0, 1) := by decide +kernel
theorem dX10_toldOf_42 : decode cX10_toldOf 42 = .ok (.iload_n 2, 1) := by decide +kernel
theorem dX10_toldOf_43 : decode cX10_toldOf 43 = .ok (.invokevirtual 121, 3) := by decide +kernel
theorem dX10_toldOf_46 : decode cX10_toldOf 46 = .ok (.aload_n 0, 1) := by decide +kernel
theorem dX10_toldOf_47 : decode cX10_toldOf 47 = .ok (.invokevirtual 125, 3) := by decide +kernel
theorem dX10_toldOf_50 : decode cX10_toldOf 50 = .ok (.aload_n 0, 1) := by decide +kernel
theorem dX10_toldOf_51 : decode cX10_toldOf 51 = .ok (.getfield 74, 3) := by decide +kernel
theorem dX10_toldOf_54 : decode cX10_toldOf 54 = .ok (.iload_n 1, 1) := by decide +kernel
theorem dX10_toldOf_55 : decode cX10_toldOf 55 = .ok (.iaload, 1) := by decide +kernel
theorem dX10_toldOf_56 : decode cX10_toldOf 56 = .ok (.ifCond .ne 5, 3) := by decide +kernel
theorem dX10_toldOf_59 : decode cX10_toldOf 59 = .ok (.iload_n 2, 1) := by decide +kernel
theorem dX10_toldOf_60 : decode cX10_toldOf 60 = .ok (.ireturn, 1) := by decide +kernel
theorem dX10_toldOf_61 : decode cX10_toldOf 61 = .ok (.iinc 2 1, 3) := by decide +kernel
theorem dX10_toldOf_64 : decode cX10_toldOf 64 = .ok (.goto (-41), 3) := by decide +kernel
theorem dX10_toldOf_67 : decode cX10_toldOf 67 = .ok (.ldc 120, 2) := by decide +kernel
theorem dX10_toldOf_69 : decode cX10_toldOf 69 = .ok (.ireturn, 1) := by decide +kernel
theorem dX10_spentAt_0 : decode cX10_spentAt 0 = .ok (.iconst 0, 1) := by decide +kernel
theorem dX10_spentAt_1 : decode cX10_spentAt 1 = .ok (.istore_n 2, 1) := by decide +kernel
theorem dX10_spentAt_2 : decode cX10_spentAt 2 = .ok (.iconst 0, 1) := by decide +kernel
theorem dX10_spentAt_3 : decode cX10_spentAt 3 = .ok (.istore_n 3, 1) := by decide +kernel
theorem dX10_spentAt_4 : decode cX10_spentAt 4 = .ok (.iload_n 3, 1) := by decide +kernel
theorem dX10_spentAt_5 : decode cX10_spentAt 5 = .ok (.aload_n 0, 1) := by decide +kernel
theorem dX10_spentAt_6 : decode cX10_spentAt 6 = .ok (.getfield 92, 3) := by decide +kernel
theorem dX10_spentAt_9 : decode cX10_spentAt 9 = .ok (.if_icmp .ge 23, 3) := by decide +kernel
theorem dX10_spentAt_12 : decode cX10_spentAt 12 = .ok (.iload_n 2, 1) := by decide +kernel
theorem dX10_spentAt_13 : decode cX10_spentAt 13 = .ok (.aload_n 0, 1) := by decide +kernel
theorem dX10_spentAt_14 : decode cX10_spentAt 14 = .ok (.getfield 65, 3) := by decide +kernel
theorem dX10_spentAt_17 : decode cX10_spentAt 17 = .ok (.bipush 12, 2) := by decide +kernel
theorem dX10_spentAt_19 : decode cX10_spentAt 19 = .ok (.iload_n 3, 1) := by decide +kernel
theorem dX10_spentAt_20 : decode cX10_spentAt 20 = .ok (.imul, 1) := by decide +kernel
theorem dX10_spentAt_21 : decode cX10_spentAt 21 = .ok (.iload_n 1, 1) := by decide +kernel
theorem dX10_spentAt_22 : decode cX10_spentAt 22 = .ok (.iadd, 1) := by decide +kernel
theorem dX10_spentAt_23 : decode cX10_spentAt 23 = .ok (.iaload, 1) := by decide +kernel
theorem dX10_spentAt_24 : decode cX10_spentAt 24 = .ok (.iadd, 1) := by decide +kernel
theorem dX10_spentAt_25 : decode cX10_spentAt 25 = .ok (.istore_n 2, 1) := by decide +kernel
theorem dX10_spentAt_26 : decode cX10_spentAt 26 = .ok (.iinc 3 1, 3) := by decide +kernel
theorem dX10_spentAt_29 : decode cX10_spentAt 29 = .ok (.goto (-25), 3) := by decide +kernel
theorem dX10_spentAt_32 : decode cX10_spentAt 32 = .ok (.iload_n 2, 1) := by decide +kernel
theorem dX10_spentAt_33 : decode cX10_spentAt 33 = .ok (.ireturn, 1) := by decide +kernel
theorem dX10_about_0 : decode cX10_about 0 = .ok (.aload_n 0, 1) := by decide +kernel
theorem dX10_about_1 : decode cX10_about 1 = .ok (.iload_n 1, 1) := by decide +kernel
theorem dX10_about_2 : decode cX10_about 2 = .ok (.invokevirtual 108, 3) := by decide +kernel
theorem dX10_about_5 : decode cX10_about 5 = .ok (.ifCond .eq 13, 3) := by decide +kernel
theorem dX10_about_8 : decode cX10_about 8 = .ok (.iload_n 2, 1) := by decide +kernel
theorem dX10_about_9 : decode cX10_about 9 = .ok (.iconst 0, 1) := by decide +kernel
theorem dX10_about_10 : decode cX10_about 10 = .ok (.bipush 7, 2) := by decide +kernel
theorem dX10_about_12 : decode cX10_about 12 = .ok (.invokestatic 99, 3) := by decide +kernel
theorem dX10_about_15 : decode cX10_about 15 = .ok (.ifCond .ne 6, 3) := by decide +kernel
theorem dX10_about_18 : decode cX10_about 18 = .ok (.ldc 106, 2) := by decide +kernel
theorem dX10_about_20 : decode cX10_about 20 = .ok (.ireturn, 1) := by decide +kernel
theorem dX10_about_21 : decode cX10_about 21 = .ok (.iload_n 2, 1) := by decide +kernel
theorem dX10_about_22 : decode cX10_about 22 = .ok (.tableswitch 110 0 6 #[42, 49, 56, 63, 70, 85, 104], 42) := by decide +kernel
theorem dX10_about_64 : decode cX10_about 64 = .ok (.aload_n 0, 1) := by decide +kernel
theorem dX10_about_65 : decode cX10_about 65 = .ok (.getfield 7, 3) := by decide +kernel
theorem dX10_about_68 : decode cX10_about 68 = .ok (.iload_n 1, 1) := by decide +kernel
theorem dX10_about_69 : decode cX10_about 69 = .ok (.iaload, 1) := by decide +kernel
theorem dX10_about_70 : decode cX10_about 70 = .ok (.ireturn, 1) := by decide +kernel
theorem dX10_about_71 : decode cX10_about 71 = .ok (.aload_n 0, 1) := by decide +kernel
theorem dX10_about_72 : decode cX10_about 72 = .ok (.getfield 13, 3) := by decide +kernel
theorem dX10_about_75 : decode cX10_about 75 = .ok (.iload_n 1, 1) := by decide +kernel
theorem dX10_about_76 : decode cX10_about 76 = .ok (.iaload, 1) := by decide +kernel
theorem dX10_about_77 : decode cX10_about 77 = .ok (.ireturn, 1) := by decide +kernel
theorem dX10_about_78 : decode cX10_about 78 = .ok (.aload_n 0, 1) := by decide +kernel
theorem dX10_about_79 : decode cX10_about 79 = .ok (.getfield 16, 3) := by decide +kernel
theorem dX10_about_82 : decode cX10_about 82 = .ok (.iload_n 1, 1) := by decide +kernel
theorem dX10_about_83 : decode cX10_about 83 = .ok (.iaload, 1) := by decide +kernel
theorem dX10_about_84 : decode cX10_about 84 = .ok (.ireturn, 1) := by decide +kernel
theorem dX10_about_85 : decode cX10_about 85 = .ok (.aload_n 0, 1) := by decide +kernel
theorem dX10_about_86 : decode cX10_about 86 = .ok (.getfield 19, 3) := by decide +kernel
theorem dX10_about_89 : decode cX10_about 89 = .ok (.iload_n 1, 1) := by decide +kernel
theorem dX10_about_90 : decode cX10_about 90 = .ok (.iaload, 1) := by decide +kernel
theorem dX10_about_91 : decode cX10_about 91 = .ok (.ireturn, 1) := by decide +kernel
theorem dX10_about_92 : decode cX10_about 92 = .ok (.aload_n 0, 1) := by decide +kernel
theorem dX10_about_93 : decode cX10_about 93 = .ok (.getfield 13, 3) := by decide +kernel
theorem dX10_about_96 : decode cX10_about 96 = .ok (.iload_n 1, 1) := by decide +kernel
theorem dX10_about_97 : decode cX10_about 97 = .ok (.iaload, 1) := by decide +kernel
theorem dX10_about_98 : decode cX10_about 98 = .ok (.ifCond .ne 7, 3) := by decide +kernel
theorem dX10_about_101 : decode cX10_about 101 = .ok (.iconst 1, 1) := by decide +kernel
theorem dX10_about_102 : decode cX10_about 102 = .ok (.goto 4, 3) := by decide +kernel
theorem dX10_about_105 : decode cX10_about 105 = .ok (.iconst 0, 1) := by decide +kernel
theorem dX10_about_106 : decode cX10_about 106 = .ok (.ireturn, 1) := by decide +kernel
theorem dX10_about_107 : decode cX10_about 107 = .ok (.aload_n 0, 1) := by decide +kernel
theorem dX10_about_108 : decode cX10_about 108 = .ok (.invokevirtual 117, 3) := by decide +kernel
theorem dX10_about_111 : decode cX10_about 111 = .ok (.aload_n 0, 1) := by decide +kernel
theorem dX10_about_112 : decode cX10_about 112 = .ok (.aload_n 0, 1) := by decide +kernel
theorem dX10_about_113 : decode cX10_about 113 = .ok (.getfield 103, 3) := by decide +kernel
theorem dX10_about_116 : decode cX10_about 116 = .ok (.invokevirtual 121, 3) := by decide +kernel
theorem dX10_about_119 : decode cX10_about 119 = .ok (.aload_n 0, 1) := by decide +kernel
theorem dX10_about_120 : decode cX10_about 120 = .ok (.getfield 83, 3) := by decide +kernel
theorem dX10_about_123 : decode cX10_about 123 = .ok (.iload_n 1, 1) := by decide +kernel
theorem dX10_about_124 : decode cX10_about 124 = .ok (.iaload, 1) := by decide +kernel
theorem dX10_about_125 : decode cX10_about 125 = .ok (.ireturn, 1) := by decide +kernel
theorem dX10_about_126 : decode cX10_about 126 = .ok (.aload_n 0, 1) := by decide +kernel
theorem dX10_about_127 : decode cX10_about 127 = .ok (.iload_n 1, 1) := by decide +kernel
theorem dX10_about_128 : decode cX10_about 128 = .ok (.invokevirtual 128, 3) := by decide +kernel
theorem dX10_about_131 : decode cX10_about 131 = .ok (.ireturn, 1) := by decide +kernel
theorem dX10_about_132 : decode cX10_about 132 = .ok (.aload_n 0, 1) := by decide +kernel
theorem dX10_about_133 : decode cX10_about 133 = .ok (.iconst 2, 1) := by decide +kernel
theorem dX10_about_134 : decode cX10_about 134 = .ok (.iload_n 1, 1) := by decide +kernel
theorem dX10_about_135 : decode cX10_about 135 = .ok (.iadd, 1) := by decide +kernel
theorem dX10_about_136 : decode cX10_about 136 = .ok (.invokevirtual 132, 3) := by decide +kernel
theorem dX10_about_139 : decode cX10_about 139 = .ok (.ireturn, 1) := by decide +kernel
theorem dX10_isOf_0 : decode cX10_isOf 0 = .ok (.aload_n 0, 1) := by decide +kernel
theorem dX10_isOf_1 : decode cX10_isOf 1 = .ok (.iload_n 1, 1) := by decide +kernel
theorem dX10_isOf_2 : decode cX10_isOf 2 = .ok (.invokevirtual 108, 3) := by decide +kernel
theorem dX10_isOf_5 : decode cX10_isOf 5 = .ok (.ifCond .eq 12, 3) := by decide +kernel
theorem dX10_isOf_8 : decode cX10_isOf 8 = .ok (.iload_n 2, 1) := by decide +kernel
theorem dX10_isOf_9 : decode cX10_isOf 9 = .ok (.iconst 0, 1) := by decide +kernel
theorem dX10_isOf_10 : decode cX10_isOf 10 = .ok (.iconst 3, 1) := by decide +kernel
theorem dX10_isOf_11 : decode cX10_isOf 11 = .ok (.invokestatic 99, 3) := by decide +kernel
theorem dX10_isOf_14 : decode cX10_isOf 14 = .ok (.ifCond .ne 6, 3) := by decide +kernel
theorem dX10_isOf_17 : decode cX10_isOf 17 = .ok (.ldc 106, 2) := by decide +kernel
theorem dX10_isOf_19 : decode cX10_isOf 19 = .ok (.ireturn, 1) := by decide +kernel
theorem dX10_isOf_20 : decode cX10_isOf 20 = .ok (.iload_n 2, 1) := by decide +kernel
theorem dX10_isOf_21 : decode cX10_isOf 21 = .ok (.ifCond .eq 28, 3) := by decide +kernel
theorem dX10_isOf_24 : decode cX10_isOf 24 = .ok (.iload_n 2, 1) := by decide +kernel
theorem dX10_isOf_25 : decode cX10_isOf 25 = .ok (.aload_n 0, 1) := by decide +kernel
theorem dX10_isOf_26 : decode cX10_isOf 26 = .ok (.getfield 7, 3) := by decide +kernel
theorem dX10_isOf_29 : decode cX10_isOf 29 = .ok (.iload_n 1, 1) := by decide +kernel
theorem dX10_isOf_30 : decode cX10_isOf 30 = .ok (.iaload, 1) := by decide +kernel
theorem dX10_isOf_31 : decode cX10_isOf 31 = .ok (.if_icmp .eq 18, 3) := by decide +kernel
theorem dX10_isOf_34 : decode cX10_isOf 34 = .ok (.iload_n 2, 1) := by decide +kernel
theorem dX10_isOf_35 : decode cX10_isOf 35 = .ok (.iconst 2, 1) := by decide +kernel
theorem dX10_isOf_36 : decode cX10_isOf 36 = .ok (.if_icmp .ne 17, 3) := by decide +kernel
theorem dX10_isOf_39 : decode cX10_isOf 39 = .ok (.aload_n 0, 1) := by decide +kernel
theorem dX10_isOf_40 : decode cX10_isOf 40 = .ok (.getfield 7, 3) := by decide +kernel
theorem dX10_isOf_43 : decode cX10_isOf 43 = .ok (.iload_n 1, 1) := by decide +kernel
theorem dX10_isOf_44 : decode cX10_isOf 44 = .ok (.iaload, 1) := by decide +kernel
theorem dX10_isOf_45 : decode cX10_isOf 45 = .ok (.iconst 3, 1) := by decide +kernel
theorem dX10_isOf_46 : decode cX10_isOf 46 = .ok (.if_icmp .ne 7, 3) := by decide +kernel
theorem dX10_isOf_49 : decode cX10_isOf 49 = .ok (.iconst 1, 1) := by decide +kernel
theorem dX10_isOf_50 : decode cX10_isOf 50 = .ok (.goto 4, 3) := by decide +kernel
theorem dX10_isOf_53 : decode cX10_isOf 53 = .ok (.iconst 0, 1) := by decide +kernel
theorem dX10_isOf_54 : decode cX10_isOf 54 = .ok (.ireturn, 1) := by decide +kernel
theorem dX10_isSheet_0 : decode cX10_isSheet 0 = .ok (.iload_n 0, 1) := by decide +kernel
theorem dX10_isSheet_1 : decode cX10_isSheet 1 = .ok (.iconst 0, 1) := by decide +kernel
theorem dX10_isSheet_2 : decode cX10_isSheet 2 = .ok (.iconst 3, 1) := by decide +kernel
theorem dX10_isSheet_3 : decode cX10_isSheet 3 = .ok (.invokestatic 99, 3) := by decide +kernel
theorem dX10_isSheet_6 : decode cX10_isSheet 6 = .ok (.ireturn, 1) := by decide +kernel
theorem dX10_sheet_0 : decode cX10_sheet 0 = .ok (.iload_n 1, 1) := by decide +kernel
theorem dX10_sheet_1 : decode cX10_sheet 1 = .ok (.invokestatic 135, 3) := by decide +kernel
theorem dX10_sheet_4 : decode cX10_sheet 4 = .ok (.ifCond .eq 19, 3) := by decide +kernel
theorem dX10_sheet_7 : decode cX10_sheet 7 = .ok (.iload_n 2, 1) := by decide +kernel
theorem dX10_sheet_8 : decode cX10_sheet 8 = .ok (.iconst 0, 1) := by decide +kernel
theorem dX10_sheet_9 : decode cX10_sheet 9 = .ok (.iconst 2, 1) := by decide +kernel
theorem dX10_sheet_10 : decode cX10_sheet 10 = .ok (.invokestatic 99, 3) := by decide +kernel
theorem dX10_sheet_13 : decode cX10_sheet 13 = .ok (.ifCond .eq 10, 3) := by decide +kernel
theorem dX10_sheet_16 : decode cX10_sheet 16 = .ok (.iload_n 3, 1) := by decide +kernel
theorem dX10_sheet_17 : decode cX10_sheet 17 = .ok (.sipush 200, 3) := by decide +kernel
theorem dX10_sheet_20 : decode cX10_sheet 20 = .ok (.if_icmp .le 6, 3) := by decide +kernel
theorem dX10_sheet_23 : decode cX10_sheet 23 = .ok (.ldc 106, 2) := by decide +kernel
theorem dX10_sheet_25 : decode cX10_sheet 25 = .ok (.ireturn, 1) := by decide +kernel
theorem dX10_sheet_26 : decode cX10_sheet 26 = .ok (.iload_n 3, 1) := by decide +kernel
theorem dX10_sheet_27 : decode cX10_sheet 27 = .ok (.ifCond .ge 6, 3) := by decide +kernel
theorem dX10_sheet_30 : decode cX10_sheet 30 = .ok (.ldc 138, 2) := by decide +kernel
theorem dX10_sheet_32 : decode cX10_sheet 32 = .ok (.ireturn, 1) := by decide +kernel
theorem dX10_sheet_33 : decode cX10_sheet 33 = .ok (.aload_n 0, 1) := by decide +kernel
theorem dX10_sheet_34 : decode cX10_sheet 34 = .ok (.getfield 25, 3) := by decide +kernel
theorem dX10_sheet_37 : decode cX10_sheet 37 = .ok (.iload_n 1, 1) := by decide +kernel
theorem dX10_sheet_38 : decode cX10_sheet 38 = .ok (.iconst 1, 1) := by decide +kernel
theorem dX10_sheet_39 : decode cX10_sheet 39 = .ok (.bastore, 1) := by decide +kernel
theorem dX10_sheet_40 : decode cX10_sheet 40 = .ok (.aload_n 0, 1) := by decide +kernel
theorem dX10_sheet_41 : decode cX10_sheet 41 = .ok (.getfield 29, 3) := by decide +kernel
theorem dX10_sheet_44 : decode cX10_sheet 44 = .ok (.iload_n 1, 1) := by decide +kernel
theorem dX10_sheet_45 : decode cX10_sheet 45 = .ok (.iload_n 2, 1) := by decide +kernel
theorem dX10_sheet_46 : decode cX10_sheet 46 = .ok (.iastore, 1) := by decide +kernel
theorem dX10_sheet_47 : decode cX10_sheet 47 = .ok (.aload_n 0, 1) := by decide +kernel
theorem dX10_sheet_48 : decode cX10_sheet 48 = .ok (.getfield 32, 3) := by decide +kernel
theorem dX10_sheet_51 : decode cX10_sheet 51 = .ok (.iload_n 1, 1) := by decide +kernel
theorem dX10_sheet_52 : decode cX10_sheet 52 = .ok (.iload_n 3, 1) := by decide +kernel
theorem dX10_sheet_53 : decode cX10_sheet 53 = .ok (.iastore, 1) := by decide +kernel
theorem dX10_sheet_54 : decode cX10_sheet 54 = .ok (.iconst 0, 1) := by decide +kernel
theorem dX10_sheet_55 : decode cX10_sheet 55 = .ok (.istore 4, 2) := by decide +kernel
theorem dX10_sheet_57 : decode cX10_sheet 57 = .ok (.iload 4, 2) := by decide +kernel
theorem dX10_sheet_59 : decode cX10_sheet 59 = .ok (.iload_n 3, 1) := by decide +kernel
theorem dX10_sheet_60 : decode cX10_sheet 60 = .ok (.if_icmp .ge 23, 3) := by decide +kernel
theorem dX10_sheet_63 : decode cX10_sheet 63 = .ok (.aload_n 0, 1) := by decide +kernel
theorem dX10_sheet_64 : decode cX10_sheet 64 = .ok (.getfield 35, 3) := by decide +kernel
theorem dX10_sheet_67 : decode cX10_sheet 67 = .ok (.sipush 200, 3) := by decide +kernel
theorem dX10_sheet_70 : decode cX10_sheet 70 = .ok (.iload_n 1, 1) := by decide +kernel
theorem dX10_sheet_71 : decode cX10_sheet 71 = .ok (.imul, 1) := by decide +kernel
theorem dX10_sheet_72 : decode cX10_sheet 72 = .ok (.iload 4, 2) := by decide +kernel
theorem dX10_sheet_74 : decode cX10_sheet 74 = .ok (.iadd, 1) := by decide +kernel
theorem dX10_sheet_75 : decode cX10_sheet 75 = .ok (.iconst 0, 1) := by decide +kernel
theorem dX10_sheet_76 : decode cX10_sheet 76 = .ok (.iastore, 1) := by decide +kernel
theorem dX10_sheet_77 : decode cX10_sheet 77 = .ok (.iinc 4 1, 3) := by decide +kernel
theorem dX10_sheet_80 : decode cX10_sheet 80 = .ok (.goto (-23), 3) := by decide +kernel
theorem dX10_sheet_83 : decode cX10_sheet 83 = .ok (.iload_n 3, 1) := by decide +kernel
theorem dX10_sheet_84 : decode cX10_sheet 84 = .ok (.ireturn, 1) := by decide +kernel
theorem dX10_enter_0 : decode cX10_enter 0 = .ok (.iload_n 1, 1) := by decide +kernel
theorem dX10_enter_1 : decode cX10_enter 1 = .ok (.invokestatic 135, 3) := by decide +kernel
theorem dX10_enter_4 : decode cX10_enter 4 = .ok (.ifCond .ne 6, 3) := by decide +kernel
theorem dX10_enter_7 : decode cX10_enter 7 = .ok (.ldc 106, 2) := by decide +kernel
theorem dX10_enter_9 : decode cX10_enter 9 = .ok (.ireturn, 1) := by decide +kernel
theorem dX10_enter_10 : decode cX10_enter 10 = .ok (.aload_n 0, 1) := by decide +kernel
theorem dX10_enter_11 : decode cX10_enter 11 = .ok (.getfield 25, 3) := by decide +kernel
theorem dX10_enter_14 : decode cX10_enter 14 = .ok (.iload_n 1, 1) := by decide +kernel
theorem dX10_enter_15 : decode cX10_enter 15 = .ok (.baload, 1) := by decide +kernel
theorem dX10_enter_16 : decode cX10_enter 16 = .ok (.ifCond .ne 6, 3) := by decide +kernel
theorem dX10_enter_19 : decode cX10_enter 19 = .ok (.ldc 139, 2) := by decide +kernel
theorem dX10_enter_21 : decode cX10_enter 21 = .ok (.ireturn, 1) := by decide +kernel
theorem dX10_enter_22 : decode cX10_enter 22 = .ok (.iload_n 2, 1) := by decide +kernel
theorem dX10_enter_23 : decode cX10_enter 23 = .ok (.iconst 0, 1) := by decide +kernel
theorem dX10_enter_24 : decode cX10_enter 24 = .ok (.aload_n 0, 1) := by decide +kernel
theorem dX10_enter_25 : decode cX10_enter 25 = .ok (.getfield 32, 3) := by decide +kernel
theorem dX10_enter_28 : decode cX10_enter 28 = .ok (.iload_n 1, 1) := by decide +kernel
theorem dX10_enter_29 : decode cX10_enter 29 = .ok (.iaload, 1) := by decide +kernel
theorem dX10_enter_30 : decode cX10_enter 30 = .ok (.iconst 1, 1) := by decide +kernel
theorem dX10_enter_31 : decode cX10_enter 31 = .ok (.isub, 1) := by decide +kernel
theorem dX10_enter_32 : decode cX10_enter 32 = .ok (.invokestatic 99, 3) := by decide +kernel
theorem dX10_enter_35 : decode cX10_enter 35 = .ok (.ifCond .ne 6, 3) := by decide +kernel
theorem dX10_enter_38 : decode cX10_enter 38 = .ok (.ldc 140, 2) := by decide +kernel
theorem dX10_enter_40 : decode cX10_enter 40 = .ok (.ireturn, 1) := by decide +kernel
theorem dX10_enter_41 : decode cX10_enter 41 = .ok (.iload_n 3, 1) := by decide +kernel
theorem dX10_enter_42 : decode cX10_enter 42 = .ok (.iconst 0, 1) := by decide +kernel
theorem dX10_enter_43 : decode cX10_enter 43 = .ok (.aload_n 0, 1) := by decide +kernel
theorem dX10_enter_44 : decode cX10_enter 44 = .ok (.getfield 29, 3) := by decide +kernel
theorem dX10_enter_47 : decode cX10_enter 47 = .ok (.iload_n 1, 1) := by decide +kernel
theorem dX10_enter_48 : decode cX10_enter 48 = .ok (.iaload, 1) := by decide +kernel
theorem dX10_enter_49 : decode cX10_enter 49 = .ok (.ifCond .ne 8, 3) := by decide +kernel
theorem dX10_enter_52 : decode cX10_enter 52 = .ok (.bipush 100, 2) := by decide +kernel
theorem dX10_enter_54 : decode cX10_enter 54 = .ok (.goto 6, 3) := by decide +kernel
theorem dX10_enter_57 : decode cX10_enter 57 = .ok (.sipush 1000, 3) := by decide +kernel
theorem dX10_enter_60 : decode cX10_enter 60 = .ok (.invokestatic 99, 3) := by decide +kernel
theorem dX10_enter_63 : decode cX10_enter 63 = .ok (.ifCond .ne 6, 3) := by decide +kernel
theorem dX10_enter_66 : decode cX10_enter 66 = .ok (.ldc 106, 2) := by decide +kernel
theorem dX10_enter_68 : decode cX10_enter 68 = .ok (.ireturn, 1) := by decide +kernel
theorem dX10_enter_69 : decode cX10_enter 69 = .ok (.aload_n 0, 1) := by decide +kernel
theorem dX10_enter_70 : decode cX10_enter 70 = .ok (.getfield 35, 3) := by decide +kernel
theorem dX10_enter_73 : decode cX10_enter 73 = .ok (.sipush 200, 3) := by decide +kernel
theorem dX10_enter_76 : decode cX10_enter 76 = .ok (.iload_n 1, 1) := by decide +kernel
theorem dX10_enter_77 : decode cX10_enter 77 = .ok (.imul, 1) := by decide +kernel
theorem dX10_enter_78 : decode cX10_enter 78 = .ok (.iload_n 2, 1) := by decide +kernel
theorem dX10_enter_79 : decode cX10_enter 79 = .ok (.iadd, 1) := by decide +kernel
theorem dX10_enter_80 : decode cX10_enter 80 = .ok (.iaload, 1) := by decide +kernel
theorem dX10_enter_81 : decode cX10_enter 81 = .ok (.istore 4, 2) := by decide +kernel
theorem dX10_enter_83 : decode cX10_enter 83 = .ok (.aload_n 0, 1) := by decide +kernel
theorem dX10_enter_84 : decode cX10_enter 84 = .ok (.getfield 35, 3) := by decide +kernel
theorem dX10_enter_87 : decode cX10_enter 87 = .ok (.sipush 200, 3) := by decide +kernel
theorem dX10_enter_90 : decode cX10_enter 90 = .ok (.iload_n 1, 1) := by decide +kernel
theorem dX10_enter_91 : decode cX10_enter 91 = .ok (.imul, 1) := by decide +kernel
theorem dX10_enter_92 : decode cX10_enter 92 = .ok (.iload_n 2, 1) := by decide +kernel
theorem dX10_enter_93 : decode cX10_enter 93 = .ok (.iadd, 1) := by decide +kernel
theorem dX10_enter_94 : decode cX10_enter 94 = .ok (.iload_n 3, 1) := by decide +kernel
theorem dX10_enter_95 : decode cX10_enter 95 = .ok (.iastore, 1) := by decide +kernel
theorem dX10_enter_96 : decode cX10_enter 96 = .ok (.iload 4, 2) := by decide +kernel
theorem dX10_enter_98 : decode cX10_enter 98 = .ok (.ireturn, 1) := by decide +kernel
theorem dX10_copy_0 : decode cX10_copy 0 = .ok (.iload_n 1, 1) := by decide +kernel
theorem dX10_copy_1 : decode cX10_copy 1 = .ok (.invokestatic 135, 3) := by decide +kernel
theorem dX10_copy_4 : decode cX10_copy 4 = .ok (.ifCond .eq 10, 3) := by decide +kernel
theorem dX10_copy_7 : decode cX10_copy 7 = .ok (.iload_n 3, 1) := by decide +kernel
theorem dX10_copy_8 : decode cX10_copy 8 = .ok (.invokestatic 135, 3) := by decide +kernel
theorem dX10_copy_11 : decode cX10_copy 11 = .ok (.ifCond .ne 6, 3) := by decide +kernel
theorem dX10_copy_14 : decode cX10_copy 14 = .ok (.ldc 106, 2) := by decide +kernel
theorem dX10_copy_16 : decode cX10_copy 16 = .ok (.ireturn, 1) := by decide +kernel
theorem dX10_copy_17 : decode cX10_copy 17 = .ok (.aload_n 0, 1) := by decide +kernel
theorem dX10_copy_18 : decode cX10_copy 18 = .ok (.getfield 25, 3) := by decide +kernel
theorem dX10_copy_21 : decode cX10_copy 21 = .ok (.iload_n 1, 1) := by decide +kernel
theorem dX10_copy_22 : decode cX10_copy 22 = .ok (.baload, 1) := by decide +kernel
theorem dX10_copy_23 : decode cX10_copy 23 = .ok (.ifCond .eq 12, 3) := by decide +kernel
theorem dX10_copy_26 : decode cX10_copy 26 = .ok (.aload_n 0, 1) := by decide +kernel
theorem dX10_copy_27 : decode cX10_copy 27 = .ok (.getfield 25, 3) := by decide +kernel
theorem dX10_copy_30 : decode cX10_copy 30 = .ok (.iload_n 3, 1) := by decide +kernel
theorem dX10_copy_31 : decode cX10_copy 31 = .ok (.baload, 1) := by decide +kernel
theorem dX10_copy_32 : decode cX10_copy 32 = .ok (.ifCond .ne 6, 3) := by decide +kernel
theorem dX10_copy_35 : decode cX10_copy 35 = .ok (.ldc 139, 2) := by decide +kernel
theorem dX10_copy_37 : decode cX10_copy 37 = .ok (.ireturn, 1) := by decide +kernel
theorem dX10_copy_38 : decode cX10_copy 38 = .ok (.aload_n 0, 1) := by decide +kernel
theorem dX10_copy_39 : decode cX10_copy 39 = .ok (.getfield 29, 3) := by decide +kernel
theorem dX10_copy_42 : decode cX10_copy 42 = .ok (.iload_n 1, 1) := by decide +kernel
theorem dX10_copy_43 : decode cX10_copy 43 = .ok (.iaload, 1) := by decide +kernel
theorem dX10_copy_44 : decode cX10_copy 44 = .ok (.aload_n 0, 1) := by decide +kernel
theorem dX10_copy_45 : decode cX10_copy 45 = .ok (.getfield 29, 3) := by decide +kernel
theorem dX10_copy_48 : decode cX10_copy 48 = .ok (.iload_n 3, 1) := by decide +kernel
theorem dX10_copy_49 : decode cX10_copy 49 = .ok (.iaload, 1) := by decide +kernel
theorem dX10_copy_50 : decode cX10_copy 50 = .ok (.if_icmp .eq 6, 3) := by decide +kernel
theorem dX10_copy_53 : decode cX10_copy 53 = .ok (.ldc 112, 2) := by decide +kernel
theorem dX10_copy_55 : decode cX10_copy 55 = .ok (.ireturn, 1) := by decide +kernel
theorem dX10_copy_56 : decode cX10_copy 56 = .ok (.iload_n 2, 1) := by decide +kernel
theorem dX10_copy_57 : decode cX10_copy 57 = .ok (.ifCond .lt 48, 3) := by decide +kernel
theorem dX10_copy_60 : decode cX10_copy 60 = .ok (.iload 4, 2) := by decide +kernel
theorem dX10_copy_62 : decode cX10_copy 62 = .ok (.ifCond .lt 43, 3) := by decide +kernel
theorem dX10_copy_65 : decode cX10_copy 65 = .ok (.iload 5, 2) := by decide +kernel
theorem dX10_copy_67 : decode cX10_copy 67 = .ok (.ifCond .lt 38, 3) := by decide +kernel
theorem dX10_copy_70 : decode cX10_copy 70 = .ok (.iload_n 2, 1) := by decide +kernel
theorem dX10_copy_71 : decode cX10_copy 71 = .ok (.i2l, 1) := by decide +kernel
theorem dX10_copy_72 : decode cX10_copy 72 = .ok (.iload 5, 2) := by decide +kernel
theorem dX10_copy_74 : decode cX10_copy 74 = .ok (.i2l, 1) := by decide +kernel
theorem dX10_copy_75 : decode cX10_copy 75 = .ok (.ladd, 1) := by decide +kernel
theorem dX10_copy_76 : decode cX10_copy 76 = .ok (.aload_n 0, 1) := by decide +kernel
theorem dX10_copy_77 : decode cX10_copy 77 = .ok (.getfield 32, 3) := by decide +kernel
theorem dX10_copy_80 : decode cX10_copy 80 = .ok (.iload_n 1, 1) := by decide +kernel
theorem dX10_copy_81 : decode cX10_copy 81 = .ok (.iaload, 1) := by decide +kernel
theorem dX10_copy_82 : decode cX10_copy 82 = .ok (.i2l, 1) := by decide +kernel
theorem dX10_copy_83 : decode cX10_copy 83 = .ok (.lcmp, 1) := by decide +kernel
theorem dX10_copy_84 : decode cX10_copy 84 = .ok (.ifCond .gt 21, 3) := by decide +kernel
theorem dX10_copy_87 : decode cX10_copy 87 = .ok (.iload 4, 2) := by decide +kernel
theorem dX10_copy_89 : decode cX10_copy 89 = .ok (.i2l, 1) := by decide +kernel
theorem dX10_copy_90 : decode cX10_copy 90 = .ok (.iload 5, 2) := by decide +kernel
theorem dX10_copy_92 : decode cX10_copy 92 = .ok (.i2l, 1) := by decide +kernel
theorem dX10_copy_93 : decode cX10_copy 93 = .ok (.ladd, 1) := by decide +kernel
theorem dX10_copy_94 : decode cX10_copy 94 = .ok (.aload_n 0, 1) := by decide +kernel
theorem dX10_copy_95 : decode cX10_copy 95 = .ok (.getfield 32, 3) := by decide +kernel
theorem dX10_copy_98 : decode cX10_copy 98 = .ok (.iload_n 3, 1) := by decide +kernel
theorem dX10_copy_99 : decode cX10_copy 99 = .ok (.iaload, 1) := by decide +kernel
theorem dX10_copy_100 : decode cX10_copy 100 = .ok (.i2l, 1) := by decide +kernel
theorem dX10_copy_101 : decode cX10_copy 101 = .ok (.lcmp, 1) := by decide +kernel
theorem dX10_copy_102 : decode cX10_copy 102 = .ok (.ifCond .le 6, 3) := by decide +kernel
theorem dX10_copy_105 : decode cX10_copy 105 = .ok (.ldc 140, 2) := by decide +kernel
theorem dX10_copy_107 : decode cX10_copy 107 = .ok (.ireturn, 1) := by decide +kernel
theorem dX10_copy_108 : decode cX10_copy 108 = .ok (.iconst 0, 1) := by decide +kernel
theorem dX10_copy_109 : decode cX10_copy 109 = .ok (.istore 6, 2) := by decide +kernel
theorem dX10_copy_111 : decode cX10_copy 111 = .ok (.iload 6, 2) := by decide +kernel
theorem dX10_copy_113 : decode cX10_copy 113 = .ok (.iload 5, 2) := by decide +kernel
theorem dX10_copy_115 : decode cX10_copy 115 = .ok (.if_icmp .ge 31, 3) := by decide +kernel
theorem dX10_copy_118 : decode cX10_copy 118 = .ok (.aload_n 0, 1) := by decide +kernel
theorem dX10_copy_119 : decode cX10_copy 119 = .ok (.getfield 86, 3) := by decide +kernel
theorem dX10_copy_122 : decode cX10_copy 122 = .ok (.iload 6, 2) := by decide +kernel
theorem dX10_copy_124 : decode cX10_copy 124 = .ok (.aload_n 0, 1) := by decide +kernel
theorem dX10_copy_125 : decode cX10_copy 125 = .ok (.getfield 35, 3) := by decide +kernel
theorem dX10_copy_128 : decode cX10_copy 128 = .ok (.sipush 200, 3) := by decide +kernel
theorem dX10_copy_131 : decode cX10_copy 131 = .ok (.iload_n 1, 1) := by decide +kernel
theorem dX10_copy_132 : decode cX10_copy 132 = .ok (.imul, 1) := by decide +kernel
theorem dX10_copy_133 : decode cX10_copy 133 = .ok (.iload_n 2, 1) := by decide +kernel
theorem dX10_copy_134 : decode cX10_copy 134 = .ok (.iadd, 1) := by decide +kernel
theorem dX10_copy_135 : decode cX10_copy 135 = .ok (.iload 6, 2) := by decide +kernel
theorem dX10_copy_137 : decode cX10_copy 137 = .ok (.iadd, 1) := by decide +kernel
theorem dX10_copy_138 : decode cX10_copy 138 = .ok (.iaload, 1) := by decide +kernel
theorem dX10_copy_139 : decode cX10_copy 139 = .ok (.iastore, 1) := by decide +kernel
theorem dX10_copy_140 : decode cX10_copy 140 = .ok (.iinc 6 1, 3) := by decide +kernel
theorem dX10_copy_143 : decode cX10_copy 143 = .ok (.goto (-32), 3) := by decide +kernel
theorem dX10_copy_146 : decode cX10_copy 146 = .ok (.iconst 0, 1) := by decide +kernel
theorem dX10_copy_147 : decode cX10_copy 147 = .ok (.istore 6, 2) := by decide +kernel
theorem dX10_copy_149 : decode cX10_copy 149 = .ok (.iload 6, 2) := by decide +kernel
theorem dX10_copy_151 : decode cX10_copy 151 = .ok (.iload 5, 2) := by decide +kernel
theorem dX10_copy_153 : decode cX10_copy 153 = .ok (.if_icmp .ge 32, 3) := by decide +kernel
theorem dX10_copy_156 : decode cX10_copy 156 = .ok (.aload_n 0, 1) := by decide +kernel
theorem dX10_copy_157 : decode cX10_copy 157 = .ok (.getfield 35, 3) := by decide +kernel
theorem dX10_copy_160 : decode cX10_copy 160 = .ok (.sipush 200, 3) := by decide +kernel
theorem dX10_copy_163 : decode cX10_copy 163 = .ok (.iload_n 3, 1) := by decide +kernel
theorem dX10_copy_164 : decode cX10_copy 164 = .ok (.imul, 1) := by decide +kernel
theorem dX10_copy_165 : decode cX10_copy 165 = .ok (.iload 4, 2) := by decide +kernel
theorem dX10_copy_167 : decode cX10_copy 167 = .ok (.iadd, 1) := by decide +kernel
theorem dX10_copy_168 : decode cX10_copy 168 = .ok (.iload 6, 2) := by decide +kernel
theorem dX10_copy_170 : decode cX10_copy 170 = .ok (.iadd, 1) := by decide +kernel
theorem dX10_copy_171 : decode cX10_copy 171 = .ok (.aload_n 0, 1) := by decide +kernel
theorem dX10_copy_172 : decode cX10_copy 172 = .ok (.getfield 86, 3) := by decide +kernel
theorem dX10_copy_175 : decode cX10_copy 175 = .ok (.iload 6, 2) := by decide +kernel
theorem dX10_copy_177 : decode cX10_copy 177 = .ok (.iaload, 1) := by decide +kernel
theorem dX10_copy_178 : decode cX10_copy 178 = .ok (.iastore, 1) := by decide +kernel
theorem dX10_copy_179 : decode cX10_copy 179 = .ok (.iinc 6 1, 3) := by decide +kernel
theorem dX10_copy_182 : decode cX10_copy 182 = .ok (.goto (-33), 3) := by decide +kernel
theorem dX10_copy_185 : decode cX10_copy 185 = .ok (.iload 5, 2) := by decide +kernel
theorem dX10_copy_187 : decode cX10_copy 187 = .ok (.ireturn, 1) := by decide +kernel
theorem dX10_lose__0 : decode cX10_lose_ 0 = .ok (.iload_n 1, 1) := by decide +kernel
theorem dX10_lose__1 : decode cX10_lose_ 1 = .ok (.invokestatic 135, 3) := by decide +kernel
theorem dX10_lose__4 : decode cX10_lose_ 4 = .ok (.ifCond .ne 6, 3) := by decide +kernel
theorem dX10_lose__7 : decode cX10_lose_ 7 = .ok (.ldc 106, 2) := by decide +kernel
theorem dX10_lose__9 : decode cX10_lose_ 9 = .ok (.ireturn, 1) := by decide +kernel
theorem dX10_lose__10 : decode cX10_lose_ 10 = .ok (.aload_n 0, 1) := by decide +kernel
theorem dX10_lose__11 : decode cX10_lose_ 11 = .ok (.getfield 25, 3) := by decide +kernel
theorem dX10_lose__14 : decode cX10_lose_ 14 = .ok (.iload_n 1, 1) := by decide +kernel
theorem dX10_lose__15 : decode cX10_lose_ 15 = .ok (.baload, 1) := by decide +kernel
theorem dX10_lose__16 : decode cX10_lose_ 16 = .ok (.ifCond .ne 6, 3) := by decide +kernel
theorem dX10_lose__19 : decode cX10_lose_ 19 = .ok (.ldc 139, 2) := by decide +kernel
theorem dX10_lose__21 : decode cX10_lose_ 21 = .ok (.ireturn, 1) := by decide +kernel
theorem dX10_lose__22 : decode cX10_lose_ 22 = .ok (.aload_n 0, 1) := by decide +kernel
theorem dX10_lose__23 : decode cX10_lose_ 23 = .ok (.getfield 25, 3) := by decide +kernel
theorem dX10_lose__26 : decode cX10_lose_ 26 = .ok (.iload_n 1, 1) := by decide +kernel
theorem dX10_lose__27 : decode cX10_lose_ 27 = .ok (.iconst 0, 1) := by decide +kernel
theorem dX10_lose__28 : decode cX10_lose_ 28 = .ok (.bastore, 1) := by decide +kernel
theorem dX10_lose__29 : decode cX10_lose_ 29 = .ok (.aload_n 0, 1) := by decide +kernel
theorem dX10_lose__30 : decode cX10_lose_ 30 = .ok (.getfield 32, 3) := by decide +kernel
theorem dX10_lose__33 : decode cX10_lose_ 33 = .ok (.iload_n 1, 1) := by decide +kernel
theorem dX10_lose__34 : decode cX10_lose_ 34 = .ok (.iaload, 1) := by decide +kernel
theorem dX10_lose__35 : decode cX10_lose_ 35 = .ok (.ireturn, 1) := by decide +kernel
theorem dX10_four_0 : decode cX10_four 0 = .ok (.bipush 24, 2) := by decide +kernel
theorem dX10_four_2 : decode cX10_four 2 = .ok (.istore_n 2, 1) := by decide +kernel
theorem dX10_four_3 : decode cX10_four 3 = .ok (.iload_n 2, 1) := by decide +kernel
theorem dX10_four_4 : decode cX10_four 4 = .ok (.ifCond .lt 35, 3) := by decide +kernel
theorem dX10_four_7 : decode cX10_four 7 = .ok (.aload_n 0, 1) := by decide +kernel
theorem dX10_four_8 : decode cX10_four 8 = .ok (.getfield 38, 3) := by decide +kernel
theorem dX10_four_11 : decode cX10_four 11 = .ok (.aload_n 0, 1) := by decide +kernel
theorem dX10_four_12 : decode cX10_four 12 = .ok (.getfield 141, 3) := by decide +kernel
theorem dX10_four_15 : decode cX10_four 15 = .ok (.iload_n 1, 1) := by decide +kernel
theorem dX10_four_16 : decode cX10_four 16 = .ok (.iload_n 2, 1) := by decide +kernel
theorem dX10_four_17 : decode cX10_four 17 = .ok (.ishr, 1) := by decide +kernel
theorem dX10_four_18 : decode cX10_four 18 = .ok (.sipush 255, 3) := by decide +kernel
theorem dX10_four_21 : decode cX10_four 21 = .ok (.iand, 1) := by decide +kernel
theorem dX10_four_22 : decode cX10_four 22 = .ok (.iastore, 1) := by decide +kernel
theorem dX10_four_23 : decode cX10_four 23 = .ok (.aload_n 0, 1) := by decide +kernel
theorem dX10_four_24 : decode cX10_four 24 = .ok (.dup, 1) := by decide +kernel
theorem dX10_four_25 : decode cX10_four 25 = .ok (.getfield 141, 3) := by decide +kernel
theorem dX10_four_28 : decode cX10_four 28 = .ok (.iconst 1, 1) := by decide +kernel
theorem dX10_four_29 : decode cX10_four 29 = .ok (.iadd, 1) := by decide +kernel
theorem dX10_four_30 : decode cX10_four 30 = .ok (.putfield 141, 3) := by decide +kernel
theorem dX10_four_33 : decode cX10_four 33 = .ok (.iinc 2 (-8), 3) := by decide +kernel
theorem dX10_four_36 : decode cX10_four 36 = .ok (.goto (-33), 3) := by decide +kernel
theorem dX10_four_39 : decode cX10_four 39 = .ok (.return_, 1) := by decide +kernel
theorem dX10_feed_0 : decode cX10_feed 0 = .ok (.aload_n 0, 1) := by decide +kernel
theorem dX10_feed_1 : decode cX10_feed 1 = .ok (.getfield 141, 3) := by decide +kernel
theorem dX10_feed_4 : decode cX10_feed 4 = .ok (.bipush 12, 2) := by decide +kernel
theorem dX10_feed_6 : decode cX10_feed 6 = .ok (.iadd, 1) := by decide +kernel
theorem dX10_feed_7 : decode cX10_feed 7 = .ok (.bipush 48, 2) := by decide +kernel
theorem dX10_feed_9 : decode cX10_feed 9 = .ok (.if_icmp .le 6, 3) := by decide +kernel
theorem dX10_feed_12 : decode cX10_feed 12 = .ok (.ldc 107, 2) := by decide +kernel
theorem dX10_feed_14 : decode cX10_feed 14 = .ok (.ireturn, 1) := by decide +kernel
theorem dX10_feed_15 : decode cX10_feed 15 = .ok (.aload_n 0, 1) := by decide +kernel
theorem dX10_feed_16 : decode cX10_feed 16 = .ok (.iload_n 1, 1) := by decide +kernel
theorem dX10_feed_17 : decode cX10_feed 17 = .ok (.invokevirtual 144, 3) := by decide +kernel
theorem dX10_feed_20 : decode cX10_feed 20 = .ok (.aload_n 0, 1) := by decide +kernel
theorem dX10_feed_21 : decode cX10_feed 21 = .ok (.iload_n 2, 1) := by decide +kernel
theorem dX10_feed_22 : decode cX10_feed 22 = .ok (.invokevirtual 144, 3) := by decide +kernel
theorem dX10_feed_25 : decode cX10_feed 25 = .ok (.aload_n 0, 1) := by decide +kernel
theorem dX10_feed_26 : decode cX10_feed 26 = .ok (.iload_n 3, 1) := by decide +kernel
theorem dX10_feed_27 : decode cX10_feed 27 = .ok (.invokevirtual 144, 3) := by decide +kernel
theorem dX10_feed_30 : decode cX10_feed 30 = .ok (.aload_n 0, 1) := by decide +kernel
theorem dX10_feed_31 : decode cX10_feed 31 = .ok (.getfield 141, 3) := by decide +kernel
theorem dX10_feed_34 : decode cX10_feed 34 = .ok (.ireturn, 1) := by decide +kernel
theorem dX10_trim_0 : decode cX10_trim 0 = .ok (.iload_n 1, 1) := by decide +kernel
theorem dX10_trim_1 : decode cX10_trim 1 = .ok (.iconst 0, 1) := by decide +kernel
theorem dX10_trim_2 : decode cX10_trim 2 = .ok (.aload_n 0, 1) := by decide +kernel
theorem dX10_trim_3 : decode cX10_trim 3 = .ok (.getfield 141, 3) := by decide +kernel
theorem dX10_trim_6 : decode cX10_trim 6 = .ok (.invokestatic 99, 3) := by decide +kernel
theorem dX10_trim_9 : decode cX10_trim 9 = .ok (.ifCond .ne 6, 3) := by decide +kernel
theorem dX10_trim_12 : decode cX10_trim 12 = .ok (.ldc 106, 2) := by decide +kernel
theorem dX10_trim_14 : decode cX10_trim 14 = .ok (.ireturn, 1) := by decide +kernel
theorem dX10_trim_15 : decode cX10_trim 15 = .ok (.aload_n 0, 1) := by decide +kernel
theorem dX10_trim_16 : decode cX10_trim 16 = .ok (.iload_n 1, 1) := by decide +kernel
theorem dX10_trim_17 : decode cX10_trim 17 = .ok (.putfield 141, 3) := by decide +kernel
theorem dX10_trim_20 : decode cX10_trim 20 = .ok (.iload_n 1, 1) := by decide +kernel
theorem dX10_trim_21 : decode cX10_trim 21 = .ok (.ireturn, 1) := by decide +kernel
theorem dX10_next_0 : decode cX10_next 0 = .ok (.aload_n 0, 1) := by decide +kernel
theorem dX10_next_1 : decode cX10_next 1 = .ok (.getfield 147, 3) := by decide +kernel
theorem dX10_next_4 : decode cX10_next 4 = .ok (.aload_n 0, 1) := by decide +kernel
theorem dX10_next_5 : decode cX10_next 5 = .ok (.getfield 141, 3) := by decide +kernel
theorem dX10_next_8 : decode cX10_next 8 = .ok (.if_icmp .ge 30, 3) := by decide +kernel
theorem dX10_next_11 : decode cX10_next 11 = .ok (.aload_n 0, 1) := by decide +kernel
theorem dX10_next_12 : decode cX10_next 12 = .ok (.getfield 38, 3) := by decide +kernel
theorem dX10_next_15 : decode cX10_next 15 = .ok (.aload_n 0, 1) := by decide +kernel
theorem dX10_next_16 : decode cX10_next 16 = .ok (.getfield 147, 3) := by decide +kernel
theorem dX10_next_19 : decode cX10_next 19 = .ok (.iaload, 1) := by decide +kernel
theorem dX10_next_20 : decode cX10_next 20 = .ok (.bipush 32, 2) := by decide +kernel
theorem dX10_next_22 : decode cX10_next 22 = .ok (.if_icmp .ne 16, 3) := by decide +kernel
theorem dX10_next_25 : decode cX10_next 25 = .ok (.aload_n 0, 1) := by decide +kernel
theorem dX10_next_26 : decode cX10_next 26 = .ok (.dup, 1) := by decide +kernel
theorem dX10_next_27 : decode cX10_next 27 = .ok (.getfield 147, 3) := by decide +kernel
theorem dX10_next_30 : decode cX10_next 30 = .ok (.iconst 1, 1) := by decide +kernel
theorem dX10_next_31 : decode cX10_next 31 = .ok (.iadd, 1) := by decide +kernel
theorem dX10_next_32 : decode cX10_next 32 = .ok (.putfield 147, 3) := by decide +kernel
theorem dX10_next_35 : decode cX10_next 35 = .ok (.goto (-35), 3) := by decide +kernel
theorem dX10_next_38 : decode cX10_next 38 = .ok (.aload_n 0, 1) := by decide +kernel
theorem dX10_next_39 : decode cX10_next 39 = .ok (.aload_n 0, 1) := by decide +kernel
theorem dX10_next_40 : decode cX10_next 40 = .ok (.getfield 147, 3) := by decide +kernel
theorem dX10_next_43 : decode cX10_next 43 = .ok (.putfield 150, 3) := by decide +kernel
theorem dX10_next_46 : decode cX10_next 46 = .ok (.aload_n 0, 1) := by decide +kernel
theorem dX10_next_47 : decode cX10_next 47 = .ok (.getfield 147, 3) := by decide +kernel
theorem dX10_next_50 : decode cX10_next 50 = .ok (.aload_n 0, 1) := by decide +kernel
theorem dX10_next_51 : decode cX10_next 51 = .ok (.getfield 141, 3) := by decide +kernel
theorem dX10_next_54 : decode cX10_next 54 = .ok (.if_icmp .ge 30, 3) := by decide +kernel
theorem dX10_next_57 : decode cX10_next 57 = .ok (.aload_n 0, 1) := by decide +kernel
theorem dX10_next_58 : decode cX10_next 58 = .ok (.getfield 38, 3) := by decide +kernel
theorem dX10_next_61 : decode cX10_next 61 = .ok (.aload_n 0, 1) := by decide +kernel
theorem dX10_next_62 : decode cX10_next 62 = .ok (.getfield 147, 3) := by decide +kernel
theorem dX10_next_65 : decode cX10_next 65 = .ok (.iaload, 1) := by decide +kernel
theorem dX10_next_66 : decode cX10_next 66 = .ok (.bipush 32, 2) := by decide +kernel
theorem dX10_next_68 : decode cX10_next 68 = .ok (.if_icmp .eq 16, 3) := by decide +kernel
theorem dX10_next_71 : decode cX10_next 71 = .ok (.aload_n 0, 1) := by decide +kernel
theorem dX10_next_72 : decode cX10_next 72 = .ok (.dup, 1) := by decide +kernel
theorem dX10_next_73 : decode cX10_next 73 = .ok (.getfield 147, 3) := by decide +kernel
theorem dX10_next_76 : decode cX10_next 76 = .ok (.iconst 1, 1) := by decide +kernel
theorem dX10_next_77 : decode cX10_next 77 = .ok (.iadd, 1) := by decide +kernel
theorem dX10_next_78 : decode cX10_next 78 = .ok (.putfield 147, 3) := by decide +kernel
theorem dX10_next_81 : decode cX10_next 81 = .ok (.goto (-35), 3) := by decide +kernel
theorem dX10_next_84 : decode cX10_next 84 = .ok (.aload_n 0, 1) := by decide +kernel
theorem dX10_next_85 : decode cX10_next 85 = .ok (.aload_n 0, 1) := by decide +kernel
theorem dX10_next_86 : decode cX10_next 86 = .ok (.getfield 147, 3) := by decide +kernel
theorem dX10_next_89 : decode cX10_next 89 = .ok (.aload_n 0, 1) := by decide +kernel
theorem dX10_next_90 : decode cX10_next 90 = .ok (.getfield 150, 3) := by decide +kernel
theorem dX10_next_93 : decode cX10_next 93 = .ok (.isub, 1) := by decide +kernel
theorem dX10_next_94 : decode cX10_next 94 = .ok (.putfield 153, 3) := by decide +kernel
theorem dX10_next_97 : decode cX10_next 97 = .ok (.return_, 1) := by decide +kernel
theorem dX10_here_0 : decode cX10_here 0 = .ok (.aload_n 0, 1) := by decide +kernel
theorem dX10_here_1 : decode cX10_here 1 = .ok (.getfield 153, 3) := by decide +kernel
theorem dX10_here_4 : decode cX10_here 4 = .ok (.ifCond .ne 10, 3) := by decide +kernel
theorem dX10_here_7 : decode cX10_here 7 = .ok (.aload_n 0, 1) := by decide +kernel
theorem dX10_here_8 : decode cX10_here 8 = .ok (.getfield 141, 3) := by decide +kernel
theorem dX10_here_11 : decode cX10_here 11 = .ok (.goto 7, 3) := by decide +kernel
theorem dX10_here_14 : decode cX10_here 14 = .ok (.aload_n 0, 1) := by decide +kernel
theorem dX10_here_15 : decode cX10_here 15 = .ok (.getfield 150, 3) := by decide +kernel
theorem dX10_here_18 : decode cX10_here 18 = .ok (.ireturn, 1) := by decide +kernel
theorem dX10_isWord_0 : decode cX10_isWord 0 = .ok (.aload_n 0, 1) := by decide +kernel
theorem dX10_isWord_1 : decode cX10_isWord 1 = .ok (.getfield 153, 3) := by decide +kernel
theorem dX10_isWord_4 : decode cX10_isWord 4 = .ok (.iload_n 3, 1) := by decide +kernel
theorem dX10_isWord_5 : decode cX10_isWord 5 = .ok (.if_icmp .eq 5, 3) := by decide +kernel
theorem dX10_isWord_8 : decode cX10_isWord 8 = .ok (.iconst 0, 1) := by decide +kernel
theorem dX10_isWord_9 : decode cX10_isWord 9 = .ok (.ireturn, 1) := by decide +kernel
theorem dX10_isWord_10 : decode cX10_isWord 10 = .ok (.iconst 0, 1) := by decide +kernel
theorem dX10_isWord_11 : decode cX10_isWord 11 = .ok (.istore 4, 2) := by decide +kernel
theorem dX10_isWord_13 : decode cX10_isWord 13 = .ok (.iload 4, 2) := by decide +kernel
theorem dX10_isWord_15 : decode cX10_isWord 15 = .ok (.iload_n 3, 1) := by decide +kernel
theorem dX10_isWord_16 : decode cX10_isWord 16 = .ok (.if_icmp .ge 42, 3) := by decide +kernel
theorem dX10_isWord_19 : decode cX10_isWord 19 = .ok (.aload_n 0, 1) := by decide +kernel
theorem dX10_isWord_20 : decode cX10_isWord 20 = .ok (.getfield 38, 3) := by decide +kernel
theorem dX10_isWord_23 : decode cX10_isWord 23 = .ok (.aload_n 0, 1) := by decide +kernel
theorem dX10_isWord_24 : decode cX10_isWord 24 = .ok (.getfield 150, 3) := by decide +kernel
theorem dX10_isWord_27 : decode cX10_isWord 27 = .ok (.iload 4, 2) := by decide +kernel
theorem dX10_isWord_29 : decode cX10_isWord 29 = .ok (.iadd, 1) := by decide +kernel
theorem dX10_isWord_30 : decode cX10_isWord 30 = .ok (.iaload, 1) := by decide +kernel
theorem dX10_isWord_31 : decode cX10_isWord 31 = .ok (.lload_n 1, 1) := by decide +kernel
theorem dX10_isWord_32 : decode cX10_isWord 32 = .ok (.bipush 8, 2) := by decide +kernel
theorem dX10_isWord_34 : decode cX10_isWord 34 = .ok (.iload_n 3, 1) := by decide +kernel
theorem dX10_isWord_35 : decode cX10_isWord 35 = .ok (.iconst 1, 1) := by decide +kernel
theorem dX10_isWord_36 : decode cX10_isWord 36 = .ok (.isub, 1) := by decide +kernel
theorem dX10_isWord_37 : decode cX10_isWord 37 = .ok (.iload 4, 2) := by decide +kernel
theorem dX10_isWord_39 : decode cX10_isWord 39 = .ok (.isub, 1) := by decide +kernel
theorem dX10_isWord_40 : decode cX10_isWord 40 = .ok (.imul, 1) := by decide +kernel
theorem dX10_isWord_41 : decode cX10_isWord 41 = .ok (.lshr, 1) := by decide +kernel
theorem dX10_isWord_42 : decode cX10_isWord 42 = .ok (.ldc2_w 156, 3) := by decide +kernel
theorem dX10_isWord_45 : decode cX10_isWord 45 = .ok (.land, 1) := by decide +kernel
theorem dX10_isWord_46 : decode cX10_isWord 46 = .ok (.l2i, 1) := by decide +kernel
theorem dX10_isWord_47 : decode cX10_isWord 47 = .ok (.if_icmp .eq 5, 3) := by decide +kernel
theorem dX10_isWord_50 : decode cX10_isWord 50 = .ok (.iconst 0, 1) := by decide +kernel
theorem dX10_isWord_51 : decode cX10_isWord 51 = .ok (.ireturn, 1) := by decide +kernel
theorem dX10_isWord_52 : decode cX10_isWord 52 = .ok (.iinc 4 1, 3) := by decide +kernel
theorem dX10_isWord_55 : decode cX10_isWord 55 = .ok (.goto (-42), 3) := by decide +kernel
theorem dX10_isWord_58 : decode cX10_isWord 58 = .ok (.iconst 1, 1) := by decide +kernel
theorem dX10_isWord_59 : decode cX10_isWord 59 = .ok (.ireturn, 1) := by decide +kernel
theorem dX10_number_0 : decode cX10_number 0 = .ok (.iconst 0, 1) := by decide +kernel
theorem dX10_number_1 : decode cX10_number 1 = .ok (.istore_n 1, 1) := by decide +kernel
theorem dX10_number_2 : decode cX10_number 2 = .ok (.aload_n 0, 1) := by decide +kernel
theorem dX10_number_3 : decode cX10_number 3 = .ok (.getfield 150, 3) := by decide +kernel
theorem dX10_number_6 : decode cX10_number 6 = .ok (.istore_n 2, 1) := by decide +kernel
theorem dX10_number_7 : decode cX10_number 7 = .ok (.iload_n 2, 1) := by decide +kernel
theorem dX10_number_8 : decode cX10_number 8 = .ok (.aload_n 0, 1) := by decide +kernel
theorem dX10_number_9 : decode cX10_number 9 = .ok (.getfield 150, 3) := by decide +kernel
theorem dX10_number_12 : decode cX10_number 12 = .ok (.aload_n 0, 1) := by decide +kernel
theorem dX10_number_13 : decode cX10_number 13 = .ok (.getfield 153, 3) := by decide +kernel
theorem dX10_number_16 : decode cX10_number 16 = .ok (.iadd, 1) := by decide +kernel
theorem dX10_number_17 : decode cX10_number 17 = .ok (.if_icmp .ge 55, 3) := by decide +kernel
theorem dX10_number_20 : decode cX10_number 20 = .ok (.aload_n 0, 1) := by decide +kernel
theorem dX10_number_21 : decode cX10_number 21 = .ok (.getfield 38, 3) := by decide +kernel
theorem dX10_number_24 : decode cX10_number 24 = .ok (.iload_n 2, 1) := by decide +kernel
theorem dX10_number_25 : decode cX10_number 25 = .ok (.iaload, 1) := by decide +kernel
theorem dX10_number_26 : decode cX10_number 26 = .ok (.bipush 48, 2) := by decide +kernel
theorem dX10_number_28 : decode cX10_number 28 = .ok (.bipush 57, 2) := by decide +kernel
theorem dX10_number_30 : decode cX10_number 30 = .ok (.invokestatic 99, 3) := by decide +kernel
theorem dX10_number_33 : decode cX10_number 33 = .ok (.ifCond .ne 5, 3) := by decide +kernel
theorem dX10_number_36 : decode cX10_number 36 = .ok (.iconst (-1), 1) := by decide +kernel
theorem dX10_number_37 : decode cX10_number 37 = .ok (.ireturn, 1) := by decide +kernel
theorem dX10_number_38 : decode cX10_number 38 = .ok (.bipush 10, 2) := by decide +kernel
theorem dX10_number_40 : decode cX10_number 40 = .ok (.iload_n 1, 1) := by decide +kernel
theorem dX10_number_41 : decode cX10_number 41 = .ok (.imul, 1) := by decide +kernel
theorem dX10_number_42 : decode cX10_number 42 = .ok (.aload_n 0, 1) := by decide +kernel
theorem dX10_number_43 : decode cX10_number 43 = .ok (.getfield 38, 3) := by decide +kernel
theorem dX10_number_46 : decode cX10_number 46 = .ok (.iload_n 2, 1) := by decide +kernel
theorem dX10_number_47 : decode cX10_number 47 = .ok (.iaload, 1) := by decide +kernel
theorem dX10_number_48 : decode cX10_number 48 = .ok (.iadd, 1) := by decide +kernel
theorem dX10_number_49 : decode cX10_number 49 = .ok (.bipush 48, 2) := by decide +kernel
theorem dX10_number_51 : decode cX10_number 51 = .ok (.isub, 1) := by decide +kernel
theorem dX10_number_52 : decode cX10_number 52 = .ok (.istore_n 1, 1) := by decide +kernel
theorem dX10_number_53 : decode cX10_number 53 = .ok (.iload_n 1, 1) := by decide +kernel
theorem dX10_number_54 : decode cX10_number 54 = .ok (.ldc 158, 2) := by decide +kernel
theorem dX10_number_56 : decode cX10_number 56 = .ok (.if_icmp .le 8, 3) := by decide +kernel
theorem dX10_number_59 : decode cX10_number 59 = .ok (.ldc 158, 2) := by decide +kernel
theorem dX10_number_61 : decode cX10_number 61 = .ok (.goto 4, 3) := by decide +kernel
theorem dX10_number_64 : decode cX10_number 64 = .ok (.iload_n 1, 1) := by decide +kernel
theorem dX10_number_65 : decode cX10_number 65 = .ok (.istore_n 1, 1) := by decide +kernel
theorem dX10_number_66 : decode cX10_number 66 = .ok (.iinc 2 1, 3) := by decide +kernel
theorem dX10_number_69 : decode cX10_number 69 = .ok (.goto (-62), 3) := by decide +kernel
theorem dX10_number_72 : decode cX10_number 72 = .ok (.aload_n 0, 1) := by decide +kernel
theorem dX10_number_73 : decode cX10_number 73 = .ok (.getfield 153, 3) := by decide +kernel
theorem dX10_number_76 : decode cX10_number 76 = .ok (.ifCond .ne 7, 3) := by decide +kernel
theorem dX10_number_79 : decode cX10_number 79 = .ok (.iconst (-1), 1) := by decide +kernel
theorem dX10_number_80 : decode cX10_number 80 = .ok (.goto 4, 3) := by decide +kernel
theorem dX10_number_83 : decode cX10_number 83 = .ok (.iload_n 1, 1) := by decide +kernel
theorem dX10_number_84 : decode cX10_number 84 = .ok (.ireturn, 1) := by decide +kernel
theorem dX10_endOf_0 : decode cX10_endOf 0 = .ok (.aload_n 0, 1) := by decide +kernel
theorem dX10_endOf_1 : decode cX10_endOf 1 = .ok (.ldc2_w 159, 3) := by decide +kernel
theorem dX10_endOf_4 : decode cX10_endOf 4 = .ok (.iconst 3, 1) := by decide +kernel
theorem dX10_endOf_5 : decode cX10_endOf 5 = .ok (.invokevirtual 161, 3) := by decide +kernel
theorem dX10_endOf_8 : decode cX10_endOf 8 = .ok (.ifCond .eq 5, 3) := by decide +kernel
theorem dX10_endOf_11 : decode cX10_endOf 11 = .ok (.iconst 0, 1) := by decide +kernel
theorem dX10_endOf_12 : decode cX10_endOf 12 = .ok (.ireturn, 1) := by decide +kernel
theorem dX10_endOf_13 : decode cX10_endOf 13 = .ok (.aload_n 0, 1) := by decide +kernel
theorem dX10_endOf_14 : decode cX10_endOf 14 = .ok (.ldc2_w 165, 3) := by decide +kernel
theorem dX10_endOf_17 : decode cX10_endOf 17 = .ok (.iconst 5, 1) := by decide +kernel
theorem dX10_endOf_18 : decode cX10_endOf 18 = .ok (.invokevirtual 161, 3) := by decide +kernel
theorem dX10_endOf_21 : decode cX10_endOf 21 = .ok (.ifCond .eq 5, 3) := by decide +kernel
theorem dX10_endOf_24 : decode cX10_endOf 24 = .ok (.iconst 1, 1) := by decide +kernel
theorem dX10_endOf_25 : decode cX10_endOf 25 = .ok (.ireturn, 1) := by decide +kernel
theorem dX10_endOf_26 : decode cX10_endOf 26 = .ok (.aload_n 0, 1) := by decide +kernel
theorem dX10_endOf_27 : decode cX10_endOf 27 = .ok (.ldc2_w 167, 3) := by decide +kernel
theorem dX10_endOf_30 : decode cX10_endOf 30 = .ok (.iconst 4, 1) := by decide +kernel
theorem dX10_endOf_31 : decode cX10_endOf 31 = .ok (.invokevirtual 161, 3) := by decide +kernel
theorem dX10_endOf_34 : decode cX10_endOf 34 = .ok (.ifCond .eq 5, 3) := by decide +kernel
theorem dX10_endOf_37 : decode cX10_endOf 37 = .ok (.iconst 2, 1) := by decide +kernel
theorem dX10_endOf_38 : decode cX10_endOf 38 = .ok (.ireturn, 1) := by decide +kernel
theorem dX10_endOf_39 : decode cX10_endOf 39 = .ok (.aload_n 0, 1) := by decide +kernel
theorem dX10_endOf_40 : decode cX10_endOf 40 = .ok (.ldc2_w 169, 3) := by decide +kernel
theorem dX10_endOf_43 : decode cX10_endOf 43 = .ok (.bipush 6, 2) := by decide +kernel
theorem dX10_endOf_45 : decode cX10_endOf 45 = .ok (.invokevirtual 161, 3) := by decide +kernel
theorem dX10_endOf_48 : decode cX10_endOf 48 = .ok (.ifCond .eq 5, 3) := by decide +kernel
theorem dX10_endOf_51 : decode cX10_endOf 51 = .ok (.iconst 3, 1) := by decide +kernel
theorem dX10_endOf_52 : decode cX10_endOf 52 = .ok (.ireturn, 1) := by decide +kernel
theorem dX10_endOf_53 : decode cX10_endOf 53 = .ok (.aload_n 0, 1) := by decide +kernel
theorem dX10_endOf_54 : decode cX10_endOf 54 = .ok (.ldc2_w 171, 3) := by decide +kernel
theorem dX10_endOf_57 : decode cX10_endOf 57 = .ok (.iconst 4, 1) := by decide +kernel
theorem dX10_endOf_58 : decode cX10_endOf 58 = .ok (.invokevirtual 161, 3) := by decide +kernel
theorem dX10_endOf_61 : decode cX10_endOf 61 = .ok (.ifCond .eq 7, 3) := by decide +kernel
theorem dX10_endOf_64 : decode cX10_endOf 64 = .ok (.iconst 4, 1) := by decide +kernel
theorem dX10_endOf_65 : decode cX10_endOf 65 = .ok (.goto 4, 3) := by decide +kernel
theorem dX10_endOf_68 : decode cX10_endOf 68 = .ok (.iconst (-1), 1) := by decide +kernel
theorem dX10_endOf_69 : decode cX10_endOf 69 = .ok (.ireturn, 1) := by decide +kernel
theorem dX10_readGift_0 : decode cX10_readGift 0 = .ok (.aload_n 0, 1) := by decide +kernel
theorem dX10_readGift_1 : decode cX10_readGift 1 = .ok (.iconst 0, 1) := by decide +kernel
theorem dX10_readGift_2 : decode cX10_readGift 2 = .ok (.putfield 147, 3) := by decide +kernel
theorem dX10_readGift_5 : decode cX10_readGift 5 = .ok (.aload_n 0, 1) := by decide +kernel
theorem dX10_readGift_6 : decode cX10_readGift 6 = .ok (.invokevirtual 173, 3) := by decide +kernel
theorem dX10_readGift_9 : decode cX10_readGift 9 = .ok (.aload_n 0, 1) := by decide +kernel
theorem dX10_readGift_10 : decode cX10_readGift 10 = .ok (.aload_n 0, 1) := by decide +kernel
theorem dX10_readGift_11 : decode cX10_readGift 11 = .ok (.invokevirtual 176, 3) := by decide +kernel
theorem dX10_readGift_14 : decode cX10_readGift 14 = .ok (.putfield 180, 3) := by decide +kernel
theorem dX10_readGift_17 : decode cX10_readGift 17 = .ok (.aload_n 0, 1) := by decide +kernel
theorem dX10_readGift_18 : decode cX10_readGift 18 = .ok (.getfield 180, 3) := by decide +kernel
theorem dX10_readGift_21 : decode cX10_readGift 21 = .ok (.iconst 1, 1) := by decide +kernel
theorem dX10_readGift_22 : decode cX10_readGift 22 = .ok (.sipush 9999, 3) := by decide +kernel
theorem dX10_readGift_25 : decode cX10_readGift 25 = .ok (.invokestatic 99, 3) := by decide +kernel
theorem dX10_readGift_28 : decode cX10_readGift 28 = .ok (.ifCond .ne 8, 3) := by decide +kernel
theorem dX10_readGift_31 : decode cX10_readGift 31 = .ok (.aload_n 0, 1) := by decide +kernel
theorem dX10_readGift_32 : decode cX10_readGift 32 = .ok (.invokevirtual 183, 3) := by decide +kernel
theorem dX10_readGift_35 : decode cX10_readGift 35 = .ok (.ireturn, 1) := by decide +kernel
theorem dX10_readGift_36 : decode cX10_readGift 36 = .ok (.aload_n 0, 1) := by decide +kernel
theorem dX10_readGift_37 : decode cX10_readGift 37 = .ok (.invokevirtual 173, 3) := by decide +kernel
theorem dX10_readGift_40 : decode cX10_readGift 40 = .ok (.aload_n 0, 1) := by decide +kernel
theorem dX10_readGift_41 : decode cX10_readGift 41 = .ok (.ldc2_w 186, 3) := by decide +kernel
theorem dX10_readGift_44 : decode cX10_readGift 44 = .ok (.iconst 3, 1) := by decide +kernel
theorem dX10_readGift_45 : decode cX10_readGift 45 = .ok (.invokevirtual 161, 3) := by decide +kernel
theorem dX10_readGift_48 : decode cX10_readGift 48 = .ok (.ifCond .ne 8, 3) := by decide +kernel
theorem dX10_readGift_51 : decode cX10_readGift 51 = .ok (.aload_n 0, 1) := by decide +kernel
theorem dX10_readGift_52 : decode cX10_readGift 52 = .ok (.invokevirtual 183, 3) := by decide +kernel
theorem dX10_readGift_55 : decode cX10_readGift 55 = .ok (.ireturn, 1) := by decide +kernel
theorem dX10_readGift_56 : decode cX10_readGift 56 = .ok (.aload_n 0, 1) := by decide +kernel
theorem dX10_readGift_57 : decode cX10_readGift 57 = .ok (.invokevirtual 173, 3) := by decide +kernel
theorem dX10_readGift_60 : decode cX10_readGift 60 = .ok (.aload_n 0, 1) := by decide +kernel
theorem dX10_readGift_61 : decode cX10_readGift 61 = .ok (.aload_n 0, 1) := by decide +kernel
theorem dX10_readGift_62 : decode cX10_readGift 62 = .ok (.invokevirtual 188, 3) := by decide +kernel
theorem dX10_readGift_65 : decode cX10_readGift 65 = .ok (.putfield 191, 3) := by decide +kernel
theorem dX10_readGift_68 : decode cX10_readGift 68 = .ok (.aload_n 0, 1) := by decide +kernel
theorem dX10_readGift_69 : decode cX10_readGift 69 = .ok (.getfield 191, 3) := by decide +kernel
theorem dX10_readGift_72 : decode cX10_readGift 72 = .ok (.ifCond .ge 8, 3) := by decide +kernel
theorem dX10_readGift_75 : decode cX10_readGift 75 = .ok (.aload_n 0, 1) := by decide +kernel
theorem dX10_readGift_76 : decode cX10_readGift 76 = .ok (.invokevirtual 183, 3) := by decide +kernel
theorem dX10_readGift_79 : decode cX10_readGift 79 = .ok (.ireturn, 1) := by decide +kernel
theorem dX10_readGift_80 : decode cX10_readGift 80 = .ok (.aload_n 0, 1) := by decide +kernel
theorem dX10_readGift_81 : decode cX10_readGift 81 = .ok (.getfield 191, 3) := by decide +kernel
theorem dX10_readGift_84 : decode cX10_readGift 84 = .ok (.iconst 4, 1) := by decide +kernel
theorem dX10_readGift_85 : decode cX10_readGift 85 = .ok (.if_icmp .ne 32, 3) := by decide +kernel
theorem dX10_readGift_88 : decode cX10_readGift 88 = .ok (.aload_n 0, 1) := by decide +kernel
theorem dX10_readGift_89 : decode cX10_readGift 89 = .ok (.invokevirtual 173, 3) := by decide +kernel
theorem dX10_readGift_92 : decode cX10_readGift 92 = .ok (.aload_n 0, 1) := by decide +kernel
theorem dX10_readGift_93 : decode cX10_readGift 93 = .ok (.invokevirtual 176, 3) := by decide +kernel
theorem dX10_readGift_96 : decode cX10_readGift 96 = .ok (.istore_n 1, 1) := by decide +kernel
theorem dX10_readGift_97 : decode cX10_readGift 97 = .ok (.aload_n 0, 1) := by decide +kernel
theorem dX10_readGift_98 : decode cX10_readGift 98 = .ok (.iload_n 1, 1) := by decide +kernel
theorem dX10_readGift_99 : decode cX10_readGift 99 = .ok (.invokevirtual 108, 3) := by decide +kernel
theorem dX10_readGift_102 : decode cX10_readGift 102 = .ok (.ifCond .ne 8, 3) := by decide +kernel
theorem dX10_readGift_105 : decode cX10_readGift 105 = .ok (.aload_n 0, 1) := by decide +kernel
theorem dX10_readGift_106 : decode cX10_readGift 106 = .ok (.invokevirtual 183, 3) := by decide +kernel
theorem dX10_readGift_109 : decode cX10_readGift 109 = .ok (.ireturn, 1) := by decide +kernel
theorem dX10_readGift_110 : decode cX10_readGift 110 = .ok (.aload_n 0, 1) := by decide +kernel
theorem dX10_readGift_111 : decode cX10_readGift 111 = .ok (.iconst 4, 1) := by decide +kernel
theorem dX10_readGift_112 : decode cX10_readGift 112 = .ok (.iload_n 1, 1) := by decide +kernel
theorem dX10_readGift_113 : decode cX10_readGift 113 = .ok (.iadd, 1) := by decide +kernel
theorem dX10_readGift_114 : decode cX10_readGift 114 = .ok (.putfield 191, 3) := by decide +kernel
theorem dX10_readGift_117 : decode cX10_readGift 117 = .ok (.aload_n 0, 1) := by decide +kernel
theorem dX10_readGift_118 : decode cX10_readGift 118 = .ok (.aload_n 0, 1) := by decide +kernel
theorem dX10_readGift_119 : decode cX10_readGift 119 = .ok (.getfield 103, 3) := by decide +kernel
theorem dX10_readGift_122 : decode cX10_readGift 122 = .ok (.putfield 194, 3) := by decide +kernel
theorem dX10_readGift_125 : decode cX10_readGift 125 = .ok (.aload_n 0, 1) := by decide +kernel
theorem dX10_readGift_126 : decode cX10_readGift 126 = .ok (.sipush 200, 3) := by decide +kernel
theorem dX10_readGift_129 : decode cX10_readGift 129 = .ok (.putfield 197, 3) := by decide +kernel
theorem dX10_readGift_132 : decode cX10_readGift 132 = .ok (.aload_n 0, 1) := by decide +kernel
theorem dX10_readGift_133 : decode cX10_readGift 133 = .ok (.iconst 0, 1) := by decide +kernel
theorem dX10_readGift_134 : decode cX10_readGift 134 = .ok (.putfield 200, 3) := by decide +kernel
theorem dX10_readGift_137 : decode cX10_readGift 137 = .ok (.aload_n 0, 1) := by decide +kernel
theorem dX10_readGift_138 : decode cX10_readGift 138 = .ok (.invokevirtual 173, 3) := by decide +kernel
theorem dX10_readGift_141 : decode cX10_readGift 141 = .ok (.aload_n 0, 1) := by decide +kernel
theorem dX10_readGift_142 : decode cX10_readGift 142 = .ok (.ldc2_w 203, 3) := by decide +kernel
theorem dX10_readGift_145 : decode cX10_readGift 145 = .ok (.iconst 4, 1) := by decide +kernel
theorem dX10_readGift_146 : decode cX10_readGift 146 = .ok (.invokevirtual 161, 3) := by decide +kernel
theorem dX10_readGift_149 : decode cX10_readGift 149 = .ok (.ifCond .eq 38, 3) := by decide +kernel
theorem dX10_readGift_152 : decode cX10_readGift 152 = .ok (.aload_n 0, 1) := by decide +kernel
theorem dX10_readGift_153 : decode cX10_readGift 153 = .ok (.invokevirtual 173, 3) := by decide +kernel
theorem dX10_readGift_156 : decode cX10_readGift 156 = .ok (.aload_n 0, 1) := by decide +kernel
theorem dX10_readGift_157 : decode cX10_readGift 157 = .ok (.aload_n 0, 1) := by decide +kernel
theorem dX10_readGift_158 : decode cX10_readGift 158 = .ok (.invokevirtual 176, 3) := by decide +kernel
theorem dX10_readGift_161 : decode cX10_readGift 161 = .ok (.putfield 194, 3) := by decide +kernel
theorem dX10_readGift_164 : decode cX10_readGift 164 = .ok (.aload_n 0, 1) := by decide +kernel
theorem dX10_readGift_165 : decode cX10_readGift 165 = .ok (.getfield 194, 3) := by decide +kernel
theorem dX10_readGift_168 : decode cX10_readGift 168 = .ok (.iconst 0, 1) := by decide +kernel
theorem dX10_readGift_169 : decode cX10_readGift 169 = .ok (.sipush 200, 3) := by decide +kernel
theorem dX10_readGift_172 : decode cX10_readGift 172 = .ok (.invokestatic 99, 3) := by decide +kernel
theorem dX10_readGift_175 : decode cX10_readGift 175 = .ok (.ifCond .ne 8, 3) := by decide +kernel
theorem dX10_readGift_178 : decode cX10_readGift 178 = .ok (.aload_n 0, 1) := by decide +kernel
theorem dX10_readGift_179 : decode cX10_readGift 179 = .ok (.invokevirtual 183, 3) := by decide +kernel
theorem dX10_readGift_182 : decode cX10_readGift 182 = .ok (.ireturn, 1) := by decide +kernel
theorem dX10_readGift_183 : decode cX10_readGift 183 = .ok (.aload_n 0, 1) := by decide +kernel
theorem dX10_readGift_184 : decode cX10_readGift 184 = .ok (.invokevirtual 173, 3) := by decide +kernel
theorem dX10_readGift_187 : decode cX10_readGift 187 = .ok (.aload_n 0, 1) := by decide +kernel
theorem dX10_readGift_188 : decode cX10_readGift 188 = .ok (.ldc2_w 205, 3) := by decide +kernel
theorem dX10_readGift_191 : decode cX10_readGift 191 = .ok (.iconst 4, 1) := by decide +kernel
theorem dX10_readGift_192 : decode cX10_readGift 192 = .ok (.invokevirtual 161, 3) := by decide +kernel
theorem dX10_readGift_195 : decode cX10_readGift 195 = .ok (.ifCond .eq 41, 3) := by decide +kernel
theorem dX10_readGift_198 : decode cX10_readGift 198 = .ok (.aload_n 0, 1) := by decide +kernel
theorem dX10_readGift_199 : decode cX10_readGift 199 = .ok (.invokevirtual 173, 3) := by decide +kernel
theorem dX10_readGift_202 : decode cX10_readGift 202 = .ok (.aload_n 0, 1) := by decide +kernel
theorem dX10_readGift_203 : decode cX10_readGift 203 = .ok (.aload_n 0, 1) := by decide +kernel
theorem dX10_readGift_204 : decode cX10_readGift 204 = .ok (.invokevirtual 176, 3) := by decide +kernel
theorem dX10_readGift_207 : decode cX10_readGift 207 = .ok (.putfield 197, 3) := by decide +kernel
theorem dX10_readGift_210 : decode cX10_readGift 210 = .ok (.aload_n 0, 1) := by decide +kernel
theorem dX10_readGift_211 : decode cX10_readGift 211 = .ok (.getfield 197, 3) := by decide +kernel
theorem dX10_readGift_214 : decode cX10_readGift 214 = .ok (.aload_n 0, 1) := by decide +kernel
theorem dX10_readGift_215 : decode cX10_readGift 215 = .ok (.getfield 194, 3) := by decide +kernel
theorem dX10_readGift_218 : decode cX10_readGift 218 = .ok (.sipush 200, 3) := by decide +kernel
theorem dX10_readGift_221 : decode cX10_readGift 221 = .ok (.invokestatic 99, 3) := by decide +kernel
theorem dX10_readGift_224 : decode cX10_readGift 224 = .ok (.ifCond .ne 8, 3) := by decide +kernel
theorem dX10_readGift_227 : decode cX10_readGift 227 = .ok (.aload_n 0, 1) := by decide +kernel
theorem dX10_readGift_228 : decode cX10_readGift 228 = .ok (.invokevirtual 183, 3) := by decide +kernel
theorem dX10_readGift_231 : decode cX10_readGift 231 = .ok (.ireturn, 1) := by decide +kernel
theorem dX10_readGift_232 : decode cX10_readGift 232 = .ok (.aload_n 0, 1) := by decide +kernel
theorem dX10_readGift_233 : decode cX10_readGift 233 = .ok (.invokevirtual 173, 3) := by decide +kernel
theorem dX10_readGift_236 : decode cX10_readGift 236 = .ok (.aload_n 0, 1) := by decide +kernel
theorem dX10_readGift_237 : decode cX10_readGift 237 = .ok (.ldc2_w 207, 3) := by decide +kernel
theorem dX10_readGift_240 : decode cX10_readGift 240 = .ok (.bipush 6, 2) := by decide +kernel
theorem dX10_readGift_242 : decode cX10_readGift 242 = .ok (.invokevirtual 161, 3) := by decide +kernel
theorem dX10_readGift_245 : decode cX10_readGift 245 = .ok (.ifCond .eq 12, 3) := by decide +kernel
theorem dX10_readGift_248 : decode cX10_readGift 248 = .ok (.aload_n 0, 1) := by decide +kernel
theorem dX10_readGift_249 : decode cX10_readGift 249 = .ok (.iconst 1, 1) := by decide +kernel
theorem dX10_readGift_250 : decode cX10_readGift 250 = .ok (.putfield 200, 3) := by decide +kernel
theorem dX10_readGift_253 : decode cX10_readGift 253 = .ok (.aload_n 0, 1) := by decide +kernel
theorem dX10_readGift_254 : decode cX10_readGift 254 = .ok (.invokevirtual 173, 3) := by decide +kernel
theorem dX10_readGift_257 : decode cX10_readGift 257 = .ok (.aload_n 0, 1) := by decide +kernel
theorem dX10_readGift_258 : decode cX10_readGift 258 = .ok (.getfield 153, 3) := by decide +kernel
theorem dX10_readGift_261 : decode cX10_readGift 261 = .ok (.ifCond .ne 7, 3) := by decide +kernel
theorem dX10_readGift_264 : decode cX10_readGift 264 = .ok (.iconst (-1), 1) := by decide +kernel
theorem dX10_readGift_265 : decode cX10_readGift 265 = .ok (.goto 7, 3) := by decide +kernel
theorem dX10_readGift_268 : decode cX10_readGift 268 = .ok (.aload_n 0, 1) := by decide +kernel
theorem dX10_readGift_269 : decode cX10_readGift 269 = .ok (.getfield 150, 3) := by decide +kernel
theorem dX10_readGift_272 : decode cX10_readGift 272 = .ok (.ireturn, 1) := by decide +kernel
theorem dX10_comes_0 : decode cX10_comes 0 = .ok (.aload_n 0, 1) := by decide +kernel
theorem dX10_comes_1 : decode cX10_comes 1 = .ok (.getfield 56, 3) := by decide +kernel
theorem dX10_comes_4 : decode cX10_comes 4 = .ok (.iload_n 1, 1) := by decide +kernel
theorem dX10_comes_5 : decode cX10_comes 5 = .ok (.dup2, 1) := by decide +kernel
theorem dX10_comes_6 : decode cX10_comes 6 = .ok (.iaload, 1) := by decide +kernel
theorem dX10_comes_7 : decode cX10_comes 7 = .ok (.iload_n 2, 1) := by decide +kernel
theorem dX10_comes_8 : decode cX10_comes 8 = .ok (.iadd, 1) := by decide +kernel
theorem dX10_comes_9 : decode cX10_comes 9 = .ok (.iastore, 1) := by decide +kernel
theorem dX10_comes_10 : decode cX10_comes 10 = .ok (.aload_n 0, 1) := by decide +kernel
theorem dX10_comes_11 : decode cX10_comes 11 = .ok (.getfield 59, 3) := by decide +kernel
theorem dX10_comes_14 : decode cX10_comes 14 = .ok (.iload_n 1, 1) := by decide +kernel
theorem dX10_comes_15 : decode cX10_comes 15 = .ok (.dup2, 1) := by decide +kernel
theorem dX10_comes_16 : decode cX10_comes 16 = .ok (.iaload, 1) := by decide +kernel
theorem dX10_comes_17 : decode cX10_comes 17 = .ok (.iload_n 2, 1) := by decide +kernel
theorem dX10_comes_18 : decode cX10_comes 18 = .ok (.iadd, 1) := by decide +kernel
theorem dX10_comes_19 : decode cX10_comes 19 = .ok (.iastore, 1) := by decide +kernel
theorem dX10_comes_20 : decode cX10_comes 20 = .ok (.aload_n 0, 1) := by decide +kernel
theorem dX10_comes_21 : decode cX10_comes 21 = .ok (.iload_n 3, 1) := by decide +kernel
theorem dX10_comes_22 : decode cX10_comes 22 = .ok (.iload_n 2, 1) := by decide +kernel
theorem dX10_comes_23 : decode cX10_comes 23 = .ok (.invokevirtual 209, 3) := by decide +kernel
theorem dX10_comes_26 : decode cX10_comes 26 = .ok (.return_, 1) := by decide +kernel
theorem dX10_gift_0 : decode cX10_gift 0 = .ok (.aload_n 0, 1) := by decide +kernel
theorem dX10_gift_1 : decode cX10_gift 1 = .ok (.invokevirtual 213, 3) := by decide +kernel
theorem dX10_gift_4 : decode cX10_gift 4 = .ok (.istore_n 1, 1) := by decide +kernel
theorem dX10_gift_5 : decode cX10_gift 5 = .ok (.aload_n 0, 1) := by decide +kernel
theorem dX10_gift_6 : decode cX10_gift 6 = .ok (.iconst 0, 1) := by decide +kernel
theorem dX10_gift_7 : decode cX10_gift 7 = .ok (.putfield 141, 3) := by decide +kernel
theorem dX10_gift_10 : decode cX10_gift 10 = .ok (.iload_n 1, 1) := by decide +kernel
theorem dX10_gift_11 : decode cX10_gift 11 = .ok (.ifCond .lt 8, 3) := by decide +kernel
theorem dX10_gift_14 : decode cX10_gift 14 = .ok (.bipush (-100), 2) := by decide +kernel
theorem dX10_gift_16 : decode cX10_gift 16 = .ok (.iload_n 1, 1) := by decide +kernel
theorem dX10_gift_17 : decode cX10_gift 17 = .ok (.isub, 1) := by decide +kernel
theorem dX10_gift_18 : decode cX10_gift 18 = .ok (.ireturn, 1) := by decide +kernel
theorem dX10_gift_19 : decode cX10_gift 19 = .ok (.aload_n 0, 1) := by decide +kernel
theorem dX10_gift_20 : decode cX10_gift 20 = .ok (.getfield 92, 3) := by decide +kernel
theorem dX10_gift_23 : decode cX10_gift 23 = .ok (.bipush 20, 2) := by decide +kernel
theorem dX10_gift_25 : decode cX10_gift 25 = .ok (.if_icmp .ne 6, 3) := by decide +kernel
theorem dX10_gift_28 : decode cX10_gift 28 = .ok (.ldc 107, 2) := by decide +kernel
theorem dX10_gift_30 : decode cX10_gift 30 = .ok (.ireturn, 1) := by decide +kernel
theorem dX10_gift_31 : decode cX10_gift 31 = .ok (.aload_n 0, 1) := by decide +kernel
theorem dX10_gift_32 : decode cX10_gift 32 = .ok (.getfield 92, 3) := by decide +kernel
theorem dX10_gift_35 : decode cX10_gift 35 = .ok (.istore_n 2, 1) := by decide +kernel
theorem dX10_gift_36 : decode cX10_gift 36 = .ok (.aload_n 0, 1) := by decide +kernel
theorem dX10_gift_37 : decode cX10_gift 37 = .ok (.getfield 41, 3) := by decide +kernel
theorem dX10_gift_40 : decode cX10_gift 40 = .ok (.iload_n 2, 1) := by decide +kernel
theorem dX10_gift_41 : decode cX10_gift 41 = .ok (.aload_n 0, 1) := by decide +kernel
theorem dX10_gift_42 : decode cX10_gift 42 = .ok (.getfield 191, 3) := by decide +kernel
theorem dX10_gift_45 : decode cX10_gift 45 = .ok (.iastore, 1) := by decide +kernel
theorem dX10_gift_46 : decode cX10_gift 46 = .ok (.aload_n 0, 1) := by decide +kernel
theorem dX10_gift_47 : decode cX10_gift 47 = .ok (.getfield 44, 3) := by decide +kernel
theorem dX10_gift_50 : decode cX10_gift 50 = .ok (.iload_n 2, 1) := by decide +kernel
theorem dX10_gift_51 : decode cX10_gift 51 = .ok (.aload_n 0, 1) := by decide +kernel
theorem dX10_gift_52 : decode cX10_gift 52 = .ok (.getfield 194, 3) := by decide +kernel
theorem dX10_gift_55 : decode cX10_gift 55 = .ok (.iastore, 1) := by decide +kernel
theorem dX10_gift_56 : decode cX10_gift 56 = .ok (.aload_n 0, 1) := by decide +kernel
theorem dX10_gift_57 : decode cX10_gift 57 = .ok (.getfield 47, 3) := by decide +kernel
theorem dX10_gift_60 : decode cX10_gift 60 = .ok (.iload_n 2, 1) := by decide +kernel
theorem dX10_gift_61 : decode cX10_gift 61 = .ok (.aload_n 0, 1) := by decide +kernel
theorem dX10_gift_62 : decode cX10_gift 62 = .ok (.getfield 197, 3) := by decide +kernel
theorem dX10_gift_65 : decode cX10_gift 65 = .ok (.iastore, 1) := by decide +kernel
theorem dX10_gift_66 : decode cX10_gift 66 = .ok (.aload_n 0, 1) := by decide +kernel
theorem dX10_gift_67 : decode cX10_gift 67 = .ok (.getfield 50, 3) := by decide +kernel
theorem dX10_gift_70 : decode cX10_gift 70 = .ok (.iload_n 2, 1) := by decide +kernel
theorem dX10_gift_71 : decode cX10_gift 71 = .ok (.aload_n 0, 1) := by decide +kernel
theorem dX10_gift_72 : decode cX10_gift 72 = .ok (.getfield 200, 3) := by decide +kernel
theorem dX10_gift_75 : decode cX10_gift 75 = .ok (.iastore, 1) := by decide +kernel
theorem dX10_gift_76 : decode cX10_gift 76 = .ok (.aload_n 0, 1) := by decide +kernel
theorem dX10_gift_77 : decode cX10_gift 77 = .ok (.getfield 53, 3) := by decide +kernel
theorem dX10_gift_80 : decode cX10_gift 80 = .ok (.iload_n 2, 1) := by decide +kernel
theorem dX10_gift_81 : decode cX10_gift 81 = .ok (.aload_n 0, 1) := by decide +kernel
theorem dX10_gift_82 : decode cX10_gift 82 = .ok (.getfield 180, 3) := by decide +kernel
theorem dX10_gift_85 : decode cX10_gift 85 = .ok (.iastore, 1) := by decide +kernel
theorem dX10_gift_86 : decode cX10_gift 86 = .ok (.aload_n 0, 1) := by decide +kernel
theorem dX10_gift_87 : decode cX10_gift 87 = .ok (.dup, 1) := by decide +kernel
theorem dX10_gift_88 : decode cX10_gift 88 = .ok (.getfield 92, 3) := by decide +kernel
theorem dX10_gift_91 : decode cX10_gift 91 = .ok (.iconst 1, 1) := by decide +kernel
theorem dX10_gift_92 : decode cX10_gift 92 = .ok (.iadd, 1) := by decide +kernel
theorem dX10_gift_93 : decode cX10_gift 93 = .ok (.putfield 92, 3) := by decide +kernel
theorem dX10_gift_96 : decode cX10_gift 96 = .ok (.aload_n 0, 1) := by decide +kernel
theorem dX10_gift_97 : decode cX10_gift 97 = .ok (.getfield 194, 3) := by decide +kernel
theorem dX10_gift_100 : decode cX10_gift 100 = .ok (.aload_n 0, 1) := by decide +kernel
theorem dX10_gift_101 : decode cX10_gift 101 = .ok (.getfield 103, 3) := by decide +kernel
theorem dX10_gift_104 : decode cX10_gift 104 = .ok (.if_icmp .gt 13, 3) := by decide +kernel
theorem dX10_gift_107 : decode cX10_gift 107 = .ok (.aload_n 0, 1) := by decide +kernel
theorem dX10_gift_108 : decode cX10_gift 108 = .ok (.iload_n 2, 1) := by decide +kernel
theorem dX10_gift_109 : decode cX10_gift 109 = .ok (.aload_n 0, 1) := by decide +kernel
theorem dX10_gift_110 : decode cX10_gift 110 = .ok (.getfield 180, 3) := by decide +kernel
theorem dX10_gift_113 : decode cX10_gift 113 = .ok (.iconst 0, 1) := by decide +kernel
theorem dX10_gift_114 : decode cX10_gift 114 = .ok (.invokevirtual 216, 3) := by decide +kernel
theorem dX10_gift_117 : decode cX10_gift 117 = .ok (.iload_n 2, 1) := by decide +kernel
theorem dX10_gift_118 : decode cX10_gift 118 = .ok (.ireturn, 1) := by decide +kernel
theorem dX10_isPurse_0 : decode cX10_isPurse 0 = .ok (.iload_n 1, 1) := by decide +kernel
theorem dX10_isPurse_1 : decode cX10_isPurse 1 = .ok (.iconst 0, 1) := by decide +kernel
theorem dX10_isPurse_2 : decode cX10_isPurse 2 = .ok (.aload_n 0, 1) := by decide +kernel
theorem dX10_isPurse_3 : decode cX10_isPurse 3 = .ok (.getfield 92, 3) := by decide +kernel
theorem dX10_isPurse_6 : decode cX10_isPurse 6 = .ok (.iconst 1, 1) := by decide +kernel
theorem dX10_isPurse_7 : decode cX10_isPurse 7 = .ok (.isub, 1) := by decide +kernel
theorem dX10_isPurse_8 : decode cX10_isPurse 8 = .ok (.invokestatic 99, 3) := by decide +kernel
theorem dX10_isPurse_11 : decode cX10_isPurse 11 = .ok (.ireturn, 1) := by decide +kernel
theorem dX10_isOpen_0 : decode cX10_isOpen 0 = .ok (.aload_n 0, 1) := by decide +kernel
theorem dX10_isOpen_1 : decode cX10_isOpen 1 = .ok (.getfield 103, 3) := by decide +kernel
theorem dX10_isOpen_4 : decode cX10_isOpen 4 = .ok (.aload_n 0, 1) := by decide +kernel
theorem dX10_isOpen_5 : decode cX10_isOpen 5 = .ok (.getfield 44, 3) := by decide +kernel
theorem dX10_isOpen_8 : decode cX10_isOpen 8 = .ok (.iload_n 1, 1) := by decide +kernel
theorem dX10_isOpen_9 : decode cX10_isOpen 9 = .ok (.iaload, 1) := by decide +kernel
theorem dX10_isOpen_10 : decode cX10_isOpen 10 = .ok (.aload_n 0, 1) := by decide +kernel
theorem dX10_isOpen_11 : decode cX10_isOpen 11 = .ok (.getfield 47, 3) := by decide +kernel
theorem dX10_isOpen_14 : decode cX10_isOpen 14 = .ok (.iload_n 1, 1) := by decide +kernel
theorem dX10_isOpen_15 : decode cX10_isOpen 15 = .ok (.iaload, 1) := by decide +kernel
theorem dX10_isOpen_16 : decode cX10_isOpen 16 = .ok (.invokestatic 99, 3) := by decide +kernel
theorem dX10_isOpen_19 : decode cX10_isOpen 19 = .ok (.ireturn, 1) := by decide +kernel
theorem dX10_purse_0 : decode cX10_purse 0 = .ok (.aload_n 0, 1) := by decide +kernel
theorem dX10_purse_1 : decode cX10_purse 1 = .ok (.iload_n 1, 1) := by decide +kernel
theorem dX10_purse_2 : decode cX10_purse 2 = .ok (.invokevirtual 220, 3) := by decide +kernel
theorem dX10_purse_5 : decode cX10_purse 5 = .ok (.ifCond .eq 13, 3) := by decide +kernel
theorem dX10_purse_8 : decode cX10_purse 8 = .ok (.iload_n 2, 1) := by decide +kernel
theorem dX10_purse_9 : decode cX10_purse 9 = .ok (.iconst 0, 1) := by decide +kernel
theorem dX10_purse_10 : decode cX10_purse 10 = .ok (.bipush 7, 2) := by decide +kernel
theorem dX10_purse_12 : decode cX10_purse 12 = .ok (.invokestatic 99, 3) := by decide +kernel
theorem dX10_purse_15 : decode cX10_purse 15 = .ok (.ifCond .ne 6, 3) := by decide +kernel
theorem dX10_purse_18 : decode cX10_purse 18 = .ok (.ldc 106, 2) := by decide +kernel
theorem dX10_purse_20 : decode cX10_purse 20 = .ok (.ireturn, 1) := by decide +kernel
theorem dX10_purse_21 : decode cX10_purse 21 = .ok (.iload_n 2, 1) := by decide +kernel
theorem dX10_purse_22 : decode cX10_purse 22 = .ok (.tableswitch 98 0 6 #[42, 49, 56, 63, 70, 77, 91], 42) := by decide +kernel
theorem dX10_purse_64 : decode cX10_purse 64 = .ok (.aload_n 0, 1) := by decide +kernel
theorem dX10_purse_65 : decode cX10_purse 65 = .ok (.getfield 41, 3) := by decide +kernel
theorem dX10_purse_68 : decode cX10_purse 68 = .ok (.iload_n 1, 1) := by decide +kernel
theorem dX10_purse_69 : decode cX10_purse 69 = .ok (.iaload, 1) := by decide +kernel
theorem dX10_purse_70 : decode cX10_purse 70 = .ok (.ireturn, 1) := by decide +kernel
theorem dX10_purse_71 : decode cX10_purse 71 = .ok (.aload_n 0, 1) := by decide +kernel
theorem dX10_purse_72 : decode cX10_purse 72 = .ok (.getfield 44, 3) := by decide +kernel
theorem dX10_purse_75 : decode cX10_purse 75 = .ok (.iload_n 1, 1) := by decide +kernel
theorem dX10_purse_76 : decode cX10_purse 76 = .ok (.iaload, 1) := by decide +kernel
theorem dX10_purse_77 : decode cX10_purse 77 = .ok (.ireturn, 1) := by decide +kernel
theorem dX10_purse_78 : decode cX10_purse 78 = .ok (.aload_n 0, 1) := by decide +kernel
theorem dX10_purse_79 : decode cX10_purse 79 = .ok (.getfield 47, 3) := by decide +kernel
theorem dX10_purse_82 : decode cX10_purse 82 = .ok (.iload_n 1, 1) := by decide +kernel
theorem dX10_purse_83 : decode cX10_purse 83 = .ok (.iaload, 1) := by decide +kernel
theorem dX10_purse_84 : decode cX10_purse 84 = .ok (.ireturn, 1) := by decide +kernel
theorem dX10_purse_85 : decode cX10_purse 85 = .ok (.aload_n 0, 1) := by decide +kernel
theorem dX10_purse_86 : decode cX10_purse 86 = .ok (.getfield 56, 3) := by decide +kernel
theorem dX10_purse_89 : decode cX10_purse 89 = .ok (.iload_n 1, 1) := by decide +kernel
theorem dX10_purse_90 : decode cX10_purse 90 = .ok (.iaload, 1) := by decide +kernel
theorem dX10_purse_91 : decode cX10_purse 91 = .ok (.ireturn, 1) := by decide +kernel
theorem dX10_purse_92 : decode cX10_purse 92 = .ok (.aload_n 0, 1) := by decide +kernel
theorem dX10_purse_93 : decode cX10_purse 93 = .ok (.getfield 50, 3) := by decide +kernel
theorem dX10_purse_96 : decode cX10_purse 96 = .ok (.iload_n 1, 1) := by decide +kernel
theorem dX10_purse_97 : decode cX10_purse 97 = .ok (.iaload, 1) := by decide +kernel
theorem dX10_purse_98 : decode cX10_purse 98 = .ok (.ireturn, 1) := by decide +kernel
theorem dX10_purse_99 : decode cX10_purse 99 = .ok (.aload_n 0, 1) := by decide +kernel
theorem dX10_purse_100 : decode cX10_purse 100 = .ok (.iload_n 1, 1) := by decide +kernel
theorem dX10_purse_101 : decode cX10_purse 101 = .ok (.invokevirtual 223, 3) := by decide +kernel
theorem dX10_purse_104 : decode cX10_purse 104 = .ok (.ifCond .eq 7, 3) := by decide +kernel
theorem dX10_purse_107 : decode cX10_purse 107 = .ok (.iconst 1, 1) := by decide +kernel
theorem dX10_purse_108 : decode cX10_purse 108 = .ok (.goto 4, 3) := by decide +kernel
theorem dX10_purse_111 : decode cX10_purse 111 = .ok (.iconst 0, 1) := by decide +kernel
theorem dX10_purse_112 : decode cX10_purse 112 = .ok (.ireturn, 1) := by decide +kernel
theorem dX10_purse_113 : decode cX10_purse 113 = .ok (.aload_n 0, 1) := by decide +kernel
theorem dX10_purse_114 : decode cX10_purse 114 = .ok (.getfield 59, 3) := by decide +kernel
theorem dX10_purse_117 : decode cX10_purse 117 = .ok (.iload_n 1, 1) := by decide +kernel
theorem dX10_purse_118 : decode cX10_purse 118 = .ok (.iaload, 1) := by decide +kernel
theorem dX10_purse_119 : decode cX10_purse 119 = .ok (.ireturn, 1) := by decide +kernel
theorem dX10_purse_120 : decode cX10_purse 120 = .ok (.aload_n 0, 1) := by decide +kernel
theorem dX10_purse_121 : decode cX10_purse 121 = .ok (.getfield 62, 3) := by decide +kernel
theorem dX10_purse_124 : decode cX10_purse 124 = .ok (.iload_n 1, 1) := by decide +kernel
theorem dX10_purse_125 : decode cX10_purse 125 = .ok (.iaload, 1) := by decide +kernel
theorem dX10_purse_126 : decode cX10_purse 126 = .ok (.ireturn, 1) := by decide +kernel
theorem dX10_isEnd_0 : decode cX10_isEnd 0 = .ok (.iload_n 1, 1) := by decide +kernel
theorem dX10_isEnd_1 : decode cX10_isEnd 1 = .ok (.iconst 0, 1) := by decide +kernel
theorem dX10_isEnd_2 : decode cX10_isEnd 2 = .ok (.iconst 1, 1) := by decide +kernel
theorem dX10_isEnd_3 : decode cX10_isEnd 3 = .ok (.aload_n 0, 1) := by decide +kernel
theorem dX10_isEnd_4 : decode cX10_isEnd 4 = .ok (.getfield 96, 3) := by decide +kernel
theorem dX10_isEnd_7 : decode cX10_isEnd 7 = .ok (.iadd, 1) := by decide +kernel
theorem dX10_isEnd_8 : decode cX10_isEnd 8 = .ok (.invokestatic 99, 3) := by decide +kernel
theorem dX10_isEnd_11 : decode cX10_isEnd 11 = .ok (.ireturn, 1) := by decide +kernel
theorem dX10_serves_0 : decode cX10_serves 0 = .ok (.aload_n 0, 1) := by decide +kernel
theorem dX10_serves_1 : decode cX10_serves 1 = .ok (.getfield 41, 3) := by decide +kernel
theorem dX10_serves_4 : decode cX10_serves 4 = .ok (.iload_n 1, 1) := by decide +kernel
theorem dX10_serves_5 : decode cX10_serves 5 = .ok (.iaload, 1) := by decide +kernel
theorem dX10_serves_6 : decode cX10_serves 6 = .ok (.istore_n 3, 1) := by decide +kernel
theorem dX10_serves_7 : decode cX10_serves 7 = .ok (.iload_n 3, 1) := by decide +kernel
theorem dX10_serves_8 : decode cX10_serves 8 = .ok (.ifCond .eq 46, 3) := by decide +kernel
theorem dX10_serves_11 : decode cX10_serves 11 = .ok (.iload_n 3, 1) := by decide +kernel
theorem dX10_serves_12 : decode cX10_serves 12 = .ok (.iconst 2, 1) := by decide +kernel
theorem dX10_serves_13 : decode cX10_serves 13 = .ok (.if_icmp .ne 7, 3) := by decide +kernel
theorem dX10_serves_16 : decode cX10_serves 16 = .ok (.iload_n 2, 1) := by decide +kernel
theorem dX10_serves_17 : decode cX10_serves 17 = .ok (.ifCond .eq 37, 3) := by decide +kernel
theorem dX10_serves_20 : decode cX10_serves 20 = .ok (.iload_n 3, 1) := by decide +kernel
theorem dX10_serves_21 : decode cX10_serves 21 = .ok (.iconst 3, 1) := by decide +kernel
theorem dX10_serves_22 : decode cX10_serves 22 = .ok (.if_icmp .ne 8, 3) := by decide +kernel
theorem dX10_serves_25 : decode cX10_serves 25 = .ok (.iload_n 2, 1) := by decide +kernel
theorem dX10_serves_26 : decode cX10_serves 26 = .ok (.iconst 1, 1) := by decide +kernel
theorem dX10_serves_27 : decode cX10_serves 27 = .ok (.if_icmp .eq 27, 3) := by decide +kernel
theorem dX10_serves_30 : decode cX10_serves 30 = .ok (.iload_n 3, 1) := by decide +kernel
theorem dX10_serves_31 : decode cX10_serves 31 = .ok (.iconst 1, 1) := by decide +kernel
theorem dX10_serves_32 : decode cX10_serves 32 = .ok (.if_icmp .ne 8, 3) := by decide +kernel
theorem dX10_serves_35 : decode cX10_serves 35 = .ok (.iload_n 2, 1) := by decide +kernel
theorem dX10_serves_36 : decode cX10_serves 36 = .ok (.iconst 2, 1) := by decide +kernel
theorem dX10_serves_37 : decode cX10_serves 37 = .ok (.if_icmp .ge 17, 3) := by decide +kernel
theorem dX10_serves_40 : decode cX10_serves 40 = .ok (.iload_n 3, 1) := by decide +kernel
theorem dX10_serves_41 : decode cX10_serves 41 = .ok (.iconst 4, 1) := by decide +kernel
theorem dX10_serves_42 : decode cX10_serves 42 = .ok (.if_icmp .lt 16, 3) := by decide +kernel
theorem dX10_serves_45 : decode cX10_serves 45 = .ok (.iload_n 2, 1) := by decide +kernel
theorem dX10_serves_46 : decode cX10_serves 46 = .ok (.iconst 2, 1) := by decide +kernel
theorem dX10_serves_47 : decode cX10_serves 47 = .ok (.iload_n 3, 1) := by decide +kernel
theorem dX10_serves_48 : decode cX10_serves 48 = .ok (.iadd, 1) := by decide +kernel
theorem dX10_serves_49 : decode cX10_serves 49 = .ok (.iconst 4, 1) := by decide +kernel
theorem dX10_serves_50 : decode cX10_serves 50 = .ok (.isub, 1) := by decide +kernel
theorem dX10_serves_51 : decode cX10_serves 51 = .ok (.if_icmp .ne 7, 3) := by decide +kernel
theorem dX10_serves_54 : decode cX10_serves 54 = .ok (.iconst 1, 1) := by decide +kernel
theorem dX10_serves_55 : decode cX10_serves 55 = .ok (.goto 4, 3) := by decide +kernel
theorem dX10_serves_58 : decode cX10_serves 58 = .ok (.iconst 0, 1) := by decide +kernel
theorem dX10_serves_59 : decode cX10_serves 59 = .ok (.ireturn, 1) := by decide +kernel
theorem dX10_fundsOf_0 : decode cX10_fundsOf 0 = .ok (.iconst 0, 1) := by decide +kernel
theorem dX10_fundsOf_1 : decode cX10_fundsOf 1 = .ok (.istore_n 2, 1) := by decide +kernel
theorem dX10_fundsOf_2 : decode cX10_fundsOf 2 = .ok (.iconst 0, 1) := by decide +kernel
theorem dX10_fundsOf_3 : decode cX10_fundsOf 3 = .ok (.istore_n 3, 1) := by decide +kernel
theorem dX10_fundsOf_4 : decode cX10_fundsOf 4 = .ok (.iload_n 3, 1) := by decide +kernel
theorem dX10_fundsOf_5 : decode cX10_fundsOf 5 = .ok (.aload_n 0, 1) := by decide +kernel
theorem dX10_fundsOf_6 : decode cX10_fundsOf 6 = .ok (.getfield 92, 3) := by decide +kernel
theorem dX10_fundsOf_9 : decode cX10_fundsOf 9 = .ok (.if_icmp .ge 39, 3) := by decide +kernel
theorem dX10_fundsOf_12 : decode cX10_fundsOf 12 = .ok (.iload_n 2, 1) := by decide +kernel
theorem dX10_fundsOf_13 : decode cX10_fundsOf 13 = .ok (.aload_n 0, 1) := by decide +kernel
theorem dX10_fundsOf_14 : decode cX10_fundsOf 14 = .ok (.iload_n 3, 1) := by decide +kernel
theorem dX10_fundsOf_15 : decode cX10_fundsOf 15 = .ok (.invokevirtual 223, 3) := by decide +kernel
theorem dX10_fundsOf_18 : decode cX10_fundsOf 18 = .ok (.ifCond .eq 21, 3) := by decide +kernel
theorem dX10_fundsOf_21 : decode cX10_fundsOf 21 = .ok (.aload_n 0, 1) := by decide +kernel
theorem dX10_fundsOf_22 : decode cX10_fundsOf 22 = .ok (.iload_n 3, 1) := by decide +kernel
theorem dX10_fundsOf_23 : decode cX10_fundsOf 23 = .ok (.iload_n 1, 1) := by decide +kernel
theorem dX10_fundsOf_24 : decode cX10_fundsOf 24 = .ok (.invokevirtual 226, 3) := by decide +kernel
theorem dX10_fundsOf_27 : decode cX10_fundsOf 27 = .ok (.ifCond .eq 12, 3) := by decide +kernel
theorem dX10_fundsOf_30 : decode cX10_fundsOf 30 = .ok (.aload_n 0, 1) := by decide +kernel
theorem dX10_fundsOf_31 : decode cX10_fundsOf 31 = .ok (.getfield 56, 3) := by decide +kernel
theorem dX10_fundsOf_34 : decode cX10_fundsOf 34 = .ok (.iload_n 3, 1) := by decide +kernel
theorem dX10_fundsOf_35 : decode cX10_fundsOf 35 = .ok (.iaload, 1) := by decide +kernel
theorem dX10_fundsOf_36 : decode cX10_fundsOf 36 = .ok (.goto 4, 3) := by decide +kernel
theorem dX10_fundsOf_39 : decode cX10_fundsOf 39 = .ok (.iconst 0, 1) := by decide +kernel
theorem dX10_fundsOf_40 : decode cX10_fundsOf 40 = .ok (.iadd, 1) := by decide +kernel
theorem dX10_fundsOf_41 : decode cX10_fundsOf 41 = .ok (.istore_n 2, 1) := by decide +kernel
theorem dX10_fundsOf_42 : decode cX10_fundsOf 42 = .ok (.iinc 3 1, 3) := by decide +kernel
theorem dX10_fundsOf_45 : decode cX10_fundsOf 45 = .ok (.goto (-41), 3) := by decide +kernel
theorem dX10_fundsOf_48 : decode cX10_fundsOf 48 = .ok (.iload_n 2, 1) := by decide +kernel
theorem dX10_fundsOf_49 : decode cX10_fundsOf 49 = .ok (.ireturn, 1) := by decide +kernel
theorem dX10_funds_0 : decode cX10_funds 0 = .ok (.aload_n 0, 1) := by decide +kernel
theorem dX10_funds_1 : decode cX10_funds 1 = .ok (.iload_n 1, 1) := by decide +kernel
theorem dX10_funds_2 : decode cX10_funds 2 = .ok (.invokevirtual 230, 3) := by decide +kernel
theorem dX10_funds_5 : decode cX10_funds 5 = .ok (.ifCond .eq 11, 3) := by decide +kernel
theorem dX10_funds_8 : decode cX10_funds 8 = .ok (.aload_n 0, 1) := by decide +kernel
theorem dX10_funds_9 : decode cX10_funds 9 = .ok (.iload_n 1, 1) := by decide +kernel
theorem dX10_funds_10 : decode cX10_funds 10 = .ok (.invokevirtual 233, 3) := by decide +kernel
theorem dX10_funds_13 : decode cX10_funds 13 = .ok (.goto 5, 3) := by decide +kernel
theorem dX10_funds_16 : decode cX10_funds 16 = .ok (.ldc 106, 2) := by decide +kernel
theorem dX10_funds_18 : decode cX10_funds 18 = .ok (.ireturn, 1) := by decide +kernel
theorem dX10_turnOf_0 : decode cX10_turnOf 0 = .ok (.aload_n 0, 1) := by decide +kernel
theorem dX10_turnOf_1 : decode cX10_turnOf 1 = .ok (.getfield 41, 3) := by decide +kernel
theorem dX10_turnOf_4 : decode cX10_turnOf 4 = .ok (.iload_n 1, 1) := by decide +kernel
theorem dX10_turnOf_5 : decode cX10_turnOf 5 = .ok (.iaload, 1) := by decide +kernel
theorem dX10_turnOf_6 : decode cX10_turnOf 6 = .ok (.iconst 4, 1) := by decide +kernel
theorem dX10_turnOf_7 : decode cX10_turnOf 7 = .ok (.if_icmp .lt 7, 3) := by decide +kernel
theorem dX10_turnOf_10 : decode cX10_turnOf 10 = .ok (.iconst 0, 1) := by decide +kernel
theorem dX10_turnOf_11 : decode cX10_turnOf 11 = .ok (.goto 22, 3) := by decide +kernel
theorem dX10_turnOf_14 : decode cX10_turnOf 14 = .ok (.aload_n 0, 1) := by decide +kernel
theorem dX10_turnOf_15 : decode cX10_turnOf 15 = .ok (.getfield 41, 3) := by decide +kernel
theorem dX10_turnOf_18 : decode cX10_turnOf 18 = .ok (.iload_n 1, 1) := by decide +kernel
theorem dX10_turnOf_19 : decode cX10_turnOf 19 = .ok (.iaload, 1) := by decide +kernel
theorem dX10_turnOf_20 : decode cX10_turnOf 20 = .ok (.ifCond .ne 7, 3) := by decide +kernel
theorem dX10_turnOf_23 : decode cX10_turnOf 23 = .ok (.iconst 4, 1) := by decide +kernel
theorem dX10_turnOf_24 : decode cX10_turnOf 24 = .ok (.goto 9, 3) := by decide +kernel
theorem dX10_turnOf_27 : decode cX10_turnOf 27 = .ok (.aload_n 0, 1) := by decide +kernel
theorem dX10_turnOf_28 : decode cX10_turnOf 28 = .ok (.getfield 41, 3) := by decide +kernel
theorem dX10_turnOf_31 : decode cX10_turnOf 31 = .ok (.iload_n 1, 1) := by decide +kernel
theorem dX10_turnOf_32 : decode cX10_turnOf 32 = .ok (.iaload, 1) := by decide +kernel
theorem dX10_turnOf_33 : decode cX10_turnOf 33 = .ok (.ireturn, 1) := by decide +kernel
theorem dX10_isSooner_0 : decode cX10_isSooner 0 = .ok (.aload_n 0, 1) := by decide +kernel
theorem dX10_isSooner_1 : decode cX10_isSooner 1 = .ok (.iload_n 1, 1) := by decide +kernel
theorem dX10_isSooner_2 : decode cX10_isSooner 2 = .ok (.invokevirtual 236, 3) := by decide +kernel
theorem dX10_isSooner_5 : decode cX10_isSooner 5 = .ok (.aload_n 0, 1) := by decide +kernel
theorem dX10_isSooner_6 : decode cX10_isSooner 6 = .ok (.iload_n 2, 1) := by decide +kernel
theorem dX10_isSooner_7 : decode cX10_isSooner 7 = .ok (.invokevirtual 236, 3) := by decide +kernel
theorem dX10_isSooner_10 : decode cX10_isSooner 10 = .ok (.if_icmp .lt 31, 3) := by decide +kernel
theorem dX10_isSooner_13 : decode cX10_isSooner 13 = .ok (.aload_n 0, 1) := by decide +kernel
theorem dX10_isSooner_14 : decode cX10_isSooner 14 = .ok (.iload_n 1, 1) := by decide +kernel
theorem dX10_isSooner_15 : decode cX10_isSooner 15 = .ok (.invokevirtual 236, 3) := by decide +kernel
theorem dX10_isSooner_18 : decode cX10_isSooner 18 = .ok (.aload_n 0, 1) := by decide +kernel
theorem dX10_isSooner_19 : decode cX10_isSooner 19 = .ok (.iload_n 2, 1) := by decide +kernel
theorem dX10_isSooner_20 : decode cX10_isSooner 20 = .ok (.invokevirtual 236, 3) := by decide +kernel
theorem dX10_isSooner_23 : decode cX10_isSooner 23 = .ok (.if_icmp .ne 22, 3) := by decide +kernel
theorem dX10_isSooner_26 : decode cX10_isSooner 26 = .ok (.aload_n 0, 1) := by decide +kernel
theorem dX10_isSooner_27 : decode cX10_isSooner 27 = .ok (.getfield 47, 3) := by decide +kernel
theorem dX10_isSooner_30 : decode cX10_isSooner 30 = .ok (.iload_n 1, 1) := by decide +kernel
theorem dX10_isSooner_31 : decode cX10_isSooner 31 = .ok (.iaload, 1) := by decide +kernel
theorem dX10_isSooner_32 : decode cX10_isSooner 32 = .ok (.aload_n 0, 1) := by decide +kernel
theorem dX10_isSooner_33 : decode cX10_isSooner 33 = .ok (.getfield 47, 3) := by decide +kernel
theorem dX10_isSooner_36 : decode cX10_isSooner 36 = .ok (.iload_n 2, 1) := by decide +kernel
theorem dX10_isSooner_37 : decode cX10_isSooner 37 = .ok (.iaload, 1) := by decide +kernel
theorem dX10_isSooner_38 : decode cX10_isSooner 38 = .ok (.if_icmp .ge 7, 3) := by decide +kernel
theorem dX10_isSooner_41 : decode cX10_isSooner 41 = .ok (.iconst 1, 1) := by decide +kernel
theorem dX10_isSooner_42 : decode cX10_isSooner 42 = .ok (.goto 4, 3) := by decide +kernel
theorem dX10_isSooner_45 : decode cX10_isSooner 45 = .ok (.iconst 0, 1) := by decide +kernel
theorem dX10_isSooner_46 : decode cX10_isSooner 46 = .ok (.ireturn, 1) := by decide +kernel
theorem dX10_write_0 : decode cX10_write 0 = .ok (.aload_n 0, 1) := by decide +kernel
theorem dX10_write_1 : decode cX10_write 1 = .ok (.getfield 239, 3) := by decide +kernel
theorem dX10_write_4 : decode cX10_write 4 = .ok (.sipush 200, 3) := by decide +kernel
theorem dX10_write_7 : decode cX10_write 7 = .ok (.if_icmp .ne 27, 3) := by decide +kernel
theorem dX10_write_10 : decode cX10_write 10 = .ok (.aload_n 0, 1) := by decide +kernel
theorem dX10_write_11 : decode cX10_write 11 = .ok (.aload_n 0, 1) := by decide +kernel
theorem dX10_write_12 : decode cX10_write 12 = .ok (.getfield 242, 3) := by decide +kernel
theorem dX10_write_15 : decode cX10_write 15 = .ok (.iconst 1, 1) := by decide +kernel
theorem dX10_write_16 : decode cX10_write 16 = .ok (.iadd, 1) := by decide +kernel
theorem dX10_write_17 : decode cX10_write 17 = .ok (.sipush 200, 3) := by decide +kernel
theorem dX10_write_20 : decode cX10_write 20 = .ok (.irem, 1) := by decide +kernel
theorem dX10_write_21 : decode cX10_write 21 = .ok (.putfield 242, 3) := by decide +kernel
theorem dX10_write_24 : decode cX10_write 24 = .ok (.aload_n 0, 1) := by decide +kernel
theorem dX10_write_25 : decode cX10_write 25 = .ok (.dup, 1) := by decide +kernel
theorem dX10_write_26 : decode cX10_write 26 = .ok (.getfield 239, 3) := by decide +kernel
theorem dX10_write_29 : decode cX10_write 29 = .ok (.iconst 1, 1) := by decide +kernel
theorem dX10_write_30 : decode cX10_write 30 = .ok (.isub, 1) := by decide +kernel
theorem dX10_write_31 : decode cX10_write 31 = .ok (.putfield 239, 3) := by decide +kernel
theorem dX10_write_34 : decode cX10_write 34 = .ok (.iconst 4, 1) := by decide +kernel
theorem dX10_write_35 : decode cX10_write 35 = .ok (.aload_n 0, 1) := by decide +kernel
theorem dX10_write_36 : decode cX10_write 36 = .ok (.getfield 242, 3) := by decide +kernel
theorem dX10_write_39 : decode cX10_write 39 = .ok (.aload_n 0, 1) := by decide +kernel
theorem dX10_write_40 : decode cX10_write 40 = .ok (.getfield 239, 3) := by decide +kernel
theorem dX10_write_43 : decode cX10_write 43 = .ok (.iadd, 1) := by decide +kernel
theorem dX10_write_44 : decode cX10_write 44 = .ok (.sipush 200, 3) := by decide +kernel
theorem dX10_write_47 : decode cX10_write 47 = .ok (.irem, 1) := by decide +kernel
theorem dX10_write_48 : decode cX10_write 48 = .ok (.imul, 1) := by decide +kernel
theorem dX10_write_49 : decode cX10_write 49 = .ok (.istore 4, 2) := by decide +kernel
theorem dX10_write_51 : decode cX10_write 51 = .ok (.aload_n 0, 1) := by decide +kernel
theorem dX10_write_52 : decode cX10_write 52 = .ok (.getfield 68, 3) := by decide +kernel
theorem dX10_write_55 : decode cX10_write 55 = .ok (.iload 4, 2) := by decide +kernel
theorem dX10_write_57 : decode cX10_write 57 = .ok (.aload_n 0, 1) := by decide +kernel
theorem dX10_write_58 : decode cX10_write 58 = .ok (.getfield 103, 3) := by decide +kernel
theorem dX10_write_61 : decode cX10_write 61 = .ok (.iastore, 1) := by decide +kernel
theorem dX10_write_62 : decode cX10_write 62 = .ok (.aload_n 0, 1) := by decide +kernel
theorem dX10_write_63 : decode cX10_write 63 = .ok (.getfield 68, 3) := by decide +kernel
theorem dX10_write_66 : decode cX10_write 66 = .ok (.iload 4, 2) := by decide +kernel
theorem dX10_write_68 : decode cX10_write 68 = .ok (.iconst 1, 1) := by decide +kernel
theorem dX10_write_69 : decode cX10_write 69 = .ok (.iadd, 1) := by decide +kernel
theorem dX10_write_70 : decode cX10_write 70 = .ok (.iload_n 1, 1) := by decide +kernel
theorem dX10_write_71 : decode cX10_write 71 = .ok (.iastore, 1) := by decide +kernel
theorem dX10_write_72 : decode cX10_write 72 = .ok (.aload_n 0, 1) := by decide +kernel
theorem dX10_write_73 : decode cX10_write 73 = .ok (.getfield 68, 3) := by decide +kernel
theorem dX10_write_76 : decode cX10_write 76 = .ok (.iload 4, 2) := by decide +kernel
theorem dX10_write_78 : decode cX10_write 78 = .ok (.iconst 2, 1) := by decide +kernel
theorem dX10_write_79 : decode cX10_write 79 = .ok (.iadd, 1) := by decide +kernel
theorem dX10_write_80 : decode cX10_write 80 = .ok (.iload_n 2, 1) := by decide +kernel
theorem dX10_write_81 : decode cX10_write 81 = .ok (.iastore, 1) := by decide +kernel
theorem dX10_write_82 : decode cX10_write 82 = .ok (.aload_n 0, 1) := by decide +kernel
theorem dX10_write_83 : decode cX10_write 83 = .ok (.getfield 68, 3) := by decide +kernel
theorem dX10_write_86 : decode cX10_write 86 = .ok (.iload 4, 2) := by decide +kernel
theorem dX10_write_88 : decode cX10_write 88 = .ok (.iconst 3, 1) := by decide +kernel
theorem dX10_write_89 : decode cX10_write 89 = .ok (.iadd, 1) := by decide +kernel
theorem dX10_write_90 : decode cX10_write 90 = .ok (.iload_n 3, 1) := by decide +kernel
theorem dX10_write_91 : decode cX10_write 91 = .ok (.iastore, 1) := by decide +kernel
theorem dX10_write_92 : decode cX10_write 92 = .ok (.aload_n 0, 1) := by decide +kernel
theorem dX10_write_93 : decode cX10_write 93 = .ok (.dup, 1) := by decide +kernel
theorem dX10_write_94 : decode cX10_write 94 = .ok (.getfield 239, 3) := by decide +kernel
theorem dX10_write_97 : decode cX10_write 97 = .ok (.iconst 1, 1) := by decide +kernel
theorem dX10_write_98 : decode cX10_write 98 = .ok (.iadd, 1) := by decide +kernel
theorem dX10_write_99 : decode cX10_write 99 = .ok (.putfield 239, 3) := by decide +kernel
theorem dX10_write_102 : decode cX10_write 102 = .ok (.return_, 1) := by decide +kernel
theorem dX10_taken_0 : decode cX10_taken 0 = .ok (.iload_n 2, 1) := by decide +kernel
theorem dX10_taken_1 : decode cX10_taken 1 = .ok (.istore_n 3, 1) := by decide +kernel
theorem dX10_taken_2 : decode cX10_taken 2 = .ok (.iload_n 3, 1) := by decide +kernel
theorem dX10_taken_3 : decode cX10_taken 3 = .ok (.ifCond .le 143, 3) := by decide +kernel
theorem dX10_taken_6 : decode cX10_taken 6 = .ok (.iconst (-1), 1) := by decide +kernel
theorem dX10_taken_7 : decode cX10_taken 7 = .ok (.istore 4, 2) := by decide +kernel
theorem dX10_taken_9 : decode cX10_taken 9 = .ok (.iconst 0, 1) := by decide +kernel
theorem dX10_taken_10 : decode cX10_taken 10 = .ok (.istore 5, 2) := by decide +kernel
theorem dX10_taken_12 : decode cX10_taken 12 = .ok (.iload 5, 2) := by decide +kernel
theorem dX10_taken_14 : decode cX10_taken 14 = .ok (.aload_n 0, 1) := by decide +kernel
theorem dX10_taken_15 : decode cX10_taken 15 = .ok (.getfield 92, 3) := by decide +kernel
theorem dX10_taken_18 : decode cX10_taken 18 = .ok (.if_icmp .ge 58, 3) := by decide +kernel
theorem dX10_taken_21 : decode cX10_taken 21 = .ok (.aload_n 0, 1) := by decide +kernel
theorem dX10_taken_22 : decode cX10_taken 22 = .ok (.iload 5, 2) := by decide +kernel
theorem dX10_taken_24 : decode cX10_taken 24 = .ok (.invokevirtual 223, 3) := by decide +kernel
theorem dX10_taken_27 : decode cX10_taken 27 = .ok (.ifCond .eq 43, 3) := by decide +kernel
theorem dX10_taken_30 : decode cX10_taken 30 = .ok (.aload_n 0, 1) := by decide +kernel
theorem dX10_taken_31 : decode cX10_taken 31 = .ok (.iload 5, 2) := by decide +kernel
theorem dX10_taken_33 : decode cX10_taken 33 = .ok (.iload_n 1, 1) := by decide +kernel
theorem dX10_taken_34 : decode cX10_taken 34 = .ok (.invokevirtual 226, 3) := by decide +kernel
theorem dX10_taken_37 : decode cX10_taken 37 = .ok (.ifCond .eq 33, 3) := by decide +kernel
theorem dX10_taken_40 : decode cX10_taken 40 = .ok (.aload_n 0, 1) := by decide +kernel
theorem dX10_taken_41 : decode cX10_taken 41 = .ok (.getfield 56, 3) := by decide +kernel
theorem dX10_taken_44 : decode cX10_taken 44 = .ok (.iload 5, 2) := by decide +kernel
theorem dX10_taken_46 : decode cX10_taken 46 = .ok (.iaload, 1) := by decide +kernel
theorem dX10_taken_47 : decode cX10_taken 47 = .ok (.ifCond .le 23, 3) := by decide +kernel
theorem dX10_taken_50 : decode cX10_taken 50 = .ok (.iload 4, 2) := by decide +kernel
theorem dX10_taken_52 : decode cX10_taken 52 = .ok (.ifCond .lt 14, 3) := by decide +kernel
theorem dX10_taken_55 : decode cX10_taken 55 = .ok (.aload_n 0, 1) := by decide +kernel
theorem dX10_taken_56 : decode cX10_taken 56 = .ok (.iload 5, 2) := by decide +kernel
theorem dX10_taken_58 : decode cX10_taken 58 = .ok (.iload 4, 2) := by decide +kernel
theorem dX10_taken_60 : decode cX10_taken 60 = .ok (.invokevirtual 245, 3) := by decide +kernel
theorem dX10_taken_63 : decode cX10_taken 63 = .ok (.ifCond .eq 7, 3) := by decide +kernel
theorem dX10_taken_66 : decode cX10_taken 66 = .ok (.iload 5, 2) := by decide +kernel
theorem dX10_taken_68 : decode cX10_taken 68 = .ok (.istore 4, 2) := by decide +kernel
theorem dX10_taken_70 : decode cX10_taken 70 = .ok (.iinc 5 1, 3) := by decide +kernel
theorem dX10_taken_73 : decode cX10_taken 73 = .ok (.goto (-61), 3) := by decide +kernel
theorem dX10_taken_76 : decode cX10_taken 76 = .ok (.aload_n 0, 1) := by decide +kernel
theorem dX10_taken_77 : decode cX10_taken 77 = .ok (.getfield 56, 3) := by decide +kernel
theorem dX10_taken_80 : decode cX10_taken 80 = .ok (.iload 4, 2) := by decide +kernel
theorem dX10_taken_82 : decode cX10_taken 82 = .ok (.iaload, 1) := by decide +kernel
theorem dX10_taken_83 : decode cX10_taken 83 = .ok (.iload_n 3, 1) := by decide +kernel
theorem dX10_taken_84 : decode cX10_taken 84 = .ok (.if_icmp .ge 13, 3) := by decide +kernel
theorem dX10_taken_87 : decode cX10_taken 87 = .ok (.aload_n 0, 1) := by decide +kernel
theorem dX10_taken_88 : decode cX10_taken 88 = .ok (.getfield 56, 3) := by decide +kernel
theorem dX10_taken_91 : decode cX10_taken 91 = .ok (.iload 4, 2) := by decide +kernel
theorem dX10_taken_93 : decode cX10_taken 93 = .ok (.iaload, 1) := by decide +kernel
theorem dX10_taken_94 : decode cX10_taken 94 = .ok (.goto 4, 3) := by decide +kernel
theorem dX10_taken_97 : decode cX10_taken 97 = .ok (.iload_n 3, 1) := by decide +kernel
theorem dX10_taken_98 : decode cX10_taken 98 = .ok (.istore 5, 2) := by decide +kernel
theorem dX10_taken_100 : decode cX10_taken 100 = .ok (.aload_n 0, 1) := by decide +kernel
theorem dX10_taken_101 : decode cX10_taken 101 = .ok (.getfield 56, 3) := by decide +kernel
theorem dX10_taken_104 : decode cX10_taken 104 = .ok (.iload 4, 2) := by decide +kernel
theorem dX10_taken_106 : decode cX10_taken 106 = .ok (.dup2, 1) := by decide +kernel
theorem dX10_taken_107 : decode cX10_taken 107 = .ok (.iaload, 1) := by decide +kernel
theorem dX10_taken_108 : decode cX10_taken 108 = .ok (.iload 5, 2) := by decide +kernel
theorem dX10_taken_110 : decode cX10_taken 110 = .ok (.isub, 1) := by decide +kernel
theorem dX10_taken_111 : decode cX10_taken 111 = .ok (.iastore, 1) := by decide +kernel
theorem dX10_taken_112 : decode cX10_taken 112 = .ok (.aload_n 0, 1) := by decide +kernel
theorem dX10_taken_113 : decode cX10_taken 113 = .ok (.getfield 65, 3) := by decide +kernel
theorem dX10_taken_116 : decode cX10_taken 116 = .ok (.bipush 12, 2) := by decide +kernel
theorem dX10_taken_118 : decode cX10_taken 118 = .ok (.iload 4, 2) := by decide +kernel
theorem dX10_taken_120 : decode cX10_taken 120 = .ok (.imul, 1) := by decide +kernel
theorem dX10_taken_121 : decode cX10_taken 121 = .ok (.iload_n 1, 1) := by decide +kernel
theorem dX10_taken_122 : decode cX10_taken 122 = .ok (.iadd, 1) := by decide +kernel
theorem dX10_taken_123 : decode cX10_taken 123 = .ok (.dup2, 1) := by decide +kernel
theorem dX10_taken_124 : decode cX10_taken 124 = .ok (.iaload, 1) := by decide +kernel
theorem dX10_taken_125 : decode cX10_taken 125 = .ok (.iload 5, 2) := by decide +kernel
theorem dX10_taken_127 : decode cX10_taken 127 = .ok (.iadd, 1) := by decide +kernel
theorem dX10_taken_128 : decode cX10_taken 128 = .ok (.iastore, 1) := by decide +kernel
theorem dX10_taken_129 : decode cX10_taken 129 = .ok (.aload_n 0, 1) := by decide +kernel
theorem dX10_taken_130 : decode cX10_taken 130 = .ok (.iload 4, 2) := by decide +kernel
theorem dX10_taken_132 : decode cX10_taken 132 = .ok (.iload_n 1, 1) := by decide +kernel
theorem dX10_taken_133 : decode cX10_taken 133 = .ok (.iload 5, 2) := by decide +kernel
theorem dX10_taken_135 : decode cX10_taken 135 = .ok (.invokevirtual 248, 3) := by decide +kernel
theorem dX10_taken_138 : decode cX10_taken 138 = .ok (.iload_n 3, 1) := by decide +kernel
theorem dX10_taken_139 : decode cX10_taken 139 = .ok (.iload 5, 2) := by decide +kernel
theorem dX10_taken_141 : decode cX10_taken 141 = .ok (.isub, 1) := by decide +kernel
theorem dX10_taken_142 : decode cX10_taken 142 = .ok (.istore_n 3, 1) := by decide +kernel
theorem dX10_taken_143 : decode cX10_taken 143 = .ok (.goto (-141), 3) := by decide +kernel
theorem dX10_taken_146 : decode cX10_taken 146 = .ok (.aload_n 0, 1) := by decide +kernel
theorem dX10_taken_147 : decode cX10_taken 147 = .ok (.iload_n 1, 1) := by decide +kernel
theorem dX10_taken_148 : decode cX10_taken 148 = .ok (.iconst 2, 1) := by decide +kernel
theorem dX10_taken_149 : decode cX10_taken 149 = .ok (.if_icmp .ge 9, 3) := by decide +kernel
theorem dX10_taken_152 : decode cX10_taken 152 = .ok (.iconst 3, 1) := by decide +kernel
theorem dX10_taken_153 : decode cX10_taken 153 = .ok (.iload_n 1, 1) := by decide +kernel
theorem dX10_taken_154 : decode cX10_taken 154 = .ok (.iadd, 1) := by decide +kernel
theorem dX10_taken_155 : decode cX10_taken 155 = .ok (.goto 4, 3) := by decide +kernel
theorem dX10_taken_158 : decode cX10_taken 158 = .ok (.iconst 5, 1) := by decide +kernel
theorem dX10_taken_159 : decode cX10_taken 159 = .ok (.iload_n 2, 1) := by decide +kernel
theorem dX10_taken_160 : decode cX10_taken 160 = .ok (.invokevirtual 209, 3) := by decide +kernel
theorem dX10_taken_163 : decode cX10_taken 163 = .ok (.return_, 1) := by decide +kernel
theorem dX10_rule_0 : decode cX10_rule 0 = .ok (.iload_n 1, 1) := by decide +kernel
theorem dX10_rule_1 : decode cX10_rule 1 = .ok (.iconst 0, 1) := by decide +kernel
theorem dX10_rule_2 : decode cX10_rule 2 = .ok (.iconst 5, 1) := by decide +kernel
theorem dX10_rule_3 : decode cX10_rule 3 = .ok (.invokestatic 99, 3) := by decide +kernel
theorem dX10_rule_6 : decode cX10_rule 6 = .ok (.ifCond .eq 34, 3) := by decide +kernel
theorem dX10_rule_9 : decode cX10_rule 9 = .ok (.iload_n 2, 1) := by decide +kernel
theorem dX10_rule_10 : decode cX10_rule 10 = .ok (.iconst 0, 1) := by decide +kernel
theorem dX10_rule_11 : decode cX10_rule 11 = .ok (.iload_n 1, 1) := by decide +kernel
theorem dX10_rule_12 : decode cX10_rule 12 = .ok (.iconst 4, 1) := by decide +kernel
theorem dX10_rule_13 : decode cX10_rule 13 = .ok (.if_icmp .ne 8, 3) := by decide +kernel
theorem dX10_rule_16 : decode cX10_rule 16 = .ok (.bipush 10, 2) := by decide +kernel
theorem dX10_rule_18 : decode cX10_rule 18 = .ok (.goto 16, 3) := by decide +kernel
theorem dX10_rule_21 : decode cX10_rule 21 = .ok (.iload_n 1, 1) := by decide +kernel
theorem dX10_rule_22 : decode cX10_rule 22 = .ok (.iconst 5, 1) := by decide +kernel
theorem dX10_rule_23 : decode cX10_rule 23 = .ok (.if_icmp .ne 9, 3) := by decide +kernel
theorem dX10_rule_26 : decode cX10_rule 26 = .ok (.sipush 1000, 3) := by decide +kernel
theorem dX10_rule_29 : decode cX10_rule 29 = .ok (.goto 5, 3) := by decide +kernel
theorem dX10_rule_32 : decode cX10_rule 32 = .ok (.bipush 100, 2) := by decide +kernel
theorem dX10_rule_34 : decode cX10_rule 34 = .ok (.invokestatic 99, 3) := by decide +kernel
theorem dX10_rule_37 : decode cX10_rule 37 = .ok (.ifCond .ne 6, 3) := by decide +kernel
theorem dX10_rule_40 : decode cX10_rule 40 = .ok (.ldc 106, 2) := by decide +kernel
theorem dX10_rule_42 : decode cX10_rule 42 = .ok (.ireturn, 1) := by decide +kernel
theorem dX10_rule_43 : decode cX10_rule 43 = .ok (.aload_n 0, 1) := by decide +kernel
theorem dX10_rule_44 : decode cX10_rule 44 = .ok (.getfield 22, 3) := by decide +kernel
theorem dX10_rule_47 : decode cX10_rule 47 = .ok (.iload_n 1, 1) := by decide +kernel
theorem dX10_rule_48 : decode cX10_rule 48 = .ok (.iaload, 1) := by decide +kernel
theorem dX10_rule_49 : decode cX10_rule 49 = .ok (.istore_n 3, 1) := by decide +kernel
theorem dX10_rule_50 : decode cX10_rule 50 = .ok (.aload_n 0, 1) := by decide +kernel
theorem dX10_rule_51 : decode cX10_rule 51 = .ok (.getfield 22, 3) := by decide +kernel
theorem dX10_rule_54 : decode cX10_rule 54 = .ok (.iload_n 1, 1) := by decide +kernel
theorem dX10_rule_55 : decode cX10_rule 55 = .ok (.iload_n 2, 1) := by decide +kernel
theorem dX10_rule_56 : decode cX10_rule 56 = .ok (.iastore, 1) := by decide +kernel
theorem dX10_rule_57 : decode cX10_rule 57 = .ok (.iload_n 3, 1) := by decide +kernel
theorem dX10_rule_58 : decode cX10_rule 58 = .ok (.ireturn, 1) := by decide +kernel
theorem dX10_spend_0 : decode cX10_spend 0 = .ok (.iload_n 1, 1) := by decide +kernel
theorem dX10_spend_1 : decode cX10_spend 1 = .ok (.iconst 0, 1) := by decide +kernel
theorem dX10_spend_2 : decode cX10_spend 2 = .ok (.iconst 1, 1) := by decide +kernel
theorem dX10_spend_3 : decode cX10_spend 3 = .ok (.invokestatic 99, 3) := by decide +kernel
theorem dX10_spend_6 : decode cX10_spend 6 = .ok (.ifCond .eq 13, 3) := by decide +kernel
theorem dX10_spend_9 : decode cX10_spend 9 = .ok (.iload_n 2, 1) := by decide +kernel
theorem dX10_spend_10 : decode cX10_spend 10 = .ok (.iconst 1, 1) := by decide +kernel
theorem dX10_spend_11 : decode cX10_spend 11 = .ok (.ldc 158, 2) := by decide +kernel
theorem dX10_spend_13 : decode cX10_spend 13 = .ok (.invokestatic 99, 3) := by decide +kernel
theorem dX10_spend_16 : decode cX10_spend 16 = .ok (.ifCond .ne 6, 3) := by decide +kernel
theorem dX10_spend_19 : decode cX10_spend 19 = .ok (.ldc 106, 2) := by decide +kernel
theorem dX10_spend_21 : decode cX10_spend 21 = .ok (.ireturn, 1) := by decide +kernel
theorem dX10_spend_22 : decode cX10_spend 22 = .ok (.aload_n 0, 1) := by decide +kernel
theorem dX10_spend_23 : decode cX10_spend 23 = .ok (.iload_n 1, 1) := by decide +kernel
theorem dX10_spend_24 : decode cX10_spend 24 = .ok (.invokevirtual 233, 3) := by decide +kernel
theorem dX10_spend_27 : decode cX10_spend 27 = .ok (.iload_n 2, 1) := by decide +kernel
theorem dX10_spend_28 : decode cX10_spend 28 = .ok (.if_icmp .ge 6, 3) := by decide +kernel
theorem dX10_spend_31 : decode cX10_spend 31 = .ok (.ldc 112, 2) := by decide +kernel
theorem dX10_spend_33 : decode cX10_spend 33 = .ok (.ireturn, 1) := by decide +kernel
theorem dX10_spend_34 : decode cX10_spend 34 = .ok (.aload_n 0, 1) := by decide +kernel
theorem dX10_spend_35 : decode cX10_spend 35 = .ok (.iload_n 1, 1) := by decide +kernel
theorem dX10_spend_36 : decode cX10_spend 36 = .ok (.iload_n 2, 1) := by decide +kernel
theorem dX10_spend_37 : decode cX10_spend 37 = .ok (.invokevirtual 251, 3) := by decide +kernel
theorem dX10_spend_40 : decode cX10_spend 40 = .ok (.iload_n 2, 1) := by decide +kernel
theorem dX10_spend_41 : decode cX10_spend 41 = .ok (.ireturn, 1) := by decide +kernel
theorem dX10_gain_0 : decode cX10_gain 0 = .ok (.aload_n 0, 1) := by decide +kernel
theorem dX10_gain_1 : decode cX10_gain 1 = .ok (.getfield 7, 3) := by decide +kernel
theorem dX10_gain_4 : decode cX10_gain 4 = .ok (.iload_n 1, 1) := by decide +kernel
theorem dX10_gain_5 : decode cX10_gain 5 = .ok (.iaload, 1) := by decide +kernel
theorem dX10_gain_6 : decode cX10_gain 6 = .ok (.iconst 1, 1) := by decide +kernel
theorem dX10_gain_7 : decode cX10_gain 7 = .ok (.if_icmp .ne 7, 3) := by decide +kernel
theorem dX10_gain_10 : decode cX10_gain 10 = .ok (.iconst 4, 1) := by decide +kernel
theorem dX10_gain_11 : decode cX10_gain 11 = .ok (.goto 20, 3) := by decide +kernel
theorem dX10_gain_14 : decode cX10_gain 14 = .ok (.aload_n 0, 1) := by decide +kernel
theorem dX10_gain_15 : decode cX10_gain 15 = .ok (.getfield 7, 3) := by decide +kernel
theorem dX10_gain_18 : decode cX10_gain 18 = .ok (.iload_n 1, 1) := by decide +kernel
theorem dX10_gain_19 : decode cX10_gain 19 = .ok (.iaload, 1) := by decide +kernel
theorem dX10_gain_20 : decode cX10_gain 20 = .ok (.iconst 2, 1) := by decide +kernel
theorem dX10_gain_21 : decode cX10_gain 21 = .ok (.if_icmp .lt 8, 3) := by decide +kernel
theorem dX10_gain_24 : decode cX10_gain 24 = .ok (.bipush 9, 2) := by decide +kernel
theorem dX10_gain_26 : decode cX10_gain 26 = .ok (.goto 5, 3) := by decide +kernel
theorem dX10_gain_29 : decode cX10_gain 29 = .ok (.bipush 6, 2) := by decide +kernel
theorem dX10_gain_31 : decode cX10_gain 31 = .ok (.ireturn, 1) := by decide +kernel
theorem dX10_worked_0 : decode cX10_worked 0 = .ok (.iload_n 2, 1) := by decide +kernel
theorem dX10_worked_1 : decode cX10_worked 1 = .ok (.aload_n 0, 1) := by decide +kernel
theorem dX10_worked_2 : decode cX10_worked 2 = .ok (.getfield 13, 3) := by decide +kernel
theorem dX10_worked_5 : decode cX10_worked 5 = .ok (.iload_n 1, 1) := by decide +kernel
theorem dX10_worked_6 : decode cX10_worked 6 = .ok (.iaload, 1) := by decide +kernel
theorem dX10_worked_7 : decode cX10_worked 7 = .ok (.isub, 1) := by decide +kernel
theorem dX10_worked_8 : decode cX10_worked 8 = .ok (.aload_n 0, 1) := by decide +kernel
theorem dX10_worked_9 : decode cX10_worked 9 = .ok (.iload_n 1, 1) := by decide +kernel
theorem dX10_worked_10 : decode cX10_worked 10 = .ok (.invokevirtual 254, 3) := by decide +kernel
theorem dX10_worked_13 : decode cX10_worked 13 = .ok (.iadd, 1) := by decide +kernel
theorem dX10_worked_14 : decode cX10_worked 14 = .ok (.iconst 1, 1) := by decide +kernel
theorem dX10_worked_15 : decode cX10_worked 15 = .ok (.isub, 1) := by decide +kernel
theorem dX10_worked_16 : decode cX10_worked 16 = .ok (.aload_n 0, 1) := by decide +kernel
theorem dX10_worked_17 : decode cX10_worked 17 = .ok (.iload_n 1, 1) := by decide +kernel
theorem dX10_worked_18 : decode cX10_worked 18 = .ok (.invokevirtual 254, 3) := by decide +kernel
theorem dX10_worked_21 : decode cX10_worked 21 = .ok (.idiv, 1) := by decide +kernel
theorem dX10_worked_22 : decode cX10_worked 22 = .ok (.istore 4, 2) := by decide +kernel
theorem dX10_worked_24 : decode cX10_worked 24 = .ok (.aload_n 0, 1) := by decide +kernel
theorem dX10_worked_25 : decode cX10_worked 25 = .ok (.iconst 2, 1) := by decide +kernel
theorem dX10_worked_26 : decode cX10_worked 26 = .ok (.iload_n 1, 1) := by decide +kernel
theorem dX10_worked_27 : decode cX10_worked 27 = .ok (.iadd, 1) := by decide +kernel
theorem dX10_worked_28 : decode cX10_worked 28 = .ok (.invokevirtual 233, 3) := by decide +kernel
theorem dX10_worked_31 : decode cX10_worked 31 = .ok (.istore 5, 2) := by decide +kernel
theorem dX10_worked_33 : decode cX10_worked 33 = .ok (.iload 4, 2) := by decide +kernel
theorem dX10_worked_35 : decode cX10_worked 35 = .ok (.iload_n 3, 1) := by decide +kernel
theorem dX10_worked_36 : decode cX10_worked 36 = .ok (.if_icmp .le 7, 3) := by decide +kernel
theorem dX10_worked_39 : decode cX10_worked 39 = .ok (.iload_n 3, 1) := by decide +kernel
theorem dX10_worked_40 : decode cX10_worked 40 = .ok (.goto 5, 3) := by decide +kernel
theorem dX10_worked_43 : decode cX10_worked 43 = .ok (.iload 4, 2) := by decide +kernel
theorem dX10_worked_45 : decode cX10_worked 45 = .ok (.istore 4, 2) := by decide +kernel
theorem dX10_worked_47 : decode cX10_worked 47 = .ok (.iload 4, 2) := by decide +kernel
theorem dX10_worked_49 : decode cX10_worked 49 = .ok (.iload 5, 2) := by decide +kernel
theorem dX10_worked_51 : decode cX10_worked 51 = .ok (.if_icmp .le 8, 3) := by decide +kernel
theorem dX10_worked_54 : decode cX10_worked 54 = .ok (.iload 5, 2) := by decide +kernel
theorem dX10_worked_56 : decode cX10_worked 56 = .ok (.goto 5, 3) := by decide +kernel
theorem dX10_worked_59 : decode cX10_worked 59 = .ok (.iload 4, 2) := by decide +kernel
theorem dX10_worked_61 : decode cX10_worked 61 = .ok (.istore 4, 2) := by decide +kernel
theorem dX10_worked_63 : decode cX10_worked 63 = .ok (.aload_n 0, 1) := by decide +kernel
theorem dX10_worked_64 : decode cX10_worked 64 = .ok (.iconst 2, 1) := by decide +kernel
theorem dX10_worked_65 : decode cX10_worked 65 = .ok (.iload_n 1, 1) := by decide +kernel
theorem dX10_worked_66 : decode cX10_worked 66 = .ok (.iadd, 1) := by decide +kernel
theorem dX10_worked_67 : decode cX10_worked 67 = .ok (.iload 4, 2) := by decide +kernel
theorem dX10_worked_69 : decode cX10_worked 69 = .ok (.invokevirtual 251, 3) := by decide +kernel
theorem dX10_worked_72 : decode cX10_worked 72 = .ok (.aload_n 0, 1) := by decide +kernel
theorem dX10_worked_73 : decode cX10_worked 73 = .ok (.getfield 13, 3) := by decide +kernel
theorem dX10_worked_76 : decode cX10_worked 76 = .ok (.iload_n 1, 1) := by decide +kernel
theorem dX10_worked_77 : decode cX10_worked 77 = .ok (.dup2, 1) := by decide +kernel
theorem dX10_worked_78 : decode cX10_worked 78 = .ok (.iaload, 1) := by decide +kernel
theorem dX10_worked_79 : decode cX10_worked 79 = .ok (.iload 4, 2) := by decide +kernel
theorem dX10_worked_81 : decode cX10_worked 81 = .ok (.aload_n 0, 1) := by decide +kernel
theorem dX10_worked_82 : decode cX10_worked 82 = .ok (.iload_n 1, 1) := by decide +kernel
theorem dX10_worked_83 : decode cX10_worked 83 = .ok (.invokevirtual 254, 3) := by decide +kernel
theorem dX10_worked_86 : decode cX10_worked 86 = .ok (.imul, 1) := by decide +kernel
theorem dX10_worked_87 : decode cX10_worked 87 = .ok (.iadd, 1) := by decide +kernel
theorem dX10_worked_88 : decode cX10_worked 88 = .ok (.iastore, 1) := by decide +kernel
theorem dX10_worked_89 : decode cX10_worked 89 = .ok (.aload_n 0, 1) := by decide +kernel
theorem dX10_worked_90 : decode cX10_worked 90 = .ok (.getfield 13, 3) := by decide +kernel
theorem dX10_worked_93 : decode cX10_worked 93 = .ok (.iload_n 1, 1) := by decide +kernel
theorem dX10_worked_94 : decode cX10_worked 94 = .ok (.aload_n 0, 1) := by decide +kernel
theorem dX10_worked_95 : decode cX10_worked 95 = .ok (.getfield 13, 3) := by decide +kernel
theorem dX10_worked_98 : decode cX10_worked 98 = .ok (.iload_n 1, 1) := by decide +kernel
theorem dX10_worked_99 : decode cX10_worked 99 = .ok (.iaload, 1) := by decide +kernel
theorem dX10_worked_100 : decode cX10_worked 100 = .ok (.sipush 1000, 3) := by decide +kernel
theorem dX10_worked_103 : decode cX10_worked 103 = .ok (.if_icmp .le 9, 3) := by decide +kernel
theorem dX10_worked_106 : decode cX10_worked 106 = .ok (.sipush 1000, 3) := by decide +kernel
theorem dX10_worked_109 : decode cX10_worked 109 = .ok (.goto 9, 3) := by decide +kernel
theorem dX10_worked_112 : decode cX10_worked 112 = .ok (.aload_n 0, 1) := by decide +kernel
theorem dX10_worked_113 : decode cX10_worked 113 = .ok (.getfield 13, 3) := by decide +kernel
theorem dX10_worked_116 : decode cX10_worked 116 = .ok (.iload_n 1, 1) := by decide +kernel
theorem dX10_worked_117 : decode cX10_worked 117 = .ok (.iaload, 1) := by decide +kernel
theorem dX10_worked_118 : decode cX10_worked 118 = .ok (.iastore, 1) := by decide +kernel
theorem dX10_worked_119 : decode cX10_worked 119 = .ok (.iload 4, 2) := by decide +kernel
theorem dX10_worked_121 : decode cX10_worked 121 = .ok (.ireturn, 1) := by decide +kernel
theorem dX10_work_0 : decode cX10_work 0 = .ok (.aload_n 0, 1) := by decide +kernel
theorem dX10_work_1 : decode cX10_work 1 = .ok (.iload_n 1, 1) := by decide +kernel
theorem dX10_work_2 : decode cX10_work 2 = .ok (.invokevirtual 108, 3) := by decide +kernel
theorem dX10_work_5 : decode cX10_work 5 = .ok (.ifCond .eq 13, 3) := by decide +kernel
theorem dX10_work_8 : decode cX10_work 8 = .ok (.iload_n 2, 1) := by decide +kernel
theorem dX10_work_9 : decode cX10_work 9 = .ok (.iconst 1, 1) := by decide +kernel
theorem dX10_work_10 : decode cX10_work 10 = .ok (.ldc 158, 2) := by decide +kernel
theorem dX10_work_12 : decode cX10_work 12 = .ok (.invokestatic 99, 3) := by decide +kernel
theorem dX10_work_15 : decode cX10_work 15 = .ok (.ifCond .ne 6, 3) := by decide +kernel
theorem dX10_work_18 : decode cX10_work 18 = .ok (.ldc 106, 2) := by decide +kernel
theorem dX10_work_20 : decode cX10_work 20 = .ok (.ireturn, 1) := by decide +kernel
theorem dX10_work_21 : decode cX10_work 21 = .ok (.aload_n 0, 1) := by decide +kernel
theorem dX10_work_22 : decode cX10_work 22 = .ok (.getfield 13, 3) := by decide +kernel
theorem dX10_work_25 : decode cX10_work 25 = .ok (.iload_n 1, 1) := by decide +kernel
theorem dX10_work_26 : decode cX10_work 26 = .ok (.iaload, 1) := by decide +kernel
theorem dX10_work_27 : decode cX10_work 27 = .ok (.sipush 1000, 3) := by decide +kernel
theorem dX10_work_30 : decode cX10_work 30 = .ok (.if_icmp .eq 13, 3) := by decide +kernel
theorem dX10_work_33 : decode cX10_work 33 = .ok (.aload_n 0, 1) := by decide +kernel
theorem dX10_work_34 : decode cX10_work 34 = .ok (.iconst 2, 1) := by decide +kernel
theorem dX10_work_35 : decode cX10_work 35 = .ok (.iload_n 1, 1) := by decide +kernel
theorem dX10_work_36 : decode cX10_work 36 = .ok (.iadd, 1) := by decide +kernel
theorem dX10_work_37 : decode cX10_work 37 = .ok (.invokevirtual 233, 3) := by decide +kernel
theorem dX10_work_40 : decode cX10_work 40 = .ok (.ifCond .ne 6, 3) := by decide +kernel
theorem dX10_work_43 : decode cX10_work 43 = .ok (.ldc 112, 2) := by decide +kernel
theorem dX10_work_45 : decode cX10_work 45 = .ok (.ireturn, 1) := by decide +kernel
theorem dX10_work_46 : decode cX10_work 46 = .ok (.aload_n 0, 1) := by decide +kernel
theorem dX10_work_47 : decode cX10_work 47 = .ok (.iload_n 1, 1) := by decide +kernel
theorem dX10_work_48 : decode cX10_work 48 = .ok (.sipush 1000, 3) := by decide +kernel
theorem dX10_work_51 : decode cX10_work 51 = .ok (.iload_n 2, 1) := by decide +kernel
theorem dX10_work_52 : decode cX10_work 52 = .ok (.invokevirtual 257, 3) := by decide +kernel
theorem dX10_work_55 : decode cX10_work 55 = .ok (.ireturn, 1) := by decide +kernel
theorem dX10_keep_0 : decode cX10_keep 0 = .ok (.iconst 0, 1) := by decide +kernel
theorem dX10_keep_1 : decode cX10_keep 1 = .ok (.istore_n 1, 1) := by decide +kernel
theorem dX10_keep_2 : decode cX10_keep 2 = .ok (.iload_n 1, 1) := by decide +kernel
theorem dX10_keep_3 : decode cX10_keep 3 = .ok (.aload_n 0, 1) := by decide +kernel
theorem dX10_keep_4 : decode cX10_keep 4 = .ok (.getfield 96, 3) := by decide +kernel
theorem dX10_keep_7 : decode cX10_keep 7 = .ok (.if_icmp .ge 16, 3) := by decide +kernel
theorem dX10_keep_10 : decode cX10_keep 10 = .ok (.aload_n 0, 1) := by decide +kernel
theorem dX10_keep_11 : decode cX10_keep 11 = .ok (.getfield 89, 3) := by decide +kernel
theorem dX10_keep_14 : decode cX10_keep 14 = .ok (.iload_n 1, 1) := by decide +kernel
theorem dX10_keep_15 : decode cX10_keep 15 = .ok (.iconst 0, 1) := by decide +kernel
theorem dX10_keep_16 : decode cX10_keep 16 = .ok (.bastore, 1) := by decide +kernel
theorem dX10_keep_17 : decode cX10_keep 17 = .ok (.iinc 1 1, 3) := by decide +kernel
theorem dX10_keep_20 : decode cX10_keep 20 = .ok (.goto (-18), 3) := by decide +kernel
theorem dX10_keep_23 : decode cX10_keep 23 = .ok (.iconst 0, 1) := by decide +kernel
theorem dX10_keep_24 : decode cX10_keep 24 = .ok (.istore_n 1, 1) := by decide +kernel
theorem dX10_keep_25 : decode cX10_keep 25 = .ok (.iload_n 1, 1) := by decide +kernel
theorem dX10_keep_26 : decode cX10_keep 26 = .ok (.aload_n 0, 1) := by decide +kernel
theorem dX10_keep_27 : decode cX10_keep 27 = .ok (.getfield 22, 3) := by decide +kernel
theorem dX10_keep_30 : decode cX10_keep 30 = .ok (.iconst 4, 1) := by decide +kernel
theorem dX10_keep_31 : decode cX10_keep 31 = .ok (.iaload, 1) := by decide +kernel
theorem dX10_keep_32 : decode cX10_keep 32 = .ok (.if_icmp .ge 124, 3) := by decide +kernel
theorem dX10_keep_35 : decode cX10_keep 35 = .ok (.iconst (-1), 1) := by decide +kernel
theorem dX10_keep_36 : decode cX10_keep 36 = .ok (.istore_n 2, 1) := by decide +kernel
theorem dX10_keep_37 : decode cX10_keep 37 = .ok (.iconst 0, 1) := by decide +kernel
theorem dX10_keep_38 : decode cX10_keep 38 = .ok (.istore_n 3, 1) := by decide +kernel
theorem dX10_keep_39 : decode cX10_keep 39 = .ok (.iload_n 3, 1) := by decide +kernel
theorem dX10_keep_40 : decode cX10_keep 40 = .ok (.aload_n 0, 1) := by decide +kernel
theorem dX10_keep_41 : decode cX10_keep 41 = .ok (.getfield 96, 3) := by decide +kernel
theorem dX10_keep_44 : decode cX10_keep 44 = .ok (.if_icmp .ge 79, 3) := by decide +kernel
theorem dX10_keep_47 : decode cX10_keep 47 = .ok (.aload_n 0, 1) := by decide +kernel
theorem dX10_keep_48 : decode cX10_keep 48 = .ok (.getfield 13, 3) := by decide +kernel
theorem dX10_keep_51 : decode cX10_keep 51 = .ok (.iload_n 3, 1) := by decide +kernel
theorem dX10_keep_52 : decode cX10_keep 52 = .ok (.iaload, 1) := by decide +kernel
theorem dX10_keep_53 : decode cX10_keep 53 = .ok (.ifCond .le 31, 3) := by decide +kernel
theorem dX10_keep_56 : decode cX10_keep 56 = .ok (.aload_n 0, 1) := by decide +kernel
theorem dX10_keep_57 : decode cX10_keep 57 = .ok (.getfield 13, 3) := by decide +kernel
theorem dX10_keep_60 : decode cX10_keep 60 = .ok (.iload_n 3, 1) := by decide +kernel
theorem dX10_keep_61 : decode cX10_keep 61 = .ok (.iaload, 1) := by decide +kernel
theorem dX10_keep_62 : decode cX10_keep 62 = .ok (.aload_n 0, 1) := by decide +kernel
theorem dX10_keep_63 : decode cX10_keep 63 = .ok (.getfield 22, 3) := by decide +kernel
theorem dX10_keep_66 : decode cX10_keep 66 = .ok (.iconst 5, 1) := by decide +kernel
theorem dX10_keep_67 : decode cX10_keep 67 = .ok (.iaload, 1) := by decide +kernel
theorem dX10_keep_68 : decode cX10_keep 68 = .ok (.if_icmp .ge 16, 3) := by decide +kernel
theorem dX10_keep_71 : decode cX10_keep 71 = .ok (.aload_n 0, 1) := by decide +kernel
theorem dX10_keep_72 : decode cX10_keep 72 = .ok (.getfield 89, 3) := by decide +kernel
theorem dX10_keep_75 : decode cX10_keep 75 = .ok (.iload_n 3, 1) := by decide +kernel
theorem dX10_keep_76 : decode cX10_keep 76 = .ok (.baload, 1) := by decide +kernel
theorem dX10_keep_77 : decode cX10_keep 77 = .ok (.ifCond .ne 7, 3) := by decide +kernel
theorem dX10_keep_80 : decode cX10_keep 80 = .ok (.iconst 1, 1) := by decide +kernel
theorem dX10_keep_81 : decode cX10_keep 81 = .ok (.goto 4, 3) := by decide +kernel
theorem dX10_keep_84 : decode cX10_keep 84 = .ok (.iconst 0, 1) := by decide +kernel
theorem dX10_keep_85 : decode cX10_keep 85 = .ok (.istore 4, 2) := by decide +kernel
theorem dX10_keep_87 : decode cX10_keep 87 = .ok (.iload 4, 2) := by decide +kernel
theorem dX10_keep_89 : decode cX10_keep 89 = .ok (.ifCond .eq 26, 3) := by decide +kernel
theorem dX10_keep_92 : decode cX10_keep 92 = .ok (.iload_n 2, 1) := by decide +kernel
theorem dX10_keep_93 : decode cX10_keep 93 = .ok (.ifCond .lt 18, 3) := by decide +kernel
theorem dX10_keep_96 : decode cX10_keep 96 = .ok (.aload_n 0, 1) := by decide +kernel
theorem dX10_keep_97 : decode cX10_keep 97 = .ok (.getfield 13, 3) := by decide +kernel
theorem dX10_keep_100 : decode cX10_keep 100 = .ok (.iload_n 3, 1) := by decide +kernel
theorem dX10_keep_101 : decode cX10_keep 101 = .ok (.iaload, 1) := by decide +kernel
theorem dX10_keep_102 : decode cX10_keep 102 = .ok (.aload_n 0, 1) := by decide +kernel
theorem dX10_keep_103 : decode cX10_keep 103 = .ok (.getfield 13, 3) := by decide +kernel
theorem dX10_keep_106 : decode cX10_keep 106 = .ok (.iload_n 2, 1) := by decide +kernel
theorem dX10_keep_107 : decode cX10_keep 107 = .ok (.iaload, 1) := by decide +kernel
theorem dX10_keep_108 : decode cX10_keep 108 = .ok (.if_icmp .ge 7, 3) := by decide +kernel
theorem dX10_keep_111 : decode cX10_keep 111 = .ok (.iload_n 3, 1) := by decide +kernel
theorem dX10_keep_112 : decode cX10_keep 112 = .ok (.goto 4, 3) := by decide +kernel
theorem dX10_keep_115 : decode cX10_keep 115 = .ok (.iload_n 2, 1) := by decide +kernel
theorem dX10_keep_116 : decode cX10_keep 116 = .ok (.istore_n 2, 1) := by decide +kernel
theorem dX10_keep_117 : decode cX10_keep 117 = .ok (.iinc 3 1, 3) := by decide +kernel
theorem dX10_keep_120 : decode cX10_keep 120 = .ok (.goto (-81), 3) := by decide +kernel
theorem dX10_keep_123 : decode cX10_keep 123 = .ok (.iload_n 2, 1) := by decide +kernel
theorem dX10_keep_124 : decode cX10_keep 124 = .ok (.ifCond .ge 4, 3) := by decide +kernel
theorem dX10_keep_127 : decode cX10_keep 127 = .ok (.return_, 1) := by decide +kernel
theorem dX10_keep_128 : decode cX10_keep 128 = .ok (.aload_n 0, 1) := by decide +kernel
theorem dX10_keep_129 : decode cX10_keep 129 = .ok (.getfield 89, 3) := by decide +kernel
theorem dX10_keep_132 : decode cX10_keep 132 = .ok (.iload_n 2, 1) := by decide +kernel
theorem dX10_keep_133 : decode cX10_keep 133 = .ok (.iconst 1, 1) := by decide +kernel
theorem dX10_keep_134 : decode cX10_keep 134 = .ok (.bastore, 1) := by decide +kernel
theorem dX10_keep_135 : decode cX10_keep 135 = .ok (.aload_n 0, 1) := by decide +kernel
theorem dX10_keep_136 : decode cX10_keep 136 = .ok (.iload_n 2, 1) := by decide +kernel
theorem dX10_keep_137 : decode cX10_keep 137 = .ok (.aload_n 0, 1) := by decide +kernel
theorem dX10_keep_138 : decode cX10_keep 138 = .ok (.getfield 22, 3) := by decide +kernel
theorem dX10_keep_141 : decode cX10_keep 141 = .ok (.iconst 5, 1) := by decide +kernel
theorem dX10_keep_142 : decode cX10_keep 142 = .ok (.iaload, 1) := by decide +kernel
theorem dX10_keep_143 : decode cX10_keep 143 = .ok (.ldc_w 261, 3) := by decide +kernel
theorem dX10_keep_146 : decode cX10_keep 146 = .ok (.invokevirtual 257, 3) := by decide +kernel
theorem dX10_keep_149 : decode cX10_keep 149 = .ok (.istore_n 3, 1) := by decide +kernel
theorem dX10_keep_150 : decode cX10_keep 150 = .ok (.iinc 1 1, 3) := by decide +kernel
theorem dX10_keep_153 : decode cX10_keep 153 = .ok (.goto (-128), 3) := by decide +kernel
theorem dX10_keep_156 : decode cX10_keep 156 = .ok (.return_, 1) := by decide +kernel
theorem dX10_goOn_0 : decode cX10_goOn 0 = .ok (.aload_n 0, 1) := by decide +kernel
theorem dX10_goOn_1 : decode cX10_goOn 1 = .ok (.dup, 1) := by decide +kernel
theorem dX10_goOn_2 : decode cX10_goOn 2 = .ok (.getfield 103, 3) := by decide +kernel
theorem dX10_goOn_5 : decode cX10_goOn 5 = .ok (.iconst 1, 1) := by decide +kernel
theorem dX10_goOn_6 : decode cX10_goOn 6 = .ok (.iadd, 1) := by decide +kernel
theorem dX10_goOn_7 : decode cX10_goOn 7 = .ok (.putfield 103, 3) := by decide +kernel
theorem dX10_goOn_10 : decode cX10_goOn 10 = .ok (.iconst 1, 1) := by decide +kernel
theorem dX10_goOn_11 : decode cX10_goOn 11 = .ok (.istore_n 1, 1) := by decide +kernel
theorem dX10_goOn_12 : decode cX10_goOn 12 = .ok (.iload_n 1, 1) := by decide +kernel
theorem dX10_goOn_13 : decode cX10_goOn 13 = .ok (.aload_n 0, 1) := by decide +kernel
theorem dX10_goOn_14 : decode cX10_goOn 14 = .ok (.getfield 92, 3) := by decide +kernel
theorem dX10_goOn_17 : decode cX10_goOn 17 = .ok (.if_icmp .ge 65, 3) := by decide +kernel
theorem dX10_goOn_20 : decode cX10_goOn 20 = .ok (.aload_n 0, 1) := by decide +kernel
theorem dX10_goOn_21 : decode cX10_goOn 21 = .ok (.getfield 103, 3) := by decide +kernel
theorem dX10_goOn_24 : decode cX10_goOn 24 = .ok (.aload_n 0, 1) := by decide +kernel
theorem dX10_goOn_25 : decode cX10_goOn 25 = .ok (.getfield 47, 3) := by decide +kernel
theorem dX10_goOn_28 : decode cX10_goOn 28 = .ok (.iload_n 1, 1) := by decide +kernel
theorem dX10_goOn_29 : decode cX10_goOn 29 = .ok (.iaload, 1) := by decide +kernel
theorem dX10_goOn_30 : decode cX10_goOn 30 = .ok (.if_icmp .le 46, 3) := by decide +kernel
theorem dX10_goOn_33 : decode cX10_goOn 33 = .ok (.aload_n 0, 1) := by decide +kernel
theorem dX10_goOn_34 : decode cX10_goOn 34 = .ok (.getfield 56, 3) := by decide +kernel
theorem dX10_goOn_37 : decode cX10_goOn 37 = .ok (.iload_n 1, 1) := by decide +kernel
theorem dX10_goOn_38 : decode cX10_goOn 38 = .ok (.iaload, 1) := by decide +kernel
theorem dX10_goOn_39 : decode cX10_goOn 39 = .ok (.ifCond .le 37, 3) := by decide +kernel
theorem dX10_goOn_42 : decode cX10_goOn 42 = .ok (.aload_n 0, 1) := by decide +kernel
theorem dX10_goOn_43 : decode cX10_goOn 43 = .ok (.getfield 62, 3) := by decide +kernel
theorem dX10_goOn_46 : decode cX10_goOn 46 = .ok (.iload_n 1, 1) := by decide +kernel
theorem dX10_goOn_47 : decode cX10_goOn 47 = .ok (.dup2, 1) := by decide +kernel
theorem dX10_goOn_48 : decode cX10_goOn 48 = .ok (.iaload, 1) := by decide +kernel
theorem dX10_goOn_49 : decode cX10_goOn 49 = .ok (.aload_n 0, 1) := by decide +kernel
theorem dX10_goOn_50 : decode cX10_goOn 50 = .ok (.getfield 56, 3) := by decide +kernel
theorem dX10_goOn_53 : decode cX10_goOn 53 = .ok (.iload_n 1, 1) := by decide +kernel
theorem dX10_goOn_54 : decode cX10_goOn 54 = .ok (.iaload, 1) := by decide +kernel
theorem dX10_goOn_55 : decode cX10_goOn 55 = .ok (.iadd, 1) := by decide +kernel
theorem dX10_goOn_56 : decode cX10_goOn 56 = .ok (.iastore, 1) := by decide +kernel
theorem dX10_goOn_57 : decode cX10_goOn 57 = .ok (.aload_n 0, 1) := by decide +kernel
theorem dX10_goOn_58 : decode cX10_goOn 58 = .ok (.bipush 6, 2) := by decide +kernel
theorem dX10_goOn_60 : decode cX10_goOn 60 = .ok (.aload_n 0, 1) := by decide +kernel
theorem dX10_goOn_61 : decode cX10_goOn 61 = .ok (.getfield 56, 3) := by decide +kernel
theorem dX10_goOn_64 : decode cX10_goOn 64 = .ok (.iload_n 1, 1) := by decide +kernel
theorem dX10_goOn_65 : decode cX10_goOn 65 = .ok (.iaload, 1) := by decide +kernel
theorem dX10_goOn_66 : decode cX10_goOn 66 = .ok (.invokevirtual 209, 3) := by decide +kernel
theorem dX10_goOn_69 : decode cX10_goOn 69 = .ok (.aload_n 0, 1) := by decide +kernel
theorem dX10_goOn_70 : decode cX10_goOn 70 = .ok (.getfield 56, 3) := by decide +kernel
theorem dX10_goOn_73 : decode cX10_goOn 73 = .ok (.iload_n 1, 1) := by decide +kernel
theorem dX10_goOn_74 : decode cX10_goOn 74 = .ok (.iconst 0, 1) := by decide +kernel
theorem dX10_goOn_75 : decode cX10_goOn 75 = .ok (.iastore, 1) := by decide +kernel
theorem dX10_goOn_76 : decode cX10_goOn 76 = .ok (.iinc 1 1, 3) := by decide +kernel
theorem dX10_goOn_79 : decode cX10_goOn 79 = .ok (.goto (-67), 3) := by decide +kernel
theorem dX10_goOn_82 : decode cX10_goOn 82 = .ok (.iconst 1, 1) := by decide +kernel
theorem dX10_goOn_83 : decode cX10_goOn 83 = .ok (.istore_n 1, 1) := by decide +kernel
theorem dX10_goOn_84 : decode cX10_goOn 84 = .ok (.iload_n 1, 1) := by decide +kernel
theorem dX10_goOn_85 : decode cX10_goOn 85 = .ok (.aload_n 0, 1) := by decide +kernel
theorem dX10_goOn_86 : decode cX10_goOn 86 = .ok (.getfield 92, 3) := by decide +kernel
theorem dX10_goOn_89 : decode cX10_goOn 89 = .ok (.if_icmp .ge 70, 3) := by decide +kernel
theorem dX10_goOn_92 : decode cX10_goOn 92 = .ok (.aload_n 0, 1) := by decide +kernel
theorem dX10_goOn_93 : decode cX10_goOn 93 = .ok (.getfield 103, 3) := by decide +kernel
theorem dX10_goOn_96 : decode cX10_goOn 96 = .ok (.aload_n 0, 1) := by decide +kernel
theorem dX10_goOn_97 : decode cX10_goOn 97 = .ok (.getfield 44, 3) := by decide +kernel
theorem dX10_goOn_100 : decode cX10_goOn 100 = .ok (.iload_n 1, 1) := by decide +kernel
theorem dX10_goOn_101 : decode cX10_goOn 101 = .ok (.iaload, 1) := by decide +kernel
theorem dX10_goOn_102 : decode cX10_goOn 102 = .ok (.if_icmp .eq 39, 3) := by decide +kernel
theorem dX10_goOn_105 : decode cX10_goOn 105 = .ok (.aload_n 0, 1) := by decide +kernel
theorem dX10_goOn_106 : decode cX10_goOn 106 = .ok (.getfield 50, 3) := by decide +kernel
theorem dX10_goOn_109 : decode cX10_goOn 109 = .ok (.iload_n 1, 1) := by decide +kernel
theorem dX10_goOn_110 : decode cX10_goOn 110 = .ok (.iaload, 1) := by decide +kernel
theorem dX10_goOn_111 : decode cX10_goOn 111 = .ok (.iconst 1, 1) := by decide +kernel
theorem dX10_goOn_112 : decode cX10_goOn 112 = .ok (.if_icmp .ne 41, 3) := by decide +kernel
theorem dX10_goOn_115 : decode cX10_goOn 115 = .ok (.aload_n 0, 1) := by decide +kernel
theorem dX10_goOn_116 : decode cX10_goOn 116 = .ok (.getfield 103, 3) := by decide +kernel
theorem dX10_goOn_119 : decode cX10_goOn 119 = .ok (.aload_n 0, 1) := by decide +kernel
theorem dX10_goOn_120 : decode cX10_goOn 120 = .ok (.getfield 44, 3) := by decide +kernel
theorem dX10_goOn_123 : decode cX10_goOn 123 = .ok (.iload_n 1, 1) := by decide +kernel
theorem dX10_goOn_124 : decode cX10_goOn 124 = .ok (.iaload, 1) := by decide +kernel
theorem dX10_goOn_125 : decode cX10_goOn 125 = .ok (.if_icmp .le 28, 3) := by decide +kernel
theorem dX10_goOn_128 : decode cX10_goOn 128 = .ok (.aload_n 0, 1) := by decide +kernel
theorem dX10_goOn_129 : decode cX10_goOn 129 = .ok (.getfield 103, 3) := by decide +kernel
theorem dX10_goOn_132 : decode cX10_goOn 132 = .ok (.aload_n 0, 1) := by decide +kernel
theorem dX10_goOn_133 : decode cX10_goOn 133 = .ok (.getfield 47, 3) := by decide +kernel
theorem dX10_goOn_136 : decode cX10_goOn 136 = .ok (.iload_n 1, 1) := by decide +kernel
theorem dX10_goOn_137 : decode cX10_goOn 137 = .ok (.iaload, 1) := by decide +kernel
theorem dX10_goOn_138 : decode cX10_goOn 138 = .ok (.if_icmp .gt 15, 3) := by decide +kernel
theorem dX10_goOn_141 : decode cX10_goOn 141 = .ok (.aload_n 0, 1) := by decide +kernel
theorem dX10_goOn_142 : decode cX10_goOn 142 = .ok (.iload_n 1, 1) := by decide +kernel
theorem dX10_goOn_143 : decode cX10_goOn 143 = .ok (.aload_n 0, 1) := by decide +kernel
theorem dX10_goOn_144 : decode cX10_goOn 144 = .ok (.getfield 53, 3) := by decide +kernel
theorem dX10_goOn_147 : decode cX10_goOn 147 = .ok (.iload_n 1, 1) := by decide +kernel
theorem dX10_goOn_148 : decode cX10_goOn 148 = .ok (.iaload, 1) := by decide +kernel
theorem dX10_goOn_149 : decode cX10_goOn 149 = .ok (.iconst 0, 1) := by decide +kernel
theorem dX10_goOn_150 : decode cX10_goOn 150 = .ok (.invokevirtual 216, 3) := by decide +kernel
theorem dX10_goOn_153 : decode cX10_goOn 153 = .ok (.iinc 1 1, 3) := by decide +kernel
theorem dX10_goOn_156 : decode cX10_goOn 156 = .ok (.goto (-72), 3) := by decide +kernel
theorem dX10_goOn_159 : decode cX10_goOn 159 = .ok (.iconst 0, 1) := by decide +kernel
theorem dX10_goOn_160 : decode cX10_goOn 160 = .ok (.istore_n 1, 1) := by decide +kernel
theorem dX10_goOn_161 : decode cX10_goOn 161 = .ok (.iconst 0, 1) := by decide +kernel
theorem dX10_goOn_162 : decode cX10_goOn 162 = .ok (.istore_n 2, 1) := by decide +kernel
theorem dX10_goOn_163 : decode cX10_goOn 163 = .ok (.iconst 0, 1) := by decide +kernel
theorem dX10_goOn_164 : decode cX10_goOn 164 = .ok (.istore_n 3, 1) := by decide +kernel
theorem dX10_goOn_165 : decode cX10_goOn 165 = .ok (.iconst 0, 1) := by decide +kernel
theorem dX10_goOn_166 : decode cX10_goOn 166 = .ok (.istore 4, 2) := by decide +kernel
theorem dX10_goOn_168 : decode cX10_goOn 168 = .ok (.iload 4, 2) := by decide +kernel
theorem dX10_goOn_170 : decode cX10_goOn 170 = .ok (.aload_n 0, 1) := by decide +kernel
theorem dX10_goOn_171 : decode cX10_goOn 171 = .ok (.getfield 96, 3) := by decide +kernel
theorem dX10_goOn_174 : decode cX10_goOn 174 = .ok (.if_icmp .ge 70, 3) := by decide +kernel
theorem dX10_goOn_177 : decode cX10_goOn 177 = .ok (.iload_n 1, 1) := by decide +kernel
theorem dX10_goOn_178 : decode cX10_goOn 178 = .ok (.ifCond .ne 13, 3) := by decide +kernel
theorem dX10_goOn_181 : decode cX10_goOn 181 = .ok (.aload_n 0, 1) := by decide +kernel
theorem dX10_goOn_182 : decode cX10_goOn 182 = .ok (.getfield 13, 3) := by decide +kernel
theorem dX10_goOn_185 : decode cX10_goOn 185 = .ok (.iload 4, 2) := by decide +kernel
theorem dX10_goOn_187 : decode cX10_goOn 187 = .ok (.iaload, 1) := by decide +kernel
theorem dX10_goOn_188 : decode cX10_goOn 188 = .ok (.ifCond .ne 7, 3) := by decide +kernel
theorem dX10_goOn_191 : decode cX10_goOn 191 = .ok (.iconst 1, 1) := by decide +kernel
theorem dX10_goOn_192 : decode cX10_goOn 192 = .ok (.goto 4, 3) := by decide +kernel
theorem dX10_goOn_195 : decode cX10_goOn 195 = .ok (.iconst 0, 1) := by decide +kernel
theorem dX10_goOn_196 : decode cX10_goOn 196 = .ok (.istore_n 1, 1) := by decide +kernel
theorem dX10_goOn_197 : decode cX10_goOn 197 = .ok (.iload_n 2, 1) := by decide +kernel
theorem dX10_goOn_198 : decode cX10_goOn 198 = .ok (.ifCond .ne 24, 3) := by decide +kernel
theorem dX10_goOn_201 : decode cX10_goOn 201 = .ok (.aload_n 0, 1) := by decide +kernel
theorem dX10_goOn_202 : decode cX10_goOn 202 = .ok (.getfield 7, 3) := by decide +kernel
theorem dX10_goOn_205 : decode cX10_goOn 205 = .ok (.iload 4, 2) := by decide +kernel
theorem dX10_goOn_207 : decode cX10_goOn 207 = .ok (.iaload, 1) := by decide +kernel
theorem dX10_goOn_208 : decode cX10_goOn 208 = .ok (.iconst 3, 1) := by decide +kernel
theorem dX10_goOn_209 : decode cX10_goOn 209 = .ok (.if_icmp .ne 17, 3) := by decide +kernel
theorem dX10_goOn_212 : decode cX10_goOn 212 = .ok (.aload_n 0, 1) := by decide +kernel
theorem dX10_goOn_213 : decode cX10_goOn 213 = .ok (.getfield 13, 3) := by decide +kernel
theorem dX10_goOn_216 : decode cX10_goOn 216 = .ok (.iload 4, 2) := by decide +kernel
theorem dX10_goOn_218 : decode cX10_goOn 218 = .ok (.iaload, 1) := by decide +kernel
theorem dX10_goOn_219 : decode cX10_goOn 219 = .ok (.ifCond .le 7, 3) := by decide +kernel
theorem dX10_goOn_222 : decode cX10_goOn 222 = .ok (.iconst 1, 1) := by decide +kernel
theorem dX10_goOn_223 : decode cX10_goOn 223 = .ok (.goto 4, 3) := by decide +kernel
theorem dX10_goOn_226 : decode cX10_goOn 226 = .ok (.iconst 0, 1) := by decide +kernel
theorem dX10_goOn_227 : decode cX10_goOn 227 = .ok (.istore_n 2, 1) := by decide +kernel
theorem dX10_goOn_228 : decode cX10_goOn 228 = .ok (.iload_n 3, 1) := by decide +kernel
theorem dX10_goOn_229 : decode cX10_goOn 229 = .ok (.aload_n 0, 1) := by decide +kernel
theorem dX10_goOn_230 : decode cX10_goOn 230 = .ok (.getfield 16, 3) := by decide +kernel
theorem dX10_goOn_233 : decode cX10_goOn 233 = .ok (.iload 4, 2) := by decide +kernel
theorem dX10_goOn_235 : decode cX10_goOn 235 = .ok (.iaload, 1) := by decide +kernel
theorem dX10_goOn_236 : decode cX10_goOn 236 = .ok (.iadd, 1) := by decide +kernel
theorem dX10_goOn_237 : decode cX10_goOn 237 = .ok (.istore_n 3, 1) := by decide +kernel
theorem dX10_goOn_238 : decode cX10_goOn 238 = .ok (.iinc 4 1, 3) := by decide +kernel
theorem dX10_goOn_241 : decode cX10_goOn 241 = .ok (.goto (-73), 3) := by decide +kernel
theorem dX10_goOn_244 : decode cX10_goOn 244 = .ok (.iload_n 1, 1) := by decide +kernel
theorem dX10_goOn_245 : decode cX10_goOn 245 = .ok (.ifCond .eq 7, 3) := by decide +kernel
theorem dX10_goOn_248 : decode cX10_goOn 248 = .ok (.iconst 0, 1) := by decide +kernel
theorem dX10_goOn_249 : decode cX10_goOn 249 = .ok (.goto 36, 3) := by decide +kernel
theorem dX10_goOn_252 : decode cX10_goOn 252 = .ok (.aload_n 0, 1) := by decide +kernel
theorem dX10_goOn_253 : decode cX10_goOn 253 = .ok (.getfield 22, 3) := by decide +kernel
theorem dX10_goOn_256 : decode cX10_goOn 256 = .ok (.iconst 0, 1) := by decide +kernel
theorem dX10_goOn_257 : decode cX10_goOn 257 = .ok (.iaload, 1) := by decide +kernel
theorem dX10_goOn_258 : decode cX10_goOn 258 = .ok (.aload_n 0, 1) := by decide +kernel
theorem dX10_goOn_259 : decode cX10_goOn 259 = .ok (.iconst 1, 1) := by decide +kernel
theorem dX10_goOn_260 : decode cX10_goOn 260 = .ok (.aload_n 0, 1) := by decide +kernel
theorem dX10_goOn_261 : decode cX10_goOn 261 = .ok (.getfield 103, 3) := by decide +kernel
theorem dX10_goOn_264 : decode cX10_goOn 264 = .ok (.invokevirtual 113, 3) := by decide +kernel
theorem dX10_goOn_267 : decode cX10_goOn 267 = .ok (.imul, 1) := by decide +kernel
theorem dX10_goOn_268 : decode cX10_goOn 268 = .ok (.aload_n 0, 1) := by decide +kernel
theorem dX10_goOn_269 : decode cX10_goOn 269 = .ok (.getfield 22, 3) := by decide +kernel
theorem dX10_goOn_272 : decode cX10_goOn 272 = .ok (.iconst 1, 1) := by decide +kernel
theorem dX10_goOn_273 : decode cX10_goOn 273 = .ok (.iaload, 1) := by decide +kernel
theorem dX10_goOn_274 : decode cX10_goOn 274 = .ok (.aload_n 0, 1) := by decide +kernel
theorem dX10_goOn_275 : decode cX10_goOn 275 = .ok (.iconst 2, 1) := by decide +kernel
theorem dX10_goOn_276 : decode cX10_goOn 276 = .ok (.aload_n 0, 1) := by decide +kernel
theorem dX10_goOn_277 : decode cX10_goOn 277 = .ok (.getfield 103, 3) := by decide +kernel
theorem dX10_goOn_280 : decode cX10_goOn 280 = .ok (.invokevirtual 113, 3) := by decide +kernel
theorem dX10_goOn_283 : decode cX10_goOn 283 = .ok (.imul, 1) := by decide +kernel
theorem dX10_goOn_284 : decode cX10_goOn 284 = .ok (.iadd, 1) := by decide +kernel
theorem dX10_goOn_285 : decode cX10_goOn 285 = .ok (.istore 4, 2) := by decide +kernel
theorem dX10_goOn_287 : decode cX10_goOn 287 = .ok (.iload 4, 2) := by decide +kernel
theorem dX10_goOn_289 : decode cX10_goOn 289 = .ok (.iload_n 2, 1) := by decide +kernel
theorem dX10_goOn_290 : decode cX10_goOn 290 = .ok (.ifCond .eq 22, 3) := by decide +kernel
theorem dX10_goOn_293 : decode cX10_goOn 293 = .ok (.aload_n 0, 1) := by decide +kernel
theorem dX10_goOn_294 : decode cX10_goOn 294 = .ok (.getfield 22, 3) := by decide +kernel
theorem dX10_goOn_297 : decode cX10_goOn 297 = .ok (.iconst 2, 1) := by decide +kernel
theorem dX10_goOn_298 : decode cX10_goOn 298 = .ok (.iaload, 1) := by decide +kernel
theorem dX10_goOn_299 : decode cX10_goOn 299 = .ok (.aload_n 0, 1) := by decide +kernel
theorem dX10_goOn_300 : decode cX10_goOn 300 = .ok (.iconst 3, 1) := by decide +kernel
theorem dX10_goOn_301 : decode cX10_goOn 301 = .ok (.aload_n 0, 1) := by decide +kernel
theorem dX10_goOn_302 : decode cX10_goOn 302 = .ok (.getfield 103, 3) := by decide +kernel
theorem dX10_goOn_305 : decode cX10_goOn 305 = .ok (.invokevirtual 113, 3) := by decide +kernel
theorem dX10_goOn_308 : decode cX10_goOn 308 = .ok (.imul, 1) := by decide +kernel
theorem dX10_goOn_309 : decode cX10_goOn 309 = .ok (.goto 4, 3) := by decide +kernel
theorem dX10_goOn_312 : decode cX10_goOn 312 = .ok (.iconst 0, 1) := by decide +kernel
theorem dX10_goOn_313 : decode cX10_goOn 313 = .ok (.iadd, 1) := by decide +kernel
theorem dX10_goOn_314 : decode cX10_goOn 314 = .ok (.istore 4, 2) := by decide +kernel
theorem dX10_goOn_316 : decode cX10_goOn 316 = .ok (.aload_n 0, 1) := by decide +kernel
theorem dX10_goOn_317 : decode cX10_goOn 317 = .ok (.iconst 0, 1) := by decide +kernel
theorem dX10_goOn_318 : decode cX10_goOn 318 = .ok (.iload 4, 2) := by decide +kernel
theorem dX10_goOn_320 : decode cX10_goOn 320 = .ok (.iconst 1, 1) := by decide +kernel
theorem dX10_goOn_321 : decode cX10_goOn 321 = .ok (.invokevirtual 216, 3) := by decide +kernel
theorem dX10_goOn_324 : decode cX10_goOn 324 = .ok (.aload_n 0, 1) := by decide +kernel
theorem dX10_goOn_325 : decode cX10_goOn 325 = .ok (.iconst 0, 1) := by decide +kernel
theorem dX10_goOn_326 : decode cX10_goOn 326 = .ok (.aload_n 0, 1) := by decide +kernel
theorem dX10_goOn_327 : decode cX10_goOn 327 = .ok (.getfield 22, 3) := by decide +kernel
theorem dX10_goOn_330 : decode cX10_goOn 330 = .ok (.iconst 3, 1) := by decide +kernel
theorem dX10_goOn_331 : decode cX10_goOn 331 = .ok (.iaload, 1) := by decide +kernel
theorem dX10_goOn_332 : decode cX10_goOn 332 = .ok (.iload_n 3, 1) := by decide +kernel
theorem dX10_goOn_333 : decode cX10_goOn 333 = .ok (.imul, 1) := by decide +kernel
theorem dX10_goOn_334 : decode cX10_goOn 334 = .ok (.iconst 2, 1) := by decide +kernel
theorem dX10_goOn_335 : decode cX10_goOn 335 = .ok (.invokevirtual 216, 3) := by decide +kernel
theorem dX10_goOn_338 : decode cX10_goOn 338 = .ok (.aload_n 0, 1) := by decide +kernel
theorem dX10_goOn_339 : decode cX10_goOn 339 = .ok (.invokevirtual 117, 3) := by decide +kernel
theorem dX10_goOn_342 : decode cX10_goOn 342 = .ok (.aload_n 0, 1) := by decide +kernel
theorem dX10_goOn_343 : decode cX10_goOn 343 = .ok (.aload_n 0, 1) := by decide +kernel
theorem dX10_goOn_344 : decode cX10_goOn 344 = .ok (.getfield 103, 3) := by decide +kernel
theorem dX10_goOn_347 : decode cX10_goOn 347 = .ok (.invokevirtual 121, 3) := by decide +kernel
theorem dX10_goOn_350 : decode cX10_goOn 350 = .ok (.aload_n 0, 1) := by decide +kernel
theorem dX10_goOn_351 : decode cX10_goOn 351 = .ok (.invokevirtual 125, 3) := by decide +kernel
theorem dX10_goOn_354 : decode cX10_goOn 354 = .ok (.iconst 0, 1) := by decide +kernel
theorem dX10_goOn_355 : decode cX10_goOn 355 = .ok (.istore 5, 2) := by decide +kernel
theorem dX10_goOn_357 : decode cX10_goOn 357 = .ok (.iload 5, 2) := by decide +kernel
theorem dX10_goOn_359 : decode cX10_goOn 359 = .ok (.aload_n 0, 1) := by decide +kernel
theorem dX10_goOn_360 : decode cX10_goOn 360 = .ok (.getfield 96, 3) := by decide +kernel
theorem dX10_goOn_363 : decode cX10_goOn 363 = .ok (.if_icmp .ge 51, 3) := by decide +kernel
theorem dX10_goOn_366 : decode cX10_goOn 366 = .ok (.aload_n 0, 1) := by decide +kernel
theorem dX10_goOn_367 : decode cX10_goOn 367 = .ok (.getfield 13, 3) := by decide +kernel
theorem dX10_goOn_370 : decode cX10_goOn 370 = .ok (.iload 5, 2) := by decide +kernel
theorem dX10_goOn_372 : decode cX10_goOn 372 = .ok (.aload_n 0, 1) := by decide +kernel
theorem dX10_goOn_373 : decode cX10_goOn 373 = .ok (.getfield 74, 3) := by decide +kernel
theorem dX10_goOn_376 : decode cX10_goOn 376 = .ok (.iload 5, 2) := by decide +kernel
theorem dX10_goOn_378 : decode cX10_goOn 378 = .ok (.iaload, 1) := by decide +kernel
theorem dX10_goOn_379 : decode cX10_goOn 379 = .ok (.iastore, 1) := by decide +kernel
theorem dX10_goOn_380 : decode cX10_goOn 380 = .ok (.aload_n 0, 1) := by decide +kernel
theorem dX10_goOn_381 : decode cX10_goOn 381 = .ok (.getfield 16, 3) := by decide +kernel
theorem dX10_goOn_384 : decode cX10_goOn 384 = .ok (.iload 5, 2) := by decide +kernel
theorem dX10_goOn_386 : decode cX10_goOn 386 = .ok (.aload_n 0, 1) := by decide +kernel
theorem dX10_goOn_387 : decode cX10_goOn 387 = .ok (.getfield 77, 3) := by decide +kernel
theorem dX10_goOn_390 : decode cX10_goOn 390 = .ok (.iload 5, 2) := by decide +kernel
theorem dX10_goOn_392 : decode cX10_goOn 392 = .ok (.iaload, 1) := by decide +kernel
theorem dX10_goOn_393 : decode cX10_goOn 393 = .ok (.iastore, 1) := by decide +kernel
theorem dX10_goOn_394 : decode cX10_goOn 394 = .ok (.aload_n 0, 1) := by decide +kernel
theorem dX10_goOn_395 : decode cX10_goOn 395 = .ok (.getfield 19, 3) := by decide +kernel
theorem dX10_goOn_398 : decode cX10_goOn 398 = .ok (.iload 5, 2) := by decide +kernel
theorem dX10_goOn_400 : decode cX10_goOn 400 = .ok (.aload_n 0, 1) := by decide +kernel
theorem dX10_goOn_401 : decode cX10_goOn 401 = .ok (.getfield 80, 3) := by decide +kernel
theorem dX10_goOn_404 : decode cX10_goOn 404 = .ok (.iload 5, 2) := by decide +kernel
theorem dX10_goOn_406 : decode cX10_goOn 406 = .ok (.iaload, 1) := by decide +kernel
theorem dX10_goOn_407 : decode cX10_goOn 407 = .ok (.iastore, 1) := by decide +kernel
theorem dX10_goOn_408 : decode cX10_goOn 408 = .ok (.iinc 5 1, 3) := by decide +kernel
theorem dX10_goOn_411 : decode cX10_goOn 411 = .ok (.goto (-54), 3) := by decide +kernel
theorem dX10_goOn_414 : decode cX10_goOn 414 = .ok (.aload_n 0, 1) := by decide +kernel
theorem dX10_goOn_415 : decode cX10_goOn 415 = .ok (.invokevirtual 262, 3) := by decide +kernel
theorem dX10_goOn_418 : decode cX10_goOn 418 = .ok (.return_, 1) := by decide +kernel
theorem dX10_years_0 : decode cX10_years 0 = .ok (.iload_n 1, 1) := by decide +kernel
theorem dX10_years_1 : decode cX10_years 1 = .ok (.iconst 1, 1) := by decide +kernel
theorem dX10_years_2 : decode cX10_years 2 = .ok (.bipush 50, 2) := by decide +kernel
theorem dX10_years_4 : decode cX10_years 4 = .ok (.invokestatic 99, 3) := by decide +kernel
theorem dX10_years_7 : decode cX10_years 7 = .ok (.ifCond .eq 15, 3) := by decide +kernel
theorem dX10_years_10 : decode cX10_years 10 = .ok (.aload_n 0, 1) := by decide +kernel
theorem dX10_years_11 : decode cX10_years 11 = .ok (.getfield 103, 3) := by decide +kernel
theorem dX10_years_14 : decode cX10_years 14 = .ok (.iload_n 1, 1) := by decide +kernel
theorem dX10_years_15 : decode cX10_years 15 = .ok (.iadd, 1) := by decide +kernel
theorem dX10_years_16 : decode cX10_years 16 = .ok (.sipush 200, 3) := by decide +kernel
theorem dX10_years_19 : decode cX10_years 19 = .ok (.if_icmp .le 6, 3) := by decide +kernel
theorem dX10_years_22 : decode cX10_years 22 = .ok (.ldc 106, 2) := by decide +kernel
theorem dX10_years_24 : decode cX10_years 24 = .ok (.ireturn, 1) := by decide +kernel
theorem dX10_years_25 : decode cX10_years 25 = .ok (.iconst 0, 1) := by decide +kernel
theorem dX10_years_26 : decode cX10_years 26 = .ok (.istore_n 2, 1) := by decide +kernel
theorem dX10_years_27 : decode cX10_years 27 = .ok (.iload_n 2, 1) := by decide +kernel
theorem dX10_years_28 : decode cX10_years 28 = .ok (.iload_n 1, 1) := by decide +kernel
theorem dX10_years_29 : decode cX10_years 29 = .ok (.if_icmp .ge 13, 3) := by decide +kernel
theorem dX10_years_32 : decode cX10_years 32 = .ok (.aload_n 0, 1) := by decide +kernel
theorem dX10_years_33 : decode cX10_years 33 = .ok (.invokevirtual 265, 3) := by decide +kernel
theorem dX10_years_36 : decode cX10_years 36 = .ok (.iinc 2 1, 3) := by decide +kernel
theorem dX10_years_39 : decode cX10_years 39 = .ok (.goto (-12), 3) := by decide +kernel
theorem dX10_years_42 : decode cX10_years 42 = .ok (.aload_n 0, 1) := by decide +kernel
theorem dX10_years_43 : decode cX10_years 43 = .ok (.getfield 103, 3) := by decide +kernel
theorem dX10_years_46 : decode cX10_years 46 = .ok (.ireturn, 1) := by decide +kernel
theorem dX10_row_0 : decode cX10_row 0 = .ok (.iload_n 1, 1) := by decide +kernel
theorem dX10_row_1 : decode cX10_row 1 = .ok (.ifCond .lt 12, 3) := by decide +kernel
theorem dX10_row_4 : decode cX10_row 4 = .ok (.iload_n 2, 1) := by decide +kernel
theorem dX10_row_5 : decode cX10_row 5 = .ok (.iconst 0, 1) := by decide +kernel
theorem dX10_row_6 : decode cX10_row 6 = .ok (.iconst 3, 1) := by decide +kernel
theorem dX10_row_7 : decode cX10_row 7 = .ok (.invokestatic 99, 3) := by decide +kernel
theorem dX10_row_10 : decode cX10_row 10 = .ok (.ifCond .ne 6, 3) := by decide +kernel
theorem dX10_row_13 : decode cX10_row 13 = .ok (.ldc 106, 2) := by decide +kernel
theorem dX10_row_15 : decode cX10_row 15 = .ok (.ireturn, 1) := by decide +kernel
theorem dX10_row_16 : decode cX10_row 16 = .ok (.iload_n 1, 1) := by decide +kernel
theorem dX10_row_17 : decode cX10_row 17 = .ok (.aload_n 0, 1) := by decide +kernel
theorem dX10_row_18 : decode cX10_row 18 = .ok (.getfield 239, 3) := by decide +kernel
theorem dX10_row_21 : decode cX10_row 21 = .ok (.if_icmp .ge 25, 3) := by decide +kernel
theorem dX10_row_24 : decode cX10_row 24 = .ok (.aload_n 0, 1) := by decide +kernel
theorem dX10_row_25 : decode cX10_row 25 = .ok (.getfield 68, 3) := by decide +kernel
theorem dX10_row_28 : decode cX10_row 28 = .ok (.iconst 4, 1) := by decide +kernel
theorem dX10_row_29 : decode cX10_row 29 = .ok (.aload_n 0, 1) := by decide +kernel
theorem dX10_row_30 : decode cX10_row 30 = .ok (.getfield 242, 3) := by decide +kernel
theorem dX10_row_33 : decode cX10_row 33 = .ok (.iload_n 1, 1) := by decide +kernel
theorem dX10_row_34 : decode cX10_row 34 = .ok (.iadd, 1) := by decide +kernel
theorem dX10_row_35 : decode cX10_row 35 = .ok (.sipush 200, 3) := by decide +kernel
theorem dX10_row_38 : decode cX10_row 38 = .ok (.irem, 1) := by decide +kernel
theorem dX10_row_39 : decode cX10_row 39 = .ok (.imul, 1) := by decide +kernel
theorem dX10_row_40 : decode cX10_row 40 = .ok (.iload_n 2, 1) := by decide +kernel
theorem dX10_row_41 : decode cX10_row 41 = .ok (.iadd, 1) := by decide +kernel
theorem dX10_row_42 : decode cX10_row 42 = .ok (.iaload, 1) := by decide +kernel
theorem dX10_row_43 : decode cX10_row 43 = .ok (.goto 5, 3) := by decide +kernel
theorem dX10_row_46 : decode cX10_row 46 = .ok (.ldc 120, 2) := by decide +kernel
theorem dX10_row_48 : decode cX10_row 48 = .ok (.ireturn, 1) := by decide +kernel
theorem dX10_roll_0 : decode cX10_roll 0 = .ok (.iload_n 1, 1) := by decide +kernel
theorem dX10_roll_1 : decode cX10_roll 1 = .ok (.iconst 0, 1) := by decide +kernel
theorem dX10_roll_2 : decode cX10_roll 2 = .ok (.sipush 200, 3) := by decide +kernel
theorem dX10_roll_5 : decode cX10_roll 5 = .ok (.invokestatic 99, 3) := by decide +kernel
theorem dX10_roll_8 : decode cX10_roll 8 = .ok (.ifCond .eq 27, 3) := by decide +kernel
theorem dX10_roll_11 : decode cX10_roll 11 = .ok (.iload_n 2, 1) := by decide +kernel
theorem dX10_roll_12 : decode cX10_roll 12 = .ok (.iconst 0, 1) := by decide +kernel
theorem dX10_roll_13 : decode cX10_roll 13 = .ok (.bipush 6, 2) := by decide +kernel
theorem dX10_roll_15 : decode cX10_roll 15 = .ok (.invokestatic 99, 3) := by decide +kernel
theorem dX10_roll_18 : decode cX10_roll 18 = .ok (.ifCond .eq 17, 3) := by decide +kernel
theorem dX10_roll_21 : decode cX10_roll 21 = .ok (.aload_n 0, 1) := by decide +kernel
theorem dX10_roll_22 : decode cX10_roll 22 = .ok (.getfield 71, 3) := by decide +kernel
theorem dX10_roll_25 : decode cX10_roll 25 = .ok (.bipush 7, 2) := by decide +kernel
theorem dX10_roll_27 : decode cX10_roll 27 = .ok (.iload_n 1, 1) := by decide +kernel
theorem dX10_roll_28 : decode cX10_roll 28 = .ok (.imul, 1) := by decide +kernel
theorem dX10_roll_29 : decode cX10_roll 29 = .ok (.iload_n 2, 1) := by decide +kernel
theorem dX10_roll_30 : decode cX10_roll 30 = .ok (.iadd, 1) := by decide +kernel
theorem dX10_roll_31 : decode cX10_roll 31 = .ok (.iaload, 1) := by decide +kernel
theorem dX10_roll_32 : decode cX10_roll 32 = .ok (.goto 5, 3) := by decide +kernel
theorem dX10_roll_35 : decode cX10_roll 35 = .ok (.ldc 106, 2) := by decide +kernel
theorem dX10_roll_37 : decode cX10_roll 37 = .ok (.ireturn, 1) := by decide +kernel
theorem dX10_sum_0 : decode cX10_sum 0 = .ok (.iconst 0, 1) := by decide +kernel
theorem dX10_sum_1 : decode cX10_sum 1 = .ok (.istore_n 1, 1) := by decide +kernel
theorem dX10_sum_2 : decode cX10_sum 2 = .ok (.iconst 0, 1) := by decide +kernel
theorem dX10_sum_3 : decode cX10_sum 3 = .ok (.istore_n 2, 1) := by decide +kernel
theorem dX10_sum_4 : decode cX10_sum 4 = .ok (.iload_n 2, 1) := by decide +kernel
theorem dX10_sum_5 : decode cX10_sum 5 = .ok (.aload_n 0, 1) := by decide +kernel
theorem dX10_sum_6 : decode cX10_sum 6 = .ok (.getfield 92, 3) := by decide +kernel
theorem dX10_sum_9 : decode cX10_sum 9 = .ok (.if_icmp .ge 18, 3) := by decide +kernel
theorem dX10_sum_12 : decode cX10_sum 12 = .ok (.iload_n 1, 1) := by decide +kernel
theorem dX10_sum_13 : decode cX10_sum 13 = .ok (.aload_n 0, 1) := by decide +kernel
theorem dX10_sum_14 : decode cX10_sum 14 = .ok (.getfield 56, 3) := by decide +kernel
theorem dX10_sum_17 : decode cX10_sum 17 = .ok (.iload_n 2, 1) := by decide +kernel
theorem dX10_sum_18 : decode cX10_sum 18 = .ok (.iaload, 1) := by decide +kernel
theorem dX10_sum_19 : decode cX10_sum 19 = .ok (.iadd, 1) := by decide +kernel
theorem dX10_sum_20 : decode cX10_sum 20 = .ok (.istore_n 1, 1) := by decide +kernel
theorem dX10_sum_21 : decode cX10_sum 21 = .ok (.iinc 2 1, 3) := by decide +kernel
theorem dX10_sum_24 : decode cX10_sum 24 = .ok (.goto (-20), 3) := by decide +kernel
theorem dX10_sum_27 : decode cX10_sum 27 = .ok (.iload_n 1, 1) := by decide +kernel
theorem dX10_sum_28 : decode cX10_sum 28 = .ok (.ireturn, 1) := by decide +kernel
theorem dX10_spent_0 : decode cX10_spent 0 = .ok (.aload_n 0, 1) := by decide +kernel
theorem dX10_spent_1 : decode cX10_spent 1 = .ok (.iload_n 1, 1) := by decide +kernel
theorem dX10_spent_2 : decode cX10_spent 2 = .ok (.invokevirtual 220, 3) := by decide +kernel
theorem dX10_spent_5 : decode cX10_spent 5 = .ok (.ifCond .eq 25, 3) := by decide +kernel
theorem dX10_spent_8 : decode cX10_spent 8 = .ok (.aload_n 0, 1) := by decide +kernel
theorem dX10_spent_9 : decode cX10_spent 9 = .ok (.iload_n 2, 1) := by decide +kernel
theorem dX10_spent_10 : decode cX10_spent 10 = .ok (.invokevirtual 230, 3) := by decide +kernel
theorem dX10_spent_13 : decode cX10_spent 13 = .ok (.ifCond .eq 17, 3) := by decide +kernel
theorem dX10_spent_16 : decode cX10_spent 16 = .ok (.aload_n 0, 1) := by decide +kernel
theorem dX10_spent_17 : decode cX10_spent 17 = .ok (.getfield 65, 3) := by decide +kernel
theorem dX10_spent_20 : decode cX10_spent 20 = .ok (.bipush 12, 2) := by decide +kernel
theorem dX10_spent_22 : decode cX10_spent 22 = .ok (.iload_n 1, 1) := by decide +kernel
theorem dX10_spent_23 : decode cX10_spent 23 = .ok (.imul, 1) := by decide +kernel
theorem dX10_spent_24 : decode cX10_spent 24 = .ok (.iload_n 2, 1) := by decide +kernel
theorem dX10_spent_25 : decode cX10_spent 25 = .ok (.iadd, 1) := by decide +kernel
theorem dX10_spent_26 : decode cX10_spent 26 = .ok (.iaload, 1) := by decide +kernel
theorem dX10_spent_27 : decode cX10_spent 27 = .ok (.goto 5, 3) := by decide +kernel
theorem dX10_spent_30 : decode cX10_spent 30 = .ok (.ldc 106, 2) := by decide +kernel
theorem dX10_spent_32 : decode cX10_spent 32 = .ok (.ireturn, 1) := by decide +kernel
theorem dX10_count_0 : decode cX10_count 0 = .ok (.iconst 0, 1) := by decide +kernel
theorem dX10_count_1 : decode cX10_count 1 = .ok (.istore_n 2, 1) := by decide +kernel
theorem dX10_count_2 : decode cX10_count 2 = .ok (.iload_n 1, 1) := by decide +kernel
theorem dX10_count_3 : decode cX10_count 3 = .ok (.tableswitch 164 0 7 #[45, 50, 85, 90, 95, 100, 105, 132], 45) := by decide +kernel
theorem dX10_count_48 : decode cX10_count 48 = .ok (.aload_n 0, 1) := by decide +kernel
theorem dX10_count_49 : decode cX10_count 49 = .ok (.getfield 96, 3) := by decide +kernel
theorem dX10_count_52 : decode cX10_count 52 = .ok (.ireturn, 1) := by decide +kernel
theorem dX10_count_53 : decode cX10_count 53 = .ok (.iconst 0, 1) := by decide +kernel
theorem dX10_count_54 : decode cX10_count 54 = .ok (.istore_n 3, 1) := by decide +kernel
theorem dX10_count_55 : decode cX10_count 55 = .ok (.iload_n 3, 1) := by decide +kernel
theorem dX10_count_56 : decode cX10_count 56 = .ok (.aload_n 0, 1) := by decide +kernel
theorem dX10_count_57 : decode cX10_count 57 = .ok (.getfield 96, 3) := by decide +kernel
theorem dX10_count_60 : decode cX10_count 60 = .ok (.if_icmp .ge 26, 3) := by decide +kernel
theorem dX10_count_63 : decode cX10_count 63 = .ok (.iload_n 2, 1) := by decide +kernel
theorem dX10_count_64 : decode cX10_count 64 = .ok (.aload_n 0, 1) := by decide +kernel
theorem dX10_count_65 : decode cX10_count 65 = .ok (.getfield 13, 3) := by decide +kernel
theorem dX10_count_68 : decode cX10_count 68 = .ok (.iload_n 3, 1) := by decide +kernel
theorem dX10_count_69 : decode cX10_count 69 = .ok (.iaload, 1) := by decide +kernel
theorem dX10_count_70 : decode cX10_count 70 = .ok (.ifCond .ne 7, 3) := by decide +kernel
theorem dX10_count_73 : decode cX10_count 73 = .ok (.iconst 1, 1) := by decide +kernel
theorem dX10_count_74 : decode cX10_count 74 = .ok (.goto 4, 3) := by decide +kernel
theorem dX10_count_77 : decode cX10_count 77 = .ok (.iconst 0, 1) := by decide +kernel
theorem dX10_count_78 : decode cX10_count 78 = .ok (.iadd, 1) := by decide +kernel
theorem dX10_count_79 : decode cX10_count 79 = .ok (.istore_n 2, 1) := by decide +kernel
theorem dX10_count_80 : decode cX10_count 80 = .ok (.iinc 3 1, 3) := by decide +kernel
theorem dX10_count_83 : decode cX10_count 83 = .ok (.goto (-28), 3) := by decide +kernel
theorem dX10_count_86 : decode cX10_count 86 = .ok (.iload_n 2, 1) := by decide +kernel
theorem dX10_count_87 : decode cX10_count 87 = .ok (.ireturn, 1) := by decide +kernel
theorem dX10_count_88 : decode cX10_count 88 = .ok (.aload_n 0, 1) := by decide +kernel
theorem dX10_count_89 : decode cX10_count 89 = .ok (.getfield 92, 3) := by decide +kernel
theorem dX10_count_92 : decode cX10_count 92 = .ok (.ireturn, 1) := by decide +kernel
theorem dX10_count_93 : decode cX10_count 93 = .ok (.aload_n 0, 1) := by decide +kernel
theorem dX10_count_94 : decode cX10_count 94 = .ok (.getfield 239, 3) := by decide +kernel
theorem dX10_count_97 : decode cX10_count 97 = .ok (.ireturn, 1) := by decide +kernel
theorem dX10_count_98 : decode cX10_count 98 = .ok (.aload_n 0, 1) := by decide +kernel
theorem dX10_count_99 : decode cX10_count 99 = .ok (.getfield 103, 3) := by decide +kernel
theorem dX10_count_102 : decode cX10_count 102 = .ok (.ireturn, 1) := by decide +kernel
theorem dX10_count_103 : decode cX10_count 103 = .ok (.aload_n 0, 1) := by decide +kernel
theorem dX10_count_104 : decode cX10_count 104 = .ok (.getfield 141, 3) := by decide +kernel
theorem dX10_count_107 : decode cX10_count 107 = .ok (.ireturn, 1) := by decide +kernel
theorem dX10_count_108 : decode cX10_count 108 = .ok (.iconst 0, 1) := by decide +kernel
theorem dX10_count_109 : decode cX10_count 109 = .ok (.istore_n 3, 1) := by decide +kernel
theorem dX10_count_110 : decode cX10_count 110 = .ok (.iload_n 3, 1) := by decide +kernel
theorem dX10_count_111 : decode cX10_count 111 = .ok (.aload_n 0, 1) := by decide +kernel
theorem dX10_count_112 : decode cX10_count 112 = .ok (.getfield 96, 3) := by decide +kernel
theorem dX10_count_115 : decode cX10_count 115 = .ok (.if_icmp .ge 18, 3) := by decide +kernel
theorem dX10_count_118 : decode cX10_count 118 = .ok (.iload_n 2, 1) := by decide +kernel
theorem dX10_count_119 : decode cX10_count 119 = .ok (.aload_n 0, 1) := by decide +kernel
theorem dX10_count_120 : decode cX10_count 120 = .ok (.getfield 16, 3) := by decide +kernel
theorem dX10_count_123 : decode cX10_count 123 = .ok (.iload_n 3, 1) := by decide +kernel
theorem dX10_count_124 : decode cX10_count 124 = .ok (.iaload, 1) := by decide +kernel
theorem dX10_count_125 : decode cX10_count 125 = .ok (.iadd, 1) := by decide +kernel
theorem dX10_count_126 : decode cX10_count 126 = .ok (.istore_n 2, 1) := by decide +kernel
theorem dX10_count_127 : decode cX10_count 127 = .ok (.iinc 3 1, 3) := by decide +kernel
theorem dX10_count_130 : decode cX10_count 130 = .ok (.goto (-20), 3) := by decide +kernel
theorem dX10_count_133 : decode cX10_count 133 = .ok (.iload_n 2, 1) := by decide +kernel
theorem dX10_count_134 : decode cX10_count 134 = .ok (.ireturn, 1) := by decide +kernel
theorem dX10_count_135 : decode cX10_count 135 = .ok (.iconst 0, 1) := by decide +kernel
theorem dX10_count_136 : decode cX10_count 136 = .ok (.istore_n 3, 1) := by decide +kernel
theorem dX10_count_137 : decode cX10_count 137 = .ok (.iload_n 3, 1) := by decide +kernel
theorem dX10_count_138 : decode cX10_count 138 = .ok (.iconst 4, 1) := by decide +kernel
theorem dX10_count_139 : decode cX10_count 139 = .ok (.if_icmp .ge 26, 3) := by decide +kernel
theorem dX10_count_142 : decode cX10_count 142 = .ok (.iload_n 2, 1) := by decide +kernel
theorem dX10_count_143 : decode cX10_count 143 = .ok (.aload_n 0, 1) := by decide +kernel
theorem dX10_count_144 : decode cX10_count 144 = .ok (.getfield 25, 3) := by decide +kernel
theorem dX10_count_147 : decode cX10_count 147 = .ok (.iload_n 3, 1) := by decide +kernel
theorem dX10_count_148 : decode cX10_count 148 = .ok (.baload, 1) := by decide +kernel
theorem dX10_count_149 : decode cX10_count 149 = .ok (.ifCond .eq 7, 3) := by decide +kernel
theorem dX10_count_152 : decode cX10_count 152 = .ok (.iconst 1, 1) := by decide +kernel
theorem dX10_count_153 : decode cX10_count 153 = .ok (.goto 4, 3) := by decide +kernel
theorem dX10_count_156 : decode cX10_count 156 = .ok (.iconst 0, 1) := by decide +kernel
theorem dX10_count_157 : decode cX10_count 157 = .ok (.iadd, 1) := by decide +kernel
theorem dX10_count_158 : decode cX10_count 158 = .ok (.istore_n 2, 1) := by decide +kernel
theorem dX10_count_159 : decode cX10_count 159 = .ok (.iinc 3 1, 3) := by decide +kernel
theorem dX10_count_162 : decode cX10_count 162 = .ok (.goto (-25), 3) := by decide +kernel
theorem dX10_count_165 : decode cX10_count 165 = .ok (.iload_n 2, 1) := by decide +kernel
theorem dX10_count_166 : decode cX10_count 166 = .ok (.ireturn, 1) := by decide +kernel
theorem dX10_count_167 : decode cX10_count 167 = .ok (.ldc 106, 2) := by decide +kernel
theorem dX10_count_169 : decode cX10_count 169 = .ok (.ireturn, 1) := by decide +kernel
theorem dJ9_max_7cf53_0 : decode cJ9_max_7cf53 0 = .ok (.iload_n 0, 1) := by decide +kernel
theorem dJ9_max_7cf53_1 : decode cJ9_max_7cf53 1 = .ok (.iload_n 1, 1) := by decide +kernel
theorem dJ9_max_7cf53_2 : decode cJ9_max_7cf53 2 = .ok (.if_icmp .lt 7, 3) := by decide +kernel
theorem dJ9_max_7cf53_5 : decode cJ9_max_7cf53 5 = .ok (.iload_n 0, 1) := by decide +kernel
theorem dJ9_max_7cf53_6 : decode cJ9_max_7cf53 6 = .ok (.goto 4, 3) := by decide +kernel
theorem dJ9_max_7cf53_9 : decode cJ9_max_7cf53 9 = .ok (.iload_n 1, 1) := by decide +kernel
theorem dJ9_max_7cf53_10 : decode cJ9_max_7cf53 10 = .ok (.ireturn, 1) := by decide +kernel
theorem dJ9_min_7cf53_0 : decode cJ9_min_7cf53 0 = .ok (.iload_n 0, 1) := by decide +kernel
theorem dJ9_min_7cf53_1 : decode cJ9_min_7cf53 1 = .ok (.iload_n 1, 1) := by decide +kernel
theorem dJ9_min_7cf53_2 : decode cJ9_min_7cf53 2 = .ok (.if_icmp .gt 7, 3) := by decide +kernel
theorem dJ9_min_7cf53_5 : decode cJ9_min_7cf53 5 = .ok (.iload_n 0, 1) := by decide +kernel
theorem dJ9_min_7cf53_6 : decode cJ9_min_7cf53 6 = .ok (.goto 4, 3) := by decide +kernel
theorem dJ9_min_7cf53_9 : decode cJ9_min_7cf53 9 = .ok (.iload_n 1, 1) := by decide +kernel
theorem dJ9_min_7cf53_10 : decode cJ9_min_7cf53 10 = .ok (.ireturn, 1) := by decide +kernel
theorem dJ0_length_8abf5_0 : decode cJ0_length_8abf5 0 = .ok (.aload_n 0, 1) := by decide +kernel
theorem dJ0_length_8abf5_1 : decode cJ0_length_8abf5 1 = .ok (.getfield 9, 3) := by decide +kernel
theorem dJ0_length_8abf5_4 : decode cJ0_length_8abf5 4 = .ok (.arraylength, 1) := by decide +kernel
theorem dJ0_length_8abf5_5 : decode cJ0_length_8abf5 5 = .ok (.aload_n 0, 1) := by decide +kernel
theorem dJ0_length_8abf5_6 : decode cJ0_length_8abf5 6 = .ok (.invokevirtual 335, 3) := by decide +kernel
theorem dJ0_length_8abf5_9 : decode cJ0_length_8abf5 9 = .ok (.ishr, 1) := by decide +kernel
theorem dJ0_length_8abf5_10 : decode cJ0_length_8abf5 10 = .ok (.ireturn, 1) := by decide +kernel
theorem dJ0_charAt_5068e_0 : decode cJ0_charAt_5068e 0 = .ok (.aload_n 0, 1) := by decide +kernel
theorem dJ0_charAt_5068e_1 : decode cJ0_charAt_5068e 1 = .ok (.invokevirtual 492, 3) := by decide +kernel
theorem dJ0_charAt_5068e_4 : decode cJ0_charAt_5068e 4 = .ok (.ifCond .eq 12, 3) := by decide +kernel
theorem dJ0_charAt_5068e_7 : decode cJ0_charAt_5068e 7 = .ok (.aload_n 0, 1) := by decide +kernel
theorem dJ0_charAt_5068e_8 : decode cJ0_charAt_5068e 8 = .ok (.getfield 9, 3) := by decide +kernel
theorem dJ0_charAt_5068e_11 : decode cJ0_charAt_5068e 11 = .ok (.iload_n 1, 1) := by decide +kernel
theorem dJ0_charAt_5068e_12 : decode cJ0_charAt_5068e 12 = .ok (.invokestatic 495, 3) := by decide +kernel
theorem dJ0_charAt_5068e_15 : decode cJ0_charAt_5068e 15 = .ok (.ireturn, 1) := by decide +kernel
theorem dJ0_charAt_5068e_16 : decode cJ0_charAt_5068e 16 = .ok (.aload_n 0, 1) := by decide +kernel
theorem dJ0_charAt_5068e_17 : decode cJ0_charAt_5068e 17 = .ok (.getfield 9, 3) := by decide +kernel
theorem dJ0_charAt_5068e_20 : decode cJ0_charAt_5068e 20 = .ok (.iload_n 1, 1) := by decide +kernel
theorem dJ0_charAt_5068e_21 : decode cJ0_charAt_5068e 21 = .ok (.invokestatic 498, 3) := by decide +kernel
theorem dJ0_charAt_5068e_24 : decode cJ0_charAt_5068e 24 = .ok (.ireturn, 1) := by decide +kernel
theorem dJ0_coder_7d493_0 : decode cJ0_coder_7d493 0 = .ok (.getstatic 38, 3) := by decide +kernel
theorem dJ0_coder_7d493_3 : decode cJ0_coder_7d493 3 = .ok (.ifCond .eq 10, 3) := by decide +kernel
theorem dJ0_coder_7d493_6 : decode cJ0_coder_7d493 6 = .ok (.aload_n 0, 1) := by decide +kernel
theorem dJ0_coder_7d493_7 : decode cJ0_coder_7d493 7 = .ok (.getfield 15, 3) := by decide +kernel
theorem dJ0_coder_7d493_10 : decode cJ0_coder_7d493 10 = .ok (.goto 4, 3) := by decide +kernel
theorem dJ0_coder_7d493_13 : decode cJ0_coder_7d493 13 = .ok (.iconst 1, 1) := by decide +kernel
theorem dJ0_coder_7d493_14 : decode cJ0_coder_7d493 14 = .ok (.ireturn, 1) := by decide +kernel
theorem dJ0_isLatin1_aae02_0 : decode cJ0_isLatin1_aae02 0 = .ok (.getstatic 38, 3) := by decide +kernel
theorem dJ0_isLatin1_aae02_3 : decode cJ0_isLatin1_aae02 3 = .ok (.ifCond .eq 14, 3) := by decide +kernel
theorem dJ0_isLatin1_aae02_6 : decode cJ0_isLatin1_aae02 6 = .ok (.aload_n 0, 1) := by decide +kernel
theorem dJ0_isLatin1_aae02_7 : decode cJ0_isLatin1_aae02 7 = .ok (.getfield 15, 3) := by decide +kernel
theorem dJ0_isLatin1_aae02_10 : decode cJ0_isLatin1_aae02 10 = .ok (.ifCond .ne 7, 3) := by decide +kernel
theorem dJ0_isLatin1_aae02_13 : decode cJ0_isLatin1_aae02 13 = .ok (.iconst 1, 1) := by decide +kernel
theorem dJ0_isLatin1_aae02_14 : decode cJ0_isLatin1_aae02 14 = .ok (.goto 4, 3) := by decide +kernel
theorem dJ0_isLatin1_aae02_17 : decode cJ0_isLatin1_aae02 17 = .ok (.iconst 0, 1) := by decide +kernel
theorem dJ0_isLatin1_aae02_18 : decode cJ0_isLatin1_aae02 18 = .ok (.ireturn, 1) := by decide +kernel
theorem dJ0_checkIndex_df160_0 : decode cJ0_checkIndex_df160 0 = .ok (.iload_n 0, 1) := by decide +kernel
theorem dJ0_checkIndex_df160_1 : decode cJ0_checkIndex_df160 1 = .ok (.iload_n 1, 1) := by decide +kernel
theorem dJ0_checkIndex_df160_2 : decode cJ0_checkIndex_df160 2 = .ok (.getstatic 1053, 3) := by decide +kernel
theorem dJ0_checkIndex_df160_5 : decode cJ0_checkIndex_df160 5 = .ok (.invokestatic 1059, 3) := by decide +kernel
theorem dJ0_checkIndex_df160_8 : decode cJ0_checkIndex_df160 8 = .ok (.pop, 1) := by decide +kernel
theorem dJ0_checkIndex_df160_9 : decode cJ0_checkIndex_df160 9 = .ok (.return_, 1) := by decide +kernel
theorem dJ1_charAt_3b067_0 : decode cJ1_charAt_3b067 0 = .ok (.iload_n 1, 1) := by decide +kernel
theorem dJ1_charAt_3b067_1 : decode cJ1_charAt_3b067 1 = .ok (.aload_n 0, 1) := by decide +kernel
theorem dJ1_charAt_3b067_2 : decode cJ1_charAt_3b067 2 = .ok (.arraylength, 1) := by decide +kernel
theorem dJ1_charAt_3b067_3 : decode cJ1_charAt_3b067 3 = .ok (.invokestatic 9, 3) := by decide +kernel
theorem dJ1_charAt_3b067_6 : decode cJ1_charAt_3b067 6 = .ok (.aload_n 0, 1) := by decide +kernel
theorem dJ1_charAt_3b067_7 : decode cJ1_charAt_3b067 7 = .ok (.iload_n 1, 1) := by decide +kernel
theorem dJ1_charAt_3b067_8 : decode cJ1_charAt_3b067 8 = .ok (.baload, 1) := by decide +kernel
theorem dJ1_charAt_3b067_9 : decode cJ1_charAt_3b067 9 = .ok (.sipush 255, 3) := by decide +kernel
theorem dJ1_charAt_3b067_12 : decode cJ1_charAt_3b067 12 = .ok (.iand, 1) := by decide +kernel
theorem dJ1_charAt_3b067_13 : decode cJ1_charAt_3b067 13 = .ok (.i2c, 1) := by decide +kernel
theorem dJ1_charAt_3b067_14 : decode cJ1_charAt_3b067 14 = .ok (.ireturn, 1) := by decide +kernel
theorem dJ2_getChar_3b067_0 : decode cJ2_getChar_3b067 0 = .ok (.getstatic 44, 3) := by decide +kernel
theorem dJ2_getChar_3b067_3 : decode cJ2_getChar_3b067 3 = .ok (.ifCond .ne 25, 3) := by decide +kernel
theorem dJ2_getChar_3b067_6 : decode cJ2_getChar_3b067 6 = .ok (.iload_n 1, 1) := by decide +kernel
theorem dJ2_getChar_3b067_7 : decode cJ2_getChar_3b067 7 = .ok (.ifCond .lt 11, 3) := by decide +kernel
theorem dJ2_getChar_3b067_10 : decode cJ2_getChar_3b067 10 = .ok (.iload_n 1, 1) := by decide +kernel
theorem dJ2_getChar_3b067_11 : decode cJ2_getChar_3b067 11 = .ok (.aload_n 0, 1) := by decide +kernel
theorem dJ2_getChar_3b067_12 : decode cJ2_getChar_3b067 12 = .ok (.invokestatic 48, 3) := by decide +kernel
theorem dJ2_getChar_3b067_15 : decode cJ2_getChar_3b067 15 = .ok (.if_icmp .lt 13, 3) := by decide +kernel
theorem dJ2_getChar_3b067_18 : decode cJ2_getChar_3b067 18 = .ok (.new 52, 3) := by decide +kernel
theorem dJ2_getChar_3b067_21 : decode cJ2_getChar_3b067 21 = .ok (.dup, 1) := by decide +kernel
theorem dJ2_getChar_3b067_22 : decode cJ2_getChar_3b067 22 = .ok (.ldc 54, 2) := by decide +kernel
theorem dJ2_getChar_3b067_24 : decode cJ2_getChar_3b067 24 = .ok (.invokespecial 56, 3) := by decide +kernel
theorem dJ2_getChar_3b067_27 : decode cJ2_getChar_3b067 27 = .ok (.athrow, 1) := by decide +kernel
theorem dJ2_getChar_3b067_28 : decode cJ2_getChar_3b067 28 = .ok (.iload_n 1, 1) := by decide +kernel
theorem dJ2_getChar_3b067_29 : decode cJ2_getChar_3b067 29 = .ok (.iconst 1, 1) := by decide +kernel
theorem dJ2_getChar_3b067_30 : decode cJ2_getChar_3b067 30 = .ok (.ishl, 1) := by decide +kernel
theorem dJ2_getChar_3b067_31 : decode cJ2_getChar_3b067 31 = .ok (.istore_n 1, 1) := by decide +kernel
theorem dJ2_getChar_3b067_32 : decode cJ2_getChar_3b067 32 = .ok (.aload_n 0, 1) := by decide +kernel
theorem dJ2_getChar_3b067_33 : decode cJ2_getChar_3b067 33 = .ok (.iload_n 1, 1) := by decide +kernel
theorem dJ2_getChar_3b067_34 : decode cJ2_getChar_3b067 34 = .ok (.iinc 1 1, 3) := by decide +kernel
theorem dJ2_getChar_3b067_37 : decode cJ2_getChar_3b067 37 = .ok (.baload, 1) := by decide +kernel
theorem dJ2_getChar_3b067_38 : decode cJ2_getChar_3b067 38 = .ok (.sipush 255, 3) := by decide +kernel
theorem dJ2_getChar_3b067_41 : decode cJ2_getChar_3b067 41 = .ok (.iand, 1) := by decide +kernel
theorem dJ2_getChar_3b067_42 : decode cJ2_getChar_3b067 42 = .ok (.getstatic 59, 3) := by decide +kernel
theorem dJ2_getChar_3b067_45 : decode cJ2_getChar_3b067 45 = .ok (.ishl, 1) := by decide +kernel
theorem dJ2_getChar_3b067_46 : decode cJ2_getChar_3b067 46 = .ok (.aload_n 0, 1) := by decide +kernel
theorem dJ2_getChar_3b067_47 : decode cJ2_getChar_3b067 47 = .ok (.iload_n 1, 1) := by decide +kernel
theorem dJ2_getChar_3b067_48 : decode cJ2_getChar_3b067 48 = .ok (.baload, 1) := by decide +kernel
theorem dJ2_getChar_3b067_49 : decode cJ2_getChar_3b067 49 = .ok (.sipush 255, 3) := by decide +kernel
theorem dJ2_getChar_3b067_52 : decode cJ2_getChar_3b067 52 = .ok (.iand, 1) := by decide +kernel
theorem dJ2_getChar_3b067_53 : decode cJ2_getChar_3b067 53 = .ok (.getstatic 63, 3) := by decide +kernel
theorem dJ2_getChar_3b067_56 : decode cJ2_getChar_3b067 56 = .ok (.ishl, 1) := by decide +kernel
theorem dJ2_getChar_3b067_57 : decode cJ2_getChar_3b067 57 = .ok (.ior, 1) := by decide +kernel
theorem dJ2_getChar_3b067_58 : decode cJ2_getChar_3b067 58 = .ok (.i2c, 1) := by decide +kernel
theorem dJ2_getChar_3b067_59 : decode cJ2_getChar_3b067 59 = .ok (.ireturn, 1) := by decide +kernel
theorem dJ2_length_9d52b_0 : decode cJ2_length_9d52b 0 = .ok (.aload_n 0, 1) := by decide +kernel
theorem dJ2_length_9d52b_1 : decode cJ2_length_9d52b 1 = .ok (.arraylength, 1) := by decide +kernel
theorem dJ2_length_9d52b_2 : decode cJ2_length_9d52b 2 = .ok (.iconst 1, 1) := by decide +kernel
theorem dJ2_length_9d52b_3 : decode cJ2_length_9d52b 3 = .ok (.ishr, 1) := by decide +kernel
theorem dJ2_length_9d52b_4 : decode cJ2_length_9d52b 4 = .ok (.ireturn, 1) := by decide +kernel
theorem dJ2_charAt_3b067_0 : decode cJ2_charAt_3b067 0 = .ok (.iload_n 1, 1) := by decide +kernel
theorem dJ2_charAt_3b067_1 : decode cJ2_charAt_3b067 1 = .ok (.aload_n 0, 1) := by decide +kernel
theorem dJ2_charAt_3b067_2 : decode cJ2_charAt_3b067 2 = .ok (.invokestatic 67, 3) := by decide +kernel
theorem dJ2_charAt_3b067_5 : decode cJ2_charAt_3b067 5 = .ok (.aload_n 0, 1) := by decide +kernel
theorem dJ2_charAt_3b067_6 : decode cJ2_charAt_3b067 6 = .ok (.iload_n 1, 1) := by decide +kernel
theorem dJ2_charAt_3b067_7 : decode cJ2_charAt_3b067 7 = .ok (.invokestatic 71, 3) := by decide +kernel
theorem dJ2_charAt_3b067_10 : decode cJ2_charAt_3b067 10 = .ok (.ireturn, 1) := by decide +kernel
theorem dJ2_checkIndex_2214a_0 : decode cJ2_checkIndex_2214a 0 = .ok (.iload_n 0, 1) := by decide +kernel
theorem dJ2_checkIndex_2214a_1 : decode cJ2_checkIndex_2214a 1 = .ok (.aload_n 1, 1) := by decide +kernel
theorem dJ2_checkIndex_2214a_2 : decode cJ2_checkIndex_2214a 2 = .ok (.invokestatic 48, 3) := by decide +kernel
theorem dJ2_checkIndex_2214a_5 : decode cJ2_checkIndex_2214a 5 = .ok (.invokestatic 414, 3) := by decide +kernel
theorem dJ2_checkIndex_2214a_8 : decode cJ2_checkIndex_2214a 8 = .ok (.return_, 1) := by decide +kernel
theorem dJ3_checkIndex_8e157_0 : decode cJ3_checkIndex_8e157 0 = .ok (.iload_n 0, 1) := by decide +kernel
theorem dJ3_checkIndex_8e157_1 : decode cJ3_checkIndex_8e157 1 = .ok (.ifCond .lt 8, 3) := by decide +kernel
theorem dJ3_checkIndex_8e157_4 : decode cJ3_checkIndex_8e157 4 = .ok (.iload_n 0, 1) := by decide +kernel
theorem dJ3_checkIndex_8e157_5 : decode cJ3_checkIndex_8e157 5 = .ok (.iload_n 1, 1) := by decide +kernel
theorem dJ3_checkIndex_8e157_6 : decode cJ3_checkIndex_8e157 6 = .ok (.if_icmp .lt 10, 3) := by decide +kernel
theorem dJ3_checkIndex_8e157_9 : decode cJ3_checkIndex_8e157 9 = .ok (.aload_n 2, 1) := by decide +kernel
theorem dJ3_checkIndex_8e157_10 : decode cJ3_checkIndex_8e157 10 = .ok (.iload_n 0, 1) := by decide +kernel
theorem dJ3_checkIndex_8e157_11 : decode cJ3_checkIndex_8e157 11 = .ok (.iload_n 1, 1) := by decide +kernel
theorem dJ3_checkIndex_8e157_12 : decode cJ3_checkIndex_8e157 12 = .ok (.invokestatic 95, 3) := by decide +kernel
theorem dJ3_checkIndex_8e157_15 : decode cJ3_checkIndex_8e157 15 = .ok (.athrow, 1) := by decide +kernel
theorem dJ3_checkIndex_8e157_16 : decode cJ3_checkIndex_8e157 16 = .ok (.iload_n 0, 1) := by decide +kernel
theorem dJ3_checkIndex_8e157_17 : decode cJ3_checkIndex_8e157 17 = .ok (.ireturn, 1) := by decide +kernel
theorem dL_law_0 : decode cL_law 0 = .ok (.new 7, 3) := by decide +kernel
theorem dL_law_3 : decode cL_law 3 = .ok (.dup, 1) := by decide +kernel
theorem dL_law_4 : decode cL_law 4 = .ok (.invokespecial 9, 3) := by decide +kernel
theorem dL_law_7 : decode cL_law 7 = .ok (.astore_n 1, 1) := by decide +kernel
theorem dL_law_8 : decode cL_law 8 = .ok (.new 10, 3) := by decide +kernel
theorem dL_law_11 : decode cL_law 11 = .ok (.dup, 1) := by decide +kernel
theorem dL_law_12 : decode cL_law 12 = .ok (.invokespecial 12, 3) := by decide +kernel
theorem dL_law_15 : decode cL_law 15 = .ok (.astore_n 2, 1) := by decide +kernel
theorem dL_law_16 : decode cL_law 16 = .ok (.iconst 0, 1) := by decide +kernel
theorem dL_law_17 : decode cL_law 17 = .ok (.istore_n 3, 1) := by decide +kernel
theorem dL_law_18 : decode cL_law 18 = .ok (.iload_n 3, 1) := by decide +kernel
theorem dL_law_19 : decode cL_law 19 = .ok (.aload_n 0, 1) := by decide +kernel
theorem dL_law_20 : decode cL_law 20 = .ok (.arraylength, 1) := by decide +kernel
theorem dL_law_21 : decode cL_law 21 = .ok (.bipush 6, 2) := by decide +kernel
theorem dL_law_23 : decode cL_law 23 = .ok (.isub, 1) := by decide +kernel
theorem dL_law_24 : decode cL_law 24 = .ok (.if_icmp .gt 814, 3) := by decide +kernel
theorem dL_law_27 : decode cL_law 27 = .ok (.aload_n 0, 1) := by decide +kernel
theorem dL_law_28 : decode cL_law 28 = .ok (.iload_n 3, 1) := by decide +kernel
theorem dL_law_29 : decode cL_law 29 = .ok (.iaload, 1) := by decide +kernel
theorem dL_law_30 : decode cL_law 30 = .ok (.bipush 31, 2) := by decide +kernel
theorem dL_law_32 : decode cL_law 32 = .ok (.iand, 1) := by decide +kernel
theorem dL_law_33 : decode cL_law 33 = .ok (.tableswitch 799 0 21 #[103, 126, 169, 202, 235, 278, 321, 384, 407, 450, 473, 486, 519, 542, 575, 608, 641, 664, 697, 730, 743, 776], 103) := by decide +kernel
theorem dL_law_136 : decode cL_law 136 = .ok (.aload_n 1, 1) := by decide +kernel
theorem dL_law_137 : decode cL_law 137 = .ok (.aload_n 0, 1) := by decide +kernel
theorem dL_law_138 : decode cL_law 138 = .ok (.iload_n 3, 1) := by decide +kernel
theorem dL_law_139 : decode cL_law 139 = .ok (.iconst 1, 1) := by decide +kernel
theorem dL_law_140 : decode cL_law 140 = .ok (.iadd, 1) := by decide +kernel
theorem dL_law_141 : decode cL_law 141 = .ok (.iaload, 1) := by decide +kernel
theorem dL_law_142 : decode cL_law 142 = .ok (.invokevirtual 13, 3) := by decide +kernel
theorem dL_law_145 : decode cL_law 145 = .ok (.aload_n 2, 1) := by decide +kernel
theorem dL_law_146 : decode cL_law 146 = .ok (.aload_n 0, 1) := by decide +kernel
theorem dL_law_147 : decode cL_law 147 = .ok (.iload_n 3, 1) := by decide +kernel
theorem dL_law_148 : decode cL_law 148 = .ok (.iconst 1, 1) := by decide +kernel
theorem dL_law_149 : decode cL_law 149 = .ok (.iadd, 1) := by decide +kernel
theorem dL_law_150 : decode cL_law 150 = .ok (.iaload, 1) := by decide +kernel
theorem dL_law_151 : decode cL_law 151 = .ok (.invokevirtual 17, 3) := by decide +kernel
theorem dL_law_154 : decode cL_law 154 = .ok (.if_icmp .eq 678, 3) := by decide +kernel
theorem dL_law_157 : decode cL_law 157 = .ok (.iconst 0, 1) := by decide +kernel
theorem dL_law_158 : decode cL_law 158 = .ok (.ireturn, 1) := by decide +kernel
theorem dL_law_159 : decode cL_law 159 = .ok (.aload_n 1, 1) := by decide +kernel
theorem dL_law_160 : decode cL_law 160 = .ok (.aload_n 0, 1) := by decide +kernel
theorem dL_law_161 : decode cL_law 161 = .ok (.iload_n 3, 1) := by decide +kernel
theorem dL_law_162 : decode cL_law 162 = .ok (.iconst 1, 1) := by decide +kernel
theorem dL_law_163 : decode cL_law 163 = .ok (.iadd, 1) := by decide +kernel
theorem dL_law_164 : decode cL_law 164 = .ok (.iaload, 1) := by decide +kernel
theorem dL_law_165 : decode cL_law 165 = .ok (.aload_n 0, 1) := by decide +kernel
theorem dL_law_166 : decode cL_law 166 = .ok (.iload_n 3, 1) := by decide +kernel
theorem dL_law_167 : decode cL_law 167 = .ok (.iconst 2, 1) := by decide +kernel
theorem dL_law_168 : decode cL_law 168 = .ok (.iadd, 1) := by decide +kernel
theorem dL_law_169 : decode cL_law 169 = .ok (.iaload, 1) := by decide +kernel
theorem dL_law_170 : decode cL_law 170 = .ok (.aload_n 0, 1) := by decide +kernel
theorem dL_law_171 : decode cL_law 171 = .ok (.iload_n 3, 1) := by decide +kernel
theorem dL_law_172 : decode cL_law 172 = .ok (.iconst 3, 1) := by decide +kernel
theorem dL_law_173 : decode cL_law 173 = .ok (.iadd, 1) := by decide +kernel
theorem dL_law_174 : decode cL_law 174 = .ok (.iaload, 1) := by decide +kernel
theorem dL_law_175 : decode cL_law 175 = .ok (.invokevirtual 18, 3) := by decide +kernel
theorem dL_law_178 : decode cL_law 178 = .ok (.aload_n 2, 1) := by decide +kernel
theorem dL_law_179 : decode cL_law 179 = .ok (.aload_n 0, 1) := by decide +kernel
theorem dL_law_180 : decode cL_law 180 = .ok (.iload_n 3, 1) := by decide +kernel
theorem dL_law_181 : decode cL_law 181 = .ok (.iconst 1, 1) := by decide +kernel
theorem dL_law_182 : decode cL_law 182 = .ok (.iadd, 1) := by decide +kernel
theorem dL_law_183 : decode cL_law 183 = .ok (.iaload, 1) := by decide +kernel
theorem dL_law_184 : decode cL_law 184 = .ok (.aload_n 0, 1) := by decide +kernel
theorem dL_law_185 : decode cL_law 185 = .ok (.iload_n 3, 1) := by decide +kernel
theorem dL_law_186 : decode cL_law 186 = .ok (.iconst 2, 1) := by decide +kernel
theorem dL_law_187 : decode cL_law 187 = .ok (.iadd, 1) := by decide +kernel
theorem dL_law_188 : decode cL_law 188 = .ok (.iaload, 1) := by decide +kernel
theorem dL_law_189 : decode cL_law 189 = .ok (.aload_n 0, 1) := by decide +kernel
theorem dL_law_190 : decode cL_law 190 = .ok (.iload_n 3, 1) := by decide +kernel
theorem dL_law_191 : decode cL_law 191 = .ok (.iconst 3, 1) := by decide +kernel
theorem dL_law_192 : decode cL_law 192 = .ok (.iadd, 1) := by decide +kernel
theorem dL_law_193 : decode cL_law 193 = .ok (.iaload, 1) := by decide +kernel
theorem dL_law_194 : decode cL_law 194 = .ok (.invokevirtual 22, 3) := by decide +kernel
theorem dL_law_197 : decode cL_law 197 = .ok (.if_icmp .eq 635, 3) := by decide +kernel
theorem dL_law_200 : decode cL_law 200 = .ok (.iconst 0, 1) := by decide +kernel
theorem dL_law_201 : decode cL_law 201 = .ok (.ireturn, 1) := by decide +kernel
theorem dL_law_202 : decode cL_law 202 = .ok (.aload_n 1, 1) := by decide +kernel
theorem dL_law_203 : decode cL_law 203 = .ok (.aload_n 0, 1) := by decide +kernel
theorem dL_law_204 : decode cL_law 204 = .ok (.iload_n 3, 1) := by decide +kernel
theorem dL_law_205 : decode cL_law 205 = .ok (.iconst 1, 1) := by decide +kernel
theorem dL_law_206 : decode cL_law 206 = .ok (.iadd, 1) := by decide +kernel
theorem dL_law_207 : decode cL_law 207 = .ok (.iaload, 1) := by decide +kernel
theorem dL_law_208 : decode cL_law 208 = .ok (.aload_n 0, 1) := by decide +kernel
theorem dL_law_209 : decode cL_law 209 = .ok (.iload_n 3, 1) := by decide +kernel
theorem dL_law_210 : decode cL_law 210 = .ok (.iconst 2, 1) := by decide +kernel
theorem dL_law_211 : decode cL_law 211 = .ok (.iadd, 1) := by decide +kernel
theorem dL_law_212 : decode cL_law 212 = .ok (.iaload, 1) := by decide +kernel
theorem dL_law_213 : decode cL_law 213 = .ok (.invokevirtual 23, 3) := by decide +kernel
theorem dL_law_216 : decode cL_law 216 = .ok (.aload_n 2, 1) := by decide +kernel
theorem dL_law_217 : decode cL_law 217 = .ok (.aload_n 0, 1) := by decide +kernel
theorem dL_law_218 : decode cL_law 218 = .ok (.iload_n 3, 1) := by decide +kernel
theorem dL_law_219 : decode cL_law 219 = .ok (.iconst 1, 1) := by decide +kernel
theorem dL_law_220 : decode cL_law 220 = .ok (.iadd, 1) := by decide +kernel
theorem dL_law_221 : decode cL_law 221 = .ok (.iaload, 1) := by decide +kernel
theorem dL_law_222 : decode cL_law 222 = .ok (.aload_n 0, 1) := by decide +kernel
theorem dL_law_223 : decode cL_law 223 = .ok (.iload_n 3, 1) := by decide +kernel
theorem dL_law_224 : decode cL_law 224 = .ok (.iconst 2, 1) := by decide +kernel
theorem dL_law_225 : decode cL_law 225 = .ok (.iadd, 1) := by decide +kernel
theorem dL_law_226 : decode cL_law 226 = .ok (.iaload, 1) := by decide +kernel
theorem dL_law_227 : decode cL_law 227 = .ok (.invokevirtual 27, 3) := by decide +kernel
theorem dL_law_230 : decode cL_law 230 = .ok (.if_icmp .eq 602, 3) := by decide +kernel
theorem dL_law_233 : decode cL_law 233 = .ok (.iconst 0, 1) := by decide +kernel
theorem dL_law_234 : decode cL_law 234 = .ok (.ireturn, 1) := by decide +kernel
theorem dL_law_235 : decode cL_law 235 = .ok (.aload_n 1, 1) := by decide +kernel
theorem dL_law_236 : decode cL_law 236 = .ok (.aload_n 0, 1) := by decide +kernel
theorem dL_law_237 : decode cL_law 237 = .ok (.iload_n 3, 1) := by decide +kernel
theorem dL_law_238 : decode cL_law 238 = .ok (.iconst 1, 1) := by decide +kernel
theorem dL_law_239 : decode cL_law 239 = .ok (.iadd, 1) := by decide +kernel
theorem dL_law_240 : decode cL_law 240 = .ok (.iaload, 1) := by decide +kernel
theorem dL_law_241 : decode cL_law 241 = .ok (.aload_n 0, 1) := by decide +kernel
theorem dL_law_242 : decode cL_law 242 = .ok (.iload_n 3, 1) := by decide +kernel
theorem dL_law_243 : decode cL_law 243 = .ok (.iconst 2, 1) := by decide +kernel
theorem dL_law_244 : decode cL_law 244 = .ok (.iadd, 1) := by decide +kernel
theorem dL_law_245 : decode cL_law 245 = .ok (.iaload, 1) := by decide +kernel
theorem dL_law_246 : decode cL_law 246 = .ok (.invokevirtual 28, 3) := by decide +kernel
theorem dL_law_249 : decode cL_law 249 = .ok (.aload_n 2, 1) := by decide +kernel
theorem dL_law_250 : decode cL_law 250 = .ok (.aload_n 0, 1) := by decide +kernel
theorem dL_law_251 : decode cL_law 251 = .ok (.iload_n 3, 1) := by decide +kernel
theorem dL_law_252 : decode cL_law 252 = .ok (.iconst 1, 1) := by decide +kernel
theorem dL_law_253 : decode cL_law 253 = .ok (.iadd, 1) := by decide +kernel
theorem dL_law_254 : decode cL_law 254 = .ok (.iaload, 1) := by decide +kernel
theorem dL_law_255 : decode cL_law 255 = .ok (.aload_n 0, 1) := by decide +kernel
theorem dL_law_256 : decode cL_law 256 = .ok (.iload_n 3, 1) := by decide +kernel
theorem dL_law_257 : decode cL_law 257 = .ok (.iconst 2, 1) := by decide +kernel
theorem dL_law_258 : decode cL_law 258 = .ok (.iadd, 1) := by decide +kernel
theorem dL_law_259 : decode cL_law 259 = .ok (.iaload, 1) := by decide +kernel
theorem dL_law_260 : decode cL_law 260 = .ok (.invokevirtual 31, 3) := by decide +kernel
theorem dL_law_263 : decode cL_law 263 = .ok (.if_icmp .eq 569, 3) := by decide +kernel
theorem dL_law_266 : decode cL_law 266 = .ok (.iconst 0, 1) := by decide +kernel
theorem dL_law_267 : decode cL_law 267 = .ok (.ireturn, 1) := by decide +kernel
theorem dL_law_268 : decode cL_law 268 = .ok (.aload_n 1, 1) := by decide +kernel
theorem dL_law_269 : decode cL_law 269 = .ok (.aload_n 0, 1) := by decide +kernel
theorem dL_law_270 : decode cL_law 270 = .ok (.iload_n 3, 1) := by decide +kernel
theorem dL_law_271 : decode cL_law 271 = .ok (.iconst 1, 1) := by decide +kernel
theorem dL_law_272 : decode cL_law 272 = .ok (.iadd, 1) := by decide +kernel
theorem dL_law_273 : decode cL_law 273 = .ok (.iaload, 1) := by decide +kernel
theorem dL_law_274 : decode cL_law 274 = .ok (.aload_n 0, 1) := by decide +kernel
theorem dL_law_275 : decode cL_law 275 = .ok (.iload_n 3, 1) := by decide +kernel
theorem dL_law_276 : decode cL_law 276 = .ok (.iconst 2, 1) := by decide +kernel
theorem dL_law_277 : decode cL_law 277 = .ok (.iadd, 1) := by decide +kernel
theorem dL_law_278 : decode cL_law 278 = .ok (.iaload, 1) := by decide +kernel
theorem dL_law_279 : decode cL_law 279 = .ok (.aload_n 0, 1) := by decide +kernel
theorem dL_law_280 : decode cL_law 280 = .ok (.iload_n 3, 1) := by decide +kernel
theorem dL_law_281 : decode cL_law 281 = .ok (.iconst 3, 1) := by decide +kernel
theorem dL_law_282 : decode cL_law 282 = .ok (.iadd, 1) := by decide +kernel
theorem dL_law_283 : decode cL_law 283 = .ok (.iaload, 1) := by decide +kernel
theorem dL_law_284 : decode cL_law 284 = .ok (.invokevirtual 32, 3) := by decide +kernel
theorem dL_law_287 : decode cL_law 287 = .ok (.aload_n 2, 1) := by decide +kernel
theorem dL_law_288 : decode cL_law 288 = .ok (.aload_n 0, 1) := by decide +kernel
theorem dL_law_289 : decode cL_law 289 = .ok (.iload_n 3, 1) := by decide +kernel
theorem dL_law_290 : decode cL_law 290 = .ok (.iconst 1, 1) := by decide +kernel
theorem dL_law_291 : decode cL_law 291 = .ok (.iadd, 1) := by decide +kernel
theorem dL_law_292 : decode cL_law 292 = .ok (.iaload, 1) := by decide +kernel
theorem dL_law_293 : decode cL_law 293 = .ok (.aload_n 0, 1) := by decide +kernel
theorem dL_law_294 : decode cL_law 294 = .ok (.iload_n 3, 1) := by decide +kernel
theorem dL_law_295 : decode cL_law 295 = .ok (.iconst 2, 1) := by decide +kernel
theorem dL_law_296 : decode cL_law 296 = .ok (.iadd, 1) := by decide +kernel
theorem dL_law_297 : decode cL_law 297 = .ok (.iaload, 1) := by decide +kernel
theorem dL_law_298 : decode cL_law 298 = .ok (.aload_n 0, 1) := by decide +kernel
theorem dL_law_299 : decode cL_law 299 = .ok (.iload_n 3, 1) := by decide +kernel
theorem dL_law_300 : decode cL_law 300 = .ok (.iconst 3, 1) := by decide +kernel
theorem dL_law_301 : decode cL_law 301 = .ok (.iadd, 1) := by decide +kernel
theorem dL_law_302 : decode cL_law 302 = .ok (.iaload, 1) := by decide +kernel
theorem dL_law_303 : decode cL_law 303 = .ok (.invokevirtual 35, 3) := by decide +kernel
theorem dL_law_306 : decode cL_law 306 = .ok (.if_icmp .eq 526, 3) := by decide +kernel
theorem dL_law_309 : decode cL_law 309 = .ok (.iconst 0, 1) := by decide +kernel
theorem dL_law_310 : decode cL_law 310 = .ok (.ireturn, 1) := by decide +kernel
theorem dL_law_311 : decode cL_law 311 = .ok (.aload_n 1, 1) := by decide +kernel
theorem dL_law_312 : decode cL_law 312 = .ok (.aload_n 0, 1) := by decide +kernel
theorem dL_law_313 : decode cL_law 313 = .ok (.iload_n 3, 1) := by decide +kernel
theorem dL_law_314 : decode cL_law 314 = .ok (.iconst 1, 1) := by decide +kernel
theorem dL_law_315 : decode cL_law 315 = .ok (.iadd, 1) := by decide +kernel
theorem dL_law_316 : decode cL_law 316 = .ok (.iaload, 1) := by decide +kernel
theorem dL_law_317 : decode cL_law 317 = .ok (.aload_n 0, 1) := by decide +kernel
theorem dL_law_318 : decode cL_law 318 = .ok (.iload_n 3, 1) := by decide +kernel
theorem dL_law_319 : decode cL_law 319 = .ok (.iconst 2, 1) := by decide +kernel
theorem dL_law_320 : decode cL_law 320 = .ok (.iadd, 1) := by decide +kernel
theorem dL_law_321 : decode cL_law 321 = .ok (.iaload, 1) := by decide +kernel
theorem dL_law_322 : decode cL_law 322 = .ok (.aload_n 0, 1) := by decide +kernel
theorem dL_law_323 : decode cL_law 323 = .ok (.iload_n 3, 1) := by decide +kernel
theorem dL_law_324 : decode cL_law 324 = .ok (.iconst 3, 1) := by decide +kernel
theorem dL_law_325 : decode cL_law 325 = .ok (.iadd, 1) := by decide +kernel
theorem dL_law_326 : decode cL_law 326 = .ok (.iaload, 1) := by decide +kernel
theorem dL_law_327 : decode cL_law 327 = .ok (.invokevirtual 36, 3) := by decide +kernel
theorem dL_law_330 : decode cL_law 330 = .ok (.aload_n 2, 1) := by decide +kernel
theorem dL_law_331 : decode cL_law 331 = .ok (.aload_n 0, 1) := by decide +kernel
theorem dL_law_332 : decode cL_law 332 = .ok (.iload_n 3, 1) := by decide +kernel
theorem dL_law_333 : decode cL_law 333 = .ok (.iconst 1, 1) := by decide +kernel
theorem dL_law_334 : decode cL_law 334 = .ok (.iadd, 1) := by decide +kernel
theorem dL_law_335 : decode cL_law 335 = .ok (.iaload, 1) := by decide +kernel
theorem dL_law_336 : decode cL_law 336 = .ok (.aload_n 0, 1) := by decide +kernel
theorem dL_law_337 : decode cL_law 337 = .ok (.iload_n 3, 1) := by decide +kernel
theorem dL_law_338 : decode cL_law 338 = .ok (.iconst 2, 1) := by decide +kernel
theorem dL_law_339 : decode cL_law 339 = .ok (.iadd, 1) := by decide +kernel
theorem dL_law_340 : decode cL_law 340 = .ok (.iaload, 1) := by decide +kernel
theorem dL_law_341 : decode cL_law 341 = .ok (.aload_n 0, 1) := by decide +kernel
theorem dL_law_342 : decode cL_law 342 = .ok (.iload_n 3, 1) := by decide +kernel
theorem dL_law_343 : decode cL_law 343 = .ok (.iconst 3, 1) := by decide +kernel
theorem dL_law_344 : decode cL_law 344 = .ok (.iadd, 1) := by decide +kernel
theorem dL_law_345 : decode cL_law 345 = .ok (.iaload, 1) := by decide +kernel
theorem dL_law_346 : decode cL_law 346 = .ok (.invokevirtual 39, 3) := by decide +kernel
theorem dL_law_349 : decode cL_law 349 = .ok (.if_icmp .eq 483, 3) := by decide +kernel
theorem dL_law_352 : decode cL_law 352 = .ok (.iconst 0, 1) := by decide +kernel
theorem dL_law_353 : decode cL_law 353 = .ok (.ireturn, 1) := by decide +kernel
theorem dL_law_354 : decode cL_law 354 = .ok (.aload_n 1, 1) := by decide +kernel
theorem dL_law_355 : decode cL_law 355 = .ok (.aload_n 0, 1) := by decide +kernel
theorem dL_law_356 : decode cL_law 356 = .ok (.iload_n 3, 1) := by decide +kernel
theorem dL_law_357 : decode cL_law 357 = .ok (.iconst 1, 1) := by decide +kernel
theorem dL_law_358 : decode cL_law 358 = .ok (.iadd, 1) := by decide +kernel
theorem dL_law_359 : decode cL_law 359 = .ok (.iaload, 1) := by decide +kernel
theorem dL_law_360 : decode cL_law 360 = .ok (.aload_n 0, 1) := by decide +kernel
theorem dL_law_361 : decode cL_law 361 = .ok (.iload_n 3, 1) := by decide +kernel
theorem dL_law_362 : decode cL_law 362 = .ok (.iconst 2, 1) := by decide +kernel
theorem dL_law_363 : decode cL_law 363 = .ok (.iadd, 1) := by decide +kernel
theorem dL_law_364 : decode cL_law 364 = .ok (.iaload, 1) := by decide +kernel
theorem dL_law_365 : decode cL_law 365 = .ok (.aload_n 0, 1) := by decide +kernel
theorem dL_law_366 : decode cL_law 366 = .ok (.iload_n 3, 1) := by decide +kernel
theorem dL_law_367 : decode cL_law 367 = .ok (.iconst 3, 1) := by decide +kernel
theorem dL_law_368 : decode cL_law 368 = .ok (.iadd, 1) := by decide +kernel
theorem dL_law_369 : decode cL_law 369 = .ok (.iaload, 1) := by decide +kernel
theorem dL_law_370 : decode cL_law 370 = .ok (.aload_n 0, 1) := by decide +kernel
theorem dL_law_371 : decode cL_law 371 = .ok (.iload_n 3, 1) := by decide +kernel
theorem dL_law_372 : decode cL_law 372 = .ok (.iconst 4, 1) := by decide +kernel
theorem dL_law_373 : decode cL_law 373 = .ok (.iadd, 1) := by decide +kernel
theorem dL_law_374 : decode cL_law 374 = .ok (.iaload, 1) := by decide +kernel
theorem dL_law_375 : decode cL_law 375 = .ok (.aload_n 0, 1) := by decide +kernel
theorem dL_law_376 : decode cL_law 376 = .ok (.iload_n 3, 1) := by decide +kernel
theorem dL_law_377 : decode cL_law 377 = .ok (.iconst 5, 1) := by decide +kernel
theorem dL_law_378 : decode cL_law 378 = .ok (.iadd, 1) := by decide +kernel
theorem dL_law_379 : decode cL_law 379 = .ok (.iaload, 1) := by decide +kernel
theorem dL_law_380 : decode cL_law 380 = .ok (.invokevirtual 40, 3) := by decide +kernel
theorem dL_law_383 : decode cL_law 383 = .ok (.aload_n 2, 1) := by decide +kernel
theorem dL_law_384 : decode cL_law 384 = .ok (.aload_n 0, 1) := by decide +kernel
theorem dL_law_385 : decode cL_law 385 = .ok (.iload_n 3, 1) := by decide +kernel
theorem dL_law_386 : decode cL_law 386 = .ok (.iconst 1, 1) := by decide +kernel
theorem dL_law_387 : decode cL_law 387 = .ok (.iadd, 1) := by decide +kernel
theorem dL_law_388 : decode cL_law 388 = .ok (.iaload, 1) := by decide +kernel
theorem dL_law_389 : decode cL_law 389 = .ok (.aload_n 0, 1) := by decide +kernel
theorem dL_law_390 : decode cL_law 390 = .ok (.iload_n 3, 1) := by decide +kernel
theorem dL_law_391 : decode cL_law 391 = .ok (.iconst 2, 1) := by decide +kernel
theorem dL_law_392 : decode cL_law 392 = .ok (.iadd, 1) := by decide +kernel
theorem dL_law_393 : decode cL_law 393 = .ok (.iaload, 1) := by decide +kernel
theorem dL_law_394 : decode cL_law 394 = .ok (.aload_n 0, 1) := by decide +kernel
theorem dL_law_395 : decode cL_law 395 = .ok (.iload_n 3, 1) := by decide +kernel
theorem dL_law_396 : decode cL_law 396 = .ok (.iconst 3, 1) := by decide +kernel
theorem dL_law_397 : decode cL_law 397 = .ok (.iadd, 1) := by decide +kernel
theorem dL_law_398 : decode cL_law 398 = .ok (.iaload, 1) := by decide +kernel
theorem dL_law_399 : decode cL_law 399 = .ok (.aload_n 0, 1) := by decide +kernel
theorem dL_law_400 : decode cL_law 400 = .ok (.iload_n 3, 1) := by decide +kernel
theorem dL_law_401 : decode cL_law 401 = .ok (.iconst 4, 1) := by decide +kernel
theorem dL_law_402 : decode cL_law 402 = .ok (.iadd, 1) := by decide +kernel
theorem dL_law_403 : decode cL_law 403 = .ok (.iaload, 1) := by decide +kernel
theorem dL_law_404 : decode cL_law 404 = .ok (.aload_n 0, 1) := by decide +kernel
theorem dL_law_405 : decode cL_law 405 = .ok (.iload_n 3, 1) := by decide +kernel
theorem dL_law_406 : decode cL_law 406 = .ok (.iconst 5, 1) := by decide +kernel
theorem dL_law_407 : decode cL_law 407 = .ok (.iadd, 1) := by decide +kernel
theorem dL_law_408 : decode cL_law 408 = .ok (.iaload, 1) := by decide +kernel
theorem dL_law_409 : decode cL_law 409 = .ok (.invokevirtual 44, 3) := by decide +kernel
theorem dL_law_412 : decode cL_law 412 = .ok (.if_icmp .eq 420, 3) := by decide +kernel
theorem dL_law_415 : decode cL_law 415 = .ok (.iconst 0, 1) := by decide +kernel
theorem dL_law_416 : decode cL_law 416 = .ok (.ireturn, 1) := by decide +kernel
theorem dL_law_417 : decode cL_law 417 = .ok (.aload_n 1, 1) := by decide +kernel
theorem dL_law_418 : decode cL_law 418 = .ok (.aload_n 0, 1) := by decide +kernel
theorem dL_law_419 : decode cL_law 419 = .ok (.iload_n 3, 1) := by decide +kernel
theorem dL_law_420 : decode cL_law 420 = .ok (.iconst 1, 1) := by decide +kernel
theorem dL_law_421 : decode cL_law 421 = .ok (.iadd, 1) := by decide +kernel
theorem dL_law_422 : decode cL_law 422 = .ok (.iaload, 1) := by decide +kernel
theorem dL_law_423 : decode cL_law 423 = .ok (.invokevirtual 45, 3) := by decide +kernel
theorem dL_law_426 : decode cL_law 426 = .ok (.aload_n 2, 1) := by decide +kernel
theorem dL_law_427 : decode cL_law 427 = .ok (.aload_n 0, 1) := by decide +kernel
theorem dL_law_428 : decode cL_law 428 = .ok (.iload_n 3, 1) := by decide +kernel
theorem dL_law_429 : decode cL_law 429 = .ok (.iconst 1, 1) := by decide +kernel
theorem dL_law_430 : decode cL_law 430 = .ok (.iadd, 1) := by decide +kernel
theorem dL_law_431 : decode cL_law 431 = .ok (.iaload, 1) := by decide +kernel
theorem dL_law_432 : decode cL_law 432 = .ok (.invokevirtual 48, 3) := by decide +kernel
theorem dL_law_435 : decode cL_law 435 = .ok (.if_icmp .eq 397, 3) := by decide +kernel
theorem dL_law_438 : decode cL_law 438 = .ok (.iconst 0, 1) := by decide +kernel
theorem dL_law_439 : decode cL_law 439 = .ok (.ireturn, 1) := by decide +kernel
theorem dL_law_440 : decode cL_law 440 = .ok (.aload_n 1, 1) := by decide +kernel
theorem dL_law_441 : decode cL_law 441 = .ok (.aload_n 0, 1) := by decide +kernel
theorem dL_law_442 : decode cL_law 442 = .ok (.iload_n 3, 1) := by decide +kernel
theorem dL_law_443 : decode cL_law 443 = .ok (.iconst 1, 1) := by decide +kernel
theorem dL_law_444 : decode cL_law 444 = .ok (.iadd, 1) := by decide +kernel
theorem dL_law_445 : decode cL_law 445 = .ok (.iaload, 1) := by decide +kernel
theorem dL_law_446 : decode cL_law 446 = .ok (.aload_n 0, 1) := by decide +kernel
theorem dL_law_447 : decode cL_law 447 = .ok (.iload_n 3, 1) := by decide +kernel
theorem dL_law_448 : decode cL_law 448 = .ok (.iconst 2, 1) := by decide +kernel
theorem dL_law_449 : decode cL_law 449 = .ok (.iadd, 1) := by decide +kernel
theorem dL_law_450 : decode cL_law 450 = .ok (.iaload, 1) := by decide +kernel
theorem dL_law_451 : decode cL_law 451 = .ok (.aload_n 0, 1) := by decide +kernel
theorem dL_law_452 : decode cL_law 452 = .ok (.iload_n 3, 1) := by decide +kernel
theorem dL_law_453 : decode cL_law 453 = .ok (.iconst 3, 1) := by decide +kernel
theorem dL_law_454 : decode cL_law 454 = .ok (.iadd, 1) := by decide +kernel
theorem dL_law_455 : decode cL_law 455 = .ok (.iaload, 1) := by decide +kernel
theorem dL_law_456 : decode cL_law 456 = .ok (.invokevirtual 49, 3) := by decide +kernel
theorem dL_law_459 : decode cL_law 459 = .ok (.aload_n 2, 1) := by decide +kernel
theorem dL_law_460 : decode cL_law 460 = .ok (.aload_n 0, 1) := by decide +kernel
theorem dL_law_461 : decode cL_law 461 = .ok (.iload_n 3, 1) := by decide +kernel
theorem dL_law_462 : decode cL_law 462 = .ok (.iconst 1, 1) := by decide +kernel
theorem dL_law_463 : decode cL_law 463 = .ok (.iadd, 1) := by decide +kernel
theorem dL_law_464 : decode cL_law 464 = .ok (.iaload, 1) := by decide +kernel
theorem dL_law_465 : decode cL_law 465 = .ok (.aload_n 0, 1) := by decide +kernel
theorem dL_law_466 : decode cL_law 466 = .ok (.iload_n 3, 1) := by decide +kernel
theorem dL_law_467 : decode cL_law 467 = .ok (.iconst 2, 1) := by decide +kernel
theorem dL_law_468 : decode cL_law 468 = .ok (.iadd, 1) := by decide +kernel
theorem dL_law_469 : decode cL_law 469 = .ok (.iaload, 1) := by decide +kernel
theorem dL_law_470 : decode cL_law 470 = .ok (.aload_n 0, 1) := by decide +kernel
theorem dL_law_471 : decode cL_law 471 = .ok (.iload_n 3, 1) := by decide +kernel
theorem dL_law_472 : decode cL_law 472 = .ok (.iconst 3, 1) := by decide +kernel
theorem dL_law_473 : decode cL_law 473 = .ok (.iadd, 1) := by decide +kernel
theorem dL_law_474 : decode cL_law 474 = .ok (.iaload, 1) := by decide +kernel
theorem dL_law_475 : decode cL_law 475 = .ok (.invokevirtual 52, 3) := by decide +kernel
theorem dL_law_478 : decode cL_law 478 = .ok (.if_icmp .eq 354, 3) := by decide +kernel
theorem dL_law_481 : decode cL_law 481 = .ok (.iconst 0, 1) := by decide +kernel
theorem dL_law_482 : decode cL_law 482 = .ok (.ireturn, 1) := by decide +kernel
theorem dL_law_483 : decode cL_law 483 = .ok (.aload_n 1, 1) := by decide +kernel
theorem dL_law_484 : decode cL_law 484 = .ok (.aload_n 0, 1) := by decide +kernel
theorem dL_law_485 : decode cL_law 485 = .ok (.iload_n 3, 1) := by decide +kernel
theorem dL_law_486 : decode cL_law 486 = .ok (.iconst 1, 1) := by decide +kernel
theorem dL_law_487 : decode cL_law 487 = .ok (.iadd, 1) := by decide +kernel
theorem dL_law_488 : decode cL_law 488 = .ok (.iaload, 1) := by decide +kernel
theorem dL_law_489 : decode cL_law 489 = .ok (.invokevirtual 53, 3) := by decide +kernel
theorem dL_law_492 : decode cL_law 492 = .ok (.aload_n 2, 1) := by decide +kernel
theorem dL_law_493 : decode cL_law 493 = .ok (.aload_n 0, 1) := by decide +kernel
theorem dL_law_494 : decode cL_law 494 = .ok (.iload_n 3, 1) := by decide +kernel
theorem dL_law_495 : decode cL_law 495 = .ok (.iconst 1, 1) := by decide +kernel
theorem dL_law_496 : decode cL_law 496 = .ok (.iadd, 1) := by decide +kernel
theorem dL_law_497 : decode cL_law 497 = .ok (.iaload, 1) := by decide +kernel
theorem dL_law_498 : decode cL_law 498 = .ok (.invokevirtual 56, 3) := by decide +kernel
theorem dL_law_501 : decode cL_law 501 = .ok (.if_icmp .eq 331, 3) := by decide +kernel
theorem dL_law_504 : decode cL_law 504 = .ok (.iconst 0, 1) := by decide +kernel
theorem dL_law_505 : decode cL_law 505 = .ok (.ireturn, 1) := by decide +kernel
theorem dL_law_506 : decode cL_law 506 = .ok (.aload_n 1, 1) := by decide +kernel
theorem dL_law_507 : decode cL_law 507 = .ok (.invokevirtual 57, 3) := by decide +kernel
theorem dL_law_510 : decode cL_law 510 = .ok (.aload_n 2, 1) := by decide +kernel
theorem dL_law_511 : decode cL_law 511 = .ok (.invokevirtual 61, 3) := by decide +kernel
theorem dL_law_514 : decode cL_law 514 = .ok (.if_icmp .eq 318, 3) := by decide +kernel
theorem dL_law_517 : decode cL_law 517 = .ok (.iconst 0, 1) := by decide +kernel
theorem dL_law_518 : decode cL_law 518 = .ok (.ireturn, 1) := by decide +kernel
theorem dL_law_519 : decode cL_law 519 = .ok (.aload_n 1, 1) := by decide +kernel
theorem dL_law_520 : decode cL_law 520 = .ok (.aload_n 0, 1) := by decide +kernel
theorem dL_law_521 : decode cL_law 521 = .ok (.iload_n 3, 1) := by decide +kernel
theorem dL_law_522 : decode cL_law 522 = .ok (.iconst 1, 1) := by decide +kernel
theorem dL_law_523 : decode cL_law 523 = .ok (.iadd, 1) := by decide +kernel
theorem dL_law_524 : decode cL_law 524 = .ok (.iaload, 1) := by decide +kernel
theorem dL_law_525 : decode cL_law 525 = .ok (.aload_n 0, 1) := by decide +kernel
theorem dL_law_526 : decode cL_law 526 = .ok (.iload_n 3, 1) := by decide +kernel
theorem dL_law_527 : decode cL_law 527 = .ok (.iconst 2, 1) := by decide +kernel
theorem dL_law_528 : decode cL_law 528 = .ok (.iadd, 1) := by decide +kernel
theorem dL_law_529 : decode cL_law 529 = .ok (.iaload, 1) := by decide +kernel
theorem dL_law_530 : decode cL_law 530 = .ok (.invokevirtual 62, 3) := by decide +kernel
theorem dL_law_533 : decode cL_law 533 = .ok (.aload_n 2, 1) := by decide +kernel
theorem dL_law_534 : decode cL_law 534 = .ok (.aload_n 0, 1) := by decide +kernel
theorem dL_law_535 : decode cL_law 535 = .ok (.iload_n 3, 1) := by decide +kernel
theorem dL_law_536 : decode cL_law 536 = .ok (.iconst 1, 1) := by decide +kernel
theorem dL_law_537 : decode cL_law 537 = .ok (.iadd, 1) := by decide +kernel
theorem dL_law_538 : decode cL_law 538 = .ok (.iaload, 1) := by decide +kernel
theorem dL_law_539 : decode cL_law 539 = .ok (.aload_n 0, 1) := by decide +kernel
theorem dL_law_540 : decode cL_law 540 = .ok (.iload_n 3, 1) := by decide +kernel
theorem dL_law_541 : decode cL_law 541 = .ok (.iconst 2, 1) := by decide +kernel
theorem dL_law_542 : decode cL_law 542 = .ok (.iadd, 1) := by decide +kernel
theorem dL_law_543 : decode cL_law 543 = .ok (.iaload, 1) := by decide +kernel
theorem dL_law_544 : decode cL_law 544 = .ok (.invokevirtual 65, 3) := by decide +kernel
theorem dL_law_547 : decode cL_law 547 = .ok (.if_icmp .eq 285, 3) := by decide +kernel
theorem dL_law_550 : decode cL_law 550 = .ok (.iconst 0, 1) := by decide +kernel
theorem dL_law_551 : decode cL_law 551 = .ok (.ireturn, 1) := by decide +kernel
theorem dL_law_552 : decode cL_law 552 = .ok (.aload_n 1, 1) := by decide +kernel
theorem dL_law_553 : decode cL_law 553 = .ok (.aload_n 0, 1) := by decide +kernel
theorem dL_law_554 : decode cL_law 554 = .ok (.iload_n 3, 1) := by decide +kernel
theorem dL_law_555 : decode cL_law 555 = .ok (.iconst 1, 1) := by decide +kernel
theorem dL_law_556 : decode cL_law 556 = .ok (.iadd, 1) := by decide +kernel
theorem dL_law_557 : decode cL_law 557 = .ok (.iaload, 1) := by decide +kernel
theorem dL_law_558 : decode cL_law 558 = .ok (.invokevirtual 66, 3) := by decide +kernel
theorem dL_law_561 : decode cL_law 561 = .ok (.aload_n 2, 1) := by decide +kernel
theorem dL_law_562 : decode cL_law 562 = .ok (.aload_n 0, 1) := by decide +kernel
theorem dL_law_563 : decode cL_law 563 = .ok (.iload_n 3, 1) := by decide +kernel
theorem dL_law_564 : decode cL_law 564 = .ok (.iconst 1, 1) := by decide +kernel
theorem dL_law_565 : decode cL_law 565 = .ok (.iadd, 1) := by decide +kernel
theorem dL_law_566 : decode cL_law 566 = .ok (.iaload, 1) := by decide +kernel
theorem dL_law_567 : decode cL_law 567 = .ok (.invokevirtual 69, 3) := by decide +kernel
theorem dL_law_570 : decode cL_law 570 = .ok (.if_icmp .eq 262, 3) := by decide +kernel
theorem dL_law_573 : decode cL_law 573 = .ok (.iconst 0, 1) := by decide +kernel
theorem dL_law_574 : decode cL_law 574 = .ok (.ireturn, 1) := by decide +kernel
theorem dL_law_575 : decode cL_law 575 = .ok (.aload_n 1, 1) := by decide +kernel
theorem dL_law_576 : decode cL_law 576 = .ok (.aload_n 0, 1) := by decide +kernel
theorem dL_law_577 : decode cL_law 577 = .ok (.iload_n 3, 1) := by decide +kernel
theorem dL_law_578 : decode cL_law 578 = .ok (.iconst 1, 1) := by decide +kernel
theorem dL_law_579 : decode cL_law 579 = .ok (.iadd, 1) := by decide +kernel
theorem dL_law_580 : decode cL_law 580 = .ok (.iaload, 1) := by decide +kernel
theorem dL_law_581 : decode cL_law 581 = .ok (.aload_n 0, 1) := by decide +kernel
theorem dL_law_582 : decode cL_law 582 = .ok (.iload_n 3, 1) := by decide +kernel
theorem dL_law_583 : decode cL_law 583 = .ok (.iconst 2, 1) := by decide +kernel
theorem dL_law_584 : decode cL_law 584 = .ok (.iadd, 1) := by decide +kernel
theorem dL_law_585 : decode cL_law 585 = .ok (.iaload, 1) := by decide +kernel
theorem dL_law_586 : decode cL_law 586 = .ok (.invokevirtual 70, 3) := by decide +kernel
theorem dL_law_589 : decode cL_law 589 = .ok (.aload_n 2, 1) := by decide +kernel
theorem dL_law_590 : decode cL_law 590 = .ok (.aload_n 0, 1) := by decide +kernel
theorem dL_law_591 : decode cL_law 591 = .ok (.iload_n 3, 1) := by decide +kernel
theorem dL_law_592 : decode cL_law 592 = .ok (.iconst 1, 1) := by decide +kernel
theorem dL_law_593 : decode cL_law 593 = .ok (.iadd, 1) := by decide +kernel
theorem dL_law_594 : decode cL_law 594 = .ok (.iaload, 1) := by decide +kernel
theorem dL_law_595 : decode cL_law 595 = .ok (.aload_n 0, 1) := by decide +kernel
theorem dL_law_596 : decode cL_law 596 = .ok (.iload_n 3, 1) := by decide +kernel
theorem dL_law_597 : decode cL_law 597 = .ok (.iconst 2, 1) := by decide +kernel
theorem dL_law_598 : decode cL_law 598 = .ok (.iadd, 1) := by decide +kernel
theorem dL_law_599 : decode cL_law 599 = .ok (.iaload, 1) := by decide +kernel
theorem dL_law_600 : decode cL_law 600 = .ok (.invokevirtual 73, 3) := by decide +kernel
theorem dL_law_603 : decode cL_law 603 = .ok (.if_icmp .eq 229, 3) := by decide +kernel
theorem dL_law_606 : decode cL_law 606 = .ok (.iconst 0, 1) := by decide +kernel
theorem dL_law_607 : decode cL_law 607 = .ok (.ireturn, 1) := by decide +kernel
theorem dL_law_608 : decode cL_law 608 = .ok (.aload_n 1, 1) := by decide +kernel
theorem dL_law_609 : decode cL_law 609 = .ok (.aload_n 0, 1) := by decide +kernel
theorem dL_law_610 : decode cL_law 610 = .ok (.iload_n 3, 1) := by decide +kernel
theorem dL_law_611 : decode cL_law 611 = .ok (.iconst 1, 1) := by decide +kernel
theorem dL_law_612 : decode cL_law 612 = .ok (.iadd, 1) := by decide +kernel
theorem dL_law_613 : decode cL_law 613 = .ok (.iaload, 1) := by decide +kernel
theorem dL_law_614 : decode cL_law 614 = .ok (.aload_n 0, 1) := by decide +kernel
theorem dL_law_615 : decode cL_law 615 = .ok (.iload_n 3, 1) := by decide +kernel
theorem dL_law_616 : decode cL_law 616 = .ok (.iconst 2, 1) := by decide +kernel
theorem dL_law_617 : decode cL_law 617 = .ok (.iadd, 1) := by decide +kernel
theorem dL_law_618 : decode cL_law 618 = .ok (.iaload, 1) := by decide +kernel
theorem dL_law_619 : decode cL_law 619 = .ok (.invokevirtual 74, 3) := by decide +kernel
theorem dL_law_622 : decode cL_law 622 = .ok (.aload_n 2, 1) := by decide +kernel
theorem dL_law_623 : decode cL_law 623 = .ok (.aload_n 0, 1) := by decide +kernel
theorem dL_law_624 : decode cL_law 624 = .ok (.iload_n 3, 1) := by decide +kernel
theorem dL_law_625 : decode cL_law 625 = .ok (.iconst 1, 1) := by decide +kernel
theorem dL_law_626 : decode cL_law 626 = .ok (.iadd, 1) := by decide +kernel
theorem dL_law_627 : decode cL_law 627 = .ok (.iaload, 1) := by decide +kernel
theorem dL_law_628 : decode cL_law 628 = .ok (.aload_n 0, 1) := by decide +kernel
theorem dL_law_629 : decode cL_law 629 = .ok (.iload_n 3, 1) := by decide +kernel
theorem dL_law_630 : decode cL_law 630 = .ok (.iconst 2, 1) := by decide +kernel
theorem dL_law_631 : decode cL_law 631 = .ok (.iadd, 1) := by decide +kernel
theorem dL_law_632 : decode cL_law 632 = .ok (.iaload, 1) := by decide +kernel
theorem dL_law_633 : decode cL_law 633 = .ok (.invokevirtual 77, 3) := by decide +kernel
theorem dL_law_636 : decode cL_law 636 = .ok (.if_icmp .eq 196, 3) := by decide +kernel
theorem dL_law_639 : decode cL_law 639 = .ok (.iconst 0, 1) := by decide +kernel
theorem dL_law_640 : decode cL_law 640 = .ok (.ireturn, 1) := by decide +kernel
theorem dL_law_641 : decode cL_law 641 = .ok (.aload_n 1, 1) := by decide +kernel
theorem dL_law_642 : decode cL_law 642 = .ok (.aload_n 0, 1) := by decide +kernel
theorem dL_law_643 : decode cL_law 643 = .ok (.iload_n 3, 1) := by decide +kernel
theorem dL_law_644 : decode cL_law 644 = .ok (.iconst 1, 1) := by decide +kernel
theorem dL_law_645 : decode cL_law 645 = .ok (.iadd, 1) := by decide +kernel
theorem dL_law_646 : decode cL_law 646 = .ok (.iaload, 1) := by decide +kernel
theorem dL_law_647 : decode cL_law 647 = .ok (.aload_n 0, 1) := by decide +kernel
theorem dL_law_648 : decode cL_law 648 = .ok (.iload_n 3, 1) := by decide +kernel
theorem dL_law_649 : decode cL_law 649 = .ok (.iconst 2, 1) := by decide +kernel
theorem dL_law_650 : decode cL_law 650 = .ok (.iadd, 1) := by decide +kernel
theorem dL_law_651 : decode cL_law 651 = .ok (.iaload, 1) := by decide +kernel
theorem dL_law_652 : decode cL_law 652 = .ok (.invokevirtual 78, 3) := by decide +kernel
theorem dL_law_655 : decode cL_law 655 = .ok (.aload_n 2, 1) := by decide +kernel
theorem dL_law_656 : decode cL_law 656 = .ok (.aload_n 0, 1) := by decide +kernel
theorem dL_law_657 : decode cL_law 657 = .ok (.iload_n 3, 1) := by decide +kernel
theorem dL_law_658 : decode cL_law 658 = .ok (.iconst 1, 1) := by decide +kernel
theorem dL_law_659 : decode cL_law 659 = .ok (.iadd, 1) := by decide +kernel
theorem dL_law_660 : decode cL_law 660 = .ok (.iaload, 1) := by decide +kernel
theorem dL_law_661 : decode cL_law 661 = .ok (.aload_n 0, 1) := by decide +kernel
theorem dL_law_662 : decode cL_law 662 = .ok (.iload_n 3, 1) := by decide +kernel
theorem dL_law_663 : decode cL_law 663 = .ok (.iconst 2, 1) := by decide +kernel
theorem dL_law_664 : decode cL_law 664 = .ok (.iadd, 1) := by decide +kernel
theorem dL_law_665 : decode cL_law 665 = .ok (.iaload, 1) := by decide +kernel
theorem dL_law_666 : decode cL_law 666 = .ok (.invokevirtual 81, 3) := by decide +kernel
theorem dL_law_669 : decode cL_law 669 = .ok (.if_icmp .eq 163, 3) := by decide +kernel
theorem dL_law_672 : decode cL_law 672 = .ok (.iconst 0, 1) := by decide +kernel
theorem dL_law_673 : decode cL_law 673 = .ok (.ireturn, 1) := by decide +kernel
theorem dL_law_674 : decode cL_law 674 = .ok (.aload_n 1, 1) := by decide +kernel
theorem dL_law_675 : decode cL_law 675 = .ok (.aload_n 0, 1) := by decide +kernel
theorem dL_law_676 : decode cL_law 676 = .ok (.iload_n 3, 1) := by decide +kernel
theorem dL_law_677 : decode cL_law 677 = .ok (.iconst 1, 1) := by decide +kernel
theorem dL_law_678 : decode cL_law 678 = .ok (.iadd, 1) := by decide +kernel
theorem dL_law_679 : decode cL_law 679 = .ok (.iaload, 1) := by decide +kernel
theorem dL_law_680 : decode cL_law 680 = .ok (.invokevirtual 82, 3) := by decide +kernel
theorem dL_law_683 : decode cL_law 683 = .ok (.aload_n 2, 1) := by decide +kernel
theorem dL_law_684 : decode cL_law 684 = .ok (.aload_n 0, 1) := by decide +kernel
theorem dL_law_685 : decode cL_law 685 = .ok (.iload_n 3, 1) := by decide +kernel
theorem dL_law_686 : decode cL_law 686 = .ok (.iconst 1, 1) := by decide +kernel
theorem dL_law_687 : decode cL_law 687 = .ok (.iadd, 1) := by decide +kernel
theorem dL_law_688 : decode cL_law 688 = .ok (.iaload, 1) := by decide +kernel
theorem dL_law_689 : decode cL_law 689 = .ok (.invokevirtual 85, 3) := by decide +kernel
theorem dL_law_692 : decode cL_law 692 = .ok (.if_icmp .eq 140, 3) := by decide +kernel
theorem dL_law_695 : decode cL_law 695 = .ok (.iconst 0, 1) := by decide +kernel
theorem dL_law_696 : decode cL_law 696 = .ok (.ireturn, 1) := by decide +kernel
theorem dL_law_697 : decode cL_law 697 = .ok (.aload_n 1, 1) := by decide +kernel
theorem dL_law_698 : decode cL_law 698 = .ok (.aload_n 0, 1) := by decide +kernel
theorem dL_law_699 : decode cL_law 699 = .ok (.iload_n 3, 1) := by decide +kernel
theorem dL_law_700 : decode cL_law 700 = .ok (.iconst 1, 1) := by decide +kernel
theorem dL_law_701 : decode cL_law 701 = .ok (.iadd, 1) := by decide +kernel
theorem dL_law_702 : decode cL_law 702 = .ok (.iaload, 1) := by decide +kernel
theorem dL_law_703 : decode cL_law 703 = .ok (.aload_n 0, 1) := by decide +kernel
theorem dL_law_704 : decode cL_law 704 = .ok (.iload_n 3, 1) := by decide +kernel
theorem dL_law_705 : decode cL_law 705 = .ok (.iconst 2, 1) := by decide +kernel
theorem dL_law_706 : decode cL_law 706 = .ok (.iadd, 1) := by decide +kernel
theorem dL_law_707 : decode cL_law 707 = .ok (.iaload, 1) := by decide +kernel
theorem dL_law_708 : decode cL_law 708 = .ok (.invokevirtual 86, 3) := by decide +kernel
theorem dL_law_711 : decode cL_law 711 = .ok (.aload_n 2, 1) := by decide +kernel
theorem dL_law_712 : decode cL_law 712 = .ok (.aload_n 0, 1) := by decide +kernel
theorem dL_law_713 : decode cL_law 713 = .ok (.iload_n 3, 1) := by decide +kernel
theorem dL_law_714 : decode cL_law 714 = .ok (.iconst 1, 1) := by decide +kernel
theorem dL_law_715 : decode cL_law 715 = .ok (.iadd, 1) := by decide +kernel
theorem dL_law_716 : decode cL_law 716 = .ok (.iaload, 1) := by decide +kernel
theorem dL_law_717 : decode cL_law 717 = .ok (.aload_n 0, 1) := by decide +kernel
theorem dL_law_718 : decode cL_law 718 = .ok (.iload_n 3, 1) := by decide +kernel
theorem dL_law_719 : decode cL_law 719 = .ok (.iconst 2, 1) := by decide +kernel
theorem dL_law_720 : decode cL_law 720 = .ok (.iadd, 1) := by decide +kernel
theorem dL_law_721 : decode cL_law 721 = .ok (.iaload, 1) := by decide +kernel
theorem dL_law_722 : decode cL_law 722 = .ok (.invokevirtual 89, 3) := by decide +kernel
theorem dL_law_725 : decode cL_law 725 = .ok (.if_icmp .eq 107, 3) := by decide +kernel
theorem dL_law_728 : decode cL_law 728 = .ok (.iconst 0, 1) := by decide +kernel
theorem dL_law_729 : decode cL_law 729 = .ok (.ireturn, 1) := by decide +kernel
theorem dL_law_730 : decode cL_law 730 = .ok (.aload_n 1, 1) := by decide +kernel
theorem dL_law_731 : decode cL_law 731 = .ok (.aload_n 0, 1) := by decide +kernel
theorem dL_law_732 : decode cL_law 732 = .ok (.iload_n 3, 1) := by decide +kernel
theorem dL_law_733 : decode cL_law 733 = .ok (.iconst 1, 1) := by decide +kernel
theorem dL_law_734 : decode cL_law 734 = .ok (.iadd, 1) := by decide +kernel
theorem dL_law_735 : decode cL_law 735 = .ok (.iaload, 1) := by decide +kernel
theorem dL_law_736 : decode cL_law 736 = .ok (.aload_n 0, 1) := by decide +kernel
theorem dL_law_737 : decode cL_law 737 = .ok (.iload_n 3, 1) := by decide +kernel
theorem dL_law_738 : decode cL_law 738 = .ok (.iconst 2, 1) := by decide +kernel
theorem dL_law_739 : decode cL_law 739 = .ok (.iadd, 1) := by decide +kernel
theorem dL_law_740 : decode cL_law 740 = .ok (.iaload, 1) := by decide +kernel
theorem dL_law_741 : decode cL_law 741 = .ok (.invokevirtual 90, 3) := by decide +kernel
theorem dL_law_744 : decode cL_law 744 = .ok (.aload_n 2, 1) := by decide +kernel
theorem dL_law_745 : decode cL_law 745 = .ok (.aload_n 0, 1) := by decide +kernel
theorem dL_law_746 : decode cL_law 746 = .ok (.iload_n 3, 1) := by decide +kernel
theorem dL_law_747 : decode cL_law 747 = .ok (.iconst 1, 1) := by decide +kernel
theorem dL_law_748 : decode cL_law 748 = .ok (.iadd, 1) := by decide +kernel
theorem dL_law_749 : decode cL_law 749 = .ok (.iaload, 1) := by decide +kernel
theorem dL_law_750 : decode cL_law 750 = .ok (.aload_n 0, 1) := by decide +kernel
theorem dL_law_751 : decode cL_law 751 = .ok (.iload_n 3, 1) := by decide +kernel
theorem dL_law_752 : decode cL_law 752 = .ok (.iconst 2, 1) := by decide +kernel
theorem dL_law_753 : decode cL_law 753 = .ok (.iadd, 1) := by decide +kernel
theorem dL_law_754 : decode cL_law 754 = .ok (.iaload, 1) := by decide +kernel
theorem dL_law_755 : decode cL_law 755 = .ok (.invokevirtual 93, 3) := by decide +kernel
theorem dL_law_758 : decode cL_law 758 = .ok (.if_icmp .eq 74, 3) := by decide +kernel
theorem dL_law_761 : decode cL_law 761 = .ok (.iconst 0, 1) := by decide +kernel
theorem dL_law_762 : decode cL_law 762 = .ok (.ireturn, 1) := by decide +kernel
theorem dL_law_763 : decode cL_law 763 = .ok (.aload_n 1, 1) := by decide +kernel
theorem dL_law_764 : decode cL_law 764 = .ok (.invokevirtual 94, 3) := by decide +kernel
theorem dL_law_767 : decode cL_law 767 = .ok (.aload_n 2, 1) := by decide +kernel
theorem dL_law_768 : decode cL_law 768 = .ok (.invokevirtual 97, 3) := by decide +kernel
theorem dL_law_771 : decode cL_law 771 = .ok (.if_icmp .eq 61, 3) := by decide +kernel
theorem dL_law_774 : decode cL_law 774 = .ok (.iconst 0, 1) := by decide +kernel
theorem dL_law_775 : decode cL_law 775 = .ok (.ireturn, 1) := by decide +kernel
theorem dL_law_776 : decode cL_law 776 = .ok (.aload_n 1, 1) := by decide +kernel
theorem dL_law_777 : decode cL_law 777 = .ok (.aload_n 0, 1) := by decide +kernel
theorem dL_law_778 : decode cL_law 778 = .ok (.iload_n 3, 1) := by decide +kernel
theorem dL_law_779 : decode cL_law 779 = .ok (.iconst 1, 1) := by decide +kernel
theorem dL_law_780 : decode cL_law 780 = .ok (.iadd, 1) := by decide +kernel
theorem dL_law_781 : decode cL_law 781 = .ok (.iaload, 1) := by decide +kernel
theorem dL_law_782 : decode cL_law 782 = .ok (.aload_n 0, 1) := by decide +kernel
theorem dL_law_783 : decode cL_law 783 = .ok (.iload_n 3, 1) := by decide +kernel
theorem dL_law_784 : decode cL_law 784 = .ok (.iconst 2, 1) := by decide +kernel
theorem dL_law_785 : decode cL_law 785 = .ok (.iadd, 1) := by decide +kernel
theorem dL_law_786 : decode cL_law 786 = .ok (.iaload, 1) := by decide +kernel
theorem dL_law_787 : decode cL_law 787 = .ok (.invokevirtual 98, 3) := by decide +kernel
theorem dL_law_790 : decode cL_law 790 = .ok (.aload_n 2, 1) := by decide +kernel
theorem dL_law_791 : decode cL_law 791 = .ok (.aload_n 0, 1) := by decide +kernel
theorem dL_law_792 : decode cL_law 792 = .ok (.iload_n 3, 1) := by decide +kernel
theorem dL_law_793 : decode cL_law 793 = .ok (.iconst 1, 1) := by decide +kernel
theorem dL_law_794 : decode cL_law 794 = .ok (.iadd, 1) := by decide +kernel
theorem dL_law_795 : decode cL_law 795 = .ok (.iaload, 1) := by decide +kernel
theorem dL_law_796 : decode cL_law 796 = .ok (.aload_n 0, 1) := by decide +kernel
theorem dL_law_797 : decode cL_law 797 = .ok (.iload_n 3, 1) := by decide +kernel
theorem dL_law_798 : decode cL_law 798 = .ok (.iconst 2, 1) := by decide +kernel
theorem dL_law_799 : decode cL_law 799 = .ok (.iadd, 1) := by decide +kernel
theorem dL_law_800 : decode cL_law 800 = .ok (.iaload, 1) := by decide +kernel
theorem dL_law_801 : decode cL_law 801 = .ok (.invokevirtual 101, 3) := by decide +kernel
theorem dL_law_804 : decode cL_law 804 = .ok (.if_icmp .eq 28, 3) := by decide +kernel
theorem dL_law_807 : decode cL_law 807 = .ok (.iconst 0, 1) := by decide +kernel
theorem dL_law_808 : decode cL_law 808 = .ok (.ireturn, 1) := by decide +kernel
theorem dL_law_809 : decode cL_law 809 = .ok (.aload_n 1, 1) := by decide +kernel
theorem dL_law_810 : decode cL_law 810 = .ok (.aload_n 0, 1) := by decide +kernel
theorem dL_law_811 : decode cL_law 811 = .ok (.iload_n 3, 1) := by decide +kernel
theorem dL_law_812 : decode cL_law 812 = .ok (.iconst 1, 1) := by decide +kernel
theorem dL_law_813 : decode cL_law 813 = .ok (.iadd, 1) := by decide +kernel
theorem dL_law_814 : decode cL_law 814 = .ok (.iaload, 1) := by decide +kernel
theorem dL_law_815 : decode cL_law 815 = .ok (.invokevirtual 102, 3) := by decide +kernel
theorem dL_law_818 : decode cL_law 818 = .ok (.aload_n 2, 1) := by decide +kernel
theorem dL_law_819 : decode cL_law 819 = .ok (.aload_n 0, 1) := by decide +kernel
theorem dL_law_820 : decode cL_law 820 = .ok (.iload_n 3, 1) := by decide +kernel
theorem dL_law_821 : decode cL_law 821 = .ok (.iconst 1, 1) := by decide +kernel
theorem dL_law_822 : decode cL_law 822 = .ok (.iadd, 1) := by decide +kernel
theorem dL_law_823 : decode cL_law 823 = .ok (.iaload, 1) := by decide +kernel
theorem dL_law_824 : decode cL_law 824 = .ok (.invokevirtual 105, 3) := by decide +kernel
theorem dL_law_827 : decode cL_law 827 = .ok (.if_icmp .eq 5, 3) := by decide +kernel
theorem dL_law_830 : decode cL_law 830 = .ok (.iconst 0, 1) := by decide +kernel
theorem dL_law_831 : decode cL_law 831 = .ok (.ireturn, 1) := by decide +kernel
theorem dL_law_832 : decode cL_law 832 = .ok (.iinc 3 6, 3) := by decide +kernel
theorem dL_law_835 : decode cL_law 835 = .ok (.goto (-817), 3) := by decide +kernel
theorem dL_law_838 : decode cL_law 838 = .ok (.iconst 1, 1) := by decide +kernel
theorem dL_law_839 : decode cL_law 839 = .ok (.ireturn, 1) := by decide +kernel
