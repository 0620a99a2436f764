theorem dX0_init_0 : decode cX0_init 0 = .ok (.aload_n 0, 1) := by decide +kernel
theorem dX0_init_1 : decode cX0_init 1 = .ok (.invokespecial 3, 3) := by decide +kernel
theorem dX0_init_4 : decode cX0_init 4 = .ok (.aload_n 0, 1) := by decide +kernel
theorem dX0_init_5 : decode cX0_init 5 = .ok (.iconst 4, 1) := by decide +kernel
theorem dX0_init_6 : decode cX0_init 6 = .ok (.newarray .int, 2) := by decide +kernel
theorem dX0_init_8 : decode cX0_init 8 = .ok (.putfield 9, 3) := by decide +kernel
theorem dX0_init_11 : decode cX0_init 11 = .ok (.aload_n 0, 1) := by decide +kernel
theorem dX0_init_12 : decode cX0_init 12 = .ok (.iconst 4, 1) := by decide +kernel
theorem dX0_init_13 : decode cX0_init 13 = .ok (.newarray .int, 2) := by decide +kernel
theorem dX0_init_15 : decode cX0_init 15 = .ok (.putfield 15, 3) := by decide +kernel
theorem dX0_init_18 : decode cX0_init 18 = .ok (.aload_n 0, 1) := by decide +kernel
theorem dX0_init_19 : decode cX0_init 19 = .ok (.sipush 160, 3) := by decide +kernel
theorem dX0_init_22 : decode cX0_init 22 = .ok (.newarray .int, 2) := by decide +kernel
theorem dX0_init_24 : decode cX0_init 24 = .ok (.putfield 18, 3) := by decide +kernel
theorem dX0_init_27 : decode cX0_init 27 = .ok (.aload_n 0, 1) := by decide +kernel
theorem dX0_init_28 : decode cX0_init 28 = .ok (.iconst 4, 1) := by decide +kernel
theorem dX0_init_29 : decode cX0_init 29 = .ok (.newarray .int, 2) := by decide +kernel
theorem dX0_init_31 : decode cX0_init 31 = .ok (.putfield 21, 3) := by decide +kernel
theorem dX0_init_34 : decode cX0_init 34 = .ok (.aload_n 0, 1) := by decide +kernel
theorem dX0_init_35 : decode cX0_init 35 = .ok (.iconst 4, 1) := by decide +kernel
theorem dX0_init_36 : decode cX0_init 36 = .ok (.newarray .int, 2) := by decide +kernel
theorem dX0_init_38 : decode cX0_init 38 = .ok (.putfield 24, 3) := by decide +kernel
theorem dX0_init_41 : decode cX0_init 41 = .ok (.aload_n 0, 1) := by decide +kernel
theorem dX0_init_42 : decode cX0_init 42 = .ok (.iconst 4, 1) := by decide +kernel
theorem dX0_init_43 : decode cX0_init 43 = .ok (.newarray .int, 2) := by decide +kernel
theorem dX0_init_45 : decode cX0_init 45 = .ok (.putfield 27, 3) := by decide +kernel
theorem dX0_init_48 : decode cX0_init 48 = .ok (.aload_n 0, 1) := by decide +kernel
theorem dX0_init_49 : decode cX0_init 49 = .ok (.iconst 4, 1) := by decide +kernel
theorem dX0_init_50 : decode cX0_init 50 = .ok (.newarray .int, 2) := by decide +kernel
theorem dX0_init_52 : decode cX0_init 52 = .ok (.putfield 30, 3) := by decide +kernel
theorem dX0_init_55 : decode cX0_init 55 = .ok (.aload_n 0, 1) := by decide +kernel
theorem dX0_init_56 : decode cX0_init 56 = .ok (.getfield 9, 3) := by decide +kernel
theorem dX0_init_59 : decode cX0_init 59 = .ok (.iconst (-1), 1) := by decide +kernel
theorem dX0_init_60 : decode cX0_init 60 = .ok (.invokestatic 33, 3) := by decide +kernel
theorem dX0_init_63 : decode cX0_init 63 = .ok (.return_, 1) := by decide +kernel
theorem dX0_hasSheet_0 : decode cX0_hasSheet 0 = .ok (.iload_n 0, 1) := by decide +kernel
theorem dX0_hasSheet_1 : decode cX0_hasSheet 1 = .ok (.ifCond .lt 12, 3) := by decide +kernel
theorem dX0_hasSheet_4 : decode cX0_hasSheet 4 = .ok (.iload_n 0, 1) := by decide +kernel
theorem dX0_hasSheet_5 : decode cX0_hasSheet 5 = .ok (.iconst 4, 1) := by decide +kernel
theorem dX0_hasSheet_6 : decode cX0_hasSheet 6 = .ok (.if_icmp .ge 7, 3) := by decide +kernel
theorem dX0_hasSheet_9 : decode cX0_hasSheet 9 = .ok (.iconst 1, 1) := by decide +kernel
theorem dX0_hasSheet_10 : decode cX0_hasSheet 10 = .ok (.goto 4, 3) := by decide +kernel
theorem dX0_hasSheet_13 : decode cX0_hasSheet 13 = .ok (.iconst 0, 1) := by decide +kernel
theorem dX0_hasSheet_14 : decode cX0_hasSheet 14 = .ok (.ireturn, 1) := by decide +kernel
theorem dX0_hasShelf_0 : decode cX0_hasShelf 0 = .ok (.iload_n 0, 1) := by decide +kernel
theorem dX0_hasShelf_1 : decode cX0_hasShelf 1 = .ok (.ifCond .lt 12, 3) := by decide +kernel
theorem dX0_hasShelf_4 : decode cX0_hasShelf 4 = .ok (.iload_n 0, 1) := by decide +kernel
theorem dX0_hasShelf_5 : decode cX0_hasShelf 5 = .ok (.iconst 4, 1) := by decide +kernel
theorem dX0_hasShelf_6 : decode cX0_hasShelf 6 = .ok (.if_icmp .ge 7, 3) := by decide +kernel
theorem dX0_hasShelf_9 : decode cX0_hasShelf 9 = .ok (.iconst 1, 1) := by decide +kernel
theorem dX0_hasShelf_10 : decode cX0_hasShelf 10 = .ok (.goto 4, 3) := by decide +kernel
theorem dX0_hasShelf_13 : decode cX0_hasShelf 13 = .ok (.iconst 0, 1) := by decide +kernel
theorem dX0_hasShelf_14 : decode cX0_hasShelf 14 = .ok (.ireturn, 1) := by decide +kernel
theorem dX0_isMissing_0 : decode cX0_isMissing 0 = .ok (.aload_n 0, 1) := by decide +kernel
theorem dX0_isMissing_1 : decode cX0_isMissing 1 = .ok (.getfield 9, 3) := by decide +kernel
theorem dX0_isMissing_4 : decode cX0_isMissing 4 = .ok (.iload_n 1, 1) := by decide +kernel
theorem dX0_isMissing_5 : decode cX0_isMissing 5 = .ok (.iaload, 1) := by decide +kernel
theorem dX0_isMissing_6 : decode cX0_isMissing 6 = .ok (.iconst (-1), 1) := by decide +kernel
theorem dX0_isMissing_7 : decode cX0_isMissing 7 = .ok (.if_icmp .ne 7, 3) := by decide +kernel
theorem dX0_isMissing_10 : decode cX0_isMissing 10 = .ok (.iconst 1, 1) := by decide +kernel
theorem dX0_isMissing_11 : decode cX0_isMissing 11 = .ok (.goto 4, 3) := by decide +kernel
theorem dX0_isMissing_14 : decode cX0_isMissing 14 = .ok (.iconst 0, 1) := by decide +kernel
theorem dX0_isMissing_15 : decode cX0_isMissing 15 = .ok (.ireturn, 1) := by decide +kernel
theorem dX0_hasItem_0 : decode cX0_hasItem 0 = .ok (.iload_n 2, 1) := by decide +kernel
theorem dX0_hasItem_1 : decode cX0_hasItem 1 = .ok (.ifCond .lt 17, 3) := by decide +kernel
theorem dX0_hasItem_4 : decode cX0_hasItem 4 = .ok (.iload_n 2, 1) := by decide +kernel
theorem dX0_hasItem_5 : decode cX0_hasItem 5 = .ok (.aload_n 0, 1) := by decide +kernel
theorem dX0_hasItem_6 : decode cX0_hasItem 6 = .ok (.getfield 15, 3) := by decide +kernel
theorem dX0_hasItem_9 : decode cX0_hasItem 9 = .ok (.iload_n 1, 1) := by decide +kernel
theorem dX0_hasItem_10 : decode cX0_hasItem 10 = .ok (.iaload, 1) := by decide +kernel
theorem dX0_hasItem_11 : decode cX0_hasItem 11 = .ok (.if_icmp .ge 7, 3) := by decide +kernel
theorem dX0_hasItem_14 : decode cX0_hasItem 14 = .ok (.iconst 1, 1) := by decide +kernel
theorem dX0_hasItem_15 : decode cX0_hasItem 15 = .ok (.goto 4, 3) := by decide +kernel
theorem dX0_hasItem_18 : decode cX0_hasItem 18 = .ok (.iconst 0, 1) := by decide +kernel
theorem dX0_hasItem_19 : decode cX0_hasItem 19 = .ok (.ireturn, 1) := by decide +kernel
theorem dX0_refusalOf_0 : decode cX0_refusalOf 0 = .ok (.aload_n 0, 1) := by decide +kernel
theorem dX0_refusalOf_1 : decode cX0_refusalOf 1 = .ok (.iload_n 1, 1) := by decide +kernel
theorem dX0_refusalOf_2 : decode cX0_refusalOf 2 = .ok (.invokevirtual 39, 3) := by decide +kernel
theorem dX0_refusalOf_5 : decode cX0_refusalOf 5 = .ok (.ifCond .eq 6, 3) := by decide +kernel
theorem dX0_refusalOf_8 : decode cX0_refusalOf 8 = .ok (.bipush (-11), 2) := by decide +kernel
theorem dX0_refusalOf_10 : decode cX0_refusalOf 10 = .ok (.ireturn, 1) := by decide +kernel
theorem dX0_refusalOf_11 : decode cX0_refusalOf 11 = .ok (.aload_n 0, 1) := by decide +kernel
theorem dX0_refusalOf_12 : decode cX0_refusalOf 12 = .ok (.getfield 9, 3) := by decide +kernel
theorem dX0_refusalOf_15 : decode cX0_refusalOf 15 = .ok (.iload_n 1, 1) := by decide +kernel
theorem dX0_refusalOf_16 : decode cX0_refusalOf 16 = .ok (.iaload, 1) := by decide +kernel
theorem dX0_refusalOf_17 : decode cX0_refusalOf 17 = .ok (.iload_n 2, 1) := by decide +kernel
theorem dX0_refusalOf_18 : decode cX0_refusalOf 18 = .ok (.if_icmp .ne 7, 3) := by decide +kernel
theorem dX0_refusalOf_21 : decode cX0_refusalOf 21 = .ok (.iconst 0, 1) := by decide +kernel
theorem dX0_refusalOf_22 : decode cX0_refusalOf 22 = .ok (.goto 5, 3) := by decide +kernel
theorem dX0_refusalOf_25 : decode cX0_refusalOf 25 = .ok (.bipush (-13), 2) := by decide +kernel
theorem dX0_refusalOf_27 : decode cX0_refusalOf 27 = .ok (.ireturn, 1) := by decide +kernel
theorem dX0_lay_0 : decode cX0_lay 0 = .ok (.aload_n 0, 1) := by decide +kernel
theorem dX0_lay_1 : decode cX0_lay 1 = .ok (.getfield 9, 3) := by decide +kernel
theorem dX0_lay_4 : decode cX0_lay 4 = .ok (.iload_n 1, 1) := by decide +kernel
theorem dX0_lay_5 : decode cX0_lay 5 = .ok (.iload_n 2, 1) := by decide +kernel
theorem dX0_lay_6 : decode cX0_lay 6 = .ok (.iastore, 1) := by decide +kernel
theorem dX0_lay_7 : decode cX0_lay 7 = .ok (.aload_n 0, 1) := by decide +kernel
theorem dX0_lay_8 : decode cX0_lay 8 = .ok (.getfield 15, 3) := by decide +kernel
theorem dX0_lay_11 : decode cX0_lay 11 = .ok (.iload_n 1, 1) := by decide +kernel
theorem dX0_lay_12 : decode cX0_lay 12 = .ok (.iload_n 2, 1) := by decide +kernel
theorem dX0_lay_13 : decode cX0_lay 13 = .ok (.iconst (-1), 1) := by decide +kernel
theorem dX0_lay_14 : decode cX0_lay 14 = .ok (.if_icmp .ne 7, 3) := by decide +kernel
theorem dX0_lay_17 : decode cX0_lay 17 = .ok (.iconst 0, 1) := by decide +kernel
theorem dX0_lay_18 : decode cX0_lay 18 = .ok (.goto 4, 3) := by decide +kernel
theorem dX0_lay_21 : decode cX0_lay 21 = .ok (.iload_n 3, 1) := by decide +kernel
theorem dX0_lay_22 : decode cX0_lay 22 = .ok (.iastore, 1) := by decide +kernel
theorem dX0_lay_23 : decode cX0_lay 23 = .ok (.aload_n 0, 1) := by decide +kernel
theorem dX0_lay_24 : decode cX0_lay 24 = .ok (.getfield 18, 3) := by decide +kernel
theorem dX0_lay_27 : decode cX0_lay 27 = .ok (.iload_n 1, 1) := by decide +kernel
theorem dX0_lay_28 : decode cX0_lay 28 = .ok (.bipush 40, 2) := by decide +kernel
theorem dX0_lay_30 : decode cX0_lay 30 = .ok (.imul, 1) := by decide +kernel
theorem dX0_lay_31 : decode cX0_lay 31 = .ok (.iload_n 1, 1) := by decide +kernel
theorem dX0_lay_32 : decode cX0_lay 32 = .ok (.iconst 1, 1) := by decide +kernel
theorem dX0_lay_33 : decode cX0_lay 33 = .ok (.iadd, 1) := by decide +kernel
theorem dX0_lay_34 : decode cX0_lay 34 = .ok (.bipush 40, 2) := by decide +kernel
theorem dX0_lay_36 : decode cX0_lay 36 = .ok (.imul, 1) := by decide +kernel
theorem dX0_lay_37 : decode cX0_lay 37 = .ok (.iconst 0, 1) := by decide +kernel
theorem dX0_lay_38 : decode cX0_lay 38 = .ok (.invokestatic 43, 3) := by decide +kernel
theorem dX0_lay_41 : decode cX0_lay 41 = .ok (.return_, 1) := by decide +kernel
theorem dX0_get_0 : decode cX0_get 0 = .ok (.aload_n 0, 1) := by decide +kernel
theorem dX0_get_1 : decode cX0_get 1 = .ok (.getfield 18, 3) := by decide +kernel
theorem dX0_get_4 : decode cX0_get 4 = .ok (.iload_n 1, 1) := by decide +kernel
theorem dX0_get_5 : decode cX0_get 5 = .ok (.bipush 40, 2) := by decide +kernel
theorem dX0_get_7 : decode cX0_get 7 = .ok (.imul, 1) := by decide +kernel
theorem dX0_get_8 : decode cX0_get 8 = .ok (.iload_n 2, 1) := by decide +kernel
theorem dX0_get_9 : decode cX0_get 9 = .ok (.iadd, 1) := by decide +kernel
theorem dX0_get_10 : decode cX0_get 10 = .ok (.iaload, 1) := by decide +kernel
theorem dX0_get_11 : decode cX0_get 11 = .ok (.ireturn, 1) := by decide +kernel
theorem dX0_put_0 : decode cX0_put 0 = .ok (.aload_n 0, 1) := by decide +kernel
theorem dX0_put_1 : decode cX0_put 1 = .ok (.getfield 18, 3) := by decide +kernel
theorem dX0_put_4 : decode cX0_put 4 = .ok (.iload_n 1, 1) := by decide +kernel
theorem dX0_put_5 : decode cX0_put 5 = .ok (.bipush 40, 2) := by decide +kernel
theorem dX0_put_7 : decode cX0_put 7 = .ok (.imul, 1) := by decide +kernel
theorem dX0_put_8 : decode cX0_put 8 = .ok (.iload_n 2, 1) := by decide +kernel
theorem dX0_put_9 : decode cX0_put 9 = .ok (.iadd, 1) := by decide +kernel
theorem dX0_put_10 : decode cX0_put 10 = .ok (.aload_n 0, 1) := by decide +kernel
theorem dX0_put_11 : decode cX0_put 11 = .ok (.getfield 9, 3) := by decide +kernel
theorem dX0_put_14 : decode cX0_put 14 = .ok (.iload_n 1, 1) := by decide +kernel
theorem dX0_put_15 : decode cX0_put 15 = .ok (.iaload, 1) := by decide +kernel
theorem dX0_put_16 : decode cX0_put 16 = .ok (.iload_n 3, 1) := by decide +kernel
theorem dX0_put_17 : decode cX0_put 17 = .ok (.invokestatic 46, 3) := by decide +kernel
theorem dX0_put_20 : decode cX0_put 20 = .ok (.iastore, 1) := by decide +kernel
theorem dX0_put_21 : decode cX0_put 21 = .ok (.return_, 1) := by decide +kernel
theorem dX0_narrowed_0 : decode cX0_narrowed 0 = .ok (.iload_n 0, 1) := by decide +kernel
theorem dX0_narrowed_1 : decode cX0_narrowed 1 = .ok (.tableswitch 51 0 4 #[35, 38, 51, 51, 41], 35) := by decide +kernel
theorem dX0_narrowed_36 : decode cX0_narrowed 36 = .ok (.iload_n 1, 1) := by decide +kernel
theorem dX0_narrowed_37 : decode cX0_narrowed 37 = .ok (.i2b, 1) := by decide +kernel
theorem dX0_narrowed_38 : decode cX0_narrowed 38 = .ok (.ireturn, 1) := by decide +kernel
theorem dX0_narrowed_39 : decode cX0_narrowed 39 = .ok (.iload_n 1, 1) := by decide +kernel
theorem dX0_narrowed_40 : decode cX0_narrowed 40 = .ok (.i2s, 1) := by decide +kernel
theorem dX0_narrowed_41 : decode cX0_narrowed 41 = .ok (.ireturn, 1) := by decide +kernel
theorem dX0_narrowed_42 : decode cX0_narrowed 42 = .ok (.iload_n 1, 1) := by decide +kernel
theorem dX0_narrowed_43 : decode cX0_narrowed 43 = .ok (.ifCond .eq 7, 3) := by decide +kernel
theorem dX0_narrowed_46 : decode cX0_narrowed 46 = .ok (.iconst 1, 1) := by decide +kernel
theorem dX0_narrowed_47 : decode cX0_narrowed 47 = .ok (.goto 4, 3) := by decide +kernel
theorem dX0_narrowed_50 : decode cX0_narrowed 50 = .ok (.iconst 0, 1) := by decide +kernel
theorem dX0_narrowed_51 : decode cX0_narrowed 51 = .ok (.ireturn, 1) := by decide +kernel
theorem dX0_narrowed_52 : decode cX0_narrowed 52 = .ok (.iload_n 1, 1) := by decide +kernel
theorem dX0_narrowed_53 : decode cX0_narrowed 53 = .ok (.ireturn, 1) := by decide +kernel
theorem dX0_holdShip_0 : decode cX0_holdShip 0 = .ok (.aload_n 0, 1) := by decide +kernel
theorem dX0_holdShip_1 : decode cX0_holdShip 1 = .ok (.getfield 21, 3) := by decide +kernel
theorem dX0_holdShip_4 : decode cX0_holdShip 4 = .ok (.iload_n 1, 1) := by decide +kernel
theorem dX0_holdShip_5 : decode cX0_holdShip 5 = .ok (.iconst 1, 1) := by decide +kernel
theorem dX0_holdShip_6 : decode cX0_holdShip 6 = .ok (.iastore, 1) := by decide +kernel
theorem dX0_holdShip_7 : decode cX0_holdShip 7 = .ok (.aload_n 0, 1) := by decide +kernel
theorem dX0_holdShip_8 : decode cX0_holdShip 8 = .ok (.getfield 24, 3) := by decide +kernel
theorem dX0_holdShip_11 : decode cX0_holdShip 11 = .ok (.iload_n 1, 1) := by decide +kernel
theorem dX0_holdShip_12 : decode cX0_holdShip 12 = .ok (.iload_n 2, 1) := by decide +kernel
theorem dX0_holdShip_13 : decode cX0_holdShip 13 = .ok (.iastore, 1) := by decide +kernel
theorem dX0_holdShip_14 : decode cX0_holdShip 14 = .ok (.iconst 1, 1) := by decide +kernel
theorem dX0_holdShip_15 : decode cX0_holdShip 15 = .ok (.ireturn, 1) := by decide +kernel
theorem dX0_holdRow_0 : decode cX0_holdRow 0 = .ok (.aload_n 0, 1) := by decide +kernel
theorem dX0_holdRow_1 : decode cX0_holdRow 1 = .ok (.getfield 21, 3) := by decide +kernel
theorem dX0_holdRow_4 : decode cX0_holdRow 4 = .ok (.iload_n 1, 1) := by decide +kernel
theorem dX0_holdRow_5 : decode cX0_holdRow 5 = .ok (.aload_n 0, 1) := by decide +kernel
theorem dX0_holdRow_6 : decode cX0_holdRow 6 = .ok (.iload_n 2, 1) := by decide +kernel
theorem dX0_holdRow_7 : decode cX0_holdRow 7 = .ok (.invokevirtual 39, 3) := by decide +kernel
theorem dX0_holdRow_10 : decode cX0_holdRow 10 = .ok (.ifCond .eq 7, 3) := by decide +kernel
theorem dX0_holdRow_13 : decode cX0_holdRow 13 = .ok (.iconst 0, 1) := by decide +kernel
theorem dX0_holdRow_14 : decode cX0_holdRow 14 = .ok (.goto 4, 3) := by decide +kernel
theorem dX0_holdRow_17 : decode cX0_holdRow 17 = .ok (.iconst 2, 1) := by decide +kernel
theorem dX0_holdRow_18 : decode cX0_holdRow 18 = .ok (.iastore, 1) := by decide +kernel
theorem dX0_holdRow_19 : decode cX0_holdRow 19 = .ok (.aload_n 0, 1) := by decide +kernel
theorem dX0_holdRow_20 : decode cX0_holdRow 20 = .ok (.getfield 27, 3) := by decide +kernel
theorem dX0_holdRow_23 : decode cX0_holdRow 23 = .ok (.iload_n 1, 1) := by decide +kernel
theorem dX0_holdRow_24 : decode cX0_holdRow 24 = .ok (.aload_n 0, 1) := by decide +kernel
theorem dX0_holdRow_25 : decode cX0_holdRow 25 = .ok (.getfield 9, 3) := by decide +kernel
theorem dX0_holdRow_28 : decode cX0_holdRow 28 = .ok (.iload_n 2, 1) := by decide +kernel
theorem dX0_holdRow_29 : decode cX0_holdRow 29 = .ok (.iaload, 1) := by decide +kernel
theorem dX0_holdRow_30 : decode cX0_holdRow 30 = .ok (.iastore, 1) := by decide +kernel
theorem dX0_holdRow_31 : decode cX0_holdRow 31 = .ok (.aload_n 0, 1) := by decide +kernel
theorem dX0_holdRow_32 : decode cX0_holdRow 32 = .ok (.getfield 30, 3) := by decide +kernel
theorem dX0_holdRow_35 : decode cX0_holdRow 35 = .ok (.iload_n 1, 1) := by decide +kernel
theorem dX0_holdRow_36 : decode cX0_holdRow 36 = .ok (.aload_n 0, 1) := by decide +kernel
theorem dX0_holdRow_37 : decode cX0_holdRow 37 = .ok (.getfield 15, 3) := by decide +kernel
theorem dX0_holdRow_40 : decode cX0_holdRow 40 = .ok (.iload_n 2, 1) := by decide +kernel
theorem dX0_holdRow_41 : decode cX0_holdRow 41 = .ok (.iaload, 1) := by decide +kernel
theorem dX0_holdRow_42 : decode cX0_holdRow 42 = .ok (.iastore, 1) := by decide +kernel
theorem dX0_holdRow_43 : decode cX0_holdRow 43 = .ok (.iconst 1, 1) := by decide +kernel
theorem dX0_holdRow_44 : decode cX0_holdRow 44 = .ok (.ireturn, 1) := by decide +kernel
theorem dX0_holdNothing_0 : decode cX0_holdNothing 0 = .ok (.aload_n 0, 1) := by decide +kernel
theorem dX0_holdNothing_1 : decode cX0_holdNothing 1 = .ok (.getfield 21, 3) := by decide +kernel
theorem dX0_holdNothing_4 : decode cX0_holdNothing 4 = .ok (.iload_n 1, 1) := by decide +kernel
theorem dX0_holdNothing_5 : decode cX0_holdNothing 5 = .ok (.iconst 0, 1) := by decide +kernel
theorem dX0_holdNothing_6 : decode cX0_holdNothing 6 = .ok (.iastore, 1) := by decide +kernel
theorem dX0_holdNothing_7 : decode cX0_holdNothing 7 = .ok (.iconst 1, 1) := by decide +kernel
theorem dX0_holdNothing_8 : decode cX0_holdNothing 8 = .ok (.ireturn, 1) := by decide +kernel
theorem dX0_holdsRow_0 : decode cX0_holdsRow 0 = .ok (.aload_n 0, 1) := by decide +kernel
theorem dX0_holdsRow_1 : decode cX0_holdsRow 1 = .ok (.getfield 21, 3) := by decide +kernel
theorem dX0_holdsRow_4 : decode cX0_holdsRow 4 = .ok (.iload_n 1, 1) := by decide +kernel
theorem dX0_holdsRow_5 : decode cX0_holdsRow 5 = .ok (.iaload, 1) := by decide +kernel
theorem dX0_holdsRow_6 : decode cX0_holdsRow 6 = .ok (.iconst 2, 1) := by decide +kernel
theorem dX0_holdsRow_7 : decode cX0_holdsRow 7 = .ok (.if_icmp .ne 7, 3) := by decide +kernel
theorem dX0_holdsRow_10 : decode cX0_holdsRow 10 = .ok (.iconst 1, 1) := by decide +kernel
theorem dX0_holdsRow_11 : decode cX0_holdsRow 11 = .ok (.goto 4, 3) := by decide +kernel
theorem dX0_holdsRow_14 : decode cX0_holdsRow 14 = .ok (.iconst 0, 1) := by decide +kernel
theorem dX0_holdsRow_15 : decode cX0_holdsRow 15 = .ok (.ireturn, 1) := by decide +kernel
theorem dX0_sortOn_0 : decode cX0_sortOn 0 = .ok (.aload_n 0, 1) := by decide +kernel
theorem dX0_sortOn_1 : decode cX0_sortOn 1 = .ok (.getfield 27, 3) := by decide +kernel
theorem dX0_sortOn_4 : decode cX0_sortOn 4 = .ok (.iload_n 1, 1) := by decide +kernel
theorem dX0_sortOn_5 : decode cX0_sortOn 5 = .ok (.iaload, 1) := by decide +kernel
theorem dX0_sortOn_6 : decode cX0_sortOn 6 = .ok (.ireturn, 1) := by decide +kernel
theorem dX0_sizeOn_0 : decode cX0_sizeOn 0 = .ok (.aload_n 0, 1) := by decide +kernel
theorem dX0_sizeOn_1 : decode cX0_sizeOn 1 = .ok (.getfield 30, 3) := by decide +kernel
theorem dX0_sizeOn_4 : decode cX0_sizeOn 4 = .ok (.iload_n 1, 1) := by decide +kernel
theorem dX0_sizeOn_5 : decode cX0_sizeOn 5 = .ok (.iaload, 1) := by decide +kernel
theorem dX0_sizeOn_6 : decode cX0_sizeOn 6 = .ok (.ireturn, 1) := by decide +kernel
theorem dX0_shipOn_0 : decode cX0_shipOn 0 = .ok (.aload_n 0, 1) := by decide +kernel
theorem dX0_shipOn_1 : decode cX0_shipOn 1 = .ok (.getfield 21, 3) := by decide +kernel
theorem dX0_shipOn_4 : decode cX0_shipOn 4 = .ok (.iload_n 1, 1) := by decide +kernel
theorem dX0_shipOn_5 : decode cX0_shipOn 5 = .ok (.iaload, 1) := by decide +kernel
theorem dX0_shipOn_6 : decode cX0_shipOn 6 = .ok (.iconst 1, 1) := by decide +kernel
theorem dX0_shipOn_7 : decode cX0_shipOn 7 = .ok (.if_icmp .ne 12, 3) := by decide +kernel
theorem dX0_shipOn_10 : decode cX0_shipOn 10 = .ok (.aload_n 0, 1) := by decide +kernel
theorem dX0_shipOn_11 : decode cX0_shipOn 11 = .ok (.getfield 24, 3) := by decide +kernel
theorem dX0_shipOn_14 : decode cX0_shipOn 14 = .ok (.iload_n 1, 1) := by decide +kernel
theorem dX0_shipOn_15 : decode cX0_shipOn 15 = .ok (.iaload, 1) := by decide +kernel
theorem dX0_shipOn_16 : decode cX0_shipOn 16 = .ok (.goto 5, 3) := by decide +kernel
theorem dX0_shipOn_19 : decode cX0_shipOn 19 = .ok (.bipush (-3), 2) := by decide +kernel
theorem dX0_shipOn_21 : decode cX0_shipOn 21 = .ok (.ireturn, 1) := by decide +kernel
theorem dX1_init_0 : decode cX1_init 0 = .ok (.aload_n 0, 1) := by decide +kernel
theorem dX1_init_1 : decode cX1_init 1 = .ok (.invokespecial 3, 3) := by decide +kernel
theorem dX1_init_4 : decode cX1_init 4 = .ok (.aload_n 0, 1) := by decide +kernel
theorem dX1_init_5 : decode cX1_init 5 = .ok (.iconst 5, 1) := by decide +kernel
theorem dX1_init_6 : decode cX1_init 6 = .ok (.anewarray 9, 3) := by decide +kernel
theorem dX1_init_9 : decode cX1_init 9 = .ok (.putfield 11, 3) := by decide +kernel
theorem dX1_init_12 : decode cX1_init 12 = .ok (.aload_n 0, 1) := by decide +kernel
theorem dX1_init_13 : decode cX1_init 13 = .ok (.iconst 4, 1) := by decide +kernel
theorem dX1_init_14 : decode cX1_init 14 = .ok (.newarray .int, 2) := by decide +kernel
theorem dX1_init_16 : decode cX1_init 16 = .ok (.putfield 17, 3) := by decide +kernel
theorem dX1_init_19 : decode cX1_init 19 = .ok (.aload_n 0, 1) := by decide +kernel
theorem dX1_init_20 : decode cX1_init 20 = .ok (.iconst 4, 1) := by decide +kernel
theorem dX1_init_21 : decode cX1_init 21 = .ok (.newarray .int, 2) := by decide +kernel
theorem dX1_init_23 : decode cX1_init 23 = .ok (.putfield 21, 3) := by decide +kernel
theorem dX1_init_26 : decode cX1_init 26 = .ok (.aload_n 0, 1) := by decide +kernel
theorem dX1_init_27 : decode cX1_init 27 = .ok (.iconst 0, 1) := by decide +kernel
theorem dX1_init_28 : decode cX1_init 28 = .ok (.putfield 24, 3) := by decide +kernel
theorem dX1_init_31 : decode cX1_init 31 = .ok (.aload_n 0, 1) := by decide +kernel
theorem dX1_init_32 : decode cX1_init 32 = .ok (.iconst 0, 1) := by decide +kernel
theorem dX1_init_33 : decode cX1_init 33 = .ok (.putfield 28, 3) := by decide +kernel
theorem dX1_init_36 : decode cX1_init 36 = .ok (.aload_n 0, 1) := by decide +kernel
theorem dX1_init_37 : decode cX1_init 37 = .ok (.iconst 0, 1) := by decide +kernel
theorem dX1_init_38 : decode cX1_init 38 = .ok (.putfield 31, 3) := by decide +kernel
theorem dX1_init_41 : decode cX1_init 41 = .ok (.aload_n 0, 1) := by decide +kernel
theorem dX1_init_42 : decode cX1_init 42 = .ok (.iconst 0, 1) := by decide +kernel
theorem dX1_init_43 : decode cX1_init 43 = .ok (.putfield 34, 3) := by decide +kernel
theorem dX1_init_46 : decode cX1_init 46 = .ok (.aload_n 0, 1) := by decide +kernel
theorem dX1_init_47 : decode cX1_init 47 = .ok (.bipush (-3), 2) := by decide +kernel
theorem dX1_init_49 : decode cX1_init 49 = .ok (.putfield 37, 3) := by decide +kernel
theorem dX1_init_52 : decode cX1_init 52 = .ok (.aload_n 0, 1) := by decide +kernel
theorem dX1_init_53 : decode cX1_init 53 = .ok (.iconst 0, 1) := by decide +kernel
theorem dX1_init_54 : decode cX1_init 54 = .ok (.putfield 40, 3) := by decide +kernel
theorem dX1_init_57 : decode cX1_init 57 = .ok (.iconst 0, 1) := by decide +kernel
theorem dX1_init_58 : decode cX1_init 58 = .ok (.istore_n 1, 1) := by decide +kernel
theorem dX1_init_59 : decode cX1_init 59 = .ok (.iload_n 1, 1) := by decide +kernel
theorem dX1_init_60 : decode cX1_init 60 = .ok (.iconst 4, 1) := by decide +kernel
theorem dX1_init_61 : decode cX1_init 61 = .ok (.if_icmp .gt 22, 3) := by decide +kernel
theorem dX1_init_64 : decode cX1_init 64 = .ok (.aload_n 0, 1) := by decide +kernel
theorem dX1_init_65 : decode cX1_init 65 = .ok (.getfield 11, 3) := by decide +kernel
theorem dX1_init_68 : decode cX1_init 68 = .ok (.iload_n 1, 1) := by decide +kernel
theorem dX1_init_69 : decode cX1_init 69 = .ok (.new 9, 3) := by decide +kernel
theorem dX1_init_72 : decode cX1_init 72 = .ok (.dup, 1) := by decide +kernel
theorem dX1_init_73 : decode cX1_init 73 = .ok (.invokespecial 43, 3) := by decide +kernel
theorem dX1_init_76 : decode cX1_init 76 = .ok (.aastore, 1) := by decide +kernel
theorem dX1_init_77 : decode cX1_init 77 = .ok (.iinc 1 1, 3) := by decide +kernel
theorem dX1_init_80 : decode cX1_init 80 = .ok (.goto (-21), 3) := by decide +kernel
theorem dX1_init_83 : decode cX1_init 83 = .ok (.return_, 1) := by decide +kernel
theorem dX1_begin_0 : decode cX1_begin 0 = .ok (.aload_n 0, 1) := by decide +kernel
theorem dX1_begin_1 : decode cX1_begin 1 = .ok (.iconst 0, 1) := by decide +kernel
theorem dX1_begin_2 : decode cX1_begin 2 = .ok (.iload_n 2, 1) := by decide +kernel
theorem dX1_begin_3 : decode cX1_begin 3 = .ok (.iconst 4, 1) := by decide +kernel
theorem dX1_begin_4 : decode cX1_begin 4 = .ok (.invokestatic 44, 3) := by decide +kernel
theorem dX1_begin_7 : decode cX1_begin 7 = .ok (.aload_n 1, 1) := by decide +kernel
theorem dX1_begin_8 : decode cX1_begin 8 = .ok (.getfield 50, 3) := by decide +kernel
theorem dX1_begin_11 : decode cX1_begin 11 = .ok (.aload_n 1, 1) := by decide +kernel
theorem dX1_begin_12 : decode cX1_begin 12 = .ok (.getfield 55, 3) := by decide +kernel
theorem dX1_begin_15 : decode cX1_begin 15 = .ok (.getfield 59, 3) := by decide +kernel
theorem dX1_begin_18 : decode cX1_begin 18 = .ok (.isub, 1) := by decide +kernel
theorem dX1_begin_19 : decode cX1_begin 19 = .ok (.invokestatic 44, 3) := by decide +kernel
theorem dX1_begin_22 : decode cX1_begin 22 = .ok (.invokestatic 62, 3) := by decide +kernel
theorem dX1_begin_25 : decode cX1_begin 25 = .ok (.putfield 24, 3) := by decide +kernel
theorem dX1_begin_28 : decode cX1_begin 28 = .ok (.aload_n 0, 1) := by decide +kernel
theorem dX1_begin_29 : decode cX1_begin 29 = .ok (.getfield 11, 3) := by decide +kernel
theorem dX1_begin_32 : decode cX1_begin 32 = .ok (.iconst 0, 1) := by decide +kernel
theorem dX1_begin_33 : decode cX1_begin 33 = .ok (.aaload, 1) := by decide +kernel
theorem dX1_begin_34 : decode cX1_begin 34 = .ok (.aload_n 1, 1) := by decide +kernel
theorem dX1_begin_35 : decode cX1_begin 35 = .ok (.getfield 55, 3) := by decide +kernel
theorem dX1_begin_38 : decode cX1_begin 38 = .ok (.invokevirtual 65, 3) := by decide +kernel
theorem dX1_begin_41 : decode cX1_begin 41 = .ok (.return_, 1) := by decide +kernel
theorem dX1_study_0 : decode cX1_study 0 = .ok (.aload_n 0, 1) := by decide +kernel
theorem dX1_study_1 : decode cX1_study 1 = .ok (.aload_n 1, 1) := by decide +kernel
theorem dX1_study_2 : decode cX1_study 2 = .ok (.iload_n 2, 1) := by decide +kernel
theorem dX1_study_3 : decode cX1_study 3 = .ok (.invokevirtual 69, 3) := by decide +kernel
theorem dX1_study_6 : decode cX1_study 6 = .ok (.aload_n 0, 1) := by decide +kernel
theorem dX1_study_7 : decode cX1_study 7 = .ok (.iload_n 3, 1) := by decide +kernel
theorem dX1_study_8 : decode cX1_study 8 = .ok (.putfield 28, 3) := by decide +kernel
theorem dX1_study_11 : decode cX1_study 11 = .ok (.aload_n 0, 1) := by decide +kernel
theorem dX1_study_12 : decode cX1_study 12 = .ok (.iconst (-1), 1) := by decide +kernel
theorem dX1_study_13 : decode cX1_study 13 = .ok (.putfield 31, 3) := by decide +kernel
theorem dX1_study_16 : decode cX1_study 16 = .ok (.aload_n 0, 1) := by decide +kernel
theorem dX1_study_17 : decode cX1_study 17 = .ok (.iconst 0, 1) := by decide +kernel
theorem dX1_study_18 : decode cX1_study 18 = .ok (.putfield 34, 3) := by decide +kernel
theorem dX1_study_21 : decode cX1_study 21 = .ok (.aload_n 0, 1) := by decide +kernel
theorem dX1_study_22 : decode cX1_study 22 = .ok (.bipush (-3), 2) := by decide +kernel
theorem dX1_study_24 : decode cX1_study 24 = .ok (.putfield 37, 3) := by decide +kernel
theorem dX1_study_27 : decode cX1_study 27 = .ok (.aload_n 0, 1) := by decide +kernel
theorem dX1_study_28 : decode cX1_study 28 = .ok (.iconst 0, 1) := by decide +kernel
theorem dX1_study_29 : decode cX1_study 29 = .ok (.putfield 40, 3) := by decide +kernel
theorem dX1_study_32 : decode cX1_study 32 = .ok (.aload_n 0, 1) := by decide +kernel
theorem dX1_study_33 : decode cX1_study 33 = .ok (.aload_n 1, 1) := by decide +kernel
theorem dX1_study_34 : decode cX1_study 34 = .ok (.iconst 0, 1) := by decide +kernel
theorem dX1_study_35 : decode cX1_study 35 = .ok (.iconst 0, 1) := by decide +kernel
theorem dX1_study_36 : decode cX1_study 36 = .ok (.iconst 1, 1) := by decide +kernel
theorem dX1_study_37 : decode cX1_study 37 = .ok (.invokevirtual 73, 3) := by decide +kernel
theorem dX1_study_40 : decode cX1_study 40 = .ok (.return_, 1) := by decide +kernel
theorem dX1_explore_0 : decode cX1_explore 0 = .ok (.iload_n 2, 1) := by decide +kernel
theorem dX1_explore_1 : decode cX1_explore 1 = .ok (.aload_n 0, 1) := by decide +kernel
theorem dX1_explore_2 : decode cX1_explore 2 = .ok (.getfield 24, 3) := by decide +kernel
theorem dX1_explore_5 : decode cX1_explore 5 = .ok (.if_icmp .lt 39, 3) := by decide +kernel
theorem dX1_explore_8 : decode cX1_explore 8 = .ok (.aload_n 0, 1) := by decide +kernel
theorem dX1_explore_9 : decode cX1_explore 9 = .ok (.iload_n 3, 1) := by decide +kernel
theorem dX1_explore_10 : decode cX1_explore 10 = .ok (.iload 4, 2) := by decide +kernel
theorem dX1_explore_12 : decode cX1_explore 12 = .ok (.aload_n 0, 1) := by decide +kernel
theorem dX1_explore_13 : decode cX1_explore 13 = .ok (.getfield 11, 3) := by decide +kernel
theorem dX1_explore_16 : decode cX1_explore 16 = .ok (.iload_n 2, 1) := by decide +kernel
theorem dX1_explore_17 : decode cX1_explore 17 = .ok (.aaload, 1) := by decide +kernel
theorem dX1_explore_18 : decode cX1_explore 18 = .ok (.getfield 77, 3) := by decide +kernel
theorem dX1_explore_21 : decode cX1_explore 21 = .ok (.aload_n 0, 1) := by decide +kernel
theorem dX1_explore_22 : decode cX1_explore 22 = .ok (.getfield 11, 3) := by decide +kernel
theorem dX1_explore_25 : decode cX1_explore 25 = .ok (.iconst 0, 1) := by decide +kernel
theorem dX1_explore_26 : decode cX1_explore 26 = .ok (.aaload, 1) := by decide +kernel
theorem dX1_explore_27 : decode cX1_explore 27 = .ok (.getfield 77, 3) := by decide +kernel
theorem dX1_explore_30 : decode cX1_explore 30 = .ok (.isub, 1) := by decide +kernel
theorem dX1_explore_31 : decode cX1_explore 31 = .ok (.aload_n 0, 1) := by decide +kernel
theorem dX1_explore_32 : decode cX1_explore 32 = .ok (.getfield 11, 3) := by decide +kernel
theorem dX1_explore_35 : decode cX1_explore 35 = .ok (.iload_n 2, 1) := by decide +kernel
theorem dX1_explore_36 : decode cX1_explore 36 = .ok (.aaload, 1) := by decide +kernel
theorem dX1_explore_37 : decode cX1_explore 37 = .ok (.getfield 80, 3) := by decide +kernel
theorem dX1_explore_40 : decode cX1_explore 40 = .ok (.invokevirtual 83, 3) := by decide +kernel
theorem dX1_explore_43 : decode cX1_explore 43 = .ok (.return_, 1) := by decide +kernel
theorem dX1_explore_44 : decode cX1_explore 44 = .ok (.aload_n 1, 1) := by decide +kernel
theorem dX1_explore_45 : decode cX1_explore 45 = .ok (.aload_n 0, 1) := by decide +kernel
theorem dX1_explore_46 : decode cX1_explore 46 = .ok (.getfield 11, 3) := by decide +kernel
theorem dX1_explore_49 : decode cX1_explore 49 = .ok (.iload_n 2, 1) := by decide +kernel
theorem dX1_explore_50 : decode cX1_explore 50 = .ok (.aaload, 1) := by decide +kernel
theorem dX1_explore_51 : decode cX1_explore 51 = .ok (.invokevirtual 87, 3) := by decide +kernel
theorem dX1_explore_54 : decode cX1_explore 54 = .ok (.istore 5, 2) := by decide +kernel
theorem dX1_explore_56 : decode cX1_explore 56 = .ok (.iconst 1, 1) := by decide +kernel
theorem dX1_explore_57 : decode cX1_explore 57 = .ok (.aload_n 1, 1) := by decide +kernel
theorem dX1_explore_58 : decode cX1_explore 58 = .ok (.getfield 91, 3) := by decide +kernel
theorem dX1_explore_61 : decode cX1_explore 61 = .ok (.iadd, 1) := by decide +kernel
theorem dX1_explore_62 : decode cX1_explore 62 = .ok (.iload 5, 2) := by decide +kernel
theorem dX1_explore_64 : decode cX1_explore 64 = .ok (.invokestatic 94, 3) := by decide +kernel
theorem dX1_explore_67 : decode cX1_explore 67 = .ok (.isub, 1) := by decide +kernel
theorem dX1_explore_68 : decode cX1_explore 68 = .ok (.istore 6, 2) := by decide +kernel
theorem dX1_explore_70 : decode cX1_explore 70 = .ok (.iconst 0, 1) := by decide +kernel
theorem dX1_explore_71 : decode cX1_explore 71 = .ok (.istore 7, 2) := by decide +kernel
theorem dX1_explore_73 : decode cX1_explore 73 = .ok (.iload 7, 2) := by decide +kernel
theorem dX1_explore_75 : decode cX1_explore 75 = .ok (.aload_n 1, 1) := by decide +kernel
theorem dX1_explore_76 : decode cX1_explore 76 = .ok (.getfield 91, 3) := by decide +kernel
theorem dX1_explore_79 : decode cX1_explore 79 = .ok (.if_icmp .gt 102, 3) := by decide +kernel
theorem dX1_explore_82 : decode cX1_explore 82 = .ok (.iload 7, 2) := by decide +kernel
theorem dX1_explore_84 : decode cX1_explore 84 = .ok (.ifCond .eq 16, 3) := by decide +kernel
theorem dX1_explore_87 : decode cX1_explore 87 = .ok (.iload 5, 2) := by decide +kernel
theorem dX1_explore_89 : decode cX1_explore 89 = .ok (.iload 7, 2) := by decide +kernel
theorem dX1_explore_91 : decode cX1_explore 91 = .ok (.iconst 1, 1) := by decide +kernel
theorem dX1_explore_92 : decode cX1_explore 92 = .ok (.isub, 1) := by decide +kernel
theorem dX1_explore_93 : decode cX1_explore 93 = .ok (.ishr, 1) := by decide +kernel
theorem dX1_explore_94 : decode cX1_explore 94 = .ok (.iconst 1, 1) := by decide +kernel
theorem dX1_explore_95 : decode cX1_explore 95 = .ok (.iand, 1) := by decide +kernel
theorem dX1_explore_96 : decode cX1_explore 96 = .ok (.iconst 1, 1) := by decide +kernel
theorem dX1_explore_97 : decode cX1_explore 97 = .ok (.if_icmp .ne 78, 3) := by decide +kernel
theorem dX1_explore_100 : decode cX1_explore 100 = .ok (.aload_n 0, 1) := by decide +kernel
theorem dX1_explore_101 : decode cX1_explore 101 = .ok (.getfield 17, 3) := by decide +kernel
theorem dX1_explore_104 : decode cX1_explore 104 = .ok (.iload_n 2, 1) := by decide +kernel
theorem dX1_explore_105 : decode cX1_explore 105 = .ok (.iload 7, 2) := by decide +kernel
theorem dX1_explore_107 : decode cX1_explore 107 = .ok (.iastore, 1) := by decide +kernel
theorem dX1_explore_108 : decode cX1_explore 108 = .ok (.aload_n 0, 1) := by decide +kernel
theorem dX1_explore_109 : decode cX1_explore 109 = .ok (.getfield 11, 3) := by decide +kernel
theorem dX1_explore_112 : decode cX1_explore 112 = .ok (.iload_n 2, 1) := by decide +kernel
theorem dX1_explore_113 : decode cX1_explore 113 = .ok (.iconst 1, 1) := by decide +kernel
theorem dX1_explore_114 : decode cX1_explore 114 = .ok (.iadd, 1) := by decide +kernel
theorem dX1_explore_115 : decode cX1_explore 115 = .ok (.aaload, 1) := by decide +kernel
theorem dX1_explore_116 : decode cX1_explore 116 = .ok (.aload_n 0, 1) := by decide +kernel
theorem dX1_explore_117 : decode cX1_explore 117 = .ok (.getfield 11, 3) := by decide +kernel
theorem dX1_explore_120 : decode cX1_explore 120 = .ok (.iload_n 2, 1) := by decide +kernel
theorem dX1_explore_121 : decode cX1_explore 121 = .ok (.aaload, 1) := by decide +kernel
theorem dX1_explore_122 : decode cX1_explore 122 = .ok (.invokevirtual 65, 3) := by decide +kernel
theorem dX1_explore_125 : decode cX1_explore 125 = .ok (.aload_n 1, 1) := by decide +kernel
theorem dX1_explore_126 : decode cX1_explore 126 = .ok (.aload_n 0, 1) := by decide +kernel
theorem dX1_explore_127 : decode cX1_explore 127 = .ok (.getfield 11, 3) := by decide +kernel
theorem dX1_explore_130 : decode cX1_explore 130 = .ok (.iload_n 2, 1) := by decide +kernel
theorem dX1_explore_131 : decode cX1_explore 131 = .ok (.iconst 1, 1) := by decide +kernel
theorem dX1_explore_132 : decode cX1_explore 132 = .ok (.iadd, 1) := by decide +kernel
theorem dX1_explore_133 : decode cX1_explore 133 = .ok (.aaload, 1) := by decide +kernel
theorem dX1_explore_134 : decode cX1_explore 134 = .ok (.iload 7, 2) := by decide +kernel
theorem dX1_explore_136 : decode cX1_explore 136 = .ok (.invokevirtual 100, 3) := by decide +kernel
theorem dX1_explore_139 : decode cX1_explore 139 = .ok (.pop, 1) := by decide +kernel
theorem dX1_explore_140 : decode cX1_explore 140 = .ok (.aload_n 0, 1) := by decide +kernel
theorem dX1_explore_141 : decode cX1_explore 141 = .ok (.aload_n 1, 1) := by decide +kernel
theorem dX1_explore_142 : decode cX1_explore 142 = .ok (.iload_n 2, 1) := by decide +kernel
theorem dX1_explore_143 : decode cX1_explore 143 = .ok (.iconst 1, 1) := by decide +kernel
theorem dX1_explore_144 : decode cX1_explore 144 = .ok (.iadd, 1) := by decide +kernel
theorem dX1_explore_145 : decode cX1_explore 145 = .ok (.iload 7, 2) := by decide +kernel
theorem dX1_explore_147 : decode cX1_explore 147 = .ok (.ifCond .ne 7, 3) := by decide +kernel
theorem dX1_explore_150 : decode cX1_explore 150 = .ok (.iload_n 3, 1) := by decide +kernel
theorem dX1_explore_151 : decode cX1_explore 151 = .ok (.goto 6, 3) := by decide +kernel
theorem dX1_explore_154 : decode cX1_explore 154 = .ok (.iload_n 3, 1) := by decide +kernel
theorem dX1_explore_155 : decode cX1_explore 155 = .ok (.iconst 1, 1) := by decide +kernel
theorem dX1_explore_156 : decode cX1_explore 156 = .ok (.iadd, 1) := by decide +kernel
theorem dX1_explore_157 : decode cX1_explore 157 = .ok (.iload 7, 2) := by decide +kernel
theorem dX1_explore_159 : decode cX1_explore 159 = .ok (.ifCond .ne 11, 3) := by decide +kernel
theorem dX1_explore_162 : decode cX1_explore 162 = .ok (.iload 4, 2) := by decide +kernel
theorem dX1_explore_164 : decode cX1_explore 164 = .ok (.iload 6, 2) := by decide +kernel
theorem dX1_explore_166 : decode cX1_explore 166 = .ok (.imul, 1) := by decide +kernel
theorem dX1_explore_167 : decode cX1_explore 167 = .ok (.goto 5, 3) := by decide +kernel
theorem dX1_explore_170 : decode cX1_explore 170 = .ok (.iload 4, 2) := by decide +kernel
theorem dX1_explore_172 : decode cX1_explore 172 = .ok (.invokevirtual 73, 3) := by decide +kernel
theorem dX1_explore_175 : decode cX1_explore 175 = .ok (.iinc 7 1, 3) := by decide +kernel
theorem dX1_explore_178 : decode cX1_explore 178 = .ok (.goto (-105), 3) := by decide +kernel
theorem dX1_explore_181 : decode cX1_explore 181 = .ok (.return_, 1) := by decide +kernel
theorem dX1_weigh_0 : decode cX1_weigh 0 = .ok (.iload_n 3, 1) := by decide +kernel
theorem dX1_weigh_1 : decode cX1_weigh 1 = .ok (.aload_n 0, 1) := by decide +kernel
theorem dX1_weigh_2 : decode cX1_weigh 2 = .ok (.getfield 31, 3) := by decide +kernel
theorem dX1_weigh_5 : decode cX1_weigh 5 = .ok (.if_icmp .le 27, 3) := by decide +kernel
theorem dX1_weigh_8 : decode cX1_weigh 8 = .ok (.aload_n 0, 1) := by decide +kernel
theorem dX1_weigh_9 : decode cX1_weigh 9 = .ok (.iload_n 3, 1) := by decide +kernel
theorem dX1_weigh_10 : decode cX1_weigh 10 = .ok (.putfield 31, 3) := by decide +kernel
theorem dX1_weigh_13 : decode cX1_weigh 13 = .ok (.aload_n 0, 1) := by decide +kernel
theorem dX1_weigh_14 : decode cX1_weigh 14 = .ok (.iconst 0, 1) := by decide +kernel
theorem dX1_weigh_15 : decode cX1_weigh 15 = .ok (.putfield 34, 3) := by decide +kernel
theorem dX1_weigh_18 : decode cX1_weigh 18 = .ok (.aload_n 0, 1) := by decide +kernel
theorem dX1_weigh_19 : decode cX1_weigh 19 = .ok (.getfield 17, 3) := by decide +kernel
theorem dX1_weigh_22 : decode cX1_weigh 22 = .ok (.iconst 0, 1) := by decide +kernel
theorem dX1_weigh_23 : decode cX1_weigh 23 = .ok (.aload_n 0, 1) := by decide +kernel
theorem dX1_weigh_24 : decode cX1_weigh 24 = .ok (.getfield 21, 3) := by decide +kernel
theorem dX1_weigh_27 : decode cX1_weigh 27 = .ok (.iconst 0, 1) := by decide +kernel
theorem dX1_weigh_28 : decode cX1_weigh 28 = .ok (.iconst 4, 1) := by decide +kernel
theorem dX1_weigh_29 : decode cX1_weigh 29 = .ok (.invokestatic 104, 3) := by decide +kernel
theorem dX1_weigh_32 : decode cX1_weigh 32 = .ok (.iload_n 3, 1) := by decide +kernel
theorem dX1_weigh_33 : decode cX1_weigh 33 = .ok (.aload_n 0, 1) := by decide +kernel
theorem dX1_weigh_34 : decode cX1_weigh 34 = .ok (.getfield 31, 3) := by decide +kernel
theorem dX1_weigh_37 : decode cX1_weigh 37 = .ok (.if_icmp .ne 13, 3) := by decide +kernel
theorem dX1_weigh_40 : decode cX1_weigh 40 = .ok (.aload_n 0, 1) := by decide +kernel
theorem dX1_weigh_41 : decode cX1_weigh 41 = .ok (.dup, 1) := by decide +kernel
theorem dX1_weigh_42 : decode cX1_weigh 42 = .ok (.getfield 34, 3) := by decide +kernel
theorem dX1_weigh_45 : decode cX1_weigh 45 = .ok (.iload_n 2, 1) := by decide +kernel
theorem dX1_weigh_46 : decode cX1_weigh 46 = .ok (.iadd, 1) := by decide +kernel
theorem dX1_weigh_47 : decode cX1_weigh 47 = .ok (.putfield 34, 3) := by decide +kernel
theorem dX1_weigh_50 : decode cX1_weigh 50 = .ok (.iload 4, 2) := by decide +kernel
theorem dX1_weigh_52 : decode cX1_weigh 52 = .ok (.aload_n 0, 1) := by decide +kernel
theorem dX1_weigh_53 : decode cX1_weigh 53 = .ok (.getfield 28, 3) := by decide +kernel
theorem dX1_weigh_56 : decode cX1_weigh 56 = .ok (.iand, 1) := by decide +kernel
theorem dX1_weigh_57 : decode cX1_weigh 57 = .ok (.aload_n 0, 1) := by decide +kernel
theorem dX1_weigh_58 : decode cX1_weigh 58 = .ok (.getfield 28, 3) := by decide +kernel
theorem dX1_weigh_61 : decode cX1_weigh 61 = .ok (.if_icmp .ne 25, 3) := by decide +kernel
theorem dX1_weigh_64 : decode cX1_weigh 64 = .ok (.aload_n 0, 1) := by decide +kernel
theorem dX1_weigh_65 : decode cX1_weigh 65 = .ok (.getfield 37, 3) := by decide +kernel
theorem dX1_weigh_68 : decode cX1_weigh 68 = .ok (.bipush (-3), 2) := by decide +kernel
theorem dX1_weigh_70 : decode cX1_weigh 70 = .ok (.if_icmp .eq 11, 3) := by decide +kernel
theorem dX1_weigh_73 : decode cX1_weigh 73 = .ok (.iload_n 1, 1) := by decide +kernel
theorem dX1_weigh_74 : decode cX1_weigh 74 = .ok (.aload_n 0, 1) := by decide +kernel
theorem dX1_weigh_75 : decode cX1_weigh 75 = .ok (.getfield 37, 3) := by decide +kernel
theorem dX1_weigh_78 : decode cX1_weigh 78 = .ok (.if_icmp .ge 8, 3) := by decide +kernel
theorem dX1_weigh_81 : decode cX1_weigh 81 = .ok (.aload_n 0, 1) := by decide +kernel
theorem dX1_weigh_82 : decode cX1_weigh 82 = .ok (.iload_n 1, 1) := by decide +kernel
theorem dX1_weigh_83 : decode cX1_weigh 83 = .ok (.putfield 37, 3) := by decide +kernel
theorem dX1_weigh_86 : decode cX1_weigh 86 = .ok (.aload_n 0, 1) := by decide +kernel
theorem dX1_weigh_87 : decode cX1_weigh 87 = .ok (.dup, 1) := by decide +kernel
theorem dX1_weigh_88 : decode cX1_weigh 88 = .ok (.getfield 40, 3) := by decide +kernel
theorem dX1_weigh_91 : decode cX1_weigh 91 = .ok (.iload 4, 2) := by decide +kernel
theorem dX1_weigh_93 : decode cX1_weigh 93 = .ok (.ior, 1) := by decide +kernel
theorem dX1_weigh_94 : decode cX1_weigh 94 = .ok (.putfield 40, 3) := by decide +kernel
theorem dX1_weigh_97 : decode cX1_weigh 97 = .ok (.return_, 1) := by decide +kernel
theorem dX1_duelOf_0 : decode cX1_duelOf 0 = .ok (.aload_n 0, 1) := by decide +kernel
theorem dX1_duelOf_1 : decode cX1_duelOf 1 = .ok (.aload_n 1, 1) := by decide +kernel
theorem dX1_duelOf_2 : decode cX1_duelOf 2 = .ok (.iload_n 2, 1) := by decide +kernel
theorem dX1_duelOf_3 : decode cX1_duelOf 3 = .ok (.invokevirtual 69, 3) := by decide +kernel
theorem dX1_duelOf_6 : decode cX1_duelOf 6 = .ok (.aload_n 0, 1) := by decide +kernel
theorem dX1_duelOf_7 : decode cX1_duelOf 7 = .ok (.aload_n 1, 1) := by decide +kernel
theorem dX1_duelOf_8 : decode cX1_duelOf 8 = .ok (.iconst 0, 1) := by decide +kernel
theorem dX1_duelOf_9 : decode cX1_duelOf 9 = .ok (.invokevirtual 110, 3) := by decide +kernel
theorem dX1_duelOf_12 : decode cX1_duelOf 12 = .ok (.ireturn, 1) := by decide +kernel
theorem dX1_duel_0 : decode cX1_duel 0 = .ok (.iload_n 2, 1) := by decide +kernel
theorem dX1_duel_1 : decode cX1_duel 1 = .ok (.aload_n 0, 1) := by decide +kernel
theorem dX1_duel_2 : decode cX1_duel 2 = .ok (.getfield 24, 3) := by decide +kernel
theorem dX1_duel_5 : decode cX1_duel 5 = .ok (.if_icmp .lt 5, 3) := by decide +kernel
theorem dX1_duel_8 : decode cX1_duel 8 = .ok (.iconst 0, 1) := by decide +kernel
theorem dX1_duel_9 : decode cX1_duel 9 = .ok (.ireturn, 1) := by decide +kernel
theorem dX1_duel_10 : decode cX1_duel 10 = .ok (.iload_n 2, 1) := by decide +kernel
theorem dX1_duel_11 : decode cX1_duel 11 = .ok (.iconst 2, 1) := by decide +kernel
theorem dX1_duel_12 : decode cX1_duel 12 = .ok (.irem, 1) := by decide +kernel
theorem dX1_duel_13 : decode cX1_duel 13 = .ok (.ifCond .ne 7, 3) := by decide +kernel
theorem dX1_duel_16 : decode cX1_duel 16 = .ok (.iconst 1, 1) := by decide +kernel
theorem dX1_duel_17 : decode cX1_duel 17 = .ok (.goto 4, 3) := by decide +kernel
theorem dX1_duel_20 : decode cX1_duel 20 = .ok (.iconst 0, 1) := by decide +kernel
theorem dX1_duel_21 : decode cX1_duel 21 = .ok (.istore_n 3, 1) := by decide +kernel
theorem dX1_duel_22 : decode cX1_duel 22 = .ok (.iconst 0, 1) := by decide +kernel
theorem dX1_duel_23 : decode cX1_duel 23 = .ok (.istore 4, 2) := by decide +kernel
theorem dX1_duel_25 : decode cX1_duel 25 = .ok (.aload_n 1, 1) := by decide +kernel
theorem dX1_duel_26 : decode cX1_duel 26 = .ok (.aload_n 0, 1) := by decide +kernel
theorem dX1_duel_27 : decode cX1_duel 27 = .ok (.getfield 11, 3) := by decide +kernel
theorem dX1_duel_30 : decode cX1_duel 30 = .ok (.iload_n 2, 1) := by decide +kernel
theorem dX1_duel_31 : decode cX1_duel 31 = .ok (.aaload, 1) := by decide +kernel
theorem dX1_duel_32 : decode cX1_duel 32 = .ok (.invokevirtual 87, 3) := by decide +kernel
theorem dX1_duel_35 : decode cX1_duel 35 = .ok (.istore 5, 2) := by decide +kernel
theorem dX1_duel_37 : decode cX1_duel 37 = .ok (.iconst 0, 1) := by decide +kernel
theorem dX1_duel_38 : decode cX1_duel 38 = .ok (.istore 6, 2) := by decide +kernel
theorem dX1_duel_40 : decode cX1_duel 40 = .ok (.iload 6, 2) := by decide +kernel
theorem dX1_duel_42 : decode cX1_duel 42 = .ok (.aload_n 1, 1) := by decide +kernel
theorem dX1_duel_43 : decode cX1_duel 43 = .ok (.getfield 91, 3) := by decide +kernel
theorem dX1_duel_46 : decode cX1_duel 46 = .ok (.if_icmp .gt 107, 3) := by decide +kernel
theorem dX1_duel_49 : decode cX1_duel 49 = .ok (.iload 6, 2) := by decide +kernel
theorem dX1_duel_51 : decode cX1_duel 51 = .ok (.ifCond .eq 16, 3) := by decide +kernel
theorem dX1_duel_54 : decode cX1_duel 54 = .ok (.iload 5, 2) := by decide +kernel
theorem dX1_duel_56 : decode cX1_duel 56 = .ok (.iload 6, 2) := by decide +kernel
theorem dX1_duel_58 : decode cX1_duel 58 = .ok (.iconst 1, 1) := by decide +kernel
theorem dX1_duel_59 : decode cX1_duel 59 = .ok (.isub, 1) := by decide +kernel
theorem dX1_duel_60 : decode cX1_duel 60 = .ok (.ishr, 1) := by decide +kernel
theorem dX1_duel_61 : decode cX1_duel 61 = .ok (.iconst 1, 1) := by decide +kernel
theorem dX1_duel_62 : decode cX1_duel 62 = .ok (.iand, 1) := by decide +kernel
theorem dX1_duel_63 : decode cX1_duel 63 = .ok (.iconst 1, 1) := by decide +kernel
theorem dX1_duel_64 : decode cX1_duel 64 = .ok (.if_icmp .ne 83, 3) := by decide +kernel
theorem dX1_duel_67 : decode cX1_duel 67 = .ok (.aload_n 0, 1) := by decide +kernel
theorem dX1_duel_68 : decode cX1_duel 68 = .ok (.getfield 11, 3) := by decide +kernel
theorem dX1_duel_71 : decode cX1_duel 71 = .ok (.iload_n 2, 1) := by decide +kernel
theorem dX1_duel_72 : decode cX1_duel 72 = .ok (.iconst 1, 1) := by decide +kernel
theorem dX1_duel_73 : decode cX1_duel 73 = .ok (.iadd, 1) := by decide +kernel
theorem dX1_duel_74 : decode cX1_duel 74 = .ok (.aaload, 1) := by decide +kernel
theorem dX1_duel_75 : decode cX1_duel 75 = .ok (.aload_n 0, 1) := by decide +kernel
theorem dX1_duel_76 : decode cX1_duel 76 = .ok (.getfield 11, 3) := by decide +kernel
theorem dX1_duel_79 : decode cX1_duel 79 = .ok (.iload_n 2, 1) := by decide +kernel
theorem dX1_duel_80 : decode cX1_duel 80 = .ok (.aaload, 1) := by decide +kernel
theorem dX1_duel_81 : decode cX1_duel 81 = .ok (.invokevirtual 65, 3) := by decide +kernel
theorem dX1_duel_84 : decode cX1_duel 84 = .ok (.aload_n 1, 1) := by decide +kernel
theorem dX1_duel_85 : decode cX1_duel 85 = .ok (.aload_n 0, 1) := by decide +kernel
theorem dX1_duel_86 : decode cX1_duel 86 = .ok (.getfield 11, 3) := by decide +kernel
theorem dX1_duel_89 : decode cX1_duel 89 = .ok (.iload_n 2, 1) := by decide +kernel
theorem dX1_duel_90 : decode cX1_duel 90 = .ok (.iconst 1, 1) := by decide +kernel
theorem dX1_duel_91 : decode cX1_duel 91 = .ok (.iadd, 1) := by decide +kernel
theorem dX1_duel_92 : decode cX1_duel 92 = .ok (.aaload, 1) := by decide +kernel
theorem dX1_duel_93 : decode cX1_duel 93 = .ok (.iload 6, 2) := by decide +kernel
theorem dX1_duel_95 : decode cX1_duel 95 = .ok (.invokevirtual 100, 3) := by decide +kernel
theorem dX1_duel_98 : decode cX1_duel 98 = .ok (.aload_n 0, 1) := by decide +kernel
theorem dX1_duel_99 : decode cX1_duel 99 = .ok (.aload_n 1, 1) := by decide +kernel
theorem dX1_duel_100 : decode cX1_duel 100 = .ok (.iload_n 2, 1) := by decide +kernel
theorem dX1_duel_101 : decode cX1_duel 101 = .ok (.iconst 1, 1) := by decide +kernel
theorem dX1_duel_102 : decode cX1_duel 102 = .ok (.iadd, 1) := by decide +kernel
theorem dX1_duel_103 : decode cX1_duel 103 = .ok (.invokevirtual 110, 3) := by decide +kernel
theorem dX1_duel_106 : decode cX1_duel 106 = .ok (.iadd, 1) := by decide +kernel
theorem dX1_duel_107 : decode cX1_duel 107 = .ok (.istore 7, 2) := by decide +kernel
theorem dX1_duel_109 : decode cX1_duel 109 = .ok (.iload 6, 2) := by decide +kernel
theorem dX1_duel_111 : decode cX1_duel 111 = .ok (.ifCond .eq 24, 3) := by decide +kernel
theorem dX1_duel_114 : decode cX1_duel 114 = .ok (.iload_n 3, 1) := by decide +kernel
theorem dX1_duel_115 : decode cX1_duel 115 = .ok (.ifCond .eq 13, 3) := by decide +kernel
theorem dX1_duel_118 : decode cX1_duel 118 = .ok (.iload 7, 2) := by decide +kernel
theorem dX1_duel_120 : decode cX1_duel 120 = .ok (.iload 4, 2) := by decide +kernel
theorem dX1_duel_122 : decode cX1_duel 122 = .ok (.if_icmp .le 25, 3) := by decide +kernel
theorem dX1_duel_125 : decode cX1_duel 125 = .ok (.goto 10, 3) := by decide +kernel
theorem dX1_duel_128 : decode cX1_duel 128 = .ok (.iload 7, 2) := by decide +kernel
theorem dX1_duel_130 : decode cX1_duel 130 = .ok (.iload 4, 2) := by decide +kernel
theorem dX1_duel_132 : decode cX1_duel 132 = .ok (.if_icmp .ge 15, 3) := by decide +kernel
theorem dX1_duel_135 : decode cX1_duel 135 = .ok (.iload 7, 2) := by decide +kernel
theorem dX1_duel_137 : decode cX1_duel 137 = .ok (.istore 4, 2) := by decide +kernel
theorem dX1_duel_139 : decode cX1_duel 139 = .ok (.aload_n 0, 1) := by decide +kernel
theorem dX1_duel_140 : decode cX1_duel 140 = .ok (.getfield 17, 3) := by decide +kernel
theorem dX1_duel_143 : decode cX1_duel 143 = .ok (.iload_n 2, 1) := by decide +kernel
theorem dX1_duel_144 : decode cX1_duel 144 = .ok (.iload 6, 2) := by decide +kernel
theorem dX1_duel_146 : decode cX1_duel 146 = .ok (.iastore, 1) := by decide +kernel
theorem dX1_duel_147 : decode cX1_duel 147 = .ok (.iinc 6 1, 3) := by decide +kernel
theorem dX1_duel_150 : decode cX1_duel 150 = .ok (.goto (-110), 3) := by decide +kernel
theorem dX1_duel_153 : decode cX1_duel 153 = .ok (.iload 4, 2) := by decide +kernel
theorem dX1_duel_155 : decode cX1_duel 155 = .ok (.ireturn, 1) := by decide +kernel
theorem dX2_init_0 : decode cX2_init 0 = .ok (.aload_n 0, 1) := by decide +kernel
theorem dX2_init_1 : decode cX2_init 1 = .ok (.invokespecial 3, 3) := by decide +kernel
theorem dX2_init_4 : decode cX2_init 4 = .ok (.aload_n 0, 1) := by decide +kernel
theorem dX2_init_5 : decode cX2_init 5 = .ok (.bipush 6, 2) := by decide +kernel
theorem dX2_init_7 : decode cX2_init 7 = .ok (.newarray .int, 2) := by decide +kernel
theorem dX2_init_9 : decode cX2_init 9 = .ok (.putfield 9, 3) := by decide +kernel
theorem dX2_init_12 : decode cX2_init 12 = .ok (.aload_n 0, 1) := by decide +kernel
theorem dX2_init_13 : decode cX2_init 13 = .ok (.bipush 6, 2) := by decide +kernel
theorem dX2_init_15 : decode cX2_init 15 = .ok (.newarray .int, 2) := by decide +kernel
theorem dX2_init_17 : decode cX2_init 17 = .ok (.putfield 15, 3) := by decide +kernel
theorem dX2_init_20 : decode cX2_init 20 = .ok (.aload_n 0, 1) := by decide +kernel
theorem dX2_init_21 : decode cX2_init 21 = .ok (.bipush 6, 2) := by decide +kernel
theorem dX2_init_23 : decode cX2_init 23 = .ok (.newarray .int, 2) := by decide +kernel
theorem dX2_init_25 : decode cX2_init 25 = .ok (.putfield 18, 3) := by decide +kernel
theorem dX2_init_28 : decode cX2_init 28 = .ok (.aload_n 0, 1) := by decide +kernel
theorem dX2_init_29 : decode cX2_init 29 = .ok (.bipush 6, 2) := by decide +kernel
theorem dX2_init_31 : decode cX2_init 31 = .ok (.newarray .int, 2) := by decide +kernel
theorem dX2_init_33 : decode cX2_init 33 = .ok (.putfield 21, 3) := by decide +kernel
theorem dX2_init_36 : decode cX2_init 36 = .ok (.aload_n 0, 1) := by decide +kernel
theorem dX2_init_37 : decode cX2_init 37 = .ok (.iconst 0, 1) := by decide +kernel
theorem dX2_init_38 : decode cX2_init 38 = .ok (.putfield 24, 3) := by decide +kernel
theorem dX2_init_41 : decode cX2_init 41 = .ok (.return_, 1) := by decide +kernel
theorem dX2_become_0 : decode cX2_become 0 = .ok (.aload_n 1, 1) := by decide +kernel
theorem dX2_become_1 : decode cX2_become 1 = .ok (.getfield 9, 3) := by decide +kernel
theorem dX2_become_4 : decode cX2_become 4 = .ok (.iconst 0, 1) := by decide +kernel
theorem dX2_become_5 : decode cX2_become 5 = .ok (.aload_n 0, 1) := by decide +kernel
theorem dX2_become_6 : decode cX2_become 6 = .ok (.getfield 9, 3) := by decide +kernel
theorem dX2_become_9 : decode cX2_become 9 = .ok (.iconst 0, 1) := by decide +kernel
theorem dX2_become_10 : decode cX2_become 10 = .ok (.bipush 6, 2) := by decide +kernel
theorem dX2_become_12 : decode cX2_become 12 = .ok (.invokestatic 28, 3) := by decide +kernel
theorem dX2_become_15 : decode cX2_become 15 = .ok (.aload_n 1, 1) := by decide +kernel
theorem dX2_become_16 : decode cX2_become 16 = .ok (.getfield 15, 3) := by decide +kernel
theorem dX2_become_19 : decode cX2_become 19 = .ok (.iconst 0, 1) := by decide +kernel
theorem dX2_become_20 : decode cX2_become 20 = .ok (.aload_n 0, 1) := by decide +kernel
theorem dX2_become_21 : decode cX2_become 21 = .ok (.getfield 15, 3) := by decide +kernel
theorem dX2_become_24 : decode cX2_become 24 = .ok (.iconst 0, 1) := by decide +kernel
theorem dX2_become_25 : decode cX2_become 25 = .ok (.bipush 6, 2) := by decide +kernel
theorem dX2_become_27 : decode cX2_become 27 = .ok (.invokestatic 28, 3) := by decide +kernel
theorem dX2_become_30 : decode cX2_become 30 = .ok (.aload_n 1, 1) := by decide +kernel
theorem dX2_become_31 : decode cX2_become 31 = .ok (.getfield 18, 3) := by decide +kernel
theorem dX2_become_34 : decode cX2_become 34 = .ok (.iconst 0, 1) := by decide +kernel
theorem dX2_become_35 : decode cX2_become 35 = .ok (.aload_n 0, 1) := by decide +kernel
theorem dX2_become_36 : decode cX2_become 36 = .ok (.getfield 18, 3) := by decide +kernel
theorem dX2_become_39 : decode cX2_become 39 = .ok (.iconst 0, 1) := by decide +kernel
theorem dX2_become_40 : decode cX2_become 40 = .ok (.bipush 6, 2) := by decide +kernel
theorem dX2_become_42 : decode cX2_become 42 = .ok (.invokestatic 28, 3) := by decide +kernel
theorem dX2_become_45 : decode cX2_become 45 = .ok (.aload_n 1, 1) := by decide +kernel
theorem dX2_become_46 : decode cX2_become 46 = .ok (.getfield 21, 3) := by decide +kernel
theorem dX2_become_49 : decode cX2_become 49 = .ok (.iconst 0, 1) := by decide +kernel
theorem dX2_become_50 : decode cX2_become 50 = .ok (.aload_n 0, 1) := by decide +kernel
theorem dX2_become_51 : decode cX2_become 51 = .ok (.getfield 21, 3) := by decide +kernel
theorem dX2_become_54 : decode cX2_become 54 = .ok (.iconst 0, 1) := by decide +kernel
theorem dX2_become_55 : decode cX2_become 55 = .ok (.bipush 6, 2) := by decide +kernel
theorem dX2_become_57 : decode cX2_become 57 = .ok (.invokestatic 28, 3) := by decide +kernel
theorem dX2_become_60 : decode cX2_become 60 = .ok (.aload_n 0, 1) := by decide +kernel
theorem dX2_become_61 : decode cX2_become 61 = .ok (.aload_n 1, 1) := by decide +kernel
theorem dX2_become_62 : decode cX2_become 62 = .ok (.getfield 24, 3) := by decide +kernel
theorem dX2_become_65 : decode cX2_become 65 = .ok (.putfield 24, 3) := by decide +kernel
theorem dX2_become_68 : decode cX2_become 68 = .ok (.return_, 1) := by decide +kernel
theorem dX2_file_0 : decode cX2_file 0 = .ok (.aload_n 0, 1) := by decide +kernel
theorem dX2_file_1 : decode cX2_file 1 = .ok (.getfield 24, 3) := by decide +kernel
theorem dX2_file_4 : decode cX2_file 4 = .ok (.istore 5, 2) := by decide +kernel
theorem dX2_file_6 : decode cX2_file 6 = .ok (.aload_n 0, 1) := by decide +kernel
theorem dX2_file_7 : decode cX2_file 7 = .ok (.getfield 9, 3) := by decide +kernel
theorem dX2_file_10 : decode cX2_file 10 = .ok (.iload 5, 2) := by decide +kernel
theorem dX2_file_12 : decode cX2_file 12 = .ok (.iload_n 1, 1) := by decide +kernel
theorem dX2_file_13 : decode cX2_file 13 = .ok (.iastore, 1) := by decide +kernel
theorem dX2_file_14 : decode cX2_file 14 = .ok (.aload_n 0, 1) := by decide +kernel
theorem dX2_file_15 : decode cX2_file 15 = .ok (.getfield 15, 3) := by decide +kernel
theorem dX2_file_18 : decode cX2_file 18 = .ok (.iload 5, 2) := by decide +kernel
theorem dX2_file_20 : decode cX2_file 20 = .ok (.iload_n 2, 1) := by decide +kernel
theorem dX2_file_21 : decode cX2_file 21 = .ok (.iastore, 1) := by decide +kernel
theorem dX2_file_22 : decode cX2_file 22 = .ok (.aload_n 0, 1) := by decide +kernel
theorem dX2_file_23 : decode cX2_file 23 = .ok (.getfield 18, 3) := by decide +kernel
theorem dX2_file_26 : decode cX2_file 26 = .ok (.iload 5, 2) := by decide +kernel
theorem dX2_file_28 : decode cX2_file 28 = .ok (.iload_n 3, 1) := by decide +kernel
theorem dX2_file_29 : decode cX2_file 29 = .ok (.iastore, 1) := by decide +kernel
theorem dX2_file_30 : decode cX2_file 30 = .ok (.aload_n 0, 1) := by decide +kernel
theorem dX2_file_31 : decode cX2_file 31 = .ok (.getfield 21, 3) := by decide +kernel
theorem dX2_file_34 : decode cX2_file 34 = .ok (.iload 5, 2) := by decide +kernel
theorem dX2_file_36 : decode cX2_file 36 = .ok (.iload 4, 2) := by decide +kernel
theorem dX2_file_38 : decode cX2_file 38 = .ok (.iastore, 1) := by decide +kernel
theorem dX2_file_39 : decode cX2_file 39 = .ok (.aload_n 0, 1) := by decide +kernel
theorem dX2_file_40 : decode cX2_file 40 = .ok (.dup, 1) := by decide +kernel
theorem dX2_file_41 : decode cX2_file 41 = .ok (.getfield 24, 3) := by decide +kernel
theorem dX2_file_44 : decode cX2_file 44 = .ok (.iconst 1, 1) := by decide +kernel
theorem dX2_file_45 : decode cX2_file 45 = .ok (.iadd, 1) := by decide +kernel
theorem dX2_file_46 : decode cX2_file 46 = .ok (.putfield 24, 3) := by decide +kernel
theorem dX2_file_49 : decode cX2_file 49 = .ok (.iload 5, 2) := by decide +kernel
theorem dX2_file_51 : decode cX2_file 51 = .ok (.ireturn, 1) := by decide +kernel
theorem dX2_kindOf_0 : decode cX2_kindOf 0 = .ok (.iconst 1, 1) := by decide +kernel
theorem dX2_kindOf_1 : decode cX2_kindOf 1 = .ok (.iload_n 0, 1) := by decide +kernel
theorem dX2_kindOf_2 : decode cX2_kindOf 2 = .ok (.bipush 100, 2) := by decide +kernel
theorem dX2_kindOf_4 : decode cX2_kindOf 4 = .ok (.idiv, 1) := by decide +kernel
theorem dX2_kindOf_5 : decode cX2_kindOf 5 = .ok (.iadd, 1) := by decide +kernel
theorem dX2_kindOf_6 : decode cX2_kindOf 6 = .ok (.ireturn, 1) := by decide +kernel
theorem dX2_trimOf_0 : decode cX2_trimOf 0 = .ok (.iload_n 0, 1) := by decide +kernel
theorem dX2_trimOf_1 : decode cX2_trimOf 1 = .ok (.bipush 10, 2) := by decide +kernel
theorem dX2_trimOf_3 : decode cX2_trimOf 3 = .ok (.idiv, 1) := by decide +kernel
theorem dX2_trimOf_4 : decode cX2_trimOf 4 = .ok (.bipush 10, 2) := by decide +kernel
theorem dX2_trimOf_6 : decode cX2_trimOf 6 = .ok (.irem, 1) := by decide +kernel
theorem dX2_trimOf_7 : decode cX2_trimOf 7 = .ok (.ireturn, 1) := by decide +kernel
theorem dX2_offOf_0 : decode cX2_offOf 0 = .ok (.bipush 9, 2) := by decide +kernel
theorem dX2_offOf_2 : decode cX2_offOf 2 = .ok (.iload_n 0, 1) := by decide +kernel
theorem dX2_offOf_3 : decode cX2_offOf 3 = .ok (.bipush 10, 2) := by decide +kernel
theorem dX2_offOf_5 : decode cX2_offOf 5 = .ok (.irem, 1) := by decide +kernel
theorem dX2_offOf_6 : decode cX2_offOf 6 = .ok (.iconst 1, 1) := by decide +kernel
theorem dX2_offOf_7 : decode cX2_offOf 7 = .ok (.iadd, 1) := by decide +kernel
theorem dX2_offOf_8 : decode cX2_offOf 8 = .ok (.imul, 1) := by decide +kernel
theorem dX2_offOf_9 : decode cX2_offOf 9 = .ok (.ireturn, 1) := by decide +kernel
theorem dX2_latest_0 : decode cX2_latest 0 = .ok (.iconst (-1), 1) := by decide +kernel
theorem dX2_latest_1 : decode cX2_latest 1 = .ok (.istore_n 1, 1) := by decide +kernel
theorem dX2_latest_2 : decode cX2_latest 2 = .ok (.iconst 0, 1) := by decide +kernel
theorem dX2_latest_3 : decode cX2_latest 3 = .ok (.istore_n 2, 1) := by decide +kernel
theorem dX2_latest_4 : decode cX2_latest 4 = .ok (.iload_n 2, 1) := by decide +kernel
theorem dX2_latest_5 : decode cX2_latest 5 = .ok (.aload_n 0, 1) := by decide +kernel
theorem dX2_latest_6 : decode cX2_latest 6 = .ok (.getfield 24, 3) := by decide +kernel
theorem dX2_latest_9 : decode cX2_latest 9 = .ok (.if_icmp .ge 20, 3) := by decide +kernel
theorem dX2_latest_12 : decode cX2_latest 12 = .ok (.iload_n 1, 1) := by decide +kernel
theorem dX2_latest_13 : decode cX2_latest 13 = .ok (.aload_n 0, 1) := by decide +kernel
theorem dX2_latest_14 : decode cX2_latest 14 = .ok (.getfield 9, 3) := by decide +kernel
theorem dX2_latest_17 : decode cX2_latest 17 = .ok (.iload_n 2, 1) := by decide +kernel
theorem dX2_latest_18 : decode cX2_latest 18 = .ok (.iaload, 1) := by decide +kernel
theorem dX2_latest_19 : decode cX2_latest 19 = .ok (.invokestatic 34, 3) := by decide +kernel
theorem dX2_latest_22 : decode cX2_latest 22 = .ok (.istore_n 1, 1) := by decide +kernel
theorem dX2_latest_23 : decode cX2_latest 23 = .ok (.iinc 2 1, 3) := by decide +kernel
theorem dX2_latest_26 : decode cX2_latest 26 = .ok (.goto (-22), 3) := by decide +kernel
theorem dX2_latest_29 : decode cX2_latest 29 = .ok (.iload_n 1, 1) := by decide +kernel
theorem dX2_latest_30 : decode cX2_latest 30 = .ok (.ireturn, 1) := by decide +kernel
theorem dX2_wrongFor_0 : decode cX2_wrongFor 0 = .ok (.iload_n 1, 1) := by decide +kernel
theorem dX2_wrongFor_1 : decode cX2_wrongFor 1 = .ok (.invokestatic 40, 3) := by decide +kernel
theorem dX2_wrongFor_4 : decode cX2_wrongFor 4 = .ok (.istore_n 3, 1) := by decide +kernel
theorem dX2_wrongFor_5 : decode cX2_wrongFor 5 = .ok (.iload_n 1, 1) := by decide +kernel
theorem dX2_wrongFor_6 : decode cX2_wrongFor 6 = .ok (.invokestatic 44, 3) := by decide +kernel
theorem dX2_wrongFor_9 : decode cX2_wrongFor 9 = .ok (.istore 4, 2) := by decide +kernel
theorem dX2_wrongFor_11 : decode cX2_wrongFor 11 = .ok (.aload_n 0, 1) := by decide +kernel
theorem dX2_wrongFor_12 : decode cX2_wrongFor 12 = .ok (.invokevirtual 47, 3) := by decide +kernel
theorem dX2_wrongFor_15 : decode cX2_wrongFor 15 = .ok (.bipush 15, 2) := by decide +kernel
theorem dX2_wrongFor_17 : decode cX2_wrongFor 17 = .ok (.invokestatic 51, 3) := by decide +kernel
theorem dX2_wrongFor_20 : decode cX2_wrongFor 20 = .ok (.istore 5, 2) := by decide +kernel
theorem dX2_wrongFor_22 : decode cX2_wrongFor 22 = .ok (.iconst 0, 1) := by decide +kernel
theorem dX2_wrongFor_23 : decode cX2_wrongFor 23 = .ok (.istore 6, 2) := by decide +kernel
theorem dX2_wrongFor_25 : decode cX2_wrongFor 25 = .ok (.iconst 0, 1) := by decide +kernel
theorem dX2_wrongFor_26 : decode cX2_wrongFor 26 = .ok (.istore 7, 2) := by decide +kernel
theorem dX2_wrongFor_28 : decode cX2_wrongFor 28 = .ok (.iconst 0, 1) := by decide +kernel
theorem dX2_wrongFor_29 : decode cX2_wrongFor 29 = .ok (.istore 8, 2) := by decide +kernel
theorem dX2_wrongFor_31 : decode cX2_wrongFor 31 = .ok (.iload 8, 2) := by decide +kernel
theorem dX2_wrongFor_33 : decode cX2_wrongFor 33 = .ok (.iload 5, 2) := by decide +kernel
theorem dX2_wrongFor_35 : decode cX2_wrongFor 35 = .ok (.if_icmp .gt 69, 3) := by decide +kernel
theorem dX2_wrongFor_38 : decode cX2_wrongFor 38 = .ok (.iload 7, 2) := by decide +kernel
theorem dX2_wrongFor_40 : decode cX2_wrongFor 40 = .ok (.aload_n 0, 1) := by decide +kernel
theorem dX2_wrongFor_41 : decode cX2_wrongFor 41 = .ok (.iload 8, 2) := by decide +kernel
theorem dX2_wrongFor_43 : decode cX2_wrongFor 43 = .ok (.iload 4, 2) := by decide +kernel
theorem dX2_wrongFor_45 : decode cX2_wrongFor 45 = .ok (.iload 6, 2) := by decide +kernel
theorem dX2_wrongFor_47 : decode cX2_wrongFor 47 = .ok (.invokevirtual 54, 3) := by decide +kernel
theorem dX2_wrongFor_50 : decode cX2_wrongFor 50 = .ok (.ior, 1) := by decide +kernel
theorem dX2_wrongFor_51 : decode cX2_wrongFor 51 = .ok (.istore 7, 2) := by decide +kernel
theorem dX2_wrongFor_53 : decode cX2_wrongFor 53 = .ok (.iload 4, 2) := by decide +kernel
theorem dX2_wrongFor_55 : decode cX2_wrongFor 55 = .ok (.iconst 1, 1) := by decide +kernel
theorem dX2_wrongFor_56 : decode cX2_wrongFor 56 = .ok (.if_icmp .lt 23, 3) := by decide +kernel
theorem dX2_wrongFor_59 : decode cX2_wrongFor 59 = .ok (.iload 4, 2) := by decide +kernel
theorem dX2_wrongFor_61 : decode cX2_wrongFor 61 = .ok (.iload_n 3, 1) := by decide +kernel
theorem dX2_wrongFor_62 : decode cX2_wrongFor 62 = .ok (.iload_n 1, 1) := by decide +kernel
theorem dX2_wrongFor_63 : decode cX2_wrongFor 63 = .ok (.invokestatic 58, 3) := by decide +kernel
theorem dX2_wrongFor_66 : decode cX2_wrongFor 66 = .ok (.aload_n 2, 1) := by decide +kernel
theorem dX2_wrongFor_67 : decode cX2_wrongFor 67 = .ok (.iload 8, 2) := by decide +kernel
theorem dX2_wrongFor_69 : decode cX2_wrongFor 69 = .ok (.iaload, 1) := by decide +kernel
theorem dX2_wrongFor_70 : decode cX2_wrongFor 70 = .ok (.invokestatic 61, 3) := by decide +kernel
theorem dX2_wrongFor_73 : decode cX2_wrongFor 73 = .ok (.if_icmp .gt 6, 3) := by decide +kernel
theorem dX2_wrongFor_76 : decode cX2_wrongFor 76 = .ok (.iinc 6 1, 3) := by decide +kernel
theorem dX2_wrongFor_79 : decode cX2_wrongFor 79 = .ok (.iconst 0, 1) := by decide +kernel
theorem dX2_wrongFor_80 : decode cX2_wrongFor 80 = .ok (.iload 4, 2) := by decide +kernel
theorem dX2_wrongFor_82 : decode cX2_wrongFor 82 = .ok (.iload_n 3, 1) := by decide +kernel
theorem dX2_wrongFor_83 : decode cX2_wrongFor 83 = .ok (.aload_n 2, 1) := by decide +kernel
theorem dX2_wrongFor_84 : decode cX2_wrongFor 84 = .ok (.iload 8, 2) := by decide +kernel
theorem dX2_wrongFor_86 : decode cX2_wrongFor 86 = .ok (.iaload, 1) := by decide +kernel
theorem dX2_wrongFor_87 : decode cX2_wrongFor 87 = .ok (.iload 8, 2) := by decide +kernel
theorem dX2_wrongFor_89 : decode cX2_wrongFor 89 = .ok (.invokestatic 64, 3) := by decide +kernel
theorem dX2_wrongFor_92 : decode cX2_wrongFor 92 = .ok (.isub, 1) := by decide +kernel
theorem dX2_wrongFor_93 : decode cX2_wrongFor 93 = .ok (.invokestatic 34, 3) := by decide +kernel
theorem dX2_wrongFor_96 : decode cX2_wrongFor 96 = .ok (.istore 4, 2) := by decide +kernel
theorem dX2_wrongFor_98 : decode cX2_wrongFor 98 = .ok (.iinc 8 1, 3) := by decide +kernel
theorem dX2_wrongFor_101 : decode cX2_wrongFor 101 = .ok (.goto (-70), 3) := by decide +kernel
theorem dX2_wrongFor_104 : decode cX2_wrongFor 104 = .ok (.iload 7, 2) := by decide +kernel
theorem dX2_wrongFor_106 : decode cX2_wrongFor 106 = .ok (.ireturn, 1) := by decide +kernel
theorem dX2_wrongBehind_0 : decode cX2_wrongBehind 0 = .ok (.iconst 0, 1) := by decide +kernel
theorem dX2_wrongBehind_1 : decode cX2_wrongBehind 1 = .ok (.istore 4, 2) := by decide +kernel
theorem dX2_wrongBehind_3 : decode cX2_wrongBehind 3 = .ok (.iconst 0, 1) := by decide +kernel
theorem dX2_wrongBehind_4 : decode cX2_wrongBehind 4 = .ok (.istore 5, 2) := by decide +kernel
theorem dX2_wrongBehind_6 : decode cX2_wrongBehind 6 = .ok (.iload 5, 2) := by decide +kernel
theorem dX2_wrongBehind_8 : decode cX2_wrongBehind 8 = .ok (.aload_n 0, 1) := by decide +kernel
theorem dX2_wrongBehind_9 : decode cX2_wrongBehind 9 = .ok (.getfield 24, 3) := by decide +kernel
theorem dX2_wrongBehind_12 : decode cX2_wrongBehind 12 = .ok (.if_icmp .ge 70, 3) := by decide +kernel
theorem dX2_wrongBehind_15 : decode cX2_wrongBehind 15 = .ok (.aload_n 0, 1) := by decide +kernel
theorem dX2_wrongBehind_16 : decode cX2_wrongBehind 16 = .ok (.getfield 15, 3) := by decide +kernel
theorem dX2_wrongBehind_19 : decode cX2_wrongBehind 19 = .ok (.iload 5, 2) := by decide +kernel
theorem dX2_wrongBehind_21 : decode cX2_wrongBehind 21 = .ok (.iaload, 1) := by decide +kernel
theorem dX2_wrongBehind_22 : decode cX2_wrongBehind 22 = .ok (.ifCond .ne 7, 3) := by decide +kernel
theorem dX2_wrongBehind_25 : decode cX2_wrongBehind 25 = .ok (.iload_n 2, 1) := by decide +kernel
theorem dX2_wrongBehind_26 : decode cX2_wrongBehind 26 = .ok (.goto 4, 3) := by decide +kernel
theorem dX2_wrongBehind_29 : decode cX2_wrongBehind 29 = .ok (.iload_n 3, 1) := by decide +kernel
theorem dX2_wrongBehind_30 : decode cX2_wrongBehind 30 = .ok (.istore 6, 2) := by decide +kernel
theorem dX2_wrongBehind_32 : decode cX2_wrongBehind 32 = .ok (.aload_n 0, 1) := by decide +kernel
theorem dX2_wrongBehind_33 : decode cX2_wrongBehind 33 = .ok (.getfield 9, 3) := by decide +kernel
theorem dX2_wrongBehind_36 : decode cX2_wrongBehind 36 = .ok (.iload 5, 2) := by decide +kernel
theorem dX2_wrongBehind_38 : decode cX2_wrongBehind 38 = .ok (.iaload, 1) := by decide +kernel
theorem dX2_wrongBehind_39 : decode cX2_wrongBehind 39 = .ok (.iload_n 1, 1) := by decide +kernel
theorem dX2_wrongBehind_40 : decode cX2_wrongBehind 40 = .ok (.if_icmp .ne 36, 3) := by decide +kernel
theorem dX2_wrongBehind_43 : decode cX2_wrongBehind 43 = .ok (.iload 6, 2) := by decide +kernel
theorem dX2_wrongBehind_45 : decode cX2_wrongBehind 45 = .ok (.aload_n 0, 1) := by decide +kernel
theorem dX2_wrongBehind_46 : decode cX2_wrongBehind 46 = .ok (.getfield 18, 3) := by decide +kernel
theorem dX2_wrongBehind_49 : decode cX2_wrongBehind 49 = .ok (.iload 5, 2) := by decide +kernel
theorem dX2_wrongBehind_51 : decode cX2_wrongBehind 51 = .ok (.iaload, 1) := by decide +kernel
theorem dX2_wrongBehind_52 : decode cX2_wrongBehind 52 = .ok (.if_icmp .lt 15, 3) := by decide +kernel
theorem dX2_wrongBehind_55 : decode cX2_wrongBehind 55 = .ok (.iload 6, 2) := by decide +kernel
theorem dX2_wrongBehind_57 : decode cX2_wrongBehind 57 = .ok (.aload_n 0, 1) := by decide +kernel
theorem dX2_wrongBehind_58 : decode cX2_wrongBehind 58 = .ok (.getfield 21, 3) := by decide +kernel
theorem dX2_wrongBehind_61 : decode cX2_wrongBehind 61 = .ok (.iload 5, 2) := by decide +kernel
theorem dX2_wrongBehind_63 : decode cX2_wrongBehind 63 = .ok (.iaload, 1) := by decide +kernel
theorem dX2_wrongBehind_64 : decode cX2_wrongBehind 64 = .ok (.if_icmp .le 12, 3) := by decide +kernel
theorem dX2_wrongBehind_67 : decode cX2_wrongBehind 67 = .ok (.iload 4, 2) := by decide +kernel
theorem dX2_wrongBehind_69 : decode cX2_wrongBehind 69 = .ok (.iconst 1, 1) := by decide +kernel
theorem dX2_wrongBehind_70 : decode cX2_wrongBehind 70 = .ok (.iload 5, 2) := by decide +kernel
theorem dX2_wrongBehind_72 : decode cX2_wrongBehind 72 = .ok (.ishl, 1) := by decide +kernel
theorem dX2_wrongBehind_73 : decode cX2_wrongBehind 73 = .ok (.ior, 1) := by decide +kernel
theorem dX2_wrongBehind_74 : decode cX2_wrongBehind 74 = .ok (.istore 4, 2) := by decide +kernel
theorem dX2_wrongBehind_76 : decode cX2_wrongBehind 76 = .ok (.iinc 5 1, 3) := by decide +kernel
theorem dX2_wrongBehind_79 : decode cX2_wrongBehind 79 = .ok (.goto (-73), 3) := by decide +kernel
theorem dX2_wrongBehind_82 : decode cX2_wrongBehind 82 = .ok (.iload 4, 2) := by decide +kernel
theorem dX2_wrongBehind_84 : decode cX2_wrongBehind 84 = .ok (.ireturn, 1) := by decide +kernel
theorem dX3_init_0 : decode cX3_init 0 = .ok (.aload_n 0, 1) := by decide +kernel
theorem dX3_init_1 : decode cX3_init 1 = .ok (.invokespecial 3, 3) := by decide +kernel
theorem dX3_init_4 : decode cX3_init 4 = .ok (.aload_n 0, 1) := by decide +kernel
theorem dX3_init_5 : decode cX3_init 5 = .ok (.bipush 6, 2) := by decide +kernel
theorem dX3_init_7 : decode cX3_init 7 = .ok (.newarray .int, 2) := by decide +kernel
theorem dX3_init_9 : decode cX3_init 9 = .ok (.putfield 9, 3) := by decide +kernel
theorem dX3_init_12 : decode cX3_init 12 = .ok (.aload_n 0, 1) := by decide +kernel
theorem dX3_init_13 : decode cX3_init 13 = .ok (.bipush 6, 2) := by decide +kernel
theorem dX3_init_15 : decode cX3_init 15 = .ok (.newarray .int, 2) := by decide +kernel
theorem dX3_init_17 : decode cX3_init 17 = .ok (.putfield 15, 3) := by decide +kernel
theorem dX3_init_20 : decode cX3_init 20 = .ok (.aload_n 0, 1) := by decide +kernel
theorem dX3_init_21 : decode cX3_init 21 = .ok (.bipush 6, 2) := by decide +kernel
theorem dX3_init_23 : decode cX3_init 23 = .ok (.newarray .int, 2) := by decide +kernel
theorem dX3_init_25 : decode cX3_init 25 = .ok (.putfield 18, 3) := by decide +kernel
theorem dX3_init_28 : decode cX3_init 28 = .ok (.aload_n 0, 1) := by decide +kernel
theorem dX3_init_29 : decode cX3_init 29 = .ok (.bipush 16, 2) := by decide +kernel
theorem dX3_init_31 : decode cX3_init 31 = .ok (.newarray .int, 2) := by decide +kernel
theorem dX3_init_33 : decode cX3_init 33 = .ok (.putfield 21, 3) := by decide +kernel
theorem dX3_init_36 : decode cX3_init 36 = .ok (.aload_n 0, 1) := by decide +kernel
theorem dX3_init_37 : decode cX3_init 37 = .ok (.bipush 6, 2) := by decide +kernel
theorem dX3_init_39 : decode cX3_init 39 = .ok (.newarray .int, 2) := by decide +kernel
theorem dX3_init_41 : decode cX3_init 41 = .ok (.putfield 24, 3) := by decide +kernel
theorem dX3_init_44 : decode cX3_init 44 = .ok (.aload_n 0, 1) := by decide +kernel
theorem dX3_init_45 : decode cX3_init 45 = .ok (.bipush 6, 2) := by decide +kernel
theorem dX3_init_47 : decode cX3_init 47 = .ok (.newarray .int, 2) := by decide +kernel
theorem dX3_init_49 : decode cX3_init 49 = .ok (.putfield 27, 3) := by decide +kernel
theorem dX3_init_52 : decode cX3_init 52 = .ok (.aload_n 0, 1) := by decide +kernel
theorem dX3_init_53 : decode cX3_init 53 = .ok (.new 30, 3) := by decide +kernel
theorem dX3_init_56 : decode cX3_init 56 = .ok (.dup, 1) := by decide +kernel
theorem dX3_init_57 : decode cX3_init 57 = .ok (.invokespecial 32, 3) := by decide +kernel
theorem dX3_init_60 : decode cX3_init 60 = .ok (.putfield 33, 3) := by decide +kernel
theorem dX3_init_63 : decode cX3_init 63 = .ok (.aload_n 0, 1) := by decide +kernel
theorem dX3_init_64 : decode cX3_init 64 = .ok (.new 37, 3) := by decide +kernel
theorem dX3_init_67 : decode cX3_init 67 = .ok (.dup, 1) := by decide +kernel
theorem dX3_init_68 : decode cX3_init 68 = .ok (.invokespecial 39, 3) := by decide +kernel
theorem dX3_init_71 : decode cX3_init 71 = .ok (.putfield 40, 3) := by decide +kernel
theorem dX3_init_74 : decode cX3_init 74 = .ok (.aload_n 0, 1) := by decide +kernel
theorem dX3_init_75 : decode cX3_init 75 = .ok (.new 44, 3) := by decide +kernel
theorem dX3_init_78 : decode cX3_init 78 = .ok (.dup, 1) := by decide +kernel
theorem dX3_init_79 : decode cX3_init 79 = .ok (.invokespecial 46, 3) := by decide +kernel
theorem dX3_init_82 : decode cX3_init 82 = .ok (.putfield 47, 3) := by decide +kernel
theorem dX3_init_85 : decode cX3_init 85 = .ok (.aload_n 0, 1) := by decide +kernel
theorem dX3_init_86 : decode cX3_init 86 = .ok (.iconst 0, 1) := by decide +kernel
theorem dX3_init_87 : decode cX3_init 87 = .ok (.putfield 51, 3) := by decide +kernel
theorem dX3_init_90 : decode cX3_init 90 = .ok (.aload_n 0, 1) := by decide +kernel
theorem dX3_init_91 : decode cX3_init 91 = .ok (.bipush 12, 2) := by decide +kernel
theorem dX3_init_93 : decode cX3_init 93 = .ok (.putfield 55, 3) := by decide +kernel
theorem dX3_init_96 : decode cX3_init 96 = .ok (.aload_n 0, 1) := by decide +kernel
theorem dX3_init_97 : decode cX3_init 97 = .ok (.iconst 1, 1) := by decide +kernel
theorem dX3_init_98 : decode cX3_init 98 = .ok (.putfield 58, 3) := by decide +kernel
theorem dX3_init_101 : decode cX3_init 101 = .ok (.aload_n 0, 1) := by decide +kernel
theorem dX3_init_102 : decode cX3_init 102 = .ok (.getfield 21, 3) := by decide +kernel
theorem dX3_init_105 : decode cX3_init 105 = .ok (.bipush 6, 2) := by decide +kernel
theorem dX3_init_107 : decode cX3_init 107 = .ok (.invokestatic 61, 3) := by decide +kernel
theorem dX3_init_110 : decode cX3_init 110 = .ok (.return_, 1) := by decide +kernel
theorem dX3_become_0 : decode cX3_become 0 = .ok (.aload_n 1, 1) := by decide +kernel
theorem dX3_become_1 : decode cX3_become 1 = .ok (.getfield 9, 3) := by decide +kernel
theorem dX3_become_4 : decode cX3_become 4 = .ok (.iconst 0, 1) := by decide +kernel
theorem dX3_become_5 : decode cX3_become 5 = .ok (.aload_n 0, 1) := by decide +kernel
theorem dX3_become_6 : decode cX3_become 6 = .ok (.getfield 9, 3) := by decide +kernel
theorem dX3_become_9 : decode cX3_become 9 = .ok (.iconst 0, 1) := by decide +kernel
theorem dX3_become_10 : decode cX3_become 10 = .ok (.bipush 6, 2) := by decide +kernel
theorem dX3_become_12 : decode cX3_become 12 = .ok (.invokestatic 67, 3) := by decide +kernel
theorem dX3_become_15 : decode cX3_become 15 = .ok (.aload_n 1, 1) := by decide +kernel
theorem dX3_become_16 : decode cX3_become 16 = .ok (.getfield 15, 3) := by decide +kernel
theorem dX3_become_19 : decode cX3_become 19 = .ok (.iconst 0, 1) := by decide +kernel
theorem dX3_become_20 : decode cX3_become 20 = .ok (.aload_n 0, 1) := by decide +kernel
theorem dX3_become_21 : decode cX3_become 21 = .ok (.getfield 15, 3) := by decide +kernel
theorem dX3_become_24 : decode cX3_become 24 = .ok (.iconst 0, 1) := by decide +kernel
theorem dX3_become_25 : decode cX3_become 25 = .ok (.bipush 6, 2) := by decide +kernel
theorem dX3_become_27 : decode cX3_become 27 = .ok (.invokestatic 67, 3) := by decide +kernel
theorem dX3_become_30 : decode cX3_become 30 = .ok (.aload_n 1, 1) := by decide +kernel
theorem dX3_become_31 : decode cX3_become 31 = .ok (.getfield 18, 3) := by decide +kernel
theorem dX3_become_34 : decode cX3_become 34 = .ok (.iconst 0, 1) := by decide +kernel
theorem dX3_become_35 : decode cX3_become 35 = .ok (.aload_n 0, 1) := by decide +kernel
theorem dX3_become_36 : decode cX3_become 36 = .ok (.getfield 18, 3) := by decide +kernel
theorem dX3_become_39 : decode cX3_become 39 = .ok (.iconst 0, 1) := by decide +kernel
theorem dX3_become_40 : decode cX3_become 40 = .ok (.bipush 6, 2) := by decide +kernel
theorem dX3_become_42 : decode cX3_become 42 = .ok (.invokestatic 67, 3) := by decide +kernel
theorem dX3_become_45 : decode cX3_become 45 = .ok (.aload_n 1, 1) := by decide +kernel
theorem dX3_become_46 : decode cX3_become 46 = .ok (.getfield 21, 3) := by decide +kernel
theorem dX3_become_49 : decode cX3_become 49 = .ok (.iconst 0, 1) := by decide +kernel
theorem dX3_become_50 : decode cX3_become 50 = .ok (.aload_n 0, 1) := by decide +kernel
theorem dX3_become_51 : decode cX3_become 51 = .ok (.getfield 21, 3) := by decide +kernel
theorem dX3_become_54 : decode cX3_become 54 = .ok (.iconst 0, 1) := by decide +kernel
theorem dX3_become_55 : decode cX3_become 55 = .ok (.bipush 16, 2) := by decide +kernel
theorem dX3_become_57 : decode cX3_become 57 = .ok (.invokestatic 67, 3) := by decide +kernel
theorem dX3_become_60 : decode cX3_become 60 = .ok (.aload_n 1, 1) := by decide +kernel
theorem dX3_become_61 : decode cX3_become 61 = .ok (.getfield 24, 3) := by decide +kernel
theorem dX3_become_64 : decode cX3_become 64 = .ok (.iconst 0, 1) := by decide +kernel
theorem dX3_become_65 : decode cX3_become 65 = .ok (.aload_n 0, 1) := by decide +kernel
theorem dX3_become_66 : decode cX3_become 66 = .ok (.getfield 24, 3) := by decide +kernel
theorem dX3_become_69 : decode cX3_become 69 = .ok (.iconst 0, 1) := by decide +kernel
theorem dX3_become_70 : decode cX3_become 70 = .ok (.bipush 6, 2) := by decide +kernel
theorem dX3_become_72 : decode cX3_become 72 = .ok (.invokestatic 67, 3) := by decide +kernel
theorem dX3_become_75 : decode cX3_become 75 = .ok (.aload_n 1, 1) := by decide +kernel
theorem dX3_become_76 : decode cX3_become 76 = .ok (.getfield 27, 3) := by decide +kernel
theorem dX3_become_79 : decode cX3_become 79 = .ok (.iconst 0, 1) := by decide +kernel
theorem dX3_become_80 : decode cX3_become 80 = .ok (.aload_n 0, 1) := by decide +kernel
theorem dX3_become_81 : decode cX3_become 81 = .ok (.getfield 27, 3) := by decide +kernel
theorem dX3_become_84 : decode cX3_become 84 = .ok (.iconst 0, 1) := by decide +kernel
theorem dX3_become_85 : decode cX3_become 85 = .ok (.bipush 6, 2) := by decide +kernel
theorem dX3_become_87 : decode cX3_become 87 = .ok (.invokestatic 67, 3) := by decide +kernel
theorem dX3_become_90 : decode cX3_become 90 = .ok (.aload_n 0, 1) := by decide +kernel
theorem dX3_become_91 : decode cX3_become 91 = .ok (.getfield 33, 3) := by decide +kernel
theorem dX3_become_94 : decode cX3_become 94 = .ok (.aload_n 1, 1) := by decide +kernel
theorem dX3_become_95 : decode cX3_become 95 = .ok (.getfield 33, 3) := by decide +kernel
theorem dX3_become_98 : decode cX3_become 98 = .ok (.invokevirtual 73, 3) := by decide +kernel
theorem dX3_become_101 : decode cX3_become 101 = .ok (.aload_n 0, 1) := by decide +kernel
theorem dX3_become_102 : decode cX3_become 102 = .ok (.getfield 40, 3) := by decide +kernel
theorem dX3_become_105 : decode cX3_become 105 = .ok (.aload_n 1, 1) := by decide +kernel
theorem dX3_become_106 : decode cX3_become 106 = .ok (.getfield 40, 3) := by decide +kernel
theorem dX3_become_109 : decode cX3_become 109 = .ok (.invokevirtual 77, 3) := by decide +kernel
theorem dX3_become_112 : decode cX3_become 112 = .ok (.aload_n 0, 1) := by decide +kernel
theorem dX3_become_113 : decode cX3_become 113 = .ok (.getfield 47, 3) := by decide +kernel
theorem dX3_become_116 : decode cX3_become 116 = .ok (.aload_n 1, 1) := by decide +kernel
theorem dX3_become_117 : decode cX3_become 117 = .ok (.getfield 47, 3) := by decide +kernel
theorem dX3_become_120 : decode cX3_become 120 = .ok (.invokevirtual 80, 3) := by decide +kernel
theorem dX3_become_123 : decode cX3_become 123 = .ok (.aload_n 0, 1) := by decide +kernel
theorem dX3_become_124 : decode cX3_become 124 = .ok (.aload_n 1, 1) := by decide +kernel
theorem dX3_become_125 : decode cX3_become 125 = .ok (.getfield 51, 3) := by decide +kernel
theorem dX3_become_128 : decode cX3_become 128 = .ok (.putfield 51, 3) := by decide +kernel
theorem dX3_become_131 : decode cX3_become 131 = .ok (.aload_n 0, 1) := by decide +kernel
theorem dX3_become_132 : decode cX3_become 132 = .ok (.aload_n 1, 1) := by decide +kernel
theorem dX3_become_133 : decode cX3_become 133 = .ok (.getfield 55, 3) := by decide +kernel
theorem dX3_become_136 : decode cX3_become 136 = .ok (.putfield 55, 3) := by decide +kernel
theorem dX3_become_139 : decode cX3_become 139 = .ok (.aload_n 0, 1) := by decide +kernel
theorem dX3_become_140 : decode cX3_become 140 = .ok (.aload_n 1, 1) := by decide +kernel
theorem dX3_become_141 : decode cX3_become 141 = .ok (.getfield 58, 3) := by decide +kernel
theorem dX3_become_144 : decode cX3_become 144 = .ok (.putfield 58, 3) := by decide +kernel
theorem dX3_become_147 : decode cX3_become 147 = .ok (.return_, 1) := by decide +kernel
theorem dX3_has_0 : decode cX3_has 0 = .ok (.iload_n 1, 1) := by decide +kernel
theorem dX3_has_1 : decode cX3_has 1 = .ok (.ifCond .lt 15, 3) := by decide +kernel
theorem dX3_has_4 : decode cX3_has 4 = .ok (.iload_n 1, 1) := by decide +kernel
theorem dX3_has_5 : decode cX3_has 5 = .ok (.aload_n 0, 1) := by decide +kernel
theorem dX3_has_6 : decode cX3_has 6 = .ok (.getfield 51, 3) := by decide +kernel
theorem dX3_has_9 : decode cX3_has 9 = .ok (.if_icmp .ge 7, 3) := by decide +kernel
theorem dX3_has_12 : decode cX3_has 12 = .ok (.iconst 1, 1) := by decide +kernel
theorem dX3_has_13 : decode cX3_has 13 = .ok (.goto 4, 3) := by decide +kernel
theorem dX3_has_16 : decode cX3_has 16 = .ok (.iconst 0, 1) := by decide +kernel
theorem dX3_has_17 : decode cX3_has 17 = .ok (.ireturn, 1) := by decide +kernel
theorem dX3_hasAll_0 : decode cX3_hasAll 0 = .ok (.iload_n 1, 1) := by decide +kernel
theorem dX3_hasAll_1 : decode cX3_hasAll 1 = .ok (.ifCond .lt 17, 3) := by decide +kernel
theorem dX3_hasAll_4 : decode cX3_hasAll 4 = .ok (.iload_n 1, 1) := by decide +kernel
theorem dX3_hasAll_5 : decode cX3_hasAll 5 = .ok (.iconst 1, 1) := by decide +kernel
theorem dX3_hasAll_6 : decode cX3_hasAll 6 = .ok (.aload_n 0, 1) := by decide +kernel
theorem dX3_hasAll_7 : decode cX3_hasAll 7 = .ok (.getfield 51, 3) := by decide +kernel
theorem dX3_hasAll_10 : decode cX3_hasAll 10 = .ok (.ishl, 1) := by decide +kernel
theorem dX3_hasAll_11 : decode cX3_hasAll 11 = .ok (.if_icmp .ge 7, 3) := by decide +kernel
theorem dX3_hasAll_14 : decode cX3_hasAll 14 = .ok (.iconst 1, 1) := by decide +kernel
theorem dX3_hasAll_15 : decode cX3_hasAll 15 = .ok (.goto 4, 3) := by decide +kernel
theorem dX3_hasAll_18 : decode cX3_hasAll 18 = .ok (.iconst 0, 1) := by decide +kernel
theorem dX3_hasAll_19 : decode cX3_hasAll 19 = .ok (.ireturn, 1) := by decide +kernel
theorem dX3_hasAct_0 : decode cX3_hasAct 0 = .ok (.iload_n 1, 1) := by decide +kernel
theorem dX3_hasAct_1 : decode cX3_hasAct 1 = .ok (.ifCond .lt 15, 3) := by decide +kernel
theorem dX3_hasAct_4 : decode cX3_hasAct 4 = .ok (.iload_n 1, 1) := by decide +kernel
theorem dX3_hasAct_5 : decode cX3_hasAct 5 = .ok (.aload_n 0, 1) := by decide +kernel
theorem dX3_hasAct_6 : decode cX3_hasAct 6 = .ok (.getfield 51, 3) := by decide +kernel
theorem dX3_hasAct_9 : decode cX3_hasAct 9 = .ok (.if_icmp .gt 7, 3) := by decide +kernel
theorem dX3_hasAct_12 : decode cX3_hasAct 12 = .ok (.iconst 1, 1) := by decide +kernel
theorem dX3_hasAct_13 : decode cX3_hasAct 13 = .ok (.goto 4, 3) := by decide +kernel
theorem dX3_hasAct_16 : decode cX3_hasAct 16 = .ok (.iconst 0, 1) := by decide +kernel
theorem dX3_hasAct_17 : decode cX3_hasAct 17 = .ok (.ireturn, 1) := by decide +kernel
theorem dX3_isOver_0 : decode cX3_isOver 0 = .ok (.aload_n 1, 1) := by decide +kernel
theorem dX3_isOver_1 : decode cX3_isOver 1 = .ok (.getfield 83, 3) := by decide +kernel
theorem dX3_isOver_4 : decode cX3_isOver 4 = .ok (.aload_n 0, 1) := by decide +kernel
theorem dX3_isOver_5 : decode cX3_isOver 5 = .ok (.getfield 55, 3) := by decide +kernel
theorem dX3_isOver_8 : decode cX3_isOver 8 = .ok (.if_icmp .lt 7, 3) := by decide +kernel
theorem dX3_isOver_11 : decode cX3_isOver 11 = .ok (.iconst 1, 1) := by decide +kernel
theorem dX3_isOver_12 : decode cX3_isOver 12 = .ok (.goto 4, 3) := by decide +kernel
theorem dX3_isOver_15 : decode cX3_isOver 15 = .ok (.iconst 0, 1) := by decide +kernel
theorem dX3_isOver_16 : decode cX3_isOver 16 = .ok (.ireturn, 1) := by decide +kernel
theorem dX3_lightAt_0 : decode cX3_lightAt 0 = .ok (.iload_n 1, 1) := by decide +kernel
theorem dX3_lightAt_1 : decode cX3_lightAt 1 = .ok (.ifCond .lt 18, 3) := by decide +kernel
theorem dX3_lightAt_4 : decode cX3_lightAt 4 = .ok (.iload_n 1, 1) := by decide +kernel
theorem dX3_lightAt_5 : decode cX3_lightAt 5 = .ok (.bipush 16, 2) := by decide +kernel
theorem dX3_lightAt_7 : decode cX3_lightAt 7 = .ok (.if_icmp .ge 12, 3) := by decide +kernel
theorem dX3_lightAt_10 : decode cX3_lightAt 10 = .ok (.aload_n 0, 1) := by decide +kernel
theorem dX3_lightAt_11 : decode cX3_lightAt 11 = .ok (.getfield 21, 3) := by decide +kernel
theorem dX3_lightAt_14 : decode cX3_lightAt 14 = .ok (.iload_n 1, 1) := by decide +kernel
theorem dX3_lightAt_15 : decode cX3_lightAt 15 = .ok (.iaload, 1) := by decide +kernel
theorem dX3_lightAt_16 : decode cX3_lightAt 16 = .ok (.goto 4, 3) := by decide +kernel
theorem dX3_lightAt_19 : decode cX3_lightAt 19 = .ok (.iconst 0, 1) := by decide +kernel
theorem dX3_lightAt_20 : decode cX3_lightAt 20 = .ok (.ireturn, 1) := by decide +kernel
theorem dX3_enlist_0 : decode cX3_enlist 0 = .ok (.aload_n 0, 1) := by decide +kernel
theorem dX3_enlist_1 : decode cX3_enlist 1 = .ok (.getfield 51, 3) := by decide +kernel
theorem dX3_enlist_4 : decode cX3_enlist 4 = .ok (.istore 5, 2) := by decide +kernel
theorem dX3_enlist_6 : decode cX3_enlist 6 = .ok (.aload_n 0, 1) := by decide +kernel
theorem dX3_enlist_7 : decode cX3_enlist 7 = .ok (.getfield 9, 3) := by decide +kernel
theorem dX3_enlist_10 : decode cX3_enlist 10 = .ok (.iload 5, 2) := by decide +kernel
theorem dX3_enlist_12 : decode cX3_enlist 12 = .ok (.iload_n 1, 1) := by decide +kernel
theorem dX3_enlist_13 : decode cX3_enlist 13 = .ok (.iastore, 1) := by decide +kernel
theorem dX3_enlist_14 : decode cX3_enlist 14 = .ok (.aload_n 0, 1) := by decide +kernel
theorem dX3_enlist_15 : decode cX3_enlist 15 = .ok (.getfield 15, 3) := by decide +kernel
theorem dX3_enlist_18 : decode cX3_enlist 18 = .ok (.iload 5, 2) := by decide +kernel
theorem dX3_enlist_20 : decode cX3_enlist 20 = .ok (.iload_n 3, 1) := by decide +kernel
theorem dX3_enlist_21 : decode cX3_enlist 21 = .ok (.iastore, 1) := by decide +kernel
theorem dX3_enlist_22 : decode cX3_enlist 22 = .ok (.aload_n 0, 1) := by decide +kernel
theorem dX3_enlist_23 : decode cX3_enlist 23 = .ok (.getfield 18, 3) := by decide +kernel
theorem dX3_enlist_26 : decode cX3_enlist 26 = .ok (.iload 5, 2) := by decide +kernel
theorem dX3_enlist_28 : decode cX3_enlist 28 = .ok (.iload 4, 2) := by decide +kernel
theorem dX3_enlist_30 : decode cX3_enlist 30 = .ok (.iastore, 1) := by decide +kernel
theorem dX3_enlist_31 : decode cX3_enlist 31 = .ok (.aload_n 0, 1) := by decide +kernel
theorem dX3_enlist_32 : decode cX3_enlist 32 = .ok (.getfield 33, 3) := by decide +kernel
theorem dX3_enlist_35 : decode cX3_enlist 35 = .ok (.getfield 86, 3) := by decide +kernel
theorem dX3_enlist_38 : decode cX3_enlist 38 = .ok (.iload 5, 2) := by decide +kernel
theorem dX3_enlist_40 : decode cX3_enlist 40 = .ok (.iload_n 2, 1) := by decide +kernel
theorem dX3_enlist_41 : decode cX3_enlist 41 = .ok (.iastore, 1) := by decide +kernel
theorem dX3_enlist_42 : decode cX3_enlist 42 = .ok (.aload_n 0, 1) := by decide +kernel
theorem dX3_enlist_43 : decode cX3_enlist 43 = .ok (.dup, 1) := by decide +kernel
theorem dX3_enlist_44 : decode cX3_enlist 44 = .ok (.getfield 51, 3) := by decide +kernel
theorem dX3_enlist_47 : decode cX3_enlist 47 = .ok (.iconst 1, 1) := by decide +kernel
theorem dX3_enlist_48 : decode cX3_enlist 48 = .ok (.iadd, 1) := by decide +kernel
theorem dX3_enlist_49 : decode cX3_enlist 49 = .ok (.putfield 51, 3) := by decide +kernel
theorem dX3_enlist_52 : decode cX3_enlist 52 = .ok (.iload 5, 2) := by decide +kernel
theorem dX3_enlist_54 : decode cX3_enlist 54 = .ok (.ireturn, 1) := by decide +kernel
theorem dX3_stranded_0 : decode cX3_stranded 0 = .ok (.iconst 0, 1) := by decide +kernel
theorem dX3_stranded_1 : decode cX3_stranded 1 = .ok (.istore_n 2, 1) := by decide +kernel
theorem dX3_stranded_2 : decode cX3_stranded 2 = .ok (.iconst 0, 1) := by decide +kernel
theorem dX3_stranded_3 : decode cX3_stranded 3 = .ok (.istore_n 3, 1) := by decide +kernel
theorem dX3_stranded_4 : decode cX3_stranded 4 = .ok (.iload_n 3, 1) := by decide +kernel
theorem dX3_stranded_5 : decode cX3_stranded 5 = .ok (.aload_n 0, 1) := by decide +kernel
theorem dX3_stranded_6 : decode cX3_stranded 6 = .ok (.getfield 51, 3) := by decide +kernel
theorem dX3_stranded_9 : decode cX3_stranded 9 = .ok (.if_icmp .ge 20, 3) := by decide +kernel
theorem dX3_stranded_12 : decode cX3_stranded 12 = .ok (.aload_n 1, 1) := by decide +kernel
theorem dX3_stranded_13 : decode cX3_stranded 13 = .ok (.iload_n 3, 1) := by decide +kernel
theorem dX3_stranded_14 : decode cX3_stranded 14 = .ok (.invokevirtual 89, 3) := by decide +kernel
theorem dX3_stranded_17 : decode cX3_stranded 17 = .ok (.ifCond .eq 6, 3) := by decide +kernel
theorem dX3_stranded_20 : decode cX3_stranded 20 = .ok (.iinc 2 1, 3) := by decide +kernel
theorem dX3_stranded_23 : decode cX3_stranded 23 = .ok (.iinc 3 1, 3) := by decide +kernel
theorem dX3_stranded_26 : decode cX3_stranded 26 = .ok (.goto (-22), 3) := by decide +kernel
theorem dX3_stranded_29 : decode cX3_stranded 29 = .ok (.iload_n 2, 1) := by decide +kernel
theorem dX3_stranded_30 : decode cX3_stranded 30 = .ok (.ireturn, 1) := by decide +kernel
theorem dX3_nears_0 : decode cX3_nears 0 = .ok (.aload_n 0, 1) := by decide +kernel
theorem dX3_nears_1 : decode cX3_nears 1 = .ok (.getfield 9, 3) := by decide +kernel
theorem dX3_nears_4 : decode cX3_nears 4 = .ok (.iload_n 2, 1) := by decide +kernel
theorem dX3_nears_5 : decode cX3_nears 5 = .ok (.iaload, 1) := by decide +kernel
theorem dX3_nears_6 : decode cX3_nears 6 = .ok (.aload_n 0, 1) := by decide +kernel
theorem dX3_nears_7 : decode cX3_nears 7 = .ok (.aload_n 1, 1) := by decide +kernel
theorem dX3_nears_8 : decode cX3_nears 8 = .ok (.getfield 83, 3) := by decide +kernel
theorem dX3_nears_11 : decode cX3_nears 11 = .ok (.invokevirtual 93, 3) := by decide +kernel
theorem dX3_nears_14 : decode cX3_nears 14 = .ok (.aload_n 1, 1) := by decide +kernel
theorem dX3_nears_15 : decode cX3_nears 15 = .ok (.getfield 83, 3) := by decide +kernel
theorem dX3_nears_18 : decode cX3_nears 18 = .ok (.invokestatic 97, 3) := by decide +kernel
theorem dX3_nears_21 : decode cX3_nears 21 = .ok (.aload_n 0, 1) := by decide +kernel
theorem dX3_nears_22 : decode cX3_nears 22 = .ok (.getfield 24, 3) := by decide +kernel
theorem dX3_nears_25 : decode cX3_nears 25 = .ok (.aload_n 0, 1) := by decide +kernel
theorem dX3_nears_26 : decode cX3_nears 26 = .ok (.getfield 18, 3) := by decide +kernel
theorem dX3_nears_29 : decode cX3_nears 29 = .ok (.iload_n 2, 1) := by decide +kernel
theorem dX3_nears_30 : decode cX3_nears 30 = .ok (.iaload, 1) := by decide +kernel
theorem dX3_nears_31 : decode cX3_nears 31 = .ok (.iaload, 1) := by decide +kernel
theorem dX3_nears_32 : decode cX3_nears 32 = .ok (.iadd, 1) := by decide +kernel
theorem dX3_nears_33 : decode cX3_nears 33 = .ok (.istore_n 3, 1) := by decide +kernel
theorem dX3_nears_34 : decode cX3_nears 34 = .ok (.iconst 0, 1) := by decide +kernel
theorem dX3_nears_35 : decode cX3_nears 35 = .ok (.istore 4, 2) := by decide +kernel
theorem dX3_nears_37 : decode cX3_nears 37 = .ok (.iload 4, 2) := by decide +kernel
theorem dX3_nears_39 : decode cX3_nears 39 = .ok (.aload_n 0, 1) := by decide +kernel
theorem dX3_nears_40 : decode cX3_nears 40 = .ok (.getfield 51, 3) := by decide +kernel
theorem dX3_nears_43 : decode cX3_nears 43 = .ok (.if_icmp .ge 43, 3) := by decide +kernel
theorem dX3_nears_46 : decode cX3_nears 46 = .ok (.iload 4, 2) := by decide +kernel
theorem dX3_nears_48 : decode cX3_nears 48 = .ok (.iload_n 2, 1) := by decide +kernel
theorem dX3_nears_49 : decode cX3_nears 49 = .ok (.if_icmp .eq 31, 3) := by decide +kernel
theorem dX3_nears_52 : decode cX3_nears 52 = .ok (.aload_n 0, 1) := by decide +kernel
theorem dX3_nears_53 : decode cX3_nears 53 = .ok (.getfield 18, 3) := by decide +kernel
theorem dX3_nears_56 : decode cX3_nears 56 = .ok (.iload 4, 2) := by decide +kernel
theorem dX3_nears_58 : decode cX3_nears 58 = .ok (.iaload, 1) := by decide +kernel
theorem dX3_nears_59 : decode cX3_nears 59 = .ok (.aload_n 0, 1) := by decide +kernel
theorem dX3_nears_60 : decode cX3_nears 60 = .ok (.getfield 18, 3) := by decide +kernel
theorem dX3_nears_63 : decode cX3_nears 63 = .ok (.iload_n 2, 1) := by decide +kernel
theorem dX3_nears_64 : decode cX3_nears 64 = .ok (.iaload, 1) := by decide +kernel
theorem dX3_nears_65 : decode cX3_nears 65 = .ok (.if_icmp .ne 15, 3) := by decide +kernel
theorem dX3_nears_68 : decode cX3_nears 68 = .ok (.aload_n 1, 1) := by decide +kernel
theorem dX3_nears_69 : decode cX3_nears 69 = .ok (.iload 4, 2) := by decide +kernel
theorem dX3_nears_71 : decode cX3_nears 71 = .ok (.invokevirtual 101, 3) := by decide +kernel
theorem dX3_nears_74 : decode cX3_nears 74 = .ok (.ifCond .ne 6, 3) := by decide +kernel
theorem dX3_nears_77 : decode cX3_nears 77 = .ok (.iinc 3 (-1), 3) := by decide +kernel
theorem dX3_nears_80 : decode cX3_nears 80 = .ok (.iinc 4 1, 3) := by decide +kernel
theorem dX3_nears_83 : decode cX3_nears 83 = .ok (.goto (-46), 3) := by decide +kernel
theorem dX3_nears_86 : decode cX3_nears 86 = .ok (.iconst 0, 1) := by decide +kernel
theorem dX3_nears_87 : decode cX3_nears 87 = .ok (.iload_n 3, 1) := by decide +kernel
theorem dX3_nears_88 : decode cX3_nears 88 = .ok (.invokestatic 104, 3) := by decide +kernel
theorem dX3_nears_91 : decode cX3_nears 91 = .ok (.ireturn, 1) := by decide +kernel
theorem dX3_reaches_0 : decode cX3_reaches 0 = .ok (.aload_n 0, 1) := by decide +kernel
theorem dX3_reaches_1 : decode cX3_reaches 1 = .ok (.getfield 9, 3) := by decide +kernel
theorem dX3_reaches_4 : decode cX3_reaches 4 = .ok (.iload_n 2, 1) := by decide +kernel
theorem dX3_reaches_5 : decode cX3_reaches 5 = .ok (.iaload, 1) := by decide +kernel
theorem dX3_reaches_6 : decode cX3_reaches 6 = .ok (.iload_n 3, 1) := by decide +kernel
theorem dX3_reaches_7 : decode cX3_reaches 7 = .ok (.aload_n 0, 1) := by decide +kernel
theorem dX3_reaches_8 : decode cX3_reaches 8 = .ok (.aload_n 1, 1) := by decide +kernel
theorem dX3_reaches_9 : decode cX3_reaches 9 = .ok (.getfield 83, 3) := by decide +kernel
theorem dX3_reaches_12 : decode cX3_reaches 12 = .ok (.invokevirtual 93, 3) := by decide +kernel
theorem dX3_reaches_15 : decode cX3_reaches 15 = .ok (.invokestatic 110, 3) := by decide +kernel
theorem dX3_reaches_18 : decode cX3_reaches 18 = .ok (.aload_n 0, 1) := by decide +kernel
theorem dX3_reaches_19 : decode cX3_reaches 19 = .ok (.getfield 27, 3) := by decide +kernel
theorem dX3_reaches_22 : decode cX3_reaches 22 = .ok (.aload_n 0, 1) := by decide +kernel
theorem dX3_reaches_23 : decode cX3_reaches 23 = .ok (.getfield 18, 3) := by decide +kernel
theorem dX3_reaches_26 : decode cX3_reaches 26 = .ok (.iload_n 2, 1) := by decide +kernel
theorem dX3_reaches_27 : decode cX3_reaches 27 = .ok (.iaload, 1) := by decide +kernel
theorem dX3_reaches_28 : decode cX3_reaches 28 = .ok (.iaload, 1) := by decide +kernel
theorem dX3_reaches_29 : decode cX3_reaches 29 = .ok (.iadd, 1) := by decide +kernel
theorem dX3_reaches_30 : decode cX3_reaches 30 = .ok (.ireturn, 1) := by decide +kernel
theorem dX3_inReach_0 : decode cX3_inReach 0 = .ok (.aload_n 1, 1) := by decide +kernel
theorem dX3_inReach_1 : decode cX3_inReach 1 = .ok (.iload_n 2, 1) := by decide +kernel
theorem dX3_inReach_2 : decode cX3_inReach 2 = .ok (.invokevirtual 101, 3) := by decide +kernel
theorem dX3_inReach_5 : decode cX3_inReach 5 = .ok (.ifCond .ne 12, 3) := by decide +kernel
theorem dX3_inReach_8 : decode cX3_inReach 8 = .ok (.aload_n 1, 1) := by decide +kernel
theorem dX3_inReach_9 : decode cX3_inReach 9 = .ok (.getfield 86, 3) := by decide +kernel
theorem dX3_inReach_12 : decode cX3_inReach 12 = .ok (.iload_n 2, 1) := by decide +kernel
theorem dX3_inReach_13 : decode cX3_inReach 13 = .ok (.iaload, 1) := by decide +kernel
theorem dX3_inReach_14 : decode cX3_inReach 14 = .ok (.ifCond .ne 5, 3) := by decide +kernel
theorem dX3_inReach_17 : decode cX3_inReach 17 = .ok (.iconst 0, 1) := by decide +kernel
theorem dX3_inReach_18 : decode cX3_inReach 18 = .ok (.ireturn, 1) := by decide +kernel
theorem dX3_inReach_19 : decode cX3_inReach 19 = .ok (.aload_n 1, 1) := by decide +kernel
theorem dX3_inReach_20 : decode cX3_inReach 20 = .ok (.getfield 86, 3) := by decide +kernel
theorem dX3_inReach_23 : decode cX3_inReach 23 = .ok (.iload_n 2, 1) := by decide +kernel
theorem dX3_inReach_24 : decode cX3_inReach 24 = .ok (.iaload, 1) := by decide +kernel
theorem dX3_inReach_25 : decode cX3_inReach 25 = .ok (.aload_n 0, 1) := by decide +kernel
theorem dX3_inReach_26 : decode cX3_inReach 26 = .ok (.getfield 9, 3) := by decide +kernel
theorem dX3_inReach_29 : decode cX3_inReach 29 = .ok (.iload_n 2, 1) := by decide +kernel
theorem dX3_inReach_30 : decode cX3_inReach 30 = .ok (.iaload, 1) := by decide +kernel
theorem dX3_inReach_31 : decode cX3_inReach 31 = .ok (.iload_n 3, 1) := by decide +kernel
theorem dX3_inReach_32 : decode cX3_inReach 32 = .ok (.aload_n 0, 1) := by decide +kernel
theorem dX3_inReach_33 : decode cX3_inReach 33 = .ok (.aload_n 1, 1) := by decide +kernel
theorem dX3_inReach_34 : decode cX3_inReach 34 = .ok (.getfield 83, 3) := by decide +kernel
theorem dX3_inReach_37 : decode cX3_inReach 37 = .ok (.invokevirtual 93, 3) := by decide +kernel
theorem dX3_inReach_40 : decode cX3_inReach 40 = .ok (.invokestatic 110, 3) := by decide +kernel
theorem dX3_inReach_43 : decode cX3_inReach 43 = .ok (.aload_n 0, 1) := by decide +kernel
theorem dX3_inReach_44 : decode cX3_inReach 44 = .ok (.getfield 27, 3) := by decide +kernel
theorem dX3_inReach_47 : decode cX3_inReach 47 = .ok (.aload_n 0, 1) := by decide +kernel
theorem dX3_inReach_48 : decode cX3_inReach 48 = .ok (.getfield 18, 3) := by decide +kernel
theorem dX3_inReach_51 : decode cX3_inReach 51 = .ok (.iload_n 2, 1) := by decide +kernel
theorem dX3_inReach_52 : decode cX3_inReach 52 = .ok (.iaload, 1) := by decide +kernel
theorem dX3_inReach_53 : decode cX3_inReach 53 = .ok (.iaload, 1) := by decide +kernel
theorem dX3_inReach_54 : decode cX3_inReach 54 = .ok (.iadd, 1) := by decide +kernel
theorem dX3_inReach_55 : decode cX3_inReach 55 = .ok (.if_icmp .gt 7, 3) := by decide +kernel
theorem dX3_inReach_58 : decode cX3_inReach 58 = .ok (.iconst 1, 1) := by decide +kernel
theorem dX3_inReach_59 : decode cX3_inReach 59 = .ok (.goto 4, 3) := by decide +kernel
theorem dX3_inReach_62 : decode cX3_inReach 62 = .ok (.iconst 0, 1) := by decide +kernel
theorem dX3_inReach_63 : decode cX3_inReach 63 = .ok (.ireturn, 1) := by decide +kernel
theorem dX3_pays_0 : decode cX3_pays 0 = .ok (.aload_n 0, 1) := by decide +kernel
theorem dX3_pays_1 : decode cX3_pays 1 = .ok (.aload_n 1, 1) := by decide +kernel
theorem dX3_pays_2 : decode cX3_pays 2 = .ok (.iload_n 2, 1) := by decide +kernel
theorem dX3_pays_3 : decode cX3_pays 3 = .ok (.aload_n 0, 1) := by decide +kernel
theorem dX3_pays_4 : decode cX3_pays 4 = .ok (.getfield 15, 3) := by decide +kernel
theorem dX3_pays_7 : decode cX3_pays 7 = .ok (.iload_n 2, 1) := by decide +kernel
theorem dX3_pays_8 : decode cX3_pays 8 = .ok (.iaload, 1) := by decide +kernel
theorem dX3_pays_9 : decode cX3_pays 9 = .ok (.invokevirtual 113, 3) := by decide +kernel
theorem dX3_pays_12 : decode cX3_pays 12 = .ok (.ifCond .eq 15, 3) := by decide +kernel
theorem dX3_pays_15 : decode cX3_pays 15 = .ok (.bipush 6, 2) := by decide +kernel
theorem dX3_pays_17 : decode cX3_pays 17 = .ok (.aload_n 0, 1) := by decide +kernel
theorem dX3_pays_18 : decode cX3_pays 18 = .ok (.getfield 15, 3) := by decide +kernel
theorem dX3_pays_21 : decode cX3_pays 21 = .ok (.iload_n 2, 1) := by decide +kernel
theorem dX3_pays_22 : decode cX3_pays 22 = .ok (.iaload, 1) := by decide +kernel
theorem dX3_pays_23 : decode cX3_pays 23 = .ok (.iadd, 1) := by decide +kernel
theorem dX3_pays_24 : decode cX3_pays 24 = .ok (.goto 4, 3) := by decide +kernel
theorem dX3_pays_27 : decode cX3_pays 27 = .ok (.iconst 0, 1) := by decide +kernel
theorem dX3_pays_28 : decode cX3_pays 28 = .ok (.ireturn, 1) := by decide +kernel
theorem dX3_will_0 : decode cX3_will 0 = .ok (.aload_n 0, 1) := by decide +kernel
theorem dX3_will_1 : decode cX3_will 1 = .ok (.getfield 40, 3) := by decide +kernel
theorem dX3_will_4 : decode cX3_will 4 = .ok (.aload_n 1, 1) := by decide +kernel
theorem dX3_will_5 : decode cX3_will 5 = .ok (.getfield 83, 3) := by decide +kernel
theorem dX3_will_8 : decode cX3_will 8 = .ok (.aload_n 1, 1) := by decide +kernel
theorem dX3_will_9 : decode cX3_will 9 = .ok (.getfield 86, 3) := by decide +kernel
theorem dX3_will_12 : decode cX3_will 12 = .ok (.iload_n 2, 1) := by decide +kernel
theorem dX3_will_13 : decode cX3_will 13 = .ok (.iaload, 1) := by decide +kernel
theorem dX3_will_14 : decode cX3_will 14 = .ok (.aload_n 0, 1) := by decide +kernel
theorem dX3_will_15 : decode cX3_will 15 = .ok (.getfield 15, 3) := by decide +kernel
theorem dX3_will_18 : decode cX3_will 18 = .ok (.iload_n 2, 1) := by decide +kernel
theorem dX3_will_19 : decode cX3_will 19 = .ok (.iaload, 1) := by decide +kernel
theorem dX3_will_20 : decode cX3_will 20 = .ok (.aload_n 0, 1) := by decide +kernel
theorem dX3_will_21 : decode cX3_will 21 = .ok (.aload_n 1, 1) := by decide +kernel
theorem dX3_will_22 : decode cX3_will 22 = .ok (.getfield 83, 3) := by decide +kernel
theorem dX3_will_25 : decode cX3_will 25 = .ok (.invokevirtual 93, 3) := by decide +kernel
theorem dX3_will_28 : decode cX3_will 28 = .ok (.iconst 2, 1) := by decide +kernel
theorem dX3_will_29 : decode cX3_will 29 = .ok (.ishr, 1) := by decide +kernel
theorem dX3_will_30 : decode cX3_will 30 = .ok (.iload_n 2, 1) := by decide +kernel
theorem dX3_will_31 : decode cX3_will 31 = .ok (.invokevirtual 117, 3) := by decide +kernel
theorem dX3_will_34 : decode cX3_will 34 = .ok (.iconst 0, 1) := by decide +kernel
theorem dX3_will_35 : decode cX3_will 35 = .ok (.istore_n 3, 1) := by decide +kernel
theorem dX3_will_36 : decode cX3_will 36 = .ok (.iload_n 3, 1) := by decide +kernel
theorem dX3_will_37 : decode cX3_will 37 = .ok (.aload_n 0, 1) := by decide +kernel
theorem dX3_will_38 : decode cX3_will 38 = .ok (.getfield 40, 3) := by decide +kernel
theorem dX3_will_41 : decode cX3_will 41 = .ok (.getfield 121, 3) := by decide +kernel
theorem dX3_will_44 : decode cX3_will 44 = .ok (.if_icmp .ge 51, 3) := by decide +kernel
theorem dX3_will_47 : decode cX3_will 47 = .ok (.aload_n 0, 1) := by decide +kernel
theorem dX3_will_48 : decode cX3_will 48 = .ok (.getfield 9, 3) := by decide +kernel
theorem dX3_will_51 : decode cX3_will 51 = .ok (.iload_n 2, 1) := by decide +kernel
theorem dX3_will_52 : decode cX3_will 52 = .ok (.iaload, 1) := by decide +kernel
theorem dX3_will_53 : decode cX3_will 53 = .ok (.aload_n 0, 1) := by decide +kernel
theorem dX3_will_54 : decode cX3_will 54 = .ok (.getfield 40, 3) := by decide +kernel
theorem dX3_will_57 : decode cX3_will 57 = .ok (.getfield 122, 3) := by decide +kernel
theorem dX3_will_60 : decode cX3_will 60 = .ok (.iload_n 3, 1) := by decide +kernel
theorem dX3_will_61 : decode cX3_will 61 = .ok (.iaload, 1) := by decide +kernel
theorem dX3_will_62 : decode cX3_will 62 = .ok (.invokestatic 123, 3) := by decide +kernel
theorem dX3_will_65 : decode cX3_will 65 = .ok (.ifCond .eq 24, 3) := by decide +kernel
theorem dX3_will_68 : decode cX3_will 68 = .ok (.aload_n 0, 1) := by decide +kernel
theorem dX3_will_69 : decode cX3_will 69 = .ok (.getfield 40, 3) := by decide +kernel
theorem dX3_will_72 : decode cX3_will 72 = .ok (.iload_n 3, 1) := by decide +kernel
theorem dX3_will_73 : decode cX3_will 73 = .ok (.invokevirtual 127, 3) := by decide +kernel
theorem dX3_will_76 : decode cX3_will 76 = .ok (.ifCond .eq 13, 3) := by decide +kernel
theorem dX3_will_79 : decode cX3_will 79 = .ok (.aload_n 0, 1) := by decide +kernel
theorem dX3_will_80 : decode cX3_will 80 = .ok (.getfield 40, 3) := by decide +kernel
theorem dX3_will_83 : decode cX3_will 83 = .ok (.getfield 130, 3) := by decide +kernel
theorem dX3_will_86 : decode cX3_will 86 = .ok (.iload_n 3, 1) := by decide +kernel
theorem dX3_will_87 : decode cX3_will 87 = .ok (.iaload, 1) := by decide +kernel
theorem dX3_will_88 : decode cX3_will 88 = .ok (.ireturn, 1) := by decide +kernel
theorem dX3_will_89 : decode cX3_will 89 = .ok (.iinc 3 1, 3) := by decide +kernel
theorem dX3_will_92 : decode cX3_will 92 = .ok (.goto (-56), 3) := by decide +kernel
theorem dX3_will_95 : decode cX3_will 95 = .ok (.iconst 0, 1) := by decide +kernel
theorem dX3_will_96 : decode cX3_will 96 = .ok (.ireturn, 1) := by decide +kernel
theorem dX3_mayEnter_0 : decode cX3_mayEnter 0 = .ok (.aload_n 0, 1) := by decide +kernel
theorem dX3_mayEnter_1 : decode cX3_mayEnter 1 = .ok (.aload_n 1, 1) := by decide +kernel
theorem dX3_mayEnter_2 : decode cX3_mayEnter 2 = .ok (.iload_n 2, 1) := by decide +kernel
theorem dX3_mayEnter_3 : decode cX3_mayEnter 3 = .ok (.aload_n 0, 1) := by decide +kernel
theorem dX3_mayEnter_4 : decode cX3_mayEnter 4 = .ok (.getfield 15, 3) := by decide +kernel
theorem dX3_mayEnter_7 : decode cX3_mayEnter 7 = .ok (.iload_n 2, 1) := by decide +kernel
theorem dX3_mayEnter_8 : decode cX3_mayEnter 8 = .ok (.iaload, 1) := by decide +kernel
theorem dX3_mayEnter_9 : decode cX3_mayEnter 9 = .ok (.invokevirtual 113, 3) := by decide +kernel
theorem dX3_mayEnter_12 : decode cX3_mayEnter 12 = .ok (.ifCond .eq 16, 3) := by decide +kernel
theorem dX3_mayEnter_15 : decode cX3_mayEnter 15 = .ok (.aload_n 0, 1) := by decide +kernel
theorem dX3_mayEnter_16 : decode cX3_mayEnter 16 = .ok (.aload_n 1, 1) := by decide +kernel
theorem dX3_mayEnter_17 : decode cX3_mayEnter 17 = .ok (.iload_n 2, 1) := by decide +kernel
theorem dX3_mayEnter_18 : decode cX3_mayEnter 18 = .ok (.invokevirtual 133, 3) := by decide +kernel
theorem dX3_mayEnter_21 : decode cX3_mayEnter 21 = .ok (.ifCond .ne 7, 3) := by decide +kernel
theorem dX3_mayEnter_24 : decode cX3_mayEnter 24 = .ok (.iconst 1, 1) := by decide +kernel
theorem dX3_mayEnter_25 : decode cX3_mayEnter 25 = .ok (.goto 4, 3) := by decide +kernel
theorem dX3_mayEnter_28 : decode cX3_mayEnter 28 = .ok (.iconst 0, 1) := by decide +kernel
theorem dX3_mayEnter_29 : decode cX3_mayEnter 29 = .ok (.ireturn, 1) := by decide +kernel
theorem dX3_leastThatMayEnter_0 : decode cX3_leastThatMayEnter 0 = .ok (.iconst 0, 1) := by decide +kernel
theorem dX3_leastThatMayEnter_1 : decode cX3_leastThatMayEnter 1 = .ok (.istore_n 2, 1) := by decide +kernel
theorem dX3_leastThatMayEnter_2 : decode cX3_leastThatMayEnter 2 = .ok (.iload_n 2, 1) := by decide +kernel
theorem dX3_leastThatMayEnter_3 : decode cX3_leastThatMayEnter 3 = .ok (.aload_n 0, 1) := by decide +kernel
theorem dX3_leastThatMayEnter_4 : decode cX3_leastThatMayEnter 4 = .ok (.getfield 51, 3) := by decide +kernel
theorem dX3_leastThatMayEnter_7 : decode cX3_leastThatMayEnter 7 = .ok (.if_icmp .ge 20, 3) := by decide +kernel
theorem dX3_leastThatMayEnter_10 : decode cX3_leastThatMayEnter 10 = .ok (.aload_n 0, 1) := by decide +kernel
theorem dX3_leastThatMayEnter_11 : decode cX3_leastThatMayEnter 11 = .ok (.aload_n 1, 1) := by decide +kernel
theorem dX3_leastThatMayEnter_12 : decode cX3_leastThatMayEnter 12 = .ok (.iload_n 2, 1) := by decide +kernel
theorem dX3_leastThatMayEnter_13 : decode cX3_leastThatMayEnter 13 = .ok (.invokevirtual 137, 3) := by decide +kernel
theorem dX3_leastThatMayEnter_16 : decode cX3_leastThatMayEnter 16 = .ok (.ifCond .eq 5, 3) := by decide +kernel
theorem dX3_leastThatMayEnter_19 : decode cX3_leastThatMayEnter 19 = .ok (.iload_n 2, 1) := by decide +kernel
theorem dX3_leastThatMayEnter_20 : decode cX3_leastThatMayEnter 20 = .ok (.ireturn, 1) := by decide +kernel
theorem dX3_leastThatMayEnter_21 : decode cX3_leastThatMayEnter 21 = .ok (.iinc 2 1, 3) := by decide +kernel
theorem dX3_leastThatMayEnter_24 : decode cX3_leastThatMayEnter 24 = .ok (.goto (-22), 3) := by decide +kernel
theorem dX3_leastThatMayEnter_27 : decode cX3_leastThatMayEnter 27 = .ok (.bipush (-3), 2) := by decide +kernel
theorem dX3_leastThatMayEnter_29 : decode cX3_leastThatMayEnter 29 = .ok (.ireturn, 1) := by decide +kernel
theorem dX3_stirring_0 : decode cX3_stirring 0 = .ok (.iconst 0, 1) := by decide +kernel
theorem dX3_stirring_1 : decode cX3_stirring 1 = .ok (.istore_n 2, 1) := by decide +kernel
theorem dX3_stirring_2 : decode cX3_stirring 2 = .ok (.iconst 0, 1) := by decide +kernel
theorem dX3_stirring_3 : decode cX3_stirring 3 = .ok (.istore_n 3, 1) := by decide +kernel
theorem dX3_stirring_4 : decode cX3_stirring 4 = .ok (.iload_n 3, 1) := by decide +kernel
theorem dX3_stirring_5 : decode cX3_stirring 5 = .ok (.aload_n 0, 1) := by decide +kernel
theorem dX3_stirring_6 : decode cX3_stirring 6 = .ok (.getfield 51, 3) := by decide +kernel
theorem dX3_stirring_9 : decode cX3_stirring 9 = .ok (.if_icmp .ge 42, 3) := by decide +kernel
theorem dX3_stirring_12 : decode cX3_stirring 12 = .ok (.aload_n 0, 1) := by decide +kernel
theorem dX3_stirring_13 : decode cX3_stirring 13 = .ok (.aload_n 1, 1) := by decide +kernel
theorem dX3_stirring_14 : decode cX3_stirring 14 = .ok (.iload_n 3, 1) := by decide +kernel
theorem dX3_stirring_15 : decode cX3_stirring 15 = .ok (.invokevirtual 137, 3) := by decide +kernel
theorem dX3_stirring_18 : decode cX3_stirring 18 = .ok (.ifCond .ne 21, 3) := by decide +kernel
theorem dX3_stirring_21 : decode cX3_stirring 21 = .ok (.aload_n 1, 1) := by decide +kernel
theorem dX3_stirring_22 : decode cX3_stirring 22 = .ok (.iload_n 3, 1) := by decide +kernel
theorem dX3_stirring_23 : decode cX3_stirring 23 = .ok (.invokevirtual 101, 3) := by decide +kernel
theorem dX3_stirring_26 : decode cX3_stirring 26 = .ok (.ifCond .ne 19, 3) := by decide +kernel
theorem dX3_stirring_29 : decode cX3_stirring 29 = .ok (.aload_n 0, 1) := by decide +kernel
theorem dX3_stirring_30 : decode cX3_stirring 30 = .ok (.aload_n 1, 1) := by decide +kernel
theorem dX3_stirring_31 : decode cX3_stirring 31 = .ok (.iload_n 3, 1) := by decide +kernel
theorem dX3_stirring_32 : decode cX3_stirring 32 = .ok (.invokevirtual 133, 3) := by decide +kernel
theorem dX3_stirring_35 : decode cX3_stirring 35 = .ok (.iconst 2, 1) := by decide +kernel
theorem dX3_stirring_36 : decode cX3_stirring 36 = .ok (.if_icmp .ne 9, 3) := by decide +kernel
theorem dX3_stirring_39 : decode cX3_stirring 39 = .ok (.iload_n 2, 1) := by decide +kernel
theorem dX3_stirring_40 : decode cX3_stirring 40 = .ok (.iconst 1, 1) := by decide +kernel
theorem dX3_stirring_41 : decode cX3_stirring 41 = .ok (.iload_n 3, 1) := by decide +kernel
theorem dX3_stirring_42 : decode cX3_stirring 42 = .ok (.ishl, 1) := by decide +kernel
theorem dX3_stirring_43 : decode cX3_stirring 43 = .ok (.ior, 1) := by decide +kernel
theorem dX3_stirring_44 : decode cX3_stirring 44 = .ok (.istore_n 2, 1) := by decide +kernel
theorem dX3_stirring_45 : decode cX3_stirring 45 = .ok (.iinc 3 1, 3) := by decide +kernel
theorem dX3_stirring_48 : decode cX3_stirring 48 = .ok (.goto (-44), 3) := by decide +kernel
theorem dX3_stirring_51 : decode cX3_stirring 51 = .ok (.iload_n 2, 1) := by decide +kernel
theorem dX3_stirring_52 : decode cX3_stirring 52 = .ok (.ireturn, 1) := by decide +kernel
theorem dX3_pass_0 : decode cX3_pass 0 = .ok (.aload_n 0, 1) := by decide +kernel
theorem dX3_pass_1 : decode cX3_pass 1 = .ok (.iload_n 2, 1) := by decide +kernel
theorem dX3_pass_2 : decode cX3_pass 2 = .ok (.iconst 1, 1) := by decide +kernel
theorem dX3_pass_3 : decode cX3_pass 3 = .ok (.isub, 1) := by decide +kernel
theorem dX3_pass_4 : decode cX3_pass 4 = .ok (.invokevirtual 141, 3) := by decide +kernel
theorem dX3_pass_7 : decode cX3_pass 7 = .ok (.ifCond .eq 24, 3) := by decide +kernel
theorem dX3_pass_10 : decode cX3_pass 10 = .ok (.aload_n 1, 1) := by decide +kernel
theorem dX3_pass_11 : decode cX3_pass 11 = .ok (.iload_n 2, 1) := by decide +kernel
theorem dX3_pass_12 : decode cX3_pass 12 = .ok (.iconst 1, 1) := by decide +kernel
theorem dX3_pass_13 : decode cX3_pass 13 = .ok (.isub, 1) := by decide +kernel
theorem dX3_pass_14 : decode cX3_pass 14 = .ok (.invokevirtual 101, 3) := by decide +kernel
theorem dX3_pass_17 : decode cX3_pass 17 = .ok (.ifCond .ne 14, 3) := by decide +kernel
theorem dX3_pass_20 : decode cX3_pass 20 = .ok (.aload_n 0, 1) := by decide +kernel
theorem dX3_pass_21 : decode cX3_pass 21 = .ok (.aload_n 1, 1) := by decide +kernel
theorem dX3_pass_22 : decode cX3_pass 22 = .ok (.iload_n 2, 1) := by decide +kernel
theorem dX3_pass_23 : decode cX3_pass 23 = .ok (.iconst 1, 1) := by decide +kernel
theorem dX3_pass_24 : decode cX3_pass 24 = .ok (.isub, 1) := by decide +kernel
theorem dX3_pass_25 : decode cX3_pass 25 = .ok (.invokevirtual 144, 3) := by decide +kernel
theorem dX3_pass_28 : decode cX3_pass 28 = .ok (.goto 4, 3) := by decide +kernel
theorem dX3_pass_31 : decode cX3_pass 31 = .ok (.iconst 0, 1) := by decide +kernel
theorem dX3_pass_32 : decode cX3_pass 32 = .ok (.istore_n 3, 1) := by decide +kernel
theorem dX3_pass_33 : decode cX3_pass 33 = .ok (.iconst 0, 1) := by decide +kernel
theorem dX3_pass_34 : decode cX3_pass 34 = .ok (.istore 4, 2) := by decide +kernel
theorem dX3_pass_36 : decode cX3_pass 36 = .ok (.iload 4, 2) := by decide +kernel
theorem dX3_pass_38 : decode cX3_pass 38 = .ok (.aload_n 0, 1) := by decide +kernel
theorem dX3_pass_39 : decode cX3_pass 39 = .ok (.getfield 51, 3) := by decide +kernel
theorem dX3_pass_42 : decode cX3_pass 42 = .ok (.if_icmp .ge 44, 3) := by decide +kernel
theorem dX3_pass_45 : decode cX3_pass 45 = .ok (.aload_n 1, 1) := by decide +kernel
theorem dX3_pass_46 : decode cX3_pass 46 = .ok (.iload 4, 2) := by decide +kernel
theorem dX3_pass_48 : decode cX3_pass 48 = .ok (.invokevirtual 101, 3) := by decide +kernel
theorem dX3_pass_51 : decode cX3_pass 51 = .ok (.ifCond .ne 29, 3) := by decide +kernel
theorem dX3_pass_54 : decode cX3_pass 54 = .ok (.aload_n 1, 1) := by decide +kernel
theorem dX3_pass_55 : decode cX3_pass 55 = .ok (.getfield 86, 3) := by decide +kernel
theorem dX3_pass_58 : decode cX3_pass 58 = .ok (.iload 4, 2) := by decide +kernel
theorem dX3_pass_60 : decode cX3_pass 60 = .ok (.iconst 0, 1) := by decide +kernel
theorem dX3_pass_61 : decode cX3_pass 61 = .ok (.aload_n 1, 1) := by decide +kernel
theorem dX3_pass_62 : decode cX3_pass 62 = .ok (.getfield 86, 3) := by decide +kernel
theorem dX3_pass_65 : decode cX3_pass 65 = .ok (.iload 4, 2) := by decide +kernel
theorem dX3_pass_67 : decode cX3_pass 67 = .ok (.iaload, 1) := by decide +kernel
theorem dX3_pass_68 : decode cX3_pass 68 = .ok (.aload_n 0, 1) := by decide +kernel
theorem dX3_pass_69 : decode cX3_pass 69 = .ok (.aload_n 1, 1) := by decide +kernel
theorem dX3_pass_70 : decode cX3_pass 70 = .ok (.iload 4, 2) := by decide +kernel
theorem dX3_pass_72 : decode cX3_pass 72 = .ok (.invokevirtual 147, 3) := by decide +kernel
theorem dX3_pass_75 : decode cX3_pass 75 = .ok (.isub, 1) := by decide +kernel
theorem dX3_pass_76 : decode cX3_pass 76 = .ok (.invokestatic 104, 3) := by decide +kernel
theorem dX3_pass_79 : decode cX3_pass 79 = .ok (.iastore, 1) := by decide +kernel
theorem dX3_pass_80 : decode cX3_pass 80 = .ok (.iinc 4 1, 3) := by decide +kernel
theorem dX3_pass_83 : decode cX3_pass 83 = .ok (.goto (-47), 3) := by decide +kernel
theorem dX3_pass_86 : decode cX3_pass 86 = .ok (.iload_n 3, 1) := by decide +kernel
theorem dX3_pass_87 : decode cX3_pass 87 = .ok (.iconst 0, 1) := by decide +kernel
theorem dX3_pass_88 : decode cX3_pass 88 = .ok (.aload_n 1, 1) := by decide +kernel
theorem dX3_pass_89 : decode cX3_pass 89 = .ok (.getfield 150, 3) := by decide +kernel
theorem dX3_pass_92 : decode cX3_pass 92 = .ok (.invokestatic 153, 3) := by decide +kernel
theorem dX3_pass_95 : decode cX3_pass 95 = .ok (.aload_n 0, 1) := by decide +kernel
theorem dX3_pass_96 : decode cX3_pass 96 = .ok (.aload_n 1, 1) := by decide +kernel
theorem dX3_pass_97 : decode cX3_pass 97 = .ok (.invokevirtual 158, 3) := by decide +kernel
theorem dX3_pass_100 : decode cX3_pass 100 = .ok (.isub, 1) := by decide +kernel
theorem dX3_pass_101 : decode cX3_pass 101 = .ok (.invokestatic 104, 3) := by decide +kernel
theorem dX3_pass_104 : decode cX3_pass 104 = .ok (.iadd, 1) := by decide +kernel
theorem dX3_pass_105 : decode cX3_pass 105 = .ok (.istore_n 3, 1) := by decide +kernel
theorem dX3_pass_106 : decode cX3_pass 106 = .ok (.aload_n 1, 1) := by decide +kernel
theorem dX3_pass_107 : decode cX3_pass 107 = .ok (.dup, 1) := by decide +kernel
theorem dX3_pass_108 : decode cX3_pass 108 = .ok (.getfield 83, 3) := by decide +kernel
theorem dX3_pass_111 : decode cX3_pass 111 = .ok (.iconst 1, 1) := by decide +kernel
theorem dX3_pass_112 : decode cX3_pass 112 = .ok (.iadd, 1) := by decide +kernel
theorem dX3_pass_113 : decode cX3_pass 113 = .ok (.putfield 83, 3) := by decide +kernel
theorem dX3_pass_116 : decode cX3_pass 116 = .ok (.aload_n 1, 1) := by decide +kernel
theorem dX3_pass_117 : decode cX3_pass 117 = .ok (.dup, 1) := by decide +kernel
theorem dX3_pass_118 : decode cX3_pass 118 = .ok (.getfield 162, 3) := by decide +kernel
theorem dX3_pass_121 : decode cX3_pass 121 = .ok (.iload_n 3, 1) := by decide +kernel
theorem dX3_pass_122 : decode cX3_pass 122 = .ok (.iadd, 1) := by decide +kernel
theorem dX3_pass_123 : decode cX3_pass 123 = .ok (.putfield 162, 3) := by decide +kernel
theorem dX3_pass_126 : decode cX3_pass 126 = .ok (.iload_n 3, 1) := by decide +kernel
theorem dX3_pass_127 : decode cX3_pass 127 = .ok (.ireturn, 1) := by decide +kernel
theorem dX3_obey_0 : decode cX3_obey 0 = .ok (.aload_n 0, 1) := by decide +kernel
theorem dX3_obey_1 : decode cX3_obey 1 = .ok (.aload_n 1, 1) := by decide +kernel
theorem dX3_obey_2 : decode cX3_obey 2 = .ok (.iload_n 2, 1) := by decide +kernel
theorem dX3_obey_3 : decode cX3_obey 3 = .ok (.invokevirtual 133, 3) := by decide +kernel
theorem dX3_obey_6 : decode cX3_obey 6 = .ok (.lookupswitch 100 #[(0, 26), (2, 60)], 26) := by decide +kernel
theorem dX3_obey_32 : decode cX3_obey 32 = .ok (.aload_n 0, 1) := by decide +kernel
theorem dX3_obey_33 : decode cX3_obey 33 = .ok (.aload_n 1, 1) := by decide +kernel
theorem dX3_obey_34 : decode cX3_obey 34 = .ok (.iload_n 2, 1) := by decide +kernel
theorem dX3_obey_35 : decode cX3_obey 35 = .ok (.aload_n 0, 1) := by decide +kernel
theorem dX3_obey_36 : decode cX3_obey 36 = .ok (.getfield 15, 3) := by decide +kernel
theorem dX3_obey_39 : decode cX3_obey 39 = .ok (.iload_n 2, 1) := by decide +kernel
theorem dX3_obey_40 : decode cX3_obey 40 = .ok (.iaload, 1) := by decide +kernel
theorem dX3_obey_41 : decode cX3_obey 41 = .ok (.invokevirtual 113, 3) := by decide +kernel
theorem dX3_obey_44 : decode cX3_obey 44 = .ok (.ifCond .ne 5, 3) := by decide +kernel
theorem dX3_obey_47 : decode cX3_obey 47 = .ok (.iconst 0, 1) := by decide +kernel
theorem dX3_obey_48 : decode cX3_obey 48 = .ok (.ireturn, 1) := by decide +kernel
theorem dX3_obey_49 : decode cX3_obey 49 = .ok (.aload_n 1, 1) := by decide +kernel
theorem dX3_obey_50 : decode cX3_obey 50 = .ok (.iload_n 2, 1) := by decide +kernel
theorem dX3_obey_51 : decode cX3_obey 51 = .ok (.iconst 1, 1) := by decide +kernel
theorem dX3_obey_52 : decode cX3_obey 52 = .ok (.invokevirtual 165, 3) := by decide +kernel
theorem dX3_obey_55 : decode cX3_obey 55 = .ok (.pop, 1) := by decide +kernel
theorem dX3_obey_56 : decode cX3_obey 56 = .ok (.bipush 6, 2) := by decide +kernel
theorem dX3_obey_58 : decode cX3_obey 58 = .ok (.aload_n 0, 1) := by decide +kernel
theorem dX3_obey_59 : decode cX3_obey 59 = .ok (.getfield 15, 3) := by decide +kernel
theorem dX3_obey_62 : decode cX3_obey 62 = .ok (.iload_n 2, 1) := by decide +kernel
theorem dX3_obey_63 : decode cX3_obey 63 = .ok (.iaload, 1) := by decide +kernel
theorem dX3_obey_64 : decode cX3_obey 64 = .ok (.iadd, 1) := by decide +kernel
theorem dX3_obey_65 : decode cX3_obey 65 = .ok (.ireturn, 1) := by decide +kernel
theorem dX3_obey_66 : decode cX3_obey 66 = .ok (.aload_n 1, 1) := by decide +kernel
theorem dX3_obey_67 : decode cX3_obey 67 = .ok (.getfield 86, 3) := by decide +kernel
theorem dX3_obey_70 : decode cX3_obey 70 = .ok (.iload_n 2, 1) := by decide +kernel
theorem dX3_obey_71 : decode cX3_obey 71 = .ok (.bipush 99, 2) := by decide +kernel
theorem dX3_obey_73 : decode cX3_obey 73 = .ok (.aload_n 1, 1) := by decide +kernel
theorem dX3_obey_74 : decode cX3_obey 74 = .ok (.getfield 86, 3) := by decide +kernel
theorem dX3_obey_77 : decode cX3_obey 77 = .ok (.iload_n 2, 1) := by decide +kernel
theorem dX3_obey_78 : decode cX3_obey 78 = .ok (.iaload, 1) := by decide +kernel
theorem dX3_obey_79 : decode cX3_obey 79 = .ok (.bipush 12, 2) := by decide +kernel
theorem dX3_obey_81 : decode cX3_obey 81 = .ok (.iadd, 1) := by decide +kernel
theorem dX3_obey_82 : decode cX3_obey 82 = .ok (.invokestatic 168, 3) := by decide +kernel
theorem dX3_obey_85 : decode cX3_obey 85 = .ok (.iastore, 1) := by decide +kernel
theorem dX3_obey_86 : decode cX3_obey 86 = .ok (.aload_n 0, 1) := by decide +kernel
theorem dX3_obey_87 : decode cX3_obey 87 = .ok (.aload_n 1, 1) := by decide +kernel
theorem dX3_obey_88 : decode cX3_obey 88 = .ok (.getfield 83, 3) := by decide +kernel
theorem dX3_obey_91 : decode cX3_obey 91 = .ok (.invokevirtual 93, 3) := by decide +kernel
theorem dX3_obey_94 : decode cX3_obey 94 = .ok (.iconst 3, 1) := by decide +kernel
theorem dX3_obey_95 : decode cX3_obey 95 = .ok (.iand, 1) := by decide +kernel
theorem dX3_obey_96 : decode cX3_obey 96 = .ok (.iconst 1, 1) := by decide +kernel
theorem dX3_obey_97 : decode cX3_obey 97 = .ok (.if_icmp .le 7, 3) := by decide +kernel
theorem dX3_obey_100 : decode cX3_obey 100 = .ok (.iconst 1, 1) := by decide +kernel
theorem dX3_obey_101 : decode cX3_obey 101 = .ok (.goto 4, 3) := by decide +kernel
theorem dX3_obey_104 : decode cX3_obey 104 = .ok (.iconst 0, 1) := by decide +kernel
theorem dX3_obey_105 : decode cX3_obey 105 = .ok (.ireturn, 1) := by decide +kernel
theorem dX3_obey_106 : decode cX3_obey 106 = .ok (.iconst 0, 1) := by decide +kernel
theorem dX3_obey_107 : decode cX3_obey 107 = .ok (.ireturn, 1) := by decide +kernel
theorem dX3_passRest_0 : decode cX3_passRest 0 = .ok (.aload_n 0, 1) := by decide +kernel
theorem dX3_passRest_1 : decode cX3_passRest 1 = .ok (.aload_n 1, 1) := by decide +kernel
theorem dX3_passRest_2 : decode cX3_passRest 2 = .ok (.invokevirtual 171, 3) := by decide +kernel
theorem dX3_passRest_5 : decode cX3_passRest 5 = .ok (.istore_n 2, 1) := by decide +kernel
theorem dX3_passRest_6 : decode cX3_passRest 6 = .ok (.aload_n 0, 1) := by decide +kernel
theorem dX3_passRest_7 : decode cX3_passRest 7 = .ok (.aload_n 1, 1) := by decide +kernel
theorem dX3_passRest_8 : decode cX3_passRest 8 = .ok (.iload_n 2, 1) := by decide +kernel
theorem dX3_passRest_9 : decode cX3_passRest 9 = .ok (.bipush (-3), 2) := by decide +kernel
theorem dX3_passRest_11 : decode cX3_passRest 11 = .ok (.if_icmp .ne 7, 3) := by decide +kernel
theorem dX3_passRest_14 : decode cX3_passRest 14 = .ok (.iconst 0, 1) := by decide +kernel
theorem dX3_passRest_15 : decode cX3_passRest 15 = .ok (.goto 6, 3) := by decide +kernel
theorem dX3_passRest_18 : decode cX3_passRest 18 = .ok (.iload_n 2, 1) := by decide +kernel
theorem dX3_passRest_19 : decode cX3_passRest 19 = .ok (.iconst 1, 1) := by decide +kernel
theorem dX3_passRest_20 : decode cX3_passRest 20 = .ok (.iadd, 1) := by decide +kernel
theorem dX3_passRest_21 : decode cX3_passRest 21 = .ok (.invokevirtual 174, 3) := by decide +kernel
theorem dX3_passRest_24 : decode cX3_passRest 24 = .ok (.ireturn, 1) := by decide +kernel
theorem dX3_passByLot_0 : decode cX3_passByLot 0 = .ok (.aload_n 0, 1) := by decide +kernel
theorem dX3_passByLot_1 : decode cX3_passByLot 1 = .ok (.aload_n 0, 1) := by decide +kernel
theorem dX3_passByLot_2 : decode cX3_passByLot 2 = .ok (.getfield 58, 3) := by decide +kernel
theorem dX3_passByLot_5 : decode cX3_passByLot 5 = .ok (.ldc 177, 2) := by decide +kernel
theorem dX3_passByLot_7 : decode cX3_passByLot 7 = .ok (.imul, 1) := by decide +kernel
theorem dX3_passByLot_8 : decode cX3_passByLot 8 = .ok (.sipush 12345, 3) := by decide +kernel
theorem dX3_passByLot_11 : decode cX3_passByLot 11 = .ok (.iadd, 1) := by decide +kernel
theorem dX3_passByLot_12 : decode cX3_passByLot 12 = .ok (.putfield 58, 3) := by decide +kernel
theorem dX3_passByLot_15 : decode cX3_passByLot 15 = .ok (.aload_n 0, 1) := by decide +kernel
theorem dX3_passByLot_16 : decode cX3_passByLot 16 = .ok (.aload_n 1, 1) := by decide +kernel
theorem dX3_passByLot_17 : decode cX3_passByLot 17 = .ok (.aload_n 0, 1) := by decide +kernel
theorem dX3_passByLot_18 : decode cX3_passByLot 18 = .ok (.getfield 58, 3) := by decide +kernel
theorem dX3_passByLot_21 : decode cX3_passByLot 21 = .ok (.bipush 16, 2) := by decide +kernel
theorem dX3_passByLot_23 : decode cX3_passByLot 23 = .ok (.iushr, 1) := by decide +kernel
theorem dX3_passByLot_24 : decode cX3_passByLot 24 = .ok (.aload_n 0, 1) := by decide +kernel
theorem dX3_passByLot_25 : decode cX3_passByLot 25 = .ok (.getfield 51, 3) := by decide +kernel
theorem dX3_passByLot_28 : decode cX3_passByLot 28 = .ok (.iconst 1, 1) := by decide +kernel
theorem dX3_passByLot_29 : decode cX3_passByLot 29 = .ok (.iadd, 1) := by decide +kernel
theorem dX3_passByLot_30 : decode cX3_passByLot 30 = .ok (.irem, 1) := by decide +kernel
theorem dX3_passByLot_31 : decode cX3_passByLot 31 = .ok (.invokevirtual 174, 3) := by decide +kernel
theorem dX3_passByLot_34 : decode cX3_passByLot 34 = .ok (.ireturn, 1) := by decide +kernel
theorem dX3_areClose_0 : decode cX3_areClose 0 = .ok (.aload_n 0, 1) := by decide +kernel
theorem dX3_areClose_1 : decode cX3_areClose 1 = .ok (.getfield 33, 3) := by decide +kernel
theorem dX3_areClose_4 : decode cX3_areClose 4 = .ok (.iload_n 1, 1) := by decide +kernel
theorem dX3_areClose_5 : decode cX3_areClose 5 = .ok (.invokevirtual 101, 3) := by decide +kernel
theorem dX3_areClose_8 : decode cX3_areClose 8 = .ok (.ifCond .ne 14, 3) := by decide +kernel
theorem dX3_areClose_11 : decode cX3_areClose 11 = .ok (.aload_n 0, 1) := by decide +kernel
theorem dX3_areClose_12 : decode cX3_areClose 12 = .ok (.getfield 33, 3) := by decide +kernel
theorem dX3_areClose_15 : decode cX3_areClose 15 = .ok (.iload_n 2, 1) := by decide +kernel
theorem dX3_areClose_16 : decode cX3_areClose 16 = .ok (.invokevirtual 101, 3) := by decide +kernel
theorem dX3_areClose_19 : decode cX3_areClose 19 = .ok (.ifCond .eq 5, 3) := by decide +kernel
theorem dX3_areClose_22 : decode cX3_areClose 22 = .ok (.iconst 0, 1) := by decide +kernel
theorem dX3_areClose_23 : decode cX3_areClose 23 = .ok (.ireturn, 1) := by decide +kernel
theorem dX3_areClose_24 : decode cX3_areClose 24 = .ok (.aload_n 0, 1) := by decide +kernel
theorem dX3_areClose_25 : decode cX3_areClose 25 = .ok (.getfield 18, 3) := by decide +kernel
theorem dX3_areClose_28 : decode cX3_areClose 28 = .ok (.iload_n 1, 1) := by decide +kernel
theorem dX3_areClose_29 : decode cX3_areClose 29 = .ok (.iaload, 1) := by decide +kernel
theorem dX3_areClose_30 : decode cX3_areClose 30 = .ok (.aload_n 0, 1) := by decide +kernel
theorem dX3_areClose_31 : decode cX3_areClose 31 = .ok (.getfield 18, 3) := by decide +kernel
theorem dX3_areClose_34 : decode cX3_areClose 34 = .ok (.iload_n 2, 1) := by decide +kernel
theorem dX3_areClose_35 : decode cX3_areClose 35 = .ok (.iaload, 1) := by decide +kernel
theorem dX3_areClose_36 : decode cX3_areClose 36 = .ok (.if_icmp .eq 29, 3) := by decide +kernel
theorem dX3_areClose_39 : decode cX3_areClose 39 = .ok (.aload_n 0, 1) := by decide +kernel
theorem dX3_areClose_40 : decode cX3_areClose 40 = .ok (.getfield 33, 3) := by decide +kernel
theorem dX3_areClose_43 : decode cX3_areClose 43 = .ok (.getfield 86, 3) := by decide +kernel
theorem dX3_areClose_46 : decode cX3_areClose 46 = .ok (.iload_n 1, 1) := by decide +kernel
theorem dX3_areClose_47 : decode cX3_areClose 47 = .ok (.iaload, 1) := by decide +kernel
theorem dX3_areClose_48 : decode cX3_areClose 48 = .ok (.aload_n 0, 1) := by decide +kernel
theorem dX3_areClose_49 : decode cX3_areClose 49 = .ok (.getfield 33, 3) := by decide +kernel
theorem dX3_areClose_52 : decode cX3_areClose 52 = .ok (.getfield 86, 3) := by decide +kernel
theorem dX3_areClose_55 : decode cX3_areClose 55 = .ok (.iload_n 2, 1) := by decide +kernel
theorem dX3_areClose_56 : decode cX3_areClose 56 = .ok (.iaload, 1) := by decide +kernel
theorem dX3_areClose_57 : decode cX3_areClose 57 = .ok (.isub, 1) := by decide +kernel
theorem dX3_areClose_58 : decode cX3_areClose 58 = .ok (.invokestatic 178, 3) := by decide +kernel
theorem dX3_areClose_61 : decode cX3_areClose 61 = .ok (.iconst 4, 1) := by decide +kernel
theorem dX3_areClose_62 : decode cX3_areClose 62 = .ok (.if_icmp .gt 7, 3) := by decide +kernel
theorem dX3_areClose_65 : decode cX3_areClose 65 = .ok (.iconst 1, 1) := by decide +kernel
theorem dX3_areClose_66 : decode cX3_areClose 66 = .ok (.goto 4, 3) := by decide +kernel
theorem dX3_areClose_69 : decode cX3_areClose 69 = .ok (.iconst 0, 1) := by decide +kernel
theorem dX3_areClose_70 : decode cX3_areClose 70 = .ok (.ireturn, 1) := by decide +kernel
theorem dX3_convoyOf_0 : decode cX3_convoyOf 0 = .ok (.iconst 1, 1) := by decide +kernel
theorem dX3_convoyOf_1 : decode cX3_convoyOf 1 = .ok (.iload_n 1, 1) := by decide +kernel
theorem dX3_convoyOf_2 : decode cX3_convoyOf 2 = .ok (.ishl, 1) := by decide +kernel
theorem dX3_convoyOf_3 : decode cX3_convoyOf 3 = .ok (.istore_n 2, 1) := by decide +kernel
theorem dX3_convoyOf_4 : decode cX3_convoyOf 4 = .ok (.iconst 1, 1) := by decide +kernel
theorem dX3_convoyOf_5 : decode cX3_convoyOf 5 = .ok (.istore_n 3, 1) := by decide +kernel
theorem dX3_convoyOf_6 : decode cX3_convoyOf 6 = .ok (.iload_n 3, 1) := by decide +kernel
theorem dX3_convoyOf_7 : decode cX3_convoyOf 7 = .ok (.aload_n 0, 1) := by decide +kernel
theorem dX3_convoyOf_8 : decode cX3_convoyOf 8 = .ok (.getfield 51, 3) := by decide +kernel
theorem dX3_convoyOf_11 : decode cX3_convoyOf 11 = .ok (.if_icmp .ge 73, 3) := by decide +kernel
theorem dX3_convoyOf_14 : decode cX3_convoyOf 14 = .ok (.iconst 0, 1) := by decide +kernel
theorem dX3_convoyOf_15 : decode cX3_convoyOf 15 = .ok (.istore 4, 2) := by decide +kernel
theorem dX3_convoyOf_17 : decode cX3_convoyOf 17 = .ok (.iload 4, 2) := by decide +kernel
theorem dX3_convoyOf_19 : decode cX3_convoyOf 19 = .ok (.aload_n 0, 1) := by decide +kernel
theorem dX3_convoyOf_20 : decode cX3_convoyOf 20 = .ok (.getfield 51, 3) := by decide +kernel
theorem dX3_convoyOf_23 : decode cX3_convoyOf 23 = .ok (.if_icmp .ge 55, 3) := by decide +kernel
theorem dX3_convoyOf_26 : decode cX3_convoyOf 26 = .ok (.iconst 0, 1) := by decide +kernel
theorem dX3_convoyOf_27 : decode cX3_convoyOf 27 = .ok (.istore 5, 2) := by decide +kernel
theorem dX3_convoyOf_29 : decode cX3_convoyOf 29 = .ok (.iload 5, 2) := by decide +kernel
theorem dX3_convoyOf_31 : decode cX3_convoyOf 31 = .ok (.aload_n 0, 1) := by decide +kernel
theorem dX3_convoyOf_32 : decode cX3_convoyOf 32 = .ok (.getfield 51, 3) := by decide +kernel
theorem dX3_convoyOf_35 : decode cX3_convoyOf 35 = .ok (.if_icmp .ge 37, 3) := by decide +kernel
theorem dX3_convoyOf_38 : decode cX3_convoyOf 38 = .ok (.iload_n 2, 1) := by decide +kernel
theorem dX3_convoyOf_39 : decode cX3_convoyOf 39 = .ok (.iload 4, 2) := by decide +kernel
theorem dX3_convoyOf_41 : decode cX3_convoyOf 41 = .ok (.ishr, 1) := by decide +kernel
theorem dX3_convoyOf_42 : decode cX3_convoyOf 42 = .ok (.iconst 1, 1) := by decide +kernel
theorem dX3_convoyOf_43 : decode cX3_convoyOf 43 = .ok (.iand, 1) := by decide +kernel
theorem dX3_convoyOf_44 : decode cX3_convoyOf 44 = .ok (.iconst 1, 1) := by decide +kernel
theorem dX3_convoyOf_45 : decode cX3_convoyOf 45 = .ok (.if_icmp .ne 21, 3) := by decide +kernel
theorem dX3_convoyOf_48 : decode cX3_convoyOf 48 = .ok (.aload_n 0, 1) := by decide +kernel
theorem dX3_convoyOf_49 : decode cX3_convoyOf 49 = .ok (.iload 4, 2) := by decide +kernel
theorem dX3_convoyOf_51 : decode cX3_convoyOf 51 = .ok (.iload 5, 2) := by decide +kernel
theorem dX3_convoyOf_53 : decode cX3_convoyOf 53 = .ok (.invokevirtual 181, 3) := by decide +kernel
theorem dX3_convoyOf_56 : decode cX3_convoyOf 56 = .ok (.ifCond .eq 10, 3) := by decide +kernel
theorem dX3_convoyOf_59 : decode cX3_convoyOf 59 = .ok (.iload_n 2, 1) := by decide +kernel
theorem dX3_convoyOf_60 : decode cX3_convoyOf 60 = .ok (.iconst 1, 1) := by decide +kernel
theorem dX3_convoyOf_61 : decode cX3_convoyOf 61 = .ok (.iload 5, 2) := by decide +kernel
theorem dX3_convoyOf_63 : decode cX3_convoyOf 63 = .ok (.ishl, 1) := by decide +kernel
theorem dX3_convoyOf_64 : decode cX3_convoyOf 64 = .ok (.ior, 1) := by decide +kernel
theorem dX3_convoyOf_65 : decode cX3_convoyOf 65 = .ok (.istore_n 2, 1) := by decide +kernel
theorem dX3_convoyOf_66 : decode cX3_convoyOf 66 = .ok (.iinc 5 1, 3) := by decide +kernel
theorem dX3_convoyOf_69 : decode cX3_convoyOf 69 = .ok (.goto (-40), 3) := by decide +kernel
theorem dX3_convoyOf_72 : decode cX3_convoyOf 72 = .ok (.iinc 4 1, 3) := by decide +kernel
theorem dX3_convoyOf_75 : decode cX3_convoyOf 75 = .ok (.goto (-58), 3) := by decide +kernel
theorem dX3_convoyOf_78 : decode cX3_convoyOf 78 = .ok (.iinc 3 1, 3) := by decide +kernel
theorem dX3_convoyOf_81 : decode cX3_convoyOf 81 = .ok (.goto (-75), 3) := by decide +kernel
theorem dX3_convoyOf_84 : decode cX3_convoyOf 84 = .ok (.iload_n 2, 1) := by decide +kernel
theorem dX3_convoyOf_85 : decode cX3_convoyOf 85 = .ok (.ireturn, 1) := by decide +kernel
theorem dX4_init_0 : decode cX4_init 0 = .ok (.aload_n 0, 1) := by decide +kernel
theorem dX4_init_1 : decode cX4_init 1 = .ok (.invokespecial 3, 3) := by decide +kernel
theorem dX4_init_4 : decode cX4_init 4 = .ok (.aload_n 0, 1) := by decide +kernel
theorem dX4_init_5 : decode cX4_init 5 = .ok (.sipush 200, 3) := by decide +kernel
theorem dX4_init_8 : decode cX4_init 8 = .ok (.newarray .int, 2) := by decide +kernel
theorem dX4_init_10 : decode cX4_init 10 = .ok (.putfield 9, 3) := by decide +kernel
theorem dX4_init_13 : decode cX4_init 13 = .ok (.aload_n 0, 1) := by decide +kernel
theorem dX4_init_14 : decode cX4_init 14 = .ok (.iconst 0, 1) := by decide +kernel
theorem dX4_init_15 : decode cX4_init 15 = .ok (.putfield 15, 3) := by decide +kernel
theorem dX4_init_18 : decode cX4_init 18 = .ok (.aload_n 0, 1) := by decide +kernel
theorem dX4_init_19 : decode cX4_init 19 = .ok (.iconst 0, 1) := by decide +kernel
theorem dX4_init_20 : decode cX4_init 20 = .ok (.putfield 19, 3) := by decide +kernel
theorem dX4_init_23 : decode cX4_init 23 = .ok (.aload_n 0, 1) := by decide +kernel
theorem dX4_init_24 : decode cX4_init 24 = .ok (.iconst 0, 1) := by decide +kernel
theorem dX4_init_25 : decode cX4_init 25 = .ok (.putfield 22, 3) := by decide +kernel
theorem dX4_init_28 : decode cX4_init 28 = .ok (.aload_n 0, 1) := by decide +kernel
theorem dX4_init_29 : decode cX4_init 29 = .ok (.iconst 0, 1) := by decide +kernel
theorem dX4_init_30 : decode cX4_init 30 = .ok (.putfield 25, 3) := by decide +kernel
theorem dX4_init_33 : decode cX4_init 33 = .ok (.aload_n 0, 1) := by decide +kernel
theorem dX4_init_34 : decode cX4_init 34 = .ok (.iconst 0, 1) := by decide +kernel
theorem dX4_init_35 : decode cX4_init 35 = .ok (.putfield 28, 3) := by decide +kernel
theorem dX4_init_38 : decode cX4_init 38 = .ok (.aload_n 0, 1) := by decide +kernel
theorem dX4_init_39 : decode cX4_init 39 = .ok (.iconst 0, 1) := by decide +kernel
theorem dX4_init_40 : decode cX4_init 40 = .ok (.putfield 31, 3) := by decide +kernel
theorem dX4_init_43 : decode cX4_init 43 = .ok (.aload_n 0, 1) := by decide +kernel
theorem dX4_init_44 : decode cX4_init 44 = .ok (.bipush 19, 2) := by decide +kernel
theorem dX4_init_46 : decode cX4_init 46 = .ok (.putfield 34, 3) := by decide +kernel
theorem dX4_init_49 : decode cX4_init 49 = .ok (.aload_n 0, 1) := by decide +kernel
theorem dX4_init_50 : decode cX4_init 50 = .ok (.iconst 0, 1) := by decide +kernel
theorem dX4_init_51 : decode cX4_init 51 = .ok (.putfield 37, 3) := by decide +kernel
theorem dX4_init_54 : decode cX4_init 54 = .ok (.aload_n 0, 1) := by decide +kernel
theorem dX4_init_55 : decode cX4_init 55 = .ok (.iconst 0, 1) := by decide +kernel
theorem dX4_init_56 : decode cX4_init 56 = .ok (.putfield 40, 3) := by decide +kernel
theorem dX4_init_59 : decode cX4_init 59 = .ok (.aload_n 0, 1) := by decide +kernel
theorem dX4_init_60 : decode cX4_init 60 = .ok (.iconst 0, 1) := by decide +kernel
theorem dX4_init_61 : decode cX4_init 61 = .ok (.putfield 43, 3) := by decide +kernel
theorem dX4_init_64 : decode cX4_init 64 = .ok (.return_, 1) := by decide +kernel
theorem dX4_read_0 : decode cX4_read 0 = .ok (.aload_n 3, 1) := by decide +kernel
theorem dX4_read_1 : decode cX4_read 1 = .ok (.invokevirtual 46, 3) := by decide +kernel
theorem dX4_read_4 : decode cX4_read 4 = .ok (.aload_n 0, 1) := by decide +kernel
theorem dX4_read_5 : decode cX4_read 5 = .ok (.iconst 0, 1) := by decide +kernel
theorem dX4_read_6 : decode cX4_read 6 = .ok (.putfield 15, 3) := by decide +kernel
theorem dX4_read_9 : decode cX4_read 9 = .ok (.aload_n 0, 1) := by decide +kernel
theorem dX4_read_10 : decode cX4_read 10 = .ok (.iconst 0, 1) := by decide +kernel
theorem dX4_read_11 : decode cX4_read 11 = .ok (.putfield 19, 3) := by decide +kernel
theorem dX4_read_14 : decode cX4_read 14 = .ok (.aload_n 0, 1) := by decide +kernel
theorem dX4_read_15 : decode cX4_read 15 = .ok (.iconst 0, 1) := by decide +kernel
theorem dX4_read_16 : decode cX4_read 16 = .ok (.putfield 43, 3) := by decide +kernel
theorem dX4_read_19 : decode cX4_read 19 = .ok (.aload_n 0, 1) := by decide +kernel
theorem dX4_read_20 : decode cX4_read 20 = .ok (.iconst 0, 1) := by decide +kernel
theorem dX4_read_21 : decode cX4_read 21 = .ok (.putfield 22, 3) := by decide +kernel
theorem dX4_read_24 : decode cX4_read 24 = .ok (.iconst 0, 1) := by decide +kernel
theorem dX4_read_25 : decode cX4_read 25 = .ok (.istore 4, 2) := by decide +kernel
theorem dX4_read_27 : decode cX4_read 27 = .ok (.iload 4, 2) := by decide +kernel
theorem dX4_read_29 : decode cX4_read 29 = .ok (.iload_n 2, 1) := by decide +kernel
theorem dX4_read_30 : decode cX4_read 30 = .ok (.if_icmp .gt 50, 3) := by decide +kernel
theorem dX4_read_33 : decode cX4_read 33 = .ok (.aload_n 0, 1) := by decide +kernel
theorem dX4_read_34 : decode cX4_read 34 = .ok (.aload_n 1, 1) := by decide +kernel
theorem dX4_read_35 : decode cX4_read 35 = .ok (.iload_n 2, 1) := by decide +kernel
theorem dX4_read_36 : decode cX4_read 36 = .ok (.invokevirtual 51, 3) := by decide +kernel
theorem dX4_read_39 : decode cX4_read 39 = .ok (.aload_n 0, 1) := by decide +kernel
theorem dX4_read_40 : decode cX4_read 40 = .ok (.getfield 34, 3) := by decide +kernel
theorem dX4_read_43 : decode cX4_read 43 = .ok (.bipush 19, 2) := by decide +kernel
theorem dX4_read_45 : decode cX4_read 45 = .ok (.if_icmp .ne 16, 3) := by decide +kernel
theorem dX4_read_48 : decode cX4_read 48 = .ok (.aload_n 0, 1) := by decide +kernel
theorem dX4_read_49 : decode cX4_read 49 = .ok (.getfield 22, 3) := by decide +kernel
theorem dX4_read_52 : decode cX4_read 52 = .ok (.ifCond .ne 7, 3) := by decide +kernel
theorem dX4_read_55 : decode cX4_read 55 = .ok (.iconst (-1), 1) := by decide +kernel
theorem dX4_read_56 : decode cX4_read 56 = .ok (.goto 4, 3) := by decide +kernel
theorem dX4_read_59 : decode cX4_read 59 = .ok (.iload_n 2, 1) := by decide +kernel
theorem dX4_read_60 : decode cX4_read 60 = .ok (.ireturn, 1) := by decide +kernel
theorem dX4_read_61 : decode cX4_read 61 = .ok (.aload_n 0, 1) := by decide +kernel
theorem dX4_read_62 : decode cX4_read 62 = .ok (.aload_n 3, 1) := by decide +kernel
theorem dX4_read_63 : decode cX4_read 63 = .ok (.invokevirtual 55, 3) := by decide +kernel
theorem dX4_read_66 : decode cX4_read 66 = .ok (.ifCond .ne 8, 3) := by decide +kernel
theorem dX4_read_69 : decode cX4_read 69 = .ok (.aload_n 0, 1) := by decide +kernel
theorem dX4_read_70 : decode cX4_read 70 = .ok (.getfield 37, 3) := by decide +kernel
theorem dX4_read_73 : decode cX4_read 73 = .ok (.ireturn, 1) := by decide +kernel
theorem dX4_read_74 : decode cX4_read 74 = .ok (.iinc 4 1, 3) := by decide +kernel
theorem dX4_read_77 : decode cX4_read 77 = .ok (.goto (-50), 3) := by decide +kernel
theorem dX4_read_80 : decode cX4_read 80 = .ok (.iconst (-1), 1) := by decide +kernel
theorem dX4_read_81 : decode cX4_read 81 = .ok (.ireturn, 1) := by decide +kernel
theorem dX4_advance_0 : decode cX4_advance 0 = .ok (.aload_n 0, 1) := by decide +kernel
theorem dX4_advance_1 : decode cX4_advance 1 = .ok (.getfield 43, 3) := by decide +kernel
theorem dX4_advance_4 : decode cX4_advance 4 = .ok (.iload_n 2, 1) := by decide +kernel
theorem dX4_advance_5 : decode cX4_advance 5 = .ok (.if_icmp .ge 27, 3) := by decide +kernel
theorem dX4_advance_8 : decode cX4_advance 8 = .ok (.aload_n 1, 1) := by decide +kernel
theorem dX4_advance_9 : decode cX4_advance 9 = .ok (.aload_n 0, 1) := by decide +kernel
theorem dX4_advance_10 : decode cX4_advance 10 = .ok (.getfield 43, 3) := by decide +kernel
theorem dX4_advance_13 : decode cX4_advance 13 = .ok (.iaload, 1) := by decide +kernel
theorem dX4_advance_14 : decode cX4_advance 14 = .ok (.bipush 32, 2) := by decide +kernel
theorem dX4_advance_16 : decode cX4_advance 16 = .ok (.if_icmp .ne 16, 3) := by decide +kernel
theorem dX4_advance_19 : decode cX4_advance 19 = .ok (.aload_n 0, 1) := by decide +kernel
theorem dX4_advance_20 : decode cX4_advance 20 = .ok (.dup, 1) := by decide +kernel
theorem dX4_advance_21 : decode cX4_advance 21 = .ok (.getfield 43, 3) := by decide +kernel
theorem dX4_advance_24 : decode cX4_advance 24 = .ok (.iconst 1, 1) := by decide +kernel
theorem dX4_advance_25 : decode cX4_advance 25 = .ok (.iadd, 1) := by decide +kernel
theorem dX4_advance_26 : decode cX4_advance 26 = .ok (.putfield 43, 3) := by decide +kernel
theorem dX4_advance_29 : decode cX4_advance 29 = .ok (.goto (-29), 3) := by decide +kernel
theorem dX4_advance_32 : decode cX4_advance 32 = .ok (.aload_n 0, 1) := by decide +kernel
theorem dX4_advance_33 : decode cX4_advance 33 = .ok (.aload_n 0, 1) := by decide +kernel
theorem dX4_advance_34 : decode cX4_advance 34 = .ok (.getfield 43, 3) := by decide +kernel
theorem dX4_advance_37 : decode cX4_advance 37 = .ok (.putfield 37, 3) := by decide +kernel
theorem dX4_advance_40 : decode cX4_advance 40 = .ok (.aload_n 0, 1) := by decide +kernel
theorem dX4_advance_41 : decode cX4_advance 41 = .ok (.getfield 43, 3) := by decide +kernel
theorem dX4_advance_44 : decode cX4_advance 44 = .ok (.iload_n 2, 1) := by decide +kernel
theorem dX4_advance_45 : decode cX4_advance 45 = .ok (.if_icmp .lt 12, 3) := by decide +kernel
theorem dX4_advance_48 : decode cX4_advance 48 = .ok (.aload_n 0, 1) := by decide +kernel
theorem dX4_advance_49 : decode cX4_advance 49 = .ok (.bipush 19, 2) := by decide +kernel
theorem dX4_advance_51 : decode cX4_advance 51 = .ok (.putfield 34, 3) := by decide +kernel
theorem dX4_advance_54 : decode cX4_advance 54 = .ok (.goto 117, 3) := by decide +kernel
theorem dX4_advance_57 : decode cX4_advance 57 = .ok (.aload_n 1, 1) := by decide +kernel
theorem dX4_advance_58 : decode cX4_advance 58 = .ok (.aload_n 0, 1) := by decide +kernel
theorem dX4_advance_59 : decode cX4_advance 59 = .ok (.getfield 43, 3) := by decide +kernel
theorem dX4_advance_62 : decode cX4_advance 62 = .ok (.iaload, 1) := by decide +kernel
theorem dX4_advance_63 : decode cX4_advance 63 = .ok (.invokestatic 59, 3) := by decide +kernel
theorem dX4_advance_66 : decode cX4_advance 66 = .ok (.ifCond .eq 60, 3) := by decide +kernel
theorem dX4_advance_69 : decode cX4_advance 69 = .ok (.aload_n 0, 1) := by decide +kernel
theorem dX4_advance_70 : decode cX4_advance 70 = .ok (.getfield 43, 3) := by decide +kernel
theorem dX4_advance_73 : decode cX4_advance 73 = .ok (.iload_n 2, 1) := by decide +kernel
theorem dX4_advance_74 : decode cX4_advance 74 = .ok (.if_icmp .ge 28, 3) := by decide +kernel
theorem dX4_advance_77 : decode cX4_advance 77 = .ok (.aload_n 1, 1) := by decide +kernel
theorem dX4_advance_78 : decode cX4_advance 78 = .ok (.aload_n 0, 1) := by decide +kernel
theorem dX4_advance_79 : decode cX4_advance 79 = .ok (.getfield 43, 3) := by decide +kernel
theorem dX4_advance_82 : decode cX4_advance 82 = .ok (.iaload, 1) := by decide +kernel
theorem dX4_advance_83 : decode cX4_advance 83 = .ok (.invokestatic 59, 3) := by decide +kernel
theorem dX4_advance_86 : decode cX4_advance 86 = .ok (.ifCond .eq 16, 3) := by decide +kernel
theorem dX4_advance_89 : decode cX4_advance 89 = .ok (.aload_n 0, 1) := by decide +kernel
theorem dX4_advance_90 : decode cX4_advance 90 = .ok (.dup, 1) := by decide +kernel
theorem dX4_advance_91 : decode cX4_advance 91 = .ok (.getfield 43, 3) := by decide +kernel
theorem dX4_advance_94 : decode cX4_advance 94 = .ok (.iconst 1, 1) := by decide +kernel
theorem dX4_advance_95 : decode cX4_advance 95 = .ok (.iadd, 1) := by decide +kernel
theorem dX4_advance_96 : decode cX4_advance 96 = .ok (.putfield 43, 3) := by decide +kernel
theorem dX4_advance_99 : decode cX4_advance 99 = .ok (.goto (-30), 3) := by decide +kernel
theorem dX4_advance_102 : decode cX4_advance 102 = .ok (.aload_n 0, 1) := by decide +kernel
theorem dX4_advance_103 : decode cX4_advance 103 = .ok (.aload_n 1, 1) := by decide +kernel
theorem dX4_advance_104 : decode cX4_advance 104 = .ok (.aload_n 0, 1) := by decide +kernel
theorem dX4_advance_105 : decode cX4_advance 105 = .ok (.getfield 37, 3) := by decide +kernel
theorem dX4_advance_108 : decode cX4_advance 108 = .ok (.aload_n 0, 1) := by decide +kernel
theorem dX4_advance_109 : decode cX4_advance 109 = .ok (.getfield 43, 3) := by decide +kernel
theorem dX4_advance_112 : decode cX4_advance 112 = .ok (.aload_n 0, 1) := by decide +kernel
theorem dX4_advance_113 : decode cX4_advance 113 = .ok (.getfield 37, 3) := by decide +kernel
theorem dX4_advance_116 : decode cX4_advance 116 = .ok (.isub, 1) := by decide +kernel
theorem dX4_advance_117 : decode cX4_advance 117 = .ok (.invokestatic 63, 3) := by decide +kernel
theorem dX4_advance_120 : decode cX4_advance 120 = .ok (.putfield 34, 3) := by decide +kernel
theorem dX4_advance_123 : decode cX4_advance 123 = .ok (.goto 48, 3) := by decide +kernel
theorem dX4_advance_126 : decode cX4_advance 126 = .ok (.aload_n 1, 1) := by decide +kernel
theorem dX4_advance_127 : decode cX4_advance 127 = .ok (.aload_n 0, 1) := by decide +kernel
theorem dX4_advance_128 : decode cX4_advance 128 = .ok (.getfield 43, 3) := by decide +kernel
theorem dX4_advance_131 : decode cX4_advance 131 = .ok (.iaload, 1) := by decide +kernel
theorem dX4_advance_132 : decode cX4_advance 132 = .ok (.invokestatic 67, 3) := by decide +kernel
theorem dX4_advance_135 : decode cX4_advance 135 = .ok (.ifCond .eq 12, 3) := by decide +kernel
theorem dX4_advance_138 : decode cX4_advance 138 = .ok (.aload_n 0, 1) := by decide +kernel
theorem dX4_advance_139 : decode cX4_advance 139 = .ok (.aload_n 1, 1) := by decide +kernel
theorem dX4_advance_140 : decode cX4_advance 140 = .ok (.iload_n 2, 1) := by decide +kernel
theorem dX4_advance_141 : decode cX4_advance 141 = .ok (.invokevirtual 70, 3) := by decide +kernel
theorem dX4_advance_144 : decode cX4_advance 144 = .ok (.goto 27, 3) := by decide +kernel
theorem dX4_advance_147 : decode cX4_advance 147 = .ok (.aload_n 0, 1) := by decide +kernel
theorem dX4_advance_148 : decode cX4_advance 148 = .ok (.sipush 256, 3) := by decide +kernel
theorem dX4_advance_151 : decode cX4_advance 151 = .ok (.aload_n 1, 1) := by decide +kernel
theorem dX4_advance_152 : decode cX4_advance 152 = .ok (.aload_n 0, 1) := by decide +kernel
theorem dX4_advance_153 : decode cX4_advance 153 = .ok (.getfield 43, 3) := by decide +kernel
theorem dX4_advance_156 : decode cX4_advance 156 = .ok (.iaload, 1) := by decide +kernel
theorem dX4_advance_157 : decode cX4_advance 157 = .ok (.iadd, 1) := by decide +kernel
theorem dX4_advance_158 : decode cX4_advance 158 = .ok (.putfield 34, 3) := by decide +kernel
theorem dX4_advance_161 : decode cX4_advance 161 = .ok (.aload_n 0, 1) := by decide +kernel
theorem dX4_advance_162 : decode cX4_advance 162 = .ok (.dup, 1) := by decide +kernel
theorem dX4_advance_163 : decode cX4_advance 163 = .ok (.getfield 43, 3) := by decide +kernel
theorem dX4_advance_166 : decode cX4_advance 166 = .ok (.iconst 1, 1) := by decide +kernel
theorem dX4_advance_167 : decode cX4_advance 167 = .ok (.iadd, 1) := by decide +kernel
theorem dX4_advance_168 : decode cX4_advance 168 = .ok (.putfield 43, 3) := by decide +kernel
theorem dX4_advance_171 : decode cX4_advance 171 = .ok (.return_, 1) := by decide +kernel
theorem dX4_advanceDigits_0 : decode cX4_advanceDigits 0 = .ok (.aload_n 0, 1) := by decide +kernel
theorem dX4_advanceDigits_1 : decode cX4_advanceDigits 1 = .ok (.iconst 0, 1) := by decide +kernel
theorem dX4_advanceDigits_2 : decode cX4_advanceDigits 2 = .ok (.putfield 40, 3) := by decide +kernel
theorem dX4_advanceDigits_5 : decode cX4_advanceDigits 5 = .ok (.aload_n 0, 1) := by decide +kernel
theorem dX4_advanceDigits_6 : decode cX4_advanceDigits 6 = .ok (.getfield 43, 3) := by decide +kernel
theorem dX4_advanceDigits_9 : decode cX4_advanceDigits 9 = .ok (.iload_n 2, 1) := by decide +kernel
theorem dX4_advanceDigits_10 : decode cX4_advanceDigits 10 = .ok (.if_icmp .ge 49, 3) := by decide +kernel
theorem dX4_advanceDigits_13 : decode cX4_advanceDigits 13 = .ok (.aload_n 1, 1) := by decide +kernel
theorem dX4_advanceDigits_14 : decode cX4_advanceDigits 14 = .ok (.aload_n 0, 1) := by decide +kernel
theorem dX4_advanceDigits_15 : decode cX4_advanceDigits 15 = .ok (.getfield 43, 3) := by decide +kernel
theorem dX4_advanceDigits_18 : decode cX4_advanceDigits 18 = .ok (.iaload, 1) := by decide +kernel
theorem dX4_advanceDigits_19 : decode cX4_advanceDigits 19 = .ok (.invokestatic 67, 3) := by decide +kernel
theorem dX4_advanceDigits_22 : decode cX4_advanceDigits 22 = .ok (.ifCond .eq 37, 3) := by decide +kernel
theorem dX4_advanceDigits_25 : decode cX4_advanceDigits 25 = .ok (.aload_n 0, 1) := by decide +kernel
theorem dX4_advanceDigits_26 : decode cX4_advanceDigits 26 = .ok (.aload_n 0, 1) := by decide +kernel
theorem dX4_advanceDigits_27 : decode cX4_advanceDigits 27 = .ok (.getfield 40, 3) := by decide +kernel
theorem dX4_advanceDigits_30 : decode cX4_advanceDigits 30 = .ok (.bipush 10, 2) := by decide +kernel
theorem dX4_advanceDigits_32 : decode cX4_advanceDigits 32 = .ok (.imul, 1) := by decide +kernel
theorem dX4_advanceDigits_33 : decode cX4_advanceDigits 33 = .ok (.aload_n 1, 1) := by decide +kernel
theorem dX4_advanceDigits_34 : decode cX4_advanceDigits 34 = .ok (.aload_n 0, 1) := by decide +kernel
theorem dX4_advanceDigits_35 : decode cX4_advanceDigits 35 = .ok (.getfield 43, 3) := by decide +kernel
theorem dX4_advanceDigits_38 : decode cX4_advanceDigits 38 = .ok (.iaload, 1) := by decide +kernel
theorem dX4_advanceDigits_39 : decode cX4_advanceDigits 39 = .ok (.iadd, 1) := by decide +kernel
theorem dX4_advanceDigits_40 : decode cX4_advanceDigits 40 = .ok (.bipush 48, 2) := by decide +kernel
theorem dX4_advanceDigits_42 : decode cX4_advanceDigits 42 = .ok (.isub, 1) := by decide +kernel
theorem dX4_advanceDigits_43 : decode cX4_advanceDigits 43 = .ok (.putfield 40, 3) := by decide +kernel
theorem dX4_advanceDigits_46 : decode cX4_advanceDigits 46 = .ok (.aload_n 0, 1) := by decide +kernel
theorem dX4_advanceDigits_47 : decode cX4_advanceDigits 47 = .ok (.dup, 1) := by decide +kernel
theorem dX4_advanceDigits_48 : decode cX4_advanceDigits 48 = .ok (.getfield 43, 3) := by decide +kernel
theorem dX4_advanceDigits_51 : decode cX4_advanceDigits 51 = .ok (.iconst 1, 1) := by decide +kernel
theorem dX4_advanceDigits_52 : decode cX4_advanceDigits 52 = .ok (.iadd, 1) := by decide +kernel
theorem dX4_advanceDigits_53 : decode cX4_advanceDigits 53 = .ok (.putfield 43, 3) := by decide +kernel
theorem dX4_advanceDigits_56 : decode cX4_advanceDigits 56 = .ok (.goto (-51), 3) := by decide +kernel
theorem dX4_advanceDigits_59 : decode cX4_advanceDigits 59 = .ok (.aload_n 0, 1) := by decide +kernel
theorem dX4_advanceDigits_60 : decode cX4_advanceDigits 60 = .ok (.aload_n 0, 1) := by decide +kernel
theorem dX4_advanceDigits_61 : decode cX4_advanceDigits 61 = .ok (.getfield 43, 3) := by decide +kernel
theorem dX4_advanceDigits_64 : decode cX4_advanceDigits 64 = .ok (.aload_n 0, 1) := by decide +kernel
theorem dX4_advanceDigits_65 : decode cX4_advanceDigits 65 = .ok (.getfield 37, 3) := by decide +kernel
theorem dX4_advanceDigits_68 : decode cX4_advanceDigits 68 = .ok (.isub, 1) := by decide +kernel
theorem dX4_advanceDigits_69 : decode cX4_advanceDigits 69 = .ok (.iconst 4, 1) := by decide +kernel
theorem dX4_advanceDigits_70 : decode cX4_advanceDigits 70 = .ok (.if_icmp .gt 8, 3) := by decide +kernel
theorem dX4_advanceDigits_73 : decode cX4_advanceDigits 73 = .ok (.bipush 18, 2) := by decide +kernel
theorem dX4_advanceDigits_75 : decode cX4_advanceDigits 75 = .ok (.goto 5, 3) := by decide +kernel
theorem dX4_advanceDigits_78 : decode cX4_advanceDigits 78 = .ok (.bipush 20, 2) := by decide +kernel
theorem dX4_advanceDigits_80 : decode cX4_advanceDigits 80 = .ok (.putfield 34, 3) := by decide +kernel
theorem dX4_advanceDigits_83 : decode cX4_advanceDigits 83 = .ok (.return_, 1) := by decide +kernel
theorem dX4_isLetter_0 : decode cX4_isLetter 0 = .ok (.iload_n 0, 1) := by decide +kernel
theorem dX4_isLetter_1 : decode cX4_isLetter 1 = .ok (.bipush 97, 2) := by decide +kernel
theorem dX4_isLetter_3 : decode cX4_isLetter 3 = .ok (.if_icmp .lt 13, 3) := by decide +kernel
theorem dX4_isLetter_6 : decode cX4_isLetter 6 = .ok (.iload_n 0, 1) := by decide +kernel
theorem dX4_isLetter_7 : decode cX4_isLetter 7 = .ok (.bipush 122, 2) := by decide +kernel
theorem dX4_isLetter_9 : decode cX4_isLetter 9 = .ok (.if_icmp .gt 7, 3) := by decide +kernel
theorem dX4_isLetter_12 : decode cX4_isLetter 12 = .ok (.iconst 1, 1) := by decide +kernel
theorem dX4_isLetter_13 : decode cX4_isLetter 13 = .ok (.goto 4, 3) := by decide +kernel
theorem dX4_isLetter_16 : decode cX4_isLetter 16 = .ok (.iconst 0, 1) := by decide +kernel
theorem dX4_isLetter_17 : decode cX4_isLetter 17 = .ok (.ireturn, 1) := by decide +kernel
theorem dX4_isDigit_0 : decode cX4_isDigit 0 = .ok (.iload_n 0, 1) := by decide +kernel
theorem dX4_isDigit_1 : decode cX4_isDigit 1 = .ok (.bipush 48, 2) := by decide +kernel
theorem dX4_isDigit_3 : decode cX4_isDigit 3 = .ok (.if_icmp .lt 13, 3) := by decide +kernel
theorem dX4_isDigit_6 : decode cX4_isDigit 6 = .ok (.iload_n 0, 1) := by decide +kernel
theorem dX4_isDigit_7 : decode cX4_isDigit 7 = .ok (.bipush 57, 2) := by decide +kernel
theorem dX4_isDigit_9 : decode cX4_isDigit 9 = .ok (.if_icmp .gt 7, 3) := by decide +kernel
theorem dX4_isDigit_12 : decode cX4_isDigit 12 = .ok (.iconst 1, 1) := by decide +kernel
theorem dX4_isDigit_13 : decode cX4_isDigit 13 = .ok (.goto 4, 3) := by decide +kernel
theorem dX4_isDigit_16 : decode cX4_isDigit 16 = .ok (.iconst 0, 1) := by decide +kernel
theorem dX4_isDigit_17 : decode cX4_isDigit 17 = .ok (.ireturn, 1) := by decide +kernel
theorem dX4_wordOf_0 : decode cX4_wordOf 0 = .ok (.iconst 0, 1) := by decide +kernel
theorem dX4_wordOf_1 : decode cX4_wordOf 1 = .ok (.istore_n 3, 1) := by decide +kernel
theorem dX4_wordOf_2 : decode cX4_wordOf 2 = .ok (.iconst 0, 1) := by decide +kernel
theorem dX4_wordOf_3 : decode cX4_wordOf 3 = .ok (.istore 4, 2) := by decide +kernel
theorem dX4_wordOf_5 : decode cX4_wordOf 5 = .ok (.iconst 1, 1) := by decide +kernel
theorem dX4_wordOf_6 : decode cX4_wordOf 6 = .ok (.istore 5, 2) := by decide +kernel
theorem dX4_wordOf_8 : decode cX4_wordOf 8 = .ok (.iconst 0, 1) := by decide +kernel
theorem dX4_wordOf_9 : decode cX4_wordOf 9 = .ok (.istore 6, 2) := by decide +kernel
theorem dX4_wordOf_11 : decode cX4_wordOf 11 = .ok (.iload 6, 2) := by decide +kernel
theorem dX4_wordOf_13 : decode cX4_wordOf 13 = .ok (.ldc 73, 2) := by decide +kernel
theorem dX4_wordOf_15 : decode cX4_wordOf 15 = .ok (.invokevirtual 75, 3) := by decide +kernel
theorem dX4_wordOf_18 : decode cX4_wordOf 18 = .ok (.if_icmp .ge 82, 3) := by decide +kernel
theorem dX4_wordOf_21 : decode cX4_wordOf 21 = .ok (.ldc 73, 2) := by decide +kernel
theorem dX4_wordOf_23 : decode cX4_wordOf 23 = .ok (.iload 6, 2) := by decide +kernel
theorem dX4_wordOf_25 : decode cX4_wordOf 25 = .ok (.invokevirtual 81, 3) := by decide +kernel
theorem dX4_wordOf_28 : decode cX4_wordOf 28 = .ok (.istore 7, 2) := by decide +kernel
theorem dX4_wordOf_30 : decode cX4_wordOf 30 = .ok (.iload 7, 2) := by decide +kernel
theorem dX4_wordOf_32 : decode cX4_wordOf 32 = .ok (.bipush 32, 2) := by decide +kernel
theorem dX4_wordOf_34 : decode cX4_wordOf 34 = .ok (.if_icmp .eq 38, 3) := by decide +kernel
theorem dX4_wordOf_37 : decode cX4_wordOf 37 = .ok (.iload 5, 2) := by decide +kernel
theorem dX4_wordOf_39 : decode cX4_wordOf 39 = .ok (.ifCond .eq 24, 3) := by decide +kernel
theorem dX4_wordOf_42 : decode cX4_wordOf 42 = .ok (.iload 4, 2) := by decide +kernel
theorem dX4_wordOf_44 : decode cX4_wordOf 44 = .ok (.iload_n 2, 1) := by decide +kernel
theorem dX4_wordOf_45 : decode cX4_wordOf 45 = .ok (.if_icmp .ge 18, 3) := by decide +kernel
theorem dX4_wordOf_48 : decode cX4_wordOf 48 = .ok (.aload_n 0, 1) := by decide +kernel
theorem dX4_wordOf_49 : decode cX4_wordOf 49 = .ok (.iload_n 1, 1) := by decide +kernel
theorem dX4_wordOf_50 : decode cX4_wordOf 50 = .ok (.iload 4, 2) := by decide +kernel
theorem dX4_wordOf_52 : decode cX4_wordOf 52 = .ok (.iadd, 1) := by decide +kernel
theorem dX4_wordOf_53 : decode cX4_wordOf 53 = .ok (.iaload, 1) := by decide +kernel
theorem dX4_wordOf_54 : decode cX4_wordOf 54 = .ok (.iload 7, 2) := by decide +kernel
theorem dX4_wordOf_56 : decode cX4_wordOf 56 = .ok (.if_icmp .ne 7, 3) := by decide +kernel
theorem dX4_wordOf_59 : decode cX4_wordOf 59 = .ok (.iconst 1, 1) := by decide +kernel
theorem dX4_wordOf_60 : decode cX4_wordOf 60 = .ok (.goto 4, 3) := by decide +kernel
theorem dX4_wordOf_63 : decode cX4_wordOf 63 = .ok (.iconst 0, 1) := by decide +kernel
theorem dX4_wordOf_64 : decode cX4_wordOf 64 = .ok (.istore 5, 2) := by decide +kernel
theorem dX4_wordOf_66 : decode cX4_wordOf 66 = .ok (.iinc 4 1, 3) := by decide +kernel
theorem dX4_wordOf_69 : decode cX4_wordOf 69 = .ok (.goto 25, 3) := by decide +kernel
theorem dX4_wordOf_72 : decode cX4_wordOf 72 = .ok (.iload 5, 2) := by decide +kernel
theorem dX4_wordOf_74 : decode cX4_wordOf 74 = .ok (.ifCond .eq 11, 3) := by decide +kernel
theorem dX4_wordOf_77 : decode cX4_wordOf 77 = .ok (.iload 4, 2) := by decide +kernel
theorem dX4_wordOf_79 : decode cX4_wordOf 79 = .ok (.iload_n 2, 1) := by decide +kernel
theorem dX4_wordOf_80 : decode cX4_wordOf 80 = .ok (.if_icmp .ne 5, 3) := by decide +kernel
theorem dX4_wordOf_83 : decode cX4_wordOf 83 = .ok (.iload_n 3, 1) := by decide +kernel
theorem dX4_wordOf_84 : decode cX4_wordOf 84 = .ok (.ireturn, 1) := by decide +kernel
theorem dX4_wordOf_85 : decode cX4_wordOf 85 = .ok (.iinc 3 1, 3) := by decide +kernel
theorem dX4_wordOf_88 : decode cX4_wordOf 88 = .ok (.iconst 0, 1) := by decide +kernel
theorem dX4_wordOf_89 : decode cX4_wordOf 89 = .ok (.istore 4, 2) := by decide +kernel
theorem dX4_wordOf_91 : decode cX4_wordOf 91 = .ok (.iconst 1, 1) := by decide +kernel
theorem dX4_wordOf_92 : decode cX4_wordOf 92 = .ok (.istore 5, 2) := by decide +kernel
theorem dX4_wordOf_94 : decode cX4_wordOf 94 = .ok (.iinc 6 1, 3) := by decide +kernel
theorem dX4_wordOf_97 : decode cX4_wordOf 97 = .ok (.goto (-86), 3) := by decide +kernel
theorem dX4_wordOf_100 : decode cX4_wordOf 100 = .ok (.bipush 20, 2) := by decide +kernel
theorem dX4_wordOf_102 : decode cX4_wordOf 102 = .ok (.ireturn, 1) := by decide +kernel
theorem dX4_accepts_0 : decode cX4_accepts 0 = .ok (.aload_n 0, 1) := by decide +kernel
theorem dX4_accepts_1 : decode cX4_accepts 1 = .ok (.getfield 22, 3) := by decide +kernel
theorem dX4_accepts_4 : decode cX4_accepts 4 = .ok (.tableswitch 91 0 5 #[40, 46, 69, 74, 79, 85], 40) := by decide +kernel
theorem dX4_accepts_44 : decode cX4_accepts 44 = .ok (.aload_n 0, 1) := by decide +kernel
theorem dX4_accepts_45 : decode cX4_accepts 45 = .ok (.aload_n 1, 1) := by decide +kernel
theorem dX4_accepts_46 : decode cX4_accepts 46 = .ok (.invokevirtual 85, 3) := by decide +kernel
theorem dX4_accepts_49 : decode cX4_accepts 49 = .ok (.ireturn, 1) := by decide +kernel
theorem dX4_accepts_50 : decode cX4_accepts 50 = .ok (.aload_n 0, 1) := by decide +kernel
theorem dX4_accepts_51 : decode cX4_accepts 51 = .ok (.getfield 34, 3) := by decide +kernel
theorem dX4_accepts_54 : decode cX4_accepts 54 = .ok (.bipush 9, 2) := by decide +kernel
theorem dX4_accepts_56 : decode cX4_accepts 56 = .ok (.if_icmp .ne 11, 3) := by decide +kernel
theorem dX4_accepts_59 : decode cX4_accepts 59 = .ok (.aload_n 0, 1) := by decide +kernel
theorem dX4_accepts_60 : decode cX4_accepts 60 = .ok (.iconst 2, 1) := by decide +kernel
theorem dX4_accepts_61 : decode cX4_accepts 61 = .ok (.invokevirtual 88, 3) := by decide +kernel
theorem dX4_accepts_64 : decode cX4_accepts 64 = .ok (.goto 8, 3) := by decide +kernel
theorem dX4_accepts_67 : decode cX4_accepts 67 = .ok (.aload_n 0, 1) := by decide +kernel
theorem dX4_accepts_68 : decode cX4_accepts 68 = .ok (.aload_n 1, 1) := by decide +kernel
theorem dX4_accepts_69 : decode cX4_accepts 69 = .ok (.invokevirtual 91, 3) := by decide +kernel
theorem dX4_accepts_72 : decode cX4_accepts 72 = .ok (.ireturn, 1) := by decide +kernel
theorem dX4_accepts_73 : decode cX4_accepts 73 = .ok (.aload_n 0, 1) := by decide +kernel
theorem dX4_accepts_74 : decode cX4_accepts 74 = .ok (.invokevirtual 94, 3) := by decide +kernel
theorem dX4_accepts_77 : decode cX4_accepts 77 = .ok (.ireturn, 1) := by decide +kernel
theorem dX4_accepts_78 : decode cX4_accepts 78 = .ok (.aload_n 0, 1) := by decide +kernel
theorem dX4_accepts_79 : decode cX4_accepts 79 = .ok (.invokevirtual 98, 3) := by decide +kernel
theorem dX4_accepts_82 : decode cX4_accepts 82 = .ok (.ireturn, 1) := by decide +kernel
theorem dX4_accepts_83 : decode cX4_accepts 83 = .ok (.aload_n 0, 1) := by decide +kernel
theorem dX4_accepts_84 : decode cX4_accepts 84 = .ok (.aload_n 1, 1) := by decide +kernel
theorem dX4_accepts_85 : decode cX4_accepts 85 = .ok (.invokevirtual 101, 3) := by decide +kernel
theorem dX4_accepts_88 : decode cX4_accepts 88 = .ok (.ireturn, 1) := by decide +kernel
theorem dX4_accepts_89 : decode cX4_accepts 89 = .ok (.aload_n 0, 1) := by decide +kernel
theorem dX4_accepts_90 : decode cX4_accepts 90 = .ok (.aload_n 1, 1) := by decide +kernel
theorem dX4_accepts_91 : decode cX4_accepts 91 = .ok (.invokevirtual 104, 3) := by decide +kernel
theorem dX4_accepts_94 : decode cX4_accepts 94 = .ok (.ireturn, 1) := by decide +kernel
theorem dX4_accepts_95 : decode cX4_accepts 95 = .ok (.aload_n 0, 1) := by decide +kernel
theorem dX4_accepts_96 : decode cX4_accepts 96 = .ok (.getfield 34, 3) := by decide +kernel
theorem dX4_accepts_99 : decode cX4_accepts 99 = .ok (.sipush 315, 3) := by decide +kernel
theorem dX4_accepts_102 : decode cX4_accepts 102 = .ok (.if_icmp .ne 15, 3) := by decide +kernel
theorem dX4_accepts_105 : decode cX4_accepts 105 = .ok (.aload_n 0, 1) := by decide +kernel
theorem dX4_accepts_106 : decode cX4_accepts 106 = .ok (.iconst 0, 1) := by decide +kernel
theorem dX4_accepts_107 : decode cX4_accepts 107 = .ok (.invokevirtual 88, 3) := by decide +kernel
theorem dX4_accepts_110 : decode cX4_accepts 110 = .ok (.ifCond .eq 7, 3) := by decide +kernel
theorem dX4_accepts_113 : decode cX4_accepts 113 = .ok (.iconst 1, 1) := by decide +kernel
theorem dX4_accepts_114 : decode cX4_accepts 114 = .ok (.goto 4, 3) := by decide +kernel
theorem dX4_accepts_117 : decode cX4_accepts 117 = .ok (.iconst 0, 1) := by decide +kernel
theorem dX4_accepts_118 : decode cX4_accepts 118 = .ok (.ireturn, 1) := by decide +kernel
theorem dX4_expect_0 : decode cX4_expect 0 = .ok (.aload_n 0, 1) := by decide +kernel
theorem dX4_expect_1 : decode cX4_expect 1 = .ok (.iload_n 1, 1) := by decide +kernel
theorem dX4_expect_2 : decode cX4_expect 2 = .ok (.putfield 22, 3) := by decide +kernel
theorem dX4_expect_5 : decode cX4_expect 5 = .ok (.iconst 1, 1) := by decide +kernel
theorem dX4_expect_6 : decode cX4_expect 6 = .ok (.ireturn, 1) := by decide +kernel
theorem dX4_acceptsKind_0 : decode cX4_acceptsKind 0 = .ok (.aload_n 0, 1) := by decide +kernel
theorem dX4_acceptsKind_1 : decode cX4_acceptsKind 1 = .ok (.getfield 34, 3) := by decide +kernel
theorem dX4_acceptsKind_4 : decode cX4_acceptsKind 4 = .ok (.iconst 5, 1) := by decide +kernel
theorem dX4_acceptsKind_5 : decode cX4_acceptsKind 5 = .ok (.if_icmp .gt 12, 3) := by decide +kernel
theorem dX4_acceptsKind_8 : decode cX4_acceptsKind 8 = .ok (.aload_n 1, 1) := by decide +kernel
theorem dX4_acceptsKind_9 : decode cX4_acceptsKind 9 = .ok (.getfield 107, 3) := by decide +kernel
theorem dX4_acceptsKind_12 : decode cX4_acceptsKind 12 = .ok (.bipush 8, 2) := by decide +kernel
theorem dX4_acceptsKind_14 : decode cX4_acceptsKind 14 = .ok (.if_icmp .lt 5, 3) := by decide +kernel
theorem dX4_acceptsKind_17 : decode cX4_acceptsKind 17 = .ok (.iconst 0, 1) := by decide +kernel
theorem dX4_acceptsKind_18 : decode cX4_acceptsKind 18 = .ok (.ireturn, 1) := by decide +kernel
theorem dX4_acceptsKind_19 : decode cX4_acceptsKind 19 = .ok (.aload_n 0, 1) := by decide +kernel
theorem dX4_acceptsKind_20 : decode cX4_acceptsKind 20 = .ok (.aload_n 0, 1) := by decide +kernel
theorem dX4_acceptsKind_21 : decode cX4_acceptsKind 21 = .ok (.getfield 34, 3) := by decide +kernel
theorem dX4_acceptsKind_24 : decode cX4_acceptsKind 24 = .ok (.putfield 25, 3) := by decide +kernel
theorem dX4_acceptsKind_27 : decode cX4_acceptsKind 27 = .ok (.aload_n 0, 1) := by decide +kernel
theorem dX4_acceptsKind_28 : decode cX4_acceptsKind 28 = .ok (.iconst 1, 1) := by decide +kernel
theorem dX4_acceptsKind_29 : decode cX4_acceptsKind 29 = .ok (.invokevirtual 88, 3) := by decide +kernel
theorem dX4_acceptsKind_32 : decode cX4_acceptsKind 32 = .ok (.ireturn, 1) := by decide +kernel
theorem dX4_acceptsDo_0 : decode cX4_acceptsDo 0 = .ok (.aload_n 0, 1) := by decide +kernel
theorem dX4_acceptsDo_1 : decode cX4_acceptsDo 1 = .ok (.getfield 34, 3) := by decide +kernel
theorem dX4_acceptsDo_4 : decode cX4_acceptsDo 4 = .ok (.bipush 6, 2) := by decide +kernel
theorem dX4_acceptsDo_6 : decode cX4_acceptsDo 6 = .ok (.if_icmp .lt 12, 3) := by decide +kernel
theorem dX4_acceptsDo_9 : decode cX4_acceptsDo 9 = .ok (.aload_n 0, 1) := by decide +kernel
theorem dX4_acceptsDo_10 : decode cX4_acceptsDo 10 = .ok (.getfield 34, 3) := by decide +kernel
theorem dX4_acceptsDo_13 : decode cX4_acceptsDo 13 = .ok (.bipush 8, 2) := by decide +kernel
theorem dX4_acceptsDo_15 : decode cX4_acceptsDo 15 = .ok (.if_icmp .le 5, 3) := by decide +kernel
theorem dX4_acceptsDo_18 : decode cX4_acceptsDo 18 = .ok (.iconst 0, 1) := by decide +kernel
theorem dX4_acceptsDo_19 : decode cX4_acceptsDo 19 = .ok (.ireturn, 1) := by decide +kernel
theorem dX4_acceptsDo_20 : decode cX4_acceptsDo 20 = .ok (.aload_n 1, 1) := by decide +kernel
theorem dX4_acceptsDo_21 : decode cX4_acceptsDo 21 = .ok (.aload_n 0, 1) := by decide +kernel
theorem dX4_acceptsDo_22 : decode cX4_acceptsDo 22 = .ok (.getfield 25, 3) := by decide +kernel
theorem dX4_acceptsDo_25 : decode cX4_acceptsDo 25 = .ok (.aload_n 0, 1) := by decide +kernel
theorem dX4_acceptsDo_26 : decode cX4_acceptsDo 26 = .ok (.getfield 34, 3) := by decide +kernel
theorem dX4_acceptsDo_29 : decode cX4_acceptsDo 29 = .ok (.bipush 6, 2) := by decide +kernel
theorem dX4_acceptsDo_31 : decode cX4_acceptsDo 31 = .ok (.isub, 1) := by decide +kernel
theorem dX4_acceptsDo_32 : decode cX4_acceptsDo 32 = .ok (.invokevirtual 110, 3) := by decide +kernel
theorem dX4_acceptsDo_35 : decode cX4_acceptsDo 35 = .ok (.aload_n 0, 1) := by decide +kernel
theorem dX4_acceptsDo_36 : decode cX4_acceptsDo 36 = .ok (.bipush 6, 2) := by decide +kernel
theorem dX4_acceptsDo_38 : decode cX4_acceptsDo 38 = .ok (.invokevirtual 88, 3) := by decide +kernel
theorem dX4_acceptsDo_41 : decode cX4_acceptsDo 41 = .ok (.ireturn, 1) := by decide +kernel
theorem dX4_acceptsOne_0 : decode cX4_acceptsOne 0 = .ok (.aload_n 0, 1) := by decide +kernel
theorem dX4_acceptsOne_1 : decode cX4_acceptsOne 1 = .ok (.getfield 34, 3) := by decide +kernel
theorem dX4_acceptsOne_4 : decode cX4_acceptsOne 4 = .ok (.bipush 12, 2) := by decide +kernel
theorem dX4_acceptsOne_6 : decode cX4_acceptsOne 6 = .ok (.if_icmp .ne 10, 3) := by decide +kernel
theorem dX4_acceptsOne_9 : decode cX4_acceptsOne 9 = .ok (.aload_n 0, 1) := by decide +kernel
theorem dX4_acceptsOne_10 : decode cX4_acceptsOne 10 = .ok (.iconst 3, 1) := by decide +kernel
theorem dX4_acceptsOne_11 : decode cX4_acceptsOne 11 = .ok (.invokevirtual 114, 3) := by decide +kernel
theorem dX4_acceptsOne_14 : decode cX4_acceptsOne 14 = .ok (.iconst 1, 1) := by decide +kernel
theorem dX4_acceptsOne_15 : decode cX4_acceptsOne 15 = .ok (.ireturn, 1) := by decide +kernel
theorem dX4_acceptsOne_16 : decode cX4_acceptsOne 16 = .ok (.aload_n 0, 1) := by decide +kernel
theorem dX4_acceptsOne_17 : decode cX4_acceptsOne 17 = .ok (.getfield 34, 3) := by decide +kernel
theorem dX4_acceptsOne_20 : decode cX4_acceptsOne 20 = .ok (.sipush 296, 3) := by decide +kernel
theorem dX4_acceptsOne_23 : decode cX4_acceptsOne 23 = .ok (.if_icmp .ne 30, 3) := by decide +kernel
theorem dX4_acceptsOne_26 : decode cX4_acceptsOne 26 = .ok (.aload_n 0, 1) := by decide +kernel
theorem dX4_acceptsOne_27 : decode cX4_acceptsOne 27 = .ok (.getfield 19, 3) := by decide +kernel
theorem dX4_acceptsOne_30 : decode cX4_acceptsOne 30 = .ok (.iconst 3, 1) := by decide +kernel
theorem dX4_acceptsOne_31 : decode cX4_acceptsOne 31 = .ok (.if_icmp .lt 5, 3) := by decide +kernel
theorem dX4_acceptsOne_34 : decode cX4_acceptsOne 34 = .ok (.iconst 0, 1) := by decide +kernel
theorem dX4_acceptsOne_35 : decode cX4_acceptsOne 35 = .ok (.ireturn, 1) := by decide +kernel
theorem dX4_acceptsOne_36 : decode cX4_acceptsOne 36 = .ok (.aload_n 0, 1) := by decide +kernel
theorem dX4_acceptsOne_37 : decode cX4_acceptsOne 37 = .ok (.dup, 1) := by decide +kernel
theorem dX4_acceptsOne_38 : decode cX4_acceptsOne 38 = .ok (.getfield 19, 3) := by decide +kernel
theorem dX4_acceptsOne_41 : decode cX4_acceptsOne 41 = .ok (.iconst 1, 1) := by decide +kernel
theorem dX4_acceptsOne_42 : decode cX4_acceptsOne 42 = .ok (.iadd, 1) := by decide +kernel
theorem dX4_acceptsOne_43 : decode cX4_acceptsOne 43 = .ok (.putfield 19, 3) := by decide +kernel
theorem dX4_acceptsOne_46 : decode cX4_acceptsOne 46 = .ok (.aload_n 0, 1) := by decide +kernel
theorem dX4_acceptsOne_47 : decode cX4_acceptsOne 47 = .ok (.iconst 0, 1) := by decide +kernel
theorem dX4_acceptsOne_48 : decode cX4_acceptsOne 48 = .ok (.invokevirtual 114, 3) := by decide +kernel
theorem dX4_acceptsOne_51 : decode cX4_acceptsOne 51 = .ok (.iconst 1, 1) := by decide +kernel
theorem dX4_acceptsOne_52 : decode cX4_acceptsOne 52 = .ok (.ireturn, 1) := by decide +kernel
theorem dX4_acceptsOne_53 : decode cX4_acceptsOne 53 = .ok (.aload_n 0, 1) := by decide +kernel
theorem dX4_acceptsOne_54 : decode cX4_acceptsOne 54 = .ok (.aload_n 0, 1) := by decide +kernel
theorem dX4_acceptsOne_55 : decode cX4_acceptsOne 55 = .ok (.invokevirtual 118, 3) := by decide +kernel
theorem dX4_acceptsOne_58 : decode cX4_acceptsOne 58 = .ok (.putfield 28, 3) := by decide +kernel
theorem dX4_acceptsOne_61 : decode cX4_acceptsOne 61 = .ok (.aload_n 0, 1) := by decide +kernel
theorem dX4_acceptsOne_62 : decode cX4_acceptsOne 62 = .ok (.getfield 28, 3) := by decide +kernel
theorem dX4_acceptsOne_65 : decode cX4_acceptsOne 65 = .ok (.bipush (-3), 2) := by decide +kernel
theorem dX4_acceptsOne_67 : decode cX4_acceptsOne 67 = .ok (.if_icmp .eq 15, 3) := by decide +kernel
theorem dX4_acceptsOne_70 : decode cX4_acceptsOne 70 = .ok (.aload_n 0, 1) := by decide +kernel
theorem dX4_acceptsOne_71 : decode cX4_acceptsOne 71 = .ok (.iconst 3, 1) := by decide +kernel
theorem dX4_acceptsOne_72 : decode cX4_acceptsOne 72 = .ok (.invokevirtual 88, 3) := by decide +kernel
theorem dX4_acceptsOne_75 : decode cX4_acceptsOne 75 = .ok (.ifCond .eq 7, 3) := by decide +kernel
theorem dX4_acceptsOne_78 : decode cX4_acceptsOne 78 = .ok (.iconst 1, 1) := by decide +kernel
theorem dX4_acceptsOne_79 : decode cX4_acceptsOne 79 = .ok (.goto 4, 3) := by decide +kernel
theorem dX4_acceptsOne_82 : decode cX4_acceptsOne 82 = .ok (.iconst 0, 1) := by decide +kernel
theorem dX4_acceptsOne_83 : decode cX4_acceptsOne 83 = .ok (.ireturn, 1) := by decide +kernel
theorem dX4_acceptsSign_0 : decode cX4_acceptsSign 0 = .ok (.aload_n 0, 1) := by decide +kernel
theorem dX4_acceptsSign_1 : decode cX4_acceptsSign 1 = .ok (.getfield 34, 3) := by decide +kernel
theorem dX4_acceptsSign_4 : decode cX4_acceptsSign 4 = .ok (.tableswitch 53 316 318 #[28, 36, 44], 28) := by decide +kernel
theorem dX4_acceptsSign_32 : decode cX4_acceptsSign 32 = .ok (.aload_n 0, 1) := by decide +kernel
theorem dX4_acceptsSign_33 : decode cX4_acceptsSign 33 = .ok (.iconst 4, 1) := by decide +kernel
theorem dX4_acceptsSign_34 : decode cX4_acceptsSign 34 = .ok (.putfield 31, 3) := by decide +kernel
theorem dX4_acceptsSign_37 : decode cX4_acceptsSign 37 = .ok (.goto 22, 3) := by decide +kernel
theorem dX4_acceptsSign_40 : decode cX4_acceptsSign 40 = .ok (.aload_n 0, 1) := by decide +kernel
theorem dX4_acceptsSign_41 : decode cX4_acceptsSign 41 = .ok (.iconst 5, 1) := by decide +kernel
theorem dX4_acceptsSign_42 : decode cX4_acceptsSign 42 = .ok (.putfield 31, 3) := by decide +kernel
theorem dX4_acceptsSign_45 : decode cX4_acceptsSign 45 = .ok (.goto 14, 3) := by decide +kernel
theorem dX4_acceptsSign_48 : decode cX4_acceptsSign 48 = .ok (.aload_n 0, 1) := by decide +kernel
theorem dX4_acceptsSign_49 : decode cX4_acceptsSign 49 = .ok (.bipush 6, 2) := by decide +kernel
theorem dX4_acceptsSign_51 : decode cX4_acceptsSign 51 = .ok (.putfield 31, 3) := by decide +kernel
theorem dX4_acceptsSign_54 : decode cX4_acceptsSign 54 = .ok (.goto 5, 3) := by decide +kernel
theorem dX4_acceptsSign_57 : decode cX4_acceptsSign 57 = .ok (.iconst 0, 1) := by decide +kernel
theorem dX4_acceptsSign_58 : decode cX4_acceptsSign 58 = .ok (.ireturn, 1) := by decide +kernel
theorem dX4_acceptsSign_59 : decode cX4_acceptsSign 59 = .ok (.aload_n 0, 1) := by decide +kernel
theorem dX4_acceptsSign_60 : decode cX4_acceptsSign 60 = .ok (.iconst 4, 1) := by decide +kernel
theorem dX4_acceptsSign_61 : decode cX4_acceptsSign 61 = .ok (.invokevirtual 88, 3) := by decide +kernel
theorem dX4_acceptsSign_64 : decode cX4_acceptsSign 64 = .ok (.ireturn, 1) := by decide +kernel
theorem dX4_acceptsRight_0 : decode cX4_acceptsRight 0 = .ok (.aload_n 0, 1) := by decide +kernel
theorem dX4_acceptsRight_1 : decode cX4_acceptsRight 1 = .ok (.invokevirtual 118, 3) := by decide +kernel
theorem dX4_acceptsRight_4 : decode cX4_acceptsRight 4 = .ok (.istore_n 2, 1) := by decide +kernel
theorem dX4_acceptsRight_5 : decode cX4_acceptsRight 5 = .ok (.iload_n 2, 1) := by decide +kernel
theorem dX4_acceptsRight_6 : decode cX4_acceptsRight 6 = .ok (.bipush (-3), 2) := by decide +kernel
theorem dX4_acceptsRight_8 : decode cX4_acceptsRight 8 = .ok (.if_icmp .ne 5, 3) := by decide +kernel
theorem dX4_acceptsRight_11 : decode cX4_acceptsRight 11 = .ok (.iconst 0, 1) := by decide +kernel
theorem dX4_acceptsRight_12 : decode cX4_acceptsRight 12 = .ok (.ireturn, 1) := by decide +kernel
theorem dX4_acceptsRight_13 : decode cX4_acceptsRight 13 = .ok (.aload_n 1, 1) := by decide +kernel
theorem dX4_acceptsRight_14 : decode cX4_acceptsRight 14 = .ok (.aload_n 0, 1) := by decide +kernel
theorem dX4_acceptsRight_15 : decode cX4_acceptsRight 15 = .ok (.getfield 31, 3) := by decide +kernel
theorem dX4_acceptsRight_18 : decode cX4_acceptsRight 18 = .ok (.aload_n 0, 1) := by decide +kernel
theorem dX4_acceptsRight_19 : decode cX4_acceptsRight 19 = .ok (.getfield 28, 3) := by decide +kernel
theorem dX4_acceptsRight_22 : decode cX4_acceptsRight 22 = .ok (.iload_n 2, 1) := by decide +kernel
theorem dX4_acceptsRight_23 : decode cX4_acceptsRight 23 = .ok (.invokevirtual 121, 3) := by decide +kernel
theorem dX4_acceptsRight_26 : decode cX4_acceptsRight 26 = .ok (.aload_n 0, 1) := by decide +kernel
theorem dX4_acceptsRight_27 : decode cX4_acceptsRight 27 = .ok (.iconst 5, 1) := by decide +kernel
theorem dX4_acceptsRight_28 : decode cX4_acceptsRight 28 = .ok (.invokevirtual 88, 3) := by decide +kernel
theorem dX4_acceptsRight_31 : decode cX4_acceptsRight 31 = .ok (.ireturn, 1) := by decide +kernel
theorem dX4_acceptsBehindOne_0 : decode cX4_acceptsBehindOne 0 = .ok (.aload_n 0, 1) := by decide +kernel
theorem dX4_acceptsBehindOne_1 : decode cX4_acceptsBehindOne 1 = .ok (.getfield 34, 3) := by decide +kernel
theorem dX4_acceptsBehindOne_4 : decode cX4_acceptsBehindOne 4 = .ok (.bipush 10, 2) := by decide +kernel
theorem dX4_acceptsBehindOne_6 : decode cX4_acceptsBehindOne 6 = .ok (.if_icmp .eq 12, 3) := by decide +kernel
theorem dX4_acceptsBehindOne_9 : decode cX4_acceptsBehindOne 9 = .ok (.aload_n 0, 1) := by decide +kernel
theorem dX4_acceptsBehindOne_10 : decode cX4_acceptsBehindOne 10 = .ok (.getfield 34, 3) := by decide +kernel
theorem dX4_acceptsBehindOne_13 : decode cX4_acceptsBehindOne 13 = .ok (.bipush 11, 2) := by decide +kernel
theorem dX4_acceptsBehindOne_15 : decode cX4_acceptsBehindOne 15 = .ok (.if_icmp .ne 35, 3) := by decide +kernel
theorem dX4_acceptsBehindOne_18 : decode cX4_acceptsBehindOne 18 = .ok (.aload_n 0, 1) := by decide +kernel
theorem dX4_acceptsBehindOne_19 : decode cX4_acceptsBehindOne 19 = .ok (.getfield 34, 3) := by decide +kernel
theorem dX4_acceptsBehindOne_22 : decode cX4_acceptsBehindOne 22 = .ok (.bipush 10, 2) := by decide +kernel
theorem dX4_acceptsBehindOne_24 : decode cX4_acceptsBehindOne 24 = .ok (.if_icmp .ne 7, 3) := by decide +kernel
theorem dX4_acceptsBehindOne_27 : decode cX4_acceptsBehindOne 27 = .ok (.iconst 2, 1) := by decide +kernel
theorem dX4_acceptsBehindOne_28 : decode cX4_acceptsBehindOne 28 = .ok (.goto 4, 3) := by decide +kernel
theorem dX4_acceptsBehindOne_31 : decode cX4_acceptsBehindOne 31 = .ok (.iconst 1, 1) := by decide +kernel
theorem dX4_acceptsBehindOne_32 : decode cX4_acceptsBehindOne 32 = .ok (.istore_n 2, 1) := by decide +kernel
theorem dX4_acceptsBehindOne_33 : decode cX4_acceptsBehindOne 33 = .ok (.aload_n 0, 1) := by decide +kernel
theorem dX4_acceptsBehindOne_34 : decode cX4_acceptsBehindOne 34 = .ok (.aload_n 1, 1) := by decide +kernel
theorem dX4_acceptsBehindOne_35 : decode cX4_acceptsBehindOne 35 = .ok (.iload_n 2, 1) := by decide +kernel
theorem dX4_acceptsBehindOne_36 : decode cX4_acceptsBehindOne 36 = .ok (.invokevirtual 125, 3) := by decide +kernel
theorem dX4_acceptsBehindOne_39 : decode cX4_acceptsBehindOne 39 = .ok (.aload_n 0, 1) := by decide +kernel
theorem dX4_acceptsBehindOne_40 : decode cX4_acceptsBehindOne 40 = .ok (.iload_n 2, 1) := by decide +kernel
theorem dX4_acceptsBehindOne_41 : decode cX4_acceptsBehindOne 41 = .ok (.invokevirtual 114, 3) := by decide +kernel
theorem dX4_acceptsBehindOne_44 : decode cX4_acceptsBehindOne 44 = .ok (.aload_n 0, 1) := by decide +kernel
theorem dX4_acceptsBehindOne_45 : decode cX4_acceptsBehindOne 45 = .ok (.iconst 2, 1) := by decide +kernel
theorem dX4_acceptsBehindOne_46 : decode cX4_acceptsBehindOne 46 = .ok (.invokevirtual 88, 3) := by decide +kernel
theorem dX4_acceptsBehindOne_49 : decode cX4_acceptsBehindOne 49 = .ok (.ireturn, 1) := by decide +kernel
theorem dX4_acceptsBehindOne_50 : decode cX4_acceptsBehindOne 50 = .ok (.aload_n 0, 1) := by decide +kernel
theorem dX4_acceptsBehindOne_51 : decode cX4_acceptsBehindOne 51 = .ok (.getfield 19, 3) := by decide +kernel
theorem dX4_acceptsBehindOne_54 : decode cX4_acceptsBehindOne 54 = .ok (.ifCond .ne 15, 3) := by decide +kernel
theorem dX4_acceptsBehindOne_57 : decode cX4_acceptsBehindOne 57 = .ok (.aload_n 0, 1) := by decide +kernel
theorem dX4_acceptsBehindOne_58 : decode cX4_acceptsBehindOne 58 = .ok (.aload_n 1, 1) := by decide +kernel
theorem dX4_acceptsBehindOne_59 : decode cX4_acceptsBehindOne 59 = .ok (.iconst 1, 1) := by decide +kernel
theorem dX4_acceptsBehindOne_60 : decode cX4_acceptsBehindOne 60 = .ok (.invokevirtual 125, 3) := by decide +kernel
theorem dX4_acceptsBehindOne_63 : decode cX4_acceptsBehindOne 63 = .ok (.aload_n 0, 1) := by decide +kernel
theorem dX4_acceptsBehindOne_64 : decode cX4_acceptsBehindOne 64 = .ok (.aload_n 1, 1) := by decide +kernel
theorem dX4_acceptsBehindOne_65 : decode cX4_acceptsBehindOne 65 = .ok (.invokevirtual 91, 3) := by decide +kernel
theorem dX4_acceptsBehindOne_68 : decode cX4_acceptsBehindOne 68 = .ok (.ireturn, 1) := by decide +kernel
theorem dX4_acceptsBehindOne_69 : decode cX4_acceptsBehindOne 69 = .ok (.aload_n 0, 1) := by decide +kernel
theorem dX4_acceptsBehindOne_70 : decode cX4_acceptsBehindOne 70 = .ok (.getfield 34, 3) := by decide +kernel
theorem dX4_acceptsBehindOne_73 : decode cX4_acceptsBehindOne 73 = .ok (.sipush 297, 3) := by decide +kernel
theorem dX4_acceptsBehindOne_76 : decode cX4_acceptsBehindOne 76 = .ok (.if_icmp .ne 15, 3) := by decide +kernel
theorem dX4_acceptsBehindOne_79 : decode cX4_acceptsBehindOne 79 = .ok (.aload_n 0, 1) := by decide +kernel
theorem dX4_acceptsBehindOne_80 : decode cX4_acceptsBehindOne 80 = .ok (.aload_n 1, 1) := by decide +kernel
theorem dX4_acceptsBehindOne_81 : decode cX4_acceptsBehindOne 81 = .ok (.invokevirtual 129, 3) := by decide +kernel
theorem dX4_acceptsBehindOne_84 : decode cX4_acceptsBehindOne 84 = .ok (.ifCond .eq 7, 3) := by decide +kernel
theorem dX4_acceptsBehindOne_87 : decode cX4_acceptsBehindOne 87 = .ok (.iconst 1, 1) := by decide +kernel
theorem dX4_acceptsBehindOne_88 : decode cX4_acceptsBehindOne 88 = .ok (.goto 4, 3) := by decide +kernel
theorem dX4_acceptsBehindOne_91 : decode cX4_acceptsBehindOne 91 = .ok (.iconst 0, 1) := by decide +kernel
theorem dX4_acceptsBehindOne_92 : decode cX4_acceptsBehindOne 92 = .ok (.ireturn, 1) := by decide +kernel
theorem dX4_closes_0 : decode cX4_closes 0 = .ok (.aload_n 0, 1) := by decide +kernel
theorem dX4_closes_1 : decode cX4_closes 1 = .ok (.aload_n 1, 1) := by decide +kernel
theorem dX4_closes_2 : decode cX4_closes 2 = .ok (.iconst 1, 1) := by decide +kernel
theorem dX4_closes_3 : decode cX4_closes 3 = .ok (.invokevirtual 125, 3) := by decide +kernel
theorem dX4_closes_6 : decode cX4_closes 6 = .ok (.aload_n 0, 1) := by decide +kernel
theorem dX4_closes_7 : decode cX4_closes 7 = .ok (.dup, 1) := by decide +kernel
theorem dX4_closes_8 : decode cX4_closes 8 = .ok (.getfield 19, 3) := by decide +kernel
theorem dX4_closes_11 : decode cX4_closes 11 = .ok (.iconst 1, 1) := by decide +kernel
theorem dX4_closes_12 : decode cX4_closes 12 = .ok (.isub, 1) := by decide +kernel
theorem dX4_closes_13 : decode cX4_closes 13 = .ok (.putfield 19, 3) := by decide +kernel
theorem dX4_closes_16 : decode cX4_closes 16 = .ok (.aload_n 0, 1) := by decide +kernel
theorem dX4_closes_17 : decode cX4_closes 17 = .ok (.getfield 15, 3) := by decide +kernel
theorem dX4_closes_20 : decode cX4_closes 20 = .ok (.ifCond .le 13, 3) := by decide +kernel
theorem dX4_closes_23 : decode cX4_closes 23 = .ok (.aload_n 0, 1) := by decide +kernel
theorem dX4_closes_24 : decode cX4_closes 24 = .ok (.dup, 1) := by decide +kernel
theorem dX4_closes_25 : decode cX4_closes 25 = .ok (.getfield 15, 3) := by decide +kernel
theorem dX4_closes_28 : decode cX4_closes 28 = .ok (.iconst 1, 1) := by decide +kernel
theorem dX4_closes_29 : decode cX4_closes 29 = .ok (.isub, 1) := by decide +kernel
theorem dX4_closes_30 : decode cX4_closes 30 = .ok (.putfield 15, 3) := by decide +kernel
theorem dX4_closes_33 : decode cX4_closes 33 = .ok (.iconst 1, 1) := by decide +kernel
theorem dX4_closes_34 : decode cX4_closes 34 = .ok (.ireturn, 1) := by decide +kernel
theorem dX4_await_0 : decode cX4_await 0 = .ok (.aload_n 0, 1) := by decide +kernel
theorem dX4_await_1 : decode cX4_await 1 = .ok (.getfield 15, 3) := by decide +kernel
theorem dX4_await_4 : decode cX4_await 4 = .ok (.sipush 200, 3) := by decide +kernel
theorem dX4_await_7 : decode cX4_await 7 = .ok (.if_icmp .ge 23, 3) := by decide +kernel
theorem dX4_await_10 : decode cX4_await 10 = .ok (.aload_n 0, 1) := by decide +kernel
theorem dX4_await_11 : decode cX4_await 11 = .ok (.getfield 9, 3) := by decide +kernel
theorem dX4_await_14 : decode cX4_await 14 = .ok (.aload_n 0, 1) := by decide +kernel
theorem dX4_await_15 : decode cX4_await 15 = .ok (.getfield 15, 3) := by decide +kernel
theorem dX4_await_18 : decode cX4_await 18 = .ok (.iload_n 1, 1) := by decide +kernel
theorem dX4_await_19 : decode cX4_await 19 = .ok (.iastore, 1) := by decide +kernel
theorem dX4_await_20 : decode cX4_await 20 = .ok (.aload_n 0, 1) := by decide +kernel
theorem dX4_await_21 : decode cX4_await 21 = .ok (.dup, 1) := by decide +kernel
theorem dX4_await_22 : decode cX4_await 22 = .ok (.getfield 15, 3) := by decide +kernel
theorem dX4_await_25 : decode cX4_await 25 = .ok (.iconst 1, 1) := by decide +kernel
theorem dX4_await_26 : decode cX4_await 26 = .ok (.iadd, 1) := by decide +kernel
theorem dX4_await_27 : decode cX4_await 27 = .ok (.putfield 15, 3) := by decide +kernel
theorem dX4_await_30 : decode cX4_await 30 = .ok (.return_, 1) := by decide +kernel
theorem dX4_join_0 : decode cX4_join 0 = .ok (.aload_n 0, 1) := by decide +kernel
theorem dX4_join_1 : decode cX4_join 1 = .ok (.getfield 15, 3) := by decide +kernel
theorem dX4_join_4 : decode cX4_join 4 = .ok (.ifCond .le 46, 3) := by decide +kernel
theorem dX4_join_7 : decode cX4_join 7 = .ok (.aload_n 0, 1) := by decide +kernel
theorem dX4_join_8 : decode cX4_join 8 = .ok (.getfield 9, 3) := by decide +kernel
theorem dX4_join_11 : decode cX4_join 11 = .ok (.aload_n 0, 1) := by decide +kernel
theorem dX4_join_12 : decode cX4_join 12 = .ok (.getfield 15, 3) := by decide +kernel
theorem dX4_join_15 : decode cX4_join 15 = .ok (.iconst 1, 1) := by decide +kernel
theorem dX4_join_16 : decode cX4_join 16 = .ok (.isub, 1) := by decide +kernel
theorem dX4_join_17 : decode cX4_join 17 = .ok (.iaload, 1) := by decide +kernel
theorem dX4_join_18 : decode cX4_join 18 = .ok (.iload_n 2, 1) := by decide +kernel
theorem dX4_join_19 : decode cX4_join 19 = .ok (.if_icmp .lt 31, 3) := by decide +kernel
theorem dX4_join_22 : decode cX4_join 22 = .ok (.aload_n 0, 1) := by decide +kernel
theorem dX4_join_23 : decode cX4_join 23 = .ok (.dup, 1) := by decide +kernel
theorem dX4_join_24 : decode cX4_join 24 = .ok (.getfield 15, 3) := by decide +kernel
theorem dX4_join_27 : decode cX4_join 27 = .ok (.iconst 1, 1) := by decide +kernel
theorem dX4_join_28 : decode cX4_join 28 = .ok (.isub, 1) := by decide +kernel
theorem dX4_join_29 : decode cX4_join 29 = .ok (.putfield 15, 3) := by decide +kernel
theorem dX4_join_32 : decode cX4_join 32 = .ok (.aload_n 1, 1) := by decide +kernel
theorem dX4_join_33 : decode cX4_join 33 = .ok (.aload_n 0, 1) := by decide +kernel
theorem dX4_join_34 : decode cX4_join 34 = .ok (.getfield 9, 3) := by decide +kernel
theorem dX4_join_37 : decode cX4_join 37 = .ok (.aload_n 0, 1) := by decide +kernel
theorem dX4_join_38 : decode cX4_join 38 = .ok (.getfield 15, 3) := by decide +kernel
theorem dX4_join_41 : decode cX4_join 41 = .ok (.iaload, 1) := by decide +kernel
theorem dX4_join_42 : decode cX4_join 42 = .ok (.iconst 0, 1) := by decide +kernel
theorem dX4_join_43 : decode cX4_join 43 = .ok (.iconst 0, 1) := by decide +kernel
theorem dX4_join_44 : decode cX4_join 44 = .ok (.invokevirtual 121, 3) := by decide +kernel
theorem dX4_join_47 : decode cX4_join 47 = .ok (.goto (-47), 3) := by decide +kernel
theorem dX4_join_50 : decode cX4_join 50 = .ok (.return_, 1) := by decide +kernel
theorem dX4_valueOfToken_0 : decode cX4_valueOfToken 0 = .ok (.aload_n 0, 1) := by decide +kernel
theorem dX4_valueOfToken_1 : decode cX4_valueOfToken 1 = .ok (.getfield 34, 3) := by decide +kernel
theorem dX4_valueOfToken_4 : decode cX4_valueOfToken 4 = .ok (.bipush 18, 2) := by decide +kernel
theorem dX4_valueOfToken_6 : decode cX4_valueOfToken 6 = .ok (.if_icmp .ne 8, 3) := by decide +kernel
theorem dX4_valueOfToken_9 : decode cX4_valueOfToken 9 = .ok (.aload_n 0, 1) := by decide +kernel
theorem dX4_valueOfToken_10 : decode cX4_valueOfToken 10 = .ok (.getfield 40, 3) := by decide +kernel
theorem dX4_valueOfToken_13 : decode cX4_valueOfToken 13 = .ok (.ireturn, 1) := by decide +kernel
theorem dX4_valueOfToken_14 : decode cX4_valueOfToken 14 = .ok (.aload_n 0, 1) := by decide +kernel
theorem dX4_valueOfToken_15 : decode cX4_valueOfToken 15 = .ok (.getfield 34, 3) := by decide +kernel
theorem dX4_valueOfToken_18 : decode cX4_valueOfToken 18 = .ok (.bipush 13, 2) := by decide +kernel
theorem dX4_valueOfToken_20 : decode cX4_valueOfToken 20 = .ok (.if_icmp .lt 26, 3) := by decide +kernel
theorem dX4_valueOfToken_23 : decode cX4_valueOfToken 23 = .ok (.aload_n 0, 1) := by decide +kernel
theorem dX4_valueOfToken_24 : decode cX4_valueOfToken 24 = .ok (.getfield 34, 3) := by decide +kernel
theorem dX4_valueOfToken_27 : decode cX4_valueOfToken 27 = .ok (.bipush 17, 2) := by decide +kernel
theorem dX4_valueOfToken_29 : decode cX4_valueOfToken 29 = .ok (.if_icmp .gt 17, 3) := by decide +kernel
theorem dX4_valueOfToken_32 : decode cX4_valueOfToken 32 = .ok (.sipush 10000, 3) := by decide +kernel
theorem dX4_valueOfToken_35 : decode cX4_valueOfToken 35 = .ok (.aload_n 0, 1) := by decide +kernel
theorem dX4_valueOfToken_36 : decode cX4_valueOfToken 36 = .ok (.getfield 34, 3) := by decide +kernel
theorem dX4_valueOfToken_39 : decode cX4_valueOfToken 39 = .ok (.iadd, 1) := by decide +kernel
theorem dX4_valueOfToken_40 : decode cX4_valueOfToken 40 = .ok (.bipush 13, 2) := by decide +kernel
theorem dX4_valueOfToken_42 : decode cX4_valueOfToken 42 = .ok (.isub, 1) := by decide +kernel
theorem dX4_valueOfToken_43 : decode cX4_valueOfToken 43 = .ok (.goto 5, 3) := by decide +kernel
theorem dX4_valueOfToken_46 : decode cX4_valueOfToken 46 = .ok (.bipush (-3), 2) := by decide +kernel
theorem dX4_valueOfToken_48 : decode cX4_valueOfToken 48 = .ok (.ireturn, 1) := by decide +kernel
theorem dX5_init_0 : decode cX5_init 0 = .ok (.aload_n 0, 1) := by decide +kernel
theorem dX5_init_1 : decode cX5_init 1 = .ok (.invokespecial 3, 3) := by decide +kernel
theorem dX5_init_4 : decode cX5_init 4 = .ok (.aload_n 0, 1) := by decide +kernel
theorem dX5_init_5 : decode cX5_init 5 = .ok (.bipush 8, 2) := by decide +kernel
theorem dX5_init_7 : decode cX5_init 7 = .ok (.newarray .int, 2) := by decide +kernel
theorem dX5_init_9 : decode cX5_init 9 = .ok (.putfield 9, 3) := by decide +kernel
theorem dX5_init_12 : decode cX5_init 12 = .ok (.aload_n 0, 1) := by decide +kernel
theorem dX5_init_13 : decode cX5_init 13 = .ok (.bipush 8, 2) := by decide +kernel
theorem dX5_init_15 : decode cX5_init 15 = .ok (.newarray .int, 2) := by decide +kernel
theorem dX5_init_17 : decode cX5_init 17 = .ok (.putfield 15, 3) := by decide +kernel
theorem dX5_init_20 : decode cX5_init 20 = .ok (.aload_n 0, 1) := by decide +kernel
theorem dX5_init_21 : decode cX5_init 21 = .ok (.bipush 9, 2) := by decide +kernel
theorem dX5_init_23 : decode cX5_init 23 = .ok (.newarray .int, 2) := by decide +kernel
theorem dX5_init_25 : decode cX5_init 25 = .ok (.putfield 18, 3) := by decide +kernel
theorem dX5_init_28 : decode cX5_init 28 = .ok (.aload_n 0, 1) := by decide +kernel
theorem dX5_init_29 : decode cX5_init 29 = .ok (.sipush 200, 3) := by decide +kernel
theorem dX5_init_32 : decode cX5_init 32 = .ok (.newarray .int, 2) := by decide +kernel
theorem dX5_init_34 : decode cX5_init 34 = .ok (.putfield 21, 3) := by decide +kernel
theorem dX5_init_37 : decode cX5_init 37 = .ok (.aload_n 0, 1) := by decide +kernel
theorem dX5_init_38 : decode cX5_init 38 = .ok (.sipush 200, 3) := by decide +kernel
theorem dX5_init_41 : decode cX5_init 41 = .ok (.newarray .int, 2) := by decide +kernel
theorem dX5_init_43 : decode cX5_init 43 = .ok (.putfield 24, 3) := by decide +kernel
theorem dX5_init_46 : decode cX5_init 46 = .ok (.aload_n 0, 1) := by decide +kernel
theorem dX5_init_47 : decode cX5_init 47 = .ok (.sipush 200, 3) := by decide +kernel
theorem dX5_init_50 : decode cX5_init 50 = .ok (.newarray .int, 2) := by decide +kernel
theorem dX5_init_52 : decode cX5_init 52 = .ok (.putfield 27, 3) := by decide +kernel
theorem dX5_init_55 : decode cX5_init 55 = .ok (.aload_n 0, 1) := by decide +kernel
theorem dX5_init_56 : decode cX5_init 56 = .ok (.iconst 5, 1) := by decide +kernel
theorem dX5_init_57 : decode cX5_init 57 = .ok (.newarray .int, 2) := by decide +kernel
theorem dX5_init_59 : decode cX5_init 59 = .ok (.putfield 30, 3) := by decide +kernel
theorem dX5_init_62 : decode cX5_init 62 = .ok (.aload_n 0, 1) := by decide +kernel
theorem dX5_init_63 : decode cX5_init 63 = .ok (.iconst 0, 1) := by decide +kernel
theorem dX5_init_64 : decode cX5_init 64 = .ok (.putfield 33, 3) := by decide +kernel
theorem dX5_init_67 : decode cX5_init 67 = .ok (.aload_n 0, 1) := by decide +kernel
theorem dX5_init_68 : decode cX5_init 68 = .ok (.iconst 0, 1) := by decide +kernel
theorem dX5_init_69 : decode cX5_init 69 = .ok (.putfield 37, 3) := by decide +kernel
theorem dX5_init_72 : decode cX5_init 72 = .ok (.return_, 1) := by decide +kernel
theorem dX5_become_0 : decode cX5_become 0 = .ok (.aload_n 1, 1) := by decide +kernel
theorem dX5_become_1 : decode cX5_become 1 = .ok (.getfield 9, 3) := by decide +kernel
theorem dX5_become_4 : decode cX5_become 4 = .ok (.iconst 0, 1) := by decide +kernel
theorem dX5_become_5 : decode cX5_become 5 = .ok (.aload_n 0, 1) := by decide +kernel
theorem dX5_become_6 : decode cX5_become 6 = .ok (.getfield 9, 3) := by decide +kernel
theorem dX5_become_9 : decode cX5_become 9 = .ok (.iconst 0, 1) := by decide +kernel
theorem dX5_become_10 : decode cX5_become 10 = .ok (.bipush 8, 2) := by decide +kernel
theorem dX5_become_12 : decode cX5_become 12 = .ok (.invokestatic 40, 3) := by decide +kernel
theorem dX5_become_15 : decode cX5_become 15 = .ok (.aload_n 1, 1) := by decide +kernel
theorem dX5_become_16 : decode cX5_become 16 = .ok (.getfield 15, 3) := by decide +kernel
theorem dX5_become_19 : decode cX5_become 19 = .ok (.iconst 0, 1) := by decide +kernel
theorem dX5_become_20 : decode cX5_become 20 = .ok (.aload_n 0, 1) := by decide +kernel
theorem dX5_become_21 : decode cX5_become 21 = .ok (.getfield 15, 3) := by decide +kernel
theorem dX5_become_24 : decode cX5_become 24 = .ok (.iconst 0, 1) := by decide +kernel
theorem dX5_become_25 : decode cX5_become 25 = .ok (.bipush 8, 2) := by decide +kernel
theorem dX5_become_27 : decode cX5_become 27 = .ok (.invokestatic 40, 3) := by decide +kernel
theorem dX5_become_30 : decode cX5_become 30 = .ok (.aload_n 1, 1) := by decide +kernel
theorem dX5_become_31 : decode cX5_become 31 = .ok (.getfield 18, 3) := by decide +kernel
theorem dX5_become_34 : decode cX5_become 34 = .ok (.iconst 0, 1) := by decide +kernel
theorem dX5_become_35 : decode cX5_become 35 = .ok (.aload_n 0, 1) := by decide +kernel
theorem dX5_become_36 : decode cX5_become 36 = .ok (.getfield 18, 3) := by decide +kernel
theorem dX5_become_39 : decode cX5_become 39 = .ok (.iconst 0, 1) := by decide +kernel
theorem dX5_become_40 : decode cX5_become 40 = .ok (.bipush 9, 2) := by decide +kernel
theorem dX5_become_42 : decode cX5_become 42 = .ok (.invokestatic 40, 3) := by decide +kernel
theorem dX5_become_45 : decode cX5_become 45 = .ok (.aload_n 1, 1) := by decide +kernel
theorem dX5_become_46 : decode cX5_become 46 = .ok (.getfield 21, 3) := by decide +kernel
theorem dX5_become_49 : decode cX5_become 49 = .ok (.iconst 0, 1) := by decide +kernel
theorem dX5_become_50 : decode cX5_become 50 = .ok (.aload_n 0, 1) := by decide +kernel
theorem dX5_become_51 : decode cX5_become 51 = .ok (.getfield 21, 3) := by decide +kernel
theorem dX5_become_54 : decode cX5_become 54 = .ok (.iconst 0, 1) := by decide +kernel
theorem dX5_become_55 : decode cX5_become 55 = .ok (.aload_n 1, 1) := by decide +kernel
theorem dX5_become_56 : decode cX5_become 56 = .ok (.getfield 37, 3) := by decide +kernel
theorem dX5_become_59 : decode cX5_become 59 = .ok (.invokestatic 40, 3) := by decide +kernel
theorem dX5_become_62 : decode cX5_become 62 = .ok (.aload_n 1, 1) := by decide +kernel
theorem dX5_become_63 : decode cX5_become 63 = .ok (.getfield 24, 3) := by decide +kernel
theorem dX5_become_66 : decode cX5_become 66 = .ok (.iconst 0, 1) := by decide +kernel
theorem dX5_become_67 : decode cX5_become 67 = .ok (.aload_n 0, 1) := by decide +kernel
theorem dX5_become_68 : decode cX5_become 68 = .ok (.getfield 24, 3) := by decide +kernel
theorem dX5_become_71 : decode cX5_become 71 = .ok (.iconst 0, 1) := by decide +kernel
theorem dX5_become_72 : decode cX5_become 72 = .ok (.aload_n 1, 1) := by decide +kernel
theorem dX5_become_73 : decode cX5_become 73 = .ok (.getfield 37, 3) := by decide +kernel
theorem dX5_become_76 : decode cX5_become 76 = .ok (.invokestatic 40, 3) := by decide +kernel
theorem dX5_become_79 : decode cX5_become 79 = .ok (.aload_n 1, 1) := by decide +kernel
theorem dX5_become_80 : decode cX5_become 80 = .ok (.getfield 27, 3) := by decide +kernel
theorem dX5_become_83 : decode cX5_become 83 = .ok (.iconst 0, 1) := by decide +kernel
theorem dX5_become_84 : decode cX5_become 84 = .ok (.aload_n 0, 1) := by decide +kernel
theorem dX5_become_85 : decode cX5_become 85 = .ok (.getfield 27, 3) := by decide +kernel
theorem dX5_become_88 : decode cX5_become 88 = .ok (.iconst 0, 1) := by decide +kernel
theorem dX5_become_89 : decode cX5_become 89 = .ok (.aload_n 1, 1) := by decide +kernel
theorem dX5_become_90 : decode cX5_become 90 = .ok (.getfield 37, 3) := by decide +kernel
theorem dX5_become_93 : decode cX5_become 93 = .ok (.invokestatic 40, 3) := by decide +kernel
theorem dX5_become_96 : decode cX5_become 96 = .ok (.aload_n 0, 1) := by decide +kernel
theorem dX5_become_97 : decode cX5_become 97 = .ok (.aload_n 1, 1) := by decide +kernel
theorem dX5_become_98 : decode cX5_become 98 = .ok (.getfield 33, 3) := by decide +kernel
theorem dX5_become_101 : decode cX5_become 101 = .ok (.putfield 33, 3) := by decide +kernel
theorem dX5_become_104 : decode cX5_become 104 = .ok (.aload_n 0, 1) := by decide +kernel
theorem dX5_become_105 : decode cX5_become 105 = .ok (.aload_n 1, 1) := by decide +kernel
theorem dX5_become_106 : decode cX5_become 106 = .ok (.getfield 37, 3) := by decide +kernel
theorem dX5_become_109 : decode cX5_become 109 = .ok (.putfield 37, 3) := by decide +kernel
theorem dX5_become_112 : decode cX5_become 112 = .ok (.return_, 1) := by decide +kernel
theorem dX5_clear_0 : decode cX5_clear 0 = .ok (.aload_n 0, 1) := by decide +kernel
theorem dX5_clear_1 : decode cX5_clear 1 = .ok (.iconst 0, 1) := by decide +kernel
theorem dX5_clear_2 : decode cX5_clear 2 = .ok (.putfield 33, 3) := by decide +kernel
theorem dX5_clear_5 : decode cX5_clear 5 = .ok (.aload_n 0, 1) := by decide +kernel
theorem dX5_clear_6 : decode cX5_clear 6 = .ok (.iconst 0, 1) := by decide +kernel
theorem dX5_clear_7 : decode cX5_clear 7 = .ok (.putfield 37, 3) := by decide +kernel
theorem dX5_clear_10 : decode cX5_clear 10 = .ok (.return_, 1) := by decide +kernel
theorem dX5_addStep_0 : decode cX5_addStep 0 = .ok (.aload_n 0, 1) := by decide +kernel
theorem dX5_addStep_1 : decode cX5_addStep 1 = .ok (.getfield 37, 3) := by decide +kernel
theorem dX5_addStep_4 : decode cX5_addStep 4 = .ok (.sipush 200, 3) := by decide +kernel
theorem dX5_addStep_7 : decode cX5_addStep 7 = .ok (.if_icmp .ge 43, 3) := by decide +kernel
theorem dX5_addStep_10 : decode cX5_addStep 10 = .ok (.aload_n 0, 1) := by decide +kernel
theorem dX5_addStep_11 : decode cX5_addStep 11 = .ok (.getfield 21, 3) := by decide +kernel
theorem dX5_addStep_14 : decode cX5_addStep 14 = .ok (.aload_n 0, 1) := by decide +kernel
theorem dX5_addStep_15 : decode cX5_addStep 15 = .ok (.getfield 37, 3) := by decide +kernel
theorem dX5_addStep_18 : decode cX5_addStep 18 = .ok (.iload_n 1, 1) := by decide +kernel
theorem dX5_addStep_19 : decode cX5_addStep 19 = .ok (.iastore, 1) := by decide +kernel
theorem dX5_addStep_20 : decode cX5_addStep 20 = .ok (.aload_n 0, 1) := by decide +kernel
theorem dX5_addStep_21 : decode cX5_addStep 21 = .ok (.getfield 24, 3) := by decide +kernel
theorem dX5_addStep_24 : decode cX5_addStep 24 = .ok (.aload_n 0, 1) := by decide +kernel
theorem dX5_addStep_25 : decode cX5_addStep 25 = .ok (.getfield 37, 3) := by decide +kernel
theorem dX5_addStep_28 : decode cX5_addStep 28 = .ok (.iload_n 2, 1) := by decide +kernel
theorem dX5_addStep_29 : decode cX5_addStep 29 = .ok (.iastore, 1) := by decide +kernel
theorem dX5_addStep_30 : decode cX5_addStep 30 = .ok (.aload_n 0, 1) := by decide +kernel
theorem dX5_addStep_31 : decode cX5_addStep 31 = .ok (.getfield 27, 3) := by decide +kernel
theorem dX5_addStep_34 : decode cX5_addStep 34 = .ok (.aload_n 0, 1) := by decide +kernel
theorem dX5_addStep_35 : decode cX5_addStep 35 = .ok (.getfield 37, 3) := by decide +kernel
theorem dX5_addStep_38 : decode cX5_addStep 38 = .ok (.iload_n 3, 1) := by decide +kernel
theorem dX5_addStep_39 : decode cX5_addStep 39 = .ok (.iastore, 1) := by decide +kernel
theorem dX5_addStep_40 : decode cX5_addStep 40 = .ok (.aload_n 0, 1) := by decide +kernel
theorem dX5_addStep_41 : decode cX5_addStep 41 = .ok (.dup, 1) := by decide +kernel
theorem dX5_addStep_42 : decode cX5_addStep 42 = .ok (.getfield 37, 3) := by decide +kernel
theorem dX5_addStep_45 : decode cX5_addStep 45 = .ok (.iconst 1, 1) := by decide +kernel
theorem dX5_addStep_46 : decode cX5_addStep 46 = .ok (.iadd, 1) := by decide +kernel
theorem dX5_addStep_47 : decode cX5_addStep 47 = .ok (.putfield 37, 3) := by decide +kernel
theorem dX5_addStep_50 : decode cX5_addStep 50 = .ok (.return_, 1) := by decide +kernel
theorem dX5_addRule_0 : decode cX5_addRule 0 = .ok (.aload_n 0, 1) := by decide +kernel
theorem dX5_addRule_1 : decode cX5_addRule 1 = .ok (.getfield 33, 3) := by decide +kernel
theorem dX5_addRule_4 : decode cX5_addRule 4 = .ok (.bipush 8, 2) := by decide +kernel
theorem dX5_addRule_6 : decode cX5_addRule 6 = .ok (.if_icmp .ge 46, 3) := by decide +kernel
theorem dX5_addRule_9 : decode cX5_addRule 9 = .ok (.aload_n 0, 1) := by decide +kernel
theorem dX5_addRule_10 : decode cX5_addRule 10 = .ok (.getfield 9, 3) := by decide +kernel
theorem dX5_addRule_13 : decode cX5_addRule 13 = .ok (.aload_n 0, 1) := by decide +kernel
theorem dX5_addRule_14 : decode cX5_addRule 14 = .ok (.getfield 33, 3) := by decide +kernel
theorem dX5_addRule_17 : decode cX5_addRule 17 = .ok (.iload_n 1, 1) := by decide +kernel
theorem dX5_addRule_18 : decode cX5_addRule 18 = .ok (.iastore, 1) := by decide +kernel
theorem dX5_addRule_19 : decode cX5_addRule 19 = .ok (.aload_n 0, 1) := by decide +kernel
theorem dX5_addRule_20 : decode cX5_addRule 20 = .ok (.getfield 15, 3) := by decide +kernel
theorem dX5_addRule_23 : decode cX5_addRule 23 = .ok (.aload_n 0, 1) := by decide +kernel
theorem dX5_addRule_24 : decode cX5_addRule 24 = .ok (.getfield 33, 3) := by decide +kernel
theorem dX5_addRule_27 : decode cX5_addRule 27 = .ok (.iload_n 2, 1) := by decide +kernel
theorem dX5_addRule_28 : decode cX5_addRule 28 = .ok (.iastore, 1) := by decide +kernel
theorem dX5_addRule_29 : decode cX5_addRule 29 = .ok (.aload_n 0, 1) := by decide +kernel
theorem dX5_addRule_30 : decode cX5_addRule 30 = .ok (.dup, 1) := by decide +kernel
theorem dX5_addRule_31 : decode cX5_addRule 31 = .ok (.getfield 33, 3) := by decide +kernel
theorem dX5_addRule_34 : decode cX5_addRule 34 = .ok (.iconst 1, 1) := by decide +kernel
theorem dX5_addRule_35 : decode cX5_addRule 35 = .ok (.iadd, 1) := by decide +kernel
theorem dX5_addRule_36 : decode cX5_addRule 36 = .ok (.putfield 33, 3) := by decide +kernel
theorem dX5_addRule_39 : decode cX5_addRule 39 = .ok (.aload_n 0, 1) := by decide +kernel
theorem dX5_addRule_40 : decode cX5_addRule 40 = .ok (.getfield 18, 3) := by decide +kernel
theorem dX5_addRule_43 : decode cX5_addRule 43 = .ok (.aload_n 0, 1) := by decide +kernel
theorem dX5_addRule_44 : decode cX5_addRule 44 = .ok (.getfield 33, 3) := by decide +kernel
theorem dX5_addRule_47 : decode cX5_addRule 47 = .ok (.aload_n 0, 1) := by decide +kernel
theorem dX5_addRule_48 : decode cX5_addRule 48 = .ok (.getfield 37, 3) := by decide +kernel
theorem dX5_addRule_51 : decode cX5_addRule 51 = .ok (.iastore, 1) := by decide +kernel
theorem dX5_addRule_52 : decode cX5_addRule 52 = .ok (.return_, 1) := by decide +kernel
theorem dX5_learn_0 : decode cX5_learn 0 = .ok (.aload_n 0, 1) := by decide +kernel
theorem dX5_learn_1 : decode cX5_learn 1 = .ok (.getfield 30, 3) := by decide +kernel
theorem dX5_learn_4 : decode cX5_learn 4 = .ok (.iconst 0, 1) := by decide +kernel
theorem dX5_learn_5 : decode cX5_learn 5 = .ok (.iload_n 1, 1) := by decide +kernel
theorem dX5_learn_6 : decode cX5_learn 6 = .ok (.iastore, 1) := by decide +kernel
theorem dX5_learn_7 : decode cX5_learn 7 = .ok (.aload_n 0, 1) := by decide +kernel
theorem dX5_learn_8 : decode cX5_learn 8 = .ok (.getfield 30, 3) := by decide +kernel
theorem dX5_learn_11 : decode cX5_learn 11 = .ok (.iconst 1, 1) := by decide +kernel
theorem dX5_learn_12 : decode cX5_learn 12 = .ok (.iload_n 2, 1) := by decide +kernel
theorem dX5_learn_13 : decode cX5_learn 13 = .ok (.iastore, 1) := by decide +kernel
theorem dX5_learn_14 : decode cX5_learn 14 = .ok (.aload_n 0, 1) := by decide +kernel
theorem dX5_learn_15 : decode cX5_learn 15 = .ok (.getfield 30, 3) := by decide +kernel
theorem dX5_learn_18 : decode cX5_learn 18 = .ok (.iconst 2, 1) := by decide +kernel
theorem dX5_learn_19 : decode cX5_learn 19 = .ok (.iload_n 3, 1) := by decide +kernel
theorem dX5_learn_20 : decode cX5_learn 20 = .ok (.iastore, 1) := by decide +kernel
theorem dX5_learn_21 : decode cX5_learn 21 = .ok (.aload_n 0, 1) := by decide +kernel
theorem dX5_learn_22 : decode cX5_learn 22 = .ok (.getfield 30, 3) := by decide +kernel
theorem dX5_learn_25 : decode cX5_learn 25 = .ok (.iconst 3, 1) := by decide +kernel
theorem dX5_learn_26 : decode cX5_learn 26 = .ok (.iload 4, 2) := by decide +kernel
theorem dX5_learn_28 : decode cX5_learn 28 = .ok (.iastore, 1) := by decide +kernel
theorem dX5_learn_29 : decode cX5_learn 29 = .ok (.aload_n 0, 1) := by decide +kernel
theorem dX5_learn_30 : decode cX5_learn 30 = .ok (.getfield 30, 3) := by decide +kernel
theorem dX5_learn_33 : decode cX5_learn 33 = .ok (.iconst 4, 1) := by decide +kernel
theorem dX5_learn_34 : decode cX5_learn 34 = .ok (.iload 5, 2) := by decide +kernel
theorem dX5_learn_36 : decode cX5_learn 36 = .ok (.iastore, 1) := by decide +kernel
theorem dX5_learn_37 : decode cX5_learn 37 = .ok (.return_, 1) := by decide +kernel
theorem dX5_holds_0 : decode cX5_holds 0 = .ok (.aload_n 0, 1) := by decide +kernel
theorem dX5_holds_1 : decode cX5_holds 1 = .ok (.getfield 18, 3) := by decide +kernel
theorem dX5_holds_4 : decode cX5_holds 4 = .ok (.iload_n 1, 1) := by decide +kernel
theorem dX5_holds_5 : decode cX5_holds 5 = .ok (.iaload, 1) := by decide +kernel
theorem dX5_holds_6 : decode cX5_holds 6 = .ok (.aload_n 0, 1) := by decide +kernel
theorem dX5_holds_7 : decode cX5_holds 7 = .ok (.getfield 18, 3) := by decide +kernel
theorem dX5_holds_10 : decode cX5_holds 10 = .ok (.iload_n 1, 1) := by decide +kernel
theorem dX5_holds_11 : decode cX5_holds 11 = .ok (.iconst 1, 1) := by decide +kernel
theorem dX5_holds_12 : decode cX5_holds 12 = .ok (.iadd, 1) := by decide +kernel
theorem dX5_holds_13 : decode cX5_holds 13 = .ok (.iaload, 1) := by decide +kernel
theorem dX5_holds_14 : decode cX5_holds 14 = .ok (.if_icmp .ne 7, 3) := by decide +kernel
theorem dX5_holds_17 : decode cX5_holds 17 = .ok (.iconst 1, 1) := by decide +kernel
theorem dX5_holds_18 : decode cX5_holds 18 = .ok (.goto 4, 3) := by decide +kernel
theorem dX5_holds_21 : decode cX5_holds 21 = .ok (.iconst 0, 1) := by decide +kernel
theorem dX5_holds_22 : decode cX5_holds 22 = .ok (.istore_n 2, 1) := by decide +kernel
theorem dX5_holds_23 : decode cX5_holds 23 = .ok (.aload_n 0, 1) := by decide +kernel
theorem dX5_holds_24 : decode cX5_holds 24 = .ok (.getfield 18, 3) := by decide +kernel
theorem dX5_holds_27 : decode cX5_holds 27 = .ok (.iload_n 1, 1) := by decide +kernel
theorem dX5_holds_28 : decode cX5_holds 28 = .ok (.iaload, 1) := by decide +kernel
theorem dX5_holds_29 : decode cX5_holds 29 = .ok (.istore_n 3, 1) := by decide +kernel
theorem dX5_holds_30 : decode cX5_holds 30 = .ok (.iload_n 3, 1) := by decide +kernel
theorem dX5_holds_31 : decode cX5_holds 31 = .ok (.aload_n 0, 1) := by decide +kernel
theorem dX5_holds_32 : decode cX5_holds 32 = .ok (.getfield 18, 3) := by decide +kernel
theorem dX5_holds_35 : decode cX5_holds 35 = .ok (.iload_n 1, 1) := by decide +kernel
theorem dX5_holds_36 : decode cX5_holds 36 = .ok (.iconst 1, 1) := by decide +kernel
theorem dX5_holds_37 : decode cX5_holds 37 = .ok (.iadd, 1) := by decide +kernel
theorem dX5_holds_38 : decode cX5_holds 38 = .ok (.iaload, 1) := by decide +kernel
theorem dX5_holds_39 : decode cX5_holds 39 = .ok (.if_icmp .ge 214, 3) := by decide +kernel
theorem dX5_holds_42 : decode cX5_holds 42 = .ok (.aload_n 0, 1) := by decide +kernel
theorem dX5_holds_43 : decode cX5_holds 43 = .ok (.getfield 24, 3) := by decide +kernel
theorem dX5_holds_46 : decode cX5_holds 46 = .ok (.iload_n 3, 1) := by decide +kernel
theorem dX5_holds_47 : decode cX5_holds 47 = .ok (.iaload, 1) := by decide +kernel
theorem dX5_holds_48 : decode cX5_holds 48 = .ok (.sipush 10000, 3) := by decide +kernel
theorem dX5_holds_51 : decode cX5_holds 51 = .ok (.if_icmp .ge 12, 3) := by decide +kernel
theorem dX5_holds_54 : decode cX5_holds 54 = .ok (.aload_n 0, 1) := by decide +kernel
theorem dX5_holds_55 : decode cX5_holds 55 = .ok (.getfield 24, 3) := by decide +kernel
theorem dX5_holds_58 : decode cX5_holds 58 = .ok (.iload_n 3, 1) := by decide +kernel
theorem dX5_holds_59 : decode cX5_holds 59 = .ok (.iaload, 1) := by decide +kernel
theorem dX5_holds_60 : decode cX5_holds 60 = .ok (.goto 18, 3) := by decide +kernel
theorem dX5_holds_63 : decode cX5_holds 63 = .ok (.aload_n 0, 1) := by decide +kernel
theorem dX5_holds_64 : decode cX5_holds 64 = .ok (.getfield 30, 3) := by decide +kernel
theorem dX5_holds_67 : decode cX5_holds 67 = .ok (.aload_n 0, 1) := by decide +kernel
theorem dX5_holds_68 : decode cX5_holds 68 = .ok (.getfield 24, 3) := by decide +kernel
theorem dX5_holds_71 : decode cX5_holds 71 = .ok (.iload_n 3, 1) := by decide +kernel
theorem dX5_holds_72 : decode cX5_holds 72 = .ok (.iaload, 1) := by decide +kernel
theorem dX5_holds_73 : decode cX5_holds 73 = .ok (.sipush 10000, 3) := by decide +kernel
theorem dX5_holds_76 : decode cX5_holds 76 = .ok (.isub, 1) := by decide +kernel
theorem dX5_holds_77 : decode cX5_holds 77 = .ok (.iaload, 1) := by decide +kernel
theorem dX5_holds_78 : decode cX5_holds 78 = .ok (.istore 4, 2) := by decide +kernel
theorem dX5_holds_80 : decode cX5_holds 80 = .ok (.aload_n 0, 1) := by decide +kernel
theorem dX5_holds_81 : decode cX5_holds 81 = .ok (.getfield 27, 3) := by decide +kernel
theorem dX5_holds_84 : decode cX5_holds 84 = .ok (.iload_n 3, 1) := by decide +kernel
theorem dX5_holds_85 : decode cX5_holds 85 = .ok (.iaload, 1) := by decide +kernel
theorem dX5_holds_86 : decode cX5_holds 86 = .ok (.sipush 10000, 3) := by decide +kernel
theorem dX5_holds_89 : decode cX5_holds 89 = .ok (.if_icmp .ge 12, 3) := by decide +kernel
theorem dX5_holds_92 : decode cX5_holds 92 = .ok (.aload_n 0, 1) := by decide +kernel
theorem dX5_holds_93 : decode cX5_holds 93 = .ok (.getfield 27, 3) := by decide +kernel
theorem dX5_holds_96 : decode cX5_holds 96 = .ok (.iload_n 3, 1) := by decide +kernel
theorem dX5_holds_97 : decode cX5_holds 97 = .ok (.iaload, 1) := by decide +kernel
theorem dX5_holds_98 : decode cX5_holds 98 = .ok (.goto 18, 3) := by decide +kernel
theorem dX5_holds_101 : decode cX5_holds 101 = .ok (.aload_n 0, 1) := by decide +kernel
theorem dX5_holds_102 : decode cX5_holds 102 = .ok (.getfield 30, 3) := by decide +kernel
theorem dX5_holds_105 : decode cX5_holds 105 = .ok (.aload_n 0, 1) := by decide +kernel
theorem dX5_holds_106 : decode cX5_holds 106 = .ok (.getfield 27, 3) := by decide +kernel
theorem dX5_holds_109 : decode cX5_holds 109 = .ok (.iload_n 3, 1) := by decide +kernel
theorem dX5_holds_110 : decode cX5_holds 110 = .ok (.iaload, 1) := by decide +kernel
theorem dX5_holds_111 : decode cX5_holds 111 = .ok (.sipush 10000, 3) := by decide +kernel
theorem dX5_holds_114 : decode cX5_holds 114 = .ok (.isub, 1) := by decide +kernel
theorem dX5_holds_115 : decode cX5_holds 115 = .ok (.iaload, 1) := by decide +kernel
theorem dX5_holds_116 : decode cX5_holds 116 = .ok (.istore 5, 2) := by decide +kernel
theorem dX5_holds_118 : decode cX5_holds 118 = .ok (.aload_n 0, 1) := by decide +kernel
theorem dX5_holds_119 : decode cX5_holds 119 = .ok (.getfield 21, 3) := by decide +kernel
theorem dX5_holds_122 : decode cX5_holds 122 = .ok (.iload_n 3, 1) := by decide +kernel
theorem dX5_holds_123 : decode cX5_holds 123 = .ok (.iaload, 1) := by decide +kernel
theorem dX5_holds_124 : decode cX5_holds 124 = .ok (.tableswitch 106 1 5 #[55, 43, 36, 66, 86], 36) := by decide +kernel
theorem dX5_holds_160 : decode cX5_holds 160 = .ok (.iload_n 2, 1) := by decide +kernel
theorem dX5_holds_161 : decode cX5_holds 161 = .ok (.iconst 1, 1) := by decide +kernel
theorem dX5_holds_162 : decode cX5_holds 162 = .ok (.ixor, 1) := by decide +kernel
theorem dX5_holds_163 : decode cX5_holds 163 = .ok (.istore_n 2, 1) := by decide +kernel
theorem dX5_holds_164 : decode cX5_holds 164 = .ok (.goto 83, 3) := by decide +kernel
theorem dX5_holds_167 : decode cX5_holds 167 = .ok (.iload_n 2, 1) := by decide +kernel
theorem dX5_holds_168 : decode cX5_holds 168 = .ok (.iconst 1, 1) := by decide +kernel
theorem dX5_holds_169 : decode cX5_holds 169 = .ok (.ishr, 1) := by decide +kernel
theorem dX5_holds_170 : decode cX5_holds 170 = .ok (.iload_n 2, 1) := by decide +kernel
theorem dX5_holds_171 : decode cX5_holds 171 = .ok (.bipush (-2), 2) := by decide +kernel
theorem dX5_holds_173 : decode cX5_holds 173 = .ok (.ior, 1) := by decide +kernel
theorem dX5_holds_174 : decode cX5_holds 174 = .ok (.iand, 1) := by decide +kernel
theorem dX5_holds_175 : decode cX5_holds 175 = .ok (.istore_n 2, 1) := by decide +kernel
theorem dX5_holds_176 : decode cX5_holds 176 = .ok (.goto 71, 3) := by decide +kernel
theorem dX5_holds_179 : decode cX5_holds 179 = .ok (.iload_n 2, 1) := by decide +kernel
theorem dX5_holds_180 : decode cX5_holds 180 = .ok (.iconst 1, 1) := by decide +kernel
theorem dX5_holds_181 : decode cX5_holds 181 = .ok (.ishr, 1) := by decide +kernel
theorem dX5_holds_182 : decode cX5_holds 182 = .ok (.iload_n 2, 1) := by decide +kernel
theorem dX5_holds_183 : decode cX5_holds 183 = .ok (.iconst 1, 1) := by decide +kernel
theorem dX5_holds_184 : decode cX5_holds 184 = .ok (.iand, 1) := by decide +kernel
theorem dX5_holds_185 : decode cX5_holds 185 = .ok (.ior, 1) := by decide +kernel
theorem dX5_holds_186 : decode cX5_holds 186 = .ok (.istore_n 2, 1) := by decide +kernel
theorem dX5_holds_187 : decode cX5_holds 187 = .ok (.goto 60, 3) := by decide +kernel
theorem dX5_holds_190 : decode cX5_holds 190 = .ok (.iload_n 2, 1) := by decide +kernel
theorem dX5_holds_191 : decode cX5_holds 191 = .ok (.iconst 1, 1) := by decide +kernel
theorem dX5_holds_192 : decode cX5_holds 192 = .ok (.ishl, 1) := by decide +kernel
theorem dX5_holds_193 : decode cX5_holds 193 = .ok (.iload 4, 2) := by decide +kernel
theorem dX5_holds_195 : decode cX5_holds 195 = .ok (.iload 5, 2) := by decide +kernel
theorem dX5_holds_197 : decode cX5_holds 197 = .ok (.if_icmp .ge 7, 3) := by decide +kernel
theorem dX5_holds_200 : decode cX5_holds 200 = .ok (.iconst 1, 1) := by decide +kernel
theorem dX5_holds_201 : decode cX5_holds 201 = .ok (.goto 4, 3) := by decide +kernel
theorem dX5_holds_204 : decode cX5_holds 204 = .ok (.iconst 0, 1) := by decide +kernel
theorem dX5_holds_205 : decode cX5_holds 205 = .ok (.ior, 1) := by decide +kernel
theorem dX5_holds_206 : decode cX5_holds 206 = .ok (.istore_n 2, 1) := by decide +kernel
theorem dX5_holds_207 : decode cX5_holds 207 = .ok (.goto 40, 3) := by decide +kernel
theorem dX5_holds_210 : decode cX5_holds 210 = .ok (.iload_n 2, 1) := by decide +kernel
theorem dX5_holds_211 : decode cX5_holds 211 = .ok (.iconst 1, 1) := by decide +kernel
theorem dX5_holds_212 : decode cX5_holds 212 = .ok (.ishl, 1) := by decide +kernel
theorem dX5_holds_213 : decode cX5_holds 213 = .ok (.iload 4, 2) := by decide +kernel
theorem dX5_holds_215 : decode cX5_holds 215 = .ok (.iload 5, 2) := by decide +kernel
theorem dX5_holds_217 : decode cX5_holds 217 = .ok (.if_icmp .ne 7, 3) := by decide +kernel
theorem dX5_holds_220 : decode cX5_holds 220 = .ok (.iconst 1, 1) := by decide +kernel
theorem dX5_holds_221 : decode cX5_holds 221 = .ok (.goto 4, 3) := by decide +kernel
theorem dX5_holds_224 : decode cX5_holds 224 = .ok (.iconst 0, 1) := by decide +kernel
theorem dX5_holds_225 : decode cX5_holds 225 = .ok (.ior, 1) := by decide +kernel
theorem dX5_holds_226 : decode cX5_holds 226 = .ok (.istore_n 2, 1) := by decide +kernel
theorem dX5_holds_227 : decode cX5_holds 227 = .ok (.goto 20, 3) := by decide +kernel
theorem dX5_holds_230 : decode cX5_holds 230 = .ok (.iload_n 2, 1) := by decide +kernel
theorem dX5_holds_231 : decode cX5_holds 231 = .ok (.iconst 1, 1) := by decide +kernel
theorem dX5_holds_232 : decode cX5_holds 232 = .ok (.ishl, 1) := by decide +kernel
theorem dX5_holds_233 : decode cX5_holds 233 = .ok (.iload 4, 2) := by decide +kernel
theorem dX5_holds_235 : decode cX5_holds 235 = .ok (.iload 5, 2) := by decide +kernel
theorem dX5_holds_237 : decode cX5_holds 237 = .ok (.if_icmp .le 7, 3) := by decide +kernel
theorem dX5_holds_240 : decode cX5_holds 240 = .ok (.iconst 1, 1) := by decide +kernel
theorem dX5_holds_241 : decode cX5_holds 241 = .ok (.goto 4, 3) := by decide +kernel
theorem dX5_holds_244 : decode cX5_holds 244 = .ok (.iconst 0, 1) := by decide +kernel
theorem dX5_holds_245 : decode cX5_holds 245 = .ok (.ior, 1) := by decide +kernel
theorem dX5_holds_246 : decode cX5_holds 246 = .ok (.istore_n 2, 1) := by decide +kernel
theorem dX5_holds_247 : decode cX5_holds 247 = .ok (.iinc 3 1, 3) := by decide +kernel
theorem dX5_holds_250 : decode cX5_holds 250 = .ok (.goto (-220), 3) := by decide +kernel
theorem dX5_holds_253 : decode cX5_holds 253 = .ok (.iload_n 2, 1) := by decide +kernel
theorem dX5_holds_254 : decode cX5_holds 254 = .ok (.iconst 1, 1) := by decide +kernel
theorem dX5_holds_255 : decode cX5_holds 255 = .ok (.iand, 1) := by decide +kernel
theorem dX5_holds_256 : decode cX5_holds 256 = .ok (.iconst 1, 1) := by decide +kernel
theorem dX5_holds_257 : decode cX5_holds 257 = .ok (.if_icmp .ne 7, 3) := by decide +kernel
theorem dX5_holds_260 : decode cX5_holds 260 = .ok (.iconst 1, 1) := by decide +kernel
theorem dX5_holds_261 : decode cX5_holds 261 = .ok (.goto 4, 3) := by decide +kernel
theorem dX5_holds_264 : decode cX5_holds 264 = .ok (.iconst 0, 1) := by decide +kernel
theorem dX5_holds_265 : decode cX5_holds 265 = .ok (.ireturn, 1) := by decide +kernel
theorem dX6_init_0 : decode cX6_init 0 = .ok (.aload_n 0, 1) := by decide +kernel
theorem dX6_init_1 : decode cX6_init 1 = .ok (.invokespecial 3, 3) := by decide +kernel
theorem dX6_init_4 : decode cX6_init 4 = .ok (.aload_n 0, 1) := by decide +kernel
theorem dX6_init_5 : decode cX6_init 5 = .ok (.bipush 6, 2) := by decide +kernel
theorem dX6_init_7 : decode cX6_init 7 = .ok (.newarray .int, 2) := by decide +kernel
theorem dX6_init_9 : decode cX6_init 9 = .ok (.putfield 9, 3) := by decide +kernel
theorem dX6_init_12 : decode cX6_init 12 = .ok (.aload_n 0, 1) := by decide +kernel
theorem dX6_init_13 : decode cX6_init 13 = .ok (.iconst 0, 1) := by decide +kernel
theorem dX6_init_14 : decode cX6_init 14 = .ok (.putfield 15, 3) := by decide +kernel
theorem dX6_init_17 : decode cX6_init 17 = .ok (.aload_n 0, 1) := by decide +kernel
theorem dX6_init_18 : decode cX6_init 18 = .ok (.iconst 0, 1) := by decide +kernel
theorem dX6_init_19 : decode cX6_init 19 = .ok (.putfield 19, 3) := by decide +kernel
theorem dX6_init_22 : decode cX6_init 22 = .ok (.aload_n 0, 1) := by decide +kernel
theorem dX6_init_23 : decode cX6_init 23 = .ok (.iconst 0, 1) := by decide +kernel
theorem dX6_init_24 : decode cX6_init 24 = .ok (.putfield 22, 3) := by decide +kernel
theorem dX6_init_27 : decode cX6_init 27 = .ok (.return_, 1) := by decide +kernel
theorem dX6_become_0 : decode cX6_become 0 = .ok (.aload_n 1, 1) := by decide +kernel
theorem dX6_become_1 : decode cX6_become 1 = .ok (.getfield 9, 3) := by decide +kernel
theorem dX6_become_4 : decode cX6_become 4 = .ok (.iconst 0, 1) := by decide +kernel
theorem dX6_become_5 : decode cX6_become 5 = .ok (.aload_n 0, 1) := by decide +kernel
theorem dX6_become_6 : decode cX6_become 6 = .ok (.getfield 9, 3) := by decide +kernel
theorem dX6_become_9 : decode cX6_become 9 = .ok (.iconst 0, 1) := by decide +kernel
theorem dX6_become_10 : decode cX6_become 10 = .ok (.bipush 6, 2) := by decide +kernel
theorem dX6_become_12 : decode cX6_become 12 = .ok (.invokestatic 25, 3) := by decide +kernel
theorem dX6_become_15 : decode cX6_become 15 = .ok (.aload_n 0, 1) := by decide +kernel
theorem dX6_become_16 : decode cX6_become 16 = .ok (.aload_n 1, 1) := by decide +kernel
theorem dX6_become_17 : decode cX6_become 17 = .ok (.getfield 15, 3) := by decide +kernel
theorem dX6_become_20 : decode cX6_become 20 = .ok (.putfield 15, 3) := by decide +kernel
theorem dX6_become_23 : decode cX6_become 23 = .ok (.aload_n 0, 1) := by decide +kernel
theorem dX6_become_24 : decode cX6_become 24 = .ok (.aload_n 1, 1) := by decide +kernel
theorem dX6_become_25 : decode cX6_become 25 = .ok (.getfield 19, 3) := by decide +kernel
theorem dX6_become_28 : decode cX6_become 28 = .ok (.putfield 19, 3) := by decide +kernel
theorem dX6_become_31 : decode cX6_become 31 = .ok (.aload_n 0, 1) := by decide +kernel
theorem dX6_become_32 : decode cX6_become 32 = .ok (.aload_n 1, 1) := by decide +kernel
theorem dX6_become_33 : decode cX6_become 33 = .ok (.getfield 22, 3) := by decide +kernel
theorem dX6_become_36 : decode cX6_become 36 = .ok (.putfield 22, 3) := by decide +kernel
theorem dX6_become_39 : decode cX6_become 39 = .ok (.return_, 1) := by decide +kernel
theorem dX6_isHome_0 : decode cX6_isHome 0 = .ok (.aload_n 0, 1) := by decide +kernel
theorem dX6_isHome_1 : decode cX6_isHome 1 = .ok (.getfield 22, 3) := by decide +kernel
theorem dX6_isHome_4 : decode cX6_isHome 4 = .ok (.iload_n 1, 1) := by decide +kernel
theorem dX6_isHome_5 : decode cX6_isHome 5 = .ok (.ishr, 1) := by decide +kernel
theorem dX6_isHome_6 : decode cX6_isHome 6 = .ok (.iconst 1, 1) := by decide +kernel
theorem dX6_isHome_7 : decode cX6_isHome 7 = .ok (.iand, 1) := by decide +kernel
theorem dX6_isHome_8 : decode cX6_isHome 8 = .ok (.iconst 1, 1) := by decide +kernel
theorem dX6_isHome_9 : decode cX6_isHome 9 = .ok (.if_icmp .ne 7, 3) := by decide +kernel
theorem dX6_isHome_12 : decode cX6_isHome 12 = .ok (.iconst 1, 1) := by decide +kernel
theorem dX6_isHome_13 : decode cX6_isHome 13 = .ok (.goto 4, 3) := by decide +kernel
theorem dX6_isHome_16 : decode cX6_isHome 16 = .ok (.iconst 0, 1) := by decide +kernel
theorem dX6_isHome_17 : decode cX6_isHome 17 = .ok (.ireturn, 1) := by decide +kernel
theorem dX6_isOnRock_0 : decode cX6_isOnRock 0 = .ok (.aload_n 0, 1) := by decide +kernel
theorem dX6_isOnRock_1 : decode cX6_isOnRock 1 = .ok (.iload_n 1, 1) := by decide +kernel
theorem dX6_isOnRock_2 : decode cX6_isOnRock 2 = .ok (.invokevirtual 31, 3) := by decide +kernel
theorem dX6_isOnRock_5 : decode cX6_isOnRock 5 = .ok (.ifCond .ne 16, 3) := by decide +kernel
theorem dX6_isOnRock_8 : decode cX6_isOnRock 8 = .ok (.aload_n 0, 1) := by decide +kernel
theorem dX6_isOnRock_9 : decode cX6_isOnRock 9 = .ok (.getfield 9, 3) := by decide +kernel
theorem dX6_isOnRock_12 : decode cX6_isOnRock 12 = .ok (.iload_n 1, 1) := by decide +kernel
theorem dX6_isOnRock_13 : decode cX6_isOnRock 13 = .ok (.iaload, 1) := by decide +kernel
theorem dX6_isOnRock_14 : decode cX6_isOnRock 14 = .ok (.ifCond .ne 7, 3) := by decide +kernel
theorem dX6_isOnRock_17 : decode cX6_isOnRock 17 = .ok (.iconst 1, 1) := by decide +kernel
theorem dX6_isOnRock_18 : decode cX6_isOnRock 18 = .ok (.goto 4, 3) := by decide +kernel
theorem dX6_isOnRock_21 : decode cX6_isOnRock 21 = .ok (.iconst 0, 1) := by decide +kernel
theorem dX6_isOnRock_22 : decode cX6_isOnRock 22 = .ok (.ireturn, 1) := by decide +kernel
theorem dX6_bring_0 : decode cX6_bring 0 = .ok (.aload_n 0, 1) := by decide +kernel
theorem dX6_bring_1 : decode cX6_bring 1 = .ok (.getfield 22, 3) := by decide +kernel
theorem dX6_bring_4 : decode cX6_bring 4 = .ok (.iload_n 1, 1) := by decide +kernel
theorem dX6_bring_5 : decode cX6_bring 5 = .ok (.ishr, 1) := by decide +kernel
theorem dX6_bring_6 : decode cX6_bring 6 = .ok (.iconst 1, 1) := by decide +kernel
theorem dX6_bring_7 : decode cX6_bring 7 = .ok (.iand, 1) := by decide +kernel
theorem dX6_bring_8 : decode cX6_bring 8 = .ok (.istore_n 3, 1) := by decide +kernel
theorem dX6_bring_9 : decode cX6_bring 9 = .ok (.aload_n 0, 1) := by decide +kernel
theorem dX6_bring_10 : decode cX6_bring 10 = .ok (.aload_n 0, 1) := by decide +kernel
theorem dX6_bring_11 : decode cX6_bring 11 = .ok (.getfield 22, 3) := by decide +kernel
theorem dX6_bring_14 : decode cX6_bring 14 = .ok (.iconst 1, 1) := by decide +kernel
theorem dX6_bring_15 : decode cX6_bring 15 = .ok (.iload_n 1, 1) := by decide +kernel
theorem dX6_bring_16 : decode cX6_bring 16 = .ok (.ishl, 1) := by decide +kernel
theorem dX6_bring_17 : decode cX6_bring 17 = .ok (.iconst (-1), 1) := by decide +kernel
theorem dX6_bring_18 : decode cX6_bring 18 = .ok (.ixor, 1) := by decide +kernel
theorem dX6_bring_19 : decode cX6_bring 19 = .ok (.iand, 1) := by decide +kernel
theorem dX6_bring_20 : decode cX6_bring 20 = .ok (.iload_n 2, 1) := by decide +kernel
theorem dX6_bring_21 : decode cX6_bring 21 = .ok (.iload_n 1, 1) := by decide +kernel
theorem dX6_bring_22 : decode cX6_bring 22 = .ok (.ishl, 1) := by decide +kernel
theorem dX6_bring_23 : decode cX6_bring 23 = .ok (.ior, 1) := by decide +kernel
theorem dX6_bring_24 : decode cX6_bring 24 = .ok (.putfield 22, 3) := by decide +kernel
theorem dX6_bring_27 : decode cX6_bring 27 = .ok (.iload_n 3, 1) := by decide +kernel
theorem dX6_bring_28 : decode cX6_bring 28 = .ok (.ireturn, 1) := by decide +kernel
theorem dX7_init_0 : decode cX7_init 0 = .ok (.aload_n 0, 1) := by decide +kernel
theorem dX7_init_1 : decode cX7_init 1 = .ok (.invokespecial 3, 3) := by decide +kernel
theorem dX7_init_4 : decode cX7_init 4 = .ok (.aload_n 0, 1) := by decide +kernel
theorem dX7_init_5 : decode cX7_init 5 = .ok (.bipush 30, 2) := by decide +kernel
theorem dX7_init_7 : decode cX7_init 7 = .ok (.newarray .int, 2) := by decide +kernel
theorem dX7_init_9 : decode cX7_init 9 = .ok (.putfield 11, 3) := by decide +kernel
theorem dX7_init_12 : decode cX7_init 12 = .ok (.aload_n 0, 1) := by decide +kernel
theorem dX7_init_13 : decode cX7_init 13 = .ok (.iconst 0, 1) := by decide +kernel
theorem dX7_init_14 : decode cX7_init 14 = .ok (.putfield 15, 3) := by decide +kernel
theorem dX7_init_17 : decode cX7_init 17 = .ok (.aload_n 0, 1) := by decide +kernel
theorem dX7_init_18 : decode cX7_init 18 = .ok (.iconst 0, 1) := by decide +kernel
theorem dX7_init_19 : decode cX7_init 19 = .ok (.putfield 19, 3) := by decide +kernel
theorem dX7_init_22 : decode cX7_init 22 = .ok (.aload_n 0, 1) := by decide +kernel
theorem dX7_init_23 : decode cX7_init 23 = .ok (.iconst 0, 1) := by decide +kernel
theorem dX7_init_24 : decode cX7_init 24 = .ok (.putfield 23, 3) := by decide +kernel
theorem dX7_init_27 : decode cX7_init 27 = .ok (.aload_n 0, 1) := by decide +kernel
theorem dX7_init_28 : decode cX7_init 28 = .ok (.iconst 0, 1) := by decide +kernel
theorem dX7_init_29 : decode cX7_init 29 = .ok (.putfield 26, 3) := by decide +kernel
theorem dX7_init_32 : decode cX7_init 32 = .ok (.aload_n 0, 1) := by decide +kernel
theorem dX7_init_33 : decode cX7_init 33 = .ok (.iconst 0, 1) := by decide +kernel
theorem dX7_init_34 : decode cX7_init 34 = .ok (.putfield 29, 3) := by decide +kernel
theorem dX7_init_37 : decode cX7_init 37 = .ok (.return_, 1) := by decide +kernel
theorem dX7_stand_0 : decode cX7_stand 0 = .ok (.aload_n 0, 1) := by decide +kernel
theorem dX7_stand_1 : decode cX7_stand 1 = .ok (.iload_n 1, 1) := by decide +kernel
theorem dX7_stand_2 : decode cX7_stand 2 = .ok (.putfield 23, 3) := by decide +kernel
theorem dX7_stand_5 : decode cX7_stand 5 = .ok (.aload_n 0, 1) := by decide +kernel
theorem dX7_stand_6 : decode cX7_stand 6 = .ok (.iload_n 2, 1) := by decide +kernel
theorem dX7_stand_7 : decode cX7_stand 7 = .ok (.putfield 26, 3) := by decide +kernel
theorem dX7_stand_10 : decode cX7_stand 10 = .ok (.aload_n 0, 1) := by decide +kernel
theorem dX7_stand_11 : decode cX7_stand 11 = .ok (.iload_n 3, 1) := by decide +kernel
theorem dX7_stand_12 : decode cX7_stand 12 = .ok (.putfield 29, 3) := by decide +kernel
theorem dX7_stand_15 : decode cX7_stand 15 = .ok (.return_, 1) := by decide +kernel
theorem dX7_forgetTrace_0 : decode cX7_forgetTrace 0 = .ok (.aload_n 0, 1) := by decide +kernel
theorem dX7_forgetTrace_1 : decode cX7_forgetTrace 1 = .ok (.iconst 0, 1) := by decide +kernel
theorem dX7_forgetTrace_2 : decode cX7_forgetTrace 2 = .ok (.putfield 15, 3) := by decide +kernel
theorem dX7_forgetTrace_5 : decode cX7_forgetTrace 5 = .ok (.aload_n 0, 1) := by decide +kernel
theorem dX7_forgetTrace_6 : decode cX7_forgetTrace 6 = .ok (.iconst 0, 1) := by decide +kernel
theorem dX7_forgetTrace_7 : decode cX7_forgetTrace 7 = .ok (.putfield 19, 3) := by decide +kernel
theorem dX7_forgetTrace_10 : decode cX7_forgetTrace 10 = .ok (.return_, 1) := by decide +kernel
theorem dX7_begin_0 : decode cX7_begin 0 = .ok (.aload_n 0, 1) := by decide +kernel
theorem dX7_begin_1 : decode cX7_begin 1 = .ok (.getfield 19, 3) := by decide +kernel
theorem dX7_begin_4 : decode cX7_begin 4 = .ok (.ifCond .ne 32, 3) := by decide +kernel
theorem dX7_begin_7 : decode cX7_begin 7 = .ok (.aload_n 0, 1) := by decide +kernel
theorem dX7_begin_8 : decode cX7_begin 8 = .ok (.getfield 15, 3) := by decide +kernel
theorem dX7_begin_11 : decode cX7_begin 11 = .ok (.bipush 30, 2) := by decide +kernel
theorem dX7_begin_13 : decode cX7_begin 13 = .ok (.if_icmp .ge 23, 3) := by decide +kernel
theorem dX7_begin_16 : decode cX7_begin 16 = .ok (.aload_n 0, 1) := by decide +kernel
theorem dX7_begin_17 : decode cX7_begin 17 = .ok (.getfield 11, 3) := by decide +kernel
theorem dX7_begin_20 : decode cX7_begin 20 = .ok (.aload_n 0, 1) := by decide +kernel
theorem dX7_begin_21 : decode cX7_begin 21 = .ok (.getfield 15, 3) := by decide +kernel
theorem dX7_begin_24 : decode cX7_begin 24 = .ok (.iload_n 1, 1) := by decide +kernel
theorem dX7_begin_25 : decode cX7_begin 25 = .ok (.iastore, 1) := by decide +kernel
theorem dX7_begin_26 : decode cX7_begin 26 = .ok (.aload_n 0, 1) := by decide +kernel
theorem dX7_begin_27 : decode cX7_begin 27 = .ok (.dup, 1) := by decide +kernel
theorem dX7_begin_28 : decode cX7_begin 28 = .ok (.getfield 15, 3) := by decide +kernel
theorem dX7_begin_31 : decode cX7_begin 31 = .ok (.iconst 1, 1) := by decide +kernel
theorem dX7_begin_32 : decode cX7_begin 32 = .ok (.iadd, 1) := by decide +kernel
theorem dX7_begin_33 : decode cX7_begin 33 = .ok (.putfield 15, 3) := by decide +kernel
theorem dX7_begin_36 : decode cX7_begin 36 = .ok (.return_, 1) := by decide +kernel
theorem dX7_sights_0 : decode cX7_sights 0 = .ok (.aload_n 0, 1) := by decide +kernel
theorem dX7_sights_1 : decode cX7_sights 1 = .ok (.getfield 23, 3) := by decide +kernel
theorem dX7_sights_4 : decode cX7_sights 4 = .ok (.lookupswitch 58 #[(1, 28), (3, 43)], 28) := by decide +kernel
theorem dX7_sights_32 : decode cX7_sights 32 = .ok (.aload_n 0, 1) := by decide +kernel
theorem dX7_sights_33 : decode cX7_sights 33 = .ok (.bipush 20, 2) := by decide +kernel
theorem dX7_sights_35 : decode cX7_sights 35 = .ok (.invokevirtual 32, 3) := by decide +kernel
theorem dX7_sights_38 : decode cX7_sights 38 = .ok (.aload_n 0, 1) := by decide +kernel
theorem dX7_sights_39 : decode cX7_sights 39 = .ok (.iload_n 1, 1) := by decide +kernel
theorem dX7_sights_40 : decode cX7_sights 40 = .ok (.invokevirtual 36, 3) := by decide +kernel
theorem dX7_sights_43 : decode cX7_sights 43 = .ok (.bipush 21, 2) := by decide +kernel
theorem dX7_sights_45 : decode cX7_sights 45 = .ok (.ixor, 1) := by decide +kernel
theorem dX7_sights_46 : decode cX7_sights 46 = .ok (.ireturn, 1) := by decide +kernel
theorem dX7_sights_47 : decode cX7_sights 47 = .ok (.aload_n 0, 1) := by decide +kernel
theorem dX7_sights_48 : decode cX7_sights 48 = .ok (.bipush 50, 2) := by decide +kernel
theorem dX7_sights_50 : decode cX7_sights 50 = .ok (.invokevirtual 32, 3) := by decide +kernel
theorem dX7_sights_53 : decode cX7_sights 53 = .ok (.aload_n 0, 1) := by decide +kernel
theorem dX7_sights_54 : decode cX7_sights 54 = .ok (.iload_n 1, 1) := by decide +kernel
theorem dX7_sights_55 : decode cX7_sights 55 = .ok (.bipush 13, 2) := by decide +kernel
theorem dX7_sights_57 : decode cX7_sights 57 = .ok (.iadd, 1) := by decide +kernel
theorem dX7_sights_58 : decode cX7_sights 58 = .ok (.invokevirtual 36, 3) := by decide +kernel
theorem dX7_sights_61 : decode cX7_sights 61 = .ok (.ireturn, 1) := by decide +kernel
theorem dX7_sights_62 : decode cX7_sights 62 = .ok (.aload_n 0, 1) := by decide +kernel
theorem dX7_sights_63 : decode cX7_sights 63 = .ok (.iload_n 1, 1) := by decide +kernel
theorem dX7_sights_64 : decode cX7_sights 64 = .ok (.invokevirtual 36, 3) := by decide +kernel
theorem dX7_sights_67 : decode cX7_sights 67 = .ok (.ireturn, 1) := by decide +kernel
theorem dX7_shipSights_0 : decode cX7_shipSights 0 = .ok (.aload_n 0, 1) := by decide +kernel
theorem dX7_shipSights_1 : decode cX7_shipSights 1 = .ok (.bipush 10, 2) := by decide +kernel
theorem dX7_shipSights_3 : decode cX7_shipSights 3 = .ok (.invokevirtual 32, 3) := by decide +kernel
theorem dX7_shipSights_6 : decode cX7_shipSights 6 = .ok (.iload_n 1, 1) := by decide +kernel
theorem dX7_shipSights_7 : decode cX7_shipSights 7 = .ok (.bipush 9, 2) := by decide +kernel
theorem dX7_shipSights_9 : decode cX7_shipSights 9 = .ok (.imul, 1) := by decide +kernel
theorem dX7_shipSights_10 : decode cX7_shipSights 10 = .ok (.aload_n 0, 1) := by decide +kernel
theorem dX7_shipSights_11 : decode cX7_shipSights 11 = .ok (.getfield 26, 3) := by decide +kernel
theorem dX7_shipSights_14 : decode cX7_shipSights 14 = .ok (.isub, 1) := by decide +kernel
theorem dX7_shipSights_15 : decode cX7_shipSights 15 = .ok (.ireturn, 1) := by decide +kernel
theorem dX7_tacks_0 : decode cX7_tacks 0 = .ok (.aload_n 0, 1) := by decide +kernel
theorem dX7_tacks_1 : decode cX7_tacks 1 = .ok (.getfield 23, 3) := by decide +kernel
theorem dX7_tacks_4 : decode cX7_tacks 4 = .ok (.tableswitch 60 2 5 #[32, 32, 60, 46], 32) := by decide +kernel
theorem dX7_tacks_36 : decode cX7_tacks 36 = .ok (.aload_n 0, 1) := by decide +kernel
theorem dX7_tacks_37 : decode cX7_tacks 37 = .ok (.bipush 30, 2) := by decide +kernel
theorem dX7_tacks_39 : decode cX7_tacks 39 = .ok (.invokevirtual 32, 3) := by decide +kernel
theorem dX7_tacks_42 : decode cX7_tacks 42 = .ok (.aload_n 0, 1) := by decide +kernel
theorem dX7_tacks_43 : decode cX7_tacks 43 = .ok (.iload_n 1, 1) := by decide +kernel
theorem dX7_tacks_44 : decode cX7_tacks 44 = .ok (.invokevirtual 40, 3) := by decide +kernel
theorem dX7_tacks_47 : decode cX7_tacks 47 = .ok (.iconst 2, 1) := by decide +kernel
theorem dX7_tacks_48 : decode cX7_tacks 48 = .ok (.imul, 1) := by decide +kernel
theorem dX7_tacks_49 : decode cX7_tacks 49 = .ok (.ireturn, 1) := by decide +kernel
theorem dX7_tacks_50 : decode cX7_tacks 50 = .ok (.aload_n 0, 1) := by decide +kernel
theorem dX7_tacks_51 : decode cX7_tacks 51 = .ok (.bipush 60, 2) := by decide +kernel
theorem dX7_tacks_53 : decode cX7_tacks 53 = .ok (.invokevirtual 32, 3) := by decide +kernel
theorem dX7_tacks_56 : decode cX7_tacks 56 = .ok (.iconst 0, 1) := by decide +kernel
theorem dX7_tacks_57 : decode cX7_tacks 57 = .ok (.aload_n 0, 1) := by decide +kernel
theorem dX7_tacks_58 : decode cX7_tacks 58 = .ok (.iload_n 1, 1) := by decide +kernel
theorem dX7_tacks_59 : decode cX7_tacks 59 = .ok (.invokevirtual 40, 3) := by decide +kernel
theorem dX7_tacks_62 : decode cX7_tacks 62 = .ok (.isub, 1) := by decide +kernel
theorem dX7_tacks_63 : decode cX7_tacks 63 = .ok (.ireturn, 1) := by decide +kernel
theorem dX7_tacks_64 : decode cX7_tacks 64 = .ok (.aload_n 0, 1) := by decide +kernel
theorem dX7_tacks_65 : decode cX7_tacks 65 = .ok (.iload_n 1, 1) := by decide +kernel
theorem dX7_tacks_66 : decode cX7_tacks 66 = .ok (.invokevirtual 40, 3) := by decide +kernel
theorem dX7_tacks_69 : decode cX7_tacks 69 = .ok (.ireturn, 1) := by decide +kernel
theorem dX7_shipTacks_0 : decode cX7_shipTacks 0 = .ok (.aload_n 0, 1) := by decide +kernel
theorem dX7_shipTacks_1 : decode cX7_shipTacks 1 = .ok (.bipush 11, 2) := by decide +kernel
theorem dX7_shipTacks_3 : decode cX7_shipTacks 3 = .ok (.invokevirtual 32, 3) := by decide +kernel
theorem dX7_shipTacks_6 : decode cX7_shipTacks 6 = .ok (.aload_n 0, 1) := by decide +kernel
theorem dX7_shipTacks_7 : decode cX7_shipTacks 7 = .ok (.iload_n 1, 1) := by decide +kernel
theorem dX7_shipTacks_8 : decode cX7_shipTacks 8 = .ok (.invokevirtual 43, 3) := by decide +kernel
theorem dX7_shipTacks_11 : decode cX7_shipTacks 11 = .ok (.iconst 3, 1) := by decide +kernel
theorem dX7_shipTacks_12 : decode cX7_shipTacks 12 = .ok (.aload_n 0, 1) := by decide +kernel
theorem dX7_shipTacks_13 : decode cX7_shipTacks 13 = .ok (.getfield 29, 3) := by decide +kernel
theorem dX7_shipTacks_16 : decode cX7_shipTacks 16 = .ok (.imul, 1) := by decide +kernel
theorem dX7_shipTacks_17 : decode cX7_shipTacks 17 = .ok (.isub, 1) := by decide +kernel
theorem dX7_shipTacks_18 : decode cX7_shipTacks 18 = .ok (.ireturn, 1) := by decide +kernel
theorem dX7_sounds_0 : decode cX7_sounds 0 = .ok (.aload_n 0, 1) := by decide +kernel
theorem dX7_sounds_1 : decode cX7_sounds 1 = .ok (.getfield 23, 3) := by decide +kernel
theorem dX7_sounds_4 : decode cX7_sounds 4 = .ok (.lookupswitch 55 #[(4, 28), (5, 34)], 28) := by decide +kernel
theorem dX7_sounds_32 : decode cX7_sounds 32 = .ok (.aload_n 0, 1) := by decide +kernel
theorem dX7_sounds_33 : decode cX7_sounds 33 = .ok (.iload_n 1, 1) := by decide +kernel
theorem dX7_sounds_34 : decode cX7_sounds 34 = .ok (.invokevirtual 46, 3) := by decide +kernel
theorem dX7_sounds_37 : decode cX7_sounds 37 = .ok (.ireturn, 1) := by decide +kernel
theorem dX7_sounds_38 : decode cX7_sounds 38 = .ok (.aload_n 0, 1) := by decide +kernel
theorem dX7_sounds_39 : decode cX7_sounds 39 = .ok (.bipush 61, 2) := by decide +kernel
theorem dX7_sounds_41 : decode cX7_sounds 41 = .ok (.invokevirtual 32, 3) := by decide +kernel
theorem dX7_sounds_44 : decode cX7_sounds 44 = .ok (.aload_n 0, 1) := by decide +kernel
theorem dX7_sounds_45 : decode cX7_sounds 45 = .ok (.iload_n 1, 1) := by decide +kernel
theorem dX7_sounds_46 : decode cX7_sounds 46 = .ok (.invokevirtual 46, 3) := by decide +kernel
theorem dX7_sounds_49 : decode cX7_sounds 49 = .ok (.aload_n 0, 1) := by decide +kernel
theorem dX7_sounds_50 : decode cX7_sounds 50 = .ok (.aload_n 0, 1) := by decide +kernel
theorem dX7_sounds_51 : decode cX7_sounds 51 = .ok (.getfield 26, 3) := by decide +kernel
theorem dX7_sounds_54 : decode cX7_sounds 54 = .ok (.invokevirtual 43, 3) := by decide +kernel
theorem dX7_sounds_57 : decode cX7_sounds 57 = .ok (.ixor, 1) := by decide +kernel
theorem dX7_sounds_58 : decode cX7_sounds 58 = .ok (.ireturn, 1) := by decide +kernel
theorem dX7_sounds_59 : decode cX7_sounds 59 = .ok (.aload_n 0, 1) := by decide +kernel
theorem dX7_sounds_60 : decode cX7_sounds 60 = .ok (.iload_n 1, 1) := by decide +kernel
theorem dX7_sounds_61 : decode cX7_sounds 61 = .ok (.invokevirtual 49, 3) := by decide +kernel
theorem dX7_sounds_64 : decode cX7_sounds 64 = .ok (.ireturn, 1) := by decide +kernel
theorem dX7_brigSounds_0 : decode cX7_brigSounds 0 = .ok (.aload_n 0, 1) := by decide +kernel
theorem dX7_brigSounds_1 : decode cX7_brigSounds 1 = .ok (.bipush 40, 2) := by decide +kernel
theorem dX7_brigSounds_3 : decode cX7_brigSounds 3 = .ok (.invokevirtual 32, 3) := by decide +kernel
theorem dX7_brigSounds_6 : decode cX7_brigSounds 6 = .ok (.aload_n 0, 1) := by decide +kernel
theorem dX7_brigSounds_7 : decode cX7_brigSounds 7 = .ok (.iload_n 1, 1) := by decide +kernel
theorem dX7_brigSounds_8 : decode cX7_brigSounds 8 = .ok (.invokevirtual 49, 3) := by decide +kernel
theorem dX7_brigSounds_11 : decode cX7_brigSounds 11 = .ok (.bipush 7, 2) := by decide +kernel
theorem dX7_brigSounds_13 : decode cX7_brigSounds 13 = .ok (.iadd, 1) := by decide +kernel
theorem dX7_brigSounds_14 : decode cX7_brigSounds 14 = .ok (.ireturn, 1) := by decide +kernel
theorem dX7_shipSounds_0 : decode cX7_shipSounds 0 = .ok (.aload_n 0, 1) := by decide +kernel
theorem dX7_shipSounds_1 : decode cX7_shipSounds 1 = .ok (.bipush 12, 2) := by decide +kernel
theorem dX7_shipSounds_3 : decode cX7_shipSounds 3 = .ok (.invokevirtual 32, 3) := by decide +kernel
theorem dX7_shipSounds_6 : decode cX7_shipSounds 6 = .ok (.aload_n 0, 1) := by decide +kernel
theorem dX7_shipSounds_7 : decode cX7_shipSounds 7 = .ok (.getfield 26, 3) := by decide +kernel
theorem dX7_shipSounds_10 : decode cX7_shipSounds 10 = .ok (.aload_n 0, 1) := by decide +kernel
theorem dX7_shipSounds_11 : decode cX7_shipSounds 11 = .ok (.getfield 29, 3) := by decide +kernel
theorem dX7_shipSounds_14 : decode cX7_shipSounds 14 = .ok (.iadd, 1) := by decide +kernel
theorem dX7_shipSounds_15 : decode cX7_shipSounds 15 = .ok (.iconst 5, 1) := by decide +kernel
theorem dX7_shipSounds_16 : decode cX7_shipSounds 16 = .ok (.isub, 1) := by decide +kernel
theorem dX7_shipSounds_17 : decode cX7_shipSounds 17 = .ok (.istore_n 2, 1) := by decide +kernel
theorem dX7_shipSounds_18 : decode cX7_shipSounds 18 = .ok (.iload_n 2, 1) := by decide +kernel
theorem dX7_shipSounds_19 : decode cX7_shipSounds 19 = .ok (.ifCond .ne 10, 3) := by decide +kernel
theorem dX7_shipSounds_22 : decode cX7_shipSounds 22 = .ok (.aload_n 0, 1) := by decide +kernel
theorem dX7_shipSounds_23 : decode cX7_shipSounds 23 = .ok (.iconst 1, 1) := by decide +kernel
theorem dX7_shipSounds_24 : decode cX7_shipSounds 24 = .ok (.putfield 19, 3) := by decide +kernel
theorem dX7_shipSounds_27 : decode cX7_shipSounds 27 = .ok (.iconst 0, 1) := by decide +kernel
theorem dX7_shipSounds_28 : decode cX7_shipSounds 28 = .ok (.ireturn, 1) := by decide +kernel
theorem dX7_shipSounds_29 : decode cX7_shipSounds 29 = .ok (.iload_n 1, 1) := by decide +kernel
theorem dX7_shipSounds_30 : decode cX7_shipSounds 30 = .ok (.iload_n 2, 1) := by decide +kernel
theorem dX7_shipSounds_31 : decode cX7_shipSounds 31 = .ok (.irem, 1) := by decide +kernel
theorem dX7_shipSounds_32 : decode cX7_shipSounds 32 = .ok (.ireturn, 1) := by decide +kernel
theorem dX7_lands_0 : decode cX7_lands 0 = .ok (.aload_n 0, 1) := by decide +kernel
theorem dX7_lands_1 : decode cX7_lands 1 = .ok (.getfield 23, 3) := by decide +kernel
theorem dX7_lands_4 : decode cX7_lands 4 = .ok (.iconst 3, 1) := by decide +kernel
theorem dX7_lands_5 : decode cX7_lands 5 = .ok (.if_icmp .ne 24, 3) := by decide +kernel
theorem dX7_lands_8 : decode cX7_lands 8 = .ok (.aload_n 0, 1) := by decide +kernel
theorem dX7_lands_9 : decode cX7_lands 9 = .ok (.bipush 51, 2) := by decide +kernel
theorem dX7_lands_11 : decode cX7_lands 11 = .ok (.invokevirtual 32, 3) := by decide +kernel
theorem dX7_lands_14 : decode cX7_lands 14 = .ok (.aload_n 0, 1) := by decide +kernel
theorem dX7_lands_15 : decode cX7_lands 15 = .ok (.iload_n 1, 1) := by decide +kernel
theorem dX7_lands_16 : decode cX7_lands 16 = .ok (.invokevirtual 52, 3) := by decide +kernel
theorem dX7_lands_19 : decode cX7_lands 19 = .ok (.aload_n 0, 1) := by decide +kernel
theorem dX7_lands_20 : decode cX7_lands 20 = .ok (.aload_n 0, 1) := by decide +kernel
theorem dX7_lands_21 : decode cX7_lands 21 = .ok (.getfield 29, 3) := by decide +kernel
theorem dX7_lands_24 : decode cX7_lands 24 = .ok (.invokevirtual 55, 3) := by decide +kernel
theorem dX7_lands_27 : decode cX7_lands 27 = .ok (.isub, 1) := by decide +kernel
theorem dX7_lands_28 : decode cX7_lands 28 = .ok (.ireturn, 1) := by decide +kernel
theorem dX7_lands_29 : decode cX7_lands 29 = .ok (.aload_n 0, 1) := by decide +kernel
theorem dX7_lands_30 : decode cX7_lands 30 = .ok (.iload_n 1, 1) := by decide +kernel
theorem dX7_lands_31 : decode cX7_lands 31 = .ok (.invokevirtual 52, 3) := by decide +kernel
theorem dX7_lands_34 : decode cX7_lands 34 = .ok (.ireturn, 1) := by decide +kernel
theorem dX7_shipLands_0 : decode cX7_shipLands 0 = .ok (.aload_n 0, 1) := by decide +kernel
theorem dX7_shipLands_1 : decode cX7_shipLands 1 = .ok (.bipush 13, 2) := by decide +kernel
theorem dX7_shipLands_3 : decode cX7_shipLands 3 = .ok (.invokevirtual 32, 3) := by decide +kernel
theorem dX7_shipLands_6 : decode cX7_shipLands 6 = .ok (.aload_n 0, 1) := by decide +kernel
theorem dX7_shipLands_7 : decode cX7_shipLands 7 = .ok (.iload_n 1, 1) := by decide +kernel
theorem dX7_shipLands_8 : decode cX7_shipLands 8 = .ok (.invokevirtual 55, 3) := by decide +kernel
theorem dX7_shipLands_11 : decode cX7_shipLands 11 = .ok (.aload_n 0, 1) := by decide +kernel
theorem dX7_shipLands_12 : decode cX7_shipLands 12 = .ok (.iload_n 1, 1) := by decide +kernel
theorem dX7_shipLands_13 : decode cX7_shipLands 13 = .ok (.invokevirtual 58, 3) := by decide +kernel
theorem dX7_shipLands_16 : decode cX7_shipLands 16 = .ok (.iadd, 1) := by decide +kernel
theorem dX7_shipLands_17 : decode cX7_shipLands 17 = .ok (.ireturn, 1) := by decide +kernel
theorem dX8_init_0 : decode cX8_init 0 = .ok (.aload_n 0, 1) := by decide +kernel
theorem dX8_init_1 : decode cX8_init 1 = .ok (.invokespecial 1, 3) := by decide +kernel
theorem dX8_init_4 : decode cX8_init 4 = .ok (.aload_n 0, 1) := by decide +kernel
theorem dX8_init_5 : decode cX8_init 5 = .ok (.new 7, 3) := by decide +kernel
theorem dX8_init_8 : decode cX8_init 8 = .ok (.dup, 1) := by decide +kernel
theorem dX8_init_9 : decode cX8_init 9 = .ok (.invokespecial 9, 3) := by decide +kernel
theorem dX8_init_12 : decode cX8_init 12 = .ok (.putfield 10, 3) := by decide +kernel
theorem dX8_init_15 : decode cX8_init 15 = .ok (.aload_n 0, 1) := by decide +kernel
theorem dX8_init_16 : decode cX8_init 16 = .ok (.new 7, 3) := by decide +kernel
theorem dX8_init_19 : decode cX8_init 19 = .ok (.dup, 1) := by decide +kernel
theorem dX8_init_20 : decode cX8_init 20 = .ok (.invokespecial 9, 3) := by decide +kernel
theorem dX8_init_23 : decode cX8_init 23 = .ok (.putfield 16, 3) := by decide +kernel
theorem dX8_init_26 : decode cX8_init 26 = .ok (.aload_n 0, 1) := by decide +kernel
theorem dX8_init_27 : decode cX8_init 27 = .ok (.new 19, 3) := by decide +kernel
theorem dX8_init_30 : decode cX8_init 30 = .ok (.dup, 1) := by decide +kernel
theorem dX8_init_31 : decode cX8_init 31 = .ok (.invokespecial 21, 3) := by decide +kernel
theorem dX8_init_34 : decode cX8_init 34 = .ok (.putfield 22, 3) := by decide +kernel
theorem dX8_init_37 : decode cX8_init 37 = .ok (.aload_n 0, 1) := by decide +kernel
theorem dX8_init_38 : decode cX8_init 38 = .ok (.new 26, 3) := by decide +kernel
theorem dX8_init_41 : decode cX8_init 41 = .ok (.dup, 1) := by decide +kernel
theorem dX8_init_42 : decode cX8_init 42 = .ok (.invokespecial 28, 3) := by decide +kernel
theorem dX8_init_45 : decode cX8_init 45 = .ok (.putfield 29, 3) := by decide +kernel
theorem dX8_init_48 : decode cX8_init 48 = .ok (.aload_n 0, 1) := by decide +kernel
theorem dX8_init_49 : decode cX8_init 49 = .ok (.new 33, 3) := by decide +kernel
theorem dX8_init_52 : decode cX8_init 52 = .ok (.dup, 1) := by decide +kernel
theorem dX8_init_53 : decode cX8_init 53 = .ok (.invokespecial 35, 3) := by decide +kernel
theorem dX8_init_56 : decode cX8_init 56 = .ok (.putfield 36, 3) := by decide +kernel
theorem dX8_init_59 : decode cX8_init 59 = .ok (.aload_n 0, 1) := by decide +kernel
theorem dX8_init_60 : decode cX8_init 60 = .ok (.new 40, 3) := by decide +kernel
theorem dX8_init_63 : decode cX8_init 63 = .ok (.dup, 1) := by decide +kernel
theorem dX8_init_64 : decode cX8_init 64 = .ok (.invokespecial 42, 3) := by decide +kernel
theorem dX8_init_67 : decode cX8_init 67 = .ok (.putfield 43, 3) := by decide +kernel
theorem dX8_init_70 : decode cX8_init 70 = .ok (.aload_n 0, 1) := by decide +kernel
theorem dX8_init_71 : decode cX8_init 71 = .ok (.new 47, 3) := by decide +kernel
theorem dX8_init_74 : decode cX8_init 74 = .ok (.dup, 1) := by decide +kernel
theorem dX8_init_75 : decode cX8_init 75 = .ok (.invokespecial 49, 3) := by decide +kernel
theorem dX8_init_78 : decode cX8_init 78 = .ok (.putfield 50, 3) := by decide +kernel
theorem dX8_init_81 : decode cX8_init 81 = .ok (.aload_n 0, 1) := by decide +kernel
theorem dX8_init_82 : decode cX8_init 82 = .ok (.new 54, 3) := by decide +kernel
theorem dX8_init_85 : decode cX8_init 85 = .ok (.dup, 1) := by decide +kernel
theorem dX8_init_86 : decode cX8_init 86 = .ok (.invokespecial 56, 3) := by decide +kernel
theorem dX8_init_89 : decode cX8_init 89 = .ok (.putfield 57, 3) := by decide +kernel
theorem dX8_init_92 : decode cX8_init 92 = .ok (.aload_n 0, 1) := by decide +kernel
theorem dX8_init_93 : decode cX8_init 93 = .ok (.sipush 200, 3) := by decide +kernel
theorem dX8_init_96 : decode cX8_init 96 = .ok (.newarray .int, 2) := by decide +kernel
theorem dX8_init_98 : decode cX8_init 98 = .ok (.putfield 61, 3) := by decide +kernel
theorem dX8_init_101 : decode cX8_init 101 = .ok (.aload_n 0, 1) := by decide +kernel
theorem dX8_init_102 : decode cX8_init 102 = .ok (.bipush 12, 2) := by decide +kernel
theorem dX8_init_104 : decode cX8_init 104 = .ok (.newarray .int, 2) := by decide +kernel
theorem dX8_init_106 : decode cX8_init 106 = .ok (.putfield 65, 3) := by decide +kernel
theorem dX8_init_109 : decode cX8_init 109 = .ok (.aload_n 0, 1) := by decide +kernel
theorem dX8_init_110 : decode cX8_init 110 = .ok (.iconst 0, 1) := by decide +kernel
theorem dX8_init_111 : decode cX8_init 111 = .ok (.putfield 68, 3) := by decide +kernel
theorem dX8_init_114 : decode cX8_init 114 = .ok (.aload_n 0, 1) := by decide +kernel
theorem dX8_init_115 : decode cX8_init 115 = .ok (.iconst 0, 1) := by decide +kernel
theorem dX8_init_116 : decode cX8_init 116 = .ok (.putfield 72, 3) := by decide +kernel
theorem dX8_init_119 : decode cX8_init 119 = .ok (.aload_n 0, 1) := by decide +kernel
theorem dX8_init_120 : decode cX8_init 120 = .ok (.iconst 0, 1) := by decide +kernel
theorem dX8_init_121 : decode cX8_init 121 = .ok (.putfield 75, 3) := by decide +kernel
theorem dX8_init_124 : decode cX8_init 124 = .ok (.return_, 1) := by decide +kernel
theorem dX8_ship_0 : decode cX8_ship 0 = .ok (.iload_n 1, 1) := by decide +kernel
theorem dX8_ship_1 : decode cX8_ship 1 = .ok (.iconst 1, 1) := by decide +kernel
theorem dX8_ship_2 : decode cX8_ship 2 = .ok (.iconst 5, 1) := by decide +kernel
theorem dX8_ship_3 : decode cX8_ship 3 = .ok (.invokestatic 79, 3) := by decide +kernel
theorem dX8_ship_6 : decode cX8_ship 6 = .ok (.ifCond .eq 13, 3) := by decide +kernel
theorem dX8_ship_9 : decode cX8_ship 9 = .ok (.iload_n 2, 1) := by decide +kernel
theorem dX8_ship_10 : decode cX8_ship 10 = .ok (.iconst 0, 1) := by decide +kernel
theorem dX8_ship_11 : decode cX8_ship 11 = .ok (.bipush 99, 2) := by decide +kernel
theorem dX8_ship_13 : decode cX8_ship 13 = .ok (.invokestatic 79, 3) := by decide +kernel
theorem dX8_ship_16 : decode cX8_ship 16 = .ok (.ifCond .ne 5, 3) := by decide +kernel
theorem dX8_ship_19 : decode cX8_ship 19 = .ok (.iconst (-1), 1) := by decide +kernel
theorem dX8_ship_20 : decode cX8_ship 20 = .ok (.ireturn, 1) := by decide +kernel
theorem dX8_ship_21 : decode cX8_ship 21 = .ok (.iload_n 3, 1) := by decide +kernel
theorem dX8_ship_22 : decode cX8_ship 22 = .ok (.iconst 0, 1) := by decide +kernel
theorem dX8_ship_23 : decode cX8_ship 23 = .ok (.bipush 9, 2) := by decide +kernel
theorem dX8_ship_25 : decode cX8_ship 25 = .ok (.invokestatic 79, 3) := by decide +kernel
theorem dX8_ship_28 : decode cX8_ship 28 = .ok (.ifCond .eq 13, 3) := by decide +kernel
theorem dX8_ship_31 : decode cX8_ship 31 = .ok (.iload 4, 2) := by decide +kernel
theorem dX8_ship_33 : decode cX8_ship 33 = .ok (.iconst 0, 1) := by decide +kernel
theorem dX8_ship_34 : decode cX8_ship 34 = .ok (.iconst 5, 1) := by decide +kernel
theorem dX8_ship_35 : decode cX8_ship 35 = .ok (.invokestatic 79, 3) := by decide +kernel
theorem dX8_ship_38 : decode cX8_ship 38 = .ok (.ifCond .ne 5, 3) := by decide +kernel
theorem dX8_ship_41 : decode cX8_ship 41 = .ok (.iconst (-1), 1) := by decide +kernel
theorem dX8_ship_42 : decode cX8_ship 42 = .ok (.ireturn, 1) := by decide +kernel
theorem dX8_ship_43 : decode cX8_ship 43 = .ok (.aload_n 0, 1) := by decide +kernel
theorem dX8_ship_44 : decode cX8_ship 44 = .ok (.getfield 10, 3) := by decide +kernel
theorem dX8_ship_47 : decode cX8_ship 47 = .ok (.getfield 83, 3) := by decide +kernel
theorem dX8_ship_50 : decode cX8_ship 50 = .ok (.bipush 6, 2) := by decide +kernel
theorem dX8_ship_52 : decode cX8_ship 52 = .ok (.if_icmp .lt 6, 3) := by decide +kernel
theorem dX8_ship_55 : decode cX8_ship 55 = .ok (.bipush (-2), 2) := by decide +kernel
theorem dX8_ship_57 : decode cX8_ship 57 = .ok (.ireturn, 1) := by decide +kernel
theorem dX8_ship_58 : decode cX8_ship 58 = .ok (.aload_n 0, 1) := by decide +kernel
theorem dX8_ship_59 : decode cX8_ship 59 = .ok (.getfield 10, 3) := by decide +kernel
theorem dX8_ship_62 : decode cX8_ship 62 = .ok (.iload_n 1, 1) := by decide +kernel
theorem dX8_ship_63 : decode cX8_ship 63 = .ok (.iload_n 2, 1) := by decide +kernel
theorem dX8_ship_64 : decode cX8_ship 64 = .ok (.iload_n 3, 1) := by decide +kernel
theorem dX8_ship_65 : decode cX8_ship 65 = .ok (.iload 4, 2) := by decide +kernel
theorem dX8_ship_67 : decode cX8_ship 67 = .ok (.invokevirtual 86, 3) := by decide +kernel
theorem dX8_ship_70 : decode cX8_ship 70 = .ok (.ireturn, 1) := by decide +kernel
theorem dX8_shipOf_0 : decode cX8_shipOf 0 = .ok (.aload_n 0, 1) := by decide +kernel
theorem dX8_shipOf_1 : decode cX8_shipOf 1 = .ok (.getfield 10, 3) := by decide +kernel
theorem dX8_shipOf_4 : decode cX8_shipOf 4 = .ok (.iload_n 1, 1) := by decide +kernel
theorem dX8_shipOf_5 : decode cX8_shipOf 5 = .ok (.invokevirtual 90, 3) := by decide +kernel
theorem dX8_shipOf_8 : decode cX8_shipOf 8 = .ok (.ifCond .ne 5, 3) := by decide +kernel
theorem dX8_shipOf_11 : decode cX8_shipOf 11 = .ok (.iconst (-1), 1) := by decide +kernel
theorem dX8_shipOf_12 : decode cX8_shipOf 12 = .ok (.ireturn, 1) := by decide +kernel
theorem dX8_shipOf_13 : decode cX8_shipOf 13 = .ok (.aload_n 0, 1) := by decide +kernel
theorem dX8_shipOf_14 : decode cX8_shipOf 14 = .ok (.getfield 10, 3) := by decide +kernel
theorem dX8_shipOf_17 : decode cX8_shipOf 17 = .ok (.getfield 94, 3) := by decide +kernel
theorem dX8_shipOf_20 : decode cX8_shipOf 20 = .ok (.astore_n 3, 1) := by decide +kernel
theorem dX8_shipOf_21 : decode cX8_shipOf 21 = .ok (.iload_n 2, 1) := by decide +kernel
theorem dX8_shipOf_22 : decode cX8_shipOf 22 = .ok (.tableswitch 172 0 9 #[54, 64, 71, 81, 91, 105, 115, 134, 144, 162], 54) := by decide +kernel
theorem dX8_shipOf_76 : decode cX8_shipOf 76 = .ok (.aload_n 0, 1) := by decide +kernel
theorem dX8_shipOf_77 : decode cX8_shipOf 77 = .ok (.getfield 10, 3) := by decide +kernel
theorem dX8_shipOf_80 : decode cX8_shipOf 80 = .ok (.getfield 97, 3) := by decide +kernel
theorem dX8_shipOf_83 : decode cX8_shipOf 83 = .ok (.iload_n 1, 1) := by decide +kernel
theorem dX8_shipOf_84 : decode cX8_shipOf 84 = .ok (.iaload, 1) := by decide +kernel
theorem dX8_shipOf_85 : decode cX8_shipOf 85 = .ok (.ireturn, 1) := by decide +kernel
theorem dX8_shipOf_86 : decode cX8_shipOf 86 = .ok (.aload_n 3, 1) := by decide +kernel
theorem dX8_shipOf_87 : decode cX8_shipOf 87 = .ok (.getfield 100, 3) := by decide +kernel
theorem dX8_shipOf_90 : decode cX8_shipOf 90 = .ok (.iload_n 1, 1) := by decide +kernel
theorem dX8_shipOf_91 : decode cX8_shipOf 91 = .ok (.iaload, 1) := by decide +kernel
theorem dX8_shipOf_92 : decode cX8_shipOf 92 = .ok (.ireturn, 1) := by decide +kernel
theorem dX8_shipOf_93 : decode cX8_shipOf 93 = .ok (.aload_n 0, 1) := by decide +kernel
theorem dX8_shipOf_94 : decode cX8_shipOf 94 = .ok (.getfield 10, 3) := by decide +kernel
theorem dX8_shipOf_97 : decode cX8_shipOf 97 = .ok (.getfield 103, 3) := by decide +kernel
theorem dX8_shipOf_100 : decode cX8_shipOf 100 = .ok (.iload_n 1, 1) := by decide +kernel
theorem dX8_shipOf_101 : decode cX8_shipOf 101 = .ok (.iaload, 1) := by decide +kernel
theorem dX8_shipOf_102 : decode cX8_shipOf 102 = .ok (.ireturn, 1) := by decide +kernel
theorem dX8_shipOf_103 : decode cX8_shipOf 103 = .ok (.aload_n 0, 1) := by decide +kernel
theorem dX8_shipOf_104 : decode cX8_shipOf 104 = .ok (.getfield 10, 3) := by decide +kernel
theorem dX8_shipOf_107 : decode cX8_shipOf 107 = .ok (.getfield 106, 3) := by decide +kernel
theorem dX8_shipOf_110 : decode cX8_shipOf 110 = .ok (.iload_n 1, 1) := by decide +kernel
theorem dX8_shipOf_111 : decode cX8_shipOf 111 = .ok (.iaload, 1) := by decide +kernel
theorem dX8_shipOf_112 : decode cX8_shipOf 112 = .ok (.ireturn, 1) := by decide +kernel
theorem dX8_shipOf_113 : decode cX8_shipOf 113 = .ok (.aload_n 3, 1) := by decide +kernel
theorem dX8_shipOf_114 : decode cX8_shipOf 114 = .ok (.iload_n 1, 1) := by decide +kernel
theorem dX8_shipOf_115 : decode cX8_shipOf 115 = .ok (.invokevirtual 109, 3) := by decide +kernel
theorem dX8_shipOf_118 : decode cX8_shipOf 118 = .ok (.ifCond .eq 7, 3) := by decide +kernel
theorem dX8_shipOf_121 : decode cX8_shipOf 121 = .ok (.iconst 1, 1) := by decide +kernel
theorem dX8_shipOf_122 : decode cX8_shipOf 122 = .ok (.goto 4, 3) := by decide +kernel
theorem dX8_shipOf_125 : decode cX8_shipOf 125 = .ok (.iconst 0, 1) := by decide +kernel
theorem dX8_shipOf_126 : decode cX8_shipOf 126 = .ok (.ireturn, 1) := by decide +kernel
theorem dX8_shipOf_127 : decode cX8_shipOf 127 = .ok (.aload_n 0, 1) := by decide +kernel
theorem dX8_shipOf_128 : decode cX8_shipOf 128 = .ok (.getfield 10, 3) := by decide +kernel
theorem dX8_shipOf_131 : decode cX8_shipOf 131 = .ok (.aload_n 3, 1) := by decide +kernel
theorem dX8_shipOf_132 : decode cX8_shipOf 132 = .ok (.iload_n 1, 1) := by decide +kernel
theorem dX8_shipOf_133 : decode cX8_shipOf 133 = .ok (.invokevirtual 112, 3) := by decide +kernel
theorem dX8_shipOf_136 : decode cX8_shipOf 136 = .ok (.ireturn, 1) := by decide +kernel
theorem dX8_shipOf_137 : decode cX8_shipOf 137 = .ok (.aload_n 0, 1) := by decide +kernel
theorem dX8_shipOf_138 : decode cX8_shipOf 138 = .ok (.getfield 10, 3) := by decide +kernel
theorem dX8_shipOf_141 : decode cX8_shipOf 141 = .ok (.aload_n 3, 1) := by decide +kernel
theorem dX8_shipOf_142 : decode cX8_shipOf 142 = .ok (.iload_n 1, 1) := by decide +kernel
theorem dX8_shipOf_143 : decode cX8_shipOf 143 = .ok (.aload_n 0, 1) := by decide +kernel
theorem dX8_shipOf_144 : decode cX8_shipOf 144 = .ok (.getfield 10, 3) := by decide +kernel
theorem dX8_shipOf_147 : decode cX8_shipOf 147 = .ok (.getfield 103, 3) := by decide +kernel
theorem dX8_shipOf_150 : decode cX8_shipOf 150 = .ok (.iload_n 1, 1) := by decide +kernel
theorem dX8_shipOf_151 : decode cX8_shipOf 151 = .ok (.iaload, 1) := by decide +kernel
theorem dX8_shipOf_152 : decode cX8_shipOf 152 = .ok (.invokevirtual 116, 3) := by decide +kernel
theorem dX8_shipOf_155 : decode cX8_shipOf 155 = .ok (.ireturn, 1) := by decide +kernel
theorem dX8_shipOf_156 : decode cX8_shipOf 156 = .ok (.aload_n 0, 1) := by decide +kernel
theorem dX8_shipOf_157 : decode cX8_shipOf 157 = .ok (.getfield 10, 3) := by decide +kernel
theorem dX8_shipOf_160 : decode cX8_shipOf 160 = .ok (.aload_n 3, 1) := by decide +kernel
theorem dX8_shipOf_161 : decode cX8_shipOf 161 = .ok (.iload_n 1, 1) := by decide +kernel
theorem dX8_shipOf_162 : decode cX8_shipOf 162 = .ok (.invokevirtual 120, 3) := by decide +kernel
theorem dX8_shipOf_165 : decode cX8_shipOf 165 = .ok (.ireturn, 1) := by decide +kernel
theorem dX8_shipOf_166 : decode cX8_shipOf 166 = .ok (.aload_n 0, 1) := by decide +kernel
theorem dX8_shipOf_167 : decode cX8_shipOf 167 = .ok (.getfield 10, 3) := by decide +kernel
theorem dX8_shipOf_170 : decode cX8_shipOf 170 = .ok (.aload_n 3, 1) := by decide +kernel
theorem dX8_shipOf_171 : decode cX8_shipOf 171 = .ok (.iload_n 1, 1) := by decide +kernel
theorem dX8_shipOf_172 : decode cX8_shipOf 172 = .ok (.invokevirtual 123, 3) := by decide +kernel
theorem dX8_shipOf_175 : decode cX8_shipOf 175 = .ok (.ifCond .eq 7, 3) := by decide +kernel
theorem dX8_shipOf_178 : decode cX8_shipOf 178 = .ok (.iconst 1, 1) := by decide +kernel
theorem dX8_shipOf_179 : decode cX8_shipOf 179 = .ok (.goto 4, 3) := by decide +kernel
theorem dX8_shipOf_182 : decode cX8_shipOf 182 = .ok (.iconst 0, 1) := by decide +kernel
theorem dX8_shipOf_183 : decode cX8_shipOf 183 = .ok (.ireturn, 1) := by decide +kernel
theorem dX8_shipOf_184 : decode cX8_shipOf 184 = .ok (.aload_n 0, 1) := by decide +kernel
theorem dX8_shipOf_185 : decode cX8_shipOf 185 = .ok (.getfield 10, 3) := by decide +kernel
theorem dX8_shipOf_188 : decode cX8_shipOf 188 = .ok (.aload_n 3, 1) := by decide +kernel
theorem dX8_shipOf_189 : decode cX8_shipOf 189 = .ok (.iload_n 1, 1) := by decide +kernel
theorem dX8_shipOf_190 : decode cX8_shipOf 190 = .ok (.invokevirtual 127, 3) := by decide +kernel
theorem dX8_shipOf_193 : decode cX8_shipOf 193 = .ok (.ireturn, 1) := by decide +kernel
theorem dX8_shipOf_194 : decode cX8_shipOf 194 = .ok (.iconst (-1), 1) := by decide +kernel
theorem dX8_shipOf_195 : decode cX8_shipOf 195 = .ok (.ireturn, 1) := by decide +kernel
theorem dX8_change_0 : decode cX8_change 0 = .ok (.aload_n 0, 1) := by decide +kernel
theorem dX8_change_1 : decode cX8_change 1 = .ok (.getfield 10, 3) := by decide +kernel
theorem dX8_change_4 : decode cX8_change 4 = .ok (.iload_n 1, 1) := by decide +kernel
theorem dX8_change_5 : decode cX8_change 5 = .ok (.invokevirtual 90, 3) := by decide +kernel
theorem dX8_change_8 : decode cX8_change 8 = .ok (.ifCond .eq 7, 3) := by decide +kernel
theorem dX8_change_11 : decode cX8_change 11 = .ok (.iload_n 3, 1) := by decide +kernel
theorem dX8_change_12 : decode cX8_change 12 = .ok (.ifCond .ge 5, 3) := by decide +kernel
theorem dX8_change_15 : decode cX8_change 15 = .ok (.iconst (-1), 1) := by decide +kernel
theorem dX8_change_16 : decode cX8_change 16 = .ok (.ireturn, 1) := by decide +kernel
theorem dX8_change_17 : decode cX8_change 17 = .ok (.iload_n 2, 1) := by decide +kernel
theorem dX8_change_18 : decode cX8_change 18 = .ok (.tableswitch 124 1 4 #[30, 56, 79, 102], 30) := by decide +kernel
theorem dX8_change_48 : decode cX8_change 48 = .ok (.iload_n 3, 1) := by decide +kernel
theorem dX8_change_49 : decode cX8_change 49 = .ok (.bipush 99, 2) := by decide +kernel
theorem dX8_change_51 : decode cX8_change 51 = .ok (.if_icmp .le 7, 3) := by decide +kernel
theorem dX8_change_54 : decode cX8_change 54 = .ok (.iconst (-1), 1) := by decide +kernel
theorem dX8_change_55 : decode cX8_change 55 = .ok (.goto 18, 3) := by decide +kernel
theorem dX8_change_58 : decode cX8_change 58 = .ok (.aload_n 0, 1) := by decide +kernel
theorem dX8_change_59 : decode cX8_change 59 = .ok (.getfield 10, 3) := by decide +kernel
theorem dX8_change_62 : decode cX8_change 62 = .ok (.getfield 94, 3) := by decide +kernel
theorem dX8_change_65 : decode cX8_change 65 = .ok (.getfield 100, 3) := by decide +kernel
theorem dX8_change_68 : decode cX8_change 68 = .ok (.iload_n 1, 1) := by decide +kernel
theorem dX8_change_69 : decode cX8_change 69 = .ok (.iload_n 3, 1) := by decide +kernel
theorem dX8_change_70 : decode cX8_change 70 = .ok (.invokestatic 130, 3) := by decide +kernel
theorem dX8_change_73 : decode cX8_change 73 = .ok (.ireturn, 1) := by decide +kernel
theorem dX8_change_74 : decode cX8_change 74 = .ok (.iload_n 3, 1) := by decide +kernel
theorem dX8_change_75 : decode cX8_change 75 = .ok (.bipush 9, 2) := by decide +kernel
theorem dX8_change_77 : decode cX8_change 77 = .ok (.if_icmp .le 7, 3) := by decide +kernel
theorem dX8_change_80 : decode cX8_change 80 = .ok (.iconst (-1), 1) := by decide +kernel
theorem dX8_change_81 : decode cX8_change 81 = .ok (.goto 15, 3) := by decide +kernel
theorem dX8_change_84 : decode cX8_change 84 = .ok (.aload_n 0, 1) := by decide +kernel
theorem dX8_change_85 : decode cX8_change 85 = .ok (.getfield 10, 3) := by decide +kernel
theorem dX8_change_88 : decode cX8_change 88 = .ok (.getfield 103, 3) := by decide +kernel
theorem dX8_change_91 : decode cX8_change 91 = .ok (.iload_n 1, 1) := by decide +kernel
theorem dX8_change_92 : decode cX8_change 92 = .ok (.iload_n 3, 1) := by decide +kernel
theorem dX8_change_93 : decode cX8_change 93 = .ok (.invokestatic 130, 3) := by decide +kernel
theorem dX8_change_96 : decode cX8_change 96 = .ok (.ireturn, 1) := by decide +kernel
theorem dX8_change_97 : decode cX8_change 97 = .ok (.iload_n 3, 1) := by decide +kernel
theorem dX8_change_98 : decode cX8_change 98 = .ok (.bipush 6, 2) := by decide +kernel
theorem dX8_change_100 : decode cX8_change 100 = .ok (.if_icmp .lt 7, 3) := by decide +kernel
theorem dX8_change_103 : decode cX8_change 103 = .ok (.iconst (-1), 1) := by decide +kernel
theorem dX8_change_104 : decode cX8_change 104 = .ok (.goto 15, 3) := by decide +kernel
theorem dX8_change_107 : decode cX8_change 107 = .ok (.aload_n 0, 1) := by decide +kernel
theorem dX8_change_108 : decode cX8_change 108 = .ok (.getfield 10, 3) := by decide +kernel
theorem dX8_change_111 : decode cX8_change 111 = .ok (.getfield 106, 3) := by decide +kernel
theorem dX8_change_114 : decode cX8_change 114 = .ok (.iload_n 1, 1) := by decide +kernel
theorem dX8_change_115 : decode cX8_change 115 = .ok (.iload_n 3, 1) := by decide +kernel
theorem dX8_change_116 : decode cX8_change 116 = .ok (.invokestatic 130, 3) := by decide +kernel
theorem dX8_change_119 : decode cX8_change 119 = .ok (.ireturn, 1) := by decide +kernel
theorem dX8_change_120 : decode cX8_change 120 = .ok (.iload_n 3, 1) := by decide +kernel
theorem dX8_change_121 : decode cX8_change 121 = .ok (.iconst 1, 1) := by decide +kernel
theorem dX8_change_122 : decode cX8_change 122 = .ok (.if_icmp .le 7, 3) := by decide +kernel
theorem dX8_change_125 : decode cX8_change 125 = .ok (.iconst (-1), 1) := by decide +kernel
theorem dX8_change_126 : decode cX8_change 126 = .ok (.goto 15, 3) := by decide +kernel
theorem dX8_change_129 : decode cX8_change 129 = .ok (.aload_n 0, 1) := by decide +kernel
theorem dX8_change_130 : decode cX8_change 130 = .ok (.getfield 10, 3) := by decide +kernel
theorem dX8_change_133 : decode cX8_change 133 = .ok (.getfield 94, 3) := by decide +kernel
theorem dX8_change_136 : decode cX8_change 136 = .ok (.iload_n 1, 1) := by decide +kernel
theorem dX8_change_137 : decode cX8_change 137 = .ok (.iload_n 3, 1) := by decide +kernel
theorem dX8_change_138 : decode cX8_change 138 = .ok (.invokevirtual 134, 3) := by decide +kernel
theorem dX8_change_141 : decode cX8_change 141 = .ok (.ireturn, 1) := by decide +kernel
theorem dX8_change_142 : decode cX8_change 142 = .ok (.iconst (-1), 1) := by decide +kernel
theorem dX8_change_143 : decode cX8_change 143 = .ok (.ireturn, 1) := by decide +kernel
theorem dX8_remake_0 : decode cX8_remake 0 = .ok (.aload_n 0, 1) := by decide +kernel
theorem dX8_remake_1 : decode cX8_remake 1 = .ok (.getfield 10, 3) := by decide +kernel
theorem dX8_remake_4 : decode cX8_remake 4 = .ok (.iload_n 1, 1) := by decide +kernel
theorem dX8_remake_5 : decode cX8_remake 5 = .ok (.invokevirtual 90, 3) := by decide +kernel
theorem dX8_remake_8 : decode cX8_remake 8 = .ok (.ifCond .eq 12, 3) := by decide +kernel
theorem dX8_remake_11 : decode cX8_remake 11 = .ok (.iload_n 2, 1) := by decide +kernel
theorem dX8_remake_12 : decode cX8_remake 12 = .ok (.iconst 1, 1) := by decide +kernel
theorem dX8_remake_13 : decode cX8_remake 13 = .ok (.iconst 5, 1) := by decide +kernel
theorem dX8_remake_14 : decode cX8_remake 14 = .ok (.invokestatic 79, 3) := by decide +kernel
theorem dX8_remake_17 : decode cX8_remake 17 = .ok (.ifCond .ne 5, 3) := by decide +kernel
theorem dX8_remake_20 : decode cX8_remake 20 = .ok (.iconst (-1), 1) := by decide +kernel
theorem dX8_remake_21 : decode cX8_remake 21 = .ok (.ireturn, 1) := by decide +kernel
theorem dX8_remake_22 : decode cX8_remake 22 = .ok (.aload_n 0, 1) := by decide +kernel
theorem dX8_remake_23 : decode cX8_remake 23 = .ok (.getfield 10, 3) := by decide +kernel
theorem dX8_remake_26 : decode cX8_remake 26 = .ok (.getfield 97, 3) := by decide +kernel
theorem dX8_remake_29 : decode cX8_remake 29 = .ok (.iload_n 1, 1) := by decide +kernel
theorem dX8_remake_30 : decode cX8_remake 30 = .ok (.iload_n 2, 1) := by decide +kernel
theorem dX8_remake_31 : decode cX8_remake 31 = .ok (.invokestatic 130, 3) := by decide +kernel
theorem dX8_remake_34 : decode cX8_remake 34 = .ok (.ireturn, 1) := by decide +kernel
theorem dX8_light_0 : decode cX8_light 0 = .ok (.iload_n 1, 1) := by decide +kernel
theorem dX8_light_1 : decode cX8_light 1 = .ok (.iconst 0, 1) := by decide +kernel
theorem dX8_light_2 : decode cX8_light 2 = .ok (.bipush 15, 2) := by decide +kernel
theorem dX8_light_4 : decode cX8_light 4 = .ok (.invokestatic 79, 3) := by decide +kernel
theorem dX8_light_7 : decode cX8_light 7 = .ok (.ifCond .eq 13, 3) := by decide +kernel
theorem dX8_light_10 : decode cX8_light 10 = .ok (.iload_n 2, 1) := by decide +kernel
theorem dX8_light_11 : decode cX8_light 11 = .ok (.iconst 0, 1) := by decide +kernel
theorem dX8_light_12 : decode cX8_light 12 = .ok (.bipush 15, 2) := by decide +kernel
theorem dX8_light_14 : decode cX8_light 14 = .ok (.invokestatic 79, 3) := by decide +kernel
theorem dX8_light_17 : decode cX8_light 17 = .ok (.ifCond .ne 5, 3) := by decide +kernel
theorem dX8_light_20 : decode cX8_light 20 = .ok (.iconst (-1), 1) := by decide +kernel
theorem dX8_light_21 : decode cX8_light 21 = .ok (.ireturn, 1) := by decide +kernel
theorem dX8_light_22 : decode cX8_light 22 = .ok (.aload_n 0, 1) := by decide +kernel
theorem dX8_light_23 : decode cX8_light 23 = .ok (.getfield 10, 3) := by decide +kernel
theorem dX8_light_26 : decode cX8_light 26 = .ok (.getfield 138, 3) := by decide +kernel
theorem dX8_light_29 : decode cX8_light 29 = .ok (.iload_n 1, 1) := by decide +kernel
theorem dX8_light_30 : decode cX8_light 30 = .ok (.iload_n 2, 1) := by decide +kernel
theorem dX8_light_31 : decode cX8_light 31 = .ok (.invokestatic 130, 3) := by decide +kernel
theorem dX8_light_34 : decode cX8_light 34 = .ok (.ireturn, 1) := by decide +kernel
theorem dX8_lane_0 : decode cX8_lane 0 = .ok (.iload_n 1, 1) := by decide +kernel
theorem dX8_lane_1 : decode cX8_lane 1 = .ok (.iconst 0, 1) := by decide +kernel
theorem dX8_lane_2 : decode cX8_lane 2 = .ok (.iconst 5, 1) := by decide +kernel
theorem dX8_lane_3 : decode cX8_lane 3 = .ok (.invokestatic 79, 3) := by decide +kernel
theorem dX8_lane_6 : decode cX8_lane 6 = .ok (.ifCond .eq 22, 3) := by decide +kernel
theorem dX8_lane_9 : decode cX8_lane 9 = .ok (.iload_n 2, 1) := by decide +kernel
theorem dX8_lane_10 : decode cX8_lane 10 = .ok (.iconst 0, 1) := by decide +kernel
theorem dX8_lane_11 : decode cX8_lane 11 = .ok (.iconst 1, 1) := by decide +kernel
theorem dX8_lane_12 : decode cX8_lane 12 = .ok (.invokestatic 79, 3) := by decide +kernel
theorem dX8_lane_15 : decode cX8_lane 15 = .ok (.ifCond .eq 13, 3) := by decide +kernel
theorem dX8_lane_18 : decode cX8_lane 18 = .ok (.iload_n 3, 1) := by decide +kernel
theorem dX8_lane_19 : decode cX8_lane 19 = .ok (.iconst 0, 1) := by decide +kernel
theorem dX8_lane_20 : decode cX8_lane 20 = .ok (.bipush 9, 2) := by decide +kernel
theorem dX8_lane_22 : decode cX8_lane 22 = .ok (.invokestatic 79, 3) := by decide +kernel
theorem dX8_lane_25 : decode cX8_lane 25 = .ok (.ifCond .ne 5, 3) := by decide +kernel
theorem dX8_lane_28 : decode cX8_lane 28 = .ok (.iconst (-1), 1) := by decide +kernel
theorem dX8_lane_29 : decode cX8_lane 29 = .ok (.ireturn, 1) := by decide +kernel
theorem dX8_lane_30 : decode cX8_lane 30 = .ok (.iload_n 2, 1) := by decide +kernel
theorem dX8_lane_31 : decode cX8_lane 31 = .ok (.ifCond .ne 13, 3) := by decide +kernel
theorem dX8_lane_34 : decode cX8_lane 34 = .ok (.aload_n 0, 1) := by decide +kernel
theorem dX8_lane_35 : decode cX8_lane 35 = .ok (.getfield 10, 3) := by decide +kernel
theorem dX8_lane_38 : decode cX8_lane 38 = .ok (.getfield 141, 3) := by decide +kernel
theorem dX8_lane_41 : decode cX8_lane 41 = .ok (.goto 10, 3) := by decide +kernel
theorem dX8_lane_44 : decode cX8_lane 44 = .ok (.aload_n 0, 1) := by decide +kernel
theorem dX8_lane_45 : decode cX8_lane 45 = .ok (.getfield 10, 3) := by decide +kernel
theorem dX8_lane_48 : decode cX8_lane 48 = .ok (.getfield 144, 3) := by decide +kernel
theorem dX8_lane_51 : decode cX8_lane 51 = .ok (.iload_n 1, 1) := by decide +kernel
theorem dX8_lane_52 : decode cX8_lane 52 = .ok (.iload_n 3, 1) := by decide +kernel
theorem dX8_lane_53 : decode cX8_lane 53 = .ok (.invokestatic 130, 3) := by decide +kernel
theorem dX8_lane_56 : decode cX8_lane 56 = .ok (.ireturn, 1) := by decide +kernel
theorem dX8_laneOf_0 : decode cX8_laneOf 0 = .ok (.iload_n 1, 1) := by decide +kernel
theorem dX8_laneOf_1 : decode cX8_laneOf 1 = .ok (.iconst 0, 1) := by decide +kernel
theorem dX8_laneOf_2 : decode cX8_laneOf 2 = .ok (.iconst 5, 1) := by decide +kernel
theorem dX8_laneOf_3 : decode cX8_laneOf 3 = .ok (.invokestatic 79, 3) := by decide +kernel
theorem dX8_laneOf_6 : decode cX8_laneOf 6 = .ok (.ifCond .eq 12, 3) := by decide +kernel
theorem dX8_laneOf_9 : decode cX8_laneOf 9 = .ok (.iload_n 2, 1) := by decide +kernel
theorem dX8_laneOf_10 : decode cX8_laneOf 10 = .ok (.iconst 0, 1) := by decide +kernel
theorem dX8_laneOf_11 : decode cX8_laneOf 11 = .ok (.iconst 1, 1) := by decide +kernel
theorem dX8_laneOf_12 : decode cX8_laneOf 12 = .ok (.invokestatic 79, 3) := by decide +kernel
theorem dX8_laneOf_15 : decode cX8_laneOf 15 = .ok (.ifCond .ne 5, 3) := by decide +kernel
theorem dX8_laneOf_18 : decode cX8_laneOf 18 = .ok (.iconst (-1), 1) := by decide +kernel
theorem dX8_laneOf_19 : decode cX8_laneOf 19 = .ok (.ireturn, 1) := by decide +kernel
theorem dX8_laneOf_20 : decode cX8_laneOf 20 = .ok (.iload_n 2, 1) := by decide +kernel
theorem dX8_laneOf_21 : decode cX8_laneOf 21 = .ok (.ifCond .ne 15, 3) := by decide +kernel
theorem dX8_laneOf_24 : decode cX8_laneOf 24 = .ok (.aload_n 0, 1) := by decide +kernel
theorem dX8_laneOf_25 : decode cX8_laneOf 25 = .ok (.getfield 10, 3) := by decide +kernel
theorem dX8_laneOf_28 : decode cX8_laneOf 28 = .ok (.getfield 141, 3) := by decide +kernel
theorem dX8_laneOf_31 : decode cX8_laneOf 31 = .ok (.iload_n 1, 1) := by decide +kernel
theorem dX8_laneOf_32 : decode cX8_laneOf 32 = .ok (.iaload, 1) := by decide +kernel
theorem dX8_laneOf_33 : decode cX8_laneOf 33 = .ok (.goto 12, 3) := by decide +kernel
theorem dX8_laneOf_36 : decode cX8_laneOf 36 = .ok (.aload_n 0, 1) := by decide +kernel
theorem dX8_laneOf_37 : decode cX8_laneOf 37 = .ok (.getfield 10, 3) := by decide +kernel
theorem dX8_laneOf_40 : decode cX8_laneOf 40 = .ok (.getfield 144, 3) := by decide +kernel
theorem dX8_laneOf_43 : decode cX8_laneOf 43 = .ok (.iload_n 1, 1) := by decide +kernel
theorem dX8_laneOf_44 : decode cX8_laneOf 44 = .ok (.iaload, 1) := by decide +kernel
theorem dX8_laneOf_45 : decode cX8_laneOf 45 = .ok (.ireturn, 1) := by decide +kernel
theorem dX8_ends_0 : decode cX8_ends 0 = .ok (.iload_n 1, 1) := by decide +kernel
theorem dX8_ends_1 : decode cX8_ends 1 = .ok (.iconst 1, 1) := by decide +kernel
theorem dX8_ends_2 : decode cX8_ends 2 = .ok (.bipush 16, 2) := by decide +kernel
theorem dX8_ends_4 : decode cX8_ends 4 = .ok (.invokestatic 79, 3) := by decide +kernel
theorem dX8_ends_7 : decode cX8_ends 7 = .ok (.ifCond .ne 5, 3) := by decide +kernel
theorem dX8_ends_10 : decode cX8_ends 10 = .ok (.iconst (-1), 1) := by decide +kernel
theorem dX8_ends_11 : decode cX8_ends 11 = .ok (.ireturn, 1) := by decide +kernel
theorem dX8_ends_12 : decode cX8_ends 12 = .ok (.iload_n 1, 1) := by decide +kernel
theorem dX8_ends_13 : decode cX8_ends 13 = .ok (.aload_n 0, 1) := by decide +kernel
theorem dX8_ends_14 : decode cX8_ends 14 = .ok (.getfield 10, 3) := by decide +kernel
theorem dX8_ends_17 : decode cX8_ends 17 = .ok (.getfield 94, 3) := by decide +kernel
theorem dX8_ends_20 : decode cX8_ends 20 = .ok (.getfield 147, 3) := by decide +kernel
theorem dX8_ends_23 : decode cX8_ends 23 = .ok (.if_icmp .ge 6, 3) := by decide +kernel
theorem dX8_ends_26 : decode cX8_ends 26 = .ok (.bipush (-4), 2) := by decide +kernel
theorem dX8_ends_28 : decode cX8_ends 28 = .ok (.ireturn, 1) := by decide +kernel
theorem dX8_ends_29 : decode cX8_ends 29 = .ok (.aload_n 0, 1) := by decide +kernel
theorem dX8_ends_30 : decode cX8_ends 30 = .ok (.getfield 10, 3) := by decide +kernel
theorem dX8_ends_33 : decode cX8_ends 33 = .ok (.getfield 150, 3) := by decide +kernel
theorem dX8_ends_36 : decode cX8_ends 36 = .ok (.istore_n 2, 1) := by decide +kernel
theorem dX8_ends_37 : decode cX8_ends 37 = .ok (.aload_n 0, 1) := by decide +kernel
theorem dX8_ends_38 : decode cX8_ends 38 = .ok (.getfield 10, 3) := by decide +kernel
theorem dX8_ends_41 : decode cX8_ends 41 = .ok (.iload_n 1, 1) := by decide +kernel
theorem dX8_ends_42 : decode cX8_ends 42 = .ok (.putfield 150, 3) := by decide +kernel
theorem dX8_ends_45 : decode cX8_ends 45 = .ok (.iload_n 2, 1) := by decide +kernel
theorem dX8_ends_46 : decode cX8_ends 46 = .ok (.ireturn, 1) := by decide +kernel
theorem dX8_anew_0 : decode cX8_anew 0 = .ok (.aload_n 0, 1) := by decide +kernel
theorem dX8_anew_1 : decode cX8_anew 1 = .ok (.getfield 10, 3) := by decide +kernel
theorem dX8_anew_4 : decode cX8_anew 4 = .ok (.getfield 94, 3) := by decide +kernel
theorem dX8_anew_7 : decode cX8_anew 7 = .ok (.getfield 147, 3) := by decide +kernel
theorem dX8_anew_10 : decode cX8_anew 10 = .ok (.istore_n 1, 1) := by decide +kernel
theorem dX8_anew_11 : decode cX8_anew 11 = .ok (.aload_n 0, 1) := by decide +kernel
theorem dX8_anew_12 : decode cX8_anew 12 = .ok (.getfield 10, 3) := by decide +kernel
theorem dX8_anew_15 : decode cX8_anew 15 = .ok (.getfield 94, 3) := by decide +kernel
theorem dX8_anew_18 : decode cX8_anew 18 = .ok (.iconst 0, 1) := by decide +kernel
theorem dX8_anew_19 : decode cX8_anew 19 = .ok (.putfield 147, 3) := by decide +kernel
theorem dX8_anew_22 : decode cX8_anew 22 = .ok (.aload_n 0, 1) := by decide +kernel
theorem dX8_anew_23 : decode cX8_anew 23 = .ok (.getfield 10, 3) := by decide +kernel
theorem dX8_anew_26 : decode cX8_anew 26 = .ok (.getfield 94, 3) := by decide +kernel
theorem dX8_anew_29 : decode cX8_anew 29 = .ok (.iconst 0, 1) := by decide +kernel
theorem dX8_anew_30 : decode cX8_anew 30 = .ok (.putfield 153, 3) := by decide +kernel
theorem dX8_anew_33 : decode cX8_anew 33 = .ok (.aload_n 0, 1) := by decide +kernel
theorem dX8_anew_34 : decode cX8_anew 34 = .ok (.getfield 10, 3) := by decide +kernel
theorem dX8_anew_37 : decode cX8_anew 37 = .ok (.getfield 94, 3) := by decide +kernel
theorem dX8_anew_40 : decode cX8_anew 40 = .ok (.iconst 0, 1) := by decide +kernel
theorem dX8_anew_41 : decode cX8_anew 41 = .ok (.putfield 156, 3) := by decide +kernel
theorem dX8_anew_44 : decode cX8_anew 44 = .ok (.iload_n 1, 1) := by decide +kernel
theorem dX8_anew_45 : decode cX8_anew 45 = .ok (.ireturn, 1) := by decide +kernel
theorem dX8_state_0 : decode cX8_state 0 = .ok (.iload_n 1, 1) := by decide +kernel
theorem dX8_state_1 : decode cX8_state 1 = .ok (.tableswitch 140 0 6 #[43, 54, 62, 73, 96, 107, 125], 43) := by decide +kernel
theorem dX8_state_44 : decode cX8_state 44 = .ok (.aload_n 0, 1) := by decide +kernel
theorem dX8_state_45 : decode cX8_state 45 = .ok (.getfield 10, 3) := by decide +kernel
theorem dX8_state_48 : decode cX8_state 48 = .ok (.getfield 94, 3) := by decide +kernel
theorem dX8_state_51 : decode cX8_state 51 = .ok (.getfield 147, 3) := by decide +kernel
theorem dX8_state_54 : decode cX8_state 54 = .ok (.ireturn, 1) := by decide +kernel
theorem dX8_state_55 : decode cX8_state 55 = .ok (.aload_n 0, 1) := by decide +kernel
theorem dX8_state_56 : decode cX8_state 56 = .ok (.getfield 10, 3) := by decide +kernel
theorem dX8_state_59 : decode cX8_state 59 = .ok (.getfield 150, 3) := by decide +kernel
theorem dX8_state_62 : decode cX8_state 62 = .ok (.ireturn, 1) := by decide +kernel
theorem dX8_state_63 : decode cX8_state 63 = .ok (.aload_n 0, 1) := by decide +kernel
theorem dX8_state_64 : decode cX8_state 64 = .ok (.getfield 10, 3) := by decide +kernel
theorem dX8_state_67 : decode cX8_state 67 = .ok (.getfield 94, 3) := by decide +kernel
theorem dX8_state_70 : decode cX8_state 70 = .ok (.getfield 153, 3) := by decide +kernel
theorem dX8_state_73 : decode cX8_state 73 = .ok (.ireturn, 1) := by decide +kernel
theorem dX8_state_74 : decode cX8_state 74 = .ok (.aload_n 0, 1) := by decide +kernel
theorem dX8_state_75 : decode cX8_state 75 = .ok (.getfield 10, 3) := by decide +kernel
theorem dX8_state_78 : decode cX8_state 78 = .ok (.aload_n 0, 1) := by decide +kernel
theorem dX8_state_79 : decode cX8_state 79 = .ok (.getfield 10, 3) := by decide +kernel
theorem dX8_state_82 : decode cX8_state 82 = .ok (.getfield 94, 3) := by decide +kernel
theorem dX8_state_85 : decode cX8_state 85 = .ok (.invokevirtual 159, 3) := by decide +kernel
theorem dX8_state_88 : decode cX8_state 88 = .ok (.ifCond .eq 7, 3) := by decide +kernel
theorem dX8_state_91 : decode cX8_state 91 = .ok (.iconst 1, 1) := by decide +kernel
theorem dX8_state_92 : decode cX8_state 92 = .ok (.goto 4, 3) := by decide +kernel
theorem dX8_state_95 : decode cX8_state 95 = .ok (.iconst 0, 1) := by decide +kernel
theorem dX8_state_96 : decode cX8_state 96 = .ok (.ireturn, 1) := by decide +kernel
theorem dX8_state_97 : decode cX8_state 97 = .ok (.aload_n 0, 1) := by decide +kernel
theorem dX8_state_98 : decode cX8_state 98 = .ok (.getfield 10, 3) := by decide +kernel
theorem dX8_state_101 : decode cX8_state 101 = .ok (.getfield 94, 3) := by decide +kernel
theorem dX8_state_104 : decode cX8_state 104 = .ok (.getfield 156, 3) := by decide +kernel
theorem dX8_state_107 : decode cX8_state 107 = .ok (.ireturn, 1) := by decide +kernel
theorem dX8_state_108 : decode cX8_state 108 = .ok (.aload_n 0, 1) := by decide +kernel
theorem dX8_state_109 : decode cX8_state 109 = .ok (.getfield 10, 3) := by decide +kernel
theorem dX8_state_112 : decode cX8_state 112 = .ok (.aload_n 0, 1) := by decide +kernel
theorem dX8_state_113 : decode cX8_state 113 = .ok (.getfield 10, 3) := by decide +kernel
theorem dX8_state_116 : decode cX8_state 116 = .ok (.getfield 94, 3) := by decide +kernel
theorem dX8_state_119 : decode cX8_state 119 = .ok (.getfield 147, 3) := by decide +kernel
theorem dX8_state_122 : decode cX8_state 122 = .ok (.invokevirtual 163, 3) := by decide +kernel
theorem dX8_state_125 : decode cX8_state 125 = .ok (.ireturn, 1) := by decide +kernel
theorem dX8_state_126 : decode cX8_state 126 = .ok (.aload_n 0, 1) := by decide +kernel
theorem dX8_state_127 : decode cX8_state 127 = .ok (.getfield 10, 3) := by decide +kernel
theorem dX8_state_130 : decode cX8_state 130 = .ok (.aload_n 0, 1) := by decide +kernel
theorem dX8_state_131 : decode cX8_state 131 = .ok (.getfield 10, 3) := by decide +kernel
theorem dX8_state_134 : decode cX8_state 134 = .ok (.getfield 94, 3) := by decide +kernel
theorem dX8_state_137 : decode cX8_state 137 = .ok (.invokevirtual 167, 3) := by decide +kernel
theorem dX8_state_140 : decode cX8_state 140 = .ok (.ireturn, 1) := by decide +kernel
theorem dX8_state_141 : decode cX8_state 141 = .ok (.iconst (-1), 1) := by decide +kernel
theorem dX8_state_142 : decode cX8_state 142 = .ok (.ireturn, 1) := by decide +kernel
theorem dX8_feed_0 : decode cX8_feed 0 = .ok (.iload_n 3, 1) := by decide +kernel
theorem dX8_feed_1 : decode cX8_feed 1 = .ok (.iconst 1, 1) := by decide +kernel
theorem dX8_feed_2 : decode cX8_feed 2 = .ok (.bipush 8, 2) := by decide +kernel
theorem dX8_feed_4 : decode cX8_feed 4 = .ok (.invokestatic 79, 3) := by decide +kernel
theorem dX8_feed_7 : decode cX8_feed 7 = .ok (.ifCond .ne 5, 3) := by decide +kernel
theorem dX8_feed_10 : decode cX8_feed 10 = .ok (.iconst (-1), 1) := by decide +kernel
theorem dX8_feed_11 : decode cX8_feed 11 = .ok (.ireturn, 1) := by decide +kernel
theorem dX8_feed_12 : decode cX8_feed 12 = .ok (.aload_n 0, 1) := by decide +kernel
theorem dX8_feed_13 : decode cX8_feed 13 = .ok (.getfield 68, 3) := by decide +kernel
theorem dX8_feed_16 : decode cX8_feed 16 = .ok (.iload_n 3, 1) := by decide +kernel
theorem dX8_feed_17 : decode cX8_feed 17 = .ok (.iadd, 1) := by decide +kernel
theorem dX8_feed_18 : decode cX8_feed 18 = .ok (.sipush 200, 3) := by decide +kernel
theorem dX8_feed_21 : decode cX8_feed 21 = .ok (.if_icmp .le 6, 3) := by decide +kernel
theorem dX8_feed_24 : decode cX8_feed 24 = .ok (.bipush (-2), 2) := by decide +kernel
theorem dX8_feed_26 : decode cX8_feed 26 = .ok (.ireturn, 1) := by decide +kernel
theorem dX8_feed_27 : decode cX8_feed 27 = .ok (.iconst 0, 1) := by decide +kernel
theorem dX8_feed_28 : decode cX8_feed 28 = .ok (.istore 4, 2) := by decide +kernel
theorem dX8_feed_30 : decode cX8_feed 30 = .ok (.iload 4, 2) := by decide +kernel
theorem dX8_feed_32 : decode cX8_feed 32 = .ok (.iload_n 3, 1) := by decide +kernel
theorem dX8_feed_33 : decode cX8_feed 33 = .ok (.if_icmp .ge 33, 3) := by decide +kernel
theorem dX8_feed_36 : decode cX8_feed 36 = .ok (.aload_n 0, 1) := by decide +kernel
theorem dX8_feed_37 : decode cX8_feed 37 = .ok (.getfield 61, 3) := by decide +kernel
theorem dX8_feed_40 : decode cX8_feed 40 = .ok (.aload_n 0, 1) := by decide +kernel
theorem dX8_feed_41 : decode cX8_feed 41 = .ok (.getfield 68, 3) := by decide +kernel
theorem dX8_feed_44 : decode cX8_feed 44 = .ok (.iload 4, 2) := by decide +kernel
theorem dX8_feed_46 : decode cX8_feed 46 = .ok (.iadd, 1) := by decide +kernel
theorem dX8_feed_47 : decode cX8_feed 47 = .ok (.lload_n 1, 1) := by decide +kernel
theorem dX8_feed_48 : decode cX8_feed 48 = .ok (.bipush 8, 2) := by decide +kernel
theorem dX8_feed_50 : decode cX8_feed 50 = .ok (.iload 4, 2) := by decide +kernel
theorem dX8_feed_52 : decode cX8_feed 52 = .ok (.imul, 1) := by decide +kernel
theorem dX8_feed_53 : decode cX8_feed 53 = .ok (.lushr, 1) := by decide +kernel
theorem dX8_feed_54 : decode cX8_feed 54 = .ok (.l2i, 1) := by decide +kernel
theorem dX8_feed_55 : decode cX8_feed 55 = .ok (.sipush 255, 3) := by decide +kernel
theorem dX8_feed_58 : decode cX8_feed 58 = .ok (.iand, 1) := by decide +kernel
theorem dX8_feed_59 : decode cX8_feed 59 = .ok (.iastore, 1) := by decide +kernel
theorem dX8_feed_60 : decode cX8_feed 60 = .ok (.iinc 4 1, 3) := by decide +kernel
theorem dX8_feed_63 : decode cX8_feed 63 = .ok (.goto (-33), 3) := by decide +kernel
theorem dX8_feed_66 : decode cX8_feed 66 = .ok (.aload_n 0, 1) := by decide +kernel
theorem dX8_feed_67 : decode cX8_feed 67 = .ok (.dup, 1) := by decide +kernel
theorem dX8_feed_68 : decode cX8_feed 68 = .ok (.getfield 68, 3) := by decide +kernel
theorem dX8_feed_71 : decode cX8_feed 71 = .ok (.iload_n 3, 1) := by decide +kernel
theorem dX8_feed_72 : decode cX8_feed 72 = .ok (.iadd, 1) := by decide +kernel
theorem dX8_feed_73 : decode cX8_feed 73 = .ok (.putfield 68, 3) := by decide +kernel
theorem dX8_feed_76 : decode cX8_feed 76 = .ok (.aload_n 0, 1) := by decide +kernel
theorem dX8_feed_77 : decode cX8_feed 77 = .ok (.getfield 68, 3) := by decide +kernel
theorem dX8_feed_80 : decode cX8_feed 80 = .ok (.ireturn, 1) := by decide +kernel
theorem dX8_rules_0 : decode cX8_rules 0 = .ok (.aload_n 0, 1) := by decide +kernel
theorem dX8_rules_1 : decode cX8_rules 1 = .ok (.getfield 36, 3) := by decide +kernel
theorem dX8_rules_4 : decode cX8_rules 4 = .ok (.aload_n 0, 1) := by decide +kernel
theorem dX8_rules_5 : decode cX8_rules 5 = .ok (.getfield 61, 3) := by decide +kernel
theorem dX8_rules_8 : decode cX8_rules 8 = .ok (.aload_n 0, 1) := by decide +kernel
theorem dX8_rules_9 : decode cX8_rules 9 = .ok (.getfield 68, 3) := by decide +kernel
theorem dX8_rules_12 : decode cX8_rules 12 = .ok (.aload_n 0, 1) := by decide +kernel
theorem dX8_rules_13 : decode cX8_rules 13 = .ok (.getfield 43, 3) := by decide +kernel
theorem dX8_rules_16 : decode cX8_rules 16 = .ok (.invokevirtual 171, 3) := by decide +kernel
theorem dX8_rules_19 : decode cX8_rules 19 = .ok (.istore_n 1, 1) := by decide +kernel
theorem dX8_rules_20 : decode cX8_rules 20 = .ok (.aload_n 0, 1) := by decide +kernel
theorem dX8_rules_21 : decode cX8_rules 21 = .ok (.iconst 0, 1) := by decide +kernel
theorem dX8_rules_22 : decode cX8_rules 22 = .ok (.putfield 68, 3) := by decide +kernel
theorem dX8_rules_25 : decode cX8_rules 25 = .ok (.iload_n 1, 1) := by decide +kernel
theorem dX8_rules_26 : decode cX8_rules 26 = .ok (.iconst (-1), 1) := by decide +kernel
theorem dX8_rules_27 : decode cX8_rules 27 = .ok (.if_icmp .eq 8, 3) := by decide +kernel
theorem dX8_rules_30 : decode cX8_rules 30 = .ok (.bipush (-100), 2) := by decide +kernel
theorem dX8_rules_32 : decode cX8_rules 32 = .ok (.iload_n 1, 1) := by decide +kernel
theorem dX8_rules_33 : decode cX8_rules 33 = .ok (.isub, 1) := by decide +kernel
theorem dX8_rules_34 : decode cX8_rules 34 = .ok (.ireturn, 1) := by decide +kernel
theorem dX8_rules_35 : decode cX8_rules 35 = .ok (.aload_n 0, 1) := by decide +kernel
theorem dX8_rules_36 : decode cX8_rules 36 = .ok (.getfield 10, 3) := by decide +kernel
theorem dX8_rules_39 : decode cX8_rules 39 = .ok (.getfield 175, 3) := by decide +kernel
theorem dX8_rules_42 : decode cX8_rules 42 = .ok (.aload_n 0, 1) := by decide +kernel
theorem dX8_rules_43 : decode cX8_rules 43 = .ok (.getfield 43, 3) := by decide +kernel
theorem dX8_rules_46 : decode cX8_rules 46 = .ok (.invokevirtual 178, 3) := by decide +kernel
theorem dX8_rules_49 : decode cX8_rules 49 = .ok (.aload_n 0, 1) := by decide +kernel
theorem dX8_rules_50 : decode cX8_rules 50 = .ok (.getfield 43, 3) := by decide +kernel
theorem dX8_rules_53 : decode cX8_rules 53 = .ok (.getfield 182, 3) := by decide +kernel
theorem dX8_rules_56 : decode cX8_rules 56 = .ok (.ireturn, 1) := by decide +kernel
theorem dX8_watch_0 : decode cX8_watch 0 = .ok (.aload_n 0, 1) := by decide +kernel
theorem dX8_watch_1 : decode cX8_watch 1 = .ok (.getfield 10, 3) := by decide +kernel
theorem dX8_watch_4 : decode cX8_watch 4 = .ok (.aload_n 0, 1) := by decide +kernel
theorem dX8_watch_5 : decode cX8_watch 5 = .ok (.getfield 10, 3) := by decide +kernel
theorem dX8_watch_8 : decode cX8_watch 8 = .ok (.getfield 94, 3) := by decide +kernel
theorem dX8_watch_11 : decode cX8_watch 11 = .ok (.invokevirtual 159, 3) := by decide +kernel
theorem dX8_watch_14 : decode cX8_watch 14 = .ok (.ifCond .eq 8, 3) := by decide +kernel
theorem dX8_watch_17 : decode cX8_watch 17 = .ok (.bipush (-4), 2) := by decide +kernel
theorem dX8_watch_19 : decode cX8_watch 19 = .ok (.goto 17, 3) := by decide +kernel
theorem dX8_watch_22 : decode cX8_watch 22 = .ok (.aload_n 0, 1) := by decide +kernel
theorem dX8_watch_23 : decode cX8_watch 23 = .ok (.getfield 10, 3) := by decide +kernel
theorem dX8_watch_26 : decode cX8_watch 26 = .ok (.aload_n 0, 1) := by decide +kernel
theorem dX8_watch_27 : decode cX8_watch 27 = .ok (.getfield 10, 3) := by decide +kernel
theorem dX8_watch_30 : decode cX8_watch 30 = .ok (.getfield 94, 3) := by decide +kernel
theorem dX8_watch_33 : decode cX8_watch 33 = .ok (.invokevirtual 183, 3) := by decide +kernel
theorem dX8_watch_36 : decode cX8_watch 36 = .ok (.ireturn, 1) := by decide +kernel
theorem dX8_on_0 : decode cX8_on 0 = .ok (.iload_n 1, 1) := by decide +kernel
theorem dX8_on_1 : decode cX8_on 1 = .ok (.iconst 0, 1) := by decide +kernel
theorem dX8_on_2 : decode cX8_on 2 = .ok (.bipush 16, 2) := by decide +kernel
theorem dX8_on_4 : decode cX8_on 4 = .ok (.invokestatic 79, 3) := by decide +kernel
theorem dX8_on_7 : decode cX8_on 7 = .ok (.ifCond .eq 11, 3) := by decide +kernel
theorem dX8_on_10 : decode cX8_on 10 = .ok (.aload_n 0, 1) := by decide +kernel
theorem dX8_on_11 : decode cX8_on 11 = .ok (.iload_n 1, 1) := by decide +kernel
theorem dX8_on_12 : decode cX8_on 12 = .ok (.invokevirtual 186, 3) := by decide +kernel
theorem dX8_on_15 : decode cX8_on 15 = .ok (.goto 4, 3) := by decide +kernel
theorem dX8_on_18 : decode cX8_on 18 = .ok (.iconst (-1), 1) := by decide +kernel
theorem dX8_on_19 : decode cX8_on 19 = .ok (.ireturn, 1) := by decide +kernel
theorem dX8_when_0 : decode cX8_when 0 = .ok (.aload_n 0, 1) := by decide +kernel
theorem dX8_when_1 : decode cX8_when 1 = .ok (.getfield 10, 3) := by decide +kernel
theorem dX8_when_4 : decode cX8_when 4 = .ok (.iload_n 1, 1) := by decide +kernel
theorem dX8_when_5 : decode cX8_when 5 = .ok (.invokevirtual 90, 3) := by decide +kernel
theorem dX8_when_8 : decode cX8_when 8 = .ok (.ifCond .ne 5, 3) := by decide +kernel
theorem dX8_when_11 : decode cX8_when 11 = .ok (.iconst (-1), 1) := by decide +kernel
theorem dX8_when_12 : decode cX8_when 12 = .ok (.ireturn, 1) := by decide +kernel
theorem dX8_when_13 : decode cX8_when 13 = .ok (.aload_n 0, 1) := by decide +kernel
theorem dX8_when_14 : decode cX8_when 14 = .ok (.getfield 10, 3) := by decide +kernel
theorem dX8_when_17 : decode cX8_when 17 = .ok (.getfield 94, 3) := by decide +kernel
theorem dX8_when_20 : decode cX8_when 20 = .ok (.iload_n 1, 1) := by decide +kernel
theorem dX8_when_21 : decode cX8_when 21 = .ok (.invokevirtual 109, 3) := by decide +kernel
theorem dX8_when_24 : decode cX8_when 24 = .ok (.ifCond .eq 6, 3) := by decide +kernel
theorem dX8_when_27 : decode cX8_when 27 = .ok (.bipush (-3), 2) := by decide +kernel
theorem dX8_when_29 : decode cX8_when 29 = .ok (.ireturn, 1) := by decide +kernel
theorem dX8_when_30 : decode cX8_when 30 = .ok (.aload_n 0, 1) := by decide +kernel
theorem dX8_when_31 : decode cX8_when 31 = .ok (.getfield 22, 3) := by decide +kernel
theorem dX8_when_34 : decode cX8_when 34 = .ok (.aload_n 0, 1) := by decide +kernel
theorem dX8_when_35 : decode cX8_when 35 = .ok (.getfield 10, 3) := by decide +kernel
theorem dX8_when_38 : decode cX8_when 38 = .ok (.getfield 94, 3) := by decide +kernel
theorem dX8_when_41 : decode cX8_when 41 = .ok (.invokevirtual 189, 3) := by decide +kernel
theorem dX8_when_44 : decode cX8_when 44 = .ok (.iconst 0, 1) := by decide +kernel
theorem dX8_when_45 : decode cX8_when 45 = .ok (.istore_n 2, 1) := by decide +kernel
theorem dX8_when_46 : decode cX8_when 46 = .ok (.iload_n 2, 1) := by decide +kernel
theorem dX8_when_47 : decode cX8_when 47 = .ok (.bipush 16, 2) := by decide +kernel
theorem dX8_when_49 : decode cX8_when 49 = .ok (.if_icmp .ge 56, 3) := by decide +kernel
theorem dX8_when_52 : decode cX8_when 52 = .ok (.aload_n 0, 1) := by decide +kernel
theorem dX8_when_53 : decode cX8_when 53 = .ok (.getfield 10, 3) := by decide +kernel
theorem dX8_when_56 : decode cX8_when 56 = .ok (.aload_n 0, 1) := by decide +kernel
theorem dX8_when_57 : decode cX8_when 57 = .ok (.getfield 22, 3) := by decide +kernel
theorem dX8_when_60 : decode cX8_when 60 = .ok (.invokevirtual 159, 3) := by decide +kernel
theorem dX8_when_63 : decode cX8_when 63 = .ok (.ifCond .ne 42, 3) := by decide +kernel
theorem dX8_when_66 : decode cX8_when 66 = .ok (.aload_n 0, 1) := by decide +kernel
theorem dX8_when_67 : decode cX8_when 67 = .ok (.getfield 10, 3) := by decide +kernel
theorem dX8_when_70 : decode cX8_when 70 = .ok (.aload_n 0, 1) := by decide +kernel
theorem dX8_when_71 : decode cX8_when 71 = .ok (.getfield 22, 3) := by decide +kernel
theorem dX8_when_74 : decode cX8_when 74 = .ok (.invokevirtual 183, 3) := by decide +kernel
theorem dX8_when_77 : decode cX8_when 77 = .ok (.pop, 1) := by decide +kernel
theorem dX8_when_78 : decode cX8_when 78 = .ok (.aload_n 0, 1) := by decide +kernel
theorem dX8_when_79 : decode cX8_when 79 = .ok (.getfield 22, 3) := by decide +kernel
theorem dX8_when_82 : decode cX8_when 82 = .ok (.iload_n 1, 1) := by decide +kernel
theorem dX8_when_83 : decode cX8_when 83 = .ok (.invokevirtual 109, 3) := by decide +kernel
theorem dX8_when_86 : decode cX8_when 86 = .ok (.ifCond .eq 13, 3) := by decide +kernel
theorem dX8_when_89 : decode cX8_when 89 = .ok (.aload_n 0, 1) := by decide +kernel
theorem dX8_when_90 : decode cX8_when 90 = .ok (.getfield 22, 3) := by decide +kernel
theorem dX8_when_93 : decode cX8_when 93 = .ok (.getfield 147, 3) := by decide +kernel
theorem dX8_when_96 : decode cX8_when 96 = .ok (.iconst 1, 1) := by decide +kernel
theorem dX8_when_97 : decode cX8_when 97 = .ok (.isub, 1) := by decide +kernel
theorem dX8_when_98 : decode cX8_when 98 = .ok (.ireturn, 1) := by decide +kernel
theorem dX8_when_99 : decode cX8_when 99 = .ok (.iinc 2 1, 3) := by decide +kernel
theorem dX8_when_102 : decode cX8_when 102 = .ok (.goto (-56), 3) := by decide +kernel
theorem dX8_when_105 : decode cX8_when 105 = .ok (.bipush (-3), 2) := by decide +kernel
theorem dX8_when_107 : decode cX8_when 107 = .ok (.ireturn, 1) := by decide +kernel
theorem dX8_trimFor_0 : decode cX8_trimFor 0 = .ok (.aload_n 0, 1) := by decide +kernel
theorem dX8_trimFor_1 : decode cX8_trimFor 1 = .ok (.getfield 10, 3) := by decide +kernel
theorem dX8_trimFor_4 : decode cX8_trimFor 4 = .ok (.iload_n 1, 1) := by decide +kernel
theorem dX8_trimFor_5 : decode cX8_trimFor 5 = .ok (.invokevirtual 90, 3) := by decide +kernel
theorem dX8_trimFor_8 : decode cX8_trimFor 8 = .ok (.ifCond .eq 20, 3) := by decide +kernel
theorem dX8_trimFor_11 : decode cX8_trimFor 11 = .ok (.aload_n 0, 1) := by decide +kernel
theorem dX8_trimFor_12 : decode cX8_trimFor 12 = .ok (.aload_n 0, 1) := by decide +kernel
theorem dX8_trimFor_13 : decode cX8_trimFor 13 = .ok (.getfield 10, 3) := by decide +kernel
theorem dX8_trimFor_16 : decode cX8_trimFor 16 = .ok (.getfield 103, 3) := by decide +kernel
theorem dX8_trimFor_19 : decode cX8_trimFor 19 = .ok (.iload_n 1, 1) := by decide +kernel
theorem dX8_trimFor_20 : decode cX8_trimFor 20 = .ok (.bipush 9, 2) := by decide +kernel
theorem dX8_trimFor_22 : decode cX8_trimFor 22 = .ok (.invokevirtual 192, 3) := by decide +kernel
theorem dX8_trimFor_25 : decode cX8_trimFor 25 = .ok (.goto 4, 3) := by decide +kernel
theorem dX8_trimFor_28 : decode cX8_trimFor 28 = .ok (.iconst (-1), 1) := by decide +kernel
theorem dX8_trimFor_29 : decode cX8_trimFor 29 = .ok (.ireturn, 1) := by decide +kernel
theorem dX8_laneFor_0 : decode cX8_laneFor 0 = .ok (.aload_n 0, 1) := by decide +kernel
theorem dX8_laneFor_1 : decode cX8_laneFor 1 = .ok (.getfield 10, 3) := by decide +kernel
theorem dX8_laneFor_4 : decode cX8_laneFor 4 = .ok (.iload_n 1, 1) := by decide +kernel
theorem dX8_laneFor_5 : decode cX8_laneFor 5 = .ok (.invokevirtual 90, 3) := by decide +kernel
theorem dX8_laneFor_8 : decode cX8_laneFor 8 = .ok (.ifCond .eq 19, 3) := by decide +kernel
theorem dX8_laneFor_11 : decode cX8_laneFor 11 = .ok (.aload_n 0, 1) := by decide +kernel
theorem dX8_laneFor_12 : decode cX8_laneFor 12 = .ok (.aload_n 0, 1) := by decide +kernel
theorem dX8_laneFor_13 : decode cX8_laneFor 13 = .ok (.getfield 10, 3) := by decide +kernel
theorem dX8_laneFor_16 : decode cX8_laneFor 16 = .ok (.getfield 106, 3) := by decide +kernel
theorem dX8_laneFor_19 : decode cX8_laneFor 19 = .ok (.iload_n 1, 1) := by decide +kernel
theorem dX8_laneFor_20 : decode cX8_laneFor 20 = .ok (.iconst 5, 1) := by decide +kernel
theorem dX8_laneFor_21 : decode cX8_laneFor 21 = .ok (.invokevirtual 192, 3) := by decide +kernel
theorem dX8_laneFor_24 : decode cX8_laneFor 24 = .ok (.goto 4, 3) := by decide +kernel
theorem dX8_laneFor_27 : decode cX8_laneFor 27 = .ok (.iconst (-1), 1) := by decide +kernel
theorem dX8_laneFor_28 : decode cX8_laneFor 28 = .ok (.ireturn, 1) := by decide +kernel
theorem dX8_rock_0 : decode cX8_rock 0 = .ok (.aload_n 0, 1) := by decide +kernel
theorem dX8_rock_1 : decode cX8_rock 1 = .ok (.getfield 10, 3) := by decide +kernel
theorem dX8_rock_4 : decode cX8_rock 4 = .ok (.iload_n 1, 1) := by decide +kernel
theorem dX8_rock_5 : decode cX8_rock 5 = .ok (.invokevirtual 90, 3) := by decide +kernel
theorem dX8_rock_8 : decode cX8_rock 8 = .ok (.ifCond .ne 5, 3) := by decide +kernel
theorem dX8_rock_11 : decode cX8_rock 11 = .ok (.iconst (-1), 1) := by decide +kernel
theorem dX8_rock_12 : decode cX8_rock 12 = .ok (.ireturn, 1) := by decide +kernel
theorem dX8_rock_13 : decode cX8_rock 13 = .ok (.aload_n 0, 1) := by decide +kernel
theorem dX8_rock_14 : decode cX8_rock 14 = .ok (.getfield 22, 3) := by decide +kernel
theorem dX8_rock_17 : decode cX8_rock 17 = .ok (.aload_n 0, 1) := by decide +kernel
theorem dX8_rock_18 : decode cX8_rock 18 = .ok (.getfield 10, 3) := by decide +kernel
theorem dX8_rock_21 : decode cX8_rock 21 = .ok (.getfield 94, 3) := by decide +kernel
theorem dX8_rock_24 : decode cX8_rock 24 = .ok (.invokevirtual 189, 3) := by decide +kernel
theorem dX8_rock_27 : decode cX8_rock 27 = .ok (.iconst 0, 1) := by decide +kernel
theorem dX8_rock_28 : decode cX8_rock 28 = .ok (.istore_n 2, 1) := by decide +kernel
theorem dX8_rock_29 : decode cX8_rock 29 = .ok (.iload_n 2, 1) := by decide +kernel
theorem dX8_rock_30 : decode cX8_rock 30 = .ok (.bipush 16, 2) := by decide +kernel
theorem dX8_rock_32 : decode cX8_rock 32 = .ok (.if_icmp .gt 57, 3) := by decide +kernel
theorem dX8_rock_35 : decode cX8_rock 35 = .ok (.aload_n 0, 1) := by decide +kernel
theorem dX8_rock_36 : decode cX8_rock 36 = .ok (.getfield 22, 3) := by decide +kernel
theorem dX8_rock_39 : decode cX8_rock 39 = .ok (.iload_n 1, 1) := by decide +kernel
theorem dX8_rock_40 : decode cX8_rock 40 = .ok (.invokevirtual 195, 3) := by decide +kernel
theorem dX8_rock_43 : decode cX8_rock 43 = .ok (.ifCond .eq 11, 3) := by decide +kernel
theorem dX8_rock_46 : decode cX8_rock 46 = .ok (.aload_n 0, 1) := by decide +kernel
theorem dX8_rock_47 : decode cX8_rock 47 = .ok (.getfield 22, 3) := by decide +kernel
theorem dX8_rock_50 : decode cX8_rock 50 = .ok (.getfield 147, 3) := by decide +kernel
theorem dX8_rock_53 : decode cX8_rock 53 = .ok (.ireturn, 1) := by decide +kernel
theorem dX8_rock_54 : decode cX8_rock 54 = .ok (.aload_n 0, 1) := by decide +kernel
theorem dX8_rock_55 : decode cX8_rock 55 = .ok (.getfield 10, 3) := by decide +kernel
theorem dX8_rock_58 : decode cX8_rock 58 = .ok (.aload_n 0, 1) := by decide +kernel
theorem dX8_rock_59 : decode cX8_rock 59 = .ok (.getfield 22, 3) := by decide +kernel
theorem dX8_rock_62 : decode cX8_rock 62 = .ok (.invokevirtual 159, 3) := by decide +kernel
theorem dX8_rock_65 : decode cX8_rock 65 = .ok (.ifCond .eq 6, 3) := by decide +kernel
theorem dX8_rock_68 : decode cX8_rock 68 = .ok (.bipush (-3), 2) := by decide +kernel
theorem dX8_rock_70 : decode cX8_rock 70 = .ok (.ireturn, 1) := by decide +kernel
theorem dX8_rock_71 : decode cX8_rock 71 = .ok (.aload_n 0, 1) := by decide +kernel
theorem dX8_rock_72 : decode cX8_rock 72 = .ok (.getfield 10, 3) := by decide +kernel
theorem dX8_rock_75 : decode cX8_rock 75 = .ok (.aload_n 0, 1) := by decide +kernel
theorem dX8_rock_76 : decode cX8_rock 76 = .ok (.getfield 22, 3) := by decide +kernel
theorem dX8_rock_79 : decode cX8_rock 79 = .ok (.invokevirtual 183, 3) := by decide +kernel
theorem dX8_rock_82 : decode cX8_rock 82 = .ok (.pop, 1) := by decide +kernel
theorem dX8_rock_83 : decode cX8_rock 83 = .ok (.iinc 2 1, 3) := by decide +kernel
theorem dX8_rock_86 : decode cX8_rock 86 = .ok (.goto (-57), 3) := by decide +kernel
theorem dX8_rock_89 : decode cX8_rock 89 = .ok (.bipush (-3), 2) := by decide +kernel
theorem dX8_rock_91 : decode cX8_rock 91 = .ok (.ireturn, 1) := by decide +kernel
theorem dX8_least_0 : decode cX8_least 0 = .ok (.aload_n 0, 1) := by decide +kernel
theorem dX8_least_1 : decode cX8_least 1 = .ok (.getfield 10, 3) := by decide +kernel
theorem dX8_least_4 : decode cX8_least 4 = .ok (.iload_n 1, 1) := by decide +kernel
theorem dX8_least_5 : decode cX8_least 5 = .ok (.invokevirtual 90, 3) := by decide +kernel
theorem dX8_least_8 : decode cX8_least 8 = .ok (.ifCond .ne 5, 3) := by decide +kernel
theorem dX8_least_11 : decode cX8_least 11 = .ok (.iconst (-1), 1) := by decide +kernel
theorem dX8_least_12 : decode cX8_least 12 = .ok (.ireturn, 1) := by decide +kernel
theorem dX8_least_13 : decode cX8_least 13 = .ok (.iconst 0, 1) := by decide +kernel
theorem dX8_least_14 : decode cX8_least 14 = .ok (.istore_n 2, 1) := by decide +kernel
theorem dX8_least_15 : decode cX8_least 15 = .ok (.iload_n 2, 1) := by decide +kernel
theorem dX8_least_16 : decode cX8_least 16 = .ok (.bipush 9, 2) := by decide +kernel
theorem dX8_least_18 : decode cX8_least 18 = .ok (.if_icmp .gt 30, 3) := by decide +kernel
theorem dX8_least_21 : decode cX8_least 21 = .ok (.aload_n 0, 1) := by decide +kernel
theorem dX8_least_22 : decode cX8_least 22 = .ok (.getfield 10, 3) := by decide +kernel
theorem dX8_least_25 : decode cX8_least 25 = .ok (.aload_n 0, 1) := by decide +kernel
theorem dX8_least_26 : decode cX8_least 26 = .ok (.getfield 10, 3) := by decide +kernel
theorem dX8_least_29 : decode cX8_least 29 = .ok (.getfield 94, 3) := by decide +kernel
theorem dX8_least_32 : decode cX8_least 32 = .ok (.iload_n 1, 1) := by decide +kernel
theorem dX8_least_33 : decode cX8_least 33 = .ok (.iload_n 2, 1) := by decide +kernel
theorem dX8_least_34 : decode cX8_least 34 = .ok (.invokevirtual 198, 3) := by decide +kernel
theorem dX8_least_37 : decode cX8_least 37 = .ok (.ifCond .eq 5, 3) := by decide +kernel
theorem dX8_least_40 : decode cX8_least 40 = .ok (.iload_n 2, 1) := by decide +kernel
theorem dX8_least_41 : decode cX8_least 41 = .ok (.ireturn, 1) := by decide +kernel
theorem dX8_least_42 : decode cX8_least 42 = .ok (.iinc 2 1, 3) := by decide +kernel
theorem dX8_least_45 : decode cX8_least 45 = .ok (.goto (-30), 3) := by decide +kernel
theorem dX8_least_48 : decode cX8_least 48 = .ok (.bipush (-3), 2) := by decide +kernel
theorem dX8_least_50 : decode cX8_least 50 = .ok (.ireturn, 1) := by decide +kernel
theorem dX8_safe_0 : decode cX8_safe 0 = .ok (.iload_n 1, 1) := by decide +kernel
theorem dX8_safe_1 : decode cX8_safe 1 = .ok (.iconst 0, 1) := by decide +kernel
theorem dX8_safe_2 : decode cX8_safe 2 = .ok (.bipush 16, 2) := by decide +kernel
theorem dX8_safe_4 : decode cX8_safe 4 = .ok (.invokestatic 79, 3) := by decide +kernel
theorem dX8_safe_7 : decode cX8_safe 7 = .ok (.ifCond .ne 5, 3) := by decide +kernel
theorem dX8_safe_10 : decode cX8_safe 10 = .ok (.iconst (-1), 1) := by decide +kernel
theorem dX8_safe_11 : decode cX8_safe 11 = .ok (.ireturn, 1) := by decide +kernel
theorem dX8_safe_12 : decode cX8_safe 12 = .ok (.aload_n 0, 1) := by decide +kernel
theorem dX8_safe_13 : decode cX8_safe 13 = .ok (.iload_n 1, 1) := by decide +kernel
theorem dX8_safe_14 : decode cX8_safe 14 = .ok (.invokevirtual 186, 3) := by decide +kernel
theorem dX8_safe_17 : decode cX8_safe 17 = .ok (.pop, 1) := by decide +kernel
theorem dX8_safe_18 : decode cX8_safe 18 = .ok (.iconst 0, 1) := by decide +kernel
theorem dX8_safe_19 : decode cX8_safe 19 = .ok (.istore_n 2, 1) := by decide +kernel
theorem dX8_safe_20 : decode cX8_safe 20 = .ok (.iconst 0, 1) := by decide +kernel
theorem dX8_safe_21 : decode cX8_safe 21 = .ok (.istore_n 3, 1) := by decide +kernel
theorem dX8_safe_22 : decode cX8_safe 22 = .ok (.iload_n 3, 1) := by decide +kernel
theorem dX8_safe_23 : decode cX8_safe 23 = .ok (.aload_n 0, 1) := by decide +kernel
theorem dX8_safe_24 : decode cX8_safe 24 = .ok (.getfield 10, 3) := by decide +kernel
theorem dX8_safe_27 : decode cX8_safe 27 = .ok (.getfield 83, 3) := by decide +kernel
theorem dX8_safe_30 : decode cX8_safe 30 = .ok (.if_icmp .ge 26, 3) := by decide +kernel
theorem dX8_safe_33 : decode cX8_safe 33 = .ok (.aload_n 0, 1) := by decide +kernel
theorem dX8_safe_34 : decode cX8_safe 34 = .ok (.getfield 22, 3) := by decide +kernel
theorem dX8_safe_37 : decode cX8_safe 37 = .ok (.iload_n 3, 1) := by decide +kernel
theorem dX8_safe_38 : decode cX8_safe 38 = .ok (.invokevirtual 195, 3) := by decide +kernel
theorem dX8_safe_41 : decode cX8_safe 41 = .ok (.ifCond .ne 9, 3) := by decide +kernel
theorem dX8_safe_44 : decode cX8_safe 44 = .ok (.iload_n 2, 1) := by decide +kernel
theorem dX8_safe_45 : decode cX8_safe 45 = .ok (.iconst 1, 1) := by decide +kernel
theorem dX8_safe_46 : decode cX8_safe 46 = .ok (.iload_n 3, 1) := by decide +kernel
theorem dX8_safe_47 : decode cX8_safe 47 = .ok (.ishl, 1) := by decide +kernel
theorem dX8_safe_48 : decode cX8_safe 48 = .ok (.ior, 1) := by decide +kernel
theorem dX8_safe_49 : decode cX8_safe 49 = .ok (.istore_n 2, 1) := by decide +kernel
theorem dX8_safe_50 : decode cX8_safe 50 = .ok (.iinc 3 1, 3) := by decide +kernel
theorem dX8_safe_53 : decode cX8_safe 53 = .ok (.goto (-31), 3) := by decide +kernel
theorem dX8_safe_56 : decode cX8_safe 56 = .ok (.iload_n 2, 1) := by decide +kernel
theorem dX8_safe_57 : decode cX8_safe 57 = .ok (.ireturn, 1) := by decide +kernel
theorem dX8_convoys_0 : decode cX8_convoys 0 = .ok (.iload_n 1, 1) := by decide +kernel
theorem dX8_convoys_1 : decode cX8_convoys 1 = .ok (.iconst (-1), 1) := by decide +kernel
theorem dX8_convoys_2 : decode cX8_convoys 2 = .ok (.if_icmp .ne 8, 3) := by decide +kernel
theorem dX8_convoys_5 : decode cX8_convoys 5 = .ok (.aload_n 0, 1) := by decide +kernel
theorem dX8_convoys_6 : decode cX8_convoys 6 = .ok (.invokevirtual 202, 3) := by decide +kernel
theorem dX8_convoys_9 : decode cX8_convoys 9 = .ok (.ireturn, 1) := by decide +kernel
theorem dX8_convoys_10 : decode cX8_convoys 10 = .ok (.aload_n 0, 1) := by decide +kernel
theorem dX8_convoys_11 : decode cX8_convoys 11 = .ok (.getfield 10, 3) := by decide +kernel
theorem dX8_convoys_14 : decode cX8_convoys 14 = .ok (.iload_n 1, 1) := by decide +kernel
theorem dX8_convoys_15 : decode cX8_convoys 15 = .ok (.invokevirtual 90, 3) := by decide +kernel
theorem dX8_convoys_18 : decode cX8_convoys 18 = .ok (.ifCond .ne 5, 3) := by decide +kernel
theorem dX8_convoys_21 : decode cX8_convoys 21 = .ok (.iconst (-1), 1) := by decide +kernel
theorem dX8_convoys_22 : decode cX8_convoys 22 = .ok (.ireturn, 1) := by decide +kernel
theorem dX8_convoys_23 : decode cX8_convoys 23 = .ok (.aload_n 0, 1) := by decide +kernel
theorem dX8_convoys_24 : decode cX8_convoys 24 = .ok (.getfield 10, 3) := by decide +kernel
theorem dX8_convoys_27 : decode cX8_convoys 27 = .ok (.getfield 94, 3) := by decide +kernel
theorem dX8_convoys_30 : decode cX8_convoys 30 = .ok (.iload_n 1, 1) := by decide +kernel
theorem dX8_convoys_31 : decode cX8_convoys 31 = .ok (.invokevirtual 109, 3) := by decide +kernel
theorem dX8_convoys_34 : decode cX8_convoys 34 = .ok (.ifCond .eq 7, 3) := by decide +kernel
theorem dX8_convoys_37 : decode cX8_convoys 37 = .ok (.iconst 0, 1) := by decide +kernel
theorem dX8_convoys_38 : decode cX8_convoys 38 = .ok (.goto 11, 3) := by decide +kernel
theorem dX8_convoys_41 : decode cX8_convoys 41 = .ok (.aload_n 0, 1) := by decide +kernel
theorem dX8_convoys_42 : decode cX8_convoys 42 = .ok (.getfield 10, 3) := by decide +kernel
theorem dX8_convoys_45 : decode cX8_convoys 45 = .ok (.iload_n 1, 1) := by decide +kernel
theorem dX8_convoys_46 : decode cX8_convoys 46 = .ok (.invokevirtual 206, 3) := by decide +kernel
theorem dX8_convoys_49 : decode cX8_convoys 49 = .ok (.ireturn, 1) := by decide +kernel
theorem dX8_best_0 : decode cX8_best 0 = .ok (.iload_n 1, 1) := by decide +kernel
theorem dX8_best_1 : decode cX8_best 1 = .ok (.iconst 0, 1) := by decide +kernel
theorem dX8_best_2 : decode cX8_best 2 = .ok (.iconst 4, 1) := by decide +kernel
theorem dX8_best_3 : decode cX8_best 3 = .ok (.invokestatic 79, 3) := by decide +kernel
theorem dX8_best_6 : decode cX8_best 6 = .ok (.ifCond .ne 5, 3) := by decide +kernel
theorem dX8_best_9 : decode cX8_best 9 = .ok (.iconst (-1), 1) := by decide +kernel
theorem dX8_best_10 : decode cX8_best 10 = .ok (.ireturn, 1) := by decide +kernel
theorem dX8_best_11 : decode cX8_best 11 = .ok (.aload_n 0, 1) := by decide +kernel
theorem dX8_best_12 : decode cX8_best 12 = .ok (.getfield 29, 3) := by decide +kernel
theorem dX8_best_15 : decode cX8_best 15 = .ok (.aload_n 0, 1) := by decide +kernel
theorem dX8_best_16 : decode cX8_best 16 = .ok (.getfield 10, 3) := by decide +kernel
theorem dX8_best_19 : decode cX8_best 19 = .ok (.iload_n 1, 1) := by decide +kernel
theorem dX8_best_20 : decode cX8_best 20 = .ok (.iconst 0, 1) := by decide +kernel
theorem dX8_best_21 : decode cX8_best 21 = .ok (.invokevirtual 209, 3) := by decide +kernel
theorem dX8_best_24 : decode cX8_best 24 = .ok (.aload_n 0, 1) := by decide +kernel
theorem dX8_best_25 : decode cX8_best 25 = .ok (.getfield 29, 3) := by decide +kernel
theorem dX8_best_28 : decode cX8_best 28 = .ok (.getfield 213, 3) := by decide +kernel
theorem dX8_best_31 : decode cX8_best 31 = .ok (.ireturn, 1) := by decide +kernel
theorem dX8_ith_0 : decode cX8_ith 0 = .ok (.iload_n 1, 1) := by decide +kernel
theorem dX8_ith_1 : decode cX8_ith 1 = .ok (.iconst 0, 1) := by decide +kernel
theorem dX8_ith_2 : decode cX8_ith 2 = .ok (.iconst 4, 1) := by decide +kernel
theorem dX8_ith_3 : decode cX8_ith 3 = .ok (.invokestatic 79, 3) := by decide +kernel
theorem dX8_ith_6 : decode cX8_ith 6 = .ok (.ifCond .eq 12, 3) := by decide +kernel
theorem dX8_ith_9 : decode cX8_ith 9 = .ok (.iload_n 2, 1) := by decide +kernel
theorem dX8_ith_10 : decode cX8_ith 10 = .ok (.iconst 0, 1) := by decide +kernel
theorem dX8_ith_11 : decode cX8_ith 11 = .ok (.iconst 3, 1) := by decide +kernel
theorem dX8_ith_12 : decode cX8_ith 12 = .ok (.invokestatic 79, 3) := by decide +kernel
theorem dX8_ith_15 : decode cX8_ith 15 = .ok (.ifCond .ne 5, 3) := by decide +kernel
theorem dX8_ith_18 : decode cX8_ith 18 = .ok (.iconst (-1), 1) := by decide +kernel
theorem dX8_ith_19 : decode cX8_ith 19 = .ok (.ireturn, 1) := by decide +kernel
theorem dX8_ith_20 : decode cX8_ith 20 = .ok (.aload_n 0, 1) := by decide +kernel
theorem dX8_ith_21 : decode cX8_ith 21 = .ok (.getfield 29, 3) := by decide +kernel
theorem dX8_ith_24 : decode cX8_ith 24 = .ok (.aload_n 0, 1) := by decide +kernel
theorem dX8_ith_25 : decode cX8_ith 25 = .ok (.getfield 10, 3) := by decide +kernel
theorem dX8_ith_28 : decode cX8_ith 28 = .ok (.iload_n 1, 1) := by decide +kernel
theorem dX8_ith_29 : decode cX8_ith 29 = .ok (.iconst 0, 1) := by decide +kernel
theorem dX8_ith_30 : decode cX8_ith 30 = .ok (.invokevirtual 209, 3) := by decide +kernel
theorem dX8_ith_33 : decode cX8_ith 33 = .ok (.iload_n 2, 1) := by decide +kernel
theorem dX8_ith_34 : decode cX8_ith 34 = .ok (.aload_n 0, 1) := by decide +kernel
theorem dX8_ith_35 : decode cX8_ith 35 = .ok (.getfield 29, 3) := by decide +kernel
theorem dX8_ith_38 : decode cX8_ith 38 = .ok (.getfield 216, 3) := by decide +kernel
theorem dX8_ith_41 : decode cX8_ith 41 = .ok (.if_icmp .ge 15, 3) := by decide +kernel
theorem dX8_ith_44 : decode cX8_ith 44 = .ok (.aload_n 0, 1) := by decide +kernel
theorem dX8_ith_45 : decode cX8_ith 45 = .ok (.getfield 29, 3) := by decide +kernel
theorem dX8_ith_48 : decode cX8_ith 48 = .ok (.getfield 219, 3) := by decide +kernel
theorem dX8_ith_51 : decode cX8_ith 51 = .ok (.iload_n 2, 1) := by decide +kernel
theorem dX8_ith_52 : decode cX8_ith 52 = .ok (.iaload, 1) := by decide +kernel
theorem dX8_ith_53 : decode cX8_ith 53 = .ok (.goto 5, 3) := by decide +kernel
theorem dX8_ith_56 : decode cX8_ith 56 = .ok (.bipush (-3), 2) := by decide +kernel
theorem dX8_ith_58 : decode cX8_ith 58 = .ok (.ireturn, 1) := by decide +kernel
theorem dX8_ways_0 : decode cX8_ways 0 = .ok (.iload_n 1, 1) := by decide +kernel
theorem dX8_ways_1 : decode cX8_ways 1 = .ok (.iconst 0, 1) := by decide +kernel
theorem dX8_ways_2 : decode cX8_ways 2 = .ok (.iconst 4, 1) := by decide +kernel
theorem dX8_ways_3 : decode cX8_ways 3 = .ok (.invokestatic 79, 3) := by decide +kernel
theorem dX8_ways_6 : decode cX8_ways 6 = .ok (.ifCond .ne 5, 3) := by decide +kernel
theorem dX8_ways_9 : decode cX8_ways 9 = .ok (.iconst (-1), 1) := by decide +kernel
theorem dX8_ways_10 : decode cX8_ways 10 = .ok (.ireturn, 1) := by decide +kernel
theorem dX8_ways_11 : decode cX8_ways 11 = .ok (.aload_n 0, 1) := by decide +kernel
theorem dX8_ways_12 : decode cX8_ways 12 = .ok (.getfield 29, 3) := by decide +kernel
theorem dX8_ways_15 : decode cX8_ways 15 = .ok (.aload_n 0, 1) := by decide +kernel
theorem dX8_ways_16 : decode cX8_ways 16 = .ok (.getfield 10, 3) := by decide +kernel
theorem dX8_ways_19 : decode cX8_ways 19 = .ok (.iload_n 1, 1) := by decide +kernel
theorem dX8_ways_20 : decode cX8_ways 20 = .ok (.iconst 0, 1) := by decide +kernel
theorem dX8_ways_21 : decode cX8_ways 21 = .ok (.invokevirtual 209, 3) := by decide +kernel
theorem dX8_ways_24 : decode cX8_ways 24 = .ok (.aload_n 0, 1) := by decide +kernel
theorem dX8_ways_25 : decode cX8_ways 25 = .ok (.getfield 29, 3) := by decide +kernel
theorem dX8_ways_28 : decode cX8_ways 28 = .ok (.getfield 222, 3) := by decide +kernel
theorem dX8_ways_31 : decode cX8_ways 31 = .ok (.ireturn, 1) := by decide +kernel
theorem dX8_log_0 : decode cX8_log 0 = .ok (.iload_n 1, 1) := by decide +kernel
theorem dX8_log_1 : decode cX8_log 1 = .ok (.iconst 0, 1) := by decide +kernel
theorem dX8_log_2 : decode cX8_log 2 = .ok (.iconst 4, 1) := by decide +kernel
theorem dX8_log_3 : decode cX8_log 3 = .ok (.invokestatic 79, 3) := by decide +kernel
theorem dX8_log_6 : decode cX8_log 6 = .ok (.ifCond .eq 14, 3) := by decide +kernel
theorem dX8_log_9 : decode cX8_log 9 = .ok (.aload_n 0, 1) := by decide +kernel
theorem dX8_log_10 : decode cX8_log 10 = .ok (.getfield 10, 3) := by decide +kernel
theorem dX8_log_13 : decode cX8_log 13 = .ok (.iload_n 2, 1) := by decide +kernel
theorem dX8_log_14 : decode cX8_log 14 = .ok (.invokevirtual 225, 3) := by decide +kernel
theorem dX8_log_17 : decode cX8_log 17 = .ok (.ifCond .ne 5, 3) := by decide +kernel
theorem dX8_log_20 : decode cX8_log 20 = .ok (.iconst (-1), 1) := by decide +kernel
theorem dX8_log_21 : decode cX8_log 21 = .ok (.ireturn, 1) := by decide +kernel
theorem dX8_log_22 : decode cX8_log 22 = .ok (.aload_n 0, 1) := by decide +kernel
theorem dX8_log_23 : decode cX8_log 23 = .ok (.getfield 29, 3) := by decide +kernel
theorem dX8_log_26 : decode cX8_log 26 = .ok (.aload_n 0, 1) := by decide +kernel
theorem dX8_log_27 : decode cX8_log 27 = .ok (.getfield 10, 3) := by decide +kernel
theorem dX8_log_30 : decode cX8_log 30 = .ok (.iload_n 1, 1) := by decide +kernel
theorem dX8_log_31 : decode cX8_log 31 = .ok (.iload_n 2, 1) := by decide +kernel
theorem dX8_log_32 : decode cX8_log 32 = .ok (.invokevirtual 209, 3) := by decide +kernel
theorem dX8_log_35 : decode cX8_log 35 = .ok (.aload_n 0, 1) := by decide +kernel
theorem dX8_log_36 : decode cX8_log 36 = .ok (.getfield 29, 3) := by decide +kernel
theorem dX8_log_39 : decode cX8_log 39 = .ok (.getfield 228, 3) := by decide +kernel
theorem dX8_log_42 : decode cX8_log 42 = .ok (.ireturn, 1) := by decide +kernel
theorem dX8_bars_0 : decode cX8_bars 0 = .ok (.iload_n 1, 1) := by decide +kernel
theorem dX8_bars_1 : decode cX8_bars 1 = .ok (.iconst 0, 1) := by decide +kernel
theorem dX8_bars_2 : decode cX8_bars 2 = .ok (.iconst 4, 1) := by decide +kernel
theorem dX8_bars_3 : decode cX8_bars 3 = .ok (.invokestatic 79, 3) := by decide +kernel
theorem dX8_bars_6 : decode cX8_bars 6 = .ok (.ifCond .eq 14, 3) := by decide +kernel
theorem dX8_bars_9 : decode cX8_bars 9 = .ok (.aload_n 0, 1) := by decide +kernel
theorem dX8_bars_10 : decode cX8_bars 10 = .ok (.getfield 10, 3) := by decide +kernel
theorem dX8_bars_13 : decode cX8_bars 13 = .ok (.iload_n 2, 1) := by decide +kernel
theorem dX8_bars_14 : decode cX8_bars 14 = .ok (.invokevirtual 225, 3) := by decide +kernel
theorem dX8_bars_17 : decode cX8_bars 17 = .ok (.ifCond .ne 5, 3) := by decide +kernel
theorem dX8_bars_20 : decode cX8_bars 20 = .ok (.iconst (-1), 1) := by decide +kernel
theorem dX8_bars_21 : decode cX8_bars 21 = .ok (.ireturn, 1) := by decide +kernel
theorem dX8_bars_22 : decode cX8_bars 22 = .ok (.aload_n 0, 1) := by decide +kernel
theorem dX8_bars_23 : decode cX8_bars 23 = .ok (.getfield 29, 3) := by decide +kernel
theorem dX8_bars_26 : decode cX8_bars 26 = .ok (.aload_n 0, 1) := by decide +kernel
theorem dX8_bars_27 : decode cX8_bars 27 = .ok (.getfield 10, 3) := by decide +kernel
theorem dX8_bars_30 : decode cX8_bars 30 = .ok (.iload_n 1, 1) := by decide +kernel
theorem dX8_bars_31 : decode cX8_bars 31 = .ok (.iload_n 2, 1) := by decide +kernel
theorem dX8_bars_32 : decode cX8_bars 32 = .ok (.invokevirtual 209, 3) := by decide +kernel
theorem dX8_bars_35 : decode cX8_bars 35 = .ok (.iload_n 2, 1) := by decide +kernel
theorem dX8_bars_36 : decode cX8_bars 36 = .ok (.aload_n 0, 1) := by decide +kernel
theorem dX8_bars_37 : decode cX8_bars 37 = .ok (.getfield 29, 3) := by decide +kernel
theorem dX8_bars_40 : decode cX8_bars 40 = .ok (.getfield 231, 3) := by decide +kernel
theorem dX8_bars_43 : decode cX8_bars 43 = .ok (.iconst (-1), 1) := by decide +kernel
theorem dX8_bars_44 : decode cX8_bars 44 = .ok (.ixor, 1) := by decide +kernel
theorem dX8_bars_45 : decode cX8_bars 45 = .ok (.iand, 1) := by decide +kernel
theorem dX8_bars_46 : decode cX8_bars 46 = .ok (.invokestatic 234, 3) := by decide +kernel
theorem dX8_bars_49 : decode cX8_bars 49 = .ok (.ireturn, 1) := by decide +kernel
theorem dX8_game_0 : decode cX8_game 0 = .ok (.iload_n 1, 1) := by decide +kernel
theorem dX8_game_1 : decode cX8_game 1 = .ok (.iconst 1, 1) := by decide +kernel
theorem dX8_game_2 : decode cX8_game 2 = .ok (.iconst 4, 1) := by decide +kernel
theorem dX8_game_3 : decode cX8_game 3 = .ok (.invokestatic 79, 3) := by decide +kernel
theorem dX8_game_6 : decode cX8_game 6 = .ok (.ifCond .eq 18, 3) := by decide +kernel
theorem dX8_game_9 : decode cX8_game 9 = .ok (.aload_n 0, 1) := by decide +kernel
theorem dX8_game_10 : decode cX8_game 10 = .ok (.getfield 29, 3) := by decide +kernel
theorem dX8_game_13 : decode cX8_game 13 = .ok (.aload_n 0, 1) := by decide +kernel
theorem dX8_game_14 : decode cX8_game 14 = .ok (.getfield 10, 3) := by decide +kernel
theorem dX8_game_17 : decode cX8_game 17 = .ok (.iload_n 1, 1) := by decide +kernel
theorem dX8_game_18 : decode cX8_game 18 = .ok (.invokevirtual 237, 3) := by decide +kernel
theorem dX8_game_21 : decode cX8_game 21 = .ok (.goto 4, 3) := by decide +kernel
theorem dX8_game_24 : decode cX8_game 24 = .ok (.iconst (-1), 1) := by decide +kernel
theorem dX8_game_25 : decode cX8_game 25 = .ok (.ireturn, 1) := by decide +kernel
theorem dX8_play_0 : decode cX8_play 0 = .ok (.iload_n 1, 1) := by decide +kernel
theorem dX8_play_1 : decode cX8_play 1 = .ok (.iconst 1, 1) := by decide +kernel
theorem dX8_play_2 : decode cX8_play 2 = .ok (.iconst 4, 1) := by decide +kernel
theorem dX8_play_3 : decode cX8_play 3 = .ok (.invokestatic 79, 3) := by decide +kernel
theorem dX8_play_6 : decode cX8_play 6 = .ok (.ifCond .ne 5, 3) := by decide +kernel
theorem dX8_play_9 : decode cX8_play 9 = .ok (.iconst (-1), 1) := by decide +kernel
theorem dX8_play_10 : decode cX8_play 10 = .ok (.ireturn, 1) := by decide +kernel
theorem dX8_play_11 : decode cX8_play 11 = .ok (.aload_n 0, 1) := by decide +kernel
theorem dX8_play_12 : decode cX8_play 12 = .ok (.getfield 10, 3) := by decide +kernel
theorem dX8_play_15 : decode cX8_play 15 = .ok (.aload_n 0, 1) := by decide +kernel
theorem dX8_play_16 : decode cX8_play 16 = .ok (.getfield 10, 3) := by decide +kernel
theorem dX8_play_19 : decode cX8_play 19 = .ok (.getfield 94, 3) := by decide +kernel
theorem dX8_play_22 : decode cX8_play 22 = .ok (.invokevirtual 159, 3) := by decide +kernel
theorem dX8_play_25 : decode cX8_play 25 = .ok (.ifCond .eq 6, 3) := by decide +kernel
theorem dX8_play_28 : decode cX8_play 28 = .ok (.bipush (-3), 2) := by decide +kernel
theorem dX8_play_30 : decode cX8_play 30 = .ok (.ireturn, 1) := by decide +kernel
theorem dX8_play_31 : decode cX8_play 31 = .ok (.aload_n 0, 1) := by decide +kernel
theorem dX8_play_32 : decode cX8_play 32 = .ok (.getfield 29, 3) := by decide +kernel
theorem dX8_play_35 : decode cX8_play 35 = .ok (.aload_n 0, 1) := by decide +kernel
theorem dX8_play_36 : decode cX8_play 36 = .ok (.getfield 10, 3) := by decide +kernel
theorem dX8_play_39 : decode cX8_play 39 = .ok (.iload_n 1, 1) := by decide +kernel
theorem dX8_play_40 : decode cX8_play 40 = .ok (.invokevirtual 237, 3) := by decide +kernel
theorem dX8_play_43 : decode cX8_play 43 = .ok (.pop, 1) := by decide +kernel
theorem dX8_play_44 : decode cX8_play 44 = .ok (.aload_n 0, 1) := by decide +kernel
theorem dX8_play_45 : decode cX8_play 45 = .ok (.getfield 29, 3) := by decide +kernel
theorem dX8_play_48 : decode cX8_play 48 = .ok (.getfield 241, 3) := by decide +kernel
theorem dX8_play_51 : decode cX8_play 51 = .ok (.iconst 0, 1) := by decide +kernel
theorem dX8_play_52 : decode cX8_play 52 = .ok (.iaload, 1) := by decide +kernel
theorem dX8_play_53 : decode cX8_play 53 = .ok (.ireturn, 1) := by decide +kernel
theorem dX8_report_0 : decode cX8_report 0 = .ok (.iload_n 1, 1) := by decide +kernel
theorem dX8_report_1 : decode cX8_report 1 = .ok (.iconst 0, 1) := by decide +kernel
theorem dX8_report_2 : decode cX8_report 2 = .ok (.bipush 15, 2) := by decide +kernel
theorem dX8_report_4 : decode cX8_report 4 = .ok (.invokestatic 79, 3) := by decide +kernel
theorem dX8_report_7 : decode cX8_report 7 = .ok (.ifCond .eq 12, 3) := by decide +kernel
theorem dX8_report_10 : decode cX8_report 10 = .ok (.iload_n 2, 1) := by decide +kernel
theorem dX8_report_11 : decode cX8_report 11 = .ok (.iconst 0, 1) := by decide +kernel
theorem dX8_report_12 : decode cX8_report 12 = .ok (.iconst 1, 1) := by decide +kernel
theorem dX8_report_13 : decode cX8_report 13 = .ok (.invokestatic 79, 3) := by decide +kernel
theorem dX8_report_16 : decode cX8_report 16 = .ok (.ifCond .ne 5, 3) := by decide +kernel
theorem dX8_report_19 : decode cX8_report 19 = .ok (.iconst (-1), 1) := by decide +kernel
theorem dX8_report_20 : decode cX8_report 20 = .ok (.ireturn, 1) := by decide +kernel
theorem dX8_report_21 : decode cX8_report 21 = .ok (.iload_n 2, 1) := by decide +kernel
theorem dX8_report_22 : decode cX8_report 22 = .ok (.ifCond .ne 8, 3) := by decide +kernel
theorem dX8_report_25 : decode cX8_report 25 = .ok (.bipush 99, 2) := by decide +kernel
theorem dX8_report_27 : decode cX8_report 27 = .ok (.goto 5, 3) := by decide +kernel
theorem dX8_report_30 : decode cX8_report 30 = .ok (.bipush 16, 2) := by decide +kernel
theorem dX8_report_32 : decode cX8_report 32 = .ok (.istore 5, 2) := by decide +kernel
theorem dX8_report_34 : decode cX8_report 34 = .ok (.iload_n 3, 1) := by decide +kernel
theorem dX8_report_35 : decode cX8_report 35 = .ok (.iconst 0, 1) := by decide +kernel
theorem dX8_report_36 : decode cX8_report 36 = .ok (.iload 5, 2) := by decide +kernel
theorem dX8_report_38 : decode cX8_report 38 = .ok (.invokestatic 79, 3) := by decide +kernel
theorem dX8_report_41 : decode cX8_report 41 = .ok (.ifCond .eq 14, 3) := by decide +kernel
theorem dX8_report_44 : decode cX8_report 44 = .ok (.iload 4, 2) := by decide +kernel
theorem dX8_report_46 : decode cX8_report 46 = .ok (.iload_n 3, 1) := by decide +kernel
theorem dX8_report_47 : decode cX8_report 47 = .ok (.iload 5, 2) := by decide +kernel
theorem dX8_report_49 : decode cX8_report 49 = .ok (.invokestatic 79, 3) := by decide +kernel
theorem dX8_report_52 : decode cX8_report 52 = .ok (.ifCond .ne 5, 3) := by decide +kernel
theorem dX8_report_55 : decode cX8_report 55 = .ok (.iconst (-1), 1) := by decide +kernel
theorem dX8_report_56 : decode cX8_report 56 = .ok (.ireturn, 1) := by decide +kernel
theorem dX8_report_57 : decode cX8_report 57 = .ok (.aload_n 0, 1) := by decide +kernel
theorem dX8_report_58 : decode cX8_report 58 = .ok (.getfield 10, 3) := by decide +kernel
theorem dX8_report_61 : decode cX8_report 61 = .ok (.getfield 244, 3) := by decide +kernel
theorem dX8_report_64 : decode cX8_report 64 = .ok (.getfield 248, 3) := by decide +kernel
theorem dX8_report_67 : decode cX8_report 67 = .ok (.bipush 6, 2) := by decide +kernel
theorem dX8_report_69 : decode cX8_report 69 = .ok (.if_icmp .lt 6, 3) := by decide +kernel
theorem dX8_report_72 : decode cX8_report 72 = .ok (.bipush (-2), 2) := by decide +kernel
theorem dX8_report_74 : decode cX8_report 74 = .ok (.ireturn, 1) := by decide +kernel
theorem dX8_report_75 : decode cX8_report 75 = .ok (.aload_n 0, 1) := by decide +kernel
theorem dX8_report_76 : decode cX8_report 76 = .ok (.getfield 10, 3) := by decide +kernel
theorem dX8_report_79 : decode cX8_report 79 = .ok (.getfield 244, 3) := by decide +kernel
theorem dX8_report_82 : decode cX8_report 82 = .ok (.iload_n 1, 1) := by decide +kernel
theorem dX8_report_83 : decode cX8_report 83 = .ok (.iload_n 2, 1) := by decide +kernel
theorem dX8_report_84 : decode cX8_report 84 = .ok (.iload_n 3, 1) := by decide +kernel
theorem dX8_report_85 : decode cX8_report 85 = .ok (.iload 4, 2) := by decide +kernel
theorem dX8_report_87 : decode cX8_report 87 = .ok (.invokevirtual 251, 3) := by decide +kernel
theorem dX8_report_90 : decode cX8_report 90 = .ok (.ireturn, 1) := by decide +kernel
theorem dX8_forget_0 : decode cX8_forget 0 = .ok (.aload_n 0, 1) := by decide +kernel
theorem dX8_forget_1 : decode cX8_forget 1 = .ok (.getfield 10, 3) := by decide +kernel
theorem dX8_forget_4 : decode cX8_forget 4 = .ok (.getfield 244, 3) := by decide +kernel
theorem dX8_forget_7 : decode cX8_forget 7 = .ok (.getfield 248, 3) := by decide +kernel
theorem dX8_forget_10 : decode cX8_forget 10 = .ok (.istore_n 1, 1) := by decide +kernel
theorem dX8_forget_11 : decode cX8_forget 11 = .ok (.aload_n 0, 1) := by decide +kernel
theorem dX8_forget_12 : decode cX8_forget 12 = .ok (.getfield 10, 3) := by decide +kernel
theorem dX8_forget_15 : decode cX8_forget 15 = .ok (.getfield 244, 3) := by decide +kernel
theorem dX8_forget_18 : decode cX8_forget 18 = .ok (.iconst 0, 1) := by decide +kernel
theorem dX8_forget_19 : decode cX8_forget 19 = .ok (.putfield 248, 3) := by decide +kernel
theorem dX8_forget_22 : decode cX8_forget 22 = .ok (.iload_n 1, 1) := by decide +kernel
theorem dX8_forget_23 : decode cX8_forget 23 = .ok (.ireturn, 1) := by decide +kernel
theorem dX8_lone_0 : decode cX8_lone 0 = .ok (.iload_n 1, 1) := by decide +kernel
theorem dX8_lone_1 : decode cX8_lone 1 = .ok (.iconst 0, 1) := by decide +kernel
theorem dX8_lone_2 : decode cX8_lone 2 = .ok (.iconst 3, 1) := by decide +kernel
theorem dX8_lone_3 : decode cX8_lone 3 = .ok (.invokestatic 79, 3) := by decide +kernel
theorem dX8_lone_6 : decode cX8_lone 6 = .ok (.ifCond .ne 5, 3) := by decide +kernel
theorem dX8_lone_9 : decode cX8_lone 9 = .ok (.iconst (-1), 1) := by decide +kernel
theorem dX8_lone_10 : decode cX8_lone 10 = .ok (.ireturn, 1) := by decide +kernel
theorem dX8_lone_11 : decode cX8_lone 11 = .ok (.iload_n 1, 1) := by decide +kernel
theorem dX8_lone_12 : decode cX8_lone 12 = .ok (.ifCond .ne 8, 3) := by decide +kernel
theorem dX8_lone_15 : decode cX8_lone 15 = .ok (.aload_n 0, 1) := by decide +kernel
theorem dX8_lone_16 : decode cX8_lone 16 = .ok (.invokevirtual 254, 3) := by decide +kernel
theorem dX8_lone_19 : decode cX8_lone 19 = .ok (.ireturn, 1) := by decide +kernel
theorem dX8_lone_20 : decode cX8_lone 20 = .ok (.aload_n 0, 1) := by decide +kernel
theorem dX8_lone_21 : decode cX8_lone 21 = .ok (.invokevirtual 257, 3) := by decide +kernel
theorem dX8_lone_24 : decode cX8_lone 24 = .ok (.istore_n 2, 1) := by decide +kernel
theorem dX8_lone_25 : decode cX8_lone 25 = .ok (.iload_n 2, 1) := by decide +kernel
theorem dX8_lone_26 : decode cX8_lone 26 = .ok (.bipush (-3), 2) := by decide +kernel
theorem dX8_lone_28 : decode cX8_lone 28 = .ok (.if_icmp .ne 6, 3) := by decide +kernel
theorem dX8_lone_31 : decode cX8_lone 31 = .ok (.bipush (-3), 2) := by decide +kernel
theorem dX8_lone_33 : decode cX8_lone 33 = .ok (.ireturn, 1) := by decide +kernel
theorem dX8_lone_34 : decode cX8_lone 34 = .ok (.iload_n 1, 1) := by decide +kernel
theorem dX8_lone_35 : decode cX8_lone 35 = .ok (.lookupswitch 35 #[(1, 25), (2, 30)], 25) := by decide +kernel
theorem dX8_lone_60 : decode cX8_lone 60 = .ok (.iload_n 2, 1) := by decide +kernel
theorem dX8_lone_61 : decode cX8_lone 61 = .ok (.invokestatic 260, 3) := by decide +kernel
theorem dX8_lone_64 : decode cX8_lone 64 = .ok (.ireturn, 1) := by decide +kernel
theorem dX8_lone_65 : decode cX8_lone 65 = .ok (.iload_n 2, 1) := by decide +kernel
theorem dX8_lone_66 : decode cX8_lone 66 = .ok (.invokestatic 263, 3) := by decide +kernel
theorem dX8_lone_69 : decode cX8_lone 69 = .ok (.ireturn, 1) := by decide +kernel
theorem dX8_lone_70 : decode cX8_lone 70 = .ok (.iload_n 2, 1) := by decide +kernel
theorem dX8_lone_71 : decode cX8_lone 71 = .ok (.invokestatic 266, 3) := by decide +kernel
theorem dX8_lone_74 : decode cX8_lone 74 = .ok (.ireturn, 1) := by decide +kernel
theorem dX8_liar_0 : decode cX8_liar 0 = .ok (.iconst 0, 1) := by decide +kernel
theorem dX8_liar_1 : decode cX8_liar 1 = .ok (.istore_n 1, 1) := by decide +kernel
theorem dX8_liar_2 : decode cX8_liar 2 = .ok (.iconst 0, 1) := by decide +kernel
theorem dX8_liar_3 : decode cX8_liar 3 = .ok (.istore_n 2, 1) := by decide +kernel
theorem dX8_liar_4 : decode cX8_liar 4 = .ok (.iload_n 2, 1) := by decide +kernel
theorem dX8_liar_5 : decode cX8_liar 5 = .ok (.sipush 500, 3) := by decide +kernel
theorem dX8_liar_8 : decode cX8_liar 8 = .ok (.if_icmp .ge 47, 3) := by decide +kernel
theorem dX8_liar_11 : decode cX8_liar 11 = .ok (.aload_n 0, 1) := by decide +kernel
theorem dX8_liar_12 : decode cX8_liar 12 = .ok (.getfield 10, 3) := by decide +kernel
theorem dX8_liar_15 : decode cX8_liar 15 = .ok (.getfield 244, 3) := by decide +kernel
theorem dX8_liar_18 : decode cX8_liar 18 = .ok (.iload_n 2, 1) := by decide +kernel
theorem dX8_liar_19 : decode cX8_liar 19 = .ok (.aload_n 0, 1) := by decide +kernel
theorem dX8_liar_20 : decode cX8_liar 20 = .ok (.getfield 10, 3) := by decide +kernel
theorem dX8_liar_23 : decode cX8_liar 23 = .ok (.getfield 138, 3) := by decide +kernel
theorem dX8_liar_26 : decode cX8_liar 26 = .ok (.invokevirtual 269, 3) := by decide +kernel
theorem dX8_liar_29 : decode cX8_liar 29 = .ok (.istore_n 3, 1) := by decide +kernel
theorem dX8_liar_30 : decode cX8_liar 30 = .ok (.iload_n 3, 1) := by decide +kernel
theorem dX8_liar_31 : decode cX8_liar 31 = .ok (.ifCond .ne 6, 3) := by decide +kernel
theorem dX8_liar_34 : decode cX8_liar 34 = .ok (.bipush (-3), 2) := by decide +kernel
theorem dX8_liar_36 : decode cX8_liar 36 = .ok (.ireturn, 1) := by decide +kernel
theorem dX8_liar_37 : decode cX8_liar 37 = .ok (.iload_n 3, 1) := by decide +kernel
theorem dX8_liar_38 : decode cX8_liar 38 = .ok (.invokestatic 273, 3) := by decide +kernel
theorem dX8_liar_41 : decode cX8_liar 41 = .ok (.iconst 1, 1) := by decide +kernel
theorem dX8_liar_42 : decode cX8_liar 42 = .ok (.if_icmp .ne 7, 3) := by decide +kernel
theorem dX8_liar_45 : decode cX8_liar 45 = .ok (.iload_n 1, 1) := by decide +kernel
theorem dX8_liar_46 : decode cX8_liar 46 = .ok (.iload_n 3, 1) := by decide +kernel
theorem dX8_liar_47 : decode cX8_liar 47 = .ok (.ior, 1) := by decide +kernel
theorem dX8_liar_48 : decode cX8_liar 48 = .ok (.istore_n 1, 1) := by decide +kernel
theorem dX8_liar_49 : decode cX8_liar 49 = .ok (.iinc 2 1, 3) := by decide +kernel
theorem dX8_liar_52 : decode cX8_liar 52 = .ok (.goto (-48), 3) := by decide +kernel
theorem dX8_liar_55 : decode cX8_liar 55 = .ok (.iload_n 1, 1) := by decide +kernel
theorem dX8_liar_56 : decode cX8_liar 56 = .ok (.invokestatic 234, 3) := by decide +kernel
theorem dX8_liar_59 : decode cX8_liar 59 = .ok (.ireturn, 1) := by decide +kernel
theorem dX8_seed_0 : decode cX8_seed 0 = .ok (.aload_n 0, 1) := by decide +kernel
theorem dX8_seed_1 : decode cX8_seed 1 = .ok (.getfield 10, 3) := by decide +kernel
theorem dX8_seed_4 : decode cX8_seed 4 = .ok (.getfield 278, 3) := by decide +kernel
theorem dX8_seed_7 : decode cX8_seed 7 = .ok (.istore_n 2, 1) := by decide +kernel
theorem dX8_seed_8 : decode cX8_seed 8 = .ok (.aload_n 0, 1) := by decide +kernel
theorem dX8_seed_9 : decode cX8_seed 9 = .ok (.getfield 10, 3) := by decide +kernel
theorem dX8_seed_12 : decode cX8_seed 12 = .ok (.iload_n 1, 1) := by decide +kernel
theorem dX8_seed_13 : decode cX8_seed 13 = .ok (.putfield 278, 3) := by decide +kernel
theorem dX8_seed_16 : decode cX8_seed 16 = .ok (.iload_n 2, 1) := by decide +kernel
theorem dX8_seed_17 : decode cX8_seed 17 = .ok (.ireturn, 1) := by decide +kernel
theorem dX8_lot_0 : decode cX8_lot 0 = .ok (.aload_n 0, 1) := by decide +kernel
theorem dX8_lot_1 : decode cX8_lot 1 = .ok (.getfield 10, 3) := by decide +kernel
theorem dX8_lot_4 : decode cX8_lot 4 = .ok (.aload_n 0, 1) := by decide +kernel
theorem dX8_lot_5 : decode cX8_lot 5 = .ok (.getfield 10, 3) := by decide +kernel
theorem dX8_lot_8 : decode cX8_lot 8 = .ok (.getfield 94, 3) := by decide +kernel
theorem dX8_lot_11 : decode cX8_lot 11 = .ok (.invokevirtual 159, 3) := by decide +kernel
theorem dX8_lot_14 : decode cX8_lot 14 = .ok (.ifCond .eq 8, 3) := by decide +kernel
theorem dX8_lot_17 : decode cX8_lot 17 = .ok (.bipush (-4), 2) := by decide +kernel
theorem dX8_lot_19 : decode cX8_lot 19 = .ok (.goto 17, 3) := by decide +kernel
theorem dX8_lot_22 : decode cX8_lot 22 = .ok (.aload_n 0, 1) := by decide +kernel
theorem dX8_lot_23 : decode cX8_lot 23 = .ok (.getfield 10, 3) := by decide +kernel
theorem dX8_lot_26 : decode cX8_lot 26 = .ok (.aload_n 0, 1) := by decide +kernel
theorem dX8_lot_27 : decode cX8_lot 27 = .ok (.getfield 10, 3) := by decide +kernel
theorem dX8_lot_30 : decode cX8_lot 30 = .ok (.getfield 94, 3) := by decide +kernel
theorem dX8_lot_33 : decode cX8_lot 33 = .ok (.invokevirtual 281, 3) := by decide +kernel
theorem dX8_lot_36 : decode cX8_lot 36 = .ok (.ireturn, 1) := by decide +kernel
theorem dX8_times_0 : decode cX8_times 0 = .ok (.iload_n 1, 1) := by decide +kernel
theorem dX8_times_1 : decode cX8_times 1 = .ok (.iconst 1, 1) := by decide +kernel
theorem dX8_times_2 : decode cX8_times 2 = .ok (.bipush 40, 2) := by decide +kernel
theorem dX8_times_4 : decode cX8_times 4 = .ok (.invokestatic 79, 3) := by decide +kernel
theorem dX8_times_7 : decode cX8_times 7 = .ok (.ifCond .eq 14, 3) := by decide +kernel
theorem dX8_times_10 : decode cX8_times 10 = .ok (.iload_n 2, 1) := by decide +kernel
theorem dX8_times_11 : decode cX8_times 11 = .ok (.iconst 0, 1) := by decide +kernel
theorem dX8_times_12 : decode cX8_times 12 = .ok (.sipush 999, 3) := by decide +kernel
theorem dX8_times_15 : decode cX8_times 15 = .ok (.invokestatic 79, 3) := by decide +kernel
theorem dX8_times_18 : decode cX8_times 18 = .ok (.ifCond .ne 5, 3) := by decide +kernel
theorem dX8_times_21 : decode cX8_times 21 = .ok (.iconst (-1), 1) := by decide +kernel
theorem dX8_times_22 : decode cX8_times 22 = .ok (.ireturn, 1) := by decide +kernel
theorem dX8_times_23 : decode cX8_times 23 = .ok (.aload_n 0, 1) := by decide +kernel
theorem dX8_times_24 : decode cX8_times 24 = .ok (.getfield 10, 3) := by decide +kernel
theorem dX8_times_27 : decode cX8_times 27 = .ok (.getfield 278, 3) := by decide +kernel
theorem dX8_times_30 : decode cX8_times 30 = .ok (.istore_n 3, 1) := by decide +kernel
theorem dX8_times_31 : decode cX8_times 31 = .ok (.iconst 0, 1) := by decide +kernel
theorem dX8_times_32 : decode cX8_times 32 = .ok (.istore 4, 2) := by decide +kernel
theorem dX8_times_34 : decode cX8_times 34 = .ok (.iconst 0, 1) := by decide +kernel
theorem dX8_times_35 : decode cX8_times 35 = .ok (.istore 5, 2) := by decide +kernel
theorem dX8_times_37 : decode cX8_times 37 = .ok (.iload 5, 2) := by decide +kernel
theorem dX8_times_39 : decode cX8_times 39 = .ok (.iload_n 1, 1) := by decide +kernel
theorem dX8_times_40 : decode cX8_times 40 = .ok (.if_icmp .ge 20, 3) := by decide +kernel
theorem dX8_times_43 : decode cX8_times 43 = .ok (.aload_n 0, 1) := by decide +kernel
theorem dX8_times_44 : decode cX8_times 44 = .ok (.invokevirtual 284, 3) := by decide +kernel
theorem dX8_times_47 : decode cX8_times 47 = .ok (.iload_n 2, 1) := by decide +kernel
theorem dX8_times_48 : decode cX8_times 48 = .ok (.if_icmp .lt 6, 3) := by decide +kernel
theorem dX8_times_51 : decode cX8_times 51 = .ok (.iinc 4 1, 3) := by decide +kernel
theorem dX8_times_54 : decode cX8_times 54 = .ok (.iinc 5 1, 3) := by decide +kernel
theorem dX8_times_57 : decode cX8_times 57 = .ok (.goto (-20), 3) := by decide +kernel
theorem dX8_times_60 : decode cX8_times 60 = .ok (.aload_n 0, 1) := by decide +kernel
theorem dX8_times_61 : decode cX8_times 61 = .ok (.getfield 10, 3) := by decide +kernel
theorem dX8_times_64 : decode cX8_times 64 = .ok (.iload_n 3, 1) := by decide +kernel
theorem dX8_times_65 : decode cX8_times 65 = .ok (.putfield 278, 3) := by decide +kernel
theorem dX8_times_68 : decode cX8_times 68 = .ok (.iload 4, 2) := by decide +kernel
theorem dX8_times_70 : decode cX8_times 70 = .ok (.ireturn, 1) := by decide +kernel
theorem dX8_prove_0 : decode cX8_prove 0 = .ok (.iload_n 1, 1) := by decide +kernel
theorem dX8_prove_1 : decode cX8_prove 1 = .ok (.iconst 0, 1) := by decide +kernel
theorem dX8_prove_2 : decode cX8_prove 2 = .ok (.iconst 4, 1) := by decide +kernel
theorem dX8_prove_3 : decode cX8_prove 3 = .ok (.invokestatic 79, 3) := by decide +kernel
theorem dX8_prove_6 : decode cX8_prove 6 = .ok (.ifCond .ne 5, 3) := by decide +kernel
theorem dX8_prove_9 : decode cX8_prove 9 = .ok (.iconst (-1), 1) := by decide +kernel
theorem dX8_prove_10 : decode cX8_prove 10 = .ok (.ireturn, 1) := by decide +kernel
theorem dX8_prove_11 : decode cX8_prove 11 = .ok (.aload_n 0, 1) := by decide +kernel
theorem dX8_prove_12 : decode cX8_prove 12 = .ok (.getfield 29, 3) := by decide +kernel
theorem dX8_prove_15 : decode cX8_prove 15 = .ok (.aload_n 0, 1) := by decide +kernel
theorem dX8_prove_16 : decode cX8_prove 16 = .ok (.getfield 10, 3) := by decide +kernel
theorem dX8_prove_19 : decode cX8_prove 19 = .ok (.iload_n 1, 1) := by decide +kernel
theorem dX8_prove_20 : decode cX8_prove 20 = .ok (.iconst 0, 1) := by decide +kernel
theorem dX8_prove_21 : decode cX8_prove 21 = .ok (.invokevirtual 209, 3) := by decide +kernel
theorem dX8_prove_24 : decode cX8_prove 24 = .ok (.aload_n 0, 1) := by decide +kernel
theorem dX8_prove_25 : decode cX8_prove 25 = .ok (.aload_n 0, 1) := by decide +kernel
theorem dX8_prove_26 : decode cX8_prove 26 = .ok (.getfield 29, 3) := by decide +kernel
theorem dX8_prove_29 : decode cX8_prove 29 = .ok (.getfield 216, 3) := by decide +kernel
theorem dX8_prove_32 : decode cX8_prove 32 = .ok (.putfield 72, 3) := by decide +kernel
theorem dX8_prove_35 : decode cX8_prove 35 = .ok (.aload_n 0, 1) := by decide +kernel
theorem dX8_prove_36 : decode cX8_prove 36 = .ok (.getfield 22, 3) := by decide +kernel
theorem dX8_prove_39 : decode cX8_prove 39 = .ok (.aload_n 0, 1) := by decide +kernel
theorem dX8_prove_40 : decode cX8_prove 40 = .ok (.getfield 10, 3) := by decide +kernel
theorem dX8_prove_43 : decode cX8_prove 43 = .ok (.getfield 94, 3) := by decide +kernel
theorem dX8_prove_46 : decode cX8_prove 46 = .ok (.invokevirtual 189, 3) := by decide +kernel
theorem dX8_prove_49 : decode cX8_prove 49 = .ok (.iconst 0, 1) := by decide +kernel
theorem dX8_prove_50 : decode cX8_prove 50 = .ok (.istore_n 2, 1) := by decide +kernel
theorem dX8_prove_51 : decode cX8_prove 51 = .ok (.iload_n 2, 1) := by decide +kernel
theorem dX8_prove_52 : decode cX8_prove 52 = .ok (.aload_n 0, 1) := by decide +kernel
theorem dX8_prove_53 : decode cX8_prove 53 = .ok (.getfield 72, 3) := by decide +kernel
theorem dX8_prove_56 : decode cX8_prove 56 = .ok (.if_icmp .ge 73, 3) := by decide +kernel
theorem dX8_prove_59 : decode cX8_prove 59 = .ok (.aload_n 0, 1) := by decide +kernel
theorem dX8_prove_60 : decode cX8_prove 60 = .ok (.getfield 65, 3) := by decide +kernel
theorem dX8_prove_63 : decode cX8_prove 63 = .ok (.iconst 3, 1) := by decide +kernel
theorem dX8_prove_64 : decode cX8_prove 64 = .ok (.iload_n 2, 1) := by decide +kernel
theorem dX8_prove_65 : decode cX8_prove 65 = .ok (.imul, 1) := by decide +kernel
theorem dX8_prove_66 : decode cX8_prove 66 = .ok (.aload_n 0, 1) := by decide +kernel
theorem dX8_prove_67 : decode cX8_prove 67 = .ok (.getfield 29, 3) := by decide +kernel
theorem dX8_prove_70 : decode cX8_prove 70 = .ok (.getfield 219, 3) := by decide +kernel
theorem dX8_prove_73 : decode cX8_prove 73 = .ok (.iload_n 2, 1) := by decide +kernel
theorem dX8_prove_74 : decode cX8_prove 74 = .ok (.iaload, 1) := by decide +kernel
theorem dX8_prove_75 : decode cX8_prove 75 = .ok (.iastore, 1) := by decide +kernel
theorem dX8_prove_76 : decode cX8_prove 76 = .ok (.aload_n 0, 1) := by decide +kernel
theorem dX8_prove_77 : decode cX8_prove 77 = .ok (.getfield 65, 3) := by decide +kernel
theorem dX8_prove_80 : decode cX8_prove 80 = .ok (.iconst 3, 1) := by decide +kernel
theorem dX8_prove_81 : decode cX8_prove 81 = .ok (.iload_n 2, 1) := by decide +kernel
theorem dX8_prove_82 : decode cX8_prove 82 = .ok (.imul, 1) := by decide +kernel
theorem dX8_prove_83 : decode cX8_prove 83 = .ok (.iconst 1, 1) := by decide +kernel
theorem dX8_prove_84 : decode cX8_prove 84 = .ok (.iadd, 1) := by decide +kernel
theorem dX8_prove_85 : decode cX8_prove 85 = .ok (.aload_n 0, 1) := by decide +kernel
theorem dX8_prove_86 : decode cX8_prove 86 = .ok (.getfield 10, 3) := by decide +kernel
theorem dX8_prove_89 : decode cX8_prove 89 = .ok (.aload_n 0, 1) := by decide +kernel
theorem dX8_prove_90 : decode cX8_prove 90 = .ok (.getfield 22, 3) := by decide +kernel
theorem dX8_prove_93 : decode cX8_prove 93 = .ok (.aload_n 0, 1) := by decide +kernel
theorem dX8_prove_94 : decode cX8_prove 94 = .ok (.getfield 29, 3) := by decide +kernel
theorem dX8_prove_97 : decode cX8_prove 97 = .ok (.getfield 219, 3) := by decide +kernel
theorem dX8_prove_100 : decode cX8_prove 100 = .ok (.iload_n 2, 1) := by decide +kernel
theorem dX8_prove_101 : decode cX8_prove 101 = .ok (.iaload, 1) := by decide +kernel
theorem dX8_prove_102 : decode cX8_prove 102 = .ok (.invokevirtual 287, 3) := by decide +kernel
theorem dX8_prove_105 : decode cX8_prove 105 = .ok (.iastore, 1) := by decide +kernel
theorem dX8_prove_106 : decode cX8_prove 106 = .ok (.aload_n 0, 1) := by decide +kernel
theorem dX8_prove_107 : decode cX8_prove 107 = .ok (.getfield 65, 3) := by decide +kernel
theorem dX8_prove_110 : decode cX8_prove 110 = .ok (.iconst 3, 1) := by decide +kernel
theorem dX8_prove_111 : decode cX8_prove 111 = .ok (.iload_n 2, 1) := by decide +kernel
theorem dX8_prove_112 : decode cX8_prove 112 = .ok (.imul, 1) := by decide +kernel
theorem dX8_prove_113 : decode cX8_prove 113 = .ok (.iconst 2, 1) := by decide +kernel
theorem dX8_prove_114 : decode cX8_prove 114 = .ok (.iadd, 1) := by decide +kernel
theorem dX8_prove_115 : decode cX8_prove 115 = .ok (.aload_n 0, 1) := by decide +kernel
theorem dX8_prove_116 : decode cX8_prove 116 = .ok (.getfield 22, 3) := by decide +kernel
theorem dX8_prove_119 : decode cX8_prove 119 = .ok (.getfield 156, 3) := by decide +kernel
theorem dX8_prove_122 : decode cX8_prove 122 = .ok (.iastore, 1) := by decide +kernel
theorem dX8_prove_123 : decode cX8_prove 123 = .ok (.iinc 2 1, 3) := by decide +kernel
theorem dX8_prove_126 : decode cX8_prove 126 = .ok (.goto (-75), 3) := by decide +kernel
theorem dX8_prove_129 : decode cX8_prove 129 = .ok (.aload_n 0, 1) := by decide +kernel
theorem dX8_prove_130 : decode cX8_prove 130 = .ok (.getfield 72, 3) := by decide +kernel
theorem dX8_prove_133 : decode cX8_prove 133 = .ok (.ireturn, 1) := by decide +kernel
theorem dX8_row_0 : decode cX8_row 0 = .ok (.aload_n 0, 1) := by decide +kernel
theorem dX8_row_1 : decode cX8_row 1 = .ok (.iload_n 1, 1) := by decide +kernel
theorem dX8_row_2 : decode cX8_row 2 = .ok (.iload_n 2, 1) := by decide +kernel
theorem dX8_row_3 : decode cX8_row 3 = .ok (.invokevirtual 290, 3) := by decide +kernel
theorem dX8_row_6 : decode cX8_row 6 = .ok (.ifCond .eq 16, 3) := by decide +kernel
theorem dX8_row_9 : decode cX8_row 9 = .ok (.aload_n 0, 1) := by decide +kernel
theorem dX8_row_10 : decode cX8_row 10 = .ok (.getfield 65, 3) := by decide +kernel
theorem dX8_row_13 : decode cX8_row 13 = .ok (.iconst 3, 1) := by decide +kernel
theorem dX8_row_14 : decode cX8_row 14 = .ok (.iload_n 1, 1) := by decide +kernel
theorem dX8_row_15 : decode cX8_row 15 = .ok (.imul, 1) := by decide +kernel
theorem dX8_row_16 : decode cX8_row 16 = .ok (.iload_n 2, 1) := by decide +kernel
theorem dX8_row_17 : decode cX8_row 17 = .ok (.iadd, 1) := by decide +kernel
theorem dX8_row_18 : decode cX8_row 18 = .ok (.iaload, 1) := by decide +kernel
theorem dX8_row_19 : decode cX8_row 19 = .ok (.goto 5, 3) := by decide +kernel
theorem dX8_row_22 : decode cX8_row 22 = .ok (.bipush (-9), 2) := by decide +kernel
theorem dX8_row_24 : decode cX8_row 24 = .ok (.ireturn, 1) := by decide +kernel
theorem dX8_alterRow_0 : decode cX8_alterRow 0 = .ok (.aload_n 0, 1) := by decide +kernel
theorem dX8_alterRow_1 : decode cX8_alterRow 1 = .ok (.iload_n 1, 1) := by decide +kernel
theorem dX8_alterRow_2 : decode cX8_alterRow 2 = .ok (.iload_n 2, 1) := by decide +kernel
theorem dX8_alterRow_3 : decode cX8_alterRow 3 = .ok (.invokevirtual 290, 3) := by decide +kernel
theorem dX8_alterRow_6 : decode cX8_alterRow 6 = .ok (.ifCond .eq 19, 3) := by decide +kernel
theorem dX8_alterRow_9 : decode cX8_alterRow 9 = .ok (.aload_n 0, 1) := by decide +kernel
theorem dX8_alterRow_10 : decode cX8_alterRow 10 = .ok (.getfield 65, 3) := by decide +kernel
theorem dX8_alterRow_13 : decode cX8_alterRow 13 = .ok (.iconst 3, 1) := by decide +kernel
theorem dX8_alterRow_14 : decode cX8_alterRow 14 = .ok (.iload_n 1, 1) := by decide +kernel
theorem dX8_alterRow_15 : decode cX8_alterRow 15 = .ok (.imul, 1) := by decide +kernel
theorem dX8_alterRow_16 : decode cX8_alterRow 16 = .ok (.iload_n 2, 1) := by decide +kernel
