theorem d_D_init_0 : decode b_D_init 0 = .ok (.aload_n 0, 1) := by decide +kernel
theorem d_D_init_1 : decode b_D_init 1 = .ok (.invokespecial 1, 3) := by decide +kernel
theorem d_D_init_4 : decode b_D_init 4 = .ok (.aload_n 0, 1) := by decide +kernel
theorem d_D_init_5 : decode b_D_init 5 = .ok (.sipush 4096, 3) := by decide +kernel
theorem d_D_init_8 : decode b_D_init 8 = .ok (.newarray .int, 2) := by decide +kernel
theorem d_D_init_10 : decode b_D_init 10 = .ok (.putfield 9, 3) := by decide +kernel
theorem d_D_init_13 : decode b_D_init 13 = .ok (.aload_n 0, 1) := by decide +kernel
theorem d_D_init_14 : decode b_D_init 14 = .ok (.sipush 4096, 3) := by decide +kernel
theorem d_D_init_17 : decode b_D_init 17 = .ok (.newarray .int, 2) := by decide +kernel
theorem d_D_init_19 : decode b_D_init 19 = .ok (.putfield 13, 3) := by decide +kernel
theorem d_D_init_22 : decode b_D_init 22 = .ok (.aload_n 0, 1) := by decide +kernel
theorem d_D_init_23 : decode b_D_init 23 = .ok (.new 16, 3) := by decide +kernel
theorem d_D_init_26 : decode b_D_init 26 = .ok (.dup, 1) := by decide +kernel
theorem d_D_init_27 : decode b_D_init 27 = .ok (.invokespecial 18, 3) := by decide +kernel
theorem d_D_init_30 : decode b_D_init 30 = .ok (.putfield 19, 3) := by decide +kernel
theorem d_D_init_33 : decode b_D_init 33 = .ok (.aload_n 0, 1) := by decide +kernel
theorem d_D_init_34 : decode b_D_init 34 = .ok (.new 23, 3) := by decide +kernel
theorem d_D_init_37 : decode b_D_init 37 = .ok (.dup, 1) := by decide +kernel
theorem d_D_init_38 : decode b_D_init 38 = .ok (.invokespecial 25, 3) := by decide +kernel
theorem d_D_init_41 : decode b_D_init 41 = .ok (.putfield 26, 3) := by decide +kernel
theorem d_D_init_44 : decode b_D_init 44 = .ok (.aload_n 0, 1) := by decide +kernel
theorem d_D_init_45 : decode b_D_init 45 = .ok (.new 30, 3) := by decide +kernel
theorem d_D_init_48 : decode b_D_init 48 = .ok (.dup, 1) := by decide +kernel
theorem d_D_init_49 : decode b_D_init 49 = .ok (.invokespecial 32, 3) := by decide +kernel
theorem d_D_init_52 : decode b_D_init 52 = .ok (.putfield 33, 3) := by decide +kernel
theorem d_D_init_55 : decode b_D_init 55 = .ok (.aload_n 0, 1) := by decide +kernel
theorem d_D_init_56 : decode b_D_init 56 = .ok (.iconst 0, 1) := by decide +kernel
theorem d_D_init_57 : decode b_D_init 57 = .ok (.putfield 37, 3) := by decide +kernel
theorem d_D_init_60 : decode b_D_init 60 = .ok (.aload_n 0, 1) := by decide +kernel
theorem d_D_init_61 : decode b_D_init 61 = .ok (.iconst 1, 1) := by decide +kernel
theorem d_D_init_62 : decode b_D_init 62 = .ok (.putfield 41, 3) := by decide +kernel
theorem d_D_init_65 : decode b_D_init 65 = .ok (.aload_n 0, 1) := by decide +kernel
theorem d_D_init_66 : decode b_D_init 66 = .ok (.iconst 1, 1) := by decide +kernel
theorem d_D_init_67 : decode b_D_init 67 = .ok (.putfield 44, 3) := by decide +kernel
theorem d_D_init_70 : decode b_D_init 70 = .ok (.return_, 1) := by decide +kernel
theorem d_T_init_0 : decode b_T_init 0 = .ok (.aload_n 0, 1) := by decide +kernel
theorem d_T_init_1 : decode b_T_init 1 = .ok (.invokespecial 3, 3) := by decide +kernel
theorem d_T_init_4 : decode b_T_init 4 = .ok (.aload_n 0, 1) := by decide +kernel
theorem d_T_init_5 : decode b_T_init 5 = .ok (.bipush 26, 2) := by decide +kernel
theorem d_T_init_7 : decode b_T_init 7 = .ok (.newarray .int, 2) := by decide +kernel
theorem d_T_init_9 : decode b_T_init 9 = .ok (.putfield 11, 3) := by decide +kernel
theorem d_T_init_12 : decode b_T_init 12 = .ok (.iconst 0, 1) := by decide +kernel
theorem d_T_init_13 : decode b_T_init 13 = .ok (.istore_n 1, 1) := by decide +kernel
theorem d_T_init_14 : decode b_T_init 14 = .ok (.iconst 0, 1) := by decide +kernel
theorem d_T_init_15 : decode b_T_init 15 = .ok (.istore_n 2, 1) := by decide +kernel
theorem d_T_init_16 : decode b_T_init 16 = .ok (.iload_n 2, 1) := by decide +kernel
theorem d_T_init_17 : decode b_T_init 17 = .ok (.bipush 26, 2) := by decide +kernel
theorem d_T_init_19 : decode b_T_init 19 = .ok (.if_icmp .ge 30, 3) := by decide +kernel
theorem d_T_init_22 : decode b_T_init 22 = .ok (.aload_n 0, 1) := by decide +kernel
theorem d_T_init_23 : decode b_T_init 23 = .ok (.getfield 11, 3) := by decide +kernel
theorem d_T_init_26 : decode b_T_init 26 = .ok (.iload_n 2, 1) := by decide +kernel
theorem d_T_init_27 : decode b_T_init 27 = .ok (.iload_n 1, 1) := by decide +kernel
theorem d_T_init_28 : decode b_T_init 28 = .ok (.invokestatic 17, 3) := by decide +kernel
theorem d_T_init_31 : decode b_T_init 31 = .ok (.iload_n 1, 1) := by decide +kernel
theorem d_T_init_32 : decode b_T_init 32 = .ok (.iload_n 2, 1) := by decide +kernel
theorem d_T_init_33 : decode b_T_init 33 = .ok (.invokestatic 21, 3) := by decide +kernel
theorem d_T_init_36 : decode b_T_init 36 = .ok (.iload_n 2, 1) := by decide +kernel
theorem d_T_init_37 : decode b_T_init 37 = .ok (.invokestatic 25, 3) := by decide +kernel
theorem d_T_init_40 : decode b_T_init 40 = .ok (.imul, 1) := by decide +kernel
theorem d_T_init_41 : decode b_T_init 41 = .ok (.iadd, 1) := by decide +kernel
theorem d_T_init_42 : decode b_T_init 42 = .ok (.istore_n 1, 1) := by decide +kernel
theorem d_T_init_43 : decode b_T_init 43 = .ok (.iinc 2 1, 3) := by decide +kernel
theorem d_T_init_46 : decode b_T_init 46 = .ok (.goto (-30), 3) := by decide +kernel
theorem d_T_init_49 : decode b_T_init 49 = .ok (.aload_n 0, 1) := by decide +kernel
theorem d_T_init_50 : decode b_T_init 50 = .ok (.iconst 0, 1) := by decide +kernel
theorem d_T_init_51 : decode b_T_init 51 = .ok (.iload_n 1, 1) := by decide +kernel
theorem d_T_init_52 : decode b_T_init 52 = .ok (.invokestatic 28, 3) := by decide +kernel
theorem d_T_init_55 : decode b_T_init 55 = .ok (.newarray .int, 2) := by decide +kernel
theorem d_T_init_57 : decode b_T_init 57 = .ok (.putfield 34, 3) := by decide +kernel
theorem d_T_init_60 : decode b_T_init 60 = .ok (.aload_n 0, 1) := by decide +kernel
theorem d_T_init_61 : decode b_T_init 61 = .ok (.invokevirtual 37, 3) := by decide +kernel
theorem d_T_init_64 : decode b_T_init 64 = .ok (.return_, 1) := by decide +kernel
theorem d_D_write_0 : decode b_D_write 0 = .ok (.iload_n 1, 1) := by decide +kernel
theorem d_D_write_1 : decode b_D_write 1 = .ok (.ifCond .lt 13, 3) := by decide +kernel
theorem d_D_write_4 : decode b_D_write 4 = .ok (.iload_n 1, 1) := by decide +kernel
theorem d_D_write_5 : decode b_D_write 5 = .ok (.aload_n 0, 1) := by decide +kernel
theorem d_D_write_6 : decode b_D_write 6 = .ok (.arraylength, 1) := by decide +kernel
theorem d_D_write_7 : decode b_D_write 7 = .ok (.if_icmp .ge 7, 3) := by decide +kernel
theorem d_D_write_10 : decode b_D_write 10 = .ok (.aload_n 0, 1) := by decide +kernel
theorem d_D_write_11 : decode b_D_write 11 = .ok (.iload_n 1, 1) := by decide +kernel
theorem d_D_write_12 : decode b_D_write 12 = .ok (.iload_n 2, 1) := by decide +kernel
theorem d_D_write_13 : decode b_D_write 13 = .ok (.iastore, 1) := by decide +kernel
theorem d_D_write_14 : decode b_D_write 14 = .ok (.return_, 1) := by decide +kernel
theorem d_S_holders_0 : decode b_S_holders 0 = .ok (.getstatic 23, 3) := by decide +kernel
theorem d_S_holders_3 : decode b_S_holders 3 = .ok (.iload_n 0, 1) := by decide +kernel
theorem d_S_holders_4 : decode b_S_holders 4 = .ok (.invokestatic 19, 3) := by decide +kernel
theorem d_S_holders_7 : decode b_S_holders 7 = .ok (.ireturn, 1) := by decide +kernel
theorem d_D_read_0 : decode b_D_read 0 = .ok (.iload_n 1, 1) := by decide +kernel
theorem d_D_read_1 : decode b_D_read 1 = .ok (.ifCond .lt 15, 3) := by decide +kernel
theorem d_D_read_4 : decode b_D_read 4 = .ok (.iload_n 1, 1) := by decide +kernel
theorem d_D_read_5 : decode b_D_read 5 = .ok (.aload_n 0, 1) := by decide +kernel
theorem d_D_read_6 : decode b_D_read 6 = .ok (.arraylength, 1) := by decide +kernel
theorem d_D_read_7 : decode b_D_read 7 = .ok (.if_icmp .ge 9, 3) := by decide +kernel
theorem d_D_read_10 : decode b_D_read 10 = .ok (.aload_n 0, 1) := by decide +kernel
theorem d_D_read_11 : decode b_D_read 11 = .ok (.iload_n 1, 1) := by decide +kernel
theorem d_D_read_12 : decode b_D_read 12 = .ok (.iaload, 1) := by decide +kernel
theorem d_D_read_13 : decode b_D_read 13 = .ok (.goto 4, 3) := by decide +kernel
theorem d_D_read_16 : decode b_D_read 16 = .ok (.iconst 0, 1) := by decide +kernel
theorem d_D_read_17 : decode b_D_read 17 = .ok (.ireturn, 1) := by decide +kernel
theorem d_S_fixed_0 : decode b_S_fixed 0 = .ok (.iload_n 0, 1) := by decide +kernel
theorem d_S_fixed_1 : decode b_S_fixed 1 = .ok (.invokestatic 11, 3) := by decide +kernel
theorem d_S_fixed_4 : decode b_S_fixed 4 = .ok (.ifCond .eq 23, 3) := by decide +kernel
theorem d_S_fixed_7 : decode b_S_fixed 7 = .ok (.getstatic 15, 3) := by decide +kernel
theorem d_S_fixed_10 : decode b_S_fixed 10 = .ok (.iload_n 0, 1) := by decide +kernel
theorem d_S_fixed_11 : decode b_S_fixed 11 = .ok (.iconst 1, 1) := by decide +kernel
theorem d_S_fixed_12 : decode b_S_fixed 12 = .ok (.iadd, 1) := by decide +kernel
theorem d_S_fixed_13 : decode b_S_fixed 13 = .ok (.invokestatic 19, 3) := by decide +kernel
theorem d_S_fixed_16 : decode b_S_fixed 16 = .ok (.getstatic 15, 3) := by decide +kernel
theorem d_S_fixed_19 : decode b_S_fixed 19 = .ok (.iload_n 0, 1) := by decide +kernel
theorem d_S_fixed_20 : decode b_S_fixed 20 = .ok (.invokestatic 19, 3) := by decide +kernel
theorem d_S_fixed_23 : decode b_S_fixed 23 = .ok (.isub, 1) := by decide +kernel
theorem d_S_fixed_24 : decode b_S_fixed 24 = .ok (.goto 4, 3) := by decide +kernel
theorem d_S_fixed_27 : decode b_S_fixed 27 = .ok (.iconst 0, 1) := by decide +kernel
theorem d_S_fixed_28 : decode b_S_fixed 28 = .ok (.ireturn, 1) := by decide +kernel
theorem d_S_isKind_0 : decode b_S_isKind 0 = .ok (.iload_n 0, 1) := by decide +kernel
theorem d_S_isKind_1 : decode b_S_isKind 1 = .ok (.ifCond .lt 13, 3) := by decide +kernel
theorem d_S_isKind_4 : decode b_S_isKind 4 = .ok (.iload_n 0, 1) := by decide +kernel
theorem d_S_isKind_5 : decode b_S_isKind 5 = .ok (.bipush 26, 2) := by decide +kernel
theorem d_S_isKind_7 : decode b_S_isKind 7 = .ok (.if_icmp .ge 7, 3) := by decide +kernel
theorem d_S_isKind_10 : decode b_S_isKind 10 = .ok (.iconst 1, 1) := by decide +kernel
theorem d_S_isKind_11 : decode b_S_isKind 11 = .ok (.goto 4, 3) := by decide +kernel
theorem d_S_isKind_14 : decode b_S_isKind 14 = .ok (.iconst 0, 1) := by decide +kernel
theorem d_S_isKind_15 : decode b_S_isKind 15 = .ok (.ireturn, 1) := by decide +kernel
theorem d_T_forget_0 : decode b_T_forget 0 = .ok (.iconst 0, 1) := by decide +kernel
theorem d_T_forget_1 : decode b_T_forget 1 = .ok (.istore_n 1, 1) := by decide +kernel
theorem d_T_forget_2 : decode b_T_forget 2 = .ok (.iload_n 1, 1) := by decide +kernel
theorem d_T_forget_3 : decode b_T_forget 3 = .ok (.bipush 26, 2) := by decide +kernel
theorem d_T_forget_5 : decode b_T_forget 5 = .ok (.if_icmp .ge 33, 3) := by decide +kernel
theorem d_T_forget_8 : decode b_T_forget 8 = .ok (.iload_n 1, 1) := by decide +kernel
theorem d_T_forget_9 : decode b_T_forget 9 = .ok (.invokestatic 21, 3) := by decide +kernel
theorem d_T_forget_12 : decode b_T_forget 12 = .ok (.istore_n 2, 1) := by decide +kernel
theorem d_T_forget_13 : decode b_T_forget 13 = .ok (.iconst 0, 1) := by decide +kernel
theorem d_T_forget_14 : decode b_T_forget 14 = .ok (.istore_n 3, 1) := by decide +kernel
theorem d_T_forget_15 : decode b_T_forget 15 = .ok (.iload_n 3, 1) := by decide +kernel
theorem d_T_forget_16 : decode b_T_forget 16 = .ok (.iload_n 2, 1) := by decide +kernel
theorem d_T_forget_17 : decode b_T_forget 17 = .ok (.if_icmp .ge 15, 3) := by decide +kernel
theorem d_T_forget_20 : decode b_T_forget 20 = .ok (.aload_n 0, 1) := by decide +kernel
theorem d_T_forget_21 : decode b_T_forget 21 = .ok (.iload_n 1, 1) := by decide +kernel
theorem d_T_forget_22 : decode b_T_forget 22 = .ok (.iload_n 3, 1) := by decide +kernel
theorem d_T_forget_23 : decode b_T_forget 23 = .ok (.invokevirtual 40, 3) := by decide +kernel
theorem d_T_forget_26 : decode b_T_forget 26 = .ok (.iinc 3 1, 3) := by decide +kernel
theorem d_T_forget_29 : decode b_T_forget 29 = .ok (.goto (-14), 3) := by decide +kernel
theorem d_T_forget_32 : decode b_T_forget 32 = .ok (.iinc 1 1, 3) := by decide +kernel
theorem d_T_forget_35 : decode b_T_forget 35 = .ok (.goto (-33), 3) := by decide +kernel
theorem d_T_forget_38 : decode b_T_forget 38 = .ok (.return_, 1) := by decide +kernel
theorem d_T_forgetOne_0 : decode b_T_forgetOne 0 = .ok (.aload_n 0, 1) := by decide +kernel
theorem d_T_forgetOne_1 : decode b_T_forgetOne 1 = .ok (.iload_n 1, 1) := by decide +kernel
theorem d_T_forgetOne_2 : decode b_T_forgetOne 2 = .ok (.iload_n 2, 1) := by decide +kernel
theorem d_T_forgetOne_3 : decode b_T_forgetOne 3 = .ok (.iconst 0, 1) := by decide +kernel
theorem d_T_forgetOne_4 : decode b_T_forgetOne 4 = .ok (.invokevirtual 44, 3) := by decide +kernel
theorem d_T_forgetOne_7 : decode b_T_forgetOne 7 = .ok (.istore_n 3, 1) := by decide +kernel
theorem d_T_forgetOne_8 : decode b_T_forgetOne 8 = .ok (.iload_n 1, 1) := by decide +kernel
theorem d_T_forgetOne_9 : decode b_T_forgetOne 9 = .ok (.invokestatic 25, 3) := by decide +kernel
theorem d_T_forgetOne_12 : decode b_T_forgetOne 12 = .ok (.istore 4, 2) := by decide +kernel
theorem d_T_forgetOne_14 : decode b_T_forgetOne 14 = .ok (.iconst 0, 1) := by decide +kernel
theorem d_T_forgetOne_15 : decode b_T_forgetOne 15 = .ok (.istore 5, 2) := by decide +kernel
theorem d_T_forgetOne_17 : decode b_T_forgetOne 17 = .ok (.iload 5, 2) := by decide +kernel
theorem d_T_forgetOne_19 : decode b_T_forgetOne 19 = .ok (.iload 4, 2) := by decide +kernel
theorem d_T_forgetOne_21 : decode b_T_forgetOne 21 = .ok (.if_icmp .ge 26, 3) := by decide +kernel
theorem d_T_forgetOne_24 : decode b_T_forgetOne 24 = .ok (.aload_n 0, 1) := by decide +kernel
theorem d_T_forgetOne_25 : decode b_T_forgetOne 25 = .ok (.getfield 34, 3) := by decide +kernel
theorem d_T_forgetOne_28 : decode b_T_forgetOne 28 = .ok (.iload_n 3, 1) := by decide +kernel
theorem d_T_forgetOne_29 : decode b_T_forgetOne 29 = .ok (.iload 5, 2) := by decide +kernel
theorem d_T_forgetOne_31 : decode b_T_forgetOne 31 = .ok (.iadd, 1) := by decide +kernel
theorem d_T_forgetOne_32 : decode b_T_forgetOne 32 = .ok (.iload_n 1, 1) := by decide +kernel
theorem d_T_forgetOne_33 : decode b_T_forgetOne 33 = .ok (.iload 5, 2) := by decide +kernel
theorem d_T_forgetOne_35 : decode b_T_forgetOne 35 = .ok (.invokestatic 48, 3) := by decide +kernel
theorem d_T_forgetOne_38 : decode b_T_forgetOne 38 = .ok (.invokestatic 17, 3) := by decide +kernel
theorem d_T_forgetOne_41 : decode b_T_forgetOne 41 = .ok (.iinc 5 1, 3) := by decide +kernel
theorem d_T_forgetOne_44 : decode b_T_forgetOne 44 = .ok (.goto (-27), 3) := by decide +kernel
theorem d_T_forgetOne_47 : decode b_T_forgetOne 47 = .ok (.iload_n 1, 1) := by decide +kernel
theorem d_T_forgetOne_48 : decode b_T_forgetOne 48 = .ok (.invokestatic 51, 3) := by decide +kernel
theorem d_T_forgetOne_51 : decode b_T_forgetOne 51 = .ok (.ifCond .eq 12, 3) := by decide +kernel
theorem d_T_forgetOne_54 : decode b_T_forgetOne 54 = .ok (.aload_n 0, 1) := by decide +kernel
theorem d_T_forgetOne_55 : decode b_T_forgetOne 55 = .ok (.getfield 34, 3) := by decide +kernel
theorem d_T_forgetOne_58 : decode b_T_forgetOne 58 = .ok (.iload_n 3, 1) := by decide +kernel
theorem d_T_forgetOne_59 : decode b_T_forgetOne 59 = .ok (.iload_n 2, 1) := by decide +kernel
theorem d_T_forgetOne_60 : decode b_T_forgetOne 60 = .ok (.invokestatic 17, 3) := by decide +kernel
theorem d_T_forgetOne_63 : decode b_T_forgetOne 63 = .ok (.return_, 1) := by decide +kernel
theorem d_T_placeOf_0 : decode b_T_placeOf 0 = .ok (.aload_n 0, 1) := by decide +kernel
theorem d_T_placeOf_1 : decode b_T_placeOf 1 = .ok (.getfield 11, 3) := by decide +kernel
theorem d_T_placeOf_4 : decode b_T_placeOf 4 = .ok (.iload_n 1, 1) := by decide +kernel
theorem d_T_placeOf_5 : decode b_T_placeOf 5 = .ok (.invokestatic 67, 3) := by decide +kernel
theorem d_T_placeOf_8 : decode b_T_placeOf 8 = .ok (.iload_n 2, 1) := by decide +kernel
theorem d_T_placeOf_9 : decode b_T_placeOf 9 = .ok (.iload_n 1, 1) := by decide +kernel
theorem d_T_placeOf_10 : decode b_T_placeOf 10 = .ok (.invokestatic 25, 3) := by decide +kernel
theorem d_T_placeOf_13 : decode b_T_placeOf 13 = .ok (.imul, 1) := by decide +kernel
theorem d_T_placeOf_14 : decode b_T_placeOf 14 = .ok (.iadd, 1) := by decide +kernel
theorem d_T_placeOf_15 : decode b_T_placeOf 15 = .ok (.iload_n 3, 1) := by decide +kernel
theorem d_T_placeOf_16 : decode b_T_placeOf 16 = .ok (.iadd, 1) := by decide +kernel
theorem d_T_placeOf_17 : decode b_T_placeOf 17 = .ok (.ireturn, 1) := by decide +kernel
theorem d_S_untold_0 : decode b_S_untold 0 = .ok (.iload_n 0, 1) := by decide +kernel
theorem d_S_untold_1 : decode b_S_untold 1 = .ok (.iload_n 1, 1) := by decide +kernel
theorem d_S_untold_2 : decode b_S_untold 2 = .ok (.iconst 2, 1) := by decide +kernel
theorem d_S_untold_3 : decode b_S_untold 3 = .ok (.invokestatic 26, 3) := by decide +kernel
theorem d_S_untold_6 : decode b_S_untold 6 = .ok (.ireturn, 1) := by decide +kernel
theorem d_S_column_0 : decode b_S_column 0 = .ok (.getstatic 30, 3) := by decide +kernel
theorem d_S_column_3 : decode b_S_column 3 = .ok (.iconst 3, 1) := by decide +kernel
theorem d_S_column_4 : decode b_S_column 4 = .ok (.getstatic 15, 3) := by decide +kernel
theorem d_S_column_7 : decode b_S_column 7 = .ok (.iload_n 0, 1) := by decide +kernel
theorem d_S_column_8 : decode b_S_column 8 = .ok (.invokestatic 19, 3) := by decide +kernel
theorem d_S_column_11 : decode b_S_column 11 = .ok (.iload_n 1, 1) := by decide +kernel
theorem d_S_column_12 : decode b_S_column 12 = .ok (.iadd, 1) := by decide +kernel
theorem d_S_column_13 : decode b_S_column 13 = .ok (.imul, 1) := by decide +kernel
theorem d_S_column_14 : decode b_S_column 14 = .ok (.iload_n 2, 1) := by decide +kernel
theorem d_S_column_15 : decode b_S_column 15 = .ok (.iadd, 1) := by decide +kernel
theorem d_S_column_16 : decode b_S_column 16 = .ok (.invokestatic 19, 3) := by decide +kernel
theorem d_S_column_19 : decode b_S_column 19 = .ok (.ireturn, 1) := by decide +kernel
theorem d_T_namesItsHolder_0 : decode b_T_namesItsHolder 0 = .ok (.iload_n 0, 1) := by decide +kernel
theorem d_T_namesItsHolder_1 : decode b_T_namesItsHolder 1 = .ok (.invokestatic 21, 3) := by decide +kernel
theorem d_T_namesItsHolder_4 : decode b_T_namesItsHolder 4 = .ok (.iconst 1, 1) := by decide +kernel
theorem d_T_namesItsHolder_5 : decode b_T_namesItsHolder 5 = .ok (.if_icmp .le 7, 3) := by decide +kernel
theorem d_T_namesItsHolder_8 : decode b_T_namesItsHolder 8 = .ok (.iconst 1, 1) := by decide +kernel
theorem d_T_namesItsHolder_9 : decode b_T_namesItsHolder 9 = .ok (.goto 4, 3) := by decide +kernel
theorem d_T_namesItsHolder_12 : decode b_T_namesItsHolder 12 = .ok (.iconst 0, 1) := by decide +kernel
theorem d_T_namesItsHolder_13 : decode b_T_namesItsHolder 13 = .ok (.ireturn, 1) := by decide +kernel
theorem d_C_init_0 : decode b_C_init 0 = .ok (.aload_n 0, 1) := by decide +kernel
theorem d_C_init_1 : decode b_C_init 1 = .ok (.invokespecial 3, 3) := by decide +kernel
theorem d_C_init_4 : decode b_C_init 4 = .ok (.aload_n 0, 1) := by decide +kernel
theorem d_C_init_5 : decode b_C_init 5 = .ok (.sipush 258, 3) := by decide +kernel
theorem d_C_init_8 : decode b_C_init 8 = .ok (.newarray .int, 2) := by decide +kernel
theorem d_C_init_10 : decode b_C_init 10 = .ok (.putfield 9, 3) := by decide +kernel
theorem d_C_init_13 : decode b_C_init 13 = .ok (.aload_n 0, 1) := by decide +kernel
theorem d_C_init_14 : decode b_C_init 14 = .ok (.iconst 0, 1) := by decide +kernel
theorem d_C_init_15 : decode b_C_init 15 = .ok (.putfield 15, 3) := by decide +kernel
theorem d_C_init_18 : decode b_C_init 18 = .ok (.aload_n 0, 1) := by decide +kernel
theorem d_C_init_19 : decode b_C_init 19 = .ok (.iconst 0, 1) := by decide +kernel
theorem d_C_init_20 : decode b_C_init 20 = .ok (.putfield 19, 3) := by decide +kernel
theorem d_C_init_23 : decode b_C_init 23 = .ok (.return_, 1) := by decide +kernel
theorem d_R_init_0 : decode b_R_init 0 = .ok (.aload_n 0, 1) := by decide +kernel
theorem d_R_init_1 : decode b_R_init 1 = .ok (.invokespecial 3, 3) := by decide +kernel
theorem d_R_init_4 : decode b_R_init 4 = .ok (.aload_n 0, 1) := by decide +kernel
theorem d_R_init_5 : decode b_R_init 5 = .ok (.iconst 4, 1) := by decide +kernel
theorem d_R_init_6 : decode b_R_init 6 = .ok (.newarray .int, 2) := by decide +kernel
theorem d_R_init_8 : decode b_R_init 8 = .ok (.putfield 9, 3) := by decide +kernel
theorem d_R_init_11 : decode b_R_init 11 = .ok (.aload_n 0, 1) := by decide +kernel
theorem d_R_init_12 : decode b_R_init 12 = .ok (.invokevirtual 15, 3) := by decide +kernel
theorem d_R_init_15 : decode b_R_init 15 = .ok (.return_, 1) := by decide +kernel
theorem d_R_restart_0 : decode b_R_restart 0 = .ok (.aload_n 0, 1) := by decide +kernel
theorem d_R_restart_1 : decode b_R_restart 1 = .ok (.iconst 0, 1) := by decide +kernel
theorem d_R_restart_2 : decode b_R_restart 2 = .ok (.putfield 18, 3) := by decide +kernel
theorem d_R_restart_5 : decode b_R_restart 5 = .ok (.aload_n 0, 1) := by decide +kernel
theorem d_R_restart_6 : decode b_R_restart 6 = .ok (.iconst 0, 1) := by decide +kernel
theorem d_R_restart_7 : decode b_R_restart 7 = .ok (.putfield 22, 3) := by decide +kernel
theorem d_R_restart_10 : decode b_R_restart 10 = .ok (.aload_n 0, 1) := by decide +kernel
theorem d_R_restart_11 : decode b_R_restart 11 = .ok (.iconst (-1), 1) := by decide +kernel
theorem d_R_restart_12 : decode b_R_restart 12 = .ok (.putfield 25, 3) := by decide +kernel
theorem d_R_restart_15 : decode b_R_restart 15 = .ok (.aload_n 0, 1) := by decide +kernel
theorem d_R_restart_16 : decode b_R_restart 16 = .ok (.iconst (-1), 1) := by decide +kernel
theorem d_R_restart_17 : decode b_R_restart 17 = .ok (.putfield 28, 3) := by decide +kernel
theorem d_R_restart_20 : decode b_R_restart 20 = .ok (.aload_n 0, 1) := by decide +kernel
theorem d_R_restart_21 : decode b_R_restart 21 = .ok (.iconst 0, 1) := by decide +kernel
theorem d_R_restart_22 : decode b_R_restart 22 = .ok (.putfield 31, 3) := by decide +kernel
theorem d_R_restart_25 : decode b_R_restart 25 = .ok (.aload_n 0, 1) := by decide +kernel
theorem d_R_restart_26 : decode b_R_restart 26 = .ok (.iconst 0, 1) := by decide +kernel
theorem d_R_restart_27 : decode b_R_restart 27 = .ok (.putfield 34, 3) := by decide +kernel
theorem d_R_restart_30 : decode b_R_restart 30 = .ok (.aload_n 0, 1) := by decide +kernel
theorem d_R_restart_31 : decode b_R_restart 31 = .ok (.iconst (-1), 1) := by decide +kernel
theorem d_R_restart_32 : decode b_R_restart 32 = .ok (.putfield 37, 3) := by decide +kernel
theorem d_R_restart_35 : decode b_R_restart 35 = .ok (.aload_n 0, 1) := by decide +kernel
theorem d_R_restart_36 : decode b_R_restart 36 = .ok (.iconst 0, 1) := by decide +kernel
theorem d_R_restart_37 : decode b_R_restart 37 = .ok (.putfield 40, 3) := by decide +kernel
theorem d_R_restart_40 : decode b_R_restart 40 = .ok (.return_, 1) := by decide +kernel
theorem d_D_clear_0 : decode b_D_clear 0 = .ok (.aload_n 0, 1) := by decide +kernel
theorem d_D_clear_1 : decode b_D_clear 1 = .ok (.iconst 0, 1) := by decide +kernel
theorem d_D_clear_2 : decode b_D_clear 2 = .ok (.putfield 37, 3) := by decide +kernel
theorem d_D_clear_5 : decode b_D_clear 5 = .ok (.aload_n 0, 1) := by decide +kernel
theorem d_D_clear_6 : decode b_D_clear 6 = .ok (.invokevirtual 72, 3) := by decide +kernel
theorem d_D_clear_9 : decode b_D_clear 9 = .ok (.return_, 1) := by decide +kernel
theorem d_D_startAnew_0 : decode b_D_startAnew 0 = .ok (.aload_n 0, 1) := by decide +kernel
theorem d_D_startAnew_1 : decode b_D_startAnew 1 = .ok (.getfield 26, 3) := by decide +kernel
theorem d_D_startAnew_4 : decode b_D_startAnew 4 = .ok (.invokevirtual 94, 3) := by decide +kernel
theorem d_D_startAnew_7 : decode b_D_startAnew 7 = .ok (.aload_n 0, 1) := by decide +kernel
theorem d_D_startAnew_8 : decode b_D_startAnew 8 = .ok (.getfield 33, 3) := by decide +kernel
theorem d_D_startAnew_11 : decode b_D_startAnew 11 = .ok (.invokevirtual 144, 3) := by decide +kernel
theorem d_D_startAnew_14 : decode b_D_startAnew 14 = .ok (.return_, 1) := by decide +kernel
theorem d_C_forget_0 : decode b_C_forget 0 = .ok (.aload_n 0, 1) := by decide +kernel
theorem d_C_forget_1 : decode b_C_forget 1 = .ok (.iconst 0, 1) := by decide +kernel
theorem d_C_forget_2 : decode b_C_forget 2 = .ok (.iconst 0, 1) := by decide +kernel
theorem d_C_forget_3 : decode b_C_forget 3 = .ok (.invokevirtual 22, 3) := by decide +kernel
theorem d_C_forget_6 : decode b_C_forget 6 = .ok (.return_, 1) := by decide +kernel
theorem d_C_become_0 : decode b_C_become 0 = .ok (.aload_n 0, 1) := by decide +kernel
theorem d_C_become_1 : decode b_C_become 1 = .ok (.iload_n 1, 1) := by decide +kernel
theorem d_C_become_2 : decode b_C_become 2 = .ok (.putfield 15, 3) := by decide +kernel
theorem d_C_become_5 : decode b_C_become 5 = .ok (.aload_n 0, 1) := by decide +kernel
theorem d_C_become_6 : decode b_C_become 6 = .ok (.iload_n 2, 1) := by decide +kernel
theorem d_C_become_7 : decode b_C_become 7 = .ok (.putfield 19, 3) := by decide +kernel
theorem d_C_become_10 : decode b_C_become 10 = .ok (.return_, 1) := by decide +kernel
theorem d_D_begin_0 : decode b_D_begin 0 = .ok (.iload_n 1, 1) := by decide +kernel
theorem d_D_begin_1 : decode b_D_begin 1 = .ok (.ifCond .ne 10, 3) := by decide +kernel
theorem d_D_begin_4 : decode b_D_begin 4 = .ok (.aload_n 0, 1) := by decide +kernel
theorem d_D_begin_5 : decode b_D_begin 5 = .ok (.getfield 19, 3) := by decide +kernel
theorem d_D_begin_8 : decode b_D_begin 8 = .ok (.invokevirtual 75, 3) := by decide +kernel
theorem d_D_begin_11 : decode b_D_begin 11 = .ok (.aload_n 0, 1) := by decide +kernel
theorem d_D_begin_12 : decode b_D_begin 12 = .ok (.invokevirtual 72, 3) := by decide +kernel
theorem d_D_begin_15 : decode b_D_begin 15 = .ok (.return_, 1) := by decide +kernel
theorem d_D_word_0 : decode b_D_word 0 = .ok (.iload_n 1, 1) := by decide +kernel
theorem d_D_word_1 : decode b_D_word 1 = .ok (.ifCond .lt 10, 3) := by decide +kernel
theorem d_D_word_4 : decode b_D_word 4 = .ok (.iload_n 1, 1) := by decide +kernel
theorem d_D_word_5 : decode b_D_word 5 = .ok (.sipush 4096, 3) := by decide +kernel
theorem d_D_word_8 : decode b_D_word 8 = .ok (.if_icmp .lt 13, 3) := by decide +kernel
theorem d_D_word_11 : decode b_D_word 11 = .ok (.new 47, 3) := by decide +kernel
theorem d_D_word_14 : decode b_D_word 14 = .ok (.dup, 1) := by decide +kernel
theorem d_D_word_15 : decode b_D_word 15 = .ok (.ldc 49, 2) := by decide +kernel
theorem d_D_word_17 : decode b_D_word 17 = .ok (.invokespecial 51, 3) := by decide +kernel
theorem d_D_word_20 : decode b_D_word 20 = .ok (.athrow, 1) := by decide +kernel
theorem d_D_word_21 : decode b_D_word 21 = .ok (.aload_n 0, 1) := by decide +kernel
theorem d_D_word_22 : decode b_D_word 22 = .ok (.getfield 9, 3) := by decide +kernel
theorem d_D_word_25 : decode b_D_word 25 = .ok (.iload_n 1, 1) := by decide +kernel
theorem d_D_word_26 : decode b_D_word 26 = .ok (.invokestatic 54, 3) := by decide +kernel
theorem d_D_word_29 : decode b_D_word 29 = .ok (.istore_n 3, 1) := by decide +kernel
theorem d_D_word_30 : decode b_D_word 30 = .ok (.aload_n 0, 1) := by decide +kernel
theorem d_D_word_31 : decode b_D_word 31 = .ok (.getfield 9, 3) := by decide +kernel
theorem d_D_word_34 : decode b_D_word 34 = .ok (.iload_n 1, 1) := by decide +kernel
theorem d_D_word_35 : decode b_D_word 35 = .ok (.iload_n 2, 1) := by decide +kernel
theorem d_D_word_36 : decode b_D_word 36 = .ok (.invokestatic 58, 3) := by decide +kernel
theorem d_D_word_39 : decode b_D_word 39 = .ok (.iload_n 3, 1) := by decide +kernel
theorem d_D_word_40 : decode b_D_word 40 = .ok (.ireturn, 1) := by decide +kernel
theorem d_D_frame_0 : decode b_D_frame 0 = .ok (.iload_n 1, 1) := by decide +kernel
theorem d_D_frame_1 : decode b_D_frame 1 = .ok (.iconst 1, 1) := by decide +kernel
theorem d_D_frame_2 : decode b_D_frame 2 = .ok (.if_icmp .lt 22, 3) := by decide +kernel
theorem d_D_frame_5 : decode b_D_frame 5 = .ok (.iload_n 1, 1) := by decide +kernel
theorem d_D_frame_6 : decode b_D_frame 6 = .ok (.sipush 128, 3) := by decide +kernel
theorem d_D_frame_9 : decode b_D_frame 9 = .ok (.if_icmp .gt 15, 3) := by decide +kernel
theorem d_D_frame_12 : decode b_D_frame 12 = .ok (.iload_n 2, 1) := by decide +kernel
theorem d_D_frame_13 : decode b_D_frame 13 = .ok (.iconst 1, 1) := by decide +kernel
theorem d_D_frame_14 : decode b_D_frame 14 = .ok (.if_icmp .lt 10, 3) := by decide +kernel
theorem d_D_frame_17 : decode b_D_frame 17 = .ok (.iload_n 2, 1) := by decide +kernel
theorem d_D_frame_18 : decode b_D_frame 18 = .ok (.sipush 128, 3) := by decide +kernel
theorem d_D_frame_21 : decode b_D_frame 21 = .ok (.if_icmp .le 13, 3) := by decide +kernel
theorem d_D_frame_24 : decode b_D_frame 24 = .ok (.new 62, 3) := by decide +kernel
theorem d_D_frame_27 : decode b_D_frame 27 = .ok (.dup, 1) := by decide +kernel
theorem d_D_frame_28 : decode b_D_frame 28 = .ok (.ldc 64, 2) := by decide +kernel
theorem d_D_frame_30 : decode b_D_frame 30 = .ok (.invokespecial 66, 3) := by decide +kernel
theorem d_D_frame_33 : decode b_D_frame 33 = .ok (.athrow, 1) := by decide +kernel
theorem d_D_frame_34 : decode b_D_frame 34 = .ok (.aload_n 0, 1) := by decide +kernel
theorem d_D_frame_35 : decode b_D_frame 35 = .ok (.iload_n 1, 1) := by decide +kernel
theorem d_D_frame_36 : decode b_D_frame 36 = .ok (.putfield 41, 3) := by decide +kernel
theorem d_D_frame_39 : decode b_D_frame 39 = .ok (.aload_n 0, 1) := by decide +kernel
theorem d_D_frame_40 : decode b_D_frame 40 = .ok (.iload_n 2, 1) := by decide +kernel
theorem d_D_frame_41 : decode b_D_frame 41 = .ok (.putfield 44, 3) := by decide +kernel
theorem d_D_frame_44 : decode b_D_frame 44 = .ok (.return_, 1) := by decide +kernel
theorem d_D_put_0 : decode b_D_put 0 = .ok (.aload_n 0, 1) := by decide +kernel
theorem d_D_put_1 : decode b_D_put 1 = .ok (.getfield 37, 3) := by decide +kernel
theorem d_D_put_4 : decode b_D_put 4 = .ok (.sipush 4096, 3) := by decide +kernel
theorem d_D_put_7 : decode b_D_put 7 = .ok (.if_icmp .lt 13, 3) := by decide +kernel
theorem d_D_put_10 : decode b_D_put 10 = .ok (.new 67, 3) := by decide +kernel
theorem d_D_put_13 : decode b_D_put 13 = .ok (.dup, 1) := by decide +kernel
theorem d_D_put_14 : decode b_D_put 14 = .ok (.ldc 69, 2) := by decide +kernel
theorem d_D_put_16 : decode b_D_put 16 = .ok (.invokespecial 71, 3) := by decide +kernel
theorem d_D_put_19 : decode b_D_put 19 = .ok (.athrow, 1) := by decide +kernel
theorem d_D_put_20 : decode b_D_put 20 = .ok (.aload_n 0, 1) := by decide +kernel
theorem d_D_put_21 : decode b_D_put 21 = .ok (.getfield 13, 3) := by decide +kernel
theorem d_D_put_24 : decode b_D_put 24 = .ok (.aload_n 0, 1) := by decide +kernel
theorem d_D_put_25 : decode b_D_put 25 = .ok (.getfield 37, 3) := by decide +kernel
theorem d_D_put_28 : decode b_D_put 28 = .ok (.iload_n 1, 1) := by decide +kernel
theorem d_D_put_29 : decode b_D_put 29 = .ok (.invokestatic 58, 3) := by decide +kernel
theorem d_D_put_32 : decode b_D_put 32 = .ok (.aload_n 0, 1) := by decide +kernel
theorem d_D_put_33 : decode b_D_put 33 = .ok (.dup, 1) := by decide +kernel
theorem d_D_put_34 : decode b_D_put 34 = .ok (.getfield 37, 3) := by decide +kernel
theorem d_D_put_37 : decode b_D_put 37 = .ok (.iconst 1, 1) := by decide +kernel
theorem d_D_put_38 : decode b_D_put 38 = .ok (.iadd, 1) := by decide +kernel
theorem d_D_put_39 : decode b_D_put 39 = .ok (.putfield 37, 3) := by decide +kernel
theorem d_D_put_42 : decode b_D_put 42 = .ok (.aload_n 0, 1) := by decide +kernel
theorem d_D_put_43 : decode b_D_put 43 = .ok (.getfield 37, 3) := by decide +kernel
theorem d_D_put_46 : decode b_D_put 46 = .ok (.ireturn, 1) := by decide +kernel
theorem d_D_next_0 : decode b_D_next 0 = .ok (.aload_n 0, 1) := by decide +kernel
theorem d_D_next_1 : decode b_D_next 1 = .ok (.getfield 33, 3) := by decide +kernel
theorem d_D_next_4 : decode b_D_next 4 = .ok (.getfield 78, 3) := by decide +kernel
theorem d_D_next_7 : decode b_D_next 7 = .ok (.ifCond .eq 13, 3) := by decide +kernel
theorem d_D_next_10 : decode b_D_next 10 = .ok (.new 82, 3) := by decide +kernel
theorem d_D_next_13 : decode b_D_next 13 = .ok (.dup, 1) := by decide +kernel
theorem d_D_next_14 : decode b_D_next 14 = .ok (.ldc 84, 2) := by decide +kernel
theorem d_D_next_16 : decode b_D_next 16 = .ok (.invokespecial 86, 3) := by decide +kernel
theorem d_D_next_19 : decode b_D_next 19 = .ok (.athrow, 1) := by decide +kernel
theorem d_D_next_20 : decode b_D_next 20 = .ok (.aload_n 0, 1) := by decide +kernel
theorem d_D_next_21 : decode b_D_next 21 = .ok (.getfield 33, 3) := by decide +kernel
theorem d_D_next_24 : decode b_D_next 24 = .ok (.invokevirtual 87, 3) := by decide +kernel
theorem d_D_next_27 : decode b_D_next 27 = .ok (.aload_n 0, 1) := by decide +kernel
theorem d_D_next_28 : decode b_D_next 28 = .ok (.invokevirtual 90, 3) := by decide +kernel
theorem d_D_next_31 : decode b_D_next 31 = .ok (.istore_n 1, 1) := by decide +kernel
theorem d_D_next_32 : decode b_D_next 32 = .ok (.iload_n 1, 1) := by decide +kernel
theorem d_D_next_33 : decode b_D_next 33 = .ok (.ifCond .eq 20, 3) := by decide +kernel
theorem d_D_next_36 : decode b_D_next 36 = .ok (.aload_n 0, 1) := by decide +kernel
theorem d_D_next_37 : decode b_D_next 37 = .ok (.getfield 26, 3) := by decide +kernel
theorem d_D_next_40 : decode b_D_next 40 = .ok (.invokevirtual 94, 3) := by decide +kernel
theorem d_D_next_43 : decode b_D_next 43 = .ok (.aload_n 0, 1) := by decide +kernel
theorem d_D_next_44 : decode b_D_next 44 = .ok (.getfield 33, 3) := by decide +kernel
theorem d_D_next_47 : decode b_D_next 47 = .ok (.iload_n 1, 1) := by decide +kernel
theorem d_D_next_48 : decode b_D_next 48 = .ok (.invokevirtual 95, 3) := by decide +kernel
theorem d_D_next_51 : decode b_D_next 51 = .ok (.iconst (-1), 1) := by decide +kernel
theorem d_D_next_52 : decode b_D_next 52 = .ok (.ireturn, 1) := by decide +kernel
theorem d_D_next_53 : decode b_D_next 53 = .ok (.aload_n 0, 1) := by decide +kernel
theorem d_D_next_54 : decode b_D_next 54 = .ok (.invokevirtual 99, 3) := by decide +kernel
theorem d_D_next_57 : decode b_D_next 57 = .ok (.aload_n 0, 1) := by decide +kernel
theorem d_D_next_58 : decode b_D_next 58 = .ok (.getfield 26, 3) := by decide +kernel
theorem d_D_next_61 : decode b_D_next 61 = .ok (.getfield 102, 3) := by decide +kernel
theorem d_D_next_64 : decode b_D_next 64 = .ok (.ireturn, 1) := by decide +kernel
theorem d_R_arrive_0 : decode b_R_arrive 0 = .ok (.aload_n 0, 1) := by decide +kernel
theorem d_R_arrive_1 : decode b_R_arrive 1 = .ok (.aload_n 0, 1) := by decide +kernel
theorem d_R_arrive_2 : decode b_R_arrive 2 = .ok (.getfield 18, 3) := by decide +kernel
theorem d_R_arrive_5 : decode b_R_arrive 5 = .ok (.putfield 25, 3) := by decide +kernel
theorem d_R_arrive_8 : decode b_R_arrive 8 = .ok (.aload_n 0, 1) := by decide +kernel
theorem d_R_arrive_9 : decode b_R_arrive 9 = .ok (.aload_n 0, 1) := by decide +kernel
theorem d_R_arrive_10 : decode b_R_arrive 10 = .ok (.getfield 22, 3) := by decide +kernel
theorem d_R_arrive_13 : decode b_R_arrive 13 = .ok (.putfield 28, 3) := by decide +kernel
theorem d_R_arrive_16 : decode b_R_arrive 16 = .ok (.return_, 1) := by decide +kernel
theorem d_D_refusalHere_0 : decode b_D_refusalHere 0 = .ok (.aload_n 0, 1) := by decide +kernel
theorem d_D_refusalHere_1 : decode b_D_refusalHere 1 = .ok (.getfield 33, 3) := by decide +kernel
theorem d_D_refusalHere_4 : decode b_D_refusalHere 4 = .ok (.getfield 136, 3) := by decide +kernel
theorem d_D_refusalHere_7 : decode b_D_refusalHere 7 = .ok (.sipush 2000, 3) := by decide +kernel
theorem d_D_refusalHere_10 : decode b_D_refusalHere 10 = .ok (.if_icmp .lt 6, 3) := by decide +kernel
theorem d_D_refusalHere_13 : decode b_D_refusalHere 13 = .ok (.bipush 7, 2) := by decide +kernel
theorem d_D_refusalHere_15 : decode b_D_refusalHere 15 = .ok (.ireturn, 1) := by decide +kernel
theorem d_D_refusalHere_16 : decode b_D_refusalHere 16 = .ok (.aload_n 0, 1) := by decide +kernel
theorem d_D_refusalHere_17 : decode b_D_refusalHere 17 = .ok (.invokevirtual 147, 3) := by decide +kernel
theorem d_D_refusalHere_20 : decode b_D_refusalHere 20 = .ok (.istore_n 1, 1) := by decide +kernel
theorem d_D_refusalHere_21 : decode b_D_refusalHere 21 = .ok (.iload_n 1, 1) := by decide +kernel
theorem d_D_refusalHere_22 : decode b_D_refusalHere 22 = .ok (.ifCond .eq 5, 3) := by decide +kernel
theorem d_D_refusalHere_25 : decode b_D_refusalHere 25 = .ok (.iload_n 1, 1) := by decide +kernel
theorem d_D_refusalHere_26 : decode b_D_refusalHere 26 = .ok (.ireturn, 1) := by decide +kernel
theorem d_D_refusalHere_27 : decode b_D_refusalHere 27 = .ok (.aload_n 0, 1) := by decide +kernel
theorem d_D_refusalHere_28 : decode b_D_refusalHere 28 = .ok (.getfield 26, 3) := by decide +kernel
theorem d_D_refusalHere_31 : decode b_D_refusalHere 31 = .ok (.invokevirtual 150, 3) := by decide +kernel
theorem d_D_refusalHere_34 : decode b_D_refusalHere 34 = .ok (.ifCond .ne 5, 3) := by decide +kernel
theorem d_D_refusalHere_37 : decode b_D_refusalHere 37 = .ok (.iconst 3, 1) := by decide +kernel
theorem d_D_refusalHere_38 : decode b_D_refusalHere 38 = .ok (.ireturn, 1) := by decide +kernel
theorem d_D_refusalHere_39 : decode b_D_refusalHere 39 = .ok (.aload_n 0, 1) := by decide +kernel
theorem d_D_refusalHere_40 : decode b_D_refusalHere 40 = .ok (.invokevirtual 154, 3) := by decide +kernel
theorem d_D_refusalHere_43 : decode b_D_refusalHere 43 = .ok (.ifCond .ne 5, 3) := by decide +kernel
theorem d_D_refusalHere_46 : decode b_D_refusalHere 46 = .ok (.iconst 5, 1) := by decide +kernel
theorem d_D_refusalHere_47 : decode b_D_refusalHere 47 = .ok (.ireturn, 1) := by decide +kernel
theorem d_D_refusalHere_48 : decode b_D_refusalHere 48 = .ok (.aload_n 0, 1) := by decide +kernel
theorem d_D_refusalHere_49 : decode b_D_refusalHere 49 = .ok (.invokevirtual 157, 3) := by decide +kernel
theorem d_D_refusalHere_52 : decode b_D_refusalHere 52 = .ok (.ifCond .eq 7, 3) := by decide +kernel
theorem d_D_refusalHere_55 : decode b_D_refusalHere 55 = .ok (.iconst 0, 1) := by decide +kernel
theorem d_D_refusalHere_56 : decode b_D_refusalHere 56 = .ok (.goto 5, 3) := by decide +kernel
theorem d_D_refusalHere_59 : decode b_D_refusalHere 59 = .ok (.bipush 6, 2) := by decide +kernel
theorem d_D_refusalHere_61 : decode b_D_refusalHere 61 = .ok (.ireturn, 1) := by decide +kernel
theorem d_D_readCommand_0 : decode b_D_readCommand 0 = .ok (.aload_n 0, 1) := by decide +kernel
theorem d_D_readCommand_1 : decode b_D_readCommand 1 = .ok (.invokevirtual 160, 3) := by decide +kernel
theorem d_D_readCommand_4 : decode b_D_readCommand 4 = .ok (.istore_n 1, 1) := by decide +kernel
theorem d_D_readCommand_5 : decode b_D_readCommand 5 = .ok (.aload_n 0, 1) := by decide +kernel
theorem d_D_readCommand_6 : decode b_D_readCommand 6 = .ok (.getfield 33, 3) := by decide +kernel
theorem d_D_readCommand_9 : decode b_D_readCommand 9 = .ok (.getfield 163, 3) := by decide +kernel
theorem d_D_readCommand_12 : decode b_D_readCommand 12 = .ok (.iload_n 1, 1) := by decide +kernel
theorem d_D_readCommand_13 : decode b_D_readCommand 13 = .ok (.if_icmp .lt 8, 3) := by decide +kernel
theorem d_D_readCommand_16 : decode b_D_readCommand 16 = .ok (.aload_n 0, 1) := by decide +kernel
theorem d_D_readCommand_17 : decode b_D_readCommand 17 = .ok (.invokevirtual 166, 3) := by decide +kernel
theorem d_D_readCommand_20 : decode b_D_readCommand 20 = .ok (.ireturn, 1) := by decide +kernel
theorem d_D_readCommand_21 : decode b_D_readCommand 21 = .ok (.aload_n 0, 1) := by decide +kernel
theorem d_D_readCommand_22 : decode b_D_readCommand 22 = .ok (.aload_n 0, 1) := by decide +kernel
theorem d_D_readCommand_23 : decode b_D_readCommand 23 = .ok (.getfield 33, 3) := by decide +kernel
theorem d_D_readCommand_26 : decode b_D_readCommand 26 = .ok (.getfield 163, 3) := by decide +kernel
theorem d_D_readCommand_29 : decode b_D_readCommand 29 = .ok (.invokevirtual 169, 3) := by decide +kernel
theorem d_D_readCommand_32 : decode b_D_readCommand 32 = .ok (.istore_n 2, 1) := by decide +kernel
theorem d_D_readCommand_33 : decode b_D_readCommand 33 = .ok (.iload_n 2, 1) := by decide +kernel
theorem d_D_readCommand_34 : decode b_D_readCommand 34 = .ok (.invokestatic 172, 3) := by decide +kernel
theorem d_D_readCommand_37 : decode b_D_readCommand 37 = .ok (.ifCond .ne 5, 3) := by decide +kernel
theorem d_D_readCommand_40 : decode b_D_readCommand 40 = .ok (.iconst 2, 1) := by decide +kernel
theorem d_D_readCommand_41 : decode b_D_readCommand 41 = .ok (.ireturn, 1) := by decide +kernel
theorem d_D_readCommand_42 : decode b_D_readCommand 42 = .ok (.aload_n 0, 1) := by decide +kernel
theorem d_D_readCommand_43 : decode b_D_readCommand 43 = .ok (.iload_n 2, 1) := by decide +kernel
theorem d_D_readCommand_44 : decode b_D_readCommand 44 = .ok (.invokevirtual 176, 3) := by decide +kernel
theorem d_D_readCommand_47 : decode b_D_readCommand 47 = .ok (.istore_n 3, 1) := by decide +kernel
theorem d_D_readCommand_48 : decode b_D_readCommand 48 = .ok (.aload_n 0, 1) := by decide +kernel
theorem d_D_readCommand_49 : decode b_D_readCommand 49 = .ok (.getfield 33, 3) := by decide +kernel
theorem d_D_readCommand_52 : decode b_D_readCommand 52 = .ok (.getfield 163, 3) := by decide +kernel
theorem d_D_readCommand_55 : decode b_D_readCommand 55 = .ok (.iload_n 3, 1) := by decide +kernel
theorem d_D_readCommand_56 : decode b_D_readCommand 56 = .ok (.iadd, 1) := by decide +kernel
theorem d_D_readCommand_57 : decode b_D_readCommand 57 = .ok (.iload_n 1, 1) := by decide +kernel
theorem d_D_readCommand_58 : decode b_D_readCommand 58 = .ok (.if_icmp .lt 5, 3) := by decide +kernel
theorem d_D_readCommand_61 : decode b_D_readCommand 61 = .ok (.iconst 1, 1) := by decide +kernel
theorem d_D_readCommand_62 : decode b_D_readCommand 62 = .ok (.ireturn, 1) := by decide +kernel
theorem d_D_readCommand_63 : decode b_D_readCommand 63 = .ok (.aload_n 0, 1) := by decide +kernel
theorem d_D_readCommand_64 : decode b_D_readCommand 64 = .ok (.getfield 26, 3) := by decide +kernel
theorem d_D_readCommand_67 : decode b_D_readCommand 67 = .ok (.iload_n 2, 1) := by decide +kernel
theorem d_D_readCommand_68 : decode b_D_readCommand 68 = .ok (.iload_n 3, 1) := by decide +kernel
theorem d_D_readCommand_69 : decode b_D_readCommand 69 = .ok (.invokevirtual 179, 3) := by decide +kernel
theorem d_D_readCommand_72 : decode b_D_readCommand 72 = .ok (.iconst 0, 1) := by decide +kernel
theorem d_D_readCommand_73 : decode b_D_readCommand 73 = .ok (.istore 4, 2) := by decide +kernel
theorem d_D_readCommand_75 : decode b_D_readCommand 75 = .ok (.iload 4, 2) := by decide +kernel
theorem d_D_readCommand_77 : decode b_D_readCommand 77 = .ok (.iload_n 3, 1) := by decide +kernel
theorem d_D_readCommand_78 : decode b_D_readCommand 78 = .ok (.if_icmp .ge 34, 3) := by decide +kernel
theorem d_D_readCommand_81 : decode b_D_readCommand 81 = .ok (.aload_n 0, 1) := by decide +kernel
theorem d_D_readCommand_82 : decode b_D_readCommand 82 = .ok (.getfield 26, 3) := by decide +kernel
theorem d_D_readCommand_85 : decode b_D_readCommand 85 = .ok (.iload 4, 2) := by decide +kernel
theorem d_D_readCommand_87 : decode b_D_readCommand 87 = .ok (.aload_n 0, 1) := by decide +kernel
theorem d_D_readCommand_88 : decode b_D_readCommand 88 = .ok (.aload_n 0, 1) := by decide +kernel
theorem d_D_readCommand_89 : decode b_D_readCommand 89 = .ok (.getfield 33, 3) := by decide +kernel
theorem d_D_readCommand_92 : decode b_D_readCommand 92 = .ok (.getfield 163, 3) := by decide +kernel
theorem d_D_readCommand_95 : decode b_D_readCommand 95 = .ok (.iconst 1, 1) := by decide +kernel
theorem d_D_readCommand_96 : decode b_D_readCommand 96 = .ok (.iadd, 1) := by decide +kernel
theorem d_D_readCommand_97 : decode b_D_readCommand 97 = .ok (.iload 4, 2) := by decide +kernel
theorem d_D_readCommand_99 : decode b_D_readCommand 99 = .ok (.iadd, 1) := by decide +kernel
theorem d_D_readCommand_100 : decode b_D_readCommand 100 = .ok (.invokevirtual 169, 3) := by decide +kernel
theorem d_D_readCommand_103 : decode b_D_readCommand 103 = .ok (.invokevirtual 183, 3) := by decide +kernel
theorem d_D_readCommand_106 : decode b_D_readCommand 106 = .ok (.iinc 4 1, 3) := by decide +kernel
theorem d_D_readCommand_109 : decode b_D_readCommand 109 = .ok (.goto (-34), 3) := by decide +kernel
theorem d_D_readCommand_112 : decode b_D_readCommand 112 = .ok (.iconst 0, 1) := by decide +kernel
theorem d_D_readCommand_113 : decode b_D_readCommand 113 = .ok (.ireturn, 1) := by decide +kernel
theorem d_D_sourceLength_0 : decode b_D_sourceLength 0 = .ok (.aload_n 0, 1) := by decide +kernel
theorem d_D_sourceLength_1 : decode b_D_sourceLength 1 = .ok (.getfield 33, 3) := by decide +kernel
theorem d_D_sourceLength_4 : decode b_D_sourceLength 4 = .ok (.getfield 186, 3) := by decide +kernel
theorem d_D_sourceLength_7 : decode b_D_sourceLength 7 = .ok (.ifCond .le 9, 3) := by decide +kernel
theorem d_D_sourceLength_10 : decode b_D_sourceLength 10 = .ok (.sipush 4096, 3) := by decide +kernel
theorem d_D_sourceLength_13 : decode b_D_sourceLength 13 = .ok (.goto 7, 3) := by decide +kernel
theorem d_D_sourceLength_16 : decode b_D_sourceLength 16 = .ok (.aload_n 0, 1) := by decide +kernel
theorem d_D_sourceLength_17 : decode b_D_sourceLength 17 = .ok (.getfield 37, 3) := by decide +kernel
theorem d_D_sourceLength_20 : decode b_D_sourceLength 20 = .ok (.ireturn, 1) := by decide +kernel
theorem d_D_readBeyondTheEnd_0 : decode b_D_readBeyondTheEnd 0 = .ok (.aload_n 0, 1) := by decide +kernel
theorem d_D_readBeyondTheEnd_1 : decode b_D_readBeyondTheEnd 1 = .ok (.getfield 33, 3) := by decide +kernel
theorem d_D_readBeyondTheEnd_4 : decode b_D_readBeyondTheEnd 4 = .ok (.getfield 186, 3) := by decide +kernel
theorem d_D_readBeyondTheEnd_7 : decode b_D_readBeyondTheEnd 7 = .ok (.ifCond .le 5, 3) := by decide +kernel
theorem d_D_readBeyondTheEnd_10 : decode b_D_readBeyondTheEnd 10 = .ok (.iconst 1, 1) := by decide +kernel
theorem d_D_readBeyondTheEnd_11 : decode b_D_readBeyondTheEnd 11 = .ok (.ireturn, 1) := by decide +kernel
theorem d_D_readBeyondTheEnd_12 : decode b_D_readBeyondTheEnd 12 = .ok (.aload_n 0, 1) := by decide +kernel
theorem d_D_readBeyondTheEnd_13 : decode b_D_readBeyondTheEnd 13 = .ok (.getfield 26, 3) := by decide +kernel
theorem d_D_readBeyondTheEnd_16 : decode b_D_readBeyondTheEnd 16 = .ok (.iconst 0, 1) := by decide +kernel
theorem d_D_readBeyondTheEnd_17 : decode b_D_readBeyondTheEnd 17 = .ok (.iconst 0, 1) := by decide +kernel
theorem d_D_readBeyondTheEnd_18 : decode b_D_readBeyondTheEnd 18 = .ok (.invokevirtual 179, 3) := by decide +kernel
theorem d_D_readBeyondTheEnd_21 : decode b_D_readBeyondTheEnd 21 = .ok (.iconst 0, 1) := by decide +kernel
theorem d_D_readBeyondTheEnd_22 : decode b_D_readBeyondTheEnd 22 = .ok (.ireturn, 1) := by decide +kernel
theorem d_D_sourceWord_0 : decode b_D_sourceWord 0 = .ok (.aload_n 0, 1) := by decide +kernel
theorem d_D_sourceWord_1 : decode b_D_sourceWord 1 = .ok (.getfield 33, 3) := by decide +kernel
theorem d_D_sourceWord_4 : decode b_D_sourceWord 4 = .ok (.getfield 186, 3) := by decide +kernel
theorem d_D_sourceWord_7 : decode b_D_sourceWord 7 = .ok (.ifCond .le 10, 3) := by decide +kernel
theorem d_D_sourceWord_10 : decode b_D_sourceWord 10 = .ok (.aload_n 0, 1) := by decide +kernel
theorem d_D_sourceWord_11 : decode b_D_sourceWord 11 = .ok (.getfield 9, 3) := by decide +kernel
theorem d_D_sourceWord_14 : decode b_D_sourceWord 14 = .ok (.goto 7, 3) := by decide +kernel
theorem d_D_sourceWord_17 : decode b_D_sourceWord 17 = .ok (.aload_n 0, 1) := by decide +kernel
theorem d_D_sourceWord_18 : decode b_D_sourceWord 18 = .ok (.getfield 13, 3) := by decide +kernel
theorem d_D_sourceWord_21 : decode b_D_sourceWord 21 = .ok (.iload_n 1, 1) := by decide +kernel
theorem d_D_sourceWord_22 : decode b_D_sourceWord 22 = .ok (.invokestatic 54, 3) := by decide +kernel
theorem d_D_sourceWord_25 : decode b_D_sourceWord 25 = .ok (.ireturn, 1) := by decide +kernel
theorem d_D_argumentsHere_0 : decode b_D_argumentsHere 0 = .ok (.iload_n 1, 1) := by decide +kernel
theorem d_D_argumentsHere_1 : decode b_D_argumentsHere 1 = .ok (.invokestatic 119, 3) := by decide +kernel
theorem d_D_argumentsHere_4 : decode b_D_argumentsHere 4 = .ok (.istore_n 2, 1) := by decide +kernel
theorem d_D_argumentsHere_5 : decode b_D_argumentsHere 5 = .ok (.iload_n 1, 1) := by decide +kernel
theorem d_D_argumentsHere_6 : decode b_D_argumentsHere 6 = .ok (.bipush 21, 2) := by decide +kernel
theorem d_D_argumentsHere_8 : decode b_D_argumentsHere 8 = .ok (.if_icmp .ne 19, 3) := by decide +kernel
theorem d_D_argumentsHere_11 : decode b_D_argumentsHere 11 = .ok (.aload_n 0, 1) := by decide +kernel
theorem d_D_argumentsHere_12 : decode b_D_argumentsHere 12 = .ok (.getfield 33, 3) := by decide +kernel
theorem d_D_argumentsHere_15 : decode b_D_argumentsHere 15 = .ok (.getfield 163, 3) := by decide +kernel
theorem d_D_argumentsHere_18 : decode b_D_argumentsHere 18 = .ok (.iload_n 2, 1) := by decide +kernel
theorem d_D_argumentsHere_19 : decode b_D_argumentsHere 19 = .ok (.iadd, 1) := by decide +kernel
theorem d_D_argumentsHere_20 : decode b_D_argumentsHere 20 = .ok (.aload_n 0, 1) := by decide +kernel
theorem d_D_argumentsHere_21 : decode b_D_argumentsHere 21 = .ok (.invokevirtual 160, 3) := by decide +kernel
theorem d_D_argumentsHere_24 : decode b_D_argumentsHere 24 = .ok (.if_icmp .lt 5, 3) := by decide +kernel
theorem d_D_argumentsHere_27 : decode b_D_argumentsHere 27 = .ok (.iload_n 2, 1) := by decide +kernel
theorem d_D_argumentsHere_28 : decode b_D_argumentsHere 28 = .ok (.ireturn, 1) := by decide +kernel
theorem d_D_argumentsHere_29 : decode b_D_argumentsHere 29 = .ok (.aload_n 0, 1) := by decide +kernel
theorem d_D_argumentsHere_30 : decode b_D_argumentsHere 30 = .ok (.aload_n 0, 1) := by decide +kernel
theorem d_D_argumentsHere_31 : decode b_D_argumentsHere 31 = .ok (.getfield 33, 3) := by decide +kernel
theorem d_D_argumentsHere_34 : decode b_D_argumentsHere 34 = .ok (.getfield 163, 3) := by decide +kernel
theorem d_D_argumentsHere_37 : decode b_D_argumentsHere 37 = .ok (.iload_n 2, 1) := by decide +kernel
theorem d_D_argumentsHere_38 : decode b_D_argumentsHere 38 = .ok (.iadd, 1) := by decide +kernel
theorem d_D_argumentsHere_39 : decode b_D_argumentsHere 39 = .ok (.invokevirtual 169, 3) := by decide +kernel
theorem d_D_argumentsHere_42 : decode b_D_argumentsHere 42 = .ok (.istore_n 3, 1) := by decide +kernel
theorem d_D_argumentsHere_43 : decode b_D_argumentsHere 43 = .ok (.iload_n 2, 1) := by decide +kernel
theorem d_D_argumentsHere_44 : decode b_D_argumentsHere 44 = .ok (.iconst 0, 1) := by decide +kernel
theorem d_D_argumentsHere_45 : decode b_D_argumentsHere 45 = .ok (.sipush 256, 3) := by decide +kernel
theorem d_D_argumentsHere_48 : decode b_D_argumentsHere 48 = .ok (.iload_n 3, 1) := by decide +kernel
theorem d_D_argumentsHere_49 : decode b_D_argumentsHere 49 = .ok (.invokestatic 189, 3) := by decide +kernel
theorem d_D_argumentsHere_52 : decode b_D_argumentsHere 52 = .ok (.invokestatic 195, 3) := by decide +kernel
theorem d_D_argumentsHere_55 : decode b_D_argumentsHere 55 = .ok (.iadd, 1) := by decide +kernel
theorem d_D_argumentsHere_56 : decode b_D_argumentsHere 56 = .ok (.ireturn, 1) := by decide +kernel
theorem d_C_tell_0 : decode b_C_tell 0 = .ok (.aload_n 0, 1) := by decide +kernel
theorem d_C_tell_1 : decode b_C_tell 1 = .ok (.getfield 9, 3) := by decide +kernel
theorem d_C_tell_4 : decode b_C_tell 4 = .ok (.iload_n 1, 1) := by decide +kernel
theorem d_C_tell_5 : decode b_C_tell 5 = .ok (.iload_n 2, 1) := by decide +kernel
theorem d_C_tell_6 : decode b_C_tell 6 = .ok (.invokestatic 26, 3) := by decide +kernel
theorem d_C_tell_9 : decode b_C_tell 9 = .ok (.return_, 1) := by decide +kernel
theorem d_C_valuesMayBe_0 : decode b_C_valuesMayBe 0 = .ok (.aload_n 0, 1) := by decide +kernel
theorem d_C_valuesMayBe_1 : decode b_C_valuesMayBe 1 = .ok (.getfield 15, 3) := by decide +kernel
theorem d_C_valuesMayBe_4 : decode b_C_valuesMayBe 4 = .ok (.invokestatic 34, 3) := by decide +kernel
theorem d_C_valuesMayBe_7 : decode b_C_valuesMayBe 7 = .ok (.istore_n 1, 1) := by decide +kernel
theorem d_C_valuesMayBe_8 : decode b_C_valuesMayBe 8 = .ok (.iconst 0, 1) := by decide +kernel
theorem d_C_valuesMayBe_9 : decode b_C_valuesMayBe 9 = .ok (.istore_n 2, 1) := by decide +kernel
theorem d_C_valuesMayBe_10 : decode b_C_valuesMayBe 10 = .ok (.iload_n 2, 1) := by decide +kernel
theorem d_C_valuesMayBe_11 : decode b_C_valuesMayBe 11 = .ok (.iload_n 1, 1) := by decide +kernel
theorem d_C_valuesMayBe_12 : decode b_C_valuesMayBe 12 = .ok (.if_icmp .ge 27, 3) := by decide +kernel
theorem d_C_valuesMayBe_15 : decode b_C_valuesMayBe 15 = .ok (.aload_n 0, 1) := by decide +kernel
theorem d_C_valuesMayBe_16 : decode b_C_valuesMayBe 16 = .ok (.getfield 15, 3) := by decide +kernel
theorem d_C_valuesMayBe_19 : decode b_C_valuesMayBe 19 = .ok (.iload_n 2, 1) := by decide +kernel
theorem d_C_valuesMayBe_20 : decode b_C_valuesMayBe 20 = .ok (.aload_n 0, 1) := by decide +kernel
theorem d_C_valuesMayBe_21 : decode b_C_valuesMayBe 21 = .ok (.iload_n 2, 1) := by decide +kernel
theorem d_C_valuesMayBe_22 : decode b_C_valuesMayBe 22 = .ok (.invokevirtual 40, 3) := by decide +kernel
theorem d_C_valuesMayBe_25 : decode b_C_valuesMayBe 25 = .ok (.invokestatic 43, 3) := by decide +kernel
theorem d_C_valuesMayBe_28 : decode b_C_valuesMayBe 28 = .ok (.ifCond .ne 5, 3) := by decide +kernel
theorem d_C_valuesMayBe_31 : decode b_C_valuesMayBe 31 = .ok (.iconst 0, 1) := by decide +kernel
theorem d_C_valuesMayBe_32 : decode b_C_valuesMayBe 32 = .ok (.ireturn, 1) := by decide +kernel
theorem d_C_valuesMayBe_33 : decode b_C_valuesMayBe 33 = .ok (.iinc 2 1, 3) := by decide +kernel
theorem d_C_valuesMayBe_36 : decode b_C_valuesMayBe 36 = .ok (.goto (-26), 3) := by decide +kernel
theorem d_C_valuesMayBe_39 : decode b_C_valuesMayBe 39 = .ok (.iconst 1, 1) := by decide +kernel
theorem d_C_valuesMayBe_40 : decode b_C_valuesMayBe 40 = .ok (.ireturn, 1) := by decide +kernel
theorem d_C_at_0 : decode b_C_at 0 = .ok (.aload_n 0, 1) := by decide +kernel
theorem d_C_at_1 : decode b_C_at 1 = .ok (.getfield 9, 3) := by decide +kernel
theorem d_C_at_4 : decode b_C_at 4 = .ok (.iload_n 1, 1) := by decide +kernel
theorem d_C_at_5 : decode b_C_at 5 = .ok (.invokestatic 30, 3) := by decide +kernel
theorem d_C_at_8 : decode b_C_at 8 = .ok (.ireturn, 1) := by decide +kernel
theorem d_S_mayBe_0 : decode b_S_mayBe 0 = .ok (.iload_n 2, 1) := by decide +kernel
theorem d_S_mayBe_1 : decode b_S_mayBe 1 = .ok (.iload_n 0, 1) := by decide +kernel
theorem d_S_mayBe_2 : decode b_S_mayBe 2 = .ok (.iload_n 1, 1) := by decide +kernel
theorem d_S_mayBe_3 : decode b_S_mayBe 3 = .ok (.iconst 0, 1) := by decide +kernel
theorem d_S_mayBe_4 : decode b_S_mayBe 4 = .ok (.invokestatic 26, 3) := by decide +kernel
theorem d_S_mayBe_7 : decode b_S_mayBe 7 = .ok (.if_icmp .lt 17, 3) := by decide +kernel
theorem d_S_mayBe_10 : decode b_S_mayBe 10 = .ok (.iload_n 2, 1) := by decide +kernel
theorem d_S_mayBe_11 : decode b_S_mayBe 11 = .ok (.iload_n 0, 1) := by decide +kernel
theorem d_S_mayBe_12 : decode b_S_mayBe 12 = .ok (.iload_n 1, 1) := by decide +kernel
theorem d_S_mayBe_13 : decode b_S_mayBe 13 = .ok (.iconst 1, 1) := by decide +kernel
theorem d_S_mayBe_14 : decode b_S_mayBe 14 = .ok (.invokestatic 26, 3) := by decide +kernel
theorem d_S_mayBe_17 : decode b_S_mayBe 17 = .ok (.if_icmp .gt 7, 3) := by decide +kernel
theorem d_S_mayBe_20 : decode b_S_mayBe 20 = .ok (.iconst 1, 1) := by decide +kernel
theorem d_S_mayBe_21 : decode b_S_mayBe 21 = .ok (.goto 4, 3) := by decide +kernel
theorem d_S_mayBe_24 : decode b_S_mayBe 24 = .ok (.iconst 0, 1) := by decide +kernel
theorem d_S_mayBe_25 : decode b_S_mayBe 25 = .ok (.ireturn, 1) := by decide +kernel
theorem d_D_placesAreThere_0 : decode b_D_placesAreThere 0 = .ok (.aload_n 0, 1) := by decide +kernel
theorem d_D_placesAreThere_1 : decode b_D_placesAreThere 1 = .ok (.getfield 26, 3) := by decide +kernel
theorem d_D_placesAreThere_4 : decode b_D_placesAreThere 4 = .ok (.getfield 102, 3) := by decide +kernel
theorem d_D_placesAreThere_7 : decode b_D_placesAreThere 7 = .ok (.tableswitch 277 6 23 #[85, 137, 137, 277, 277, 277, 277, 277, 277, 277, 277, 277, 277, 277, 159, 244, 277, 264], 85) := by decide +kernel
theorem d_D_placesAreThere_92 : decode b_D_placesAreThere 92 = .ok (.aload_n 0, 1) := by decide +kernel
theorem d_D_placesAreThere_93 : decode b_D_placesAreThere 93 = .ok (.getfield 26, 3) := by decide +kernel
theorem d_D_placesAreThere_96 : decode b_D_placesAreThere 96 = .ok (.iconst 0, 1) := by decide +kernel
theorem d_D_placesAreThere_97 : decode b_D_placesAreThere 97 = .ok (.invokevirtual 110, 3) := by decide +kernel
theorem d_D_placesAreThere_100 : decode b_D_placesAreThere 100 = .ok (.aload_n 0, 1) := by decide +kernel
theorem d_D_placesAreThere_101 : decode b_D_placesAreThere 101 = .ok (.getfield 26, 3) := by decide +kernel
theorem d_D_placesAreThere_104 : decode b_D_placesAreThere 104 = .ok (.iconst 1, 1) := by decide +kernel
theorem d_D_placesAreThere_105 : decode b_D_placesAreThere 105 = .ok (.invokevirtual 110, 3) := by decide +kernel
theorem d_D_placesAreThere_108 : decode b_D_placesAreThere 108 = .ok (.iadd, 1) := by decide +kernel
theorem d_D_placesAreThere_109 : decode b_D_placesAreThere 109 = .ok (.bipush 32, 2) := by decide +kernel
theorem d_D_placesAreThere_111 : decode b_D_placesAreThere 111 = .ok (.if_icmp .gt 31, 3) := by decide +kernel
theorem d_D_placesAreThere_114 : decode b_D_placesAreThere 114 = .ok (.aload_n 0, 1) := by decide +kernel
theorem d_D_placesAreThere_115 : decode b_D_placesAreThere 115 = .ok (.getfield 26, 3) := by decide +kernel
theorem d_D_placesAreThere_118 : decode b_D_placesAreThere 118 = .ok (.iconst 2, 1) := by decide +kernel
theorem d_D_placesAreThere_119 : decode b_D_placesAreThere 119 = .ok (.invokevirtual 110, 3) := by decide +kernel
theorem d_D_placesAreThere_122 : decode b_D_placesAreThere 122 = .ok (.iconst 4, 1) := by decide +kernel
theorem d_D_placesAreThere_123 : decode b_D_placesAreThere 123 = .ok (.aload_n 0, 1) := by decide +kernel
theorem d_D_placesAreThere_124 : decode b_D_placesAreThere 124 = .ok (.getfield 26, 3) := by decide +kernel
theorem d_D_placesAreThere_127 : decode b_D_placesAreThere 127 = .ok (.iconst 1, 1) := by decide +kernel
theorem d_D_placesAreThere_128 : decode b_D_placesAreThere 128 = .ok (.invokevirtual 110, 3) := by decide +kernel
theorem d_D_placesAreThere_131 : decode b_D_placesAreThere 131 = .ok (.imul, 1) := by decide +kernel
theorem d_D_placesAreThere_132 : decode b_D_placesAreThere 132 = .ok (.invokestatic 198, 3) := by decide +kernel
theorem d_D_placesAreThere_135 : decode b_D_placesAreThere 135 = .ok (.ifCond .eq 7, 3) := by decide +kernel
theorem d_D_placesAreThere_138 : decode b_D_placesAreThere 138 = .ok (.iconst 1, 1) := by decide +kernel
theorem d_D_placesAreThere_139 : decode b_D_placesAreThere 139 = .ok (.goto 4, 3) := by decide +kernel
theorem d_D_placesAreThere_142 : decode b_D_placesAreThere 142 = .ok (.iconst 0, 1) := by decide +kernel
theorem d_D_placesAreThere_143 : decode b_D_placesAreThere 143 = .ok (.ireturn, 1) := by decide +kernel
theorem d_D_placesAreThere_144 : decode b_D_placesAreThere 144 = .ok (.aload_n 0, 1) := by decide +kernel
theorem d_D_placesAreThere_145 : decode b_D_placesAreThere 145 = .ok (.getfield 26, 3) := by decide +kernel
theorem d_D_placesAreThere_148 : decode b_D_placesAreThere 148 = .ok (.iconst 0, 1) := by decide +kernel
theorem d_D_placesAreThere_149 : decode b_D_placesAreThere 149 = .ok (.invokevirtual 110, 3) := by decide +kernel
theorem d_D_placesAreThere_152 : decode b_D_placesAreThere 152 = .ok (.iconst 3, 1) := by decide +kernel
theorem d_D_placesAreThere_153 : decode b_D_placesAreThere 153 = .ok (.aload_n 0, 1) := by decide +kernel
theorem d_D_placesAreThere_154 : decode b_D_placesAreThere 154 = .ok (.getfield 26, 3) := by decide +kernel
theorem d_D_placesAreThere_157 : decode b_D_placesAreThere 157 = .ok (.iconst 1, 1) := by decide +kernel
theorem d_D_placesAreThere_158 : decode b_D_placesAreThere 158 = .ok (.invokevirtual 110, 3) := by decide +kernel
theorem d_D_placesAreThere_161 : decode b_D_placesAreThere 161 = .ok (.imul, 1) := by decide +kernel
theorem d_D_placesAreThere_162 : decode b_D_placesAreThere 162 = .ok (.invokestatic 198, 3) := by decide +kernel
theorem d_D_placesAreThere_165 : decode b_D_placesAreThere 165 = .ok (.ireturn, 1) := by decide +kernel
theorem d_D_placesAreThere_166 : decode b_D_placesAreThere 166 = .ok (.aload_n 0, 1) := by decide +kernel
theorem d_D_placesAreThere_167 : decode b_D_placesAreThere 167 = .ok (.getfield 26, 3) := by decide +kernel
theorem d_D_placesAreThere_170 : decode b_D_placesAreThere 170 = .ok (.iconst 0, 1) := by decide +kernel
theorem d_D_placesAreThere_171 : decode b_D_placesAreThere 171 = .ok (.invokevirtual 110, 3) := by decide +kernel
theorem d_D_placesAreThere_174 : decode b_D_placesAreThere 174 = .ok (.aload_n 0, 1) := by decide +kernel
theorem d_D_placesAreThere_175 : decode b_D_placesAreThere 175 = .ok (.getfield 26, 3) := by decide +kernel
theorem d_D_placesAreThere_178 : decode b_D_placesAreThere 178 = .ok (.iconst 2, 1) := by decide +kernel
theorem d_D_placesAreThere_179 : decode b_D_placesAreThere 179 = .ok (.invokevirtual 110, 3) := by decide +kernel
theorem d_D_placesAreThere_182 : decode b_D_placesAreThere 182 = .ok (.iadd, 1) := by decide +kernel
theorem d_D_placesAreThere_183 : decode b_D_placesAreThere 183 = .ok (.aload_n 0, 1) := by decide +kernel
theorem d_D_placesAreThere_184 : decode b_D_placesAreThere 184 = .ok (.getfield 41, 3) := by decide +kernel
theorem d_D_placesAreThere_187 : decode b_D_placesAreThere 187 = .ok (.if_icmp .gt 62, 3) := by decide +kernel
theorem d_D_placesAreThere_190 : decode b_D_placesAreThere 190 = .ok (.aload_n 0, 1) := by decide +kernel
theorem d_D_placesAreThere_191 : decode b_D_placesAreThere 191 = .ok (.getfield 26, 3) := by decide +kernel
theorem d_D_placesAreThere_194 : decode b_D_placesAreThere 194 = .ok (.iconst 1, 1) := by decide +kernel
theorem d_D_placesAreThere_195 : decode b_D_placesAreThere 195 = .ok (.invokevirtual 110, 3) := by decide +kernel
theorem d_D_placesAreThere_198 : decode b_D_placesAreThere 198 = .ok (.aload_n 0, 1) := by decide +kernel
theorem d_D_placesAreThere_199 : decode b_D_placesAreThere 199 = .ok (.getfield 26, 3) := by decide +kernel
theorem d_D_placesAreThere_202 : decode b_D_placesAreThere 202 = .ok (.iconst 3, 1) := by decide +kernel
theorem d_D_placesAreThere_203 : decode b_D_placesAreThere 203 = .ok (.invokevirtual 110, 3) := by decide +kernel
theorem d_D_placesAreThere_206 : decode b_D_placesAreThere 206 = .ok (.iadd, 1) := by decide +kernel
theorem d_D_placesAreThere_207 : decode b_D_placesAreThere 207 = .ok (.aload_n 0, 1) := by decide +kernel
theorem d_D_placesAreThere_208 : decode b_D_placesAreThere 208 = .ok (.getfield 44, 3) := by decide +kernel
theorem d_D_placesAreThere_211 : decode b_D_placesAreThere 211 = .ok (.if_icmp .gt 38, 3) := by decide +kernel
theorem d_D_placesAreThere_214 : decode b_D_placesAreThere 214 = .ok (.aload_n 0, 1) := by decide +kernel
theorem d_D_placesAreThere_215 : decode b_D_placesAreThere 215 = .ok (.getfield 26, 3) := by decide +kernel
theorem d_D_placesAreThere_218 : decode b_D_placesAreThere 218 = .ok (.iconst 4, 1) := by decide +kernel
theorem d_D_placesAreThere_219 : decode b_D_placesAreThere 219 = .ok (.invokevirtual 110, 3) := by decide +kernel
theorem d_D_placesAreThere_222 : decode b_D_placesAreThere 222 = .ok (.aload_n 0, 1) := by decide +kernel
theorem d_D_placesAreThere_223 : decode b_D_placesAreThere 223 = .ok (.getfield 26, 3) := by decide +kernel
theorem d_D_placesAreThere_226 : decode b_D_placesAreThere 226 = .ok (.iconst 2, 1) := by decide +kernel
theorem d_D_placesAreThere_227 : decode b_D_placesAreThere 227 = .ok (.invokevirtual 110, 3) := by decide +kernel
theorem d_D_placesAreThere_230 : decode b_D_placesAreThere 230 = .ok (.aload_n 0, 1) := by decide +kernel
theorem d_D_placesAreThere_231 : decode b_D_placesAreThere 231 = .ok (.getfield 26, 3) := by decide +kernel
theorem d_D_placesAreThere_234 : decode b_D_placesAreThere 234 = .ok (.iconst 3, 1) := by decide +kernel
theorem d_D_placesAreThere_235 : decode b_D_placesAreThere 235 = .ok (.invokevirtual 110, 3) := by decide +kernel
theorem d_D_placesAreThere_238 : decode b_D_placesAreThere 238 = .ok (.imul, 1) := by decide +kernel
theorem d_D_placesAreThere_239 : decode b_D_placesAreThere 239 = .ok (.invokestatic 198, 3) := by decide +kernel
theorem d_D_placesAreThere_242 : decode b_D_placesAreThere 242 = .ok (.ifCond .eq 7, 3) := by decide +kernel
theorem d_D_placesAreThere_245 : decode b_D_placesAreThere 245 = .ok (.iconst 1, 1) := by decide +kernel
theorem d_D_placesAreThere_246 : decode b_D_placesAreThere 246 = .ok (.goto 4, 3) := by decide +kernel
theorem d_D_placesAreThere_249 : decode b_D_placesAreThere 249 = .ok (.iconst 0, 1) := by decide +kernel
theorem d_D_placesAreThere_250 : decode b_D_placesAreThere 250 = .ok (.ireturn, 1) := by decide +kernel
theorem d_D_placesAreThere_251 : decode b_D_placesAreThere 251 = .ok (.aload_n 0, 1) := by decide +kernel
theorem d_D_placesAreThere_252 : decode b_D_placesAreThere 252 = .ok (.getfield 26, 3) := by decide +kernel
theorem d_D_placesAreThere_255 : decode b_D_placesAreThere 255 = .ok (.iconst 0, 1) := by decide +kernel
theorem d_D_placesAreThere_256 : decode b_D_placesAreThere 256 = .ok (.invokevirtual 110, 3) := by decide +kernel
theorem d_D_placesAreThere_259 : decode b_D_placesAreThere 259 = .ok (.aload_n 0, 1) := by decide +kernel
theorem d_D_placesAreThere_260 : decode b_D_placesAreThere 260 = .ok (.getfield 26, 3) := by decide +kernel
theorem d_D_placesAreThere_263 : decode b_D_placesAreThere 263 = .ok (.iconst 1, 1) := by decide +kernel
theorem d_D_placesAreThere_264 : decode b_D_placesAreThere 264 = .ok (.invokevirtual 110, 3) := by decide +kernel
theorem d_D_placesAreThere_267 : decode b_D_placesAreThere 267 = .ok (.invokestatic 198, 3) := by decide +kernel
theorem d_D_placesAreThere_270 : decode b_D_placesAreThere 270 = .ok (.ireturn, 1) := by decide +kernel
theorem d_D_placesAreThere_271 : decode b_D_placesAreThere 271 = .ok (.aload_n 0, 1) := by decide +kernel
theorem d_D_placesAreThere_272 : decode b_D_placesAreThere 272 = .ok (.getfield 26, 3) := by decide +kernel
theorem d_D_placesAreThere_275 : decode b_D_placesAreThere 275 = .ok (.iconst 0, 1) := by decide +kernel
theorem d_D_placesAreThere_276 : decode b_D_placesAreThere 276 = .ok (.invokevirtual 110, 3) := by decide +kernel
theorem d_D_placesAreThere_279 : decode b_D_placesAreThere 279 = .ok (.iconst 1, 1) := by decide +kernel
theorem d_D_placesAreThere_280 : decode b_D_placesAreThere 280 = .ok (.invokestatic 198, 3) := by decide +kernel
theorem d_D_placesAreThere_283 : decode b_D_placesAreThere 283 = .ok (.ireturn, 1) := by decide +kernel
theorem d_D_placesAreThere_284 : decode b_D_placesAreThere 284 = .ok (.iconst 1, 1) := by decide +kernel
theorem d_D_placesAreThere_285 : decode b_D_placesAreThere 285 = .ok (.ireturn, 1) := by decide +kernel
theorem d_D_inMemory_0 : decode b_D_inMemory 0 = .ok (.iload_n 1, 1) := by decide +kernel
theorem d_D_inMemory_1 : decode b_D_inMemory 1 = .ok (.ifCond .eq 12, 3) := by decide +kernel
theorem d_D_inMemory_4 : decode b_D_inMemory 4 = .ok (.iload_n 0, 1) := by decide +kernel
theorem d_D_inMemory_5 : decode b_D_inMemory 5 = .ok (.iload_n 1, 1) := by decide +kernel
theorem d_D_inMemory_6 : decode b_D_inMemory 6 = .ok (.iadd, 1) := by decide +kernel
theorem d_D_inMemory_7 : decode b_D_inMemory 7 = .ok (.sipush 4096, 3) := by decide +kernel
theorem d_D_inMemory_10 : decode b_D_inMemory 10 = .ok (.if_icmp .gt 7, 3) := by decide +kernel
theorem d_D_inMemory_13 : decode b_D_inMemory 13 = .ok (.iconst 1, 1) := by decide +kernel
theorem d_D_inMemory_14 : decode b_D_inMemory 14 = .ok (.goto 4, 3) := by decide +kernel
theorem d_D_inMemory_17 : decode b_D_inMemory 17 = .ok (.iconst 0, 1) := by decide +kernel
theorem d_D_inMemory_18 : decode b_D_inMemory 18 = .ok (.ireturn, 1) := by decide +kernel
theorem d_D_stateAllows_0 : decode b_D_stateAllows 0 = .ok (.aload_n 0, 1) := by decide +kernel
theorem d_D_stateAllows_1 : decode b_D_stateAllows 1 = .ok (.getfield 26, 3) := by decide +kernel
theorem d_D_stateAllows_4 : decode b_D_stateAllows 4 = .ok (.getfield 102, 3) := by decide +kernel
theorem d_D_stateAllows_7 : decode b_D_stateAllows 7 = .ok (.tableswitch 128 17 23 #[41, 41, 71, 128, 128, 128, 111], 41) := by decide +kernel
theorem d_D_stateAllows_48 : decode b_D_stateAllows 48 = .ok (.aload_n 0, 1) := by decide +kernel
theorem d_D_stateAllows_49 : decode b_D_stateAllows 49 = .ok (.getfield 19, 3) := by decide +kernel
theorem d_D_stateAllows_52 : decode b_D_stateAllows 52 = .ok (.bipush 7, 2) := by decide +kernel
theorem d_D_stateAllows_54 : decode b_D_stateAllows 54 = .ok (.invokevirtual 202, 3) := by decide +kernel
theorem d_D_stateAllows_57 : decode b_D_stateAllows 57 = .ok (.ifCond .eq 19, 3) := by decide +kernel
theorem d_D_stateAllows_60 : decode b_D_stateAllows 60 = .ok (.aload_n 0, 1) := by decide +kernel
theorem d_D_stateAllows_61 : decode b_D_stateAllows 61 = .ok (.getfield 19, 3) := by decide +kernel
theorem d_D_stateAllows_64 : decode b_D_stateAllows 64 = .ok (.bipush 8, 2) := by decide +kernel
theorem d_D_stateAllows_66 : decode b_D_stateAllows 66 = .ok (.invokevirtual 202, 3) := by decide +kernel
theorem d_D_stateAllows_69 : decode b_D_stateAllows 69 = .ok (.ifCond .eq 7, 3) := by decide +kernel
theorem d_D_stateAllows_72 : decode b_D_stateAllows 72 = .ok (.iconst 1, 1) := by decide +kernel
theorem d_D_stateAllows_73 : decode b_D_stateAllows 73 = .ok (.goto 4, 3) := by decide +kernel
theorem d_D_stateAllows_76 : decode b_D_stateAllows 76 = .ok (.iconst 0, 1) := by decide +kernel
theorem d_D_stateAllows_77 : decode b_D_stateAllows 77 = .ok (.ireturn, 1) := by decide +kernel
theorem d_D_stateAllows_78 : decode b_D_stateAllows 78 = .ok (.aload_n 0, 1) := by decide +kernel
theorem d_D_stateAllows_79 : decode b_D_stateAllows 79 = .ok (.getfield 33, 3) := by decide +kernel
theorem d_D_stateAllows_82 : decode b_D_stateAllows 82 = .ok (.getfield 139, 3) := by decide +kernel
theorem d_D_stateAllows_85 : decode b_D_stateAllows 85 = .ok (.aload_n 0, 1) := by decide +kernel
theorem d_D_stateAllows_86 : decode b_D_stateAllows 86 = .ok (.getfield 26, 3) := by decide +kernel
theorem d_D_stateAllows_89 : decode b_D_stateAllows 89 = .ok (.iconst 1, 1) := by decide +kernel
theorem d_D_stateAllows_90 : decode b_D_stateAllows 90 = .ok (.invokevirtual 110, 3) := by decide +kernel
theorem d_D_stateAllows_93 : decode b_D_stateAllows 93 = .ok (.iconst 1, 1) := by decide +kernel
theorem d_D_stateAllows_94 : decode b_D_stateAllows 94 = .ok (.if_icmp .ne 7, 3) := by decide +kernel
theorem d_D_stateAllows_97 : decode b_D_stateAllows 97 = .ok (.iconst (-1), 1) := by decide +kernel
theorem d_D_stateAllows_98 : decode b_D_stateAllows 98 = .ok (.goto 11, 3) := by decide +kernel
theorem d_D_stateAllows_101 : decode b_D_stateAllows 101 = .ok (.aload_n 0, 1) := by decide +kernel
theorem d_D_stateAllows_102 : decode b_D_stateAllows 102 = .ok (.getfield 26, 3) := by decide +kernel
theorem d_D_stateAllows_105 : decode b_D_stateAllows 105 = .ok (.iconst 0, 1) := by decide +kernel
theorem d_D_stateAllows_106 : decode b_D_stateAllows 106 = .ok (.invokevirtual 110, 3) := by decide +kernel
theorem d_D_stateAllows_109 : decode b_D_stateAllows 109 = .ok (.if_icmp .ne 7, 3) := by decide +kernel
theorem d_D_stateAllows_112 : decode b_D_stateAllows 112 = .ok (.iconst 1, 1) := by decide +kernel
theorem d_D_stateAllows_113 : decode b_D_stateAllows 113 = .ok (.goto 4, 3) := by decide +kernel
theorem d_D_stateAllows_116 : decode b_D_stateAllows 116 = .ok (.iconst 0, 1) := by decide +kernel
theorem d_D_stateAllows_117 : decode b_D_stateAllows 117 = .ok (.ireturn, 1) := by decide +kernel
theorem d_D_stateAllows_118 : decode b_D_stateAllows 118 = .ok (.aload_n 0, 1) := by decide +kernel
theorem d_D_stateAllows_119 : decode b_D_stateAllows 119 = .ok (.getfield 33, 3) := by decide +kernel
theorem d_D_stateAllows_122 : decode b_D_stateAllows 122 = .ok (.getfield 186, 3) := by decide +kernel
theorem d_D_stateAllows_125 : decode b_D_stateAllows 125 = .ok (.iconst 4, 1) := by decide +kernel
theorem d_D_stateAllows_126 : decode b_D_stateAllows 126 = .ok (.if_icmp .ge 7, 3) := by decide +kernel
theorem d_D_stateAllows_129 : decode b_D_stateAllows 129 = .ok (.iconst 1, 1) := by decide +kernel
theorem d_D_stateAllows_130 : decode b_D_stateAllows 130 = .ok (.goto 4, 3) := by decide +kernel
theorem d_D_stateAllows_133 : decode b_D_stateAllows 133 = .ok (.iconst 0, 1) := by decide +kernel
theorem d_D_stateAllows_134 : decode b_D_stateAllows 134 = .ok (.ireturn, 1) := by decide +kernel
theorem d_D_stateAllows_135 : decode b_D_stateAllows 135 = .ok (.iconst 1, 1) := by decide +kernel
theorem d_D_stateAllows_136 : decode b_D_stateAllows 136 = .ok (.ireturn, 1) := by decide +kernel
theorem d_T_hasProgram_0 : decode b_T_hasProgram 0 = .ok (.aload_n 0, 1) := by decide +kernel
theorem d_T_hasProgram_1 : decode b_T_hasProgram 1 = .ok (.iload_n 1, 1) := by decide +kernel
theorem d_T_hasProgram_2 : decode b_T_hasProgram 2 = .ok (.iconst 0, 1) := by decide +kernel
theorem d_T_hasProgram_3 : decode b_T_hasProgram 3 = .ok (.iconst 0, 1) := by decide +kernel
theorem d_T_hasProgram_4 : decode b_T_hasProgram 4 = .ok (.invokevirtual 71, 3) := by decide +kernel
theorem d_T_hasProgram_7 : decode b_T_hasProgram 7 = .ok (.iconst (-1), 1) := by decide +kernel
theorem d_T_hasProgram_8 : decode b_T_hasProgram 8 = .ok (.if_icmp .eq 7, 3) := by decide +kernel
theorem d_T_hasProgram_11 : decode b_T_hasProgram 11 = .ok (.iconst 1, 1) := by decide +kernel
theorem d_T_hasProgram_12 : decode b_T_hasProgram 12 = .ok (.goto 4, 3) := by decide +kernel
theorem d_T_hasProgram_15 : decode b_T_hasProgram 15 = .ok (.iconst 0, 1) := by decide +kernel
theorem d_T_hasProgram_16 : decode b_T_hasProgram 16 = .ok (.ireturn, 1) := by decide +kernel
theorem d_T_at_0 : decode b_T_at 0 = .ok (.aload_n 0, 1) := by decide +kernel
theorem d_T_at_1 : decode b_T_at 1 = .ok (.getfield 34, 3) := by decide +kernel
theorem d_T_at_4 : decode b_T_at 4 = .ok (.aload_n 0, 1) := by decide +kernel
theorem d_T_at_5 : decode b_T_at 5 = .ok (.iload_n 1, 1) := by decide +kernel
theorem d_T_at_6 : decode b_T_at 6 = .ok (.iload_n 2, 1) := by decide +kernel
theorem d_T_at_7 : decode b_T_at 7 = .ok (.iload_n 3, 1) := by decide +kernel
theorem d_T_at_8 : decode b_T_at 8 = .ok (.invokevirtual 44, 3) := by decide +kernel
theorem d_T_at_11 : decode b_T_at 11 = .ok (.invokestatic 67, 3) := by decide +kernel
theorem d_T_at_14 : decode b_T_at 14 = .ok (.ireturn, 1) := by decide +kernel
theorem d_R_refuse_0 : decode b_R_refuse 0 = .ok (.aload_n 0, 1) := by decide +kernel
theorem d_R_refuse_1 : decode b_R_refuse 1 = .ok (.iload_n 1, 1) := by decide +kernel
theorem d_R_refuse_2 : decode b_R_refuse 2 = .ok (.putfield 34, 3) := by decide +kernel
theorem d_R_refuse_5 : decode b_R_refuse 5 = .ok (.aload_n 0, 1) := by decide +kernel
theorem d_R_refuse_6 : decode b_R_refuse 6 = .ok (.iconst 1, 1) := by decide +kernel
theorem d_R_refuse_7 : decode b_R_refuse 7 = .ok (.putfield 40, 3) := by decide +kernel
theorem d_R_refuse_10 : decode b_R_refuse 10 = .ok (.return_, 1) := by decide +kernel
theorem d_D_carryOut_0 : decode b_D_carryOut 0 = .ok (.aload_n 0, 1) := by decide +kernel
theorem d_D_carryOut_1 : decode b_D_carryOut 1 = .ok (.getfield 33, 3) := by decide +kernel
theorem d_D_carryOut_4 : decode b_D_carryOut 4 = .ok (.aload_n 0, 1) := by decide +kernel
theorem d_D_carryOut_5 : decode b_D_carryOut 5 = .ok (.getfield 26, 3) := by decide +kernel
theorem d_D_carryOut_8 : decode b_D_carryOut 8 = .ok (.getfield 105, 3) := by decide +kernel
theorem d_D_carryOut_11 : decode b_D_carryOut 11 = .ok (.invokevirtual 205, 3) := by decide +kernel
theorem d_D_carryOut_14 : decode b_D_carryOut 14 = .ok (.aload_n 0, 1) := by decide +kernel
theorem d_D_carryOut_15 : decode b_D_carryOut 15 = .ok (.getfield 26, 3) := by decide +kernel
theorem d_D_carryOut_18 : decode b_D_carryOut 18 = .ok (.getfield 102, 3) := by decide +kernel
theorem d_D_carryOut_21 : decode b_D_carryOut 21 = .ok (.lookupswitch 127 #[(0, 51), (6, 61), (19, 68), (21, 102), (23, 109)], 51) := by decide +kernel
theorem d_D_carryOut_72 : decode b_D_carryOut 72 = .ok (.aload_n 0, 1) := by decide +kernel
theorem d_D_carryOut_73 : decode b_D_carryOut 73 = .ok (.getfield 33, 3) := by decide +kernel
theorem d_D_carryOut_76 : decode b_D_carryOut 76 = .ok (.invokevirtual 208, 3) := by decide +kernel
theorem d_D_carryOut_79 : decode b_D_carryOut 79 = .ok (.goto 80, 3) := by decide +kernel
theorem d_D_carryOut_82 : decode b_D_carryOut 82 = .ok (.aload_n 0, 1) := by decide +kernel
theorem d_D_carryOut_83 : decode b_D_carryOut 83 = .ok (.invokevirtual 211, 3) := by decide +kernel
theorem d_D_carryOut_86 : decode b_D_carryOut 86 = .ok (.goto 73, 3) := by decide +kernel
theorem d_D_carryOut_89 : decode b_D_carryOut 89 = .ok (.aload_n 0, 1) := by decide +kernel
theorem d_D_carryOut_90 : decode b_D_carryOut 90 = .ok (.getfield 33, 3) := by decide +kernel
theorem d_D_carryOut_93 : decode b_D_carryOut 93 = .ok (.aload_n 0, 1) := by decide +kernel
theorem d_D_carryOut_94 : decode b_D_carryOut 94 = .ok (.getfield 26, 3) := by decide +kernel
theorem d_D_carryOut_97 : decode b_D_carryOut 97 = .ok (.iconst 1, 1) := by decide +kernel
theorem d_D_carryOut_98 : decode b_D_carryOut 98 = .ok (.invokevirtual 110, 3) := by decide +kernel
theorem d_D_carryOut_101 : decode b_D_carryOut 101 = .ok (.iconst 1, 1) := by decide +kernel
theorem d_D_carryOut_102 : decode b_D_carryOut 102 = .ok (.if_icmp .ne 14, 3) := by decide +kernel
theorem d_D_carryOut_105 : decode b_D_carryOut 105 = .ok (.aload_n 0, 1) := by decide +kernel
theorem d_D_carryOut_106 : decode b_D_carryOut 106 = .ok (.getfield 26, 3) := by decide +kernel
theorem d_D_carryOut_109 : decode b_D_carryOut 109 = .ok (.iconst 0, 1) := by decide +kernel
theorem d_D_carryOut_110 : decode b_D_carryOut 110 = .ok (.invokevirtual 110, 3) := by decide +kernel
theorem d_D_carryOut_113 : decode b_D_carryOut 113 = .ok (.goto 4, 3) := by decide +kernel
theorem d_D_carryOut_116 : decode b_D_carryOut 116 = .ok (.iconst (-1), 1) := by decide +kernel
theorem d_D_carryOut_117 : decode b_D_carryOut 117 = .ok (.putfield 139, 3) := by decide +kernel
theorem d_D_carryOut_120 : decode b_D_carryOut 120 = .ok (.goto 39, 3) := by decide +kernel
theorem d_D_carryOut_123 : decode b_D_carryOut 123 = .ok (.aload_n 0, 1) := by decide +kernel
theorem d_D_carryOut_124 : decode b_D_carryOut 124 = .ok (.invokevirtual 214, 3) := by decide +kernel
theorem d_D_carryOut_127 : decode b_D_carryOut 127 = .ok (.goto 32, 3) := by decide +kernel
theorem d_D_carryOut_130 : decode b_D_carryOut 130 = .ok (.aload_n 0, 1) := by decide +kernel
theorem d_D_carryOut_131 : decode b_D_carryOut 131 = .ok (.getfield 33, 3) := by decide +kernel
theorem d_D_carryOut_134 : decode b_D_carryOut 134 = .ok (.aload_n 0, 1) := by decide +kernel
theorem d_D_carryOut_135 : decode b_D_carryOut 135 = .ok (.getfield 26, 3) := by decide +kernel
theorem d_D_carryOut_138 : decode b_D_carryOut 138 = .ok (.iconst 0, 1) := by decide +kernel
theorem d_D_carryOut_139 : decode b_D_carryOut 139 = .ok (.invokevirtual 110, 3) := by decide +kernel
theorem d_D_carryOut_142 : decode b_D_carryOut 142 = .ok (.invokevirtual 217, 3) := by decide +kernel
theorem d_D_carryOut_145 : decode b_D_carryOut 145 = .ok (.goto 14, 3) := by decide +kernel
theorem d_D_carryOut_148 : decode b_D_carryOut 148 = .ok (.aload_n 0, 1) := by decide +kernel
theorem d_D_carryOut_149 : decode b_D_carryOut 149 = .ok (.getfield 19, 3) := by decide +kernel
theorem d_D_carryOut_152 : decode b_D_carryOut 152 = .ok (.aload_n 0, 1) := by decide +kernel
theorem d_D_carryOut_153 : decode b_D_carryOut 153 = .ok (.getfield 26, 3) := by decide +kernel
theorem d_D_carryOut_156 : decode b_D_carryOut 156 = .ok (.invokevirtual 220, 3) := by decide +kernel
theorem d_D_carryOut_159 : decode b_D_carryOut 159 = .ok (.return_, 1) := by decide +kernel
theorem d_R_passOver_0 : decode b_R_passOver 0 = .ok (.aload_n 0, 1) := by decide +kernel
theorem d_R_passOver_1 : decode b_R_passOver 1 = .ok (.dup, 1) := by decide +kernel
theorem d_R_passOver_2 : decode b_R_passOver 2 = .ok (.getfield 18, 3) := by decide +kernel
theorem d_R_passOver_5 : decode b_R_passOver 5 = .ok (.iconst 1, 1) := by decide +kernel
theorem d_R_passOver_6 : decode b_R_passOver 6 = .ok (.iload_n 1, 1) := by decide +kernel
theorem d_R_passOver_7 : decode b_R_passOver 7 = .ok (.iadd, 1) := by decide +kernel
theorem d_R_passOver_8 : decode b_R_passOver 8 = .ok (.iadd, 1) := by decide +kernel
theorem d_R_passOver_9 : decode b_R_passOver 9 = .ok (.putfield 18, 3) := by decide +kernel
theorem d_R_passOver_12 : decode b_R_passOver 12 = .ok (.aload_n 0, 1) := by decide +kernel
theorem d_R_passOver_13 : decode b_R_passOver 13 = .ok (.dup, 1) := by decide +kernel
theorem d_R_passOver_14 : decode b_R_passOver 14 = .ok (.getfield 31, 3) := by decide +kernel
theorem d_R_passOver_17 : decode b_R_passOver 17 = .ok (.iconst 1, 1) := by decide +kernel
theorem d_R_passOver_18 : decode b_R_passOver 18 = .ok (.iadd, 1) := by decide +kernel
theorem d_R_passOver_19 : decode b_R_passOver 19 = .ok (.putfield 31, 3) := by decide +kernel
theorem d_R_passOver_22 : decode b_R_passOver 22 = .ok (.return_, 1) := by decide +kernel
theorem d_R_leave_0 : decode b_R_leave 0 = .ok (.aload_n 0, 1) := by decide +kernel
theorem d_R_leave_1 : decode b_R_leave 1 = .ok (.getfield 22, 3) := by decide +kernel
theorem d_R_leave_4 : decode b_R_leave 4 = .ok (.ifCond .ne 9, 3) := by decide +kernel
theorem d_R_leave_7 : decode b_R_leave 7 = .ok (.aload_n 0, 1) := by decide +kernel
theorem d_R_leave_8 : decode b_R_leave 8 = .ok (.iconst 1, 1) := by decide +kernel
theorem d_R_leave_9 : decode b_R_leave 9 = .ok (.putfield 40, 3) := by decide +kernel
theorem d_R_leave_12 : decode b_R_leave 12 = .ok (.return_, 1) := by decide +kernel
theorem d_R_leave_13 : decode b_R_leave 13 = .ok (.aload_n 0, 1) := by decide +kernel
theorem d_R_leave_14 : decode b_R_leave 14 = .ok (.dup, 1) := by decide +kernel
theorem d_R_leave_15 : decode b_R_leave 15 = .ok (.getfield 22, 3) := by decide +kernel
theorem d_R_leave_18 : decode b_R_leave 18 = .ok (.iconst 1, 1) := by decide +kernel
theorem d_R_leave_19 : decode b_R_leave 19 = .ok (.isub, 1) := by decide +kernel
theorem d_R_leave_20 : decode b_R_leave 20 = .ok (.putfield 22, 3) := by decide +kernel
theorem d_R_leave_23 : decode b_R_leave 23 = .ok (.aload_n 0, 1) := by decide +kernel
theorem d_R_leave_24 : decode b_R_leave 24 = .ok (.aload_n 0, 1) := by decide +kernel
theorem d_R_leave_25 : decode b_R_leave 25 = .ok (.getfield 9, 3) := by decide +kernel
theorem d_R_leave_28 : decode b_R_leave 28 = .ok (.aload_n 0, 1) := by decide +kernel
theorem d_R_leave_29 : decode b_R_leave 29 = .ok (.getfield 22, 3) := by decide +kernel
theorem d_R_leave_32 : decode b_R_leave 32 = .ok (.invokestatic 48, 3) := by decide +kernel
theorem d_R_leave_35 : decode b_R_leave 35 = .ok (.putfield 18, 3) := by decide +kernel
theorem d_R_leave_38 : decode b_R_leave 38 = .ok (.return_, 1) := by decide +kernel
theorem d_D_keepUniforms_0 : decode b_D_keepUniforms 0 = .ok (.aload_n 0, 1) := by decide +kernel
theorem d_D_keepUniforms_1 : decode b_D_keepUniforms 1 = .ok (.getfield 26, 3) := by decide +kernel
theorem d_D_keepUniforms_4 : decode b_D_keepUniforms 4 = .ok (.iconst 1, 1) := by decide +kernel
theorem d_D_keepUniforms_5 : decode b_D_keepUniforms 5 = .ok (.invokevirtual 110, 3) := by decide +kernel
theorem d_D_keepUniforms_8 : decode b_D_keepUniforms 8 = .ok (.istore_n 1, 1) := by decide +kernel
theorem d_D_keepUniforms_9 : decode b_D_keepUniforms 9 = .ok (.iconst 0, 1) := by decide +kernel
theorem d_D_keepUniforms_10 : decode b_D_keepUniforms 10 = .ok (.istore_n 2, 1) := by decide +kernel
theorem d_D_keepUniforms_11 : decode b_D_keepUniforms 11 = .ok (.iload_n 2, 1) := by decide +kernel
theorem d_D_keepUniforms_12 : decode b_D_keepUniforms 12 = .ok (.iload_n 1, 1) := by decide +kernel
theorem d_D_keepUniforms_13 : decode b_D_keepUniforms 13 = .ok (.if_icmp .ge 74, 3) := by decide +kernel
theorem d_D_keepUniforms_16 : decode b_D_keepUniforms 16 = .ok (.aload_n 0, 1) := by decide +kernel
theorem d_D_keepUniforms_17 : decode b_D_keepUniforms 17 = .ok (.getfield 26, 3) := by decide +kernel
theorem d_D_keepUniforms_20 : decode b_D_keepUniforms 20 = .ok (.iconst 0, 1) := by decide +kernel
theorem d_D_keepUniforms_21 : decode b_D_keepUniforms 21 = .ok (.invokevirtual 110, 3) := by decide +kernel
theorem d_D_keepUniforms_24 : decode b_D_keepUniforms 24 = .ok (.iload_n 2, 1) := by decide +kernel
theorem d_D_keepUniforms_25 : decode b_D_keepUniforms 25 = .ok (.iadd, 1) := by decide +kernel
theorem d_D_keepUniforms_26 : decode b_D_keepUniforms 26 = .ok (.istore_n 3, 1) := by decide +kernel
theorem d_D_keepUniforms_27 : decode b_D_keepUniforms 27 = .ok (.aload_n 0, 1) := by decide +kernel
theorem d_D_keepUniforms_28 : decode b_D_keepUniforms 28 = .ok (.getfield 26, 3) := by decide +kernel
theorem d_D_keepUniforms_31 : decode b_D_keepUniforms 31 = .ok (.iconst 2, 1) := by decide +kernel
theorem d_D_keepUniforms_32 : decode b_D_keepUniforms 32 = .ok (.invokevirtual 110, 3) := by decide +kernel
theorem d_D_keepUniforms_35 : decode b_D_keepUniforms 35 = .ok (.iconst 4, 1) := by decide +kernel
theorem d_D_keepUniforms_36 : decode b_D_keepUniforms 36 = .ok (.iload_n 2, 1) := by decide +kernel
theorem d_D_keepUniforms_37 : decode b_D_keepUniforms 37 = .ok (.imul, 1) := by decide +kernel
theorem d_D_keepUniforms_38 : decode b_D_keepUniforms 38 = .ok (.iadd, 1) := by decide +kernel
theorem d_D_keepUniforms_39 : decode b_D_keepUniforms 39 = .ok (.istore 4, 2) := by decide +kernel
theorem d_D_keepUniforms_41 : decode b_D_keepUniforms 41 = .ok (.iconst 0, 1) := by decide +kernel
theorem d_D_keepUniforms_42 : decode b_D_keepUniforms 42 = .ok (.istore 5, 2) := by decide +kernel
theorem d_D_keepUniforms_44 : decode b_D_keepUniforms 44 = .ok (.iload 5, 2) := by decide +kernel
theorem d_D_keepUniforms_46 : decode b_D_keepUniforms 46 = .ok (.iconst 4, 1) := by decide +kernel
theorem d_D_keepUniforms_47 : decode b_D_keepUniforms 47 = .ok (.if_icmp .ge 34, 3) := by decide +kernel
theorem d_D_keepUniforms_50 : decode b_D_keepUniforms 50 = .ok (.aload_n 0, 1) := by decide +kernel
theorem d_D_keepUniforms_51 : decode b_D_keepUniforms 51 = .ok (.getfield 19, 3) := by decide +kernel
theorem d_D_keepUniforms_54 : decode b_D_keepUniforms 54 = .ok (.iconst 5, 1) := by decide +kernel
theorem d_D_keepUniforms_55 : decode b_D_keepUniforms 55 = .ok (.iload_n 3, 1) := by decide +kernel
theorem d_D_keepUniforms_56 : decode b_D_keepUniforms 56 = .ok (.iload 5, 2) := by decide +kernel
theorem d_D_keepUniforms_58 : decode b_D_keepUniforms 58 = .ok (.iconst 1, 1) := by decide +kernel
theorem d_D_keepUniforms_59 : decode b_D_keepUniforms 59 = .ok (.iadd, 1) := by decide +kernel
theorem d_D_keepUniforms_60 : decode b_D_keepUniforms 60 = .ok (.aload_n 0, 1) := by decide +kernel
theorem d_D_keepUniforms_61 : decode b_D_keepUniforms 61 = .ok (.getfield 9, 3) := by decide +kernel
theorem d_D_keepUniforms_64 : decode b_D_keepUniforms 64 = .ok (.iload 4, 2) := by decide +kernel
theorem d_D_keepUniforms_66 : decode b_D_keepUniforms 66 = .ok (.iload 5, 2) := by decide +kernel
theorem d_D_keepUniforms_68 : decode b_D_keepUniforms 68 = .ok (.iadd, 1) := by decide +kernel
theorem d_D_keepUniforms_69 : decode b_D_keepUniforms 69 = .ok (.invokestatic 54, 3) := by decide +kernel
theorem d_D_keepUniforms_72 : decode b_D_keepUniforms 72 = .ok (.invokevirtual 224, 3) := by decide +kernel
theorem d_D_keepUniforms_75 : decode b_D_keepUniforms 75 = .ok (.iinc 5 1, 3) := by decide +kernel
theorem d_D_keepUniforms_78 : decode b_D_keepUniforms 78 = .ok (.goto (-34), 3) := by decide +kernel
theorem d_D_keepUniforms_81 : decode b_D_keepUniforms 81 = .ok (.iinc 2 1, 3) := by decide +kernel
theorem d_D_keepUniforms_84 : decode b_D_keepUniforms 84 = .ok (.goto (-73), 3) := by decide +kernel
theorem d_D_keepUniforms_87 : decode b_D_keepUniforms 87 = .ok (.return_, 1) := by decide +kernel
theorem d_T_set_0 : decode b_T_set 0 = .ok (.aload_n 0, 1) := by decide +kernel
theorem d_T_set_1 : decode b_T_set 1 = .ok (.getfield 34, 3) := by decide +kernel
theorem d_T_set_4 : decode b_T_set 4 = .ok (.aload_n 0, 1) := by decide +kernel
theorem d_T_set_5 : decode b_T_set 5 = .ok (.iload_n 1, 1) := by decide +kernel
theorem d_T_set_6 : decode b_T_set 6 = .ok (.iload_n 2, 1) := by decide +kernel
theorem d_T_set_7 : decode b_T_set 7 = .ok (.iload_n 3, 1) := by decide +kernel
theorem d_T_set_8 : decode b_T_set 8 = .ok (.invokevirtual 44, 3) := by decide +kernel
theorem d_T_set_11 : decode b_T_set 11 = .ok (.iload 4, 2) := by decide +kernel
theorem d_T_set_13 : decode b_T_set 13 = .ok (.invokestatic 17, 3) := by decide +kernel
theorem d_T_set_16 : decode b_T_set 16 = .ok (.return_, 1) := by decide +kernel
theorem d_D_storeWords_0 : decode b_D_storeWords 0 = .ok (.aload_n 0, 1) := by decide +kernel
theorem d_D_storeWords_1 : decode b_D_storeWords 1 = .ok (.getfield 26, 3) := by decide +kernel
theorem d_D_storeWords_4 : decode b_D_storeWords 4 = .ok (.iconst 1, 1) := by decide +kernel
theorem d_D_storeWords_5 : decode b_D_storeWords 5 = .ok (.invokevirtual 110, 3) := by decide +kernel
theorem d_D_storeWords_8 : decode b_D_storeWords 8 = .ok (.istore_n 1, 1) := by decide +kernel
theorem d_D_storeWords_9 : decode b_D_storeWords 9 = .ok (.iconst 0, 1) := by decide +kernel
theorem d_D_storeWords_10 : decode b_D_storeWords 10 = .ok (.istore_n 2, 1) := by decide +kernel
theorem d_D_storeWords_11 : decode b_D_storeWords 11 = .ok (.iload_n 2, 1) := by decide +kernel
theorem d_D_storeWords_12 : decode b_D_storeWords 12 = .ok (.iload_n 1, 1) := by decide +kernel
theorem d_D_storeWords_13 : decode b_D_storeWords 13 = .ok (.if_icmp .ge 36, 3) := by decide +kernel
theorem d_D_storeWords_16 : decode b_D_storeWords 16 = .ok (.aload_n 0, 1) := by decide +kernel
theorem d_D_storeWords_17 : decode b_D_storeWords 17 = .ok (.getfield 9, 3) := by decide +kernel
theorem d_D_storeWords_20 : decode b_D_storeWords 20 = .ok (.aload_n 0, 1) := by decide +kernel
theorem d_D_storeWords_21 : decode b_D_storeWords 21 = .ok (.getfield 26, 3) := by decide +kernel
theorem d_D_storeWords_24 : decode b_D_storeWords 24 = .ok (.iconst 0, 1) := by decide +kernel
theorem d_D_storeWords_25 : decode b_D_storeWords 25 = .ok (.invokevirtual 110, 3) := by decide +kernel
theorem d_D_storeWords_28 : decode b_D_storeWords 28 = .ok (.iload_n 2, 1) := by decide +kernel
theorem d_D_storeWords_29 : decode b_D_storeWords 29 = .ok (.iadd, 1) := by decide +kernel
theorem d_D_storeWords_30 : decode b_D_storeWords 30 = .ok (.aload_n 0, 1) := by decide +kernel
theorem d_D_storeWords_31 : decode b_D_storeWords 31 = .ok (.getfield 26, 3) := by decide +kernel
theorem d_D_storeWords_34 : decode b_D_storeWords 34 = .ok (.iconst 2, 1) := by decide +kernel
theorem d_D_storeWords_35 : decode b_D_storeWords 35 = .ok (.iload_n 2, 1) := by decide +kernel
theorem d_D_storeWords_36 : decode b_D_storeWords 36 = .ok (.iadd, 1) := by decide +kernel
theorem d_D_storeWords_37 : decode b_D_storeWords 37 = .ok (.invokevirtual 110, 3) := by decide +kernel
theorem d_D_storeWords_40 : decode b_D_storeWords 40 = .ok (.invokestatic 58, 3) := by decide +kernel
theorem d_D_storeWords_43 : decode b_D_storeWords 43 = .ok (.iinc 2 1, 3) := by decide +kernel
theorem d_D_storeWords_46 : decode b_D_storeWords 46 = .ok (.goto (-35), 3) := by decide +kernel
theorem d_D_storeWords_49 : decode b_D_storeWords 49 = .ok (.return_, 1) := by decide +kernel
theorem d_R_enter_0 : decode b_R_enter 0 = .ok (.aload_n 0, 1) := by decide +kernel
theorem d_R_enter_1 : decode b_R_enter 1 = .ok (.getfield 9, 3) := by decide +kernel
theorem d_R_enter_4 : decode b_R_enter 4 = .ok (.aload_n 0, 1) := by decide +kernel
theorem d_R_enter_5 : decode b_R_enter 5 = .ok (.getfield 22, 3) := by decide +kernel
theorem d_R_enter_8 : decode b_R_enter 8 = .ok (.aload_n 0, 1) := by decide +kernel
theorem d_R_enter_9 : decode b_R_enter 9 = .ok (.getfield 18, 3) := by decide +kernel
theorem d_R_enter_12 : decode b_R_enter 12 = .ok (.invokestatic 44, 3) := by decide +kernel
theorem d_R_enter_15 : decode b_R_enter 15 = .ok (.aload_n 0, 1) := by decide +kernel
theorem d_R_enter_16 : decode b_R_enter 16 = .ok (.dup, 1) := by decide +kernel
theorem d_R_enter_17 : decode b_R_enter 17 = .ok (.getfield 22, 3) := by decide +kernel
theorem d_R_enter_20 : decode b_R_enter 20 = .ok (.iconst 1, 1) := by decide +kernel
theorem d_R_enter_21 : decode b_R_enter 21 = .ok (.iadd, 1) := by decide +kernel
theorem d_R_enter_22 : decode b_R_enter 22 = .ok (.putfield 22, 3) := by decide +kernel
theorem d_R_enter_25 : decode b_R_enter 25 = .ok (.aload_n 0, 1) := by decide +kernel
theorem d_R_enter_26 : decode b_R_enter 26 = .ok (.iload_n 1, 1) := by decide +kernel
theorem d_R_enter_27 : decode b_R_enter 27 = .ok (.putfield 18, 3) := by decide +kernel
theorem d_R_enter_30 : decode b_R_enter 30 = .ok (.return_, 1) := by decide +kernel
theorem d_T_keep_0 : decode b_T_keep 0 = .ok (.aload_n 1, 1) := by decide +kernel
theorem d_T_keep_1 : decode b_T_keep 1 = .ok (.getfield 55, 3) := by decide +kernel
theorem d_T_keep_4 : decode b_T_keep 4 = .ok (.istore_n 2, 1) := by decide +kernel
theorem d_T_keep_5 : decode b_T_keep 5 = .ok (.iload_n 2, 1) := by decide +kernel
theorem d_T_keep_6 : decode b_T_keep 6 = .ok (.invokestatic 21, 3) := by decide +kernel
theorem d_T_keep_9 : decode b_T_keep 9 = .ok (.ifCond .ne 4, 3) := by decide +kernel
theorem d_T_keep_12 : decode b_T_keep 12 = .ok (.return_, 1) := by decide +kernel
theorem d_T_keep_13 : decode b_T_keep 13 = .ok (.aload_n 0, 1) := by decide +kernel
theorem d_T_keep_14 : decode b_T_keep 14 = .ok (.iload_n 2, 1) := by decide +kernel
theorem d_T_keep_15 : decode b_T_keep 15 = .ok (.iload_n 2, 1) := by decide +kernel
theorem d_T_keep_16 : decode b_T_keep 16 = .ok (.invokestatic 51, 3) := by decide +kernel
theorem d_T_keep_19 : decode b_T_keep 19 = .ok (.ifCond .eq 11, 3) := by decide +kernel
theorem d_T_keep_22 : decode b_T_keep 22 = .ok (.aload_n 1, 1) := by decide +kernel
theorem d_T_keep_23 : decode b_T_keep 23 = .ok (.iconst 0, 1) := by decide +kernel
theorem d_T_keep_24 : decode b_T_keep 24 = .ok (.invokevirtual 61, 3) := by decide +kernel
theorem d_T_keep_27 : decode b_T_keep 27 = .ok (.goto 4, 3) := by decide +kernel
theorem d_T_keep_30 : decode b_T_keep 30 = .ok (.iconst 0, 1) := by decide +kernel
theorem d_T_keep_31 : decode b_T_keep 31 = .ok (.iconst 0, 1) := by decide +kernel
theorem d_T_keep_32 : decode b_T_keep 32 = .ok (.invokevirtual 44, 3) := by decide +kernel
theorem d_T_keep_35 : decode b_T_keep 35 = .ok (.istore_n 3, 1) := by decide +kernel
theorem d_T_keep_36 : decode b_T_keep 36 = .ok (.iconst 0, 1) := by decide +kernel
theorem d_T_keep_37 : decode b_T_keep 37 = .ok (.istore 4, 2) := by decide +kernel
theorem d_T_keep_39 : decode b_T_keep 39 = .ok (.iload 4, 2) := by decide +kernel
theorem d_T_keep_41 : decode b_T_keep 41 = .ok (.aload_n 1, 1) := by decide +kernel
theorem d_T_keep_42 : decode b_T_keep 42 = .ok (.getfield 64, 3) := by decide +kernel
theorem d_T_keep_45 : decode b_T_keep 45 = .ok (.if_icmp .ge 26, 3) := by decide +kernel
theorem d_T_keep_48 : decode b_T_keep 48 = .ok (.aload_n 0, 1) := by decide +kernel
theorem d_T_keep_49 : decode b_T_keep 49 = .ok (.getfield 34, 3) := by decide +kernel
theorem d_T_keep_52 : decode b_T_keep 52 = .ok (.iload_n 3, 1) := by decide +kernel
theorem d_T_keep_53 : decode b_T_keep 53 = .ok (.iload 4, 2) := by decide +kernel
theorem d_T_keep_55 : decode b_T_keep 55 = .ok (.iadd, 1) := by decide +kernel
theorem d_T_keep_56 : decode b_T_keep 56 = .ok (.aload_n 1, 1) := by decide +kernel
theorem d_T_keep_57 : decode b_T_keep 57 = .ok (.iload 4, 2) := by decide +kernel
theorem d_T_keep_59 : decode b_T_keep 59 = .ok (.invokevirtual 61, 3) := by decide +kernel
theorem d_T_keep_62 : decode b_T_keep 62 = .ok (.invokestatic 17, 3) := by decide +kernel
theorem d_T_keep_65 : decode b_T_keep 65 = .ok (.iinc 4 1, 3) := by decide +kernel
theorem d_T_keep_68 : decode b_T_keep 68 = .ok (.goto (-29), 3) := by decide +kernel
theorem d_T_keep_71 : decode b_T_keep 71 = .ok (.return_, 1) := by decide +kernel
theorem d_D_argument_0 : decode b_D_argument 0 = .ok (.iload_n 1, 1) := by decide +kernel
theorem d_D_argument_1 : decode b_D_argument 1 = .ok (.ifCond .lt 14, 3) := by decide +kernel
theorem d_D_argument_4 : decode b_D_argument 4 = .ok (.iload_n 1, 1) := by decide +kernel
theorem d_D_argument_5 : decode b_D_argument 5 = .ok (.aload_n 0, 1) := by decide +kernel
theorem d_D_argument_6 : decode b_D_argument 6 = .ok (.getfield 26, 3) := by decide +kernel
theorem d_D_argument_9 : decode b_D_argument 9 = .ok (.getfield 105, 3) := by decide +kernel
theorem d_D_argument_12 : decode b_D_argument 12 = .ok (.if_icmp .lt 13, 3) := by decide +kernel
theorem d_D_argument_15 : decode b_D_argument 15 = .ok (.new 47, 3) := by decide +kernel
theorem d_D_argument_18 : decode b_D_argument 18 = .ok (.dup, 1) := by decide +kernel
theorem d_D_argument_19 : decode b_D_argument 19 = .ok (.ldc 108, 2) := by decide +kernel
theorem d_D_argument_21 : decode b_D_argument 21 = .ok (.invokespecial 51, 3) := by decide +kernel
theorem d_D_argument_24 : decode b_D_argument 24 = .ok (.athrow, 1) := by decide +kernel
theorem d_D_argument_25 : decode b_D_argument 25 = .ok (.aload_n 0, 1) := by decide +kernel
theorem d_D_argument_26 : decode b_D_argument 26 = .ok (.getfield 26, 3) := by decide +kernel
theorem d_D_argument_29 : decode b_D_argument 29 = .ok (.iload_n 1, 1) := by decide +kernel
theorem d_D_argument_30 : decode b_D_argument 30 = .ok (.invokevirtual 110, 3) := by decide +kernel
theorem d_D_argument_33 : decode b_D_argument 33 = .ok (.ireturn, 1) := by decide +kernel
theorem d_D_kept_0 : decode b_D_kept 0 = .ok (.iload_n 2, 1) := by decide +kernel
theorem d_D_kept_1 : decode b_D_kept 1 = .ok (.ifCond .lt 23, 3) := by decide +kernel
theorem d_D_kept_4 : decode b_D_kept 4 = .ok (.iload_n 2, 1) := by decide +kernel
theorem d_D_kept_5 : decode b_D_kept 5 = .ok (.iload_n 1, 1) := by decide +kernel
theorem d_D_kept_6 : decode b_D_kept 6 = .ok (.invokestatic 114, 3) := by decide +kernel
theorem d_D_kept_9 : decode b_D_kept 9 = .ok (.if_icmp .ge 15, 3) := by decide +kernel
theorem d_D_kept_12 : decode b_D_kept 12 = .ok (.iload_n 3, 1) := by decide +kernel
theorem d_D_kept_13 : decode b_D_kept 13 = .ok (.ifCond .lt 11, 3) := by decide +kernel
theorem d_D_kept_16 : decode b_D_kept 16 = .ok (.iload_n 3, 1) := by decide +kernel
theorem d_D_kept_17 : decode b_D_kept 17 = .ok (.iload_n 1, 1) := by decide +kernel
theorem d_D_kept_18 : decode b_D_kept 18 = .ok (.invokestatic 119, 3) := by decide +kernel
theorem d_D_kept_21 : decode b_D_kept 21 = .ok (.if_icmp .lt 13, 3) := by decide +kernel
theorem d_D_kept_24 : decode b_D_kept 24 = .ok (.new 62, 3) := by decide +kernel
theorem d_D_kept_27 : decode b_D_kept 27 = .ok (.dup, 1) := by decide +kernel
theorem d_D_kept_28 : decode b_D_kept 28 = .ok (.ldc 122, 2) := by decide +kernel
theorem d_D_kept_30 : decode b_D_kept 30 = .ok (.invokespecial 66, 3) := by decide +kernel
theorem d_D_kept_33 : decode b_D_kept 33 = .ok (.athrow, 1) := by decide +kernel
theorem d_D_kept_34 : decode b_D_kept 34 = .ok (.aload_n 0, 1) := by decide +kernel
theorem d_D_kept_35 : decode b_D_kept 35 = .ok (.getfield 19, 3) := by decide +kernel
theorem d_D_kept_38 : decode b_D_kept 38 = .ok (.iload_n 1, 1) := by decide +kernel
theorem d_D_kept_39 : decode b_D_kept 39 = .ok (.iload_n 2, 1) := by decide +kernel
theorem d_D_kept_40 : decode b_D_kept 40 = .ok (.iload_n 3, 1) := by decide +kernel
theorem d_D_kept_41 : decode b_D_kept 41 = .ok (.invokevirtual 124, 3) := by decide +kernel
theorem d_D_kept_44 : decode b_D_kept 44 = .ok (.ireturn, 1) := by decide +kernel
theorem d_D_about_0 : decode b_D_about 0 = .ok (.iload_n 1, 1) := by decide +kernel
theorem d_D_about_1 : decode b_D_about 1 = .ok (.tableswitch 104 0 6 #[43, 59, 67, 75, 83, 91, 99], 43) := by decide +kernel
theorem d_D_about_44 : decode b_D_about 44 = .ok (.aload_n 0, 1) := by decide +kernel
theorem d_D_about_45 : decode b_D_about 45 = .ok (.getfield 33, 3) := by decide +kernel
theorem d_D_about_48 : decode b_D_about 48 = .ok (.getfield 78, 3) := by decide +kernel
theorem d_D_about_51 : decode b_D_about 51 = .ok (.ifCond .eq 7, 3) := by decide +kernel
theorem d_D_about_54 : decode b_D_about 54 = .ok (.iconst 1, 1) := by decide +kernel
theorem d_D_about_55 : decode b_D_about 55 = .ok (.goto 4, 3) := by decide +kernel
theorem d_D_about_58 : decode b_D_about 58 = .ok (.iconst 0, 1) := by decide +kernel
theorem d_D_about_59 : decode b_D_about 59 = .ok (.ireturn, 1) := by decide +kernel
theorem d_D_about_60 : decode b_D_about 60 = .ok (.aload_n 0, 1) := by decide +kernel
theorem d_D_about_61 : decode b_D_about 61 = .ok (.getfield 33, 3) := by decide +kernel
theorem d_D_about_64 : decode b_D_about 64 = .ok (.getfield 127, 3) := by decide +kernel
theorem d_D_about_67 : decode b_D_about 67 = .ok (.ireturn, 1) := by decide +kernel
theorem d_D_about_68 : decode b_D_about 68 = .ok (.aload_n 0, 1) := by decide +kernel
theorem d_D_about_69 : decode b_D_about 69 = .ok (.getfield 33, 3) := by decide +kernel
theorem d_D_about_72 : decode b_D_about 72 = .ok (.getfield 130, 3) := by decide +kernel
theorem d_D_about_75 : decode b_D_about 75 = .ok (.ireturn, 1) := by decide +kernel
theorem d_D_about_76 : decode b_D_about 76 = .ok (.aload_n 0, 1) := by decide +kernel
theorem d_D_about_77 : decode b_D_about 77 = .ok (.getfield 33, 3) := by decide +kernel
theorem d_D_about_80 : decode b_D_about 80 = .ok (.getfield 133, 3) := by decide +kernel
theorem d_D_about_83 : decode b_D_about 83 = .ok (.ireturn, 1) := by decide +kernel
theorem d_D_about_84 : decode b_D_about 84 = .ok (.aload_n 0, 1) := by decide +kernel
theorem d_D_about_85 : decode b_D_about 85 = .ok (.getfield 33, 3) := by decide +kernel
theorem d_D_about_88 : decode b_D_about 88 = .ok (.getfield 136, 3) := by decide +kernel
theorem d_D_about_91 : decode b_D_about 91 = .ok (.ireturn, 1) := by decide +kernel
theorem d_D_about_92 : decode b_D_about 92 = .ok (.aload_n 0, 1) := by decide +kernel
theorem d_D_about_93 : decode b_D_about 93 = .ok (.getfield 33, 3) := by decide +kernel
theorem d_D_about_96 : decode b_D_about 96 = .ok (.getfield 139, 3) := by decide +kernel
theorem d_D_about_99 : decode b_D_about 99 = .ok (.ireturn, 1) := by decide +kernel
theorem d_D_about_100 : decode b_D_about 100 = .ok (.aload_n 0, 1) := by decide +kernel
theorem d_D_about_101 : decode b_D_about 101 = .ok (.getfield 37, 3) := by decide +kernel
theorem d_D_about_104 : decode b_D_about 104 = .ok (.ireturn, 1) := by decide +kernel
theorem d_D_about_105 : decode b_D_about 105 = .ok (.new 62, 3) := by decide +kernel
theorem d_D_about_108 : decode b_D_about 108 = .ok (.dup, 1) := by decide +kernel
theorem d_D_about_109 : decode b_D_about 109 = .ok (.ldc 142, 2) := by decide +kernel
theorem d_D_about_111 : decode b_D_about 111 = .ok (.invokespecial 66, 3) := by decide +kernel
theorem d_D_about_114 : decode b_D_about 114 = .ok (.athrow, 1) := by decide +kernel
