theorem dX4_init_0 : decode cX4_init 0 = .ok (.aload_n 0, 1) := by decide +kernel
theorem dX4_init_1 : decode cX4_init 1 = .ok (.invokespecial 1, 3) := by decide +kernel
theorem dX4_init_4 : decode cX4_init 4 = .ok (.aload_n 0, 1) := by decide +kernel
theorem dX4_init_5 : decode cX4_init 5 = .ok (.new 7, 3) := by decide +kernel
theorem dX4_init_8 : decode cX4_init 8 = .ok (.dup, 1) := by decide +kernel
theorem dX4_init_9 : decode cX4_init 9 = .ok (.invokespecial 9, 3) := by decide +kernel
theorem dX4_init_12 : decode cX4_init 12 = .ok (.putfield 10, 3) := by decide +kernel
theorem dX4_init_15 : decode cX4_init 15 = .ok (.aload_n 0, 1) := by decide +kernel
theorem dX4_init_16 : decode cX4_init 16 = .ok (.new 16, 3) := by decide +kernel
theorem dX4_init_19 : decode cX4_init 19 = .ok (.dup, 1) := by decide +kernel
theorem dX4_init_20 : decode cX4_init 20 = .ok (.invokespecial 18, 3) := by decide +kernel
theorem dX4_init_23 : decode cX4_init 23 = .ok (.putfield 19, 3) := by decide +kernel
theorem dX4_init_26 : decode cX4_init 26 = .ok (.aload_n 0, 1) := by decide +kernel
theorem dX4_init_27 : decode cX4_init 27 = .ok (.new 16, 3) := by decide +kernel
theorem dX4_init_30 : decode cX4_init 30 = .ok (.dup, 1) := by decide +kernel
theorem dX4_init_31 : decode cX4_init 31 = .ok (.invokespecial 18, 3) := by decide +kernel
theorem dX4_init_34 : decode cX4_init 34 = .ok (.putfield 23, 3) := by decide +kernel
theorem dX4_init_37 : decode cX4_init 37 = .ok (.aload_n 0, 1) := by decide +kernel
theorem dX4_init_38 : decode cX4_init 38 = .ok (.new 16, 3) := by decide +kernel
theorem dX4_init_41 : decode cX4_init 41 = .ok (.dup, 1) := by decide +kernel
theorem dX4_init_42 : decode cX4_init 42 = .ok (.invokespecial 18, 3) := by decide +kernel
theorem dX4_init_45 : decode cX4_init 45 = .ok (.putfield 26, 3) := by decide +kernel
theorem dX4_init_48 : decode cX4_init 48 = .ok (.aload_n 0, 1) := by decide +kernel
theorem dX4_init_49 : decode cX4_init 49 = .ok (.iconst 0, 1) := by decide +kernel
theorem dX4_init_50 : decode cX4_init 50 = .ok (.putfield 29, 3) := by decide +kernel
theorem dX4_init_53 : decode cX4_init 53 = .ok (.return_, 1) := by decide +kernel
theorem dX4_write_0 : decode cX4_write 0 = .ok (.iload_n 1, 1) := by decide +kernel
theorem dX4_write_1 : decode cX4_write 1 = .ok (.bipush 32, 2) := by decide +kernel
theorem dX4_write_3 : decode cX4_write 3 = .ok (.if_icmp .lt 9, 3) := by decide +kernel
theorem dX4_write_6 : decode cX4_write 6 = .ok (.iload_n 1, 1) := by decide +kernel
theorem dX4_write_7 : decode cX4_write 7 = .ok (.bipush 126, 2) := by decide +kernel
theorem dX4_write_9 : decode cX4_write 9 = .ok (.if_icmp .le 5, 3) := by decide +kernel
theorem dX4_write_12 : decode cX4_write 12 = .ok (.iconst (-1), 1) := by decide +kernel
theorem dX4_write_13 : decode cX4_write 13 = .ok (.ireturn, 1) := by decide +kernel
theorem dX4_write_14 : decode cX4_write 14 = .ok (.aload_n 0, 1) := by decide +kernel
theorem dX4_write_15 : decode cX4_write 15 = .ok (.getfield 10, 3) := by decide +kernel
theorem dX4_write_18 : decode cX4_write 18 = .ok (.iload_n 1, 1) := by decide +kernel
theorem dX4_write_19 : decode cX4_write 19 = .ok (.invokevirtual 33, 3) := by decide +kernel
theorem dX4_write_22 : decode cX4_write 22 = .ok (.ifCond .ne 6, 3) := by decide +kernel
theorem dX4_write_25 : decode cX4_write 25 = .ok (.bipush (-3), 2) := by decide +kernel
theorem dX4_write_27 : decode cX4_write 27 = .ok (.ireturn, 1) := by decide +kernel
theorem dX4_write_28 : decode cX4_write 28 = .ok (.aload_n 0, 1) := by decide +kernel
theorem dX4_write_29 : decode cX4_write 29 = .ok (.getfield 10, 3) := by decide +kernel
theorem dX4_write_32 : decode cX4_write 32 = .ok (.invokevirtual 37, 3) := by decide +kernel
theorem dX4_write_35 : decode cX4_write 35 = .ok (.ireturn, 1) := by decide +kernel
theorem dX4_wipe_0 : decode cX4_wipe 0 = .ok (.aload_n 0, 1) := by decide +kernel
theorem dX4_wipe_1 : decode cX4_wipe 1 = .ok (.getfield 10, 3) := by decide +kernel
theorem dX4_wipe_4 : decode cX4_wipe 4 = .ok (.invokevirtual 37, 3) := by decide +kernel
theorem dX4_wipe_7 : decode cX4_wipe 7 = .ok (.istore_n 1, 1) := by decide +kernel
theorem dX4_wipe_8 : decode cX4_wipe 8 = .ok (.aload_n 0, 1) := by decide +kernel
theorem dX4_wipe_9 : decode cX4_wipe 9 = .ok (.getfield 10, 3) := by decide +kernel
theorem dX4_wipe_12 : decode cX4_wipe 12 = .ok (.invokevirtual 41, 3) := by decide +kernel
theorem dX4_wipe_15 : decode cX4_wipe 15 = .ok (.iload_n 1, 1) := by decide +kernel
theorem dX4_wipe_16 : decode cX4_wipe 16 = .ok (.ireturn, 1) := by decide +kernel
theorem dX4_fault_0 : decode cX4_fault 0 = .ok (.aload_n 0, 1) := by decide +kernel
theorem dX4_fault_1 : decode cX4_fault 1 = .ok (.getfield 10, 3) := by decide +kernel
theorem dX4_fault_4 : decode cX4_fault 4 = .ok (.invokevirtual 44, 3) := by decide +kernel
theorem dX4_fault_7 : decode cX4_fault 7 = .ok (.aload_n 0, 1) := by decide +kernel
theorem dX4_fault_8 : decode cX4_fault 8 = .ok (.getfield 10, 3) := by decide +kernel
theorem dX4_fault_11 : decode cX4_fault 11 = .ok (.invokevirtual 47, 3) := by decide +kernel
theorem dX4_fault_14 : decode cX4_fault 14 = .ok (.ireturn, 1) := by decide +kernel
theorem dX4_lay_0 : decode cX4_lay 0 = .ok (.aload_n 0, 1) := by decide +kernel
theorem dX4_lay_1 : decode cX4_lay 1 = .ok (.getfield 10, 3) := by decide +kernel
theorem dX4_lay_4 : decode cX4_lay 4 = .ok (.invokevirtual 44, 3) := by decide +kernel
theorem dX4_lay_7 : decode cX4_lay 7 = .ok (.aload_n 0, 1) := by decide +kernel
theorem dX4_lay_8 : decode cX4_lay 8 = .ok (.getfield 10, 3) := by decide +kernel
theorem dX4_lay_11 : decode cX4_lay 11 = .ok (.invokevirtual 50, 3) := by decide +kernel
theorem dX4_lay_14 : decode cX4_lay 14 = .ok (.ifCond .ne 6, 3) := by decide +kernel
theorem dX4_lay_17 : decode cX4_lay 17 = .ok (.bipush (-2), 2) := by decide +kernel
theorem dX4_lay_19 : decode cX4_lay 19 = .ok (.ireturn, 1) := by decide +kernel
theorem dX4_lay_20 : decode cX4_lay 20 = .ok (.aload_n 0, 1) := by decide +kernel
theorem dX4_lay_21 : decode cX4_lay 21 = .ok (.getfield 19, 3) := by decide +kernel
theorem dX4_lay_24 : decode cX4_lay 24 = .ok (.aload_n 0, 1) := by decide +kernel
theorem dX4_lay_25 : decode cX4_lay 25 = .ok (.getfield 10, 3) := by decide +kernel
theorem dX4_lay_28 : decode cX4_lay 28 = .ok (.invokevirtual 54, 3) := by decide +kernel
theorem dX4_lay_31 : decode cX4_lay 31 = .ok (.invokevirtual 58, 3) := by decide +kernel
theorem dX4_lay_34 : decode cX4_lay 34 = .ok (.aload_n 0, 1) := by decide +kernel
theorem dX4_lay_35 : decode cX4_lay 35 = .ok (.iconst 0, 1) := by decide +kernel
theorem dX4_lay_36 : decode cX4_lay 36 = .ok (.putfield 29, 3) := by decide +kernel
theorem dX4_lay_39 : decode cX4_lay 39 = .ok (.aload_n 0, 1) := by decide +kernel
theorem dX4_lay_40 : decode cX4_lay 40 = .ok (.getfield 19, 3) := by decide +kernel
theorem dX4_lay_43 : decode cX4_lay 43 = .ok (.invokevirtual 62, 3) := by decide +kernel
theorem dX4_lay_46 : decode cX4_lay 46 = .ok (.ireturn, 1) := by decide +kernel
theorem dX4_select_0 : decode cX4_select 0 = .ok (.aload_n 0, 1) := by decide +kernel
theorem dX4_select_1 : decode cX4_select 1 = .ok (.getfield 19, 3) := by decide +kernel
theorem dX4_select_4 : decode cX4_select 4 = .ok (.invokevirtual 65, 3) := by decide +kernel
theorem dX4_select_7 : decode cX4_select 7 = .ok (.ifCond .eq 6, 3) := by decide +kernel
theorem dX4_select_10 : decode cX4_select 10 = .ok (.bipush (-2), 2) := by decide +kernel
theorem dX4_select_12 : decode cX4_select 12 = .ok (.ireturn, 1) := by decide +kernel
theorem dX4_select_13 : decode cX4_select 13 = .ok (.aload_n 0, 1) := by decide +kernel
theorem dX4_select_14 : decode cX4_select 14 = .ok (.getfield 19, 3) := by decide +kernel
theorem dX4_select_17 : decode cX4_select 17 = .ok (.invokevirtual 68, 3) := by decide +kernel
theorem dX4_select_20 : decode cX4_select 20 = .ok (.aload_n 0, 1) := by decide +kernel
theorem dX4_select_21 : decode cX4_select 21 = .ok (.getfield 19, 3) := by decide +kernel
theorem dX4_select_24 : decode cX4_select 24 = .ok (.invokevirtual 71, 3) := by decide +kernel
theorem dX4_select_27 : decode cX4_select 27 = .ok (.ireturn, 1) := by decide +kernel
theorem dX4_put_0 : decode cX4_put 0 = .ok (.iload_n 1, 1) := by decide +kernel
theorem dX4_put_1 : decode cX4_put 1 = .ok (.invokestatic 74, 3) := by decide +kernel
theorem dX4_put_4 : decode cX4_put 4 = .ok (.ifCond .ne 5, 3) := by decide +kernel
theorem dX4_put_7 : decode cX4_put 7 = .ok (.iconst (-1), 1) := by decide +kernel
theorem dX4_put_8 : decode cX4_put 8 = .ok (.ireturn, 1) := by decide +kernel
theorem dX4_put_9 : decode cX4_put 9 = .ok (.aload_n 0, 1) := by decide +kernel
theorem dX4_put_10 : decode cX4_put 10 = .ok (.getfield 19, 3) := by decide +kernel
theorem dX4_put_13 : decode cX4_put 13 = .ok (.invokevirtual 65, 3) := by decide +kernel
theorem dX4_put_16 : decode cX4_put 16 = .ok (.ifCond .ne 6, 3) := by decide +kernel
theorem dX4_put_19 : decode cX4_put 19 = .ok (.bipush (-2), 2) := by decide +kernel
theorem dX4_put_21 : decode cX4_put 21 = .ok (.ireturn, 1) := by decide +kernel
theorem dX4_put_22 : decode cX4_put 22 = .ok (.aload_n 0, 1) := by decide +kernel
theorem dX4_put_23 : decode cX4_put 23 = .ok (.getfield 19, 3) := by decide +kernel
theorem dX4_put_26 : decode cX4_put 26 = .ok (.iload_n 1, 1) := by decide +kernel
theorem dX4_put_27 : decode cX4_put 27 = .ok (.invokevirtual 77, 3) := by decide +kernel
theorem dX4_put_30 : decode cX4_put 30 = .ok (.ireturn, 1) := by decide +kernel
theorem dX4_release_0 : decode cX4_release 0 = .ok (.aload_n 0, 1) := by decide +kernel
theorem dX4_release_1 : decode cX4_release 1 = .ok (.getfield 19, 3) := by decide +kernel
theorem dX4_release_4 : decode cX4_release 4 = .ok (.invokevirtual 65, 3) := by decide +kernel
theorem dX4_release_7 : decode cX4_release 7 = .ok (.ifCond .ne 6, 3) := by decide +kernel
theorem dX4_release_10 : decode cX4_release 10 = .ok (.bipush (-2), 2) := by decide +kernel
theorem dX4_release_12 : decode cX4_release 12 = .ok (.ireturn, 1) := by decide +kernel
theorem dX4_release_13 : decode cX4_release 13 = .ok (.aload_n 0, 1) := by decide +kernel
theorem dX4_release_14 : decode cX4_release 14 = .ok (.getfield 19, 3) := by decide +kernel
theorem dX4_release_17 : decode cX4_release 17 = .ok (.invokevirtual 81, 3) := by decide +kernel
theorem dX4_release_20 : decode cX4_release 20 = .ok (.aload_n 0, 1) := by decide +kernel
theorem dX4_release_21 : decode cX4_release 21 = .ok (.getfield 19, 3) := by decide +kernel
theorem dX4_release_24 : decode cX4_release 24 = .ok (.invokevirtual 84, 3) := by decide +kernel
theorem dX4_release_27 : decode cX4_release 27 = .ok (.ireturn, 1) := by decide +kernel
theorem dX4_send_0 : decode cX4_send 0 = .ok (.iload_n 1, 1) := by decide +kernel
theorem dX4_send_1 : decode cX4_send 1 = .ok (.invokestatic 74, 3) := by decide +kernel
theorem dX4_send_4 : decode cX4_send 4 = .ok (.ifCond .eq 29, 3) := by decide +kernel
theorem dX4_send_7 : decode cX4_send 7 = .ok (.iload_n 2, 1) := by decide +kernel
theorem dX4_send_8 : decode cX4_send 8 = .ok (.invokestatic 74, 3) := by decide +kernel
theorem dX4_send_11 : decode cX4_send 11 = .ok (.ifCond .eq 22, 3) := by decide +kernel
theorem dX4_send_14 : decode cX4_send 14 = .ok (.iload_n 3, 1) := by decide +kernel
theorem dX4_send_15 : decode cX4_send 15 = .ok (.invokestatic 74, 3) := by decide +kernel
theorem dX4_send_18 : decode cX4_send 18 = .ok (.ifCond .eq 15, 3) := by decide +kernel
theorem dX4_send_21 : decode cX4_send 21 = .ok (.iload 4, 2) := by decide +kernel
theorem dX4_send_23 : decode cX4_send 23 = .ok (.ifCond .lt 10, 3) := by decide +kernel
theorem dX4_send_26 : decode cX4_send 26 = .ok (.iload 4, 2) := by decide +kernel
theorem dX4_send_28 : decode cX4_send 28 = .ok (.bipush 40, 2) := by decide +kernel
theorem dX4_send_30 : decode cX4_send 30 = .ok (.if_icmp .le 5, 3) := by decide +kernel
theorem dX4_send_33 : decode cX4_send 33 = .ok (.iconst (-1), 1) := by decide +kernel
theorem dX4_send_34 : decode cX4_send 34 = .ok (.ireturn, 1) := by decide +kernel
theorem dX4_send_35 : decode cX4_send 35 = .ok (.aload_n 0, 1) := by decide +kernel
theorem dX4_send_36 : decode cX4_send 36 = .ok (.getfield 19, 3) := by decide +kernel
theorem dX4_send_39 : decode cX4_send 39 = .ok (.invokevirtual 65, 3) := by decide +kernel
theorem dX4_send_42 : decode cX4_send 42 = .ok (.ifCond .eq 6, 3) := by decide +kernel
theorem dX4_send_45 : decode cX4_send 45 = .ok (.bipush (-2), 2) := by decide +kernel
theorem dX4_send_47 : decode cX4_send 47 = .ok (.ireturn, 1) := by decide +kernel
theorem dX4_send_48 : decode cX4_send 48 = .ok (.aload_n 0, 1) := by decide +kernel
theorem dX4_send_49 : decode cX4_send 49 = .ok (.getfield 19, 3) := by decide +kernel
theorem dX4_send_52 : decode cX4_send 52 = .ok (.invokevirtual 68, 3) := by decide +kernel
theorem dX4_send_55 : decode cX4_send 55 = .ok (.aload_n 0, 1) := by decide +kernel
theorem dX4_send_56 : decode cX4_send 56 = .ok (.getfield 19, 3) := by decide +kernel
theorem dX4_send_59 : decode cX4_send 59 = .ok (.iload_n 1, 1) := by decide +kernel
theorem dX4_send_60 : decode cX4_send 60 = .ok (.invokevirtual 77, 3) := by decide +kernel
theorem dX4_send_63 : decode cX4_send 63 = .ok (.pop, 1) := by decide +kernel
theorem dX4_send_64 : decode cX4_send 64 = .ok (.aload_n 0, 1) := by decide +kernel
theorem dX4_send_65 : decode cX4_send 65 = .ok (.getfield 19, 3) := by decide +kernel
theorem dX4_send_68 : decode cX4_send 68 = .ok (.iload_n 2, 1) := by decide +kernel
theorem dX4_send_69 : decode cX4_send 69 = .ok (.invokevirtual 77, 3) := by decide +kernel
theorem dX4_send_72 : decode cX4_send 72 = .ok (.istore 5, 2) := by decide +kernel
theorem dX4_send_74 : decode cX4_send 74 = .ok (.aload_n 0, 1) := by decide +kernel
theorem dX4_send_75 : decode cX4_send 75 = .ok (.iload 5, 2) := by decide +kernel
theorem dX4_send_77 : decode cX4_send 77 = .ok (.iload_n 3, 1) := by decide +kernel
theorem dX4_send_78 : decode cX4_send 78 = .ok (.iload 4, 2) := by decide +kernel
theorem dX4_send_80 : decode cX4_send 80 = .ok (.invokevirtual 87, 3) := by decide +kernel
theorem dX4_send_83 : decode cX4_send 83 = .ok (.ireturn, 1) := by decide +kernel
theorem dX4_order_0 : decode cX4_order 0 = .ok (.iload_n 1, 1) := by decide +kernel
theorem dX4_order_1 : decode cX4_order 1 = .ok (.invokestatic 74, 3) := by decide +kernel
theorem dX4_order_4 : decode cX4_order 4 = .ok (.ifCond .eq 20, 3) := by decide +kernel
theorem dX4_order_7 : decode cX4_order 7 = .ok (.iload_n 2, 1) := by decide +kernel
theorem dX4_order_8 : decode cX4_order 8 = .ok (.invokestatic 74, 3) := by decide +kernel
theorem dX4_order_11 : decode cX4_order 11 = .ok (.ifCond .eq 13, 3) := by decide +kernel
theorem dX4_order_14 : decode cX4_order 14 = .ok (.iload_n 3, 1) := by decide +kernel
theorem dX4_order_15 : decode cX4_order 15 = .ok (.ifCond .lt 9, 3) := by decide +kernel
theorem dX4_order_18 : decode cX4_order 18 = .ok (.iload_n 3, 1) := by decide +kernel
theorem dX4_order_19 : decode cX4_order 19 = .ok (.bipush 40, 2) := by decide +kernel
theorem dX4_order_21 : decode cX4_order 21 = .ok (.if_icmp .le 5, 3) := by decide +kernel
theorem dX4_order_24 : decode cX4_order 24 = .ok (.iconst (-1), 1) := by decide +kernel
theorem dX4_order_25 : decode cX4_order 25 = .ok (.ireturn, 1) := by decide +kernel
theorem dX4_order_26 : decode cX4_order 26 = .ok (.aload_n 0, 1) := by decide +kernel
theorem dX4_order_27 : decode cX4_order 27 = .ok (.getfield 19, 3) := by decide +kernel
theorem dX4_order_30 : decode cX4_order 30 = .ok (.invokevirtual 65, 3) := by decide +kernel
theorem dX4_order_33 : decode cX4_order 33 = .ok (.ifCond .eq 6, 3) := by decide +kernel
theorem dX4_order_36 : decode cX4_order 36 = .ok (.bipush (-2), 2) := by decide +kernel
theorem dX4_order_38 : decode cX4_order 38 = .ok (.ireturn, 1) := by decide +kernel
theorem dX4_order_39 : decode cX4_order 39 = .ok (.aload_n 0, 1) := by decide +kernel
theorem dX4_order_40 : decode cX4_order 40 = .ok (.getfield 19, 3) := by decide +kernel
theorem dX4_order_43 : decode cX4_order 43 = .ok (.invokevirtual 68, 3) := by decide +kernel
theorem dX4_order_46 : decode cX4_order 46 = .ok (.aload_n 0, 1) := by decide +kernel
theorem dX4_order_47 : decode cX4_order 47 = .ok (.getfield 19, 3) := by decide +kernel
theorem dX4_order_50 : decode cX4_order 50 = .ok (.iload_n 1, 1) := by decide +kernel
theorem dX4_order_51 : decode cX4_order 51 = .ok (.invokevirtual 77, 3) := by decide +kernel
theorem dX4_order_54 : decode cX4_order 54 = .ok (.istore 4, 2) := by decide +kernel
theorem dX4_order_56 : decode cX4_order 56 = .ok (.aload_n 0, 1) := by decide +kernel
theorem dX4_order_57 : decode cX4_order 57 = .ok (.iload 4, 2) := by decide +kernel
theorem dX4_order_59 : decode cX4_order 59 = .ok (.iload_n 2, 1) := by decide +kernel
theorem dX4_order_60 : decode cX4_order 60 = .ok (.iload_n 3, 1) := by decide +kernel
theorem dX4_order_61 : decode cX4_order 61 = .ok (.invokevirtual 87, 3) := by decide +kernel
theorem dX4_order_64 : decode cX4_order 64 = .ok (.ireturn, 1) := by decide +kernel
theorem dX4_tick_0 : decode cX4_tick 0 = .ok (.iload_n 1, 1) := by decide +kernel
theorem dX4_tick_1 : decode cX4_tick 1 = .ok (.iconst 1, 1) := by decide +kernel
theorem dX4_tick_2 : decode cX4_tick 2 = .ok (.if_icmp .lt 9, 3) := by decide +kernel
theorem dX4_tick_5 : decode cX4_tick 5 = .ok (.iload_n 1, 1) := by decide +kernel
theorem dX4_tick_6 : decode cX4_tick 6 = .ok (.bipush 99, 2) := by decide +kernel
theorem dX4_tick_8 : decode cX4_tick 8 = .ok (.if_icmp .le 5, 3) := by decide +kernel
theorem dX4_tick_11 : decode cX4_tick 11 = .ok (.iconst (-1), 1) := by decide +kernel
theorem dX4_tick_12 : decode cX4_tick 12 = .ok (.ireturn, 1) := by decide +kernel
theorem dX4_tick_13 : decode cX4_tick 13 = .ok (.iconst 0, 1) := by decide +kernel
theorem dX4_tick_14 : decode cX4_tick 14 = .ok (.istore_n 2, 1) := by decide +kernel
theorem dX4_tick_15 : decode cX4_tick 15 = .ok (.iconst 0, 1) := by decide +kernel
theorem dX4_tick_16 : decode cX4_tick 16 = .ok (.istore_n 3, 1) := by decide +kernel
theorem dX4_tick_17 : decode cX4_tick 17 = .ok (.iload_n 3, 1) := by decide +kernel
theorem dX4_tick_18 : decode cX4_tick 18 = .ok (.iload_n 1, 1) := by decide +kernel
theorem dX4_tick_19 : decode cX4_tick 19 = .ok (.if_icmp .ge 29, 3) := by decide +kernel
theorem dX4_tick_22 : decode cX4_tick 22 = .ok (.aload_n 0, 1) := by decide +kernel
theorem dX4_tick_23 : decode cX4_tick 23 = .ok (.getfield 19, 3) := by decide +kernel
theorem dX4_tick_26 : decode cX4_tick 26 = .ok (.invokevirtual 91, 3) := by decide +kernel
theorem dX4_tick_29 : decode cX4_tick 29 = .ok (.ifCond .eq 13, 3) := by decide +kernel
theorem dX4_tick_32 : decode cX4_tick 32 = .ok (.iinc 2 1, 3) := by decide +kernel
theorem dX4_tick_35 : decode cX4_tick 35 = .ok (.aload_n 0, 1) := by decide +kernel
theorem dX4_tick_36 : decode cX4_tick 36 = .ok (.getfield 19, 3) := by decide +kernel
theorem dX4_tick_39 : decode cX4_tick 39 = .ok (.invokevirtual 94, 3) := by decide +kernel
theorem dX4_tick_42 : decode cX4_tick 42 = .ok (.iinc 3 1, 3) := by decide +kernel
theorem dX4_tick_45 : decode cX4_tick 45 = .ok (.goto (-28), 3) := by decide +kernel
theorem dX4_tick_48 : decode cX4_tick 48 = .ok (.iload_n 2, 1) := by decide +kernel
theorem dX4_tick_49 : decode cX4_tick 49 = .ok (.ireturn, 1) := by decide +kernel
theorem dX4_at_0 : decode cX4_at 0 = .ok (.iload_n 1, 1) := by decide +kernel
theorem dX4_at_1 : decode cX4_at 1 = .ok (.ifCond .lt 14, 3) := by decide +kernel
theorem dX4_at_4 : decode cX4_at 4 = .ok (.iload_n 1, 1) := by decide +kernel
theorem dX4_at_5 : decode cX4_at 5 = .ok (.aload_n 0, 1) := by decide +kernel
theorem dX4_at_6 : decode cX4_at 6 = .ok (.getfield 19, 3) := by decide +kernel
theorem dX4_at_9 : decode cX4_at 9 = .ok (.invokevirtual 62, 3) := by decide +kernel
theorem dX4_at_12 : decode cX4_at 12 = .ok (.if_icmp .lt 5, 3) := by decide +kernel
theorem dX4_at_15 : decode cX4_at 15 = .ok (.iconst (-1), 1) := by decide +kernel
theorem dX4_at_16 : decode cX4_at 16 = .ok (.ireturn, 1) := by decide +kernel
theorem dX4_at_17 : decode cX4_at 17 = .ok (.aload_n 0, 1) := by decide +kernel
theorem dX4_at_18 : decode cX4_at 18 = .ok (.getfield 19, 3) := by decide +kernel
theorem dX4_at_21 : decode cX4_at 21 = .ok (.iload_n 1, 1) := by decide +kernel
theorem dX4_at_22 : decode cX4_at 22 = .ok (.invokevirtual 97, 3) := by decide +kernel
theorem dX4_at_25 : decode cX4_at 25 = .ok (.ireturn, 1) := by decide +kernel
theorem dX4_sector_0 : decode cX4_sector 0 = .ok (.iload_n 1, 1) := by decide +kernel
theorem dX4_sector_1 : decode cX4_sector 1 = .ok (.ifCond .lt 17, 3) := by decide +kernel
theorem dX4_sector_4 : decode cX4_sector 4 = .ok (.iload_n 1, 1) := by decide +kernel
theorem dX4_sector_5 : decode cX4_sector 5 = .ok (.aload_n 0, 1) := by decide +kernel
theorem dX4_sector_6 : decode cX4_sector 6 = .ok (.getfield 19, 3) := by decide +kernel
theorem dX4_sector_9 : decode cX4_sector 9 = .ok (.invokevirtual 100, 3) := by decide +kernel
theorem dX4_sector_12 : decode cX4_sector 12 = .ok (.invokevirtual 103, 3) := by decide +kernel
theorem dX4_sector_15 : decode cX4_sector 15 = .ok (.if_icmp .lt 5, 3) := by decide +kernel
theorem dX4_sector_18 : decode cX4_sector 18 = .ok (.iconst (-1), 1) := by decide +kernel
theorem dX4_sector_19 : decode cX4_sector 19 = .ok (.ireturn, 1) := by decide +kernel
theorem dX4_sector_20 : decode cX4_sector 20 = .ok (.iload_n 2, 1) := by decide +kernel
theorem dX4_sector_21 : decode cX4_sector 21 = .ok (.tableswitch 104 0 4 #[35, 44, 53, 70, 87], 35) := by decide +kernel
theorem dX4_sector_56 : decode cX4_sector 56 = .ok (.aload_n 0, 1) := by decide +kernel
theorem dX4_sector_57 : decode cX4_sector 57 = .ok (.getfield 19, 3) := by decide +kernel
theorem dX4_sector_60 : decode cX4_sector 60 = .ok (.iload_n 1, 1) := by decide +kernel
theorem dX4_sector_61 : decode cX4_sector 61 = .ok (.invokevirtual 108, 3) := by decide +kernel
theorem dX4_sector_64 : decode cX4_sector 64 = .ok (.ireturn, 1) := by decide +kernel
theorem dX4_sector_65 : decode cX4_sector 65 = .ok (.aload_n 0, 1) := by decide +kernel
theorem dX4_sector_66 : decode cX4_sector 66 = .ok (.getfield 19, 3) := by decide +kernel
theorem dX4_sector_69 : decode cX4_sector 69 = .ok (.iload_n 1, 1) := by decide +kernel
theorem dX4_sector_70 : decode cX4_sector 70 = .ok (.invokevirtual 111, 3) := by decide +kernel
theorem dX4_sector_73 : decode cX4_sector 73 = .ok (.ireturn, 1) := by decide +kernel
theorem dX4_sector_74 : decode cX4_sector 74 = .ok (.aload_n 0, 1) := by decide +kernel
theorem dX4_sector_75 : decode cX4_sector 75 = .ok (.getfield 19, 3) := by decide +kernel
theorem dX4_sector_78 : decode cX4_sector 78 = .ok (.iload_n 1, 1) := by decide +kernel
theorem dX4_sector_79 : decode cX4_sector 79 = .ok (.invokevirtual 114, 3) := by decide +kernel
theorem dX4_sector_82 : decode cX4_sector 82 = .ok (.ifCond .eq 7, 3) := by decide +kernel
theorem dX4_sector_85 : decode cX4_sector 85 = .ok (.iconst 1, 1) := by decide +kernel
theorem dX4_sector_86 : decode cX4_sector 86 = .ok (.goto 4, 3) := by decide +kernel
theorem dX4_sector_89 : decode cX4_sector 89 = .ok (.iconst 0, 1) := by decide +kernel
theorem dX4_sector_90 : decode cX4_sector 90 = .ok (.ireturn, 1) := by decide +kernel
theorem dX4_sector_91 : decode cX4_sector 91 = .ok (.aload_n 0, 1) := by decide +kernel
theorem dX4_sector_92 : decode cX4_sector 92 = .ok (.getfield 19, 3) := by decide +kernel
theorem dX4_sector_95 : decode cX4_sector 95 = .ok (.iload_n 1, 1) := by decide +kernel
theorem dX4_sector_96 : decode cX4_sector 96 = .ok (.invokevirtual 117, 3) := by decide +kernel
theorem dX4_sector_99 : decode cX4_sector 99 = .ok (.ifCond .eq 7, 3) := by decide +kernel
theorem dX4_sector_102 : decode cX4_sector 102 = .ok (.iconst 1, 1) := by decide +kernel
theorem dX4_sector_103 : decode cX4_sector 103 = .ok (.goto 4, 3) := by decide +kernel
theorem dX4_sector_106 : decode cX4_sector 106 = .ok (.iconst 0, 1) := by decide +kernel
theorem dX4_sector_107 : decode cX4_sector 107 = .ok (.ireturn, 1) := by decide +kernel
theorem dX4_sector_108 : decode cX4_sector 108 = .ok (.aload_n 0, 1) := by decide +kernel
theorem dX4_sector_109 : decode cX4_sector 109 = .ok (.getfield 19, 3) := by decide +kernel
theorem dX4_sector_112 : decode cX4_sector 112 = .ok (.iload_n 1, 1) := by decide +kernel
theorem dX4_sector_113 : decode cX4_sector 113 = .ok (.invokevirtual 120, 3) := by decide +kernel
theorem dX4_sector_116 : decode cX4_sector 116 = .ok (.ifCond .eq 7, 3) := by decide +kernel
theorem dX4_sector_119 : decode cX4_sector 119 = .ok (.iconst 1, 1) := by decide +kernel
theorem dX4_sector_120 : decode cX4_sector 120 = .ok (.goto 4, 3) := by decide +kernel
theorem dX4_sector_123 : decode cX4_sector 123 = .ok (.iconst 0, 1) := by decide +kernel
theorem dX4_sector_124 : decode cX4_sector 124 = .ok (.ireturn, 1) := by decide +kernel
theorem dX4_sector_125 : decode cX4_sector 125 = .ok (.iconst (-1), 1) := by decide +kernel
theorem dX4_sector_126 : decode cX4_sector 126 = .ok (.ireturn, 1) := by decide +kernel
theorem dX4_table_0 : decode cX4_table 0 = .ok (.iload_n 1, 1) := by decide +kernel
theorem dX4_table_1 : decode cX4_table 1 = .ok (.ifCond .lt 9, 3) := by decide +kernel
theorem dX4_table_4 : decode cX4_table 4 = .ok (.iload_n 1, 1) := by decide +kernel
theorem dX4_table_5 : decode cX4_table 5 = .ok (.bipush 8, 2) := by decide +kernel
theorem dX4_table_7 : decode cX4_table 7 = .ok (.if_icmp .lt 5, 3) := by decide +kernel
theorem dX4_table_10 : decode cX4_table 10 = .ok (.iconst (-1), 1) := by decide +kernel
theorem dX4_table_11 : decode cX4_table 11 = .ok (.ireturn, 1) := by decide +kernel
theorem dX4_table_12 : decode cX4_table 12 = .ok (.aload_n 0, 1) := by decide +kernel
theorem dX4_table_13 : decode cX4_table 13 = .ok (.getfield 19, 3) := by decide +kernel
theorem dX4_table_16 : decode cX4_table 16 = .ok (.invokevirtual 100, 3) := by decide +kernel
theorem dX4_table_19 : decode cX4_table 19 = .ok (.iload_n 1, 1) := by decide +kernel
theorem dX4_table_20 : decode cX4_table 20 = .ok (.invokevirtual 123, 3) := by decide +kernel
theorem dX4_table_23 : decode cX4_table 23 = .ok (.ireturn, 1) := by decide +kernel
theorem dX4_keep_0 : decode cX4_keep 0 = .ok (.aload_n 0, 1) := by decide +kernel
theorem dX4_keep_1 : decode cX4_keep 1 = .ok (.getfield 29, 3) := by decide +kernel
theorem dX4_keep_4 : decode cX4_keep 4 = .ok (.iconst 2, 1) := by decide +kernel
theorem dX4_keep_5 : decode cX4_keep 5 = .ok (.if_icmp .lt 6, 3) := by decide +kernel
theorem dX4_keep_8 : decode cX4_keep 8 = .ok (.bipush (-3), 2) := by decide +kernel
theorem dX4_keep_10 : decode cX4_keep 10 = .ok (.ireturn, 1) := by decide +kernel
theorem dX4_keep_11 : decode cX4_keep 11 = .ok (.aload_n 0, 1) := by decide +kernel
theorem dX4_keep_12 : decode cX4_keep 12 = .ok (.dup, 1) := by decide +kernel
theorem dX4_keep_13 : decode cX4_keep 13 = .ok (.getfield 29, 3) := by decide +kernel
theorem dX4_keep_16 : decode cX4_keep 16 = .ok (.iconst 1, 1) := by decide +kernel
theorem dX4_keep_17 : decode cX4_keep 17 = .ok (.iadd, 1) := by decide +kernel
theorem dX4_keep_18 : decode cX4_keep 18 = .ok (.putfield 29, 3) := by decide +kernel
theorem dX4_keep_21 : decode cX4_keep 21 = .ok (.aload_n 0, 1) := by decide +kernel
theorem dX4_keep_22 : decode cX4_keep 22 = .ok (.invokevirtual 126, 3) := by decide +kernel
theorem dX4_keep_25 : decode cX4_keep 25 = .ok (.aload_n 0, 1) := by decide +kernel
theorem dX4_keep_26 : decode cX4_keep 26 = .ok (.getfield 19, 3) := by decide +kernel
theorem dX4_keep_29 : decode cX4_keep 29 = .ok (.invokevirtual 130, 3) := by decide +kernel
theorem dX4_keep_32 : decode cX4_keep 32 = .ok (.aload_n 0, 1) := by decide +kernel
theorem dX4_keep_33 : decode cX4_keep 33 = .ok (.getfield 29, 3) := by decide +kernel
theorem dX4_keep_36 : decode cX4_keep 36 = .ok (.ireturn, 1) := by decide +kernel
theorem dX4_back_0 : decode cX4_back 0 = .ok (.aload_n 0, 1) := by decide +kernel
theorem dX4_back_1 : decode cX4_back 1 = .ok (.getfield 29, 3) := by decide +kernel
theorem dX4_back_4 : decode cX4_back 4 = .ok (.ifCond .gt 6, 3) := by decide +kernel
theorem dX4_back_7 : decode cX4_back 7 = .ok (.bipush (-2), 2) := by decide +kernel
theorem dX4_back_9 : decode cX4_back 9 = .ok (.ireturn, 1) := by decide +kernel
theorem dX4_back_10 : decode cX4_back 10 = .ok (.aload_n 0, 1) := by decide +kernel
theorem dX4_back_11 : decode cX4_back 11 = .ok (.getfield 19, 3) := by decide +kernel
theorem dX4_back_14 : decode cX4_back 14 = .ok (.aload_n 0, 1) := by decide +kernel
theorem dX4_back_15 : decode cX4_back 15 = .ok (.invokevirtual 126, 3) := by decide +kernel
theorem dX4_back_18 : decode cX4_back 18 = .ok (.invokevirtual 130, 3) := by decide +kernel
theorem dX4_back_21 : decode cX4_back 21 = .ok (.aload_n 0, 1) := by decide +kernel
theorem dX4_back_22 : decode cX4_back 22 = .ok (.dup, 1) := by decide +kernel
theorem dX4_back_23 : decode cX4_back 23 = .ok (.getfield 29, 3) := by decide +kernel
theorem dX4_back_26 : decode cX4_back 26 = .ok (.iconst 1, 1) := by decide +kernel
theorem dX4_back_27 : decode cX4_back 27 = .ok (.isub, 1) := by decide +kernel
theorem dX4_back_28 : decode cX4_back 28 = .ok (.putfield 29, 3) := by decide +kernel
theorem dX4_back_31 : decode cX4_back 31 = .ok (.aload_n 0, 1) := by decide +kernel
theorem dX4_back_32 : decode cX4_back 32 = .ok (.getfield 29, 3) := by decide +kernel
theorem dX4_back_35 : decode cX4_back 35 = .ok (.ireturn, 1) := by decide +kernel
theorem dX4_unlike_0 : decode cX4_unlike 0 = .ok (.aload_n 0, 1) := by decide +kernel
theorem dX4_unlike_1 : decode cX4_unlike 1 = .ok (.getfield 29, 3) := by decide +kernel
theorem dX4_unlike_4 : decode cX4_unlike 4 = .ok (.ifCond .gt 6, 3) := by decide +kernel
theorem dX4_unlike_7 : decode cX4_unlike 7 = .ok (.bipush (-2), 2) := by decide +kernel
theorem dX4_unlike_9 : decode cX4_unlike 9 = .ok (.ireturn, 1) := by decide +kernel
theorem dX4_unlike_10 : decode cX4_unlike 10 = .ok (.aload_n 0, 1) := by decide +kernel
theorem dX4_unlike_11 : decode cX4_unlike 11 = .ok (.getfield 19, 3) := by decide +kernel
theorem dX4_unlike_14 : decode cX4_unlike 14 = .ok (.aload_n 0, 1) := by decide +kernel
theorem dX4_unlike_15 : decode cX4_unlike 15 = .ok (.invokevirtual 126, 3) := by decide +kernel
theorem dX4_unlike_18 : decode cX4_unlike 18 = .ok (.invokevirtual 134, 3) := by decide +kernel
theorem dX4_unlike_21 : decode cX4_unlike 21 = .ok (.ireturn, 1) := by decide +kernel
theorem dX4_count_0 : decode cX4_count 0 = .ok (.iload_n 1, 1) := by decide +kernel
theorem dX4_count_1 : decode cX4_count 1 = .ok (.tableswitch 195 0 13 #[71, 79, 90, 101, 112, 123, 134, 142, 150, 158, 166, 174, 179, 187], 71) := by decide +kernel
theorem dX4_count_72 : decode cX4_count 72 = .ok (.aload_n 0, 1) := by decide +kernel
theorem dX4_count_73 : decode cX4_count 73 = .ok (.getfield 19, 3) := by decide +kernel
theorem dX4_count_76 : decode cX4_count 76 = .ok (.invokevirtual 62, 3) := by decide +kernel
theorem dX4_count_79 : decode cX4_count 79 = .ok (.ireturn, 1) := by decide +kernel
theorem dX4_count_80 : decode cX4_count 80 = .ok (.aload_n 0, 1) := by decide +kernel
theorem dX4_count_81 : decode cX4_count 81 = .ok (.getfield 19, 3) := by decide +kernel
theorem dX4_count_84 : decode cX4_count 84 = .ok (.invokevirtual 100, 3) := by decide +kernel
theorem dX4_count_87 : decode cX4_count 87 = .ok (.invokevirtual 138, 3) := by decide +kernel
theorem dX4_count_90 : decode cX4_count 90 = .ok (.ireturn, 1) := by decide +kernel
theorem dX4_count_91 : decode cX4_count 91 = .ok (.aload_n 0, 1) := by decide +kernel
theorem dX4_count_92 : decode cX4_count 92 = .ok (.getfield 19, 3) := by decide +kernel
theorem dX4_count_95 : decode cX4_count 95 = .ok (.invokevirtual 100, 3) := by decide +kernel
theorem dX4_count_98 : decode cX4_count 98 = .ok (.invokevirtual 141, 3) := by decide +kernel
theorem dX4_count_101 : decode cX4_count 101 = .ok (.ireturn, 1) := by decide +kernel
theorem dX4_count_102 : decode cX4_count 102 = .ok (.aload_n 0, 1) := by decide +kernel
theorem dX4_count_103 : decode cX4_count 103 = .ok (.getfield 19, 3) := by decide +kernel
theorem dX4_count_106 : decode cX4_count 106 = .ok (.invokevirtual 100, 3) := by decide +kernel
theorem dX4_count_109 : decode cX4_count 109 = .ok (.invokevirtual 103, 3) := by decide +kernel
theorem dX4_count_112 : decode cX4_count 112 = .ok (.ireturn, 1) := by decide +kernel
theorem dX4_count_113 : decode cX4_count 113 = .ok (.aload_n 0, 1) := by decide +kernel
theorem dX4_count_114 : decode cX4_count 114 = .ok (.getfield 19, 3) := by decide +kernel
theorem dX4_count_117 : decode cX4_count 117 = .ok (.invokevirtual 100, 3) := by decide +kernel
theorem dX4_count_120 : decode cX4_count 120 = .ok (.invokevirtual 144, 3) := by decide +kernel
theorem dX4_count_123 : decode cX4_count 123 = .ok (.ireturn, 1) := by decide +kernel
theorem dX4_count_124 : decode cX4_count 124 = .ok (.aload_n 0, 1) := by decide +kernel
theorem dX4_count_125 : decode cX4_count 125 = .ok (.getfield 19, 3) := by decide +kernel
theorem dX4_count_128 : decode cX4_count 128 = .ok (.invokevirtual 100, 3) := by decide +kernel
theorem dX4_count_131 : decode cX4_count 131 = .ok (.invokevirtual 147, 3) := by decide +kernel
theorem dX4_count_134 : decode cX4_count 134 = .ok (.ireturn, 1) := by decide +kernel
theorem dX4_count_135 : decode cX4_count 135 = .ok (.aload_n 0, 1) := by decide +kernel
theorem dX4_count_136 : decode cX4_count 136 = .ok (.getfield 19, 3) := by decide +kernel
theorem dX4_count_139 : decode cX4_count 139 = .ok (.invokevirtual 71, 3) := by decide +kernel
theorem dX4_count_142 : decode cX4_count 142 = .ok (.ireturn, 1) := by decide +kernel
theorem dX4_count_143 : decode cX4_count 143 = .ok (.aload_n 0, 1) := by decide +kernel
theorem dX4_count_144 : decode cX4_count 144 = .ok (.getfield 19, 3) := by decide +kernel
theorem dX4_count_147 : decode cX4_count 147 = .ok (.invokevirtual 84, 3) := by decide +kernel
theorem dX4_count_150 : decode cX4_count 150 = .ok (.ireturn, 1) := by decide +kernel
theorem dX4_count_151 : decode cX4_count 151 = .ok (.aload_n 0, 1) := by decide +kernel
theorem dX4_count_152 : decode cX4_count 152 = .ok (.getfield 19, 3) := by decide +kernel
theorem dX4_count_155 : decode cX4_count 155 = .ok (.invokevirtual 150, 3) := by decide +kernel
theorem dX4_count_158 : decode cX4_count 158 = .ok (.ireturn, 1) := by decide +kernel
theorem dX4_count_159 : decode cX4_count 159 = .ok (.aload_n 0, 1) := by decide +kernel
theorem dX4_count_160 : decode cX4_count 160 = .ok (.getfield 19, 3) := by decide +kernel
theorem dX4_count_163 : decode cX4_count 163 = .ok (.invokevirtual 153, 3) := by decide +kernel
theorem dX4_count_166 : decode cX4_count 166 = .ok (.ireturn, 1) := by decide +kernel
theorem dX4_count_167 : decode cX4_count 167 = .ok (.aload_n 0, 1) := by decide +kernel
theorem dX4_count_168 : decode cX4_count 168 = .ok (.getfield 19, 3) := by decide +kernel
theorem dX4_count_171 : decode cX4_count 171 = .ok (.invokevirtual 156, 3) := by decide +kernel
theorem dX4_count_174 : decode cX4_count 174 = .ok (.ireturn, 1) := by decide +kernel
theorem dX4_count_175 : decode cX4_count 175 = .ok (.aload_n 0, 1) := by decide +kernel
theorem dX4_count_176 : decode cX4_count 176 = .ok (.getfield 29, 3) := by decide +kernel
theorem dX4_count_179 : decode cX4_count 179 = .ok (.ireturn, 1) := by decide +kernel
theorem dX4_count_180 : decode cX4_count 180 = .ok (.aload_n 0, 1) := by decide +kernel
theorem dX4_count_181 : decode cX4_count 181 = .ok (.getfield 10, 3) := by decide +kernel
theorem dX4_count_184 : decode cX4_count 184 = .ok (.invokevirtual 37, 3) := by decide +kernel
theorem dX4_count_187 : decode cX4_count 187 = .ok (.ireturn, 1) := by decide +kernel
theorem dX4_count_188 : decode cX4_count 188 = .ok (.aload_n 0, 1) := by decide +kernel
theorem dX4_count_189 : decode cX4_count 189 = .ok (.getfield 19, 3) := by decide +kernel
theorem dX4_count_192 : decode cX4_count 192 = .ok (.invokevirtual 159, 3) := by decide +kernel
theorem dX4_count_195 : decode cX4_count 195 = .ok (.ireturn, 1) := by decide +kernel
theorem dX4_count_196 : decode cX4_count 196 = .ok (.iconst (-1), 1) := by decide +kernel
theorem dX4_count_197 : decode cX4_count 197 = .ok (.ireturn, 1) := by decide +kernel
theorem dX4_isByte_0 : decode cX4_isByte 0 = .ok (.iload_n 0, 1) := by decide +kernel
theorem dX4_isByte_1 : decode cX4_isByte 1 = .ok (.ifCond .lt 14, 3) := by decide +kernel
theorem dX4_isByte_4 : decode cX4_isByte 4 = .ok (.iload_n 0, 1) := by decide +kernel
theorem dX4_isByte_5 : decode cX4_isByte 5 = .ok (.sipush 255, 3) := by decide +kernel
theorem dX4_isByte_8 : decode cX4_isByte 8 = .ok (.if_icmp .gt 7, 3) := by decide +kernel
theorem dX4_isByte_11 : decode cX4_isByte 11 = .ok (.iconst 1, 1) := by decide +kernel
theorem dX4_isByte_12 : decode cX4_isByte 12 = .ok (.goto 4, 3) := by decide +kernel
theorem dX4_isByte_15 : decode cX4_isByte 15 = .ok (.iconst 0, 1) := by decide +kernel
theorem dX4_isByte_16 : decode cX4_isByte 16 = .ok (.ireturn, 1) := by decide +kernel
theorem dX4_remainder_0 : decode cX4_remainder 0 = .ok (.iload_n 1, 1) := by decide +kernel
theorem dX4_remainder_1 : decode cX4_remainder 1 = .ok (.ifCond .le 9, 3) := by decide +kernel
theorem dX4_remainder_4 : decode cX4_remainder 4 = .ok (.iload_n 0, 1) := by decide +kernel
theorem dX4_remainder_5 : decode cX4_remainder 5 = .ok (.iload_n 1, 1) := by decide +kernel
theorem dX4_remainder_6 : decode cX4_remainder 6 = .ok (.irem, 1) := by decide +kernel
theorem dX4_remainder_7 : decode cX4_remainder 7 = .ok (.goto 4, 3) := by decide +kernel
theorem dX4_remainder_10 : decode cX4_remainder 10 = .ok (.iconst 0, 1) := by decide +kernel
theorem dX4_remainder_11 : decode cX4_remainder 11 = .ok (.ireturn, 1) := by decide +kernel
theorem dX4_quotient_0 : decode cX4_quotient 0 = .ok (.iload_n 1, 1) := by decide +kernel
theorem dX4_quotient_1 : decode cX4_quotient 1 = .ok (.ifCond .le 9, 3) := by decide +kernel
theorem dX4_quotient_4 : decode cX4_quotient 4 = .ok (.iload_n 0, 1) := by decide +kernel
theorem dX4_quotient_5 : decode cX4_quotient 5 = .ok (.iload_n 1, 1) := by decide +kernel
theorem dX4_quotient_6 : decode cX4_quotient 6 = .ok (.idiv, 1) := by decide +kernel
theorem dX4_quotient_7 : decode cX4_quotient 7 = .ok (.goto 4, 3) := by decide +kernel
theorem dX4_quotient_10 : decode cX4_quotient 10 = .ok (.iconst 0, 1) := by decide +kernel
theorem dX4_quotient_11 : decode cX4_quotient 11 = .ok (.ireturn, 1) := by decide +kernel
theorem dX4_lastKept_0 : decode cX4_lastKept 0 = .ok (.aload_n 0, 1) := by decide +kernel
theorem dX4_lastKept_1 : decode cX4_lastKept 1 = .ok (.getfield 29, 3) := by decide +kernel
theorem dX4_lastKept_4 : decode cX4_lastKept 4 = .ok (.iconst 2, 1) := by decide +kernel
theorem dX4_lastKept_5 : decode cX4_lastKept 5 = .ok (.if_icmp .lt 10, 3) := by decide +kernel
theorem dX4_lastKept_8 : decode cX4_lastKept 8 = .ok (.aload_n 0, 1) := by decide +kernel
theorem dX4_lastKept_9 : decode cX4_lastKept 9 = .ok (.getfield 26, 3) := by decide +kernel
theorem dX4_lastKept_12 : decode cX4_lastKept 12 = .ok (.goto 7, 3) := by decide +kernel
theorem dX4_lastKept_15 : decode cX4_lastKept 15 = .ok (.aload_n 0, 1) := by decide +kernel
theorem dX4_lastKept_16 : decode cX4_lastKept 16 = .ok (.getfield 23, 3) := by decide +kernel
theorem dX4_lastKept_19 : decode cX4_lastKept 19 = .ok (.areturn, 1) := by decide +kernel
theorem dX4_closeBehind_0 : decode cX4_closeBehind 0 = .ok (.iload_n 1, 1) := by decide +kernel
theorem dX4_closeBehind_1 : decode cX4_closeBehind 1 = .ok (.istore 4, 2) := by decide +kernel
theorem dX4_closeBehind_3 : decode cX4_closeBehind 3 = .ok (.iconst 0, 1) := by decide +kernel
theorem dX4_closeBehind_4 : decode cX4_closeBehind 4 = .ok (.istore 5, 2) := by decide +kernel
theorem dX4_closeBehind_6 : decode cX4_closeBehind 6 = .ok (.iload 5, 2) := by decide +kernel
theorem dX4_closeBehind_8 : decode cX4_closeBehind 8 = .ok (.iload_n 3, 1) := by decide +kernel
theorem dX4_closeBehind_9 : decode cX4_closeBehind 9 = .ok (.if_icmp .ge 26, 3) := by decide +kernel
theorem dX4_closeBehind_12 : decode cX4_closeBehind 12 = .ok (.aload_n 0, 1) := by decide +kernel
theorem dX4_closeBehind_13 : decode cX4_closeBehind 13 = .ok (.getfield 19, 3) := by decide +kernel
theorem dX4_closeBehind_16 : decode cX4_closeBehind 16 = .ok (.iload_n 2, 1) := by decide +kernel
theorem dX4_closeBehind_17 : decode cX4_closeBehind 17 = .ok (.iload 5, 2) := by decide +kernel
theorem dX4_closeBehind_19 : decode cX4_closeBehind 19 = .ok (.iadd, 1) := by decide +kernel
theorem dX4_closeBehind_20 : decode cX4_closeBehind 20 = .ok (.sipush 255, 3) := by decide +kernel
theorem dX4_closeBehind_23 : decode cX4_closeBehind 23 = .ok (.iand, 1) := by decide +kernel
theorem dX4_closeBehind_24 : decode cX4_closeBehind 24 = .ok (.invokevirtual 77, 3) := by decide +kernel
theorem dX4_closeBehind_27 : decode cX4_closeBehind 27 = .ok (.istore 4, 2) := by decide +kernel
theorem dX4_closeBehind_29 : decode cX4_closeBehind 29 = .ok (.iinc 5 1, 3) := by decide +kernel
theorem dX4_closeBehind_32 : decode cX4_closeBehind 32 = .ok (.goto (-26), 3) := by decide +kernel
theorem dX4_closeBehind_35 : decode cX4_closeBehind 35 = .ok (.aload_n 0, 1) := by decide +kernel
theorem dX4_closeBehind_36 : decode cX4_closeBehind 36 = .ok (.getfield 19, 3) := by decide +kernel
theorem dX4_closeBehind_39 : decode cX4_closeBehind 39 = .ok (.invokevirtual 81, 3) := by decide +kernel
theorem dX4_closeBehind_42 : decode cX4_closeBehind 42 = .ok (.iload 4, 2) := by decide +kernel
theorem dX4_closeBehind_44 : decode cX4_closeBehind 44 = .ok (.ireturn, 1) := by decide +kernel
theorem dX5_init_0 : decode cX5_init 0 = .ok (.aload_n 0, 1) := by decide +kernel
theorem dX5_init_1 : decode cX5_init 1 = .ok (.invokespecial 1, 3) := by decide +kernel
theorem dX5_init_4 : decode cX5_init 4 = .ok (.aload_n 0, 1) := by decide +kernel
theorem dX5_init_5 : decode cX5_init 5 = .ok (.sipush 200, 3) := by decide +kernel
theorem dX5_init_8 : decode cX5_init 8 = .ok (.newarray .int, 2) := by decide +kernel
theorem dX5_init_10 : decode cX5_init 10 = .ok (.putfield 7, 3) := by decide +kernel
theorem dX5_init_13 : decode cX5_init 13 = .ok (.aload_n 0, 1) := by decide +kernel
theorem dX5_init_14 : decode cX5_init 14 = .ok (.iconst 5, 1) := by decide +kernel
theorem dX5_init_15 : decode cX5_init 15 = .ok (.newarray .int, 2) := by decide +kernel
theorem dX5_init_17 : decode cX5_init 17 = .ok (.putfield 13, 3) := by decide +kernel
theorem dX5_init_20 : decode cX5_init 20 = .ok (.aload_n 0, 1) := by decide +kernel
theorem dX5_init_21 : decode cX5_init 21 = .ok (.iconst 5, 1) := by decide +kernel
theorem dX5_init_22 : decode cX5_init 22 = .ok (.newarray .int, 2) := by decide +kernel
theorem dX5_init_24 : decode cX5_init 24 = .ok (.putfield 16, 3) := by decide +kernel
theorem dX5_init_27 : decode cX5_init 27 = .ok (.aload_n 0, 1) := by decide +kernel
theorem dX5_init_28 : decode cX5_init 28 = .ok (.sipush 306, 3) := by decide +kernel
theorem dX5_init_31 : decode cX5_init 31 = .ok (.newarray .int, 2) := by decide +kernel
theorem dX5_init_33 : decode cX5_init 33 = .ok (.putfield 19, 3) := by decide +kernel
theorem dX5_init_36 : decode cX5_init 36 = .ok (.aload_n 0, 1) := by decide +kernel
theorem dX5_init_37 : decode cX5_init 37 = .ok (.sipush 612, 3) := by decide +kernel
theorem dX5_init_40 : decode cX5_init 40 = .ok (.newarray .int, 2) := by decide +kernel
theorem dX5_init_42 : decode cX5_init 42 = .ok (.putfield 22, 3) := by decide +kernel
theorem dX5_init_45 : decode cX5_init 45 = .ok (.aload_n 0, 1) := by decide +kernel
theorem dX5_init_46 : decode cX5_init 46 = .ok (.getfield 13, 3) := by decide +kernel
theorem dX5_init_49 : decode cX5_init 49 = .ok (.invokestatic 25, 3) := by decide +kernel
theorem dX5_init_52 : decode cX5_init 52 = .ok (.aload_n 0, 1) := by decide +kernel
theorem dX5_init_53 : decode cX5_init 53 = .ok (.invokevirtual 29, 3) := by decide +kernel
theorem dX5_init_56 : decode cX5_init 56 = .ok (.return_, 1) := by decide +kernel
theorem dX5_plain_0 : decode cX5_plain 0 = .ok (.aload_n 0, 1) := by decide +kernel
theorem dX5_plain_1 : decode cX5_plain 1 = .ok (.iconst 0, 1) := by decide +kernel
theorem dX5_plain_2 : decode cX5_plain 2 = .ok (.bipush 8, 2) := by decide +kernel
theorem dX5_plain_4 : decode cX5_plain 4 = .ok (.iastore, 1) := by decide +kernel
theorem dX5_plain_5 : decode cX5_plain 5 = .ok (.aload_n 0, 1) := by decide +kernel
theorem dX5_plain_6 : decode cX5_plain 6 = .ok (.iconst 1, 1) := by decide +kernel
theorem dX5_plain_7 : decode cX5_plain 7 = .ok (.iconst 4, 1) := by decide +kernel
theorem dX5_plain_8 : decode cX5_plain 8 = .ok (.iastore, 1) := by decide +kernel
theorem dX5_plain_9 : decode cX5_plain 9 = .ok (.aload_n 0, 1) := by decide +kernel
theorem dX5_plain_10 : decode cX5_plain 10 = .ok (.iconst 2, 1) := by decide +kernel
theorem dX5_plain_11 : decode cX5_plain 11 = .ok (.bipush 8, 2) := by decide +kernel
theorem dX5_plain_13 : decode cX5_plain 13 = .ok (.iastore, 1) := by decide +kernel
theorem dX5_plain_14 : decode cX5_plain 14 = .ok (.aload_n 0, 1) := by decide +kernel
theorem dX5_plain_15 : decode cX5_plain 15 = .ok (.iconst 3, 1) := by decide +kernel
theorem dX5_plain_16 : decode cX5_plain 16 = .ok (.iconst 2, 1) := by decide +kernel
theorem dX5_plain_17 : decode cX5_plain 17 = .ok (.iastore, 1) := by decide +kernel
theorem dX5_plain_18 : decode cX5_plain 18 = .ok (.aload_n 0, 1) := by decide +kernel
theorem dX5_plain_19 : decode cX5_plain 19 = .ok (.iconst 4, 1) := by decide +kernel
theorem dX5_plain_20 : decode cX5_plain 20 = .ok (.iconst 5, 1) := by decide +kernel
theorem dX5_plain_21 : decode cX5_plain 21 = .ok (.iastore, 1) := by decide +kernel
theorem dX5_plain_22 : decode cX5_plain 22 = .ok (.return_, 1) := by decide +kernel
theorem dX5_anew_0 : decode cX5_anew 0 = .ok (.iconst 0, 1) := by decide +kernel
theorem dX5_anew_1 : decode cX5_anew 1 = .ok (.istore_n 1, 1) := by decide +kernel
theorem dX5_anew_2 : decode cX5_anew 2 = .ok (.iload_n 1, 1) := by decide +kernel
theorem dX5_anew_3 : decode cX5_anew 3 = .ok (.sipush 306, 3) := by decide +kernel
theorem dX5_anew_6 : decode cX5_anew 6 = .ok (.if_icmp .ge 29, 3) := by decide +kernel
theorem dX5_anew_9 : decode cX5_anew 9 = .ok (.aload_n 0, 1) := by decide +kernel
theorem dX5_anew_10 : decode cX5_anew 10 = .ok (.getfield 19, 3) := by decide +kernel
theorem dX5_anew_13 : decode cX5_anew 13 = .ok (.iload_n 1, 1) := by decide +kernel
theorem dX5_anew_14 : decode cX5_anew 14 = .ok (.iload_n 1, 1) := by decide +kernel
theorem dX5_anew_15 : decode cX5_anew 15 = .ok (.sipush 256, 3) := by decide +kernel
theorem dX5_anew_18 : decode cX5_anew 18 = .ok (.if_icmp .ge 9, 3) := by decide +kernel
theorem dX5_anew_21 : decode cX5_anew 21 = .ok (.sipush 255, 3) := by decide +kernel
theorem dX5_anew_24 : decode cX5_anew 24 = .ok (.goto 4, 3) := by decide +kernel
theorem dX5_anew_27 : decode cX5_anew 27 = .ok (.iconst 0, 1) := by decide +kernel
theorem dX5_anew_28 : decode cX5_anew 28 = .ok (.iastore, 1) := by decide +kernel
theorem dX5_anew_29 : decode cX5_anew 29 = .ok (.iinc 1 1, 3) := by decide +kernel
theorem dX5_anew_32 : decode cX5_anew 32 = .ok (.goto (-30), 3) := by decide +kernel
theorem dX5_anew_35 : decode cX5_anew 35 = .ok (.aload_n 0, 1) := by decide +kernel
theorem dX5_anew_36 : decode cX5_anew 36 = .ok (.iconst 0, 1) := by decide +kernel
theorem dX5_anew_37 : decode cX5_anew 37 = .ok (.putfield 32, 3) := by decide +kernel
theorem dX5_anew_40 : decode cX5_anew 40 = .ok (.return_, 1) := by decide +kernel
theorem dX5_in_0 : decode cX5_in 0 = .ok (.lload_n 0, 1) := by decide +kernel
theorem dX5_in_1 : decode cX5_in 1 = .ok (.lload_n 2, 1) := by decide +kernel
theorem dX5_in_2 : decode cX5_in 2 = .ok (.lcmp, 1) := by decide +kernel
theorem dX5_in_3 : decode cX5_in 3 = .ok (.ifCond .lt 14, 3) := by decide +kernel
theorem dX5_in_6 : decode cX5_in 6 = .ok (.lload_n 0, 1) := by decide +kernel
theorem dX5_in_7 : decode cX5_in 7 = .ok (.lload 4, 2) := by decide +kernel
theorem dX5_in_9 : decode cX5_in 9 = .ok (.lcmp, 1) := by decide +kernel
theorem dX5_in_10 : decode cX5_in 10 = .ok (.ifCond .gt 7, 3) := by decide +kernel
theorem dX5_in_13 : decode cX5_in 13 = .ok (.iconst 1, 1) := by decide +kernel
theorem dX5_in_14 : decode cX5_in 14 = .ok (.goto 4, 3) := by decide +kernel
theorem dX5_in_17 : decode cX5_in 17 = .ok (.iconst 0, 1) := by decide +kernel
theorem dX5_in_18 : decode cX5_in 18 = .ok (.ireturn, 1) := by decide +kernel
theorem dX5_write_0 : decode cX5_write 0 = .ok (.iload_n 1, 1) := by decide +kernel
theorem dX5_write_1 : decode cX5_write 1 = .ok (.i2l, 1) := by decide +kernel
theorem dX5_write_2 : decode cX5_write 2 = .ok (.ldc2_w 36, 3) := by decide +kernel
theorem dX5_write_5 : decode cX5_write 5 = .ok (.ldc2_w 38, 3) := by decide +kernel
theorem dX5_write_8 : decode cX5_write 8 = .ok (.invokestatic 40, 3) := by decide +kernel
theorem dX5_write_11 : decode cX5_write 11 = .ok (.ifCond .ne 5, 3) := by decide +kernel
theorem dX5_write_14 : decode cX5_write 14 = .ok (.iconst (-1), 1) := by decide +kernel
theorem dX5_write_15 : decode cX5_write 15 = .ok (.ireturn, 1) := by decide +kernel
theorem dX5_write_16 : decode cX5_write 16 = .ok (.aload_n 0, 1) := by decide +kernel
theorem dX5_write_17 : decode cX5_write 17 = .ok (.getfield 44, 3) := by decide +kernel
theorem dX5_write_20 : decode cX5_write 20 = .ok (.sipush 200, 3) := by decide +kernel
theorem dX5_write_23 : decode cX5_write 23 = .ok (.if_icmp .ne 6, 3) := by decide +kernel
theorem dX5_write_26 : decode cX5_write 26 = .ok (.bipush (-3), 2) := by decide +kernel
theorem dX5_write_28 : decode cX5_write 28 = .ok (.ireturn, 1) := by decide +kernel
theorem dX5_write_29 : decode cX5_write 29 = .ok (.aload_n 0, 1) := by decide +kernel
theorem dX5_write_30 : decode cX5_write 30 = .ok (.getfield 7, 3) := by decide +kernel
theorem dX5_write_33 : decode cX5_write 33 = .ok (.aload_n 0, 1) := by decide +kernel
theorem dX5_write_34 : decode cX5_write 34 = .ok (.getfield 44, 3) := by decide +kernel
theorem dX5_write_37 : decode cX5_write 37 = .ok (.iload_n 1, 1) := by decide +kernel
theorem dX5_write_38 : decode cX5_write 38 = .ok (.iastore, 1) := by decide +kernel
theorem dX5_write_39 : decode cX5_write 39 = .ok (.aload_n 0, 1) := by decide +kernel
theorem dX5_write_40 : decode cX5_write 40 = .ok (.dup, 1) := by decide +kernel
theorem dX5_write_41 : decode cX5_write 41 = .ok (.getfield 44, 3) := by decide +kernel
theorem dX5_write_44 : decode cX5_write 44 = .ok (.iconst 1, 1) := by decide +kernel
theorem dX5_write_45 : decode cX5_write 45 = .ok (.iadd, 1) := by decide +kernel
theorem dX5_write_46 : decode cX5_write 46 = .ok (.putfield 44, 3) := by decide +kernel
theorem dX5_write_49 : decode cX5_write 49 = .ok (.aload_n 0, 1) := by decide +kernel
theorem dX5_write_50 : decode cX5_write 50 = .ok (.getfield 44, 3) := by decide +kernel
theorem dX5_write_53 : decode cX5_write 53 = .ok (.ireturn, 1) := by decide +kernel
theorem dX5_wipe_0 : decode cX5_wipe 0 = .ok (.aload_n 0, 1) := by decide +kernel
theorem dX5_wipe_1 : decode cX5_wipe 1 = .ok (.getfield 44, 3) := by decide +kernel
theorem dX5_wipe_4 : decode cX5_wipe 4 = .ok (.istore_n 1, 1) := by decide +kernel
theorem dX5_wipe_5 : decode cX5_wipe 5 = .ok (.aload_n 0, 1) := by decide +kernel
theorem dX5_wipe_6 : decode cX5_wipe 6 = .ok (.iconst 0, 1) := by decide +kernel
theorem dX5_wipe_7 : decode cX5_wipe 7 = .ok (.putfield 44, 3) := by decide +kernel
theorem dX5_wipe_10 : decode cX5_wipe 10 = .ok (.iload_n 1, 1) := by decide +kernel
theorem dX5_wipe_11 : decode cX5_wipe 11 = .ok (.ireturn, 1) := by decide +kernel
theorem dX5_byteAt_0 : decode cX5_byteAt 0 = .ok (.iload_n 1, 1) := by decide +kernel
theorem dX5_byteAt_1 : decode cX5_byteAt 1 = .ok (.aload_n 0, 1) := by decide +kernel
theorem dX5_byteAt_2 : decode cX5_byteAt 2 = .ok (.getfield 44, 3) := by decide +kernel
theorem dX5_byteAt_5 : decode cX5_byteAt 5 = .ok (.if_icmp .ge 12, 3) := by decide +kernel
theorem dX5_byteAt_8 : decode cX5_byteAt 8 = .ok (.aload_n 0, 1) := by decide +kernel
theorem dX5_byteAt_9 : decode cX5_byteAt 9 = .ok (.getfield 7, 3) := by decide +kernel
theorem dX5_byteAt_12 : decode cX5_byteAt 12 = .ok (.iload_n 1, 1) := by decide +kernel
theorem dX5_byteAt_13 : decode cX5_byteAt 13 = .ok (.iaload, 1) := by decide +kernel
theorem dX5_byteAt_14 : decode cX5_byteAt 14 = .ok (.goto 4, 3) := by decide +kernel
theorem dX5_byteAt_17 : decode cX5_byteAt 17 = .ok (.iconst 0, 1) := by decide +kernel
theorem dX5_byteAt_18 : decode cX5_byteAt 18 = .ok (.ireturn, 1) := by decide +kernel
theorem dX5_number_0 : decode cX5_number 0 = .ok (.iconst 0, 1) := by decide +kernel
theorem dX5_number_1 : decode cX5_number 1 = .ok (.istore_n 2, 1) := by decide +kernel
theorem dX5_number_2 : decode cX5_number 2 = .ok (.iconst 0, 1) := by decide +kernel
theorem dX5_number_3 : decode cX5_number 3 = .ok (.istore_n 3, 1) := by decide +kernel
theorem dX5_number_4 : decode cX5_number 4 = .ok (.iload_n 3, 1) := by decide +kernel
theorem dX5_number_5 : decode cX5_number 5 = .ok (.iconst 2, 1) := by decide +kernel
theorem dX5_number_6 : decode cX5_number 6 = .ok (.if_icmp .ge 57, 3) := by decide +kernel
theorem dX5_number_9 : decode cX5_number 9 = .ok (.aload_n 0, 1) := by decide +kernel
theorem dX5_number_10 : decode cX5_number 10 = .ok (.aload_n 0, 1) := by decide +kernel
theorem dX5_number_11 : decode cX5_number 11 = .ok (.getfield 47, 3) := by decide +kernel
theorem dX5_number_14 : decode cX5_number 14 = .ok (.invokevirtual 50, 3) := by decide +kernel
theorem dX5_number_17 : decode cX5_number 17 = .ok (.i2l, 1) := by decide +kernel
theorem dX5_number_18 : decode cX5_number 18 = .ok (.ldc2_w 54, 3) := by decide +kernel
theorem dX5_number_21 : decode cX5_number 21 = .ok (.ldc2_w 56, 3) := by decide +kernel
theorem dX5_number_24 : decode cX5_number 24 = .ok (.invokestatic 40, 3) := by decide +kernel
theorem dX5_number_27 : decode cX5_number 27 = .ok (.ifCond .eq 36, 3) := by decide +kernel
theorem dX5_number_30 : decode cX5_number 30 = .ok (.bipush 10, 2) := by decide +kernel
theorem dX5_number_32 : decode cX5_number 32 = .ok (.iload_n 2, 1) := by decide +kernel
theorem dX5_number_33 : decode cX5_number 33 = .ok (.imul, 1) := by decide +kernel
theorem dX5_number_34 : decode cX5_number 34 = .ok (.aload_n 0, 1) := by decide +kernel
theorem dX5_number_35 : decode cX5_number 35 = .ok (.aload_n 0, 1) := by decide +kernel
theorem dX5_number_36 : decode cX5_number 36 = .ok (.getfield 47, 3) := by decide +kernel
theorem dX5_number_39 : decode cX5_number 39 = .ok (.invokevirtual 50, 3) := by decide +kernel
theorem dX5_number_42 : decode cX5_number 42 = .ok (.iadd, 1) := by decide +kernel
theorem dX5_number_43 : decode cX5_number 43 = .ok (.bipush 48, 2) := by decide +kernel
theorem dX5_number_45 : decode cX5_number 45 = .ok (.isub, 1) := by decide +kernel
theorem dX5_number_46 : decode cX5_number 46 = .ok (.istore_n 2, 1) := by decide +kernel
theorem dX5_number_47 : decode cX5_number 47 = .ok (.aload_n 0, 1) := by decide +kernel
theorem dX5_number_48 : decode cX5_number 48 = .ok (.dup, 1) := by decide +kernel
theorem dX5_number_49 : decode cX5_number 49 = .ok (.getfield 47, 3) := by decide +kernel
theorem dX5_number_52 : decode cX5_number 52 = .ok (.iconst 1, 1) := by decide +kernel
theorem dX5_number_53 : decode cX5_number 53 = .ok (.iadd, 1) := by decide +kernel
theorem dX5_number_54 : decode cX5_number 54 = .ok (.putfield 47, 3) := by decide +kernel
theorem dX5_number_57 : decode cX5_number 57 = .ok (.iinc 3 1, 3) := by decide +kernel
theorem dX5_number_60 : decode cX5_number 60 = .ok (.goto (-56), 3) := by decide +kernel
theorem dX5_number_63 : decode cX5_number 63 = .ok (.iload_n 3, 1) := by decide +kernel
theorem dX5_number_64 : decode cX5_number 64 = .ok (.ifCond .le 19, 3) := by decide +kernel
theorem dX5_number_67 : decode cX5_number 67 = .ok (.aload_n 0, 1) := by decide +kernel
theorem dX5_number_68 : decode cX5_number 68 = .ok (.aload_n 0, 1) := by decide +kernel
theorem dX5_number_69 : decode cX5_number 69 = .ok (.getfield 47, 3) := by decide +kernel
theorem dX5_number_72 : decode cX5_number 72 = .ok (.invokevirtual 50, 3) := by decide +kernel
theorem dX5_number_75 : decode cX5_number 75 = .ok (.iload_n 1, 1) := by decide +kernel
theorem dX5_number_76 : decode cX5_number 76 = .ok (.if_icmp .ne 7, 3) := by decide +kernel
theorem dX5_number_79 : decode cX5_number 79 = .ok (.iconst 1, 1) := by decide +kernel
theorem dX5_number_80 : decode cX5_number 80 = .ok (.goto 4, 3) := by decide +kernel
theorem dX5_number_83 : decode cX5_number 83 = .ok (.iconst 0, 1) := by decide +kernel
theorem dX5_number_84 : decode cX5_number 84 = .ok (.istore 4, 2) := by decide +kernel
theorem dX5_number_86 : decode cX5_number 86 = .ok (.aload_n 0, 1) := by decide +kernel
theorem dX5_number_87 : decode cX5_number 87 = .ok (.dup, 1) := by decide +kernel
theorem dX5_number_88 : decode cX5_number 88 = .ok (.getfield 47, 3) := by decide +kernel
theorem dX5_number_91 : decode cX5_number 91 = .ok (.iconst 1, 1) := by decide +kernel
theorem dX5_number_92 : decode cX5_number 92 = .ok (.iadd, 1) := by decide +kernel
theorem dX5_number_93 : decode cX5_number 93 = .ok (.putfield 47, 3) := by decide +kernel
theorem dX5_number_96 : decode cX5_number 96 = .ok (.iload 4, 2) := by decide +kernel
theorem dX5_number_98 : decode cX5_number 98 = .ok (.ifCond .eq 7, 3) := by decide +kernel
theorem dX5_number_101 : decode cX5_number 101 = .ok (.iload_n 2, 1) := by decide +kernel
theorem dX5_number_102 : decode cX5_number 102 = .ok (.goto 4, 3) := by decide +kernel
theorem dX5_number_105 : decode cX5_number 105 = .ok (.iconst (-1), 1) := by decide +kernel
theorem dX5_number_106 : decode cX5_number 106 = .ok (.ireturn, 1) := by decide +kernel
theorem dX5_sumOf_0 : decode cX5_sumOf 0 = .ok (.aload_n 0, 1) := by decide +kernel
theorem dX5_sumOf_1 : decode cX5_sumOf 1 = .ok (.iconst 0, 1) := by decide +kernel
theorem dX5_sumOf_2 : decode cX5_sumOf 2 = .ok (.iaload, 1) := by decide +kernel
theorem dX5_sumOf_3 : decode cX5_sumOf 3 = .ok (.aload_n 0, 1) := by decide +kernel
theorem dX5_sumOf_4 : decode cX5_sumOf 4 = .ok (.iconst 1, 1) := by decide +kernel
theorem dX5_sumOf_5 : decode cX5_sumOf 5 = .ok (.iaload, 1) := by decide +kernel
theorem dX5_sumOf_6 : decode cX5_sumOf 6 = .ok (.iadd, 1) := by decide +kernel
theorem dX5_sumOf_7 : decode cX5_sumOf 7 = .ok (.aload_n 0, 1) := by decide +kernel
theorem dX5_sumOf_8 : decode cX5_sumOf 8 = .ok (.iconst 2, 1) := by decide +kernel
theorem dX5_sumOf_9 : decode cX5_sumOf 9 = .ok (.iaload, 1) := by decide +kernel
theorem dX5_sumOf_10 : decode cX5_sumOf 10 = .ok (.iadd, 1) := by decide +kernel
theorem dX5_sumOf_11 : decode cX5_sumOf 11 = .ok (.aload_n 0, 1) := by decide +kernel
theorem dX5_sumOf_12 : decode cX5_sumOf 12 = .ok (.iconst 3, 1) := by decide +kernel
theorem dX5_sumOf_13 : decode cX5_sumOf 13 = .ok (.iaload, 1) := by decide +kernel
theorem dX5_sumOf_14 : decode cX5_sumOf 14 = .ok (.iadd, 1) := by decide +kernel
theorem dX5_sumOf_15 : decode cX5_sumOf 15 = .ok (.aload_n 0, 1) := by decide +kernel
theorem dX5_sumOf_16 : decode cX5_sumOf 16 = .ok (.iconst 4, 1) := by decide +kernel
theorem dX5_sumOf_17 : decode cX5_sumOf 17 = .ok (.iaload, 1) := by decide +kernel
theorem dX5_sumOf_18 : decode cX5_sumOf 18 = .ok (.iadd, 1) := by decide +kernel
theorem dX5_sumOf_19 : decode cX5_sumOf 19 = .ok (.ireturn, 1) := by decide +kernel
theorem dX5_sizes_0 : decode cX5_sizes 0 = .ok (.aload_n 0, 1) := by decide +kernel
theorem dX5_sizes_1 : decode cX5_sizes 1 = .ok (.bipush 44, 2) := by decide +kernel
theorem dX5_sizes_3 : decode cX5_sizes 3 = .ok (.invokevirtual 58, 3) := by decide +kernel
theorem dX5_sizes_6 : decode cX5_sizes 6 = .ok (.istore_n 1, 1) := by decide +kernel
theorem dX5_sizes_7 : decode cX5_sizes 7 = .ok (.aload_n 0, 1) := by decide +kernel
theorem dX5_sizes_8 : decode cX5_sizes 8 = .ok (.bipush 44, 2) := by decide +kernel
theorem dX5_sizes_10 : decode cX5_sizes 10 = .ok (.invokevirtual 58, 3) := by decide +kernel
theorem dX5_sizes_13 : decode cX5_sizes 13 = .ok (.istore_n 2, 1) := by decide +kernel
theorem dX5_sizes_14 : decode cX5_sizes 14 = .ok (.aload_n 0, 1) := by decide +kernel
theorem dX5_sizes_15 : decode cX5_sizes 15 = .ok (.bipush 59, 2) := by decide +kernel
theorem dX5_sizes_17 : decode cX5_sizes 17 = .ok (.invokevirtual 58, 3) := by decide +kernel
theorem dX5_sizes_20 : decode cX5_sizes 20 = .ok (.istore_n 3, 1) := by decide +kernel
theorem dX5_sizes_21 : decode cX5_sizes 21 = .ok (.aload_n 0, 1) := by decide +kernel
theorem dX5_sizes_22 : decode cX5_sizes 22 = .ok (.getfield 16, 3) := by decide +kernel
theorem dX5_sizes_25 : decode cX5_sizes 25 = .ok (.iconst 0, 1) := by decide +kernel
theorem dX5_sizes_26 : decode cX5_sizes 26 = .ok (.iload_n 1, 1) := by decide +kernel
theorem dX5_sizes_27 : decode cX5_sizes 27 = .ok (.iastore, 1) := by decide +kernel
theorem dX5_sizes_28 : decode cX5_sizes 28 = .ok (.aload_n 0, 1) := by decide +kernel
theorem dX5_sizes_29 : decode cX5_sizes 29 = .ok (.getfield 16, 3) := by decide +kernel
theorem dX5_sizes_32 : decode cX5_sizes 32 = .ok (.iconst 1, 1) := by decide +kernel
theorem dX5_sizes_33 : decode cX5_sizes 33 = .ok (.iload_n 2, 1) := by decide +kernel
theorem dX5_sizes_34 : decode cX5_sizes 34 = .ok (.iastore, 1) := by decide +kernel
theorem dX5_sizes_35 : decode cX5_sizes 35 = .ok (.aload_n 0, 1) := by decide +kernel
theorem dX5_sizes_36 : decode cX5_sizes 36 = .ok (.getfield 16, 3) := by decide +kernel
theorem dX5_sizes_39 : decode cX5_sizes 39 = .ok (.iconst 2, 1) := by decide +kernel
theorem dX5_sizes_40 : decode cX5_sizes 40 = .ok (.iload_n 3, 1) := by decide +kernel
theorem dX5_sizes_41 : decode cX5_sizes 41 = .ok (.iastore, 1) := by decide +kernel
theorem dX5_sizes_42 : decode cX5_sizes 42 = .ok (.iload_n 1, 1) := by decide +kernel
theorem dX5_sizes_43 : decode cX5_sizes 43 = .ok (.iconst 4, 1) := by decide +kernel
theorem dX5_sizes_44 : decode cX5_sizes 44 = .ok (.if_icmp .eq 15, 3) := by decide +kernel
theorem dX5_sizes_47 : decode cX5_sizes 47 = .ok (.iload_n 1, 1) := by decide +kernel
theorem dX5_sizes_48 : decode cX5_sizes 48 = .ok (.bipush 8, 2) := by decide +kernel
theorem dX5_sizes_50 : decode cX5_sizes 50 = .ok (.if_icmp .eq 9, 3) := by decide +kernel
theorem dX5_sizes_53 : decode cX5_sizes 53 = .ok (.iload_n 1, 1) := by decide +kernel
theorem dX5_sizes_54 : decode cX5_sizes 54 = .ok (.bipush 16, 2) := by decide +kernel
theorem dX5_sizes_56 : decode cX5_sizes 56 = .ok (.if_icmp .ne 48, 3) := by decide +kernel
theorem dX5_sizes_59 : decode cX5_sizes 59 = .ok (.iload_n 2, 1) := by decide +kernel
theorem dX5_sizes_60 : decode cX5_sizes 60 = .ok (.iconst 2, 1) := by decide +kernel
theorem dX5_sizes_61 : decode cX5_sizes 61 = .ok (.if_icmp .eq 14, 3) := by decide +kernel
theorem dX5_sizes_64 : decode cX5_sizes 64 = .ok (.iload_n 2, 1) := by decide +kernel
theorem dX5_sizes_65 : decode cX5_sizes 65 = .ok (.iconst 4, 1) := by decide +kernel
theorem dX5_sizes_66 : decode cX5_sizes 66 = .ok (.if_icmp .eq 9, 3) := by decide +kernel
theorem dX5_sizes_69 : decode cX5_sizes 69 = .ok (.iload_n 2, 1) := by decide +kernel
theorem dX5_sizes_70 : decode cX5_sizes 70 = .ok (.bipush 8, 2) := by decide +kernel
theorem dX5_sizes_72 : decode cX5_sizes 72 = .ok (.if_icmp .ne 32, 3) := by decide +kernel
theorem dX5_sizes_75 : decode cX5_sizes 75 = .ok (.iload_n 3, 1) := by decide +kernel
theorem dX5_sizes_76 : decode cX5_sizes 76 = .ok (.i2l, 1) := by decide +kernel
theorem dX5_sizes_77 : decode cX5_sizes 77 = .ok (.ldc2_w 61, 3) := by decide +kernel
theorem dX5_sizes_80 : decode cX5_sizes 80 = .ok (.ldc2_w 63, 3) := by decide +kernel
theorem dX5_sizes_83 : decode cX5_sizes 83 = .ok (.invokestatic 40, 3) := by decide +kernel
theorem dX5_sizes_86 : decode cX5_sizes 86 = .ok (.ifCond .eq 18, 3) := by decide +kernel
theorem dX5_sizes_89 : decode cX5_sizes 89 = .ok (.iload_n 1, 1) := by decide +kernel
theorem dX5_sizes_90 : decode cX5_sizes 90 = .ok (.iload_n 2, 1) := by decide +kernel
theorem dX5_sizes_91 : decode cX5_sizes 91 = .ok (.imul, 1) := by decide +kernel
theorem dX5_sizes_92 : decode cX5_sizes 92 = .ok (.iload_n 3, 1) := by decide +kernel
theorem dX5_sizes_93 : decode cX5_sizes 93 = .ok (.imul, 1) := by decide +kernel
theorem dX5_sizes_94 : decode cX5_sizes 94 = .ok (.sipush 256, 3) := by decide +kernel
theorem dX5_sizes_97 : decode cX5_sizes 97 = .ok (.if_icmp .gt 7, 3) := by decide +kernel
theorem dX5_sizes_100 : decode cX5_sizes 100 = .ok (.iconst 1, 1) := by decide +kernel
theorem dX5_sizes_101 : decode cX5_sizes 101 = .ok (.goto 4, 3) := by decide +kernel
theorem dX5_sizes_104 : decode cX5_sizes 104 = .ok (.iconst 0, 1) := by decide +kernel
theorem dX5_sizes_105 : decode cX5_sizes 105 = .ok (.ireturn, 1) := by decide +kernel
theorem dX5_item_0 : decode cX5_item 0 = .ok (.aload_n 0, 1) := by decide +kernel
theorem dX5_item_1 : decode cX5_item 1 = .ok (.getfield 65, 3) := by decide +kernel
theorem dX5_item_4 : decode cX5_item 4 = .ok (.ifCond .eq 5, 3) := by decide +kernel
theorem dX5_item_7 : decode cX5_item 7 = .ok (.iconst 0, 1) := by decide +kernel
theorem dX5_item_8 : decode cX5_item 8 = .ok (.ireturn, 1) := by decide +kernel
theorem dX5_item_9 : decode cX5_item 9 = .ok (.iload_n 1, 1) := by decide +kernel
theorem dX5_item_10 : decode cX5_item 10 = .ok (.lookupswitch 133 #[(99, 103), (103, 34), (116, 39)], 34) := by decide +kernel
theorem dX5_item_44 : decode cX5_item 44 = .ok (.aload_n 0, 1) := by decide +kernel
theorem dX5_item_45 : decode cX5_item 45 = .ok (.invokevirtual 69, 3) := by decide +kernel
theorem dX5_item_48 : decode cX5_item 48 = .ok (.ireturn, 1) := by decide +kernel
theorem dX5_item_49 : decode cX5_item 49 = .ok (.aload_n 0, 1) := by decide +kernel
theorem dX5_item_50 : decode cX5_item 50 = .ok (.getfield 16, 3) := by decide +kernel
theorem dX5_item_53 : decode cX5_item 53 = .ok (.iconst 3, 1) := by decide +kernel
theorem dX5_item_54 : decode cX5_item 54 = .ok (.aload_n 0, 1) := by decide +kernel
theorem dX5_item_55 : decode cX5_item 55 = .ok (.bipush 44, 2) := by decide +kernel
theorem dX5_item_57 : decode cX5_item 57 = .ok (.invokevirtual 58, 3) := by decide +kernel
theorem dX5_item_60 : decode cX5_item 60 = .ok (.iastore, 1) := by decide +kernel
theorem dX5_item_61 : decode cX5_item 61 = .ok (.aload_n 0, 1) := by decide +kernel
theorem dX5_item_62 : decode cX5_item 62 = .ok (.getfield 16, 3) := by decide +kernel
theorem dX5_item_65 : decode cX5_item 65 = .ok (.iconst 4, 1) := by decide +kernel
theorem dX5_item_66 : decode cX5_item 66 = .ok (.aload_n 0, 1) := by decide +kernel
theorem dX5_item_67 : decode cX5_item 67 = .ok (.bipush 59, 2) := by decide +kernel
theorem dX5_item_69 : decode cX5_item 69 = .ok (.invokevirtual 58, 3) := by decide +kernel
theorem dX5_item_72 : decode cX5_item 72 = .ok (.iastore, 1) := by decide +kernel
theorem dX5_item_73 : decode cX5_item 73 = .ok (.aload_n 0, 1) := by decide +kernel
theorem dX5_item_74 : decode cX5_item 74 = .ok (.getfield 16, 3) := by decide +kernel
theorem dX5_item_77 : decode cX5_item 77 = .ok (.iconst 3, 1) := by decide +kernel
theorem dX5_item_78 : decode cX5_item 78 = .ok (.iaload, 1) := by decide +kernel
theorem dX5_item_79 : decode cX5_item 79 = .ok (.i2l, 1) := by decide +kernel
theorem dX5_item_80 : decode cX5_item 80 = .ok (.lconst 1, 1) := by decide +kernel
theorem dX5_item_81 : decode cX5_item 81 = .ok (.ldc2_w 73, 3) := by decide +kernel
theorem dX5_item_84 : decode cX5_item 84 = .ok (.invokestatic 40, 3) := by decide +kernel
theorem dX5_item_87 : decode cX5_item 87 = .ok (.ifCond .eq 24, 3) := by decide +kernel
theorem dX5_item_90 : decode cX5_item 90 = .ok (.aload_n 0, 1) := by decide +kernel
theorem dX5_item_91 : decode cX5_item 91 = .ok (.getfield 16, 3) := by decide +kernel
theorem dX5_item_94 : decode cX5_item 94 = .ok (.iconst 4, 1) := by decide +kernel
theorem dX5_item_95 : decode cX5_item 95 = .ok (.iaload, 1) := by decide +kernel
theorem dX5_item_96 : decode cX5_item 96 = .ok (.i2l, 1) := by decide +kernel
theorem dX5_item_97 : decode cX5_item 97 = .ok (.lconst 1, 1) := by decide +kernel
theorem dX5_item_98 : decode cX5_item 98 = .ok (.ldc2_w 75, 3) := by decide +kernel
theorem dX5_item_101 : decode cX5_item 101 = .ok (.invokestatic 40, 3) := by decide +kernel
theorem dX5_item_104 : decode cX5_item 104 = .ok (.ifCond .eq 7, 3) := by decide +kernel
theorem dX5_item_107 : decode cX5_item 107 = .ok (.iconst 1, 1) := by decide +kernel
theorem dX5_item_108 : decode cX5_item 108 = .ok (.goto 4, 3) := by decide +kernel
theorem dX5_item_111 : decode cX5_item 111 = .ok (.iconst 0, 1) := by decide +kernel
theorem dX5_item_112 : decode cX5_item 112 = .ok (.ireturn, 1) := by decide +kernel
theorem dX5_item_113 : decode cX5_item 113 = .ok (.aload_n 0, 1) := by decide +kernel
theorem dX5_item_114 : decode cX5_item 114 = .ok (.iconst 1, 1) := by decide +kernel
theorem dX5_item_115 : decode cX5_item 115 = .ok (.putfield 65, 3) := by decide +kernel
theorem dX5_item_118 : decode cX5_item 118 = .ok (.aload_n 0, 1) := by decide +kernel
theorem dX5_item_119 : decode cX5_item 119 = .ok (.bipush 59, 2) := by decide +kernel
theorem dX5_item_121 : decode cX5_item 121 = .ok (.invokevirtual 58, 3) := by decide +kernel
theorem dX5_item_124 : decode cX5_item 124 = .ok (.aload_n 0, 1) := by decide +kernel
theorem dX5_item_125 : decode cX5_item 125 = .ok (.getfield 16, 3) := by decide +kernel
theorem dX5_item_128 : decode cX5_item 128 = .ok (.invokestatic 77, 3) := by decide +kernel
theorem dX5_item_131 : decode cX5_item 131 = .ok (.bipush 97, 2) := by decide +kernel
theorem dX5_item_133 : decode cX5_item 133 = .ok (.irem, 1) := by decide +kernel
theorem dX5_item_134 : decode cX5_item 134 = .ok (.if_icmp .ne 7, 3) := by decide +kernel
theorem dX5_item_137 : decode cX5_item 137 = .ok (.iconst 1, 1) := by decide +kernel
theorem dX5_item_138 : decode cX5_item 138 = .ok (.goto 4, 3) := by decide +kernel
theorem dX5_item_141 : decode cX5_item 141 = .ok (.iconst 0, 1) := by decide +kernel
theorem dX5_item_142 : decode cX5_item 142 = .ok (.ireturn, 1) := by decide +kernel
theorem dX5_item_143 : decode cX5_item 143 = .ok (.iconst 0, 1) := by decide +kernel
theorem dX5_item_144 : decode cX5_item 144 = .ok (.ireturn, 1) := by decide +kernel
theorem dX5_fault_0 : decode cX5_fault 0 = .ok (.aload_n 0, 1) := by decide +kernel
theorem dX5_fault_1 : decode cX5_fault 1 = .ok (.getfield 16, 3) := by decide +kernel
theorem dX5_fault_4 : decode cX5_fault 4 = .ok (.invokestatic 25, 3) := by decide +kernel
theorem dX5_fault_7 : decode cX5_fault 7 = .ok (.aload_n 0, 1) := by decide +kernel
theorem dX5_fault_8 : decode cX5_fault 8 = .ok (.iconst 0, 1) := by decide +kernel
theorem dX5_fault_9 : decode cX5_fault 9 = .ok (.putfield 65, 3) := by decide +kernel
theorem dX5_fault_12 : decode cX5_fault 12 = .ok (.aload_n 0, 1) := by decide +kernel
theorem dX5_fault_13 : decode cX5_fault 13 = .ok (.iconst 0, 1) := by decide +kernel
theorem dX5_fault_14 : decode cX5_fault 14 = .ok (.putfield 47, 3) := by decide +kernel
theorem dX5_fault_17 : decode cX5_fault 17 = .ok (.aload_n 0, 1) := by decide +kernel
theorem dX5_fault_18 : decode cX5_fault 18 = .ok (.getfield 47, 3) := by decide +kernel
theorem dX5_fault_21 : decode cX5_fault 21 = .ok (.aload_n 0, 1) := by decide +kernel
theorem dX5_fault_22 : decode cX5_fault 22 = .ok (.getfield 44, 3) := by decide +kernel
theorem dX5_fault_25 : decode cX5_fault 25 = .ok (.if_icmp .ge 36, 3) := by decide +kernel
theorem dX5_fault_28 : decode cX5_fault 28 = .ok (.aload_n 0, 1) := by decide +kernel
theorem dX5_fault_29 : decode cX5_fault 29 = .ok (.getfield 47, 3) := by decide +kernel
theorem dX5_fault_32 : decode cX5_fault 32 = .ok (.istore_n 1, 1) := by decide +kernel
theorem dX5_fault_33 : decode cX5_fault 33 = .ok (.aload_n 0, 1) := by decide +kernel
theorem dX5_fault_34 : decode cX5_fault 34 = .ok (.dup, 1) := by decide +kernel
theorem dX5_fault_35 : decode cX5_fault 35 = .ok (.getfield 47, 3) := by decide +kernel
theorem dX5_fault_38 : decode cX5_fault 38 = .ok (.iconst 1, 1) := by decide +kernel
theorem dX5_fault_39 : decode cX5_fault 39 = .ok (.iadd, 1) := by decide +kernel
theorem dX5_fault_40 : decode cX5_fault 40 = .ok (.putfield 47, 3) := by decide +kernel
theorem dX5_fault_43 : decode cX5_fault 43 = .ok (.aload_n 0, 1) := by decide +kernel
theorem dX5_fault_44 : decode cX5_fault 44 = .ok (.aload_n 0, 1) := by decide +kernel
theorem dX5_fault_45 : decode cX5_fault 45 = .ok (.getfield 7, 3) := by decide +kernel
theorem dX5_fault_48 : decode cX5_fault 48 = .ok (.iload_n 1, 1) := by decide +kernel
theorem dX5_fault_49 : decode cX5_fault 49 = .ok (.iaload, 1) := by decide +kernel
theorem dX5_fault_50 : decode cX5_fault 50 = .ok (.invokevirtual 81, 3) := by decide +kernel
theorem dX5_fault_53 : decode cX5_fault 53 = .ok (.ifCond .ne 5, 3) := by decide +kernel
theorem dX5_fault_56 : decode cX5_fault 56 = .ok (.iload_n 1, 1) := by decide +kernel
theorem dX5_fault_57 : decode cX5_fault 57 = .ok (.ireturn, 1) := by decide +kernel
theorem dX5_fault_58 : decode cX5_fault 58 = .ok (.goto (-41), 3) := by decide +kernel
theorem dX5_fault_61 : decode cX5_fault 61 = .ok (.bipush (-4), 2) := by decide +kernel
theorem dX5_fault_63 : decode cX5_fault 63 = .ok (.ireturn, 1) := by decide +kernel
theorem dX5_lay_0 : decode cX5_lay 0 = .ok (.aload_n 0, 1) := by decide +kernel
theorem dX5_lay_1 : decode cX5_lay 1 = .ok (.invokevirtual 85, 3) := by decide +kernel
theorem dX5_lay_4 : decode cX5_lay 4 = .ok (.bipush (-4), 2) := by decide +kernel
theorem dX5_lay_6 : decode cX5_lay 6 = .ok (.if_icmp .ne 10, 3) := by decide +kernel
theorem dX5_lay_9 : decode cX5_lay 9 = .ok (.aload_n 0, 1) := by decide +kernel
theorem dX5_lay_10 : decode cX5_lay 10 = .ok (.getfield 65, 3) := by decide +kernel
theorem dX5_lay_13 : decode cX5_lay 13 = .ok (.ifCond .ne 6, 3) := by decide +kernel
theorem dX5_lay_16 : decode cX5_lay 16 = .ok (.bipush (-2), 2) := by decide +kernel
theorem dX5_lay_18 : decode cX5_lay 18 = .ok (.ireturn, 1) := by decide +kernel
theorem dX5_lay_19 : decode cX5_lay 19 = .ok (.iconst 0, 1) := by decide +kernel
theorem dX5_lay_20 : decode cX5_lay 20 = .ok (.istore_n 1, 1) := by decide +kernel
theorem dX5_lay_21 : decode cX5_lay 21 = .ok (.iload_n 1, 1) := by decide +kernel
theorem dX5_lay_22 : decode cX5_lay 22 = .ok (.iconst 5, 1) := by decide +kernel
theorem dX5_lay_23 : decode cX5_lay 23 = .ok (.if_icmp .ge 21, 3) := by decide +kernel
theorem dX5_lay_26 : decode cX5_lay 26 = .ok (.aload_n 0, 1) := by decide +kernel
theorem dX5_lay_27 : decode cX5_lay 27 = .ok (.getfield 13, 3) := by decide +kernel
theorem dX5_lay_30 : decode cX5_lay 30 = .ok (.iload_n 1, 1) := by decide +kernel
theorem dX5_lay_31 : decode cX5_lay 31 = .ok (.aload_n 0, 1) := by decide +kernel
theorem dX5_lay_32 : decode cX5_lay 32 = .ok (.getfield 16, 3) := by decide +kernel
theorem dX5_lay_35 : decode cX5_lay 35 = .ok (.iload_n 1, 1) := by decide +kernel
theorem dX5_lay_36 : decode cX5_lay 36 = .ok (.iaload, 1) := by decide +kernel
theorem dX5_lay_37 : decode cX5_lay 37 = .ok (.iastore, 1) := by decide +kernel
theorem dX5_lay_38 : decode cX5_lay 38 = .ok (.iinc 1 1, 3) := by decide +kernel
theorem dX5_lay_41 : decode cX5_lay 41 = .ok (.goto (-20), 3) := by decide +kernel
theorem dX5_lay_44 : decode cX5_lay 44 = .ok (.aload_n 0, 1) := by decide +kernel
theorem dX5_lay_45 : decode cX5_lay 45 = .ok (.invokevirtual 29, 3) := by decide +kernel
theorem dX5_lay_48 : decode cX5_lay 48 = .ok (.aload_n 0, 1) := by decide +kernel
theorem dX5_lay_49 : decode cX5_lay 49 = .ok (.invokevirtual 89, 3) := by decide +kernel
theorem dX5_lay_52 : decode cX5_lay 52 = .ok (.ireturn, 1) := by decide +kernel
theorem dX5_all_0 : decode cX5_all 0 = .ok (.aload_n 0, 1) := by decide +kernel
theorem dX5_all_1 : decode cX5_all 1 = .ok (.getfield 13, 3) := by decide +kernel
theorem dX5_all_4 : decode cX5_all 4 = .ok (.iconst 0, 1) := by decide +kernel
theorem dX5_all_5 : decode cX5_all 5 = .ok (.iaload, 1) := by decide +kernel
theorem dX5_all_6 : decode cX5_all 6 = .ok (.aload_n 0, 1) := by decide +kernel
theorem dX5_all_7 : decode cX5_all 7 = .ok (.getfield 13, 3) := by decide +kernel
theorem dX5_all_10 : decode cX5_all 10 = .ok (.iconst 1, 1) := by decide +kernel
theorem dX5_all_11 : decode cX5_all 11 = .ok (.iaload, 1) := by decide +kernel
theorem dX5_all_12 : decode cX5_all 12 = .ok (.imul, 1) := by decide +kernel
theorem dX5_all_13 : decode cX5_all 13 = .ok (.aload_n 0, 1) := by decide +kernel
theorem dX5_all_14 : decode cX5_all 14 = .ok (.getfield 13, 3) := by decide +kernel
theorem dX5_all_17 : decode cX5_all 17 = .ok (.iconst 2, 1) := by decide +kernel
theorem dX5_all_18 : decode cX5_all 18 = .ok (.iaload, 1) := by decide +kernel
theorem dX5_all_19 : decode cX5_all 19 = .ok (.imul, 1) := by decide +kernel
theorem dX5_all_20 : decode cX5_all 20 = .ok (.ireturn, 1) := by decide +kernel
theorem dX5_sectorSize_0 : decode cX5_sectorSize 0 = .ok (.aload_n 0, 1) := by decide +kernel
theorem dX5_sectorSize_1 : decode cX5_sectorSize 1 = .ok (.getfield 13, 3) := by decide +kernel
theorem dX5_sectorSize_4 : decode cX5_sectorSize 4 = .ok (.iconst 0, 1) := by decide +kernel
theorem dX5_sectorSize_5 : decode cX5_sectorSize 5 = .ok (.iaload, 1) := by decide +kernel
theorem dX5_sectorSize_6 : decode cX5_sectorSize 6 = .ok (.aload_n 0, 1) := by decide +kernel
theorem dX5_sectorSize_7 : decode cX5_sectorSize 7 = .ok (.getfield 13, 3) := by decide +kernel
theorem dX5_sectorSize_10 : decode cX5_sectorSize 10 = .ok (.iconst 1, 1) := by decide +kernel
theorem dX5_sectorSize_11 : decode cX5_sectorSize 11 = .ok (.iaload, 1) := by decide +kernel
theorem dX5_sectorSize_12 : decode cX5_sectorSize 12 = .ok (.imul, 1) := by decide +kernel
theorem dX5_sectorSize_13 : decode cX5_sectorSize 13 = .ok (.ireturn, 1) := by decide +kernel
theorem dX5_isGuarded_0 : decode cX5_isGuarded 0 = .ok (.aload_n 0, 1) := by decide +kernel
theorem dX5_isGuarded_1 : decode cX5_isGuarded 1 = .ok (.getfield 19, 3) := by decide +kernel
theorem dX5_isGuarded_4 : decode cX5_isGuarded 4 = .ok (.sipush 288, 3) := by decide +kernel
theorem dX5_isGuarded_7 : decode cX5_isGuarded 7 = .ok (.iaload, 1) := by decide +kernel
theorem dX5_isGuarded_8 : decode cX5_isGuarded 8 = .ok (.iload_n 1, 1) := by decide +kernel
theorem dX5_isGuarded_9 : decode cX5_isGuarded 9 = .ok (.ishr, 1) := by decide +kernel
theorem dX5_isGuarded_10 : decode cX5_isGuarded 10 = .ok (.iconst 1, 1) := by decide +kernel
theorem dX5_isGuarded_11 : decode cX5_isGuarded 11 = .ok (.iand, 1) := by decide +kernel
theorem dX5_isGuarded_12 : decode cX5_isGuarded 12 = .ok (.iconst 1, 1) := by decide +kernel
theorem dX5_isGuarded_13 : decode cX5_isGuarded 13 = .ok (.if_icmp .eq 22, 3) := by decide +kernel
theorem dX5_isGuarded_16 : decode cX5_isGuarded 16 = .ok (.iload_n 1, 1) := by decide +kernel
theorem dX5_isGuarded_17 : decode cX5_isGuarded 17 = .ok (.aload_n 0, 1) := by decide +kernel
theorem dX5_isGuarded_18 : decode cX5_isGuarded 18 = .ok (.getfield 13, 3) := by decide +kernel
theorem dX5_isGuarded_21 : decode cX5_isGuarded 21 = .ok (.iconst 2, 1) := by decide +kernel
theorem dX5_isGuarded_22 : decode cX5_isGuarded 22 = .ok (.iaload, 1) := by decide +kernel
theorem dX5_isGuarded_23 : decode cX5_isGuarded 23 = .ok (.aload_n 0, 1) := by decide +kernel
theorem dX5_isGuarded_24 : decode cX5_isGuarded 24 = .ok (.getfield 19, 3) := by decide +kernel
theorem dX5_isGuarded_27 : decode cX5_isGuarded 27 = .ok (.sipush 292, 3) := by decide +kernel
theorem dX5_isGuarded_30 : decode cX5_isGuarded 30 = .ok (.iaload, 1) := by decide +kernel
theorem dX5_isGuarded_31 : decode cX5_isGuarded 31 = .ok (.isub, 1) := by decide +kernel
theorem dX5_isGuarded_32 : decode cX5_isGuarded 32 = .ok (.if_icmp .lt 7, 3) := by decide +kernel
theorem dX5_isGuarded_35 : decode cX5_isGuarded 35 = .ok (.iconst 1, 1) := by decide +kernel
theorem dX5_isGuarded_36 : decode cX5_isGuarded 36 = .ok (.goto 4, 3) := by decide +kernel
theorem dX5_isGuarded_39 : decode cX5_isGuarded 39 = .ok (.iconst 0, 1) := by decide +kernel
theorem dX5_isGuarded_40 : decode cX5_isGuarded 40 = .ok (.ireturn, 1) := by decide +kernel
theorem dX5_status_0 : decode cX5_status 0 = .ok (.aload_n 0, 1) := by decide +kernel
theorem dX5_status_1 : decode cX5_status 1 = .ok (.getfield 19, 3) := by decide +kernel
theorem dX5_status_4 : decode cX5_status 4 = .ok (.sipush 293, 3) := by decide +kernel
theorem dX5_status_7 : decode cX5_status 7 = .ok (.iaload, 1) := by decide +kernel
theorem dX5_status_8 : decode cX5_status 8 = .ok (.ifCond .le 7, 3) := by decide +kernel
theorem dX5_status_11 : decode cX5_status 11 = .ok (.iconst 1, 1) := by decide +kernel
theorem dX5_status_12 : decode cX5_status 12 = .ok (.goto 4, 3) := by decide +kernel
theorem dX5_status_15 : decode cX5_status 15 = .ok (.iconst 0, 1) := by decide +kernel
theorem dX5_status_16 : decode cX5_status 16 = .ok (.iconst 2, 1) := by decide +kernel
theorem dX5_status_17 : decode cX5_status 17 = .ok (.aload_n 0, 1) := by decide +kernel
theorem dX5_status_18 : decode cX5_status 18 = .ok (.getfield 19, 3) := by decide +kernel
theorem dX5_status_21 : decode cX5_status 21 = .ok (.sipush 290, 3) := by decide +kernel
theorem dX5_status_24 : decode cX5_status 24 = .ok (.iaload, 1) := by decide +kernel
theorem dX5_status_25 : decode cX5_status 25 = .ok (.imul, 1) := by decide +kernel
theorem dX5_status_26 : decode cX5_status 26 = .ok (.iadd, 1) := by decide +kernel
theorem dX5_status_27 : decode cX5_status 27 = .ok (.iconst 4, 1) := by decide +kernel
theorem dX5_status_28 : decode cX5_status 28 = .ok (.aload_n 0, 1) := by decide +kernel
theorem dX5_status_29 : decode cX5_status 29 = .ok (.getfield 19, 3) := by decide +kernel
theorem dX5_status_32 : decode cX5_status 32 = .ok (.sipush 292, 3) := by decide +kernel
theorem dX5_status_35 : decode cX5_status 35 = .ok (.iaload, 1) := by decide +kernel
theorem dX5_status_36 : decode cX5_status 36 = .ok (.imul, 1) := by decide +kernel
theorem dX5_status_37 : decode cX5_status 37 = .ok (.iadd, 1) := by decide +kernel
theorem dX5_status_38 : decode cX5_status 38 = .ok (.aload_n 0, 1) := by decide +kernel
theorem dX5_status_39 : decode cX5_status 39 = .ok (.getfield 19, 3) := by decide +kernel
theorem dX5_status_42 : decode cX5_status 42 = .ok (.sipush 296, 3) := by decide +kernel
theorem dX5_status_45 : decode cX5_status 45 = .ok (.iaload, 1) := by decide +kernel
theorem dX5_status_46 : decode cX5_status 46 = .ok (.ifCond .le 8, 3) := by decide +kernel
theorem dX5_status_49 : decode cX5_status 49 = .ok (.bipush 64, 2) := by decide +kernel
theorem dX5_status_51 : decode cX5_status 51 = .ok (.goto 4, 3) := by decide +kernel
theorem dX5_status_54 : decode cX5_status 54 = .ok (.iconst 0, 1) := by decide +kernel
theorem dX5_status_55 : decode cX5_status 55 = .ok (.iadd, 1) := by decide +kernel
theorem dX5_status_56 : decode cX5_status 56 = .ok (.sipush 128, 3) := by decide +kernel
theorem dX5_status_59 : decode cX5_status 59 = .ok (.aload_n 0, 1) := by decide +kernel
theorem dX5_status_60 : decode cX5_status 60 = .ok (.getfield 19, 3) := by decide +kernel
theorem dX5_status_63 : decode cX5_status 63 = .ok (.sipush 291, 3) := by decide +kernel
theorem dX5_status_66 : decode cX5_status 66 = .ok (.iaload, 1) := by decide +kernel
theorem dX5_status_67 : decode cX5_status 67 = .ok (.imul, 1) := by decide +kernel
theorem dX5_status_68 : decode cX5_status 68 = .ok (.iadd, 1) := by decide +kernel
theorem dX5_status_69 : decode cX5_status 69 = .ok (.ireturn, 1) := by decide +kernel
theorem dX5_tableAt_0 : decode cX5_tableAt 0 = .ok (.iload_n 1, 1) := by decide +kernel
theorem dX5_tableAt_1 : decode cX5_tableAt 1 = .ok (.ifCond .ne 8, 3) := by decide +kernel
theorem dX5_tableAt_4 : decode cX5_tableAt 4 = .ok (.bipush 83, 2) := by decide +kernel
theorem dX5_tableAt_6 : decode cX5_tableAt 6 = .ok (.goto 45, 3) := by decide +kernel
theorem dX5_tableAt_9 : decode cX5_tableAt 9 = .ok (.iload_n 1, 1) := by decide +kernel
theorem dX5_tableAt_10 : decode cX5_tableAt 10 = .ok (.iconst 1, 1) := by decide +kernel
theorem dX5_tableAt_11 : decode cX5_tableAt 11 = .ok (.if_icmp .ne 8, 3) := by decide +kernel
theorem dX5_tableAt_14 : decode cX5_tableAt 14 = .ok (.bipush 70, 2) := by decide +kernel
theorem dX5_tableAt_16 : decode cX5_tableAt 16 = .ok (.goto 35, 3) := by decide +kernel
theorem dX5_tableAt_19 : decode cX5_tableAt 19 = .ok (.iload_n 1, 1) := by decide +kernel
theorem dX5_tableAt_20 : decode cX5_tableAt 20 = .ok (.bipush 7, 2) := by decide +kernel
theorem dX5_tableAt_22 : decode cX5_tableAt 22 = .ok (.if_icmp .ge 14, 3) := by decide +kernel
theorem dX5_tableAt_25 : decode cX5_tableAt 25 = .ok (.aload_n 0, 1) := by decide +kernel
theorem dX5_tableAt_26 : decode cX5_tableAt 26 = .ok (.getfield 13, 3) := by decide +kernel
theorem dX5_tableAt_29 : decode cX5_tableAt 29 = .ok (.iload_n 1, 1) := by decide +kernel
theorem dX5_tableAt_30 : decode cX5_tableAt 30 = .ok (.iconst 2, 1) := by decide +kernel
theorem dX5_tableAt_31 : decode cX5_tableAt 31 = .ok (.isub, 1) := by decide +kernel
theorem dX5_tableAt_32 : decode cX5_tableAt 32 = .ok (.iaload, 1) := by decide +kernel
theorem dX5_tableAt_33 : decode cX5_tableAt 33 = .ok (.goto 18, 3) := by decide +kernel
theorem dX5_tableAt_36 : decode cX5_tableAt 36 = .ok (.sipush 153, 3) := by decide +kernel
theorem dX5_tableAt_39 : decode cX5_tableAt 39 = .ok (.aload_n 0, 1) := by decide +kernel
theorem dX5_tableAt_40 : decode cX5_tableAt 40 = .ok (.getfield 13, 3) := by decide +kernel
theorem dX5_tableAt_43 : decode cX5_tableAt 43 = .ok (.invokestatic 77, 3) := by decide +kernel
theorem dX5_tableAt_46 : decode cX5_tableAt 46 = .ok (.iadd, 1) := by decide +kernel
theorem dX5_tableAt_47 : decode cX5_tableAt 47 = .ok (.sipush 256, 3) := by decide +kernel
theorem dX5_tableAt_50 : decode cX5_tableAt 50 = .ok (.irem, 1) := by decide +kernel
theorem dX5_tableAt_51 : decode cX5_tableAt 51 = .ok (.ireturn, 1) := by decide +kernel
theorem dX5_select_0 : decode cX5_select 0 = .ok (.aload_n 0, 1) := by decide +kernel
theorem dX5_select_1 : decode cX5_select 1 = .ok (.getfield 19, 3) := by decide +kernel
theorem dX5_select_4 : decode cX5_select 4 = .ok (.sipush 298, 3) := by decide +kernel
theorem dX5_select_7 : decode cX5_select 7 = .ok (.iaload, 1) := by decide +kernel
theorem dX5_select_8 : decode cX5_select 8 = .ok (.iconst 1, 1) := by decide +kernel
theorem dX5_select_9 : decode cX5_select 9 = .ok (.if_icmp .ne 6, 3) := by decide +kernel
theorem dX5_select_12 : decode cX5_select 12 = .ok (.bipush (-2), 2) := by decide +kernel
theorem dX5_select_14 : decode cX5_select 14 = .ok (.ireturn, 1) := by decide +kernel
theorem dX5_select_15 : decode cX5_select 15 = .ok (.aload_n 0, 1) := by decide +kernel
theorem dX5_select_16 : decode cX5_select 16 = .ok (.getfield 19, 3) := by decide +kernel
theorem dX5_select_19 : decode cX5_select 19 = .ok (.sipush 298, 3) := by decide +kernel
theorem dX5_select_22 : decode cX5_select 22 = .ok (.iconst 1, 1) := by decide +kernel
theorem dX5_select_23 : decode cX5_select 23 = .ok (.iastore, 1) := by decide +kernel
theorem dX5_select_24 : decode cX5_select 24 = .ok (.aload_n 0, 1) := by decide +kernel
theorem dX5_select_25 : decode cX5_select 25 = .ok (.getfield 19, 3) := by decide +kernel
theorem dX5_select_28 : decode cX5_select 28 = .ok (.sipush 299, 3) := by decide +kernel
theorem dX5_select_31 : decode cX5_select 31 = .ok (.iconst 0, 1) := by decide +kernel
theorem dX5_select_32 : decode cX5_select 32 = .ok (.iastore, 1) := by decide +kernel
theorem dX5_select_33 : decode cX5_select 33 = .ok (.iconst 1, 1) := by decide +kernel
theorem dX5_select_34 : decode cX5_select 34 = .ok (.aload_n 0, 1) := by decide +kernel
theorem dX5_select_35 : decode cX5_select 35 = .ok (.getfield 19, 3) := by decide +kernel
theorem dX5_select_38 : decode cX5_select 38 = .ok (.sipush 289, 3) := by decide +kernel
theorem dX5_select_41 : decode cX5_select 41 = .ok (.iaload, 1) := by decide +kernel
theorem dX5_select_42 : decode cX5_select 42 = .ok (.ishl, 1) := by decide +kernel
theorem dX5_select_43 : decode cX5_select 43 = .ok (.ireturn, 1) := by decide +kernel
theorem dX5_answers_0 : decode cX5_answers 0 = .ok (.iload_n 1, 1) := by decide +kernel
theorem dX5_answers_1 : decode cX5_answers 1 = .ok (.ifCond .ne 7, 3) := by decide +kernel
theorem dX5_answers_4 : decode cX5_answers 4 = .ok (.sipush 255, 3) := by decide +kernel
theorem dX5_answers_7 : decode cX5_answers 7 = .ok (.ireturn, 1) := by decide +kernel
theorem dX5_answers_8 : decode cX5_answers 8 = .ok (.aload_n 0, 1) := by decide +kernel
theorem dX5_answers_9 : decode cX5_answers 9 = .ok (.getfield 19, 3) := by decide +kernel
theorem dX5_answers_12 : decode cX5_answers 12 = .ok (.sipush 300, 3) := by decide +kernel
theorem dX5_answers_15 : decode cX5_answers 15 = .ok (.iaload, 1) := by decide +kernel
theorem dX5_answers_16 : decode cX5_answers 16 = .ok (.istore_n 2, 1) := by decide +kernel
theorem dX5_answers_17 : decode cX5_answers 17 = .ok (.iload_n 2, 1) := by decide +kernel
theorem dX5_answers_18 : decode cX5_answers 18 = .ok (.iconst 5, 1) := by decide +kernel
theorem dX5_answers_19 : decode cX5_answers 19 = .ok (.if_icmp .ne 8, 3) := by decide +kernel
theorem dX5_answers_22 : decode cX5_answers 22 = .ok (.aload_n 0, 1) := by decide +kernel
theorem dX5_answers_23 : decode cX5_answers 23 = .ok (.invokevirtual 92, 3) := by decide +kernel
theorem dX5_answers_26 : decode cX5_answers 26 = .ok (.ireturn, 1) := by decide +kernel
theorem dX5_answers_27 : decode cX5_answers 27 = .ok (.aload_n 0, 1) := by decide +kernel
theorem dX5_answers_28 : decode cX5_answers 28 = .ok (.getfield 19, 3) := by decide +kernel
theorem dX5_answers_31 : decode cX5_answers 31 = .ok (.sipush 293, 3) := by decide +kernel
theorem dX5_answers_34 : decode cX5_answers 34 = .ok (.iaload, 1) := by decide +kernel
theorem dX5_answers_35 : decode cX5_answers 35 = .ok (.ifCond .le 7, 3) := by decide +kernel
theorem dX5_answers_38 : decode cX5_answers 38 = .ok (.sipush 255, 3) := by decide +kernel
theorem dX5_answers_41 : decode cX5_answers 41 = .ok (.ireturn, 1) := by decide +kernel
theorem dX5_answers_42 : decode cX5_answers 42 = .ok (.aload_n 0, 1) := by decide +kernel
theorem dX5_answers_43 : decode cX5_answers 43 = .ok (.getfield 19, 3) := by decide +kernel
theorem dX5_answers_46 : decode cX5_answers 46 = .ok (.sipush 301, 3) := by decide +kernel
theorem dX5_answers_49 : decode cX5_answers 49 = .ok (.iaload, 1) := by decide +kernel
theorem dX5_answers_50 : decode cX5_answers 50 = .ok (.aload_n 0, 1) := by decide +kernel
theorem dX5_answers_51 : decode cX5_answers 51 = .ok (.invokevirtual 89, 3) := by decide +kernel
theorem dX5_answers_54 : decode cX5_answers 54 = .ok (.irem, 1) := by decide +kernel
theorem dX5_answers_55 : decode cX5_answers 55 = .ok (.istore_n 3, 1) := by decide +kernel
theorem dX5_answers_56 : decode cX5_answers 56 = .ok (.iload_n 2, 1) := by decide +kernel
theorem dX5_answers_57 : decode cX5_answers 57 = .ok (.iconst 3, 1) := by decide +kernel
theorem dX5_answers_58 : decode cX5_answers 58 = .ok (.if_icmp .ne 24, 3) := by decide +kernel
theorem dX5_answers_61 : decode cX5_answers 61 = .ok (.iload_n 1, 1) := by decide +kernel
theorem dX5_answers_62 : decode cX5_answers 62 = .ok (.iconst 1, 1) := by decide +kernel
theorem dX5_answers_63 : decode cX5_answers 63 = .ok (.if_icmp .le 19, 3) := by decide +kernel
theorem dX5_answers_66 : decode cX5_answers 66 = .ok (.aload_n 0, 1) := by decide +kernel
theorem dX5_answers_67 : decode cX5_answers 67 = .ok (.getfield 19, 3) := by decide +kernel
theorem dX5_answers_70 : decode cX5_answers 70 = .ok (.iload_n 3, 1) := by decide +kernel
theorem dX5_answers_71 : decode cX5_answers 71 = .ok (.iload_n 1, 1) := by decide +kernel
theorem dX5_answers_72 : decode cX5_answers 72 = .ok (.iadd, 1) := by decide +kernel
theorem dX5_answers_73 : decode cX5_answers 73 = .ok (.iconst 2, 1) := by decide +kernel
theorem dX5_answers_74 : decode cX5_answers 74 = .ok (.isub, 1) := by decide +kernel
theorem dX5_answers_75 : decode cX5_answers 75 = .ok (.aload_n 0, 1) := by decide +kernel
theorem dX5_answers_76 : decode cX5_answers 76 = .ok (.invokevirtual 89, 3) := by decide +kernel
theorem dX5_answers_79 : decode cX5_answers 79 = .ok (.irem, 1) := by decide +kernel
theorem dX5_answers_80 : decode cX5_answers 80 = .ok (.iaload, 1) := by decide +kernel
theorem dX5_answers_81 : decode cX5_answers 81 = .ok (.ireturn, 1) := by decide +kernel
theorem dX5_answers_82 : decode cX5_answers 82 = .ok (.iload_n 2, 1) := by decide +kernel
theorem dX5_answers_83 : decode cX5_answers 83 = .ok (.bipush 11, 2) := by decide +kernel
theorem dX5_answers_85 : decode cX5_answers 85 = .ok (.if_icmp .ne 24, 3) := by decide +kernel
theorem dX5_answers_88 : decode cX5_answers 88 = .ok (.iload_n 1, 1) := by decide +kernel
theorem dX5_answers_89 : decode cX5_answers 89 = .ok (.iconst 2, 1) := by decide +kernel
theorem dX5_answers_90 : decode cX5_answers 90 = .ok (.if_icmp .le 19, 3) := by decide +kernel
theorem dX5_answers_93 : decode cX5_answers 93 = .ok (.aload_n 0, 1) := by decide +kernel
theorem dX5_answers_94 : decode cX5_answers 94 = .ok (.getfield 19, 3) := by decide +kernel
theorem dX5_answers_97 : decode cX5_answers 97 = .ok (.iload_n 3, 1) := by decide +kernel
theorem dX5_answers_98 : decode cX5_answers 98 = .ok (.iload_n 1, 1) := by decide +kernel
theorem dX5_answers_99 : decode cX5_answers 99 = .ok (.iadd, 1) := by decide +kernel
theorem dX5_answers_100 : decode cX5_answers 100 = .ok (.iconst 3, 1) := by decide +kernel
theorem dX5_answers_101 : decode cX5_answers 101 = .ok (.isub, 1) := by decide +kernel
theorem dX5_answers_102 : decode cX5_answers 102 = .ok (.aload_n 0, 1) := by decide +kernel
theorem dX5_answers_103 : decode cX5_answers 103 = .ok (.invokevirtual 89, 3) := by decide +kernel
theorem dX5_answers_106 : decode cX5_answers 106 = .ok (.irem, 1) := by decide +kernel
theorem dX5_answers_107 : decode cX5_answers 107 = .ok (.iaload, 1) := by decide +kernel
theorem dX5_answers_108 : decode cX5_answers 108 = .ok (.ireturn, 1) := by decide +kernel
theorem dX5_answers_109 : decode cX5_answers 109 = .ok (.iload_n 2, 1) := by decide +kernel
theorem dX5_answers_110 : decode cX5_answers 110 = .ok (.bipush 90, 2) := by decide +kernel
theorem dX5_answers_112 : decode cX5_answers 112 = .ok (.if_icmp .ne 44, 3) := by decide +kernel
theorem dX5_answers_115 : decode cX5_answers 115 = .ok (.iload_n 1, 1) := by decide +kernel
theorem dX5_answers_116 : decode cX5_answers 116 = .ok (.iconst 2, 1) := by decide +kernel
theorem dX5_answers_117 : decode cX5_answers 117 = .ok (.if_icmp .le 39, 3) := by decide +kernel
theorem dX5_answers_120 : decode cX5_answers 120 = .ok (.aload_n 0, 1) := by decide +kernel
theorem dX5_answers_121 : decode cX5_answers 121 = .ok (.getfield 19, 3) := by decide +kernel
theorem dX5_answers_124 : decode cX5_answers 124 = .ok (.sipush 301, 3) := by decide +kernel
theorem dX5_answers_127 : decode cX5_answers 127 = .ok (.iaload, 1) := by decide +kernel
theorem dX5_answers_128 : decode cX5_answers 128 = .ok (.iload_n 1, 1) := by decide +kernel
theorem dX5_answers_129 : decode cX5_answers 129 = .ok (.iadd, 1) := by decide +kernel
theorem dX5_answers_130 : decode cX5_answers 130 = .ok (.iconst 3, 1) := by decide +kernel
theorem dX5_answers_131 : decode cX5_answers 131 = .ok (.isub, 1) := by decide +kernel
theorem dX5_answers_132 : decode cX5_answers 132 = .ok (.bipush 8, 2) := by decide +kernel
theorem dX5_answers_134 : decode cX5_answers 134 = .ok (.if_icmp .ge 22, 3) := by decide +kernel
theorem dX5_answers_137 : decode cX5_answers 137 = .ok (.aload_n 0, 1) := by decide +kernel
theorem dX5_answers_138 : decode cX5_answers 138 = .ok (.aload_n 0, 1) := by decide +kernel
theorem dX5_answers_139 : decode cX5_answers 139 = .ok (.getfield 19, 3) := by decide +kernel
theorem dX5_answers_142 : decode cX5_answers 142 = .ok (.sipush 301, 3) := by decide +kernel
theorem dX5_answers_145 : decode cX5_answers 145 = .ok (.iaload, 1) := by decide +kernel
theorem dX5_answers_146 : decode cX5_answers 146 = .ok (.iload_n 1, 1) := by decide +kernel
theorem dX5_answers_147 : decode cX5_answers 147 = .ok (.iadd, 1) := by decide +kernel
theorem dX5_answers_148 : decode cX5_answers 148 = .ok (.iconst 3, 1) := by decide +kernel
theorem dX5_answers_149 : decode cX5_answers 149 = .ok (.isub, 1) := by decide +kernel
theorem dX5_answers_150 : decode cX5_answers 150 = .ok (.invokevirtual 95, 3) := by decide +kernel
theorem dX5_answers_153 : decode cX5_answers 153 = .ok (.goto 6, 3) := by decide +kernel
theorem dX5_answers_156 : decode cX5_answers 156 = .ok (.sipush 255, 3) := by decide +kernel
theorem dX5_answers_159 : decode cX5_answers 159 = .ok (.ireturn, 1) := by decide +kernel
theorem dX5_puts_0 : decode cX5_puts 0 = .ok (.aload_n 0, 1) := by decide +kernel
theorem dX5_puts_1 : decode cX5_puts 1 = .ok (.getfield 19, 3) := by decide +kernel
theorem dX5_puts_4 : decode cX5_puts 4 = .ok (.sipush 299, 3) := by decide +kernel
theorem dX5_puts_7 : decode cX5_puts 7 = .ok (.iaload, 1) := by decide +kernel
theorem dX5_puts_8 : decode cX5_puts 8 = .ok (.istore_n 2, 1) := by decide +kernel
theorem dX5_puts_9 : decode cX5_puts 9 = .ok (.aload_n 0, 1) := by decide +kernel
theorem dX5_puts_10 : decode cX5_puts 10 = .ok (.getfield 19, 3) := by decide +kernel
theorem dX5_puts_13 : decode cX5_puts 13 = .ok (.sipush 304, 3) := by decide +kernel
theorem dX5_puts_16 : decode cX5_puts 16 = .ok (.aload_n 0, 1) := by decide +kernel
theorem dX5_puts_17 : decode cX5_puts 17 = .ok (.getfield 19, 3) := by decide +kernel
theorem dX5_puts_20 : decode cX5_puts 20 = .ok (.sipush 304, 3) := by decide +kernel
theorem dX5_puts_23 : decode cX5_puts 23 = .ok (.iaload, 1) := by decide +kernel
theorem dX5_puts_24 : decode cX5_puts 24 = .ok (.bipush 8, 2) := by decide +kernel
theorem dX5_puts_26 : decode cX5_puts 26 = .ok (.aload_n 0, 1) := by decide +kernel
theorem dX5_puts_27 : decode cX5_puts 27 = .ok (.getfield 19, 3) := by decide +kernel
theorem dX5_puts_30 : decode cX5_puts 30 = .ok (.sipush 289, 3) := by decide +kernel
theorem dX5_puts_33 : decode cX5_puts 33 = .ok (.iaload, 1) := by decide +kernel
theorem dX5_puts_34 : decode cX5_puts 34 = .ok (.ishr, 1) := by decide +kernel
theorem dX5_puts_35 : decode cX5_puts 35 = .ok (.iadd, 1) := by decide +kernel
theorem dX5_puts_36 : decode cX5_puts 36 = .ok (.ldc 98, 2) := by decide +kernel
theorem dX5_puts_38 : decode cX5_puts 38 = .ok (.irem, 1) := by decide +kernel
theorem dX5_puts_39 : decode cX5_puts 39 = .ok (.iastore, 1) := by decide +kernel
theorem dX5_puts_40 : decode cX5_puts 40 = .ok (.iload_n 2, 1) := by decide +kernel
theorem dX5_puts_41 : decode cX5_puts 41 = .ok (.ifCond .ne 37, 3) := by decide +kernel
theorem dX5_puts_44 : decode cX5_puts 44 = .ok (.aload_n 0, 1) := by decide +kernel
theorem dX5_puts_45 : decode cX5_puts 45 = .ok (.getfield 19, 3) := by decide +kernel
theorem dX5_puts_48 : decode cX5_puts 48 = .ok (.sipush 300, 3) := by decide +kernel
theorem dX5_puts_51 : decode cX5_puts 51 = .ok (.iload_n 1, 1) := by decide +kernel
theorem dX5_puts_52 : decode cX5_puts 52 = .ok (.iastore, 1) := by decide +kernel
theorem dX5_puts_53 : decode cX5_puts 53 = .ok (.iconst 0, 1) := by decide +kernel
theorem dX5_puts_54 : decode cX5_puts 54 = .ok (.istore_n 3, 1) := by decide +kernel
theorem dX5_puts_55 : decode cX5_puts 55 = .ok (.iload_n 3, 1) := by decide +kernel
theorem dX5_puts_56 : decode cX5_puts 56 = .ok (.bipush 16, 2) := by decide +kernel
theorem dX5_puts_58 : decode cX5_puts 58 = .ok (.if_icmp .ge 20, 3) := by decide +kernel
theorem dX5_puts_61 : decode cX5_puts 61 = .ok (.aload_n 0, 1) := by decide +kernel
theorem dX5_puts_62 : decode cX5_puts 62 = .ok (.getfield 19, 3) := by decide +kernel
theorem dX5_puts_65 : decode cX5_puts 65 = .ok (.sipush 272, 3) := by decide +kernel
theorem dX5_puts_68 : decode cX5_puts 68 = .ok (.iload_n 3, 1) := by decide +kernel
theorem dX5_puts_69 : decode cX5_puts 69 = .ok (.iadd, 1) := by decide +kernel
theorem dX5_puts_70 : decode cX5_puts 70 = .ok (.iconst 0, 1) := by decide +kernel
theorem dX5_puts_71 : decode cX5_puts 71 = .ok (.iastore, 1) := by decide +kernel
theorem dX5_puts_72 : decode cX5_puts 72 = .ok (.iinc 3 1, 3) := by decide +kernel
theorem dX5_puts_75 : decode cX5_puts 75 = .ok (.goto (-20), 3) := by decide +kernel
theorem dX5_puts_78 : decode cX5_puts 78 = .ok (.aload_n 0, 1) := by decide +kernel
theorem dX5_puts_79 : decode cX5_puts 79 = .ok (.getfield 19, 3) := by decide +kernel
theorem dX5_puts_82 : decode cX5_puts 82 = .ok (.sipush 301, 3) := by decide +kernel
theorem dX5_puts_85 : decode cX5_puts 85 = .ok (.iload_n 2, 1) := by decide +kernel
theorem dX5_puts_86 : decode cX5_puts 86 = .ok (.iconst 1, 1) := by decide +kernel
theorem dX5_puts_87 : decode cX5_puts 87 = .ok (.if_icmp .ne 7, 3) := by decide +kernel
theorem dX5_puts_90 : decode cX5_puts 90 = .ok (.iload_n 1, 1) := by decide +kernel
theorem dX5_puts_91 : decode cX5_puts 91 = .ok (.goto 11, 3) := by decide +kernel
theorem dX5_puts_94 : decode cX5_puts 94 = .ok (.aload_n 0, 1) := by decide +kernel
theorem dX5_puts_95 : decode cX5_puts 95 = .ok (.getfield 19, 3) := by decide +kernel
theorem dX5_puts_98 : decode cX5_puts 98 = .ok (.sipush 301, 3) := by decide +kernel
theorem dX5_puts_101 : decode cX5_puts 101 = .ok (.iaload, 1) := by decide +kernel
theorem dX5_puts_102 : decode cX5_puts 102 = .ok (.iastore, 1) := by decide +kernel
theorem dX5_puts_103 : decode cX5_puts 103 = .ok (.iload_n 2, 1) := by decide +kernel
theorem dX5_puts_104 : decode cX5_puts 104 = .ok (.iconst 1, 1) := by decide +kernel
theorem dX5_puts_105 : decode cX5_puts 105 = .ok (.if_icmp .le 50, 3) := by decide +kernel
theorem dX5_puts_108 : decode cX5_puts 108 = .ok (.aload_n 0, 1) := by decide +kernel
theorem dX5_puts_109 : decode cX5_puts 109 = .ok (.getfield 19, 3) := by decide +kernel
theorem dX5_puts_112 : decode cX5_puts 112 = .ok (.sipush 301, 3) := by decide +kernel
theorem dX5_puts_115 : decode cX5_puts 115 = .ok (.iaload, 1) := by decide +kernel
theorem dX5_puts_116 : decode cX5_puts 116 = .ok (.aload_n 0, 1) := by decide +kernel
theorem dX5_puts_117 : decode cX5_puts 117 = .ok (.invokevirtual 89, 3) := by decide +kernel
theorem dX5_puts_120 : decode cX5_puts 120 = .ok (.irem, 1) := by decide +kernel
theorem dX5_puts_121 : decode cX5_puts 121 = .ok (.iload_n 2, 1) := by decide +kernel
theorem dX5_puts_122 : decode cX5_puts 122 = .ok (.iadd, 1) := by decide +kernel
theorem dX5_puts_123 : decode cX5_puts 123 = .ok (.iconst 2, 1) := by decide +kernel
theorem dX5_puts_124 : decode cX5_puts 124 = .ok (.isub, 1) := by decide +kernel
theorem dX5_puts_125 : decode cX5_puts 125 = .ok (.aload_n 0, 1) := by decide +kernel
theorem dX5_puts_126 : decode cX5_puts 126 = .ok (.getfield 13, 3) := by decide +kernel
theorem dX5_puts_129 : decode cX5_puts 129 = .ok (.iconst 0, 1) := by decide +kernel
theorem dX5_puts_130 : decode cX5_puts 130 = .ok (.iaload, 1) := by decide +kernel
theorem dX5_puts_131 : decode cX5_puts 131 = .ok (.irem, 1) := by decide +kernel
theorem dX5_puts_132 : decode cX5_puts 132 = .ok (.istore_n 3, 1) := by decide +kernel
theorem dX5_puts_133 : decode cX5_puts 133 = .ok (.aload_n 0, 1) := by decide +kernel
theorem dX5_puts_134 : decode cX5_puts 134 = .ok (.getfield 19, 3) := by decide +kernel
theorem dX5_puts_137 : decode cX5_puts 137 = .ok (.sipush 256, 3) := by decide +kernel
theorem dX5_puts_140 : decode cX5_puts 140 = .ok (.iload_n 3, 1) := by decide +kernel
theorem dX5_puts_141 : decode cX5_puts 141 = .ok (.iadd, 1) := by decide +kernel
theorem dX5_puts_142 : decode cX5_puts 142 = .ok (.iload_n 1, 1) := by decide +kernel
theorem dX5_puts_143 : decode cX5_puts 143 = .ok (.iastore, 1) := by decide +kernel
theorem dX5_puts_144 : decode cX5_puts 144 = .ok (.aload_n 0, 1) := by decide +kernel
theorem dX5_puts_145 : decode cX5_puts 145 = .ok (.getfield 19, 3) := by decide +kernel
theorem dX5_puts_148 : decode cX5_puts 148 = .ok (.sipush 272, 3) := by decide +kernel
theorem dX5_puts_151 : decode cX5_puts 151 = .ok (.iload_n 3, 1) := by decide +kernel
theorem dX5_puts_152 : decode cX5_puts 152 = .ok (.iadd, 1) := by decide +kernel
theorem dX5_puts_153 : decode cX5_puts 153 = .ok (.iconst 1, 1) := by decide +kernel
theorem dX5_puts_154 : decode cX5_puts 154 = .ok (.iastore, 1) := by decide +kernel
theorem dX5_puts_155 : decode cX5_puts 155 = .ok (.aload_n 0, 1) := by decide +kernel
theorem dX5_puts_156 : decode cX5_puts 156 = .ok (.iload_n 2, 1) := by decide +kernel
theorem dX5_puts_157 : decode cX5_puts 157 = .ok (.invokevirtual 99, 3) := by decide +kernel
theorem dX5_puts_160 : decode cX5_puts 160 = .ok (.istore_n 3, 1) := by decide +kernel
theorem dX5_puts_161 : decode cX5_puts 161 = .ok (.aload_n 0, 1) := by decide +kernel
theorem dX5_puts_162 : decode cX5_puts 162 = .ok (.getfield 19, 3) := by decide +kernel
theorem dX5_puts_165 : decode cX5_puts 165 = .ok (.sipush 302, 3) := by decide +kernel
theorem dX5_puts_168 : decode cX5_puts 168 = .ok (.iload_n 1, 1) := by decide +kernel
theorem dX5_puts_169 : decode cX5_puts 169 = .ok (.iastore, 1) := by decide +kernel
theorem dX5_puts_170 : decode cX5_puts 170 = .ok (.aload_n 0, 1) := by decide +kernel
theorem dX5_puts_171 : decode cX5_puts 171 = .ok (.getfield 19, 3) := by decide +kernel
theorem dX5_puts_174 : decode cX5_puts 174 = .ok (.sipush 299, 3) := by decide +kernel
theorem dX5_puts_177 : decode cX5_puts 177 = .ok (.dup2, 1) := by decide +kernel
theorem dX5_puts_178 : decode cX5_puts 178 = .ok (.iaload, 1) := by decide +kernel
theorem dX5_puts_179 : decode cX5_puts 179 = .ok (.iconst 1, 1) := by decide +kernel
theorem dX5_puts_180 : decode cX5_puts 180 = .ok (.iadd, 1) := by decide +kernel
theorem dX5_puts_181 : decode cX5_puts 181 = .ok (.iastore, 1) := by decide +kernel
theorem dX5_puts_182 : decode cX5_puts 182 = .ok (.iload_n 3, 1) := by decide +kernel
theorem dX5_puts_183 : decode cX5_puts 183 = .ok (.ireturn, 1) := by decide +kernel
theorem dX5_put_0 : decode cX5_put 0 = .ok (.iload_n 1, 1) := by decide +kernel
theorem dX5_put_1 : decode cX5_put 1 = .ok (.i2l, 1) := by decide +kernel
theorem dX5_put_2 : decode cX5_put 2 = .ok (.lconst 0, 1) := by decide +kernel
theorem dX5_put_3 : decode cX5_put 3 = .ok (.ldc2_w 102, 3) := by decide +kernel
theorem dX5_put_6 : decode cX5_put 6 = .ok (.invokestatic 40, 3) := by decide +kernel
theorem dX5_put_9 : decode cX5_put 9 = .ok (.ifCond .ne 5, 3) := by decide +kernel
theorem dX5_put_12 : decode cX5_put 12 = .ok (.iconst (-1), 1) := by decide +kernel
theorem dX5_put_13 : decode cX5_put 13 = .ok (.ireturn, 1) := by decide +kernel
theorem dX5_put_14 : decode cX5_put 14 = .ok (.aload_n 0, 1) := by decide +kernel
theorem dX5_put_15 : decode cX5_put 15 = .ok (.getfield 19, 3) := by decide +kernel
theorem dX5_put_18 : decode cX5_put 18 = .ok (.sipush 298, 3) := by decide +kernel
theorem dX5_put_21 : decode cX5_put 21 = .ok (.iaload, 1) := by decide +kernel
theorem dX5_put_22 : decode cX5_put 22 = .ok (.ifCond .ne 8, 3) := by decide +kernel
theorem dX5_put_25 : decode cX5_put 25 = .ok (.bipush (-2), 2) := by decide +kernel
theorem dX5_put_27 : decode cX5_put 27 = .ok (.goto 8, 3) := by decide +kernel
theorem dX5_put_30 : decode cX5_put 30 = .ok (.aload_n 0, 1) := by decide +kernel
theorem dX5_put_31 : decode cX5_put 31 = .ok (.iload_n 1, 1) := by decide +kernel
theorem dX5_put_32 : decode cX5_put 32 = .ok (.invokevirtual 104, 3) := by decide +kernel
theorem dX5_put_35 : decode cX5_put 35 = .ok (.ireturn, 1) := by decide +kernel
theorem dX5_begins_0 : decode cX5_begins 0 = .ok (.aload_n 0, 1) := by decide +kernel
theorem dX5_begins_1 : decode cX5_begins 1 = .ok (.getfield 19, 3) := by decide +kernel
theorem dX5_begins_4 : decode cX5_begins 4 = .ok (.sipush 293, 3) := by decide +kernel
theorem dX5_begins_7 : decode cX5_begins 7 = .ok (.iload_n 1, 1) := by decide +kernel
theorem dX5_begins_8 : decode cX5_begins 8 = .ok (.iastore, 1) := by decide +kernel
theorem dX5_begins_9 : decode cX5_begins 9 = .ok (.aload_n 0, 1) := by decide +kernel
theorem dX5_begins_10 : decode cX5_begins 10 = .ok (.getfield 19, 3) := by decide +kernel
theorem dX5_begins_13 : decode cX5_begins 13 = .ok (.sipush 294, 3) := by decide +kernel
theorem dX5_begins_16 : decode cX5_begins 16 = .ok (.iload_n 2, 1) := by decide +kernel
theorem dX5_begins_17 : decode cX5_begins 17 = .ok (.iastore, 1) := by decide +kernel
theorem dX5_begins_18 : decode cX5_begins 18 = .ok (.aload_n 0, 1) := by decide +kernel
theorem dX5_begins_19 : decode cX5_begins 19 = .ok (.getfield 19, 3) := by decide +kernel
theorem dX5_begins_22 : decode cX5_begins 22 = .ok (.sipush 295, 3) := by decide +kernel
theorem dX5_begins_25 : decode cX5_begins 25 = .ok (.iload_n 3, 1) := by decide +kernel
theorem dX5_begins_26 : decode cX5_begins 26 = .ok (.iastore, 1) := by decide +kernel
theorem dX5_begins_27 : decode cX5_begins 27 = .ok (.aload_n 0, 1) := by decide +kernel
theorem dX5_begins_28 : decode cX5_begins 28 = .ok (.getfield 19, 3) := by decide +kernel
theorem dX5_begins_31 : decode cX5_begins 31 = .ok (.sipush 305, 3) := by decide +kernel
theorem dX5_begins_34 : decode cX5_begins 34 = .ok (.dup2, 1) := by decide +kernel
theorem dX5_begins_35 : decode cX5_begins 35 = .ok (.iaload, 1) := by decide +kernel
theorem dX5_begins_36 : decode cX5_begins 36 = .ok (.iconst 1, 1) := by decide +kernel
theorem dX5_begins_37 : decode cX5_begins 37 = .ok (.iadd, 1) := by decide +kernel
theorem dX5_begins_38 : decode cX5_begins 38 = .ok (.iastore, 1) := by decide +kernel
theorem dX5_begins_39 : decode cX5_begins 39 = .ok (.return_, 1) := by decide +kernel
theorem dX5_anyGuarded_0 : decode cX5_anyGuarded 0 = .ok (.iconst 0, 1) := by decide +kernel
theorem dX5_anyGuarded_1 : decode cX5_anyGuarded 1 = .ok (.istore_n 1, 1) := by decide +kernel
theorem dX5_anyGuarded_2 : decode cX5_anyGuarded 2 = .ok (.iconst 0, 1) := by decide +kernel
theorem dX5_anyGuarded_3 : decode cX5_anyGuarded 3 = .ok (.istore_n 2, 1) := by decide +kernel
theorem dX5_anyGuarded_4 : decode cX5_anyGuarded 4 = .ok (.iload_n 2, 1) := by decide +kernel
theorem dX5_anyGuarded_5 : decode cX5_anyGuarded 5 = .ok (.aload_n 0, 1) := by decide +kernel
theorem dX5_anyGuarded_6 : decode cX5_anyGuarded 6 = .ok (.getfield 13, 3) := by decide +kernel
theorem dX5_anyGuarded_9 : decode cX5_anyGuarded 9 = .ok (.iconst 2, 1) := by decide +kernel
theorem dX5_anyGuarded_10 : decode cX5_anyGuarded 10 = .ok (.iaload, 1) := by decide +kernel
theorem dX5_anyGuarded_11 : decode cX5_anyGuarded 11 = .ok (.if_icmp .ge 27, 3) := by decide +kernel
theorem dX5_anyGuarded_14 : decode cX5_anyGuarded 14 = .ok (.iload_n 1, 1) := by decide +kernel
theorem dX5_anyGuarded_15 : decode cX5_anyGuarded 15 = .ok (.ifCond .ne 11, 3) := by decide +kernel
theorem dX5_anyGuarded_18 : decode cX5_anyGuarded 18 = .ok (.aload_n 0, 1) := by decide +kernel
theorem dX5_anyGuarded_19 : decode cX5_anyGuarded 19 = .ok (.iload_n 2, 1) := by decide +kernel
theorem dX5_anyGuarded_20 : decode cX5_anyGuarded 20 = .ok (.invokevirtual 107, 3) := by decide +kernel
theorem dX5_anyGuarded_23 : decode cX5_anyGuarded 23 = .ok (.ifCond .eq 7, 3) := by decide +kernel
theorem dX5_anyGuarded_26 : decode cX5_anyGuarded 26 = .ok (.iconst 1, 1) := by decide +kernel
theorem dX5_anyGuarded_27 : decode cX5_anyGuarded 27 = .ok (.goto 4, 3) := by decide +kernel
theorem dX5_anyGuarded_30 : decode cX5_anyGuarded 30 = .ok (.iconst 0, 1) := by decide +kernel
theorem dX5_anyGuarded_31 : decode cX5_anyGuarded 31 = .ok (.istore_n 1, 1) := by decide +kernel
theorem dX5_anyGuarded_32 : decode cX5_anyGuarded 32 = .ok (.iinc 2 1, 3) := by decide +kernel
theorem dX5_anyGuarded_35 : decode cX5_anyGuarded 35 = .ok (.goto (-31), 3) := by decide +kernel
theorem dX5_anyGuarded_38 : decode cX5_anyGuarded 38 = .ok (.iload_n 1, 1) := by decide +kernel
theorem dX5_anyGuarded_39 : decode cX5_anyGuarded 39 = .ok (.ireturn, 1) := by decide +kernel
theorem dX5_isRefused_0 : decode cX5_isRefused 0 = .ok (.aload_n 0, 1) := by decide +kernel
theorem dX5_isRefused_1 : decode cX5_isRefused 1 = .ok (.getfield 19, 3) := by decide +kernel
theorem dX5_isRefused_4 : decode cX5_isRefused 4 = .ok (.sipush 301, 3) := by decide +kernel
theorem dX5_isRefused_7 : decode cX5_isRefused 7 = .ok (.iaload, 1) := by decide +kernel
theorem dX5_isRefused_8 : decode cX5_isRefused 8 = .ok (.aload_n 0, 1) := by decide +kernel
theorem dX5_isRefused_9 : decode cX5_isRefused 9 = .ok (.invokevirtual 89, 3) := by decide +kernel
theorem dX5_isRefused_12 : decode cX5_isRefused 12 = .ok (.irem, 1) := by decide +kernel
theorem dX5_isRefused_13 : decode cX5_isRefused 13 = .ok (.istore_n 2, 1) := by decide +kernel
theorem dX5_isRefused_14 : decode cX5_isRefused 14 = .ok (.iload_n 2, 1) := by decide +kernel
theorem dX5_isRefused_15 : decode cX5_isRefused 15 = .ok (.aload_n 0, 1) := by decide +kernel
theorem dX5_isRefused_16 : decode cX5_isRefused 16 = .ok (.invokevirtual 110, 3) := by decide +kernel
theorem dX5_isRefused_19 : decode cX5_isRefused 19 = .ok (.idiv, 1) := by decide +kernel
theorem dX5_isRefused_20 : decode cX5_isRefused 20 = .ok (.istore_n 3, 1) := by decide +kernel
theorem dX5_isRefused_21 : decode cX5_isRefused 21 = .ok (.iload_n 1, 1) := by decide +kernel
theorem dX5_isRefused_22 : decode cX5_isRefused 22 = .ok (.iconst 1, 1) := by decide +kernel
theorem dX5_isRefused_23 : decode cX5_isRefused 23 = .ok (.if_icmp .ne 39, 3) := by decide +kernel
theorem dX5_isRefused_26 : decode cX5_isRefused 26 = .ok (.aload_n 0, 1) := by decide +kernel
theorem dX5_isRefused_27 : decode cX5_isRefused 27 = .ok (.getfield 19, 3) := by decide +kernel
theorem dX5_isRefused_30 : decode cX5_isRefused 30 = .ok (.sipush 296, 3) := by decide +kernel
theorem dX5_isRefused_33 : decode cX5_isRefused 33 = .ok (.iaload, 1) := by decide +kernel
theorem dX5_isRefused_34 : decode cX5_isRefused 34 = .ok (.ifCond .le 5, 3) := by decide +kernel
theorem dX5_isRefused_37 : decode cX5_isRefused 37 = .ok (.iconst 1, 1) := by decide +kernel
theorem dX5_isRefused_38 : decode cX5_isRefused 38 = .ok (.ireturn, 1) := by decide +kernel
theorem dX5_isRefused_39 : decode cX5_isRefused 39 = .ok (.aload_n 0, 1) := by decide +kernel
theorem dX5_isRefused_40 : decode cX5_isRefused 40 = .ok (.getfield 19, 3) := by decide +kernel
theorem dX5_isRefused_43 : decode cX5_isRefused 43 = .ok (.sipush 292, 3) := by decide +kernel
theorem dX5_isRefused_46 : decode cX5_isRefused 46 = .ok (.aload_n 0, 1) := by decide +kernel
theorem dX5_isRefused_47 : decode cX5_isRefused 47 = .ok (.getfield 19, 3) := by decide +kernel
theorem dX5_isRefused_50 : decode cX5_isRefused 50 = .ok (.sipush 302, 3) := by decide +kernel
theorem dX5_isRefused_53 : decode cX5_isRefused 53 = .ok (.iaload, 1) := by decide +kernel
theorem dX5_isRefused_54 : decode cX5_isRefused 54 = .ok (.iconst 4, 1) := by decide +kernel
theorem dX5_isRefused_55 : decode cX5_isRefused 55 = .ok (.idiv, 1) := by decide +kernel
theorem dX5_isRefused_56 : decode cX5_isRefused 56 = .ok (.bipush 8, 2) := by decide +kernel
theorem dX5_isRefused_58 : decode cX5_isRefused 58 = .ok (.irem, 1) := by decide +kernel
theorem dX5_isRefused_59 : decode cX5_isRefused 59 = .ok (.iastore, 1) := by decide +kernel
theorem dX5_isRefused_60 : decode cX5_isRefused 60 = .ok (.iconst 0, 1) := by decide +kernel
theorem dX5_isRefused_61 : decode cX5_isRefused 61 = .ok (.ireturn, 1) := by decide +kernel
theorem dX5_isRefused_62 : decode cX5_isRefused 62 = .ok (.iload_n 1, 1) := by decide +kernel
theorem dX5_isRefused_63 : decode cX5_isRefused 63 = .ok (.sipush 199, 3) := by decide +kernel
theorem dX5_isRefused_66 : decode cX5_isRefused 66 = .ok (.if_icmp .ne 44, 3) := by decide +kernel
theorem dX5_isRefused_69 : decode cX5_isRefused 69 = .ok (.aload_n 0, 1) := by decide +kernel
theorem dX5_isRefused_70 : decode cX5_isRefused 70 = .ok (.getfield 19, 3) := by decide +kernel
theorem dX5_isRefused_73 : decode cX5_isRefused 73 = .ok (.sipush 296, 3) := by decide +kernel
theorem dX5_isRefused_76 : decode cX5_isRefused 76 = .ok (.iaload, 1) := by decide +kernel
theorem dX5_isRefused_77 : decode cX5_isRefused 77 = .ok (.ifCond .gt 10, 3) := by decide +kernel
theorem dX5_isRefused_80 : decode cX5_isRefused 80 = .ok (.aload_n 0, 1) := by decide +kernel
theorem dX5_isRefused_81 : decode cX5_isRefused 81 = .ok (.invokevirtual 113, 3) := by decide +kernel
theorem dX5_isRefused_84 : decode cX5_isRefused 84 = .ok (.ifCond .eq 5, 3) := by decide +kernel
theorem dX5_isRefused_87 : decode cX5_isRefused 87 = .ok (.iconst 1, 1) := by decide +kernel
theorem dX5_isRefused_88 : decode cX5_isRefused 88 = .ok (.ireturn, 1) := by decide +kernel
theorem dX5_isRefused_89 : decode cX5_isRefused 89 = .ok (.aload_n 0, 1) := by decide +kernel
theorem dX5_isRefused_90 : decode cX5_isRefused 90 = .ok (.iconst 3, 1) := by decide +kernel
theorem dX5_isRefused_91 : decode cX5_isRefused 91 = .ok (.iconst 0, 1) := by decide +kernel
theorem dX5_isRefused_92 : decode cX5_isRefused 92 = .ok (.aload_n 0, 1) := by decide +kernel
theorem dX5_isRefused_93 : decode cX5_isRefused 93 = .ok (.getfield 13, 3) := by decide +kernel
theorem dX5_isRefused_96 : decode cX5_isRefused 96 = .ok (.iconst 4, 1) := by decide +kernel
theorem dX5_isRefused_97 : decode cX5_isRefused 97 = .ok (.iaload, 1) := by decide +kernel
theorem dX5_isRefused_98 : decode cX5_isRefused 98 = .ok (.aload_n 0, 1) := by decide +kernel
theorem dX5_isRefused_99 : decode cX5_isRefused 99 = .ok (.getfield 13, 3) := by decide +kernel
theorem dX5_isRefused_102 : decode cX5_isRefused 102 = .ok (.iconst 2, 1) := by decide +kernel
theorem dX5_isRefused_103 : decode cX5_isRefused 103 = .ok (.iaload, 1) := by decide +kernel
theorem dX5_isRefused_104 : decode cX5_isRefused 104 = .ok (.imul, 1) := by decide +kernel
theorem dX5_isRefused_105 : decode cX5_isRefused 105 = .ok (.invokevirtual 116, 3) := by decide +kernel
theorem dX5_isRefused_108 : decode cX5_isRefused 108 = .ok (.iconst 0, 1) := by decide +kernel
theorem dX5_isRefused_109 : decode cX5_isRefused 109 = .ok (.ireturn, 1) := by decide +kernel
theorem dX5_isRefused_110 : decode cX5_isRefused 110 = .ok (.aload_n 0, 1) := by decide +kernel
theorem dX5_isRefused_111 : decode cX5_isRefused 111 = .ok (.iload_n 3, 1) := by decide +kernel
theorem dX5_isRefused_112 : decode cX5_isRefused 112 = .ok (.invokevirtual 107, 3) := by decide +kernel
theorem dX5_isRefused_115 : decode cX5_isRefused 115 = .ok (.ifCond .ne 34, 3) := by decide +kernel
theorem dX5_isRefused_118 : decode cX5_isRefused 118 = .ok (.aload_n 0, 1) := by decide +kernel
theorem dX5_isRefused_119 : decode cX5_isRefused 119 = .ok (.getfield 19, 3) := by decide +kernel
theorem dX5_isRefused_122 : decode cX5_isRefused 122 = .ok (.sipush 296, 3) := by decide +kernel
theorem dX5_isRefused_125 : decode cX5_isRefused 125 = .ok (.iaload, 1) := by decide +kernel
theorem dX5_isRefused_126 : decode cX5_isRefused 126 = .ok (.ifCond .le 25, 3) := by decide +kernel
theorem dX5_isRefused_129 : decode cX5_isRefused 129 = .ok (.iload_n 1, 1) := by decide +kernel
theorem dX5_isRefused_130 : decode cX5_isRefused 130 = .ok (.bipush 32, 2) := by decide +kernel
theorem dX5_isRefused_132 : decode cX5_isRefused 132 = .ok (.if_icmp .eq 17, 3) := by decide +kernel
theorem dX5_isRefused_135 : decode cX5_isRefused 135 = .ok (.aload_n 0, 1) := by decide +kernel
theorem dX5_isRefused_136 : decode cX5_isRefused 136 = .ok (.getfield 19, 3) := by decide +kernel
theorem dX5_isRefused_139 : decode cX5_isRefused 139 = .ok (.sipush 296, 3) := by decide +kernel
theorem dX5_isRefused_142 : decode cX5_isRefused 142 = .ok (.iaload, 1) := by decide +kernel
theorem dX5_isRefused_143 : decode cX5_isRefused 143 = .ok (.iconst 1, 1) := by decide +kernel
theorem dX5_isRefused_144 : decode cX5_isRefused 144 = .ok (.isub, 1) := by decide +kernel
theorem dX5_isRefused_145 : decode cX5_isRefused 145 = .ok (.iload_n 3, 1) := by decide +kernel
theorem dX5_isRefused_146 : decode cX5_isRefused 146 = .ok (.if_icmp .ne 5, 3) := by decide +kernel
theorem dX5_isRefused_149 : decode cX5_isRefused 149 = .ok (.iconst 1, 1) := by decide +kernel
theorem dX5_isRefused_150 : decode cX5_isRefused 150 = .ok (.ireturn, 1) := by decide +kernel
theorem dX5_isRefused_151 : decode cX5_isRefused 151 = .ok (.iload_n 1, 1) := by decide +kernel
theorem dX5_isRefused_152 : decode cX5_isRefused 152 = .ok (.bipush 32, 2) := by decide +kernel
theorem dX5_isRefused_154 : decode cX5_isRefused 154 = .ok (.if_icmp .ne 17, 3) := by decide +kernel
theorem dX5_isRefused_157 : decode cX5_isRefused 157 = .ok (.aload_n 0, 1) := by decide +kernel
theorem dX5_isRefused_158 : decode cX5_isRefused 158 = .ok (.iconst 2, 1) := by decide +kernel
theorem dX5_isRefused_159 : decode cX5_isRefused 159 = .ok (.iload_n 3, 1) := by decide +kernel
theorem dX5_isRefused_160 : decode cX5_isRefused 160 = .ok (.aload_n 0, 1) := by decide +kernel
theorem dX5_isRefused_161 : decode cX5_isRefused 161 = .ok (.getfield 13, 3) := by decide +kernel
theorem dX5_isRefused_164 : decode cX5_isRefused 164 = .ok (.iconst 4, 1) := by decide +kernel
theorem dX5_isRefused_165 : decode cX5_isRefused 165 = .ok (.iaload, 1) := by decide +kernel
theorem dX5_isRefused_166 : decode cX5_isRefused 166 = .ok (.invokevirtual 116, 3) := by decide +kernel
theorem dX5_isRefused_169 : decode cX5_isRefused 169 = .ok (.iconst 0, 1) := by decide +kernel
theorem dX5_isRefused_170 : decode cX5_isRefused 170 = .ok (.ireturn, 1) := by decide +kernel
theorem dX5_isRefused_171 : decode cX5_isRefused 171 = .ok (.iconst 0, 1) := by decide +kernel
theorem dX5_isRefused_172 : decode cX5_isRefused 172 = .ok (.istore 4, 2) := by decide +kernel
theorem dX5_isRefused_174 : decode cX5_isRefused 174 = .ok (.iload 4, 2) := by decide +kernel
theorem dX5_isRefused_176 : decode cX5_isRefused 176 = .ok (.aload_n 0, 1) := by decide +kernel
theorem dX5_isRefused_177 : decode cX5_isRefused 177 = .ok (.getfield 13, 3) := by decide +kernel
theorem dX5_isRefused_180 : decode cX5_isRefused 180 = .ok (.iconst 0, 1) := by decide +kernel
theorem dX5_isRefused_181 : decode cX5_isRefused 181 = .ok (.iaload, 1) := by decide +kernel
theorem dX5_isRefused_182 : decode cX5_isRefused 182 = .ok (.if_icmp .ge 80, 3) := by decide +kernel
theorem dX5_isRefused_185 : decode cX5_isRefused 185 = .ok (.iload_n 2, 1) := by decide +kernel
theorem dX5_isRefused_186 : decode cX5_isRefused 186 = .ok (.aload_n 0, 1) := by decide +kernel
theorem dX5_isRefused_187 : decode cX5_isRefused 187 = .ok (.getfield 13, 3) := by decide +kernel
theorem dX5_isRefused_190 : decode cX5_isRefused 190 = .ok (.iconst 0, 1) := by decide +kernel
theorem dX5_isRefused_191 : decode cX5_isRefused 191 = .ok (.iaload, 1) := by decide +kernel
theorem dX5_isRefused_192 : decode cX5_isRefused 192 = .ok (.idiv, 1) := by decide +kernel
theorem dX5_isRefused_193 : decode cX5_isRefused 193 = .ok (.aload_n 0, 1) := by decide +kernel
theorem dX5_isRefused_194 : decode cX5_isRefused 194 = .ok (.getfield 13, 3) := by decide +kernel
theorem dX5_isRefused_197 : decode cX5_isRefused 197 = .ok (.iconst 0, 1) := by decide +kernel
theorem dX5_isRefused_198 : decode cX5_isRefused 198 = .ok (.iaload, 1) := by decide +kernel
theorem dX5_isRefused_199 : decode cX5_isRefused 199 = .ok (.imul, 1) := by decide +kernel
theorem dX5_isRefused_200 : decode cX5_isRefused 200 = .ok (.iload 4, 2) := by decide +kernel
theorem dX5_isRefused_202 : decode cX5_isRefused 202 = .ok (.iadd, 1) := by decide +kernel
theorem dX5_isRefused_203 : decode cX5_isRefused 203 = .ok (.istore 5, 2) := by decide +kernel
theorem dX5_isRefused_205 : decode cX5_isRefused 205 = .ok (.aload_n 0, 1) := by decide +kernel
theorem dX5_isRefused_206 : decode cX5_isRefused 206 = .ok (.getfield 19, 3) := by decide +kernel
theorem dX5_isRefused_209 : decode cX5_isRefused 209 = .ok (.iload 5, 2) := by decide +kernel
theorem dX5_isRefused_211 : decode cX5_isRefused 211 = .ok (.aload_n 0, 1) := by decide +kernel
theorem dX5_isRefused_212 : decode cX5_isRefused 212 = .ok (.getfield 19, 3) := by decide +kernel
theorem dX5_isRefused_215 : decode cX5_isRefused 215 = .ok (.sipush 272, 3) := by decide +kernel
theorem dX5_isRefused_218 : decode cX5_isRefused 218 = .ok (.iload 4, 2) := by decide +kernel
theorem dX5_isRefused_220 : decode cX5_isRefused 220 = .ok (.iadd, 1) := by decide +kernel
theorem dX5_isRefused_221 : decode cX5_isRefused 221 = .ok (.iaload, 1) := by decide +kernel
theorem dX5_isRefused_222 : decode cX5_isRefused 222 = .ok (.iconst 1, 1) := by decide +kernel
theorem dX5_isRefused_223 : decode cX5_isRefused 223 = .ok (.if_icmp .ne 25, 3) := by decide +kernel
theorem dX5_isRefused_226 : decode cX5_isRefused 226 = .ok (.aload_n 0, 1) := by decide +kernel
theorem dX5_isRefused_227 : decode cX5_isRefused 227 = .ok (.getfield 19, 3) := by decide +kernel
theorem dX5_isRefused_230 : decode cX5_isRefused 230 = .ok (.iload 5, 2) := by decide +kernel
theorem dX5_isRefused_232 : decode cX5_isRefused 232 = .ok (.iaload, 1) := by decide +kernel
theorem dX5_isRefused_233 : decode cX5_isRefused 233 = .ok (.aload_n 0, 1) := by decide +kernel
theorem dX5_isRefused_234 : decode cX5_isRefused 234 = .ok (.getfield 19, 3) := by decide +kernel
theorem dX5_isRefused_237 : decode cX5_isRefused 237 = .ok (.sipush 256, 3) := by decide +kernel
theorem dX5_isRefused_240 : decode cX5_isRefused 240 = .ok (.iload 4, 2) := by decide +kernel
theorem dX5_isRefused_242 : decode cX5_isRefused 242 = .ok (.iadd, 1) := by decide +kernel
theorem dX5_isRefused_243 : decode cX5_isRefused 243 = .ok (.iaload, 1) := by decide +kernel
theorem dX5_isRefused_244 : decode cX5_isRefused 244 = .ok (.iand, 1) := by decide +kernel
theorem dX5_isRefused_245 : decode cX5_isRefused 245 = .ok (.goto 10, 3) := by decide +kernel
theorem dX5_isRefused_248 : decode cX5_isRefused 248 = .ok (.aload_n 0, 1) := by decide +kernel
theorem dX5_isRefused_249 : decode cX5_isRefused 249 = .ok (.getfield 19, 3) := by decide +kernel
theorem dX5_isRefused_252 : decode cX5_isRefused 252 = .ok (.iload 5, 2) := by decide +kernel
theorem dX5_isRefused_254 : decode cX5_isRefused 254 = .ok (.iaload, 1) := by decide +kernel
theorem dX5_isRefused_255 : decode cX5_isRefused 255 = .ok (.iastore, 1) := by decide +kernel
theorem dX5_isRefused_256 : decode cX5_isRefused 256 = .ok (.iinc 4 1, 3) := by decide +kernel
theorem dX5_isRefused_259 : decode cX5_isRefused 259 = .ok (.goto (-85), 3) := by decide +kernel
theorem dX5_isRefused_262 : decode cX5_isRefused 262 = .ok (.aload_n 0, 1) := by decide +kernel
theorem dX5_isRefused_263 : decode cX5_isRefused 263 = .ok (.iconst 1, 1) := by decide +kernel
theorem dX5_isRefused_264 : decode cX5_isRefused 264 = .ok (.iload_n 3, 1) := by decide +kernel
theorem dX5_isRefused_265 : decode cX5_isRefused 265 = .ok (.aload_n 0, 1) := by decide +kernel
theorem dX5_isRefused_266 : decode cX5_isRefused 266 = .ok (.getfield 13, 3) := by decide +kernel
theorem dX5_isRefused_269 : decode cX5_isRefused 269 = .ok (.iconst 3, 1) := by decide +kernel
theorem dX5_isRefused_270 : decode cX5_isRefused 270 = .ok (.iaload, 1) := by decide +kernel
theorem dX5_isRefused_271 : decode cX5_isRefused 271 = .ok (.invokevirtual 116, 3) := by decide +kernel
theorem dX5_isRefused_274 : decode cX5_isRefused 274 = .ok (.iconst 0, 1) := by decide +kernel
theorem dX5_isRefused_275 : decode cX5_isRefused 275 = .ok (.ireturn, 1) := by decide +kernel
theorem dX5_wants_0 : decode cX5_wants 0 = .ok (.aload_n 0, 1) := by decide +kernel
theorem dX5_wants_1 : decode cX5_wants 1 = .ok (.getfield 19, 3) := by decide +kernel
theorem dX5_wants_4 : decode cX5_wants 4 = .ok (.sipush 290, 3) := by decide +kernel
theorem dX5_wants_7 : decode cX5_wants 7 = .ok (.iaload, 1) := by decide +kernel
theorem dX5_wants_8 : decode cX5_wants 8 = .ok (.iconst 1, 1) := by decide +kernel
theorem dX5_wants_9 : decode cX5_wants 9 = .ok (.if_icmp .ne 40, 3) := by decide +kernel
theorem dX5_wants_12 : decode cX5_wants 12 = .ok (.aload_n 0, 1) := by decide +kernel
theorem dX5_wants_13 : decode cX5_wants 13 = .ok (.getfield 19, 3) := by decide +kernel
theorem dX5_wants_16 : decode cX5_wants 16 = .ok (.sipush 290, 3) := by decide +kernel
theorem dX5_wants_19 : decode cX5_wants 19 = .ok (.iconst 0, 1) := by decide +kernel
theorem dX5_wants_20 : decode cX5_wants 20 = .ok (.iastore, 1) := by decide +kernel
theorem dX5_wants_21 : decode cX5_wants 21 = .ok (.aload_n 0, 1) := by decide +kernel
theorem dX5_wants_22 : decode cX5_wants 22 = .ok (.getfield 19, 3) := by decide +kernel
theorem dX5_wants_25 : decode cX5_wants 25 = .ok (.sipush 291, 3) := by decide +kernel
theorem dX5_wants_28 : decode cX5_wants 28 = .ok (.aload_n 0, 1) := by decide +kernel
theorem dX5_wants_29 : decode cX5_wants 29 = .ok (.iload_n 1, 1) := by decide +kernel
theorem dX5_wants_30 : decode cX5_wants 30 = .ok (.invokevirtual 120, 3) := by decide +kernel
theorem dX5_wants_33 : decode cX5_wants 33 = .ok (.ifCond .eq 7, 3) := by decide +kernel
theorem dX5_wants_36 : decode cX5_wants 36 = .ok (.iconst 1, 1) := by decide +kernel
theorem dX5_wants_37 : decode cX5_wants 37 = .ok (.goto 11, 3) := by decide +kernel
theorem dX5_wants_40 : decode cX5_wants 40 = .ok (.aload_n 0, 1) := by decide +kernel
theorem dX5_wants_41 : decode cX5_wants 41 = .ok (.getfield 19, 3) := by decide +kernel
theorem dX5_wants_44 : decode cX5_wants 44 = .ok (.sipush 291, 3) := by decide +kernel
theorem dX5_wants_47 : decode cX5_wants 47 = .ok (.iaload, 1) := by decide +kernel
theorem dX5_wants_48 : decode cX5_wants 48 = .ok (.iastore, 1) := by decide +kernel
theorem dX5_wants_49 : decode cX5_wants 49 = .ok (.return_, 1) := by decide +kernel
theorem dX5_does_0 : decode cX5_does 0 = .ok (.iload_n 1, 1) := by decide +kernel
theorem dX5_does_1 : decode cX5_does 1 = .ok (.lookupswitch 193 #[(4, 64), (6, 43), (122, 76), (153, 142)], 43) := by decide +kernel
theorem dX5_does_44 : decode cX5_does 44 = .ok (.aload_n 0, 1) := by decide +kernel
theorem dX5_does_45 : decode cX5_does 45 = .ok (.getfield 19, 3) := by decide +kernel
theorem dX5_does_48 : decode cX5_does 48 = .ok (.sipush 290, 3) := by decide +kernel
theorem dX5_does_51 : decode cX5_does 51 = .ok (.iconst 1, 1) := by decide +kernel
theorem dX5_does_52 : decode cX5_does 52 = .ok (.iastore, 1) := by decide +kernel
theorem dX5_does_53 : decode cX5_does 53 = .ok (.aload_n 0, 1) := by decide +kernel
theorem dX5_does_54 : decode cX5_does 54 = .ok (.getfield 19, 3) := by decide +kernel
theorem dX5_does_57 : decode cX5_does 57 = .ok (.sipush 291, 3) := by decide +kernel
theorem dX5_does_60 : decode cX5_does 60 = .ok (.iconst 0, 1) := by decide +kernel
theorem dX5_does_61 : decode cX5_does 61 = .ok (.iastore, 1) := by decide +kernel
theorem dX5_does_62 : decode cX5_does 62 = .ok (.goto 132, 3) := by decide +kernel
theorem dX5_does_65 : decode cX5_does 65 = .ok (.aload_n 0, 1) := by decide +kernel
theorem dX5_does_66 : decode cX5_does 66 = .ok (.getfield 19, 3) := by decide +kernel
theorem dX5_does_69 : decode cX5_does 69 = .ok (.sipush 290, 3) := by decide +kernel
theorem dX5_does_72 : decode cX5_does 72 = .ok (.iconst 0, 1) := by decide +kernel
theorem dX5_does_73 : decode cX5_does 73 = .ok (.iastore, 1) := by decide +kernel
theorem dX5_does_74 : decode cX5_does 74 = .ok (.goto 120, 3) := by decide +kernel
theorem dX5_does_77 : decode cX5_does 77 = .ok (.aload_n 0, 1) := by decide +kernel
theorem dX5_does_78 : decode cX5_does 78 = .ok (.getfield 19, 3) := by decide +kernel
theorem dX5_does_81 : decode cX5_does 81 = .ok (.sipush 296, 3) := by decide +kernel
theorem dX5_does_84 : decode cX5_does 84 = .ok (.iaload, 1) := by decide +kernel
theorem dX5_does_85 : decode cX5_does 85 = .ok (.ifCond .le 109, 3) := by decide +kernel
theorem dX5_does_88 : decode cX5_does 88 = .ok (.aload_n 0, 1) := by decide +kernel
theorem dX5_does_89 : decode cX5_does 89 = .ok (.getfield 19, 3) := by decide +kernel
theorem dX5_does_92 : decode cX5_does 92 = .ok (.sipush 293, 3) := by decide +kernel
theorem dX5_does_95 : decode cX5_does 95 = .ok (.iconst 2, 1) := by decide +kernel
theorem dX5_does_96 : decode cX5_does 96 = .ok (.iastore, 1) := by decide +kernel
theorem dX5_does_97 : decode cX5_does 97 = .ok (.aload_n 0, 1) := by decide +kernel
theorem dX5_does_98 : decode cX5_does 98 = .ok (.getfield 19, 3) := by decide +kernel
theorem dX5_does_101 : decode cX5_does 101 = .ok (.sipush 294, 3) := by decide +kernel
theorem dX5_does_104 : decode cX5_does 104 = .ok (.aload_n 0, 1) := by decide +kernel
theorem dX5_does_105 : decode cX5_does 105 = .ok (.getfield 19, 3) := by decide +kernel
theorem dX5_does_108 : decode cX5_does 108 = .ok (.sipush 296, 3) := by decide +kernel
theorem dX5_does_111 : decode cX5_does 111 = .ok (.iaload, 1) := by decide +kernel
theorem dX5_does_112 : decode cX5_does 112 = .ok (.iconst 1, 1) := by decide +kernel
theorem dX5_does_113 : decode cX5_does 113 = .ok (.isub, 1) := by decide +kernel
theorem dX5_does_114 : decode cX5_does 114 = .ok (.iastore, 1) := by decide +kernel
theorem dX5_does_115 : decode cX5_does 115 = .ok (.aload_n 0, 1) := by decide +kernel
theorem dX5_does_116 : decode cX5_does 116 = .ok (.getfield 19, 3) := by decide +kernel
theorem dX5_does_119 : decode cX5_does 119 = .ok (.sipush 295, 3) := by decide +kernel
theorem dX5_does_122 : decode cX5_does 122 = .ok (.aload_n 0, 1) := by decide +kernel
theorem dX5_does_123 : decode cX5_does 123 = .ok (.getfield 19, 3) := by decide +kernel
theorem dX5_does_126 : decode cX5_does 126 = .ok (.sipush 297, 3) := by decide +kernel
theorem dX5_does_129 : decode cX5_does 129 = .ok (.iaload, 1) := by decide +kernel
theorem dX5_does_130 : decode cX5_does 130 = .ok (.iastore, 1) := by decide +kernel
theorem dX5_does_131 : decode cX5_does 131 = .ok (.aload_n 0, 1) := by decide +kernel
theorem dX5_does_132 : decode cX5_does 132 = .ok (.getfield 19, 3) := by decide +kernel
theorem dX5_does_135 : decode cX5_does 135 = .ok (.sipush 296, 3) := by decide +kernel
theorem dX5_does_138 : decode cX5_does 138 = .ok (.iconst 0, 1) := by decide +kernel
theorem dX5_does_139 : decode cX5_does 139 = .ok (.iastore, 1) := by decide +kernel
theorem dX5_does_140 : decode cX5_does 140 = .ok (.goto 54, 3) := by decide +kernel
theorem dX5_does_143 : decode cX5_does 143 = .ok (.aload_n 0, 1) := by decide +kernel
theorem dX5_does_144 : decode cX5_does 144 = .ok (.getfield 19, 3) := by decide +kernel
theorem dX5_does_147 : decode cX5_does 147 = .ok (.sipush 303, 3) := by decide +kernel
theorem dX5_does_150 : decode cX5_does 150 = .ok (.iaload, 1) := by decide +kernel
theorem dX5_does_151 : decode cX5_does 151 = .ok (.iconst 1, 1) := by decide +kernel
theorem dX5_does_152 : decode cX5_does 152 = .ok (.if_icmp .ne 42, 3) := by decide +kernel
theorem dX5_does_155 : decode cX5_does 155 = .ok (.aload_n 0, 1) := by decide +kernel
theorem dX5_does_156 : decode cX5_does 156 = .ok (.getfield 19, 3) := by decide +kernel
theorem dX5_does_159 : decode cX5_does 159 = .ok (.sipush 289, 3) := by decide +kernel
theorem dX5_does_162 : decode cX5_does 162 = .ok (.iconst 0, 1) := by decide +kernel
theorem dX5_does_163 : decode cX5_does 163 = .ok (.iastore, 1) := by decide +kernel
theorem dX5_does_164 : decode cX5_does 164 = .ok (.aload_n 0, 1) := by decide +kernel
theorem dX5_does_165 : decode cX5_does 165 = .ok (.getfield 19, 3) := by decide +kernel
theorem dX5_does_168 : decode cX5_does 168 = .ok (.sipush 290, 3) := by decide +kernel
theorem dX5_does_171 : decode cX5_does 171 = .ok (.iconst 0, 1) := by decide +kernel
theorem dX5_does_172 : decode cX5_does 172 = .ok (.iastore, 1) := by decide +kernel
theorem dX5_does_173 : decode cX5_does 173 = .ok (.aload_n 0, 1) := by decide +kernel
theorem dX5_does_174 : decode cX5_does 174 = .ok (.getfield 19, 3) := by decide +kernel
theorem dX5_does_177 : decode cX5_does 177 = .ok (.sipush 291, 3) := by decide +kernel
theorem dX5_does_180 : decode cX5_does 180 = .ok (.iconst 0, 1) := by decide +kernel
theorem dX5_does_181 : decode cX5_does 181 = .ok (.iastore, 1) := by decide +kernel
theorem dX5_does_182 : decode cX5_does 182 = .ok (.aload_n 0, 1) := by decide +kernel
theorem dX5_does_183 : decode cX5_does 183 = .ok (.getfield 19, 3) := by decide +kernel
theorem dX5_does_186 : decode cX5_does 186 = .ok (.sipush 296, 3) := by decide +kernel
theorem dX5_does_189 : decode cX5_does 189 = .ok (.iconst 0, 1) := by decide +kernel
theorem dX5_does_190 : decode cX5_does 190 = .ok (.iastore, 1) := by decide +kernel
theorem dX5_does_191 : decode cX5_does 191 = .ok (.goto 3, 3) := by decide +kernel
theorem dX5_does_194 : decode cX5_does 194 = .ok (.return_, 1) := by decide +kernel
theorem dX5_tells_0 : decode cX5_tells 0 = .ok (.aload_n 0, 1) := by decide +kernel
theorem dX5_tells_1 : decode cX5_tells 1 = .ok (.getfield 19, 3) := by decide +kernel
theorem dX5_tells_4 : decode cX5_tells 4 = .ok (.sipush 301, 3) := by decide +kernel
theorem dX5_tells_7 : decode cX5_tells 7 = .ok (.iaload, 1) := by decide +kernel
theorem dX5_tells_8 : decode cX5_tells 8 = .ok (.aload_n 0, 1) := by decide +kernel
theorem dX5_tells_9 : decode cX5_tells 9 = .ok (.invokevirtual 89, 3) := by decide +kernel
theorem dX5_tells_12 : decode cX5_tells 12 = .ok (.irem, 1) := by decide +kernel
theorem dX5_tells_13 : decode cX5_tells 13 = .ok (.aload_n 0, 1) := by decide +kernel
theorem dX5_tells_14 : decode cX5_tells 14 = .ok (.invokevirtual 110, 3) := by decide +kernel
theorem dX5_tells_17 : decode cX5_tells 17 = .ok (.idiv, 1) := by decide +kernel
theorem dX5_tells_18 : decode cX5_tells 18 = .ok (.istore_n 2, 1) := by decide +kernel
theorem dX5_tells_19 : decode cX5_tells 19 = .ok (.iload_n 1, 1) := by decide +kernel
theorem dX5_tells_20 : decode cX5_tells 20 = .ok (.bipush 49, 2) := by decide +kernel
theorem dX5_tells_22 : decode cX5_tells 22 = .ok (.if_icmp .ne 34, 3) := by decide +kernel
theorem dX5_tells_25 : decode cX5_tells 25 = .ok (.aload_n 0, 1) := by decide +kernel
theorem dX5_tells_26 : decode cX5_tells 26 = .ok (.getfield 19, 3) := by decide +kernel
theorem dX5_tells_29 : decode cX5_tells 29 = .ok (.sipush 302, 3) := by decide +kernel
theorem dX5_tells_32 : decode cX5_tells 32 = .ok (.iaload, 1) := by decide +kernel
theorem dX5_tells_33 : decode cX5_tells 33 = .ok (.iconst 4, 1) := by decide +kernel
theorem dX5_tells_34 : decode cX5_tells 34 = .ok (.if_icmp .ge 22, 3) := by decide +kernel
theorem dX5_tells_37 : decode cX5_tells 37 = .ok (.aload_n 0, 1) := by decide +kernel
theorem dX5_tells_38 : decode cX5_tells 38 = .ok (.getfield 19, 3) := by decide +kernel
theorem dX5_tells_41 : decode cX5_tells 41 = .ok (.sipush 289, 3) := by decide +kernel
theorem dX5_tells_44 : decode cX5_tells 44 = .ok (.aload_n 0, 1) := by decide +kernel
theorem dX5_tells_45 : decode cX5_tells 45 = .ok (.getfield 19, 3) := by decide +kernel
theorem dX5_tells_48 : decode cX5_tells 48 = .ok (.sipush 302, 3) := by decide +kernel
theorem dX5_tells_51 : decode cX5_tells 51 = .ok (.iaload, 1) := by decide +kernel
theorem dX5_tells_52 : decode cX5_tells 52 = .ok (.iastore, 1) := by decide +kernel
theorem dX5_tells_53 : decode cX5_tells 53 = .ok (.goto 67, 3) := by decide +kernel
theorem dX5_tells_56 : decode cX5_tells 56 = .ok (.iload_n 1, 1) := by decide +kernel
theorem dX5_tells_57 : decode cX5_tells 57 = .ok (.bipush 54, 2) := by decide +kernel
theorem dX5_tells_59 : decode cX5_tells 59 = .ok (.if_icmp .ne 20, 3) := by decide +kernel
theorem dX5_tells_62 : decode cX5_tells 62 = .ok (.aload_n 0, 1) := by decide +kernel
theorem dX5_tells_63 : decode cX5_tells 63 = .ok (.getfield 19, 3) := by decide +kernel
theorem dX5_tells_66 : decode cX5_tells 66 = .ok (.sipush 288, 3) := by decide +kernel
theorem dX5_tells_69 : decode cX5_tells 69 = .ok (.dup2, 1) := by decide +kernel
theorem dX5_tells_70 : decode cX5_tells 70 = .ok (.iaload, 1) := by decide +kernel
theorem dX5_tells_71 : decode cX5_tells 71 = .ok (.iconst 1, 1) := by decide +kernel
theorem dX5_tells_72 : decode cX5_tells 72 = .ok (.iload_n 2, 1) := by decide +kernel
theorem dX5_tells_73 : decode cX5_tells 73 = .ok (.ishl, 1) := by decide +kernel
theorem dX5_tells_74 : decode cX5_tells 74 = .ok (.ior, 1) := by decide +kernel
theorem dX5_tells_75 : decode cX5_tells 75 = .ok (.iastore, 1) := by decide +kernel
theorem dX5_tells_76 : decode cX5_tells 76 = .ok (.goto 44, 3) := by decide +kernel
theorem dX5_tells_79 : decode cX5_tells 79 = .ok (.iload_n 1, 1) := by decide +kernel
theorem dX5_tells_80 : decode cX5_tells 80 = .ok (.bipush 57, 2) := by decide +kernel
theorem dX5_tells_82 : decode cX5_tells 82 = .ok (.if_icmp .ne 22, 3) := by decide +kernel
theorem dX5_tells_85 : decode cX5_tells 85 = .ok (.aload_n 0, 1) := by decide +kernel
theorem dX5_tells_86 : decode cX5_tells 86 = .ok (.getfield 19, 3) := by decide +kernel
theorem dX5_tells_89 : decode cX5_tells 89 = .ok (.sipush 288, 3) := by decide +kernel
theorem dX5_tells_92 : decode cX5_tells 92 = .ok (.dup2, 1) := by decide +kernel
theorem dX5_tells_93 : decode cX5_tells 93 = .ok (.iaload, 1) := by decide +kernel
theorem dX5_tells_94 : decode cX5_tells 94 = .ok (.iconst 1, 1) := by decide +kernel
theorem dX5_tells_95 : decode cX5_tells 95 = .ok (.iload_n 2, 1) := by decide +kernel
theorem dX5_tells_96 : decode cX5_tells 96 = .ok (.ishl, 1) := by decide +kernel
theorem dX5_tells_97 : decode cX5_tells 97 = .ok (.iconst (-1), 1) := by decide +kernel
theorem dX5_tells_98 : decode cX5_tells 98 = .ok (.ixor, 1) := by decide +kernel
theorem dX5_tells_99 : decode cX5_tells 99 = .ok (.iand, 1) := by decide +kernel
theorem dX5_tells_100 : decode cX5_tells 100 = .ok (.iastore, 1) := by decide +kernel
theorem dX5_tells_101 : decode cX5_tells 101 = .ok (.goto 19, 3) := by decide +kernel
theorem dX5_tells_104 : decode cX5_tells 104 = .ok (.iload_n 1, 1) := by decide +kernel
theorem dX5_tells_105 : decode cX5_tells 105 = .ok (.iconst 1, 1) := by decide +kernel
theorem dX5_tells_106 : decode cX5_tells 106 = .ok (.if_icmp .eq 9, 3) := by decide +kernel
theorem dX5_tells_109 : decode cX5_tells 109 = .ok (.iload_n 1, 1) := by decide +kernel
theorem dX5_tells_110 : decode cX5_tells 110 = .ok (.bipush 32, 2) := by decide +kernel
theorem dX5_tells_112 : decode cX5_tells 112 = .ok (.if_icmp .ne 8, 3) := by decide +kernel
theorem dX5_tells_115 : decode cX5_tells 115 = .ok (.aload_n 0, 1) := by decide +kernel
theorem dX5_tells_116 : decode cX5_tells 116 = .ok (.iload_n 1, 1) := by decide +kernel
theorem dX5_tells_117 : decode cX5_tells 117 = .ok (.invokevirtual 123, 3) := by decide +kernel
theorem dX5_tells_120 : decode cX5_tells 120 = .ok (.return_, 1) := by decide +kernel
theorem dX5_suspends_0 : decode cX5_suspends 0 = .ok (.aload_n 0, 1) := by decide +kernel
theorem dX5_suspends_1 : decode cX5_suspends 1 = .ok (.getfield 19, 3) := by decide +kernel
theorem dX5_suspends_4 : decode cX5_suspends 4 = .ok (.sipush 293, 3) := by decide +kernel
theorem dX5_suspends_7 : decode cX5_suspends 7 = .ok (.iaload, 1) := by decide +kernel
theorem dX5_suspends_8 : decode cX5_suspends 8 = .ok (.iconst 2, 1) := by decide +kernel
theorem dX5_suspends_9 : decode cX5_suspends 9 = .ok (.if_icmp .ne 46, 3) := by decide +kernel
theorem dX5_suspends_12 : decode cX5_suspends 12 = .ok (.aload_n 0, 1) := by decide +kernel
theorem dX5_suspends_13 : decode cX5_suspends 13 = .ok (.getfield 19, 3) := by decide +kernel
theorem dX5_suspends_16 : decode cX5_suspends 16 = .ok (.sipush 296, 3) := by decide +kernel
theorem dX5_suspends_19 : decode cX5_suspends 19 = .ok (.aload_n 0, 1) := by decide +kernel
theorem dX5_suspends_20 : decode cX5_suspends 20 = .ok (.getfield 19, 3) := by decide +kernel
theorem dX5_suspends_23 : decode cX5_suspends 23 = .ok (.sipush 294, 3) := by decide +kernel
theorem dX5_suspends_26 : decode cX5_suspends 26 = .ok (.iaload, 1) := by decide +kernel
theorem dX5_suspends_27 : decode cX5_suspends 27 = .ok (.iconst 1, 1) := by decide +kernel
theorem dX5_suspends_28 : decode cX5_suspends 28 = .ok (.iadd, 1) := by decide +kernel
theorem dX5_suspends_29 : decode cX5_suspends 29 = .ok (.iastore, 1) := by decide +kernel
theorem dX5_suspends_30 : decode cX5_suspends 30 = .ok (.aload_n 0, 1) := by decide +kernel
theorem dX5_suspends_31 : decode cX5_suspends 31 = .ok (.getfield 19, 3) := by decide +kernel
theorem dX5_suspends_34 : decode cX5_suspends 34 = .ok (.sipush 297, 3) := by decide +kernel
theorem dX5_suspends_37 : decode cX5_suspends 37 = .ok (.aload_n 0, 1) := by decide +kernel
theorem dX5_suspends_38 : decode cX5_suspends 38 = .ok (.getfield 19, 3) := by decide +kernel
theorem dX5_suspends_41 : decode cX5_suspends 41 = .ok (.sipush 295, 3) := by decide +kernel
theorem dX5_suspends_44 : decode cX5_suspends 44 = .ok (.iaload, 1) := by decide +kernel
theorem dX5_suspends_45 : decode cX5_suspends 45 = .ok (.iastore, 1) := by decide +kernel
theorem dX5_suspends_46 : decode cX5_suspends 46 = .ok (.aload_n 0, 1) := by decide +kernel
theorem dX5_suspends_47 : decode cX5_suspends 47 = .ok (.getfield 19, 3) := by decide +kernel
theorem dX5_suspends_50 : decode cX5_suspends 50 = .ok (.sipush 293, 3) := by decide +kernel
theorem dX5_suspends_53 : decode cX5_suspends 53 = .ok (.iconst 0, 1) := by decide +kernel
theorem dX5_suspends_54 : decode cX5_suspends 54 = .ok (.iastore, 1) := by decide +kernel
theorem dX5_suspends_55 : decode cX5_suspends 55 = .ok (.return_, 1) := by decide +kernel
theorem dX5_releases_0 : decode cX5_releases 0 = .ok (.aload_n 0, 1) := by decide +kernel
theorem dX5_releases_1 : decode cX5_releases 1 = .ok (.getfield 19, 3) := by decide +kernel
theorem dX5_releases_4 : decode cX5_releases 4 = .ok (.sipush 299, 3) := by decide +kernel
theorem dX5_releases_7 : decode cX5_releases 7 = .ok (.iaload, 1) := by decide +kernel
theorem dX5_releases_8 : decode cX5_releases 8 = .ok (.istore_n 1, 1) := by decide +kernel
theorem dX5_releases_9 : decode cX5_releases 9 = .ok (.iload_n 1, 1) := by decide +kernel
theorem dX5_releases_10 : decode cX5_releases 10 = .ok (.ifCond .le 14, 3) := by decide +kernel
theorem dX5_releases_13 : decode cX5_releases 13 = .ok (.aload_n 0, 1) := by decide +kernel
theorem dX5_releases_14 : decode cX5_releases 14 = .ok (.getfield 19, 3) := by decide +kernel
theorem dX5_releases_17 : decode cX5_releases 17 = .ok (.sipush 300, 3) := by decide +kernel
theorem dX5_releases_20 : decode cX5_releases 20 = .ok (.iaload, 1) := by decide +kernel
theorem dX5_releases_21 : decode cX5_releases 21 = .ok (.goto 4, 3) := by decide +kernel
theorem dX5_releases_24 : decode cX5_releases 24 = .ok (.iconst (-1), 1) := by decide +kernel
theorem dX5_releases_25 : decode cX5_releases 25 = .ok (.istore_n 2, 1) := by decide +kernel
theorem dX5_releases_26 : decode cX5_releases 26 = .ok (.aload_n 0, 1) := by decide +kernel
theorem dX5_releases_27 : decode cX5_releases 27 = .ok (.getfield 19, 3) := by decide +kernel
theorem dX5_releases_30 : decode cX5_releases 30 = .ok (.sipush 293, 3) := by decide +kernel
theorem dX5_releases_33 : decode cX5_releases 33 = .ok (.iaload, 1) := by decide +kernel
theorem dX5_releases_34 : decode cX5_releases 34 = .ok (.ifCond .ne 7, 3) := by decide +kernel
theorem dX5_releases_37 : decode cX5_releases 37 = .ok (.iconst 1, 1) := by decide +kernel
theorem dX5_releases_38 : decode cX5_releases 38 = .ok (.goto 4, 3) := by decide +kernel
theorem dX5_releases_41 : decode cX5_releases 41 = .ok (.iconst 0, 1) := by decide +kernel
theorem dX5_releases_42 : decode cX5_releases 42 = .ok (.istore_n 3, 1) := by decide +kernel
theorem dX5_releases_43 : decode cX5_releases 43 = .ok (.iload_n 3, 1) := by decide +kernel
theorem dX5_releases_44 : decode cX5_releases 44 = .ok (.ifCond .ne 21, 3) := by decide +kernel
theorem dX5_releases_47 : decode cX5_releases 47 = .ok (.iload_n 2, 1) := by decide +kernel
theorem dX5_releases_48 : decode cX5_releases 48 = .ok (.bipush 117, 2) := by decide +kernel
theorem dX5_releases_50 : decode cX5_releases 50 = .ok (.if_icmp .ne 15, 3) := by decide +kernel
theorem dX5_releases_53 : decode cX5_releases 53 = .ok (.iload_n 1, 1) := by decide +kernel
theorem dX5_releases_54 : decode cX5_releases 54 = .ok (.iconst 1, 1) := by decide +kernel
theorem dX5_releases_55 : decode cX5_releases 55 = .ok (.if_icmp .ne 10, 3) := by decide +kernel
theorem dX5_releases_58 : decode cX5_releases 58 = .ok (.aload_n 0, 1) := by decide +kernel
theorem dX5_releases_59 : decode cX5_releases 59 = .ok (.invokevirtual 127, 3) := by decide +kernel
theorem dX5_releases_62 : decode cX5_releases 62 = .ok (.goto 80, 3) := by decide +kernel
theorem dX5_releases_65 : decode cX5_releases 65 = .ok (.iload_n 3, 1) := by decide +kernel
theorem dX5_releases_66 : decode cX5_releases 66 = .ok (.ifCond .eq 23, 3) := by decide +kernel
theorem dX5_releases_69 : decode cX5_releases 69 = .ok (.iload_n 1, 1) := by decide +kernel
theorem dX5_releases_70 : decode cX5_releases 70 = .ok (.iconst 1, 1) := by decide +kernel
theorem dX5_releases_71 : decode cX5_releases 71 = .ok (.if_icmp .ne 18, 3) := by decide +kernel
theorem dX5_releases_74 : decode cX5_releases 74 = .ok (.iload_n 2, 1) := by decide +kernel
theorem dX5_releases_75 : decode cX5_releases 75 = .ok (.sipush 199, 3) := by decide +kernel
theorem dX5_releases_78 : decode cX5_releases 78 = .ok (.if_icmp .ne 11, 3) := by decide +kernel
theorem dX5_releases_81 : decode cX5_releases 81 = .ok (.aload_n 0, 1) := by decide +kernel
theorem dX5_releases_82 : decode cX5_releases 82 = .ok (.iload_n 2, 1) := by decide +kernel
theorem dX5_releases_83 : decode cX5_releases 83 = .ok (.invokevirtual 123, 3) := by decide +kernel
theorem dX5_releases_86 : decode cX5_releases 86 = .ok (.goto 56, 3) := by decide +kernel
theorem dX5_releases_89 : decode cX5_releases 89 = .ok (.iload_n 3, 1) := by decide +kernel
theorem dX5_releases_90 : decode cX5_releases 90 = .ok (.ifCond .eq 16, 3) := by decide +kernel
theorem dX5_releases_93 : decode cX5_releases 93 = .ok (.iload_n 1, 1) := by decide +kernel
theorem dX5_releases_94 : decode cX5_releases 94 = .ok (.iconst 1, 1) := by decide +kernel
theorem dX5_releases_95 : decode cX5_releases 95 = .ok (.if_icmp .ne 11, 3) := by decide +kernel
theorem dX5_releases_98 : decode cX5_releases 98 = .ok (.aload_n 0, 1) := by decide +kernel
theorem dX5_releases_99 : decode cX5_releases 99 = .ok (.iload_n 2, 1) := by decide +kernel
theorem dX5_releases_100 : decode cX5_releases 100 = .ok (.invokevirtual 130, 3) := by decide +kernel
theorem dX5_releases_103 : decode cX5_releases 103 = .ok (.goto 39, 3) := by decide +kernel
theorem dX5_releases_106 : decode cX5_releases 106 = .ok (.iload_n 3, 1) := by decide +kernel
theorem dX5_releases_107 : decode cX5_releases 107 = .ok (.ifCond .eq 16, 3) := by decide +kernel
theorem dX5_releases_110 : decode cX5_releases 110 = .ok (.iload_n 1, 1) := by decide +kernel
theorem dX5_releases_111 : decode cX5_releases 111 = .ok (.iconst 2, 1) := by decide +kernel
theorem dX5_releases_112 : decode cX5_releases 112 = .ok (.if_icmp .ne 11, 3) := by decide +kernel
theorem dX5_releases_115 : decode cX5_releases 115 = .ok (.aload_n 0, 1) := by decide +kernel
theorem dX5_releases_116 : decode cX5_releases 116 = .ok (.iload_n 2, 1) := by decide +kernel
theorem dX5_releases_117 : decode cX5_releases 117 = .ok (.invokevirtual 133, 3) := by decide +kernel
theorem dX5_releases_120 : decode cX5_releases 120 = .ok (.goto 22, 3) := by decide +kernel
theorem dX5_releases_123 : decode cX5_releases 123 = .ok (.iload_n 3, 1) := by decide +kernel
theorem dX5_releases_124 : decode cX5_releases 124 = .ok (.ifCond .eq 18, 3) := by decide +kernel
theorem dX5_releases_127 : decode cX5_releases 127 = .ok (.iload_n 1, 1) := by decide +kernel
theorem dX5_releases_128 : decode cX5_releases 128 = .ok (.iconst 2, 1) := by decide +kernel
theorem dX5_releases_129 : decode cX5_releases 129 = .ok (.if_icmp .le 13, 3) := by decide +kernel
theorem dX5_releases_132 : decode cX5_releases 132 = .ok (.iload_n 2, 1) := by decide +kernel
theorem dX5_releases_133 : decode cX5_releases 133 = .ok (.iconst 2, 1) := by decide +kernel
theorem dX5_releases_134 : decode cX5_releases 134 = .ok (.if_icmp .ne 8, 3) := by decide +kernel
theorem dX5_releases_137 : decode cX5_releases 137 = .ok (.aload_n 0, 1) := by decide +kernel
theorem dX5_releases_138 : decode cX5_releases 138 = .ok (.iload_n 2, 1) := by decide +kernel
theorem dX5_releases_139 : decode cX5_releases 139 = .ok (.invokevirtual 123, 3) := by decide +kernel
theorem dX5_releases_142 : decode cX5_releases 142 = .ok (.aload_n 0, 1) := by decide +kernel
theorem dX5_releases_143 : decode cX5_releases 143 = .ok (.getfield 19, 3) := by decide +kernel
theorem dX5_releases_146 : decode cX5_releases 146 = .ok (.sipush 303, 3) := by decide +kernel
theorem dX5_releases_149 : decode cX5_releases 149 = .ok (.iload_n 3, 1) := by decide +kernel
theorem dX5_releases_150 : decode cX5_releases 150 = .ok (.ifCond .eq 18, 3) := by decide +kernel
theorem dX5_releases_153 : decode cX5_releases 153 = .ok (.iload_n 1, 1) := by decide +kernel
theorem dX5_releases_154 : decode cX5_releases 154 = .ok (.iconst 1, 1) := by decide +kernel
theorem dX5_releases_155 : decode cX5_releases 155 = .ok (.if_icmp .ne 13, 3) := by decide +kernel
theorem dX5_releases_158 : decode cX5_releases 158 = .ok (.iload_n 2, 1) := by decide +kernel
theorem dX5_releases_159 : decode cX5_releases 159 = .ok (.bipush 102, 2) := by decide +kernel
theorem dX5_releases_161 : decode cX5_releases 161 = .ok (.if_icmp .ne 7, 3) := by decide +kernel
theorem dX5_releases_164 : decode cX5_releases 164 = .ok (.iconst 1, 1) := by decide +kernel
theorem dX5_releases_165 : decode cX5_releases 165 = .ok (.goto 4, 3) := by decide +kernel
theorem dX5_releases_168 : decode cX5_releases 168 = .ok (.iconst 0, 1) := by decide +kernel
theorem dX5_releases_169 : decode cX5_releases 169 = .ok (.iastore, 1) := by decide +kernel
theorem dX5_releases_170 : decode cX5_releases 170 = .ok (.aload_n 0, 1) := by decide +kernel
theorem dX5_releases_171 : decode cX5_releases 171 = .ok (.getfield 19, 3) := by decide +kernel
theorem dX5_releases_174 : decode cX5_releases 174 = .ok (.sipush 298, 3) := by decide +kernel
theorem dX5_releases_177 : decode cX5_releases 177 = .ok (.iconst 0, 1) := by decide +kernel
theorem dX5_releases_178 : decode cX5_releases 178 = .ok (.iastore, 1) := by decide +kernel
theorem dX5_releases_179 : decode cX5_releases 179 = .ok (.aload_n 0, 1) := by decide +kernel
theorem dX5_releases_180 : decode cX5_releases 180 = .ok (.getfield 19, 3) := by decide +kernel
theorem dX5_releases_183 : decode cX5_releases 183 = .ok (.sipush 299, 3) := by decide +kernel
theorem dX5_releases_186 : decode cX5_releases 186 = .ok (.iconst 0, 1) := by decide +kernel
theorem dX5_releases_187 : decode cX5_releases 187 = .ok (.iastore, 1) := by decide +kernel
theorem dX5_releases_188 : decode cX5_releases 188 = .ok (.aload_n 0, 1) := by decide +kernel
theorem dX5_releases_189 : decode cX5_releases 189 = .ok (.invokevirtual 92, 3) := by decide +kernel
theorem dX5_releases_192 : decode cX5_releases 192 = .ok (.ireturn, 1) := by decide +kernel
theorem dX5_release_0 : decode cX5_release 0 = .ok (.aload_n 0, 1) := by decide +kernel
theorem dX5_release_1 : decode cX5_release 1 = .ok (.getfield 19, 3) := by decide +kernel
theorem dX5_release_4 : decode cX5_release 4 = .ok (.sipush 298, 3) := by decide +kernel
theorem dX5_release_7 : decode cX5_release 7 = .ok (.iaload, 1) := by decide +kernel
theorem dX5_release_8 : decode cX5_release 8 = .ok (.ifCond .ne 8, 3) := by decide +kernel
theorem dX5_release_11 : decode cX5_release 11 = .ok (.bipush (-2), 2) := by decide +kernel
theorem dX5_release_13 : decode cX5_release 13 = .ok (.goto 7, 3) := by decide +kernel
theorem dX5_release_16 : decode cX5_release 16 = .ok (.aload_n 0, 1) := by decide +kernel
theorem dX5_release_17 : decode cX5_release 17 = .ok (.invokevirtual 136, 3) := by decide +kernel
theorem dX5_release_20 : decode cX5_release 20 = .ok (.ireturn, 1) := by decide +kernel
theorem dX5_goesOn_0 : decode cX5_goesOn 0 = .ok (.iload_n 3, 1) := by decide +kernel
theorem dX5_goesOn_1 : decode cX5_goesOn 1 = .ok (.istore 4, 2) := by decide +kernel
theorem dX5_goesOn_3 : decode cX5_goesOn 3 = .ok (.iconst 0, 1) := by decide +kernel
theorem dX5_goesOn_4 : decode cX5_goesOn 4 = .ok (.istore 5, 2) := by decide +kernel
theorem dX5_goesOn_6 : decode cX5_goesOn 6 = .ok (.iload 5, 2) := by decide +kernel
theorem dX5_goesOn_8 : decode cX5_goesOn 8 = .ok (.iload_n 2, 1) := by decide +kernel
theorem dX5_goesOn_9 : decode cX5_goesOn 9 = .ok (.if_icmp .ge 23, 3) := by decide +kernel
theorem dX5_goesOn_12 : decode cX5_goesOn 12 = .ok (.aload_n 0, 1) := by decide +kernel
theorem dX5_goesOn_13 : decode cX5_goesOn 13 = .ok (.iload_n 1, 1) := by decide +kernel
theorem dX5_goesOn_14 : decode cX5_goesOn 14 = .ok (.iload 5, 2) := by decide +kernel
theorem dX5_goesOn_16 : decode cX5_goesOn 16 = .ok (.iadd, 1) := by decide +kernel
theorem dX5_goesOn_17 : decode cX5_goesOn 17 = .ok (.sipush 256, 3) := by decide +kernel
theorem dX5_goesOn_20 : decode cX5_goesOn 20 = .ok (.irem, 1) := by decide +kernel
theorem dX5_goesOn_21 : decode cX5_goesOn 21 = .ok (.invokevirtual 104, 3) := by decide +kernel
theorem dX5_goesOn_24 : decode cX5_goesOn 24 = .ok (.istore 4, 2) := by decide +kernel
theorem dX5_goesOn_26 : decode cX5_goesOn 26 = .ok (.iinc 5 1, 3) := by decide +kernel
theorem dX5_goesOn_29 : decode cX5_goesOn 29 = .ok (.goto (-23), 3) := by decide +kernel
theorem dX5_goesOn_32 : decode cX5_goesOn 32 = .ok (.aload_n 0, 1) := by decide +kernel
theorem dX5_goesOn_33 : decode cX5_goesOn 33 = .ok (.invokevirtual 136, 3) := by decide +kernel
theorem dX5_goesOn_36 : decode cX5_goesOn 36 = .ok (.istore 5, 2) := by decide +kernel
theorem dX5_goesOn_38 : decode cX5_goesOn 38 = .ok (.iload 5, 2) := by decide +kernel
theorem dX5_goesOn_40 : decode cX5_goesOn 40 = .ok (.ifCond .ge 8, 3) := by decide +kernel
theorem dX5_goesOn_43 : decode cX5_goesOn 43 = .ok (.iload 5, 2) := by decide +kernel
theorem dX5_goesOn_45 : decode cX5_goesOn 45 = .ok (.goto 5, 3) := by decide +kernel
theorem dX5_goesOn_48 : decode cX5_goesOn 48 = .ok (.iload 4, 2) := by decide +kernel
theorem dX5_goesOn_50 : decode cX5_goesOn 50 = .ok (.ireturn, 1) := by decide +kernel
theorem dX5_send_0 : decode cX5_send 0 = .ok (.iload_n 1, 1) := by decide +kernel
theorem dX5_send_1 : decode cX5_send 1 = .ok (.i2l, 1) := by decide +kernel
theorem dX5_send_2 : decode cX5_send 2 = .ok (.lconst 0, 1) := by decide +kernel
theorem dX5_send_3 : decode cX5_send 3 = .ok (.ldc2_w 102, 3) := by decide +kernel
theorem dX5_send_6 : decode cX5_send 6 = .ok (.invokestatic 40, 3) := by decide +kernel
theorem dX5_send_9 : decode cX5_send 9 = .ok (.ifCond .eq 40, 3) := by decide +kernel
theorem dX5_send_12 : decode cX5_send 12 = .ok (.iload_n 2, 1) := by decide +kernel
theorem dX5_send_13 : decode cX5_send 13 = .ok (.i2l, 1) := by decide +kernel
theorem dX5_send_14 : decode cX5_send 14 = .ok (.lconst 0, 1) := by decide +kernel
theorem dX5_send_15 : decode cX5_send 15 = .ok (.ldc2_w 102, 3) := by decide +kernel
theorem dX5_send_18 : decode cX5_send 18 = .ok (.invokestatic 40, 3) := by decide +kernel
theorem dX5_send_21 : decode cX5_send 21 = .ok (.ifCond .eq 28, 3) := by decide +kernel
theorem dX5_send_24 : decode cX5_send 24 = .ok (.iload_n 3, 1) := by decide +kernel
theorem dX5_send_25 : decode cX5_send 25 = .ok (.i2l, 1) := by decide +kernel
theorem dX5_send_26 : decode cX5_send 26 = .ok (.lconst 0, 1) := by decide +kernel
theorem dX5_send_27 : decode cX5_send 27 = .ok (.ldc2_w 102, 3) := by decide +kernel
theorem dX5_send_30 : decode cX5_send 30 = .ok (.invokestatic 40, 3) := by decide +kernel
theorem dX5_send_33 : decode cX5_send 33 = .ok (.ifCond .eq 16, 3) := by decide +kernel
theorem dX5_send_36 : decode cX5_send 36 = .ok (.iload 4, 2) := by decide +kernel
theorem dX5_send_38 : decode cX5_send 38 = .ok (.i2l, 1) := by decide +kernel
theorem dX5_send_39 : decode cX5_send 39 = .ok (.lconst 0, 1) := by decide +kernel
theorem dX5_send_40 : decode cX5_send 40 = .ok (.ldc2_w 139, 3) := by decide +kernel
theorem dX5_send_43 : decode cX5_send 43 = .ok (.invokestatic 40, 3) := by decide +kernel
theorem dX5_send_46 : decode cX5_send 46 = .ok (.ifCond .ne 5, 3) := by decide +kernel
theorem dX5_send_49 : decode cX5_send 49 = .ok (.iconst (-1), 1) := by decide +kernel
theorem dX5_send_50 : decode cX5_send 50 = .ok (.ireturn, 1) := by decide +kernel
theorem dX5_send_51 : decode cX5_send 51 = .ok (.aload_n 0, 1) := by decide +kernel
theorem dX5_send_52 : decode cX5_send 52 = .ok (.invokevirtual 141, 3) := by decide +kernel
theorem dX5_send_55 : decode cX5_send 55 = .ok (.bipush (-2), 2) := by decide +kernel
theorem dX5_send_57 : decode cX5_send 57 = .ok (.if_icmp .ne 6, 3) := by decide +kernel
theorem dX5_send_60 : decode cX5_send 60 = .ok (.bipush (-2), 2) := by decide +kernel
theorem dX5_send_62 : decode cX5_send 62 = .ok (.ireturn, 1) := by decide +kernel
theorem dX5_send_63 : decode cX5_send 63 = .ok (.aload_n 0, 1) := by decide +kernel
theorem dX5_send_64 : decode cX5_send 64 = .ok (.iload_n 1, 1) := by decide +kernel
theorem dX5_send_65 : decode cX5_send 65 = .ok (.invokevirtual 104, 3) := by decide +kernel
theorem dX5_send_68 : decode cX5_send 68 = .ok (.istore 5, 2) := by decide +kernel
theorem dX5_send_70 : decode cX5_send 70 = .ok (.aload_n 0, 1) := by decide +kernel
theorem dX5_send_71 : decode cX5_send 71 = .ok (.iload_n 2, 1) := by decide +kernel
theorem dX5_send_72 : decode cX5_send 72 = .ok (.invokevirtual 104, 3) := by decide +kernel
theorem dX5_send_75 : decode cX5_send 75 = .ok (.istore 6, 2) := by decide +kernel
theorem dX5_send_77 : decode cX5_send 77 = .ok (.aload_n 0, 1) := by decide +kernel
theorem dX5_send_78 : decode cX5_send 78 = .ok (.iload_n 3, 1) := by decide +kernel
theorem dX5_send_79 : decode cX5_send 79 = .ok (.iload 4, 2) := by decide +kernel
theorem dX5_send_81 : decode cX5_send 81 = .ok (.iload 5, 2) := by decide +kernel
theorem dX5_send_83 : decode cX5_send 83 = .ok (.ifCond .ge 8, 3) := by decide +kernel
theorem dX5_send_86 : decode cX5_send 86 = .ok (.iload 5, 2) := by decide +kernel
theorem dX5_send_88 : decode cX5_send 88 = .ok (.goto 5, 3) := by decide +kernel
theorem dX5_send_91 : decode cX5_send 91 = .ok (.iload 6, 2) := by decide +kernel
theorem dX5_send_93 : decode cX5_send 93 = .ok (.invokevirtual 144, 3) := by decide +kernel
theorem dX5_send_96 : decode cX5_send 96 = .ok (.ireturn, 1) := by decide +kernel
theorem dX5_order_0 : decode cX5_order 0 = .ok (.iload_n 1, 1) := by decide +kernel
theorem dX5_order_1 : decode cX5_order 1 = .ok (.i2l, 1) := by decide +kernel
theorem dX5_order_2 : decode cX5_order 2 = .ok (.lconst 0, 1) := by decide +kernel
theorem dX5_order_3 : decode cX5_order 3 = .ok (.ldc2_w 102, 3) := by decide +kernel
theorem dX5_order_6 : decode cX5_order 6 = .ok (.invokestatic 40, 3) := by decide +kernel
theorem dX5_order_9 : decode cX5_order 9 = .ok (.ifCond .eq 27, 3) := by decide +kernel
theorem dX5_order_12 : decode cX5_order 12 = .ok (.iload_n 2, 1) := by decide +kernel
theorem dX5_order_13 : decode cX5_order 13 = .ok (.i2l, 1) := by decide +kernel
theorem dX5_order_14 : decode cX5_order 14 = .ok (.lconst 0, 1) := by decide +kernel
theorem dX5_order_15 : decode cX5_order 15 = .ok (.ldc2_w 102, 3) := by decide +kernel
theorem dX5_order_18 : decode cX5_order 18 = .ok (.invokestatic 40, 3) := by decide +kernel
theorem dX5_order_21 : decode cX5_order 21 = .ok (.ifCond .eq 15, 3) := by decide +kernel
theorem dX5_order_24 : decode cX5_order 24 = .ok (.iload_n 3, 1) := by decide +kernel
theorem dX5_order_25 : decode cX5_order 25 = .ok (.i2l, 1) := by decide +kernel
theorem dX5_order_26 : decode cX5_order 26 = .ok (.lconst 0, 1) := by decide +kernel
theorem dX5_order_27 : decode cX5_order 27 = .ok (.ldc2_w 139, 3) := by decide +kernel
theorem dX5_order_30 : decode cX5_order 30 = .ok (.invokestatic 40, 3) := by decide +kernel
theorem dX5_order_33 : decode cX5_order 33 = .ok (.ifCond .ne 5, 3) := by decide +kernel
theorem dX5_order_36 : decode cX5_order 36 = .ok (.iconst (-1), 1) := by decide +kernel
theorem dX5_order_37 : decode cX5_order 37 = .ok (.ireturn, 1) := by decide +kernel
theorem dX5_order_38 : decode cX5_order 38 = .ok (.aload_n 0, 1) := by decide +kernel
theorem dX5_order_39 : decode cX5_order 39 = .ok (.invokevirtual 141, 3) := by decide +kernel
theorem dX5_order_42 : decode cX5_order 42 = .ok (.bipush (-2), 2) := by decide +kernel
theorem dX5_order_44 : decode cX5_order 44 = .ok (.if_icmp .ne 6, 3) := by decide +kernel
theorem dX5_order_47 : decode cX5_order 47 = .ok (.bipush (-2), 2) := by decide +kernel
theorem dX5_order_49 : decode cX5_order 49 = .ok (.ireturn, 1) := by decide +kernel
theorem dX5_order_50 : decode cX5_order 50 = .ok (.aload_n 0, 1) := by decide +kernel
theorem dX5_order_51 : decode cX5_order 51 = .ok (.iload_n 1, 1) := by decide +kernel
theorem dX5_order_52 : decode cX5_order 52 = .ok (.invokevirtual 104, 3) := by decide +kernel
theorem dX5_order_55 : decode cX5_order 55 = .ok (.istore 4, 2) := by decide +kernel
theorem dX5_order_57 : decode cX5_order 57 = .ok (.aload_n 0, 1) := by decide +kernel
theorem dX5_order_58 : decode cX5_order 58 = .ok (.iload_n 2, 1) := by decide +kernel
theorem dX5_order_59 : decode cX5_order 59 = .ok (.iload_n 3, 1) := by decide +kernel
theorem dX5_order_60 : decode cX5_order 60 = .ok (.iload 4, 2) := by decide +kernel
theorem dX5_order_62 : decode cX5_order 62 = .ok (.invokevirtual 144, 3) := by decide +kernel
theorem dX5_order_65 : decode cX5_order 65 = .ok (.ireturn, 1) := by decide +kernel
theorem dX5_done_0 : decode cX5_done 0 = .ok (.aload_n 0, 1) := by decide +kernel
theorem dX5_done_1 : decode cX5_done 1 = .ok (.invokevirtual 110, 3) := by decide +kernel
theorem dX5_done_4 : decode cX5_done 4 = .ok (.istore_n 1, 1) := by decide +kernel
theorem dX5_done_5 : decode cX5_done 5 = .ok (.aload_n 0, 1) := by decide +kernel
theorem dX5_done_6 : decode cX5_done 6 = .ok (.getfield 19, 3) := by decide +kernel
theorem dX5_done_9 : decode cX5_done 9 = .ok (.sipush 293, 3) := by decide +kernel
theorem dX5_done_12 : decode cX5_done 12 = .ok (.iaload, 1) := by decide +kernel
theorem dX5_done_13 : decode cX5_done 13 = .ok (.iconst 2, 1) := by decide +kernel
theorem dX5_done_14 : decode cX5_done 14 = .ok (.if_icmp .ne 16, 3) := by decide +kernel
theorem dX5_done_17 : decode cX5_done 17 = .ok (.aload_n 0, 1) := by decide +kernel
theorem dX5_done_18 : decode cX5_done 18 = .ok (.getfield 19, 3) := by decide +kernel
theorem dX5_done_21 : decode cX5_done 21 = .ok (.sipush 294, 3) := by decide +kernel
theorem dX5_done_24 : decode cX5_done 24 = .ok (.iaload, 1) := by decide +kernel
theorem dX5_done_25 : decode cX5_done 25 = .ok (.iload_n 1, 1) := by decide +kernel
theorem dX5_done_26 : decode cX5_done 26 = .ok (.imul, 1) := by decide +kernel
theorem dX5_done_27 : decode cX5_done 27 = .ok (.goto 4, 3) := by decide +kernel
theorem dX5_done_30 : decode cX5_done 30 = .ok (.iconst 0, 1) := by decide +kernel
theorem dX5_done_31 : decode cX5_done 31 = .ok (.istore_n 2, 1) := by decide +kernel
theorem dX5_done_32 : decode cX5_done 32 = .ok (.aload_n 0, 1) := by decide +kernel
theorem dX5_done_33 : decode cX5_done 33 = .ok (.getfield 19, 3) := by decide +kernel
theorem dX5_done_36 : decode cX5_done 36 = .ok (.sipush 293, 3) := by decide +kernel
theorem dX5_done_39 : decode cX5_done 39 = .ok (.iaload, 1) := by decide +kernel
theorem dX5_done_40 : decode cX5_done 40 = .ok (.iconst 2, 1) := by decide +kernel
theorem dX5_done_41 : decode cX5_done 41 = .ok (.if_icmp .ne 9, 3) := by decide +kernel
theorem dX5_done_44 : decode cX5_done 44 = .ok (.iload_n 2, 1) := by decide +kernel
theorem dX5_done_45 : decode cX5_done 45 = .ok (.iload_n 1, 1) := by decide +kernel
theorem dX5_done_46 : decode cX5_done 46 = .ok (.iadd, 1) := by decide +kernel
theorem dX5_done_47 : decode cX5_done 47 = .ok (.goto 7, 3) := by decide +kernel
theorem dX5_done_50 : decode cX5_done 50 = .ok (.aload_n 0, 1) := by decide +kernel
theorem dX5_done_51 : decode cX5_done 51 = .ok (.invokevirtual 89, 3) := by decide +kernel
theorem dX5_done_54 : decode cX5_done 54 = .ok (.istore_n 3, 1) := by decide +kernel
theorem dX5_done_55 : decode cX5_done 55 = .ok (.iload_n 2, 1) := by decide +kernel
theorem dX5_done_56 : decode cX5_done 56 = .ok (.istore 4, 2) := by decide +kernel
theorem dX5_done_58 : decode cX5_done 58 = .ok (.iload 4, 2) := by decide +kernel
theorem dX5_done_60 : decode cX5_done 60 = .ok (.iload_n 3, 1) := by decide +kernel
theorem dX5_done_61 : decode cX5_done 61 = .ok (.if_icmp .ge 31, 3) := by decide +kernel
theorem dX5_done_64 : decode cX5_done 64 = .ok (.aload_n 0, 1) := by decide +kernel
theorem dX5_done_65 : decode cX5_done 65 = .ok (.getfield 19, 3) := by decide +kernel
theorem dX5_done_68 : decode cX5_done 68 = .ok (.sipush 293, 3) := by decide +kernel
theorem dX5_done_71 : decode cX5_done 71 = .ok (.iaload, 1) := by decide +kernel
theorem dX5_done_72 : decode cX5_done 72 = .ok (.iconst 1, 1) := by decide +kernel
theorem dX5_done_73 : decode cX5_done 73 = .ok (.if_icmp .eq 19, 3) := by decide +kernel
theorem dX5_done_76 : decode cX5_done 76 = .ok (.aload_n 0, 1) := by decide +kernel
theorem dX5_done_77 : decode cX5_done 77 = .ok (.getfield 19, 3) := by decide +kernel
theorem dX5_done_80 : decode cX5_done 80 = .ok (.iload 4, 2) := by decide +kernel
theorem dX5_done_82 : decode cX5_done 82 = .ok (.sipush 255, 3) := by decide +kernel
theorem dX5_done_85 : decode cX5_done 85 = .ok (.iastore, 1) := by decide +kernel
theorem dX5_done_86 : decode cX5_done 86 = .ok (.iinc 4 1, 3) := by decide +kernel
theorem dX5_done_89 : decode cX5_done 89 = .ok (.goto (-31), 3) := by decide +kernel
theorem dX5_done_92 : decode cX5_done 92 = .ok (.aload_n 0, 1) := by decide +kernel
theorem dX5_done_93 : decode cX5_done 93 = .ok (.getfield 19, 3) := by decide +kernel
theorem dX5_done_96 : decode cX5_done 96 = .ok (.sipush 293, 3) := by decide +kernel
theorem dX5_done_99 : decode cX5_done 99 = .ok (.iconst 0, 1) := by decide +kernel
theorem dX5_done_100 : decode cX5_done 100 = .ok (.iastore, 1) := by decide +kernel
theorem dX5_done_101 : decode cX5_done 101 = .ok (.return_, 1) := by decide +kernel
theorem dX5_tick_0 : decode cX5_tick 0 = .ok (.iload_n 1, 1) := by decide +kernel
theorem dX5_tick_1 : decode cX5_tick 1 = .ok (.i2l, 1) := by decide +kernel
theorem dX5_tick_2 : decode cX5_tick 2 = .ok (.lconst 1, 1) := by decide +kernel
theorem dX5_tick_3 : decode cX5_tick 3 = .ok (.ldc2_w 148, 3) := by decide +kernel
theorem dX5_tick_6 : decode cX5_tick 6 = .ok (.invokestatic 40, 3) := by decide +kernel
theorem dX5_tick_9 : decode cX5_tick 9 = .ok (.ifCond .ne 5, 3) := by decide +kernel
theorem dX5_tick_12 : decode cX5_tick 12 = .ok (.iconst (-1), 1) := by decide +kernel
theorem dX5_tick_13 : decode cX5_tick 13 = .ok (.ireturn, 1) := by decide +kernel
theorem dX5_tick_14 : decode cX5_tick 14 = .ok (.iconst 0, 1) := by decide +kernel
theorem dX5_tick_15 : decode cX5_tick 15 = .ok (.istore_n 2, 1) := by decide +kernel
theorem dX5_tick_16 : decode cX5_tick 16 = .ok (.iconst 0, 1) := by decide +kernel
theorem dX5_tick_17 : decode cX5_tick 17 = .ok (.istore_n 3, 1) := by decide +kernel
theorem dX5_tick_18 : decode cX5_tick 18 = .ok (.iload_n 3, 1) := by decide +kernel
theorem dX5_tick_19 : decode cX5_tick 19 = .ok (.iload_n 1, 1) := by decide +kernel
theorem dX5_tick_20 : decode cX5_tick 20 = .ok (.if_icmp .ge 50, 3) := by decide +kernel
theorem dX5_tick_23 : decode cX5_tick 23 = .ok (.aload_n 0, 1) := by decide +kernel
theorem dX5_tick_24 : decode cX5_tick 24 = .ok (.getfield 19, 3) := by decide +kernel
theorem dX5_tick_27 : decode cX5_tick 27 = .ok (.sipush 293, 3) := by decide +kernel
theorem dX5_tick_30 : decode cX5_tick 30 = .ok (.iaload, 1) := by decide +kernel
theorem dX5_tick_31 : decode cX5_tick 31 = .ok (.ifCond .le 33, 3) := by decide +kernel
theorem dX5_tick_34 : decode cX5_tick 34 = .ok (.iinc 2 1, 3) := by decide +kernel
theorem dX5_tick_37 : decode cX5_tick 37 = .ok (.aload_n 0, 1) := by decide +kernel
theorem dX5_tick_38 : decode cX5_tick 38 = .ok (.getfield 19, 3) := by decide +kernel
theorem dX5_tick_41 : decode cX5_tick 41 = .ok (.sipush 295, 3) := by decide +kernel
theorem dX5_tick_44 : decode cX5_tick 44 = .ok (.dup2, 1) := by decide +kernel
theorem dX5_tick_45 : decode cX5_tick 45 = .ok (.iaload, 1) := by decide +kernel
theorem dX5_tick_46 : decode cX5_tick 46 = .ok (.iconst 1, 1) := by decide +kernel
theorem dX5_tick_47 : decode cX5_tick 47 = .ok (.isub, 1) := by decide +kernel
theorem dX5_tick_48 : decode cX5_tick 48 = .ok (.iastore, 1) := by decide +kernel
theorem dX5_tick_49 : decode cX5_tick 49 = .ok (.aload_n 0, 1) := by decide +kernel
theorem dX5_tick_50 : decode cX5_tick 50 = .ok (.getfield 19, 3) := by decide +kernel
theorem dX5_tick_53 : decode cX5_tick 53 = .ok (.sipush 295, 3) := by decide +kernel
theorem dX5_tick_56 : decode cX5_tick 56 = .ok (.iaload, 1) := by decide +kernel
theorem dX5_tick_57 : decode cX5_tick 57 = .ok (.ifCond .ne 7, 3) := by decide +kernel
theorem dX5_tick_60 : decode cX5_tick 60 = .ok (.aload_n 0, 1) := by decide +kernel
theorem dX5_tick_61 : decode cX5_tick 61 = .ok (.invokevirtual 150, 3) := by decide +kernel
theorem dX5_tick_64 : decode cX5_tick 64 = .ok (.iinc 3 1, 3) := by decide +kernel
theorem dX5_tick_67 : decode cX5_tick 67 = .ok (.goto (-49), 3) := by decide +kernel
theorem dX5_tick_70 : decode cX5_tick 70 = .ok (.iload_n 2, 1) := by decide +kernel
theorem dX5_tick_71 : decode cX5_tick 71 = .ok (.ireturn, 1) := by decide +kernel
theorem dX5_at_0 : decode cX5_at 0 = .ok (.iload_n 1, 1) := by decide +kernel
theorem dX5_at_1 : decode cX5_at 1 = .ok (.i2l, 1) := by decide +kernel
theorem dX5_at_2 : decode cX5_at 2 = .ok (.lconst 0, 1) := by decide +kernel
theorem dX5_at_3 : decode cX5_at 3 = .ok (.aload_n 0, 1) := by decide +kernel
theorem dX5_at_4 : decode cX5_at 4 = .ok (.invokevirtual 89, 3) := by decide +kernel
theorem dX5_at_7 : decode cX5_at 7 = .ok (.iconst 1, 1) := by decide +kernel
theorem dX5_at_8 : decode cX5_at 8 = .ok (.isub, 1) := by decide +kernel
theorem dX5_at_9 : decode cX5_at 9 = .ok (.i2l, 1) := by decide +kernel
theorem dX5_at_10 : decode cX5_at 10 = .ok (.invokestatic 40, 3) := by decide +kernel
theorem dX5_at_13 : decode cX5_at 13 = .ok (.ifCond .eq 12, 3) := by decide +kernel
theorem dX5_at_16 : decode cX5_at 16 = .ok (.aload_n 0, 1) := by decide +kernel
theorem dX5_at_17 : decode cX5_at 17 = .ok (.getfield 19, 3) := by decide +kernel
theorem dX5_at_20 : decode cX5_at 20 = .ok (.iload_n 1, 1) := by decide +kernel
theorem dX5_at_21 : decode cX5_at 21 = .ok (.iaload, 1) := by decide +kernel
theorem dX5_at_22 : decode cX5_at 22 = .ok (.goto 4, 3) := by decide +kernel
theorem dX5_at_25 : decode cX5_at 25 = .ok (.iconst (-1), 1) := by decide +kernel
theorem dX5_at_26 : decode cX5_at 26 = .ok (.ireturn, 1) := by decide +kernel
theorem dX5_sector_0 : decode cX5_sector 0 = .ok (.iload_n 1, 1) := by decide +kernel
theorem dX5_sector_1 : decode cX5_sector 1 = .ok (.i2l, 1) := by decide +kernel
theorem dX5_sector_2 : decode cX5_sector 2 = .ok (.lconst 0, 1) := by decide +kernel
theorem dX5_sector_3 : decode cX5_sector 3 = .ok (.aload_n 0, 1) := by decide +kernel
theorem dX5_sector_4 : decode cX5_sector 4 = .ok (.getfield 13, 3) := by decide +kernel
theorem dX5_sector_7 : decode cX5_sector 7 = .ok (.iconst 2, 1) := by decide +kernel
theorem dX5_sector_8 : decode cX5_sector 8 = .ok (.iaload, 1) := by decide +kernel
theorem dX5_sector_9 : decode cX5_sector 9 = .ok (.iconst 1, 1) := by decide +kernel
theorem dX5_sector_10 : decode cX5_sector 10 = .ok (.isub, 1) := by decide +kernel
theorem dX5_sector_11 : decode cX5_sector 11 = .ok (.i2l, 1) := by decide +kernel
theorem dX5_sector_12 : decode cX5_sector 12 = .ok (.invokestatic 40, 3) := by decide +kernel
theorem dX5_sector_15 : decode cX5_sector 15 = .ok (.ifCond .eq 15, 3) := by decide +kernel
theorem dX5_sector_18 : decode cX5_sector 18 = .ok (.iload_n 2, 1) := by decide +kernel
theorem dX5_sector_19 : decode cX5_sector 19 = .ok (.i2l, 1) := by decide +kernel
theorem dX5_sector_20 : decode cX5_sector 20 = .ok (.lconst 0, 1) := by decide +kernel
theorem dX5_sector_21 : decode cX5_sector 21 = .ok (.ldc2_w 153, 3) := by decide +kernel
theorem dX5_sector_24 : decode cX5_sector 24 = .ok (.invokestatic 40, 3) := by decide +kernel
theorem dX5_sector_27 : decode cX5_sector 27 = .ok (.ifCond .ne 5, 3) := by decide +kernel
theorem dX5_sector_30 : decode cX5_sector 30 = .ok (.iconst (-1), 1) := by decide +kernel
theorem dX5_sector_31 : decode cX5_sector 31 = .ok (.ireturn, 1) := by decide +kernel
theorem dX5_sector_32 : decode cX5_sector 32 = .ok (.iconst 0, 1) := by decide +kernel
theorem dX5_sector_33 : decode cX5_sector 33 = .ok (.istore_n 3, 1) := by decide +kernel
theorem dX5_sector_34 : decode cX5_sector 34 = .ok (.iconst 0, 1) := by decide +kernel
theorem dX5_sector_35 : decode cX5_sector 35 = .ok (.istore 4, 2) := by decide +kernel
theorem dX5_sector_37 : decode cX5_sector 37 = .ok (.iload_n 1, 1) := by decide +kernel
theorem dX5_sector_38 : decode cX5_sector 38 = .ok (.aload_n 0, 1) := by decide +kernel
theorem dX5_sector_39 : decode cX5_sector 39 = .ok (.invokevirtual 110, 3) := by decide +kernel
theorem dX5_sector_42 : decode cX5_sector 42 = .ok (.imul, 1) := by decide +kernel
theorem dX5_sector_43 : decode cX5_sector 43 = .ok (.istore 5, 2) := by decide +kernel
theorem dX5_sector_45 : decode cX5_sector 45 = .ok (.iload 5, 2) := by decide +kernel
theorem dX5_sector_47 : decode cX5_sector 47 = .ok (.iload_n 1, 1) := by decide +kernel
theorem dX5_sector_48 : decode cX5_sector 48 = .ok (.iconst 1, 1) := by decide +kernel
theorem dX5_sector_49 : decode cX5_sector 49 = .ok (.iadd, 1) := by decide +kernel
theorem dX5_sector_50 : decode cX5_sector 50 = .ok (.aload_n 0, 1) := by decide +kernel
theorem dX5_sector_51 : decode cX5_sector 51 = .ok (.invokevirtual 110, 3) := by decide +kernel
theorem dX5_sector_54 : decode cX5_sector 54 = .ok (.imul, 1) := by decide +kernel
theorem dX5_sector_55 : decode cX5_sector 55 = .ok (.if_icmp .ge 42, 3) := by decide +kernel
theorem dX5_sector_58 : decode cX5_sector 58 = .ok (.iload_n 3, 1) := by decide +kernel
theorem dX5_sector_59 : decode cX5_sector 59 = .ok (.aload_n 0, 1) := by decide +kernel
theorem dX5_sector_60 : decode cX5_sector 60 = .ok (.getfield 19, 3) := by decide +kernel
theorem dX5_sector_63 : decode cX5_sector 63 = .ok (.iload 5, 2) := by decide +kernel
theorem dX5_sector_65 : decode cX5_sector 65 = .ok (.iaload, 1) := by decide +kernel
theorem dX5_sector_66 : decode cX5_sector 66 = .ok (.sipush 255, 3) := by decide +kernel
theorem dX5_sector_69 : decode cX5_sector 69 = .ok (.if_icmp .ne 7, 3) := by decide +kernel
theorem dX5_sector_72 : decode cX5_sector 72 = .ok (.iconst 1, 1) := by decide +kernel
theorem dX5_sector_73 : decode cX5_sector 73 = .ok (.goto 4, 3) := by decide +kernel
theorem dX5_sector_76 : decode cX5_sector 76 = .ok (.iconst 0, 1) := by decide +kernel
theorem dX5_sector_77 : decode cX5_sector 77 = .ok (.iadd, 1) := by decide +kernel
theorem dX5_sector_78 : decode cX5_sector 78 = .ok (.istore_n 3, 1) := by decide +kernel
theorem dX5_sector_79 : decode cX5_sector 79 = .ok (.iload 4, 2) := by decide +kernel
theorem dX5_sector_81 : decode cX5_sector 81 = .ok (.aload_n 0, 1) := by decide +kernel
theorem dX5_sector_82 : decode cX5_sector 82 = .ok (.getfield 19, 3) := by decide +kernel
theorem dX5_sector_85 : decode cX5_sector 85 = .ok (.iload 5, 2) := by decide +kernel
theorem dX5_sector_87 : decode cX5_sector 87 = .ok (.iaload, 1) := by decide +kernel
theorem dX5_sector_88 : decode cX5_sector 88 = .ok (.iadd, 1) := by decide +kernel
theorem dX5_sector_89 : decode cX5_sector 89 = .ok (.istore 4, 2) := by decide +kernel
theorem dX5_sector_91 : decode cX5_sector 91 = .ok (.iinc 5 1, 3) := by decide +kernel
theorem dX5_sector_94 : decode cX5_sector 94 = .ok (.goto (-49), 3) := by decide +kernel
theorem dX5_sector_97 : decode cX5_sector 97 = .ok (.aload_n 0, 1) := by decide +kernel
theorem dX5_sector_98 : decode cX5_sector 98 = .ok (.getfield 19, 3) := by decide +kernel
theorem dX5_sector_101 : decode cX5_sector 101 = .ok (.sipush 293, 3) := by decide +kernel
theorem dX5_sector_104 : decode cX5_sector 104 = .ok (.iaload, 1) := by decide +kernel
theorem dX5_sector_105 : decode cX5_sector 105 = .ok (.iconst 3, 1) := by decide +kernel
theorem dX5_sector_106 : decode cX5_sector 106 = .ok (.if_icmp .eq 41, 3) := by decide +kernel
theorem dX5_sector_109 : decode cX5_sector 109 = .ok (.aload_n 0, 1) := by decide +kernel
theorem dX5_sector_110 : decode cX5_sector 110 = .ok (.getfield 19, 3) := by decide +kernel
theorem dX5_sector_113 : decode cX5_sector 113 = .ok (.sipush 293, 3) := by decide +kernel
theorem dX5_sector_116 : decode cX5_sector 116 = .ok (.iaload, 1) := by decide +kernel
theorem dX5_sector_117 : decode cX5_sector 117 = .ok (.iconst 2, 1) := by decide +kernel
theorem dX5_sector_118 : decode cX5_sector 118 = .ok (.if_icmp .ne 15, 3) := by decide +kernel
theorem dX5_sector_121 : decode cX5_sector 121 = .ok (.aload_n 0, 1) := by decide +kernel
theorem dX5_sector_122 : decode cX5_sector 122 = .ok (.getfield 19, 3) := by decide +kernel
theorem dX5_sector_125 : decode cX5_sector 125 = .ok (.sipush 294, 3) := by decide +kernel
theorem dX5_sector_128 : decode cX5_sector 128 = .ok (.iaload, 1) := by decide +kernel
theorem dX5_sector_129 : decode cX5_sector 129 = .ok (.iload_n 1, 1) := by decide +kernel
theorem dX5_sector_130 : decode cX5_sector 130 = .ok (.if_icmp .eq 17, 3) := by decide +kernel
theorem dX5_sector_133 : decode cX5_sector 133 = .ok (.aload_n 0, 1) := by decide +kernel
theorem dX5_sector_134 : decode cX5_sector 134 = .ok (.getfield 19, 3) := by decide +kernel
theorem dX5_sector_137 : decode cX5_sector 137 = .ok (.sipush 296, 3) := by decide +kernel
theorem dX5_sector_140 : decode cX5_sector 140 = .ok (.iaload, 1) := by decide +kernel
theorem dX5_sector_141 : decode cX5_sector 141 = .ok (.iload_n 1, 1) := by decide +kernel
theorem dX5_sector_142 : decode cX5_sector 142 = .ok (.iconst 1, 1) := by decide +kernel
theorem dX5_sector_143 : decode cX5_sector 143 = .ok (.iadd, 1) := by decide +kernel
theorem dX5_sector_144 : decode cX5_sector 144 = .ok (.if_icmp .ne 7, 3) := by decide +kernel
theorem dX5_sector_147 : decode cX5_sector 147 = .ok (.iconst 1, 1) := by decide +kernel
theorem dX5_sector_148 : decode cX5_sector 148 = .ok (.goto 4, 3) := by decide +kernel
theorem dX5_sector_151 : decode cX5_sector 151 = .ok (.iconst 0, 1) := by decide +kernel
theorem dX5_sector_152 : decode cX5_sector 152 = .ok (.istore 5, 2) := by decide +kernel
theorem dX5_sector_154 : decode cX5_sector 154 = .ok (.iload_n 2, 1) := by decide +kernel
theorem dX5_sector_155 : decode cX5_sector 155 = .ok (.ifCond .ne 7, 3) := by decide +kernel
theorem dX5_sector_158 : decode cX5_sector 158 = .ok (.iload_n 3, 1) := by decide +kernel
theorem dX5_sector_159 : decode cX5_sector 159 = .ok (.goto 64, 3) := by decide +kernel
theorem dX5_sector_162 : decode cX5_sector 162 = .ok (.iload_n 2, 1) := by decide +kernel
theorem dX5_sector_163 : decode cX5_sector 163 = .ok (.iconst 1, 1) := by decide +kernel
theorem dX5_sector_164 : decode cX5_sector 164 = .ok (.if_icmp .ne 8, 3) := by decide +kernel
theorem dX5_sector_167 : decode cX5_sector 167 = .ok (.iload 4, 2) := by decide +kernel
theorem dX5_sector_169 : decode cX5_sector 169 = .ok (.goto 54, 3) := by decide +kernel
theorem dX5_sector_172 : decode cX5_sector 172 = .ok (.iload_n 2, 1) := by decide +kernel
theorem dX5_sector_173 : decode cX5_sector 173 = .ok (.iconst 2, 1) := by decide +kernel
theorem dX5_sector_174 : decode cX5_sector 174 = .ok (.if_icmp .ne 18, 3) := by decide +kernel
theorem dX5_sector_177 : decode cX5_sector 177 = .ok (.aload_n 0, 1) := by decide +kernel
theorem dX5_sector_178 : decode cX5_sector 178 = .ok (.getfield 19, 3) := by decide +kernel
theorem dX5_sector_181 : decode cX5_sector 181 = .ok (.sipush 288, 3) := by decide +kernel
theorem dX5_sector_184 : decode cX5_sector 184 = .ok (.iaload, 1) := by decide +kernel
theorem dX5_sector_185 : decode cX5_sector 185 = .ok (.iload_n 1, 1) := by decide +kernel
theorem dX5_sector_186 : decode cX5_sector 186 = .ok (.ishr, 1) := by decide +kernel
theorem dX5_sector_187 : decode cX5_sector 187 = .ok (.iconst 1, 1) := by decide +kernel
theorem dX5_sector_188 : decode cX5_sector 188 = .ok (.iand, 1) := by decide +kernel
theorem dX5_sector_189 : decode cX5_sector 189 = .ok (.goto 34, 3) := by decide +kernel
theorem dX5_sector_192 : decode cX5_sector 192 = .ok (.iload_n 2, 1) := by decide +kernel
theorem dX5_sector_193 : decode cX5_sector 193 = .ok (.iconst 3, 1) := by decide +kernel
theorem dX5_sector_194 : decode cX5_sector 194 = .ok (.if_icmp .ne 19, 3) := by decide +kernel
theorem dX5_sector_197 : decode cX5_sector 197 = .ok (.aload_n 0, 1) := by decide +kernel
theorem dX5_sector_198 : decode cX5_sector 198 = .ok (.iload_n 1, 1) := by decide +kernel
theorem dX5_sector_199 : decode cX5_sector 199 = .ok (.invokevirtual 107, 3) := by decide +kernel
theorem dX5_sector_202 : decode cX5_sector 202 = .ok (.ifCond .eq 7, 3) := by decide +kernel
theorem dX5_sector_205 : decode cX5_sector 205 = .ok (.iconst 1, 1) := by decide +kernel
theorem dX5_sector_206 : decode cX5_sector 206 = .ok (.goto 17, 3) := by decide +kernel
theorem dX5_sector_209 : decode cX5_sector 209 = .ok (.iconst 0, 1) := by decide +kernel
theorem dX5_sector_210 : decode cX5_sector 210 = .ok (.goto 13, 3) := by decide +kernel
theorem dX5_sector_213 : decode cX5_sector 213 = .ok (.iload 5, 2) := by decide +kernel
theorem dX5_sector_215 : decode cX5_sector 215 = .ok (.ifCond .eq 7, 3) := by decide +kernel
theorem dX5_sector_218 : decode cX5_sector 218 = .ok (.iconst 1, 1) := by decide +kernel
theorem dX5_sector_219 : decode cX5_sector 219 = .ok (.goto 4, 3) := by decide +kernel
theorem dX5_sector_222 : decode cX5_sector 222 = .ok (.iconst 0, 1) := by decide +kernel
theorem dX5_sector_223 : decode cX5_sector 223 = .ok (.ireturn, 1) := by decide +kernel
theorem dX5_table_0 : decode cX5_table 0 = .ok (.iload_n 1, 1) := by decide +kernel
theorem dX5_table_1 : decode cX5_table 1 = .ok (.i2l, 1) := by decide +kernel
theorem dX5_table_2 : decode cX5_table 2 = .ok (.lconst 0, 1) := by decide +kernel
theorem dX5_table_3 : decode cX5_table 3 = .ok (.ldc2_w 155, 3) := by decide +kernel
theorem dX5_table_6 : decode cX5_table 6 = .ok (.invokestatic 40, 3) := by decide +kernel
theorem dX5_table_9 : decode cX5_table 9 = .ok (.ifCond .eq 11, 3) := by decide +kernel
theorem dX5_table_12 : decode cX5_table 12 = .ok (.aload_n 0, 1) := by decide +kernel
theorem dX5_table_13 : decode cX5_table 13 = .ok (.iload_n 1, 1) := by decide +kernel
theorem dX5_table_14 : decode cX5_table 14 = .ok (.invokevirtual 95, 3) := by decide +kernel
theorem dX5_table_17 : decode cX5_table 17 = .ok (.goto 4, 3) := by decide +kernel
theorem dX5_table_20 : decode cX5_table 20 = .ok (.iconst (-1), 1) := by decide +kernel
theorem dX5_table_21 : decode cX5_table 21 = .ok (.ireturn, 1) := by decide +kernel
theorem dX5_keep_0 : decode cX5_keep 0 = .ok (.aload_n 0, 1) := by decide +kernel
theorem dX5_keep_1 : decode cX5_keep 1 = .ok (.getfield 32, 3) := by decide +kernel
theorem dX5_keep_4 : decode cX5_keep 4 = .ok (.iconst 2, 1) := by decide +kernel
theorem dX5_keep_5 : decode cX5_keep 5 = .ok (.if_icmp .ne 6, 3) := by decide +kernel
theorem dX5_keep_8 : decode cX5_keep 8 = .ok (.bipush (-3), 2) := by decide +kernel
theorem dX5_keep_10 : decode cX5_keep 10 = .ok (.ireturn, 1) := by decide +kernel
theorem dX5_keep_11 : decode cX5_keep 11 = .ok (.iconst 0, 1) := by decide +kernel
theorem dX5_keep_12 : decode cX5_keep 12 = .ok (.istore_n 1, 1) := by decide +kernel
theorem dX5_keep_13 : decode cX5_keep 13 = .ok (.iload_n 1, 1) := by decide +kernel
theorem dX5_keep_14 : decode cX5_keep 14 = .ok (.sipush 306, 3) := by decide +kernel
theorem dX5_keep_17 : decode cX5_keep 17 = .ok (.if_icmp .ge 30, 3) := by decide +kernel
theorem dX5_keep_20 : decode cX5_keep 20 = .ok (.aload_n 0, 1) := by decide +kernel
theorem dX5_keep_21 : decode cX5_keep 21 = .ok (.getfield 22, 3) := by decide +kernel
theorem dX5_keep_24 : decode cX5_keep 24 = .ok (.sipush 306, 3) := by decide +kernel
theorem dX5_keep_27 : decode cX5_keep 27 = .ok (.aload_n 0, 1) := by decide +kernel
theorem dX5_keep_28 : decode cX5_keep 28 = .ok (.getfield 32, 3) := by decide +kernel
theorem dX5_keep_31 : decode cX5_keep 31 = .ok (.imul, 1) := by decide +kernel
theorem dX5_keep_32 : decode cX5_keep 32 = .ok (.iload_n 1, 1) := by decide +kernel
theorem dX5_keep_33 : decode cX5_keep 33 = .ok (.iadd, 1) := by decide +kernel
theorem dX5_keep_34 : decode cX5_keep 34 = .ok (.aload_n 0, 1) := by decide +kernel
theorem dX5_keep_35 : decode cX5_keep 35 = .ok (.getfield 19, 3) := by decide +kernel
theorem dX5_keep_38 : decode cX5_keep 38 = .ok (.iload_n 1, 1) := by decide +kernel
theorem dX5_keep_39 : decode cX5_keep 39 = .ok (.iaload, 1) := by decide +kernel
theorem dX5_keep_40 : decode cX5_keep 40 = .ok (.iastore, 1) := by decide +kernel
theorem dX5_keep_41 : decode cX5_keep 41 = .ok (.iinc 1 1, 3) := by decide +kernel
theorem dX5_keep_44 : decode cX5_keep 44 = .ok (.goto (-31), 3) := by decide +kernel
theorem dX5_keep_47 : decode cX5_keep 47 = .ok (.aload_n 0, 1) := by decide +kernel
theorem dX5_keep_48 : decode cX5_keep 48 = .ok (.dup, 1) := by decide +kernel
theorem dX5_keep_49 : decode cX5_keep 49 = .ok (.getfield 32, 3) := by decide +kernel
theorem dX5_keep_52 : decode cX5_keep 52 = .ok (.iconst 1, 1) := by decide +kernel
theorem dX5_keep_53 : decode cX5_keep 53 = .ok (.iadd, 1) := by decide +kernel
theorem dX5_keep_54 : decode cX5_keep 54 = .ok (.putfield 32, 3) := by decide +kernel
theorem dX5_keep_57 : decode cX5_keep 57 = .ok (.aload_n 0, 1) := by decide +kernel
theorem dX5_keep_58 : decode cX5_keep 58 = .ok (.getfield 32, 3) := by decide +kernel
theorem dX5_keep_61 : decode cX5_keep 61 = .ok (.ireturn, 1) := by decide +kernel
theorem dX5_back_0 : decode cX5_back 0 = .ok (.aload_n 0, 1) := by decide +kernel
theorem dX5_back_1 : decode cX5_back 1 = .ok (.getfield 32, 3) := by decide +kernel
theorem dX5_back_4 : decode cX5_back 4 = .ok (.ifCond .ne 6, 3) := by decide +kernel
theorem dX5_back_7 : decode cX5_back 7 = .ok (.bipush (-2), 2) := by decide +kernel
theorem dX5_back_9 : decode cX5_back 9 = .ok (.ireturn, 1) := by decide +kernel
theorem dX5_back_10 : decode cX5_back 10 = .ok (.aload_n 0, 1) := by decide +kernel
theorem dX5_back_11 : decode cX5_back 11 = .ok (.dup, 1) := by decide +kernel
theorem dX5_back_12 : decode cX5_back 12 = .ok (.getfield 32, 3) := by decide +kernel
theorem dX5_back_15 : decode cX5_back 15 = .ok (.iconst 1, 1) := by decide +kernel
theorem dX5_back_16 : decode cX5_back 16 = .ok (.isub, 1) := by decide +kernel
theorem dX5_back_17 : decode cX5_back 17 = .ok (.putfield 32, 3) := by decide +kernel
theorem dX5_back_20 : decode cX5_back 20 = .ok (.iconst 0, 1) := by decide +kernel
theorem dX5_back_21 : decode cX5_back 21 = .ok (.istore_n 1, 1) := by decide +kernel
theorem dX5_back_22 : decode cX5_back 22 = .ok (.iload_n 1, 1) := by decide +kernel
theorem dX5_back_23 : decode cX5_back 23 = .ok (.sipush 306, 3) := by decide +kernel
theorem dX5_back_26 : decode cX5_back 26 = .ok (.if_icmp .ge 30, 3) := by decide +kernel
theorem dX5_back_29 : decode cX5_back 29 = .ok (.aload_n 0, 1) := by decide +kernel
theorem dX5_back_30 : decode cX5_back 30 = .ok (.getfield 19, 3) := by decide +kernel
theorem dX5_back_33 : decode cX5_back 33 = .ok (.iload_n 1, 1) := by decide +kernel
theorem dX5_back_34 : decode cX5_back 34 = .ok (.aload_n 0, 1) := by decide +kernel
theorem dX5_back_35 : decode cX5_back 35 = .ok (.getfield 22, 3) := by decide +kernel
theorem dX5_back_38 : decode cX5_back 38 = .ok (.sipush 306, 3) := by decide +kernel
theorem dX5_back_41 : decode cX5_back 41 = .ok (.aload_n 0, 1) := by decide +kernel
theorem dX5_back_42 : decode cX5_back 42 = .ok (.getfield 32, 3) := by decide +kernel
theorem dX5_back_45 : decode cX5_back 45 = .ok (.imul, 1) := by decide +kernel
theorem dX5_back_46 : decode cX5_back 46 = .ok (.iload_n 1, 1) := by decide +kernel
theorem dX5_back_47 : decode cX5_back 47 = .ok (.iadd, 1) := by decide +kernel
theorem dX5_back_48 : decode cX5_back 48 = .ok (.iaload, 1) := by decide +kernel
theorem dX5_back_49 : decode cX5_back 49 = .ok (.iastore, 1) := by decide +kernel
theorem dX5_back_50 : decode cX5_back 50 = .ok (.iinc 1 1, 3) := by decide +kernel
theorem dX5_back_53 : decode cX5_back 53 = .ok (.goto (-31), 3) := by decide +kernel
theorem dX5_back_56 : decode cX5_back 56 = .ok (.aload_n 0, 1) := by decide +kernel
theorem dX5_back_57 : decode cX5_back 57 = .ok (.getfield 32, 3) := by decide +kernel
theorem dX5_back_60 : decode cX5_back 60 = .ok (.ireturn, 1) := by decide +kernel
theorem dX5_unlike_0 : decode cX5_unlike 0 = .ok (.aload_n 0, 1) := by decide +kernel
theorem dX5_unlike_1 : decode cX5_unlike 1 = .ok (.getfield 32, 3) := by decide +kernel
theorem dX5_unlike_4 : decode cX5_unlike 4 = .ok (.ifCond .ne 6, 3) := by decide +kernel
theorem dX5_unlike_7 : decode cX5_unlike 7 = .ok (.bipush (-2), 2) := by decide +kernel
theorem dX5_unlike_9 : decode cX5_unlike 9 = .ok (.ireturn, 1) := by decide +kernel
theorem dX5_unlike_10 : decode cX5_unlike 10 = .ok (.iconst 0, 1) := by decide +kernel
theorem dX5_unlike_11 : decode cX5_unlike 11 = .ok (.istore_n 1, 1) := by decide +kernel
theorem dX5_unlike_12 : decode cX5_unlike 12 = .ok (.iconst 0, 1) := by decide +kernel
theorem dX5_unlike_13 : decode cX5_unlike 13 = .ok (.istore_n 2, 1) := by decide +kernel
theorem dX5_unlike_14 : decode cX5_unlike 14 = .ok (.iload_n 2, 1) := by decide +kernel
theorem dX5_unlike_15 : decode cX5_unlike 15 = .ok (.aload_n 0, 1) := by decide +kernel
theorem dX5_unlike_16 : decode cX5_unlike 16 = .ok (.invokevirtual 89, 3) := by decide +kernel
theorem dX5_unlike_19 : decode cX5_unlike 19 = .ok (.if_icmp .ge 43, 3) := by decide +kernel
theorem dX5_unlike_22 : decode cX5_unlike 22 = .ok (.iload_n 1, 1) := by decide +kernel
theorem dX5_unlike_23 : decode cX5_unlike 23 = .ok (.aload_n 0, 1) := by decide +kernel
theorem dX5_unlike_24 : decode cX5_unlike 24 = .ok (.getfield 19, 3) := by decide +kernel
theorem dX5_unlike_27 : decode cX5_unlike 27 = .ok (.iload_n 2, 1) := by decide +kernel
theorem dX5_unlike_28 : decode cX5_unlike 28 = .ok (.iaload, 1) := by decide +kernel
theorem dX5_unlike_29 : decode cX5_unlike 29 = .ok (.aload_n 0, 1) := by decide +kernel
theorem dX5_unlike_30 : decode cX5_unlike 30 = .ok (.getfield 22, 3) := by decide +kernel
theorem dX5_unlike_33 : decode cX5_unlike 33 = .ok (.sipush 306, 3) := by decide +kernel
theorem dX5_unlike_36 : decode cX5_unlike 36 = .ok (.aload_n 0, 1) := by decide +kernel
theorem dX5_unlike_37 : decode cX5_unlike 37 = .ok (.getfield 32, 3) := by decide +kernel
theorem dX5_unlike_40 : decode cX5_unlike 40 = .ok (.iconst 1, 1) := by decide +kernel
theorem dX5_unlike_41 : decode cX5_unlike 41 = .ok (.isub, 1) := by decide +kernel
theorem dX5_unlike_42 : decode cX5_unlike 42 = .ok (.imul, 1) := by decide +kernel
theorem dX5_unlike_43 : decode cX5_unlike 43 = .ok (.iload_n 2, 1) := by decide +kernel
theorem dX5_unlike_44 : decode cX5_unlike 44 = .ok (.iadd, 1) := by decide +kernel
theorem dX5_unlike_45 : decode cX5_unlike 45 = .ok (.iaload, 1) := by decide +kernel
theorem dX5_unlike_46 : decode cX5_unlike 46 = .ok (.if_icmp .eq 7, 3) := by decide +kernel
theorem dX5_unlike_49 : decode cX5_unlike 49 = .ok (.iconst 1, 1) := by decide +kernel
theorem dX5_unlike_50 : decode cX5_unlike 50 = .ok (.goto 4, 3) := by decide +kernel
theorem dX5_unlike_53 : decode cX5_unlike 53 = .ok (.iconst 0, 1) := by decide +kernel
theorem dX5_unlike_54 : decode cX5_unlike 54 = .ok (.iadd, 1) := by decide +kernel
theorem dX5_unlike_55 : decode cX5_unlike 55 = .ok (.istore_n 1, 1) := by decide +kernel
theorem dX5_unlike_56 : decode cX5_unlike 56 = .ok (.iinc 2 1, 3) := by decide +kernel
theorem dX5_unlike_59 : decode cX5_unlike 59 = .ok (.goto (-45), 3) := by decide +kernel
theorem dX5_unlike_62 : decode cX5_unlike 62 = .ok (.iload_n 1, 1) := by decide +kernel
theorem dX5_unlike_63 : decode cX5_unlike 63 = .ok (.ireturn, 1) := by decide +kernel
theorem dX5_count_0 : decode cX5_count 0 = .ok (.iload_n 1, 1) := by decide +kernel
theorem dX5_count_1 : decode cX5_count 1 = .ok (.tableswitch 200 0 13 #[71, 76, 76, 76, 76, 76, 85, 96, 101, 110, 156, 181, 186, 191], 71) := by decide +kernel
theorem dX5_count_72 : decode cX5_count 72 = .ok (.aload_n 0, 1) := by decide +kernel
theorem dX5_count_73 : decode cX5_count 73 = .ok (.invokevirtual 89, 3) := by decide +kernel
theorem dX5_count_76 : decode cX5_count 76 = .ok (.ireturn, 1) := by decide +kernel
theorem dX5_count_77 : decode cX5_count 77 = .ok (.aload_n 0, 1) := by decide +kernel
theorem dX5_count_78 : decode cX5_count 78 = .ok (.getfield 13, 3) := by decide +kernel
theorem dX5_count_81 : decode cX5_count 81 = .ok (.iload_n 1, 1) := by decide +kernel
theorem dX5_count_82 : decode cX5_count 82 = .ok (.iconst 1, 1) := by decide +kernel
theorem dX5_count_83 : decode cX5_count 83 = .ok (.isub, 1) := by decide +kernel
theorem dX5_count_84 : decode cX5_count 84 = .ok (.iaload, 1) := by decide +kernel
theorem dX5_count_85 : decode cX5_count 85 = .ok (.ireturn, 1) := by decide +kernel
theorem dX5_count_86 : decode cX5_count 86 = .ok (.iconst 1, 1) := by decide +kernel
theorem dX5_count_87 : decode cX5_count 87 = .ok (.aload_n 0, 1) := by decide +kernel
theorem dX5_count_88 : decode cX5_count 88 = .ok (.getfield 19, 3) := by decide +kernel
theorem dX5_count_91 : decode cX5_count 91 = .ok (.sipush 289, 3) := by decide +kernel
theorem dX5_count_94 : decode cX5_count 94 = .ok (.iaload, 1) := by decide +kernel
theorem dX5_count_95 : decode cX5_count 95 = .ok (.ishl, 1) := by decide +kernel
theorem dX5_count_96 : decode cX5_count 96 = .ok (.ireturn, 1) := by decide +kernel
theorem dX5_count_97 : decode cX5_count 97 = .ok (.aload_n 0, 1) := by decide +kernel
theorem dX5_count_98 : decode cX5_count 98 = .ok (.invokevirtual 92, 3) := by decide +kernel
theorem dX5_count_101 : decode cX5_count 101 = .ok (.ireturn, 1) := by decide +kernel
theorem dX5_count_102 : decode cX5_count 102 = .ok (.aload_n 0, 1) := by decide +kernel
theorem dX5_count_103 : decode cX5_count 103 = .ok (.getfield 19, 3) := by decide +kernel
theorem dX5_count_106 : decode cX5_count 106 = .ok (.sipush 304, 3) := by decide +kernel
theorem dX5_count_109 : decode cX5_count 109 = .ok (.iaload, 1) := by decide +kernel
theorem dX5_count_110 : decode cX5_count 110 = .ok (.ireturn, 1) := by decide +kernel
theorem dX5_count_111 : decode cX5_count 111 = .ok (.aload_n 0, 1) := by decide +kernel
theorem dX5_count_112 : decode cX5_count 112 = .ok (.getfield 19, 3) := by decide +kernel
theorem dX5_count_115 : decode cX5_count 115 = .ok (.sipush 293, 3) := by decide +kernel
theorem dX5_count_118 : decode cX5_count 118 = .ok (.iaload, 1) := by decide +kernel
theorem dX5_count_119 : decode cX5_count 119 = .ok (.ifCond .le 14, 3) := by decide +kernel
theorem dX5_count_122 : decode cX5_count 122 = .ok (.aload_n 0, 1) := by decide +kernel
theorem dX5_count_123 : decode cX5_count 123 = .ok (.getfield 19, 3) := by decide +kernel
theorem dX5_count_126 : decode cX5_count 126 = .ok (.sipush 295, 3) := by decide +kernel
theorem dX5_count_129 : decode cX5_count 129 = .ok (.iaload, 1) := by decide +kernel
theorem dX5_count_130 : decode cX5_count 130 = .ok (.goto 26, 3) := by decide +kernel
theorem dX5_count_133 : decode cX5_count 133 = .ok (.aload_n 0, 1) := by decide +kernel
theorem dX5_count_134 : decode cX5_count 134 = .ok (.getfield 19, 3) := by decide +kernel
theorem dX5_count_137 : decode cX5_count 137 = .ok (.sipush 296, 3) := by decide +kernel
theorem dX5_count_140 : decode cX5_count 140 = .ok (.iaload, 1) := by decide +kernel
theorem dX5_count_141 : decode cX5_count 141 = .ok (.ifCond .le 14, 3) := by decide +kernel
theorem dX5_count_144 : decode cX5_count 144 = .ok (.aload_n 0, 1) := by decide +kernel
theorem dX5_count_145 : decode cX5_count 145 = .ok (.getfield 19, 3) := by decide +kernel
theorem dX5_count_148 : decode cX5_count 148 = .ok (.sipush 297, 3) := by decide +kernel
theorem dX5_count_151 : decode cX5_count 151 = .ok (.iaload, 1) := by decide +kernel
theorem dX5_count_152 : decode cX5_count 152 = .ok (.goto 4, 3) := by decide +kernel
theorem dX5_count_155 : decode cX5_count 155 = .ok (.iconst 0, 1) := by decide +kernel
theorem dX5_count_156 : decode cX5_count 156 = .ok (.ireturn, 1) := by decide +kernel
theorem dX5_count_157 : decode cX5_count 157 = .ok (.aload_n 0, 1) := by decide +kernel
theorem dX5_count_158 : decode cX5_count 158 = .ok (.getfield 19, 3) := by decide +kernel
theorem dX5_count_161 : decode cX5_count 161 = .ok (.sipush 298, 3) := by decide +kernel
theorem dX5_count_164 : decode cX5_count 164 = .ok (.iaload, 1) := by decide +kernel
theorem dX5_count_165 : decode cX5_count 165 = .ok (.iconst 1, 1) := by decide +kernel
theorem dX5_count_166 : decode cX5_count 166 = .ok (.if_icmp .ne 14, 3) := by decide +kernel
theorem dX5_count_169 : decode cX5_count 169 = .ok (.aload_n 0, 1) := by decide +kernel
theorem dX5_count_170 : decode cX5_count 170 = .ok (.getfield 19, 3) := by decide +kernel
theorem dX5_count_173 : decode cX5_count 173 = .ok (.sipush 299, 3) := by decide +kernel
theorem dX5_count_176 : decode cX5_count 176 = .ok (.iaload, 1) := by decide +kernel
theorem dX5_count_177 : decode cX5_count 177 = .ok (.goto 4, 3) := by decide +kernel
theorem dX5_count_180 : decode cX5_count 180 = .ok (.iconst 0, 1) := by decide +kernel
theorem dX5_count_181 : decode cX5_count 181 = .ok (.ireturn, 1) := by decide +kernel
theorem dX5_count_182 : decode cX5_count 182 = .ok (.aload_n 0, 1) := by decide +kernel
theorem dX5_count_183 : decode cX5_count 183 = .ok (.getfield 32, 3) := by decide +kernel
theorem dX5_count_186 : decode cX5_count 186 = .ok (.ireturn, 1) := by decide +kernel
theorem dX5_count_187 : decode cX5_count 187 = .ok (.aload_n 0, 1) := by decide +kernel
theorem dX5_count_188 : decode cX5_count 188 = .ok (.getfield 44, 3) := by decide +kernel
theorem dX5_count_191 : decode cX5_count 191 = .ok (.ireturn, 1) := by decide +kernel
theorem dX5_count_192 : decode cX5_count 192 = .ok (.aload_n 0, 1) := by decide +kernel
theorem dX5_count_193 : decode cX5_count 193 = .ok (.getfield 19, 3) := by decide +kernel
theorem dX5_count_196 : decode cX5_count 196 = .ok (.sipush 305, 3) := by decide +kernel
theorem dX5_count_199 : decode cX5_count 199 = .ok (.iaload, 1) := by decide +kernel
theorem dX5_count_200 : decode cX5_count 200 = .ok (.ireturn, 1) := by decide +kernel
theorem dX5_count_201 : decode cX5_count 201 = .ok (.iconst (-1), 1) := by decide +kernel
theorem dX5_count_202 : decode cX5_count 202 = .ok (.ireturn, 1) := by decide +kernel
