theorem dX11_build_54 : decode cX11_build 54 = .ok (.ior, 1) := by decide +kernel
theorem dX11_build_55 : decode cX11_build 55 = .ok (.putfield 268, 3) := by decide +kernel
theorem dX11_build_58 : decode cX11_build 58 = .ok (.aload_n 0, 1) := by decide +kernel
theorem dX11_build_59 : decode cX11_build 59 = .ok (.getfield 79, 3) := by decide +kernel
theorem dX11_build_62 : decode cX11_build 62 = .ok (.iload_n 1, 1) := by decide +kernel
theorem dX11_build_63 : decode cX11_build 63 = .ok (.aload_n 0, 1) := by decide +kernel
theorem dX11_build_64 : decode cX11_build 64 = .ok (.invokevirtual 295, 3) := by decide +kernel
theorem dX11_build_67 : decode cX11_build 67 = .ok (.iastore, 1) := by decide +kernel
theorem dX11_build_68 : decode cX11_build 68 = .ok (.aload_n 0, 1) := by decide +kernel
theorem dX11_build_69 : decode cX11_build 69 = .ok (.aload_n 0, 1) := by decide +kernel
theorem dX11_build_70 : decode cX11_build 70 = .ok (.getfield 67, 3) := by decide +kernel
theorem dX11_build_73 : decode cX11_build 73 = .ok (.iload_n 2, 1) := by decide +kernel
theorem dX11_build_74 : decode cX11_build 74 = .ok (.iaload, 1) := by decide +kernel
theorem dX11_build_75 : decode cX11_build 75 = .ok (.invokevirtual 252, 3) := by decide +kernel
theorem dX11_build_78 : decode cX11_build 78 = .ok (.aload_n 0, 1) := by decide +kernel
theorem dX11_build_79 : decode cX11_build 79 = .ok (.getfield 243, 3) := by decide +kernel
theorem dX11_build_82 : decode cX11_build 82 = .ok (.ireturn, 1) := by decide +kernel
theorem dX11_canPut_0 : decode cX11_canPut 0 = .ok (.aload_n 0, 1) := by decide +kernel
theorem dX11_canPut_1 : decode cX11_canPut 1 = .ok (.aload_n 0, 1) := by decide +kernel
theorem dX11_canPut_2 : decode cX11_canPut 2 = .ok (.getfield 76, 3) := by decide +kernel
theorem dX11_canPut_5 : decode cX11_canPut 5 = .ok (.iload_n 1, 1) := by decide +kernel
theorem dX11_canPut_6 : decode cX11_canPut 6 = .ok (.iaload, 1) := by decide +kernel
theorem dX11_canPut_7 : decode cX11_canPut 7 = .ok (.invokevirtual 332, 3) := by decide +kernel
theorem dX11_canPut_10 : decode cX11_canPut 10 = .ok (.bipush 60, 2) := by decide +kernel
theorem dX11_canPut_12 : decode cX11_canPut 12 = .ok (.if_icmp .lt 19, 3) := by decide +kernel
theorem dX11_canPut_15 : decode cX11_canPut 15 = .ok (.aload_n 0, 1) := by decide +kernel
theorem dX11_canPut_16 : decode cX11_canPut 16 = .ok (.aload_n 0, 1) := by decide +kernel
theorem dX11_canPut_17 : decode cX11_canPut 17 = .ok (.getfield 76, 3) := by decide +kernel
theorem dX11_canPut_20 : decode cX11_canPut 20 = .ok (.iload_n 1, 1) := by decide +kernel
theorem dX11_canPut_21 : decode cX11_canPut 21 = .ok (.iaload, 1) := by decide +kernel
theorem dX11_canPut_22 : decode cX11_canPut 22 = .ok (.iload_n 2, 1) := by decide +kernel
theorem dX11_canPut_23 : decode cX11_canPut 23 = .ok (.invokevirtual 218, 3) := by decide +kernel
theorem dX11_canPut_26 : decode cX11_canPut 26 = .ok (.ldc 170, 2) := by decide +kernel
theorem dX11_canPut_28 : decode cX11_canPut 28 = .ok (.if_icmp .eq 7, 3) := by decide +kernel
theorem dX11_canPut_31 : decode cX11_canPut 31 = .ok (.iconst 1, 1) := by decide +kernel
theorem dX11_canPut_32 : decode cX11_canPut 32 = .ok (.goto 4, 3) := by decide +kernel
theorem dX11_canPut_35 : decode cX11_canPut 35 = .ok (.iconst 0, 1) := by decide +kernel
theorem dX11_canPut_36 : decode cX11_canPut 36 = .ok (.ireturn, 1) := by decide +kernel
theorem dX11_builderPuts_0 : decode cX11_builderPuts 0 = .ok (.aload_n 0, 1) := by decide +kernel
theorem dX11_builderPuts_1 : decode cX11_builderPuts 1 = .ok (.getfield 76, 3) := by decide +kernel
theorem dX11_builderPuts_4 : decode cX11_builderPuts 4 = .ok (.iload_n 1, 1) := by decide +kernel
theorem dX11_builderPuts_5 : decode cX11_builderPuts 5 = .ok (.aload_n 0, 1) := by decide +kernel
theorem dX11_builderPuts_6 : decode cX11_builderPuts 6 = .ok (.aload_n 0, 1) := by decide +kernel
theorem dX11_builderPuts_7 : decode cX11_builderPuts 7 = .ok (.getfield 76, 3) := by decide +kernel
theorem dX11_builderPuts_10 : decode cX11_builderPuts 10 = .ok (.iload_n 1, 1) := by decide +kernel
theorem dX11_builderPuts_11 : decode cX11_builderPuts 11 = .ok (.iaload, 1) := by decide +kernel
theorem dX11_builderPuts_12 : decode cX11_builderPuts 12 = .ok (.iload_n 2, 1) := by decide +kernel
theorem dX11_builderPuts_13 : decode cX11_builderPuts 13 = .ok (.iload_n 3, 1) := by decide +kernel
theorem dX11_builderPuts_14 : decode cX11_builderPuts 14 = .ok (.aload_n 0, 1) := by decide +kernel
theorem dX11_builderPuts_15 : decode cX11_builderPuts 15 = .ok (.getfield 79, 3) := by decide +kernel
theorem dX11_builderPuts_18 : decode cX11_builderPuts 18 = .ok (.iload_n 1, 1) := by decide +kernel
theorem dX11_builderPuts_19 : decode cX11_builderPuts 19 = .ok (.iaload, 1) := by decide +kernel
theorem dX11_builderPuts_20 : decode cX11_builderPuts 20 = .ok (.invokevirtual 298, 3) := by decide +kernel
theorem dX11_builderPuts_23 : decode cX11_builderPuts 23 = .ok (.iastore, 1) := by decide +kernel
theorem dX11_builderPuts_24 : decode cX11_builderPuts 24 = .ok (.return_, 1) := by decide +kernel
theorem dX11_builderAdds_0 : decode cX11_builderAdds 0 = .ok (.aload_n 0, 1) := by decide +kernel
theorem dX11_builderAdds_1 : decode cX11_builderAdds 1 = .ok (.aload_n 0, 1) := by decide +kernel
theorem dX11_builderAdds_2 : decode cX11_builderAdds 2 = .ok (.getfield 76, 3) := by decide +kernel
theorem dX11_builderAdds_5 : decode cX11_builderAdds 5 = .ok (.iload_n 1, 1) := by decide +kernel
theorem dX11_builderAdds_6 : decode cX11_builderAdds 6 = .ok (.iaload, 1) := by decide +kernel
theorem dX11_builderAdds_7 : decode cX11_builderAdds 7 = .ok (.iload_n 2, 1) := by decide +kernel
theorem dX11_builderAdds_8 : decode cX11_builderAdds 8 = .ok (.invokevirtual 218, 3) := by decide +kernel
theorem dX11_builderAdds_11 : decode cX11_builderAdds 11 = .ok (.istore 4, 2) := by decide +kernel
theorem dX11_builderAdds_13 : decode cX11_builderAdds 13 = .ok (.aload_n 0, 1) := by decide +kernel
theorem dX11_builderAdds_14 : decode cX11_builderAdds 14 = .ok (.iload_n 1, 1) := by decide +kernel
theorem dX11_builderAdds_15 : decode cX11_builderAdds 15 = .ok (.iload_n 2, 1) := by decide +kernel
theorem dX11_builderAdds_16 : decode cX11_builderAdds 16 = .ok (.iload 4, 2) := by decide +kernel
theorem dX11_builderAdds_18 : decode cX11_builderAdds 18 = .ok (.ldc 170, 2) := by decide +kernel
theorem dX11_builderAdds_20 : decode cX11_builderAdds 20 = .ok (.if_icmp .ne 7, 3) := by decide +kernel
theorem dX11_builderAdds_23 : decode cX11_builderAdds 23 = .ok (.iload_n 3, 1) := by decide +kernel
theorem dX11_builderAdds_24 : decode cX11_builderAdds 24 = .ok (.goto 10, 3) := by decide +kernel
theorem dX11_builderAdds_27 : decode cX11_builderAdds 27 = .ok (.iload 4, 2) := by decide +kernel
theorem dX11_builderAdds_29 : decode cX11_builderAdds 29 = .ok (.iload_n 3, 1) := by decide +kernel
theorem dX11_builderAdds_30 : decode cX11_builderAdds 30 = .ok (.iadd, 1) := by decide +kernel
theorem dX11_builderAdds_31 : decode cX11_builderAdds 31 = .ok (.invokestatic 348, 3) := by decide +kernel
theorem dX11_builderAdds_34 : decode cX11_builderAdds 34 = .ok (.invokevirtual 384, 3) := by decide +kernel
theorem dX11_builderAdds_37 : decode cX11_builderAdds 37 = .ok (.return_, 1) := by decide +kernel
theorem dX11_builderIncs_0 : decode cX11_builderIncs 0 = .ok (.aload_n 0, 1) := by decide +kernel
theorem dX11_builderIncs_1 : decode cX11_builderIncs 1 = .ok (.aload_n 0, 1) := by decide +kernel
theorem dX11_builderIncs_2 : decode cX11_builderIncs 2 = .ok (.getfield 76, 3) := by decide +kernel
theorem dX11_builderIncs_5 : decode cX11_builderIncs 5 = .ok (.iload_n 1, 1) := by decide +kernel
theorem dX11_builderIncs_6 : decode cX11_builderIncs 6 = .ok (.iaload, 1) := by decide +kernel
theorem dX11_builderIncs_7 : decode cX11_builderIncs 7 = .ok (.invokevirtual 252, 3) := by decide +kernel
theorem dX11_builderIncs_10 : decode cX11_builderIncs 10 = .ok (.iconst 0, 1) := by decide +kernel
theorem dX11_builderIncs_11 : decode cX11_builderIncs 11 = .ok (.istore 5, 2) := by decide +kernel
theorem dX11_builderIncs_13 : decode cX11_builderIncs 13 = .ok (.iconst 0, 1) := by decide +kernel
theorem dX11_builderIncs_14 : decode cX11_builderIncs 14 = .ok (.istore 6, 2) := by decide +kernel
theorem dX11_builderIncs_16 : decode cX11_builderIncs 16 = .ok (.iload 6, 2) := by decide +kernel
theorem dX11_builderIncs_18 : decode cX11_builderIncs 18 = .ok (.aload_n 0, 1) := by decide +kernel
theorem dX11_builderIncs_19 : decode cX11_builderIncs 19 = .ok (.getfield 249, 3) := by decide +kernel
theorem dX11_builderIncs_22 : decode cX11_builderIncs 22 = .ok (.if_icmp .ge 47, 3) := by decide +kernel
theorem dX11_builderIncs_25 : decode cX11_builderIncs 25 = .ok (.aload_n 0, 1) := by decide +kernel
theorem dX11_builderIncs_26 : decode cX11_builderIncs 26 = .ok (.getfield 55, 3) := by decide +kernel
theorem dX11_builderIncs_29 : decode cX11_builderIncs 29 = .ok (.iload 6, 2) := by decide +kernel
theorem dX11_builderIncs_31 : decode cX11_builderIncs 31 = .ok (.iaload, 1) := by decide +kernel
theorem dX11_builderIncs_32 : decode cX11_builderIncs 32 = .ok (.i2l, 1) := by decide +kernel
theorem dX11_builderIncs_33 : decode cX11_builderIncs 33 = .ok (.iload_n 2, 1) := by decide +kernel
theorem dX11_builderIncs_34 : decode cX11_builderIncs 34 = .ok (.i2l, 1) := by decide +kernel
theorem dX11_builderIncs_35 : decode cX11_builderIncs 35 = .ok (.iload_n 3, 1) := by decide +kernel
theorem dX11_builderIncs_36 : decode cX11_builderIncs 36 = .ok (.i2l, 1) := by decide +kernel
theorem dX11_builderIncs_37 : decode cX11_builderIncs 37 = .ok (.invokestatic 174, 3) := by decide +kernel
theorem dX11_builderIncs_40 : decode cX11_builderIncs 40 = .ok (.ifCond .ne 6, 3) := by decide +kernel
theorem dX11_builderIncs_43 : decode cX11_builderIncs 43 = .ok (.goto 20, 3) := by decide +kernel
theorem dX11_builderIncs_46 : decode cX11_builderIncs 46 = .ok (.aload_n 0, 1) := by decide +kernel
theorem dX11_builderIncs_47 : decode cX11_builderIncs 47 = .ok (.getfield 101, 3) := by decide +kernel
theorem dX11_builderIncs_50 : decode cX11_builderIncs 50 = .ok (.iload 5, 2) := by decide +kernel
theorem dX11_builderIncs_52 : decode cX11_builderIncs 52 = .ok (.aload_n 0, 1) := by decide +kernel
theorem dX11_builderIncs_53 : decode cX11_builderIncs 53 = .ok (.getfield 55, 3) := by decide +kernel
theorem dX11_builderIncs_56 : decode cX11_builderIncs 56 = .ok (.iload 6, 2) := by decide +kernel
theorem dX11_builderIncs_58 : decode cX11_builderIncs 58 = .ok (.iaload, 1) := by decide +kernel
theorem dX11_builderIncs_59 : decode cX11_builderIncs 59 = .ok (.iastore, 1) := by decide +kernel
theorem dX11_builderIncs_60 : decode cX11_builderIncs 60 = .ok (.iinc 5 1, 3) := by decide +kernel
theorem dX11_builderIncs_63 : decode cX11_builderIncs 63 = .ok (.iinc 6 1, 3) := by decide +kernel
theorem dX11_builderIncs_66 : decode cX11_builderIncs 66 = .ok (.goto (-50), 3) := by decide +kernel
theorem dX11_builderIncs_69 : decode cX11_builderIncs 69 = .ok (.iconst 0, 1) := by decide +kernel
theorem dX11_builderIncs_70 : decode cX11_builderIncs 70 = .ok (.istore 6, 2) := by decide +kernel
theorem dX11_builderIncs_72 : decode cX11_builderIncs 72 = .ok (.iload 6, 2) := by decide +kernel
theorem dX11_builderIncs_74 : decode cX11_builderIncs 74 = .ok (.iload 5, 2) := by decide +kernel
theorem dX11_builderIncs_76 : decode cX11_builderIncs 76 = .ok (.if_icmp .ge 23, 3) := by decide +kernel
theorem dX11_builderIncs_79 : decode cX11_builderIncs 79 = .ok (.aload_n 0, 1) := by decide +kernel
theorem dX11_builderIncs_80 : decode cX11_builderIncs 80 = .ok (.iload_n 1, 1) := by decide +kernel
theorem dX11_builderIncs_81 : decode cX11_builderIncs 81 = .ok (.aload_n 0, 1) := by decide +kernel
theorem dX11_builderIncs_82 : decode cX11_builderIncs 82 = .ok (.getfield 101, 3) := by decide +kernel
theorem dX11_builderIncs_85 : decode cX11_builderIncs 85 = .ok (.iload 6, 2) := by decide +kernel
theorem dX11_builderIncs_87 : decode cX11_builderIncs 87 = .ok (.iaload, 1) := by decide +kernel
theorem dX11_builderIncs_88 : decode cX11_builderIncs 88 = .ok (.iload 4, 2) := by decide +kernel
theorem dX11_builderIncs_90 : decode cX11_builderIncs 90 = .ok (.invokevirtual 387, 3) := by decide +kernel
theorem dX11_builderIncs_93 : decode cX11_builderIncs 93 = .ok (.iinc 6 1, 3) := by decide +kernel
theorem dX11_builderIncs_96 : decode cX11_builderIncs 96 = .ok (.goto (-24), 3) := by decide +kernel
theorem dX11_builderIncs_99 : decode cX11_builderIncs 99 = .ok (.return_, 1) := by decide +kernel
theorem dX11_stops_0 : decode cX11_stops 0 = .ok (.aload_n 0, 1) := by decide +kernel
theorem dX11_stops_1 : decode cX11_stops 1 = .ok (.iload_n 1, 1) := by decide +kernel
theorem dX11_stops_2 : decode cX11_stops 2 = .ok (.invokevirtual 381, 3) := by decide +kernel
theorem dX11_stops_5 : decode cX11_stops 5 = .ok (.ifCond .ne 7, 3) := by decide +kernel
theorem dX11_stops_8 : decode cX11_stops 8 = .ok (.iconst 0, 1) := by decide +kernel
theorem dX11_stops_9 : decode cX11_stops 9 = .ok (.goto 24, 3) := by decide +kernel
theorem dX11_stops_12 : decode cX11_stops 12 = .ok (.iload_n 2, 1) := by decide +kernel
theorem dX11_stops_13 : decode cX11_stops 13 = .ok (.ifCond .ne 7, 3) := by decide +kernel
theorem dX11_stops_16 : decode cX11_stops 16 = .ok (.iconst 1, 1) := by decide +kernel
theorem dX11_stops_17 : decode cX11_stops 17 = .ok (.goto 16, 3) := by decide +kernel
theorem dX11_stops_20 : decode cX11_stops 20 = .ok (.aload_n 0, 1) := by decide +kernel
theorem dX11_stops_21 : decode cX11_stops 21 = .ok (.iload_n 1, 1) := by decide +kernel
theorem dX11_stops_22 : decode cX11_stops 22 = .ok (.invokevirtual 390, 3) := by decide +kernel
theorem dX11_stops_25 : decode cX11_stops 25 = .ok (.ifCond .ne 7, 3) := by decide +kernel
theorem dX11_stops_28 : decode cX11_stops 28 = .ok (.iconst 2, 1) := by decide +kernel
theorem dX11_stops_29 : decode cX11_stops 29 = .ok (.goto 4, 3) := by decide +kernel
theorem dX11_stops_32 : decode cX11_stops 32 = .ok (.iconst (-1), 1) := by decide +kernel
theorem dX11_stops_33 : decode cX11_stops 33 = .ok (.ireturn, 1) := by decide +kernel
theorem dX11_lays_0 : decode cX11_lays 0 = .ok (.aload_n 0, 1) := by decide +kernel
theorem dX11_lays_1 : decode cX11_lays 1 = .ok (.iconst 0, 1) := by decide +kernel
theorem dX11_lays_2 : decode cX11_lays 2 = .ok (.putfield 116, 3) := by decide +kernel
theorem dX11_lays_5 : decode cX11_lays 5 = .ok (.aload_n 0, 1) := by decide +kernel
theorem dX11_lays_6 : decode cX11_lays 6 = .ok (.iload_n 1, 1) := by decide +kernel
theorem dX11_lays_7 : decode cX11_lays 7 = .ok (.iload_n 2, 1) := by decide +kernel
theorem dX11_lays_8 : decode cX11_lays 8 = .ok (.i2l, 1) := by decide +kernel
theorem dX11_lays_9 : decode cX11_lays 9 = .ok (.lconst 0, 1) := by decide +kernel
theorem dX11_lays_10 : decode cX11_lays 10 = .ok (.ldc2_w 335, 3) := by decide +kernel
theorem dX11_lays_13 : decode cX11_lays 13 = .ok (.invokestatic 174, 3) := by decide +kernel
theorem dX11_lays_16 : decode cX11_lays 16 = .ok (.ifCond .eq 21, 3) := by decide +kernel
theorem dX11_lays_19 : decode cX11_lays 19 = .ok (.iload_n 3, 1) := by decide +kernel
theorem dX11_lays_20 : decode cX11_lays 20 = .ok (.i2l, 1) := by decide +kernel
theorem dX11_lays_21 : decode cX11_lays 21 = .ok (.ldc2_w 337, 3) := by decide +kernel
theorem dX11_lays_24 : decode cX11_lays 24 = .ok (.ldc2_w 335, 3) := by decide +kernel
theorem dX11_lays_27 : decode cX11_lays 27 = .ok (.invokestatic 174, 3) := by decide +kernel
theorem dX11_lays_30 : decode cX11_lays 30 = .ok (.ifCond .eq 7, 3) := by decide +kernel
theorem dX11_lays_33 : decode cX11_lays 33 = .ok (.iconst 1, 1) := by decide +kernel
theorem dX11_lays_34 : decode cX11_lays 34 = .ok (.goto 4, 3) := by decide +kernel
theorem dX11_lays_37 : decode cX11_lays 37 = .ok (.iconst 0, 1) := by decide +kernel
theorem dX11_lays_38 : decode cX11_lays 38 = .ok (.invokevirtual 393, 3) := by decide +kernel
theorem dX11_lays_41 : decode cX11_lays 41 = .ok (.istore 5, 2) := by decide +kernel
theorem dX11_lays_43 : decode cX11_lays 43 = .ok (.iload 5, 2) := by decide +kernel
theorem dX11_lays_45 : decode cX11_lays 45 = .ok (.iconst (-1), 1) := by decide +kernel
theorem dX11_lays_46 : decode cX11_lays 46 = .ok (.if_icmp .ne 15, 3) := by decide +kernel
theorem dX11_lays_49 : decode cX11_lays 49 = .ok (.aload_n 0, 1) := by decide +kernel
theorem dX11_lays_50 : decode cX11_lays 50 = .ok (.iload_n 1, 1) := by decide +kernel
theorem dX11_lays_51 : decode cX11_lays 51 = .ok (.iload_n 2, 1) := by decide +kernel
theorem dX11_lays_52 : decode cX11_lays 52 = .ok (.invokevirtual 397, 3) := by decide +kernel
theorem dX11_lays_55 : decode cX11_lays 55 = .ok (.ifCond .ne 6, 3) := by decide +kernel
theorem dX11_lays_58 : decode cX11_lays 58 = .ok (.iconst 3, 1) := by decide +kernel
theorem dX11_lays_59 : decode cX11_lays 59 = .ok (.istore 5, 2) := by decide +kernel
theorem dX11_lays_61 : decode cX11_lays 61 = .ok (.iload 5, 2) := by decide +kernel
theorem dX11_lays_63 : decode cX11_lays 63 = .ok (.iconst (-1), 1) := by decide +kernel
theorem dX11_lays_64 : decode cX11_lays 64 = .ok (.if_icmp .eq 10, 3) := by decide +kernel
theorem dX11_lays_67 : decode cX11_lays 67 = .ok (.aload_n 0, 1) := by decide +kernel
theorem dX11_lays_68 : decode cX11_lays 68 = .ok (.iload 5, 2) := by decide +kernel
theorem dX11_lays_70 : decode cX11_lays 70 = .ok (.invokevirtual 292, 3) := by decide +kernel
theorem dX11_lays_73 : decode cX11_lays 73 = .ok (.ireturn, 1) := by decide +kernel
theorem dX11_lays_74 : decode cX11_lays 74 = .ok (.aload_n 0, 1) := by decide +kernel
theorem dX11_lays_75 : decode cX11_lays 75 = .ok (.invokevirtual 278, 3) := by decide +kernel
theorem dX11_lays_78 : decode cX11_lays 78 = .ok (.aload_n 0, 1) := by decide +kernel
theorem dX11_lays_79 : decode cX11_lays 79 = .ok (.getfield 190, 3) := by decide +kernel
theorem dX11_lays_82 : decode cX11_lays 82 = .ok (.istore 6, 2) := by decide +kernel
theorem dX11_lays_84 : decode cX11_lays 84 = .ok (.iload 4, 2) := by decide +kernel
theorem dX11_lays_86 : decode cX11_lays 86 = .ok (.ifCond .eq 13, 3) := by decide +kernel
theorem dX11_lays_89 : decode cX11_lays 89 = .ok (.aload_n 0, 1) := by decide +kernel
theorem dX11_lays_90 : decode cX11_lays 90 = .ok (.iload_n 1, 1) := by decide +kernel
theorem dX11_lays_91 : decode cX11_lays 91 = .ok (.iload_n 2, 1) := by decide +kernel
theorem dX11_lays_92 : decode cX11_lays 92 = .ok (.iload_n 3, 1) := by decide +kernel
theorem dX11_lays_93 : decode cX11_lays 93 = .ok (.invokevirtual 387, 3) := by decide +kernel
theorem dX11_lays_96 : decode cX11_lays 96 = .ok (.goto 10, 3) := by decide +kernel
theorem dX11_lays_99 : decode cX11_lays 99 = .ok (.aload_n 0, 1) := by decide +kernel
theorem dX11_lays_100 : decode cX11_lays 100 = .ok (.iload_n 1, 1) := by decide +kernel
theorem dX11_lays_101 : decode cX11_lays 101 = .ok (.iload_n 2, 1) := by decide +kernel
theorem dX11_lays_102 : decode cX11_lays 102 = .ok (.iload_n 3, 1) := by decide +kernel
theorem dX11_lays_103 : decode cX11_lays 103 = .ok (.invokevirtual 384, 3) := by decide +kernel
theorem dX11_lays_106 : decode cX11_lays 106 = .ok (.aload_n 0, 1) := by decide +kernel
theorem dX11_lays_107 : decode cX11_lays 107 = .ok (.getfield 190, 3) := by decide +kernel
theorem dX11_lays_110 : decode cX11_lays 110 = .ok (.iload 6, 2) := by decide +kernel
theorem dX11_lays_112 : decode cX11_lays 112 = .ok (.isub, 1) := by decide +kernel
theorem dX11_lays_113 : decode cX11_lays 113 = .ok (.ireturn, 1) := by decide +kernel
theorem dX11_lay_0 : decode cX11_lay 0 = .ok (.aload_n 0, 1) := by decide +kernel
theorem dX11_lay_1 : decode cX11_lay 1 = .ok (.iload_n 1, 1) := by decide +kernel
theorem dX11_lay_2 : decode cX11_lay 2 = .ok (.iload_n 2, 1) := by decide +kernel
theorem dX11_lay_3 : decode cX11_lay 3 = .ok (.iload_n 3, 1) := by decide +kernel
theorem dX11_lay_4 : decode cX11_lay 4 = .ok (.iconst 0, 1) := by decide +kernel
theorem dX11_lay_5 : decode cX11_lay 5 = .ok (.invokevirtual 400, 3) := by decide +kernel
theorem dX11_lay_8 : decode cX11_lay 8 = .ok (.ireturn, 1) := by decide +kernel
theorem dX11_add_0 : decode cX11_add 0 = .ok (.aload_n 0, 1) := by decide +kernel
theorem dX11_add_1 : decode cX11_add 1 = .ok (.iload_n 1, 1) := by decide +kernel
theorem dX11_add_2 : decode cX11_add 2 = .ok (.iload_n 2, 1) := by decide +kernel
theorem dX11_add_3 : decode cX11_add 3 = .ok (.iload_n 3, 1) := by decide +kernel
theorem dX11_add_4 : decode cX11_add 4 = .ok (.iconst 1, 1) := by decide +kernel
theorem dX11_add_5 : decode cX11_add 5 = .ok (.invokevirtual 400, 3) := by decide +kernel
theorem dX11_add_8 : decode cX11_add 8 = .ok (.ireturn, 1) := by decide +kernel
theorem dX11_take_0 : decode cX11_take 0 = .ok (.aload_n 0, 1) := by decide +kernel
theorem dX11_take_1 : decode cX11_take 1 = .ok (.iconst 0, 1) := by decide +kernel
theorem dX11_take_2 : decode cX11_take 2 = .ok (.putfield 116, 3) := by decide +kernel
theorem dX11_take_5 : decode cX11_take 5 = .ok (.aload_n 0, 1) := by decide +kernel
theorem dX11_take_6 : decode cX11_take 6 = .ok (.iload_n 1, 1) := by decide +kernel
theorem dX11_take_7 : decode cX11_take 7 = .ok (.iload_n 2, 1) := by decide +kernel
theorem dX11_take_8 : decode cX11_take 8 = .ok (.i2l, 1) := by decide +kernel
theorem dX11_take_9 : decode cX11_take 9 = .ok (.lconst 0, 1) := by decide +kernel
theorem dX11_take_10 : decode cX11_take 10 = .ok (.ldc2_w 335, 3) := by decide +kernel
theorem dX11_take_13 : decode cX11_take 13 = .ok (.invokestatic 174, 3) := by decide +kernel
theorem dX11_take_16 : decode cX11_take 16 = .ok (.invokevirtual 393, 3) := by decide +kernel
theorem dX11_take_19 : decode cX11_take 19 = .ok (.istore_n 3, 1) := by decide +kernel
theorem dX11_take_20 : decode cX11_take 20 = .ok (.iload_n 3, 1) := by decide +kernel
theorem dX11_take_21 : decode cX11_take 21 = .ok (.iconst (-1), 1) := by decide +kernel
theorem dX11_take_22 : decode cX11_take 22 = .ok (.if_icmp .eq 9, 3) := by decide +kernel
theorem dX11_take_25 : decode cX11_take 25 = .ok (.aload_n 0, 1) := by decide +kernel
theorem dX11_take_26 : decode cX11_take 26 = .ok (.iload_n 3, 1) := by decide +kernel
theorem dX11_take_27 : decode cX11_take 27 = .ok (.invokevirtual 292, 3) := by decide +kernel
theorem dX11_take_30 : decode cX11_take 30 = .ok (.ireturn, 1) := by decide +kernel
theorem dX11_take_31 : decode cX11_take 31 = .ok (.aload_n 0, 1) := by decide +kernel
theorem dX11_take_32 : decode cX11_take 32 = .ok (.invokevirtual 278, 3) := by decide +kernel
theorem dX11_take_35 : decode cX11_take 35 = .ok (.aload_n 0, 1) := by decide +kernel
theorem dX11_take_36 : decode cX11_take 36 = .ok (.getfield 190, 3) := by decide +kernel
theorem dX11_take_39 : decode cX11_take 39 = .ok (.istore 4, 2) := by decide +kernel
theorem dX11_take_41 : decode cX11_take 41 = .ok (.aload_n 0, 1) := by decide +kernel
theorem dX11_take_42 : decode cX11_take 42 = .ok (.getfield 76, 3) := by decide +kernel
theorem dX11_take_45 : decode cX11_take 45 = .ok (.iload_n 1, 1) := by decide +kernel
theorem dX11_take_46 : decode cX11_take 46 = .ok (.aload_n 0, 1) := by decide +kernel
theorem dX11_take_47 : decode cX11_take 47 = .ok (.aload_n 0, 1) := by decide +kernel
theorem dX11_take_48 : decode cX11_take 48 = .ok (.getfield 76, 3) := by decide +kernel
theorem dX11_take_51 : decode cX11_take 51 = .ok (.iload_n 1, 1) := by decide +kernel
theorem dX11_take_52 : decode cX11_take 52 = .ok (.iaload, 1) := by decide +kernel
theorem dX11_take_53 : decode cX11_take 53 = .ok (.iload_n 2, 1) := by decide +kernel
theorem dX11_take_54 : decode cX11_take 54 = .ok (.aload_n 0, 1) := by decide +kernel
theorem dX11_take_55 : decode cX11_take 55 = .ok (.getfield 79, 3) := by decide +kernel
theorem dX11_take_58 : decode cX11_take 58 = .ok (.iload_n 1, 1) := by decide +kernel
theorem dX11_take_59 : decode cX11_take 59 = .ok (.iaload, 1) := by decide +kernel
theorem dX11_take_60 : decode cX11_take 60 = .ok (.invokevirtual 339, 3) := by decide +kernel
theorem dX11_take_63 : decode cX11_take 63 = .ok (.iastore, 1) := by decide +kernel
theorem dX11_take_64 : decode cX11_take 64 = .ok (.aload_n 0, 1) := by decide +kernel
theorem dX11_take_65 : decode cX11_take 65 = .ok (.getfield 190, 3) := by decide +kernel
theorem dX11_take_68 : decode cX11_take 68 = .ok (.iload 4, 2) := by decide +kernel
theorem dX11_take_70 : decode cX11_take 70 = .ok (.isub, 1) := by decide +kernel
theorem dX11_take_71 : decode cX11_take 71 = .ok (.ireturn, 1) := by decide +kernel
theorem dX11_cut_0 : decode cX11_cut 0 = .ok (.aload_n 0, 1) := by decide +kernel
theorem dX11_cut_1 : decode cX11_cut 1 = .ok (.iconst 0, 1) := by decide +kernel
theorem dX11_cut_2 : decode cX11_cut 2 = .ok (.putfield 116, 3) := by decide +kernel
theorem dX11_cut_5 : decode cX11_cut 5 = .ok (.aload_n 0, 1) := by decide +kernel
theorem dX11_cut_6 : decode cX11_cut 6 = .ok (.iload_n 1, 1) := by decide +kernel
theorem dX11_cut_7 : decode cX11_cut 7 = .ok (.iload_n 2, 1) := by decide +kernel
theorem dX11_cut_8 : decode cX11_cut 8 = .ok (.i2l, 1) := by decide +kernel
theorem dX11_cut_9 : decode cX11_cut 9 = .ok (.lconst 0, 1) := by decide +kernel
theorem dX11_cut_10 : decode cX11_cut 10 = .ok (.ldc2_w 335, 3) := by decide +kernel
theorem dX11_cut_13 : decode cX11_cut 13 = .ok (.invokestatic 174, 3) := by decide +kernel
theorem dX11_cut_16 : decode cX11_cut 16 = .ok (.ifCond .eq 20, 3) := by decide +kernel
theorem dX11_cut_19 : decode cX11_cut 19 = .ok (.iload_n 3, 1) := by decide +kernel
theorem dX11_cut_20 : decode cX11_cut 20 = .ok (.i2l, 1) := by decide +kernel
theorem dX11_cut_21 : decode cX11_cut 21 = .ok (.iload_n 2, 1) := by decide +kernel
theorem dX11_cut_22 : decode cX11_cut 22 = .ok (.i2l, 1) := by decide +kernel
theorem dX11_cut_23 : decode cX11_cut 23 = .ok (.ldc2_w 335, 3) := by decide +kernel
theorem dX11_cut_26 : decode cX11_cut 26 = .ok (.invokestatic 174, 3) := by decide +kernel
theorem dX11_cut_29 : decode cX11_cut 29 = .ok (.ifCond .eq 7, 3) := by decide +kernel
theorem dX11_cut_32 : decode cX11_cut 32 = .ok (.iconst 1, 1) := by decide +kernel
theorem dX11_cut_33 : decode cX11_cut 33 = .ok (.goto 4, 3) := by decide +kernel
theorem dX11_cut_36 : decode cX11_cut 36 = .ok (.iconst 0, 1) := by decide +kernel
theorem dX11_cut_37 : decode cX11_cut 37 = .ok (.invokevirtual 393, 3) := by decide +kernel
theorem dX11_cut_40 : decode cX11_cut 40 = .ok (.istore 4, 2) := by decide +kernel
theorem dX11_cut_42 : decode cX11_cut 42 = .ok (.iload 4, 2) := by decide +kernel
theorem dX11_cut_44 : decode cX11_cut 44 = .ok (.iconst (-1), 1) := by decide +kernel
theorem dX11_cut_45 : decode cX11_cut 45 = .ok (.if_icmp .eq 10, 3) := by decide +kernel
theorem dX11_cut_48 : decode cX11_cut 48 = .ok (.aload_n 0, 1) := by decide +kernel
theorem dX11_cut_49 : decode cX11_cut 49 = .ok (.iload 4, 2) := by decide +kernel
theorem dX11_cut_51 : decode cX11_cut 51 = .ok (.invokevirtual 292, 3) := by decide +kernel
theorem dX11_cut_54 : decode cX11_cut 54 = .ok (.ireturn, 1) := by decide +kernel
theorem dX11_cut_55 : decode cX11_cut 55 = .ok (.aload_n 0, 1) := by decide +kernel
theorem dX11_cut_56 : decode cX11_cut 56 = .ok (.invokevirtual 278, 3) := by decide +kernel
theorem dX11_cut_59 : decode cX11_cut 59 = .ok (.aload_n 0, 1) := by decide +kernel
theorem dX11_cut_60 : decode cX11_cut 60 = .ok (.getfield 190, 3) := by decide +kernel
theorem dX11_cut_63 : decode cX11_cut 63 = .ok (.istore 5, 2) := by decide +kernel
theorem dX11_cut_65 : decode cX11_cut 65 = .ok (.aload_n 0, 1) := by decide +kernel
theorem dX11_cut_66 : decode cX11_cut 66 = .ok (.getfield 76, 3) := by decide +kernel
theorem dX11_cut_69 : decode cX11_cut 69 = .ok (.iload_n 1, 1) := by decide +kernel
theorem dX11_cut_70 : decode cX11_cut 70 = .ok (.aload_n 0, 1) := by decide +kernel
theorem dX11_cut_71 : decode cX11_cut 71 = .ok (.aload_n 0, 1) := by decide +kernel
theorem dX11_cut_72 : decode cX11_cut 72 = .ok (.getfield 76, 3) := by decide +kernel
theorem dX11_cut_75 : decode cX11_cut 75 = .ok (.iload_n 1, 1) := by decide +kernel
theorem dX11_cut_76 : decode cX11_cut 76 = .ok (.iaload, 1) := by decide +kernel
theorem dX11_cut_77 : decode cX11_cut 77 = .ok (.iload_n 2, 1) := by decide +kernel
theorem dX11_cut_78 : decode cX11_cut 78 = .ok (.iload_n 3, 1) := by decide +kernel
theorem dX11_cut_79 : decode cX11_cut 79 = .ok (.iconst 1, 1) := by decide +kernel
theorem dX11_cut_80 : decode cX11_cut 80 = .ok (.aload_n 0, 1) := by decide +kernel
theorem dX11_cut_81 : decode cX11_cut 81 = .ok (.getfield 79, 3) := by decide +kernel
theorem dX11_cut_84 : decode cX11_cut 84 = .ok (.iload_n 1, 1) := by decide +kernel
theorem dX11_cut_85 : decode cX11_cut 85 = .ok (.iaload, 1) := by decide +kernel
theorem dX11_cut_86 : decode cX11_cut 86 = .ok (.invokevirtual 377, 3) := by decide +kernel
theorem dX11_cut_89 : decode cX11_cut 89 = .ok (.iastore, 1) := by decide +kernel
theorem dX11_cut_90 : decode cX11_cut 90 = .ok (.aload_n 0, 1) := by decide +kernel
theorem dX11_cut_91 : decode cX11_cut 91 = .ok (.getfield 190, 3) := by decide +kernel
theorem dX11_cut_94 : decode cX11_cut 94 = .ok (.iload 5, 2) := by decide +kernel
theorem dX11_cut_96 : decode cX11_cut 96 = .ok (.isub, 1) := by decide +kernel
theorem dX11_cut_97 : decode cX11_cut 97 = .ok (.ireturn, 1) := by decide +kernel
theorem dX11_inc_0 : decode cX11_inc 0 = .ok (.aload_n 0, 1) := by decide +kernel
theorem dX11_inc_1 : decode cX11_inc 1 = .ok (.iconst 0, 1) := by decide +kernel
theorem dX11_inc_2 : decode cX11_inc 2 = .ok (.putfield 116, 3) := by decide +kernel
theorem dX11_inc_5 : decode cX11_inc 5 = .ok (.aload_n 0, 1) := by decide +kernel
theorem dX11_inc_6 : decode cX11_inc 6 = .ok (.iload_n 1, 1) := by decide +kernel
theorem dX11_inc_7 : decode cX11_inc 7 = .ok (.iload_n 2, 1) := by decide +kernel
theorem dX11_inc_8 : decode cX11_inc 8 = .ok (.i2l, 1) := by decide +kernel
theorem dX11_inc_9 : decode cX11_inc 9 = .ok (.lconst 0, 1) := by decide +kernel
theorem dX11_inc_10 : decode cX11_inc 10 = .ok (.ldc2_w 335, 3) := by decide +kernel
theorem dX11_inc_13 : decode cX11_inc 13 = .ok (.invokestatic 174, 3) := by decide +kernel
theorem dX11_inc_16 : decode cX11_inc 16 = .ok (.ifCond .eq 35, 3) := by decide +kernel
theorem dX11_inc_19 : decode cX11_inc 19 = .ok (.iload_n 3, 1) := by decide +kernel
theorem dX11_inc_20 : decode cX11_inc 20 = .ok (.i2l, 1) := by decide +kernel
theorem dX11_inc_21 : decode cX11_inc 21 = .ok (.iload_n 2, 1) := by decide +kernel
theorem dX11_inc_22 : decode cX11_inc 22 = .ok (.i2l, 1) := by decide +kernel
theorem dX11_inc_23 : decode cX11_inc 23 = .ok (.ldc2_w 335, 3) := by decide +kernel
theorem dX11_inc_26 : decode cX11_inc 26 = .ok (.invokestatic 174, 3) := by decide +kernel
theorem dX11_inc_29 : decode cX11_inc 29 = .ok (.ifCond .eq 22, 3) := by decide +kernel
theorem dX11_inc_32 : decode cX11_inc 32 = .ok (.iload 4, 2) := by decide +kernel
theorem dX11_inc_34 : decode cX11_inc 34 = .ok (.i2l, 1) := by decide +kernel
theorem dX11_inc_35 : decode cX11_inc 35 = .ok (.ldc2_w 337, 3) := by decide +kernel
theorem dX11_inc_38 : decode cX11_inc 38 = .ok (.ldc2_w 335, 3) := by decide +kernel
theorem dX11_inc_41 : decode cX11_inc 41 = .ok (.invokestatic 174, 3) := by decide +kernel
theorem dX11_inc_44 : decode cX11_inc 44 = .ok (.ifCond .eq 7, 3) := by decide +kernel
theorem dX11_inc_47 : decode cX11_inc 47 = .ok (.iconst 1, 1) := by decide +kernel
theorem dX11_inc_48 : decode cX11_inc 48 = .ok (.goto 4, 3) := by decide +kernel
theorem dX11_inc_51 : decode cX11_inc 51 = .ok (.iconst 0, 1) := by decide +kernel
theorem dX11_inc_52 : decode cX11_inc 52 = .ok (.invokevirtual 393, 3) := by decide +kernel
theorem dX11_inc_55 : decode cX11_inc 55 = .ok (.istore 5, 2) := by decide +kernel
theorem dX11_inc_57 : decode cX11_inc 57 = .ok (.iload 5, 2) := by decide +kernel
theorem dX11_inc_59 : decode cX11_inc 59 = .ok (.iconst (-1), 1) := by decide +kernel
theorem dX11_inc_60 : decode cX11_inc 60 = .ok (.if_icmp .eq 10, 3) := by decide +kernel
theorem dX11_inc_63 : decode cX11_inc 63 = .ok (.aload_n 0, 1) := by decide +kernel
theorem dX11_inc_64 : decode cX11_inc 64 = .ok (.iload 5, 2) := by decide +kernel
theorem dX11_inc_66 : decode cX11_inc 66 = .ok (.invokevirtual 292, 3) := by decide +kernel
theorem dX11_inc_69 : decode cX11_inc 69 = .ok (.ireturn, 1) := by decide +kernel
theorem dX11_inc_70 : decode cX11_inc 70 = .ok (.aload_n 0, 1) := by decide +kernel
theorem dX11_inc_71 : decode cX11_inc 71 = .ok (.invokevirtual 278, 3) := by decide +kernel
theorem dX11_inc_74 : decode cX11_inc 74 = .ok (.aload_n 0, 1) := by decide +kernel
theorem dX11_inc_75 : decode cX11_inc 75 = .ok (.getfield 190, 3) := by decide +kernel
theorem dX11_inc_78 : decode cX11_inc 78 = .ok (.istore 6, 2) := by decide +kernel
theorem dX11_inc_80 : decode cX11_inc 80 = .ok (.aload_n 0, 1) := by decide +kernel
theorem dX11_inc_81 : decode cX11_inc 81 = .ok (.iload_n 1, 1) := by decide +kernel
theorem dX11_inc_82 : decode cX11_inc 82 = .ok (.iload_n 2, 1) := by decide +kernel
theorem dX11_inc_83 : decode cX11_inc 83 = .ok (.iload_n 3, 1) := by decide +kernel
theorem dX11_inc_84 : decode cX11_inc 84 = .ok (.iload 4, 2) := by decide +kernel
theorem dX11_inc_86 : decode cX11_inc 86 = .ok (.invokevirtual 404, 3) := by decide +kernel
theorem dX11_inc_89 : decode cX11_inc 89 = .ok (.aload_n 0, 1) := by decide +kernel
theorem dX11_inc_90 : decode cX11_inc 90 = .ok (.getfield 190, 3) := by decide +kernel
theorem dX11_inc_93 : decode cX11_inc 93 = .ok (.iload 6, 2) := by decide +kernel
theorem dX11_inc_95 : decode cX11_inc 95 = .ok (.isub, 1) := by decide +kernel
theorem dX11_inc_96 : decode cX11_inc 96 = .ok (.ireturn, 1) := by decide +kernel
theorem dX11_snapped_0 : decode cX11_snapped 0 = .ok (.aload_n 0, 1) := by decide +kernel
theorem dX11_snapped_1 : decode cX11_snapped 1 = .ok (.aload_n 0, 1) := by decide +kernel
theorem dX11_snapped_2 : decode cX11_snapped 2 = .ok (.getfield 76, 3) := by decide +kernel
theorem dX11_snapped_5 : decode cX11_snapped 5 = .ok (.iload_n 1, 1) := by decide +kernel
theorem dX11_snapped_6 : decode cX11_snapped 6 = .ok (.iaload, 1) := by decide +kernel
theorem dX11_snapped_7 : decode cX11_snapped 7 = .ok (.aload_n 0, 1) := by decide +kernel
theorem dX11_snapped_8 : decode cX11_snapped 8 = .ok (.getfield 82, 3) := by decide +kernel
theorem dX11_snapped_11 : decode cX11_snapped 11 = .ok (.iload_n 1, 1) := by decide +kernel
theorem dX11_snapped_12 : decode cX11_snapped 12 = .ok (.iaload, 1) := by decide +kernel
theorem dX11_snapped_13 : decode cX11_snapped 13 = .ok (.iconst (-1), 1) := by decide +kernel
theorem dX11_snapped_14 : decode cX11_snapped 14 = .ok (.invokevirtual 302, 3) := by decide +kernel
theorem dX11_snapped_17 : decode cX11_snapped 17 = .ok (.istore_n 2, 1) := by decide +kernel
theorem dX11_snapped_18 : decode cX11_snapped 18 = .ok (.aload_n 0, 1) := by decide +kernel
theorem dX11_snapped_19 : decode cX11_snapped 19 = .ok (.getfield 82, 3) := by decide +kernel
theorem dX11_snapped_22 : decode cX11_snapped 22 = .ok (.iload_n 1, 1) := by decide +kernel
theorem dX11_snapped_23 : decode cX11_snapped 23 = .ok (.iload_n 2, 1) := by decide +kernel
theorem dX11_snapped_24 : decode cX11_snapped 24 = .ok (.iastore, 1) := by decide +kernel
theorem dX11_snapped_25 : decode cX11_snapped 25 = .ok (.aload_n 0, 1) := by decide +kernel
theorem dX11_snapped_26 : decode cX11_snapped 26 = .ok (.getfield 79, 3) := by decide +kernel
theorem dX11_snapped_29 : decode cX11_snapped 29 = .ok (.iload_n 1, 1) := by decide +kernel
theorem dX11_snapped_30 : decode cX11_snapped 30 = .ok (.aload_n 0, 1) := by decide +kernel
theorem dX11_snapped_31 : decode cX11_snapped 31 = .ok (.invokevirtual 295, 3) := by decide +kernel
theorem dX11_snapped_34 : decode cX11_snapped 34 = .ok (.iastore, 1) := by decide +kernel
theorem dX11_snapped_35 : decode cX11_snapped 35 = .ok (.iload_n 2, 1) := by decide +kernel
theorem dX11_snapped_36 : decode cX11_snapped 36 = .ok (.ireturn, 1) := by decide +kernel
theorem dX11_snap_0 : decode cX11_snap 0 = .ok (.aload_n 0, 1) := by decide +kernel
theorem dX11_snap_1 : decode cX11_snap 1 = .ok (.iconst 0, 1) := by decide +kernel
theorem dX11_snap_2 : decode cX11_snap 2 = .ok (.putfield 116, 3) := by decide +kernel
theorem dX11_snap_5 : decode cX11_snap 5 = .ok (.aload_n 0, 1) := by decide +kernel
theorem dX11_snap_6 : decode cX11_snap 6 = .ok (.iload_n 1, 1) := by decide +kernel
theorem dX11_snap_7 : decode cX11_snap 7 = .ok (.iconst 1, 1) := by decide +kernel
theorem dX11_snap_8 : decode cX11_snap 8 = .ok (.invokevirtual 393, 3) := by decide +kernel
theorem dX11_snap_11 : decode cX11_snap 11 = .ok (.istore_n 2, 1) := by decide +kernel
theorem dX11_snap_12 : decode cX11_snap 12 = .ok (.iload_n 2, 1) := by decide +kernel
theorem dX11_snap_13 : decode cX11_snap 13 = .ok (.iconst (-1), 1) := by decide +kernel
theorem dX11_snap_14 : decode cX11_snap 14 = .ok (.if_icmp .ne 12, 3) := by decide +kernel
theorem dX11_snap_17 : decode cX11_snap 17 = .ok (.aload_n 0, 1) := by decide +kernel
theorem dX11_snap_18 : decode cX11_snap 18 = .ok (.invokevirtual 289, 3) := by decide +kernel
theorem dX11_snap_21 : decode cX11_snap 21 = .ok (.ifCond .ne 5, 3) := by decide +kernel
theorem dX11_snap_24 : decode cX11_snap 24 = .ok (.iconst 4, 1) := by decide +kernel
theorem dX11_snap_25 : decode cX11_snap 25 = .ok (.istore_n 2, 1) := by decide +kernel
theorem dX11_snap_26 : decode cX11_snap 26 = .ok (.iload_n 2, 1) := by decide +kernel
theorem dX11_snap_27 : decode cX11_snap 27 = .ok (.iconst (-1), 1) := by decide +kernel
theorem dX11_snap_28 : decode cX11_snap 28 = .ok (.if_icmp .ne 11, 3) := by decide +kernel
theorem dX11_snap_31 : decode cX11_snap 31 = .ok (.aload_n 0, 1) := by decide +kernel
theorem dX11_snap_32 : decode cX11_snap 32 = .ok (.iload_n 1, 1) := by decide +kernel
theorem dX11_snap_33 : decode cX11_snap 33 = .ok (.invokevirtual 407, 3) := by decide +kernel
theorem dX11_snap_36 : decode cX11_snap 36 = .ok (.goto 8, 3) := by decide +kernel
theorem dX11_snap_39 : decode cX11_snap 39 = .ok (.aload_n 0, 1) := by decide +kernel
theorem dX11_snap_40 : decode cX11_snap 40 = .ok (.iload_n 2, 1) := by decide +kernel
theorem dX11_snap_41 : decode cX11_snap 41 = .ok (.invokevirtual 292, 3) := by decide +kernel
theorem dX11_snap_44 : decode cX11_snap 44 = .ok (.ireturn, 1) := by decide +kernel
theorem dX11_freeze_0 : decode cX11_freeze 0 = .ok (.aload_n 0, 1) := by decide +kernel
theorem dX11_freeze_1 : decode cX11_freeze 1 = .ok (.iload_n 1, 1) := by decide +kernel
theorem dX11_freeze_2 : decode cX11_freeze 2 = .ok (.invokevirtual 410, 3) := by decide +kernel
theorem dX11_freeze_5 : decode cX11_freeze 5 = .ok (.istore_n 2, 1) := by decide +kernel
theorem dX11_freeze_6 : decode cX11_freeze 6 = .ok (.iload_n 2, 1) := by decide +kernel
theorem dX11_freeze_7 : decode cX11_freeze 7 = .ok (.iconst (-1), 1) := by decide +kernel
theorem dX11_freeze_8 : decode cX11_freeze 8 = .ok (.if_icmp .eq 17, 3) := by decide +kernel
theorem dX11_freeze_11 : decode cX11_freeze 11 = .ok (.aload_n 0, 1) := by decide +kernel
theorem dX11_freeze_12 : decode cX11_freeze 12 = .ok (.dup, 1) := by decide +kernel
theorem dX11_freeze_13 : decode cX11_freeze 13 = .ok (.getfield 268, 3) := by decide +kernel
theorem dX11_freeze_16 : decode cX11_freeze 16 = .ok (.iconst 1, 1) := by decide +kernel
theorem dX11_freeze_17 : decode cX11_freeze 17 = .ok (.iload_n 1, 1) := by decide +kernel
theorem dX11_freeze_18 : decode cX11_freeze 18 = .ok (.ishl, 1) := by decide +kernel
theorem dX11_freeze_19 : decode cX11_freeze 19 = .ok (.iconst (-1), 1) := by decide +kernel
theorem dX11_freeze_20 : decode cX11_freeze 20 = .ok (.ixor, 1) := by decide +kernel
theorem dX11_freeze_21 : decode cX11_freeze 21 = .ok (.iand, 1) := by decide +kernel
theorem dX11_freeze_22 : decode cX11_freeze 22 = .ok (.putfield 268, 3) := by decide +kernel
theorem dX11_freeze_25 : decode cX11_freeze 25 = .ok (.iload_n 2, 1) := by decide +kernel
theorem dX11_freeze_26 : decode cX11_freeze 26 = .ok (.ireturn, 1) := by decide +kernel
theorem dX11_peek_0 : decode cX11_peek 0 = .ok (.aload_n 0, 1) := by decide +kernel
theorem dX11_peek_1 : decode cX11_peek 1 = .ok (.iconst 0, 1) := by decide +kernel
theorem dX11_peek_2 : decode cX11_peek 2 = .ok (.putfield 116, 3) := by decide +kernel
theorem dX11_peek_5 : decode cX11_peek 5 = .ok (.aload_n 0, 1) := by decide +kernel
theorem dX11_peek_6 : decode cX11_peek 6 = .ok (.iload_n 1, 1) := by decide +kernel
theorem dX11_peek_7 : decode cX11_peek 7 = .ok (.invokevirtual 390, 3) := by decide +kernel
theorem dX11_peek_10 : decode cX11_peek 10 = .ok (.ifCond .eq 17, 3) := by decide +kernel
theorem dX11_peek_13 : decode cX11_peek 13 = .ok (.aload_n 0, 1) := by decide +kernel
theorem dX11_peek_14 : decode cX11_peek 14 = .ok (.aload_n 0, 1) := by decide +kernel
theorem dX11_peek_15 : decode cX11_peek 15 = .ok (.getfield 76, 3) := by decide +kernel
theorem dX11_peek_18 : decode cX11_peek 18 = .ok (.iload_n 1, 1) := by decide +kernel
theorem dX11_peek_19 : decode cX11_peek 19 = .ok (.iaload, 1) := by decide +kernel
theorem dX11_peek_20 : decode cX11_peek 20 = .ok (.iload_n 2, 1) := by decide +kernel
theorem dX11_peek_21 : decode cX11_peek 21 = .ok (.invokevirtual 218, 3) := by decide +kernel
theorem dX11_peek_24 : decode cX11_peek 24 = .ok (.goto 5, 3) := by decide +kernel
theorem dX11_peek_27 : decode cX11_peek 27 = .ok (.ldc 170, 2) := by decide +kernel
theorem dX11_peek_29 : decode cX11_peek 29 = .ok (.ireturn, 1) := by decide +kernel
theorem dX11_ownNodes_0 : decode cX11_ownNodes 0 = .ok (.iconst 0, 1) := by decide +kernel
theorem dX11_ownNodes_1 : decode cX11_ownNodes 1 = .ok (.istore_n 2, 1) := by decide +kernel
theorem dX11_ownNodes_2 : decode cX11_ownNodes 2 = .ok (.iconst 0, 1) := by decide +kernel
theorem dX11_ownNodes_3 : decode cX11_ownNodes 3 = .ok (.istore_n 3, 1) := by decide +kernel
theorem dX11_ownNodes_4 : decode cX11_ownNodes 4 = .ok (.iload_n 3, 1) := by decide +kernel
theorem dX11_ownNodes_5 : decode cX11_ownNodes 5 = .ok (.aload_n 0, 1) := by decide +kernel
theorem dX11_ownNodes_6 : decode cX11_ownNodes 6 = .ok (.getfield 243, 3) := by decide +kernel
theorem dX11_ownNodes_9 : decode cX11_ownNodes 9 = .ok (.if_icmp .ge 37, 3) := by decide +kernel
theorem dX11_ownNodes_12 : decode cX11_ownNodes 12 = .ok (.iload_n 2, 1) := by decide +kernel
theorem dX11_ownNodes_13 : decode cX11_ownNodes 13 = .ok (.aload_n 0, 1) := by decide +kernel
theorem dX11_ownNodes_14 : decode cX11_ownNodes 14 = .ok (.getfield 29, 3) := by decide +kernel
theorem dX11_ownNodes_17 : decode cX11_ownNodes 17 = .ok (.aload_n 0, 1) := by decide +kernel
theorem dX11_ownNodes_18 : decode cX11_ownNodes 18 = .ok (.getfield 61, 3) := by decide +kernel
theorem dX11_ownNodes_21 : decode cX11_ownNodes 21 = .ok (.iload_n 3, 1) := by decide +kernel
theorem dX11_ownNodes_22 : decode cX11_ownNodes 22 = .ok (.iaload, 1) := by decide +kernel
theorem dX11_ownNodes_23 : decode cX11_ownNodes 23 = .ok (.iaload, 1) := by decide +kernel
theorem dX11_ownNodes_24 : decode cX11_ownNodes 24 = .ok (.aload_n 0, 1) := by decide +kernel
theorem dX11_ownNodes_25 : decode cX11_ownNodes 25 = .ok (.getfield 79, 3) := by decide +kernel
theorem dX11_ownNodes_28 : decode cX11_ownNodes 28 = .ok (.iload_n 1, 1) := by decide +kernel
theorem dX11_ownNodes_29 : decode cX11_ownNodes 29 = .ok (.iaload, 1) := by decide +kernel
theorem dX11_ownNodes_30 : decode cX11_ownNodes 30 = .ok (.if_icmp .ne 7, 3) := by decide +kernel
theorem dX11_ownNodes_33 : decode cX11_ownNodes 33 = .ok (.iconst 1, 1) := by decide +kernel
theorem dX11_ownNodes_34 : decode cX11_ownNodes 34 = .ok (.goto 4, 3) := by decide +kernel
theorem dX11_ownNodes_37 : decode cX11_ownNodes 37 = .ok (.iconst 0, 1) := by decide +kernel
theorem dX11_ownNodes_38 : decode cX11_ownNodes 38 = .ok (.iadd, 1) := by decide +kernel
theorem dX11_ownNodes_39 : decode cX11_ownNodes 39 = .ok (.istore_n 2, 1) := by decide +kernel
theorem dX11_ownNodes_40 : decode cX11_ownNodes 40 = .ok (.iinc 3 1, 3) := by decide +kernel
theorem dX11_ownNodes_43 : decode cX11_ownNodes 43 = .ok (.goto (-39), 3) := by decide +kernel
theorem dX11_ownNodes_46 : decode cX11_ownNodes 46 = .ok (.iload_n 2, 1) := by decide +kernel
theorem dX11_ownNodes_47 : decode cX11_ownNodes 47 = .ok (.ireturn, 1) := by decide +kernel
theorem dX11_builder_0 : decode cX11_builder 0 = .ok (.aload_n 0, 1) := by decide +kernel
theorem dX11_builder_1 : decode cX11_builder 1 = .ok (.iconst 0, 1) := by decide +kernel
theorem dX11_builder_2 : decode cX11_builder 2 = .ok (.putfield 116, 3) := by decide +kernel
theorem dX11_builder_5 : decode cX11_builder 5 = .ok (.aload_n 0, 1) := by decide +kernel
theorem dX11_builder_6 : decode cX11_builder 6 = .ok (.iload_n 1, 1) := by decide +kernel
theorem dX11_builder_7 : decode cX11_builder 7 = .ok (.invokevirtual 390, 3) := by decide +kernel
theorem dX11_builder_10 : decode cX11_builder 10 = .ok (.ifCond .eq 15, 3) := by decide +kernel
theorem dX11_builder_13 : decode cX11_builder 13 = .ok (.iload_n 2, 1) := by decide +kernel
theorem dX11_builder_14 : decode cX11_builder 14 = .ok (.i2l, 1) := by decide +kernel
theorem dX11_builder_15 : decode cX11_builder 15 = .ok (.lconst 0, 1) := by decide +kernel
theorem dX11_builder_16 : decode cX11_builder 16 = .ok (.ldc2_w 305, 3) := by decide +kernel
theorem dX11_builder_19 : decode cX11_builder 19 = .ok (.invokestatic 174, 3) := by decide +kernel
theorem dX11_builder_22 : decode cX11_builder 22 = .ok (.ifCond .ne 6, 3) := by decide +kernel
theorem dX11_builder_25 : decode cX11_builder 25 = .ok (.ldc 170, 2) := by decide +kernel
theorem dX11_builder_27 : decode cX11_builder 27 = .ok (.ireturn, 1) := by decide +kernel
theorem dX11_builder_28 : decode cX11_builder 28 = .ok (.aload_n 0, 1) := by decide +kernel
theorem dX11_builder_29 : decode cX11_builder 29 = .ok (.aload_n 0, 1) := by decide +kernel
theorem dX11_builder_30 : decode cX11_builder 30 = .ok (.getfield 76, 3) := by decide +kernel
theorem dX11_builder_33 : decode cX11_builder 33 = .ok (.iload_n 1, 1) := by decide +kernel
theorem dX11_builder_34 : decode cX11_builder 34 = .ok (.iaload, 1) := by decide +kernel
theorem dX11_builder_35 : decode cX11_builder 35 = .ok (.invokevirtual 252, 3) := by decide +kernel
theorem dX11_builder_38 : decode cX11_builder 38 = .ok (.iload_n 2, 1) := by decide +kernel
theorem dX11_builder_39 : decode cX11_builder 39 = .ok (.ifCond .ne 10, 3) := by decide +kernel
theorem dX11_builder_42 : decode cX11_builder 42 = .ok (.aload_n 0, 1) := by decide +kernel
theorem dX11_builder_43 : decode cX11_builder 43 = .ok (.getfield 249, 3) := by decide +kernel
theorem dX11_builder_46 : decode cX11_builder 46 = .ok (.goto 34, 3) := by decide +kernel
theorem dX11_builder_49 : decode cX11_builder 49 = .ok (.iload_n 2, 1) := by decide +kernel
theorem dX11_builder_50 : decode cX11_builder 50 = .ok (.iconst 1, 1) := by decide +kernel
theorem dX11_builder_51 : decode cX11_builder 51 = .ok (.if_icmp .ne 10, 3) := by decide +kernel
theorem dX11_builder_54 : decode cX11_builder 54 = .ok (.aload_n 0, 1) := by decide +kernel
theorem dX11_builder_55 : decode cX11_builder 55 = .ok (.getfield 243, 3) := by decide +kernel
theorem dX11_builder_58 : decode cX11_builder 58 = .ok (.goto 22, 3) := by decide +kernel
theorem dX11_builder_61 : decode cX11_builder 61 = .ok (.iload_n 2, 1) := by decide +kernel
theorem dX11_builder_62 : decode cX11_builder 62 = .ok (.iconst 2, 1) := by decide +kernel
theorem dX11_builder_63 : decode cX11_builder 63 = .ok (.if_icmp .ne 11, 3) := by decide +kernel
theorem dX11_builder_66 : decode cX11_builder 66 = .ok (.aload_n 0, 1) := by decide +kernel
theorem dX11_builder_67 : decode cX11_builder 67 = .ok (.iload_n 1, 1) := by decide +kernel
theorem dX11_builder_68 : decode cX11_builder 68 = .ok (.invokevirtual 413, 3) := by decide +kernel
theorem dX11_builder_71 : decode cX11_builder 71 = .ok (.goto 9, 3) := by decide +kernel
theorem dX11_builder_74 : decode cX11_builder 74 = .ok (.aload_n 0, 1) := by decide +kernel
theorem dX11_builder_75 : decode cX11_builder 75 = .ok (.getfield 82, 3) := by decide +kernel
theorem dX11_builder_78 : decode cX11_builder 78 = .ok (.iload_n 1, 1) := by decide +kernel
theorem dX11_builder_79 : decode cX11_builder 79 = .ok (.iaload, 1) := by decide +kernel
theorem dX11_builder_80 : decode cX11_builder 80 = .ok (.ireturn, 1) := by decide +kernel
theorem dX11_draw_0 : decode cX11_draw 0 = .ok (.aload_n 0, 1) := by decide +kernel
theorem dX11_draw_1 : decode cX11_draw 1 = .ok (.aload_n 0, 1) := by decide +kernel
theorem dX11_draw_2 : decode cX11_draw 2 = .ok (.getfield 416, 3) := by decide +kernel
theorem dX11_draw_5 : decode cX11_draw 5 = .ok (.ldc2_w 420, 3) := by decide +kernel
theorem dX11_draw_8 : decode cX11_draw 8 = .ok (.lmul, 1) := by decide +kernel
theorem dX11_draw_9 : decode cX11_draw 9 = .ok (.ldc2_w 422, 3) := by decide +kernel
theorem dX11_draw_12 : decode cX11_draw 12 = .ok (.ladd, 1) := by decide +kernel
theorem dX11_draw_13 : decode cX11_draw 13 = .ok (.putfield 416, 3) := by decide +kernel
theorem dX11_draw_16 : decode cX11_draw 16 = .ok (.aload_n 0, 1) := by decide +kernel
theorem dX11_draw_17 : decode cX11_draw 17 = .ok (.getfield 416, 3) := by decide +kernel
theorem dX11_draw_20 : decode cX11_draw 20 = .ok (.bipush 33, 2) := by decide +kernel
theorem dX11_draw_22 : decode cX11_draw 22 = .ok (.lushr, 1) := by decide +kernel
theorem dX11_draw_23 : decode cX11_draw 23 = .ok (.iload_n 1, 1) := by decide +kernel
theorem dX11_draw_24 : decode cX11_draw 24 = .ok (.i2l, 1) := by decide +kernel
theorem dX11_draw_25 : decode cX11_draw 25 = .ok (.lrem, 1) := by decide +kernel
theorem dX11_draw_26 : decode cX11_draw 26 = .ok (.l2i, 1) := by decide +kernel
theorem dX11_draw_27 : decode cX11_draw 27 = .ok (.ireturn, 1) := by decide +kernel
theorem dX11_draws_0 : decode cX11_draws 0 = .ok (.aload_n 0, 1) := by decide +kernel
theorem dX11_draws_1 : decode cX11_draws 1 = .ok (.iconst 0, 1) := by decide +kernel
theorem dX11_draws_2 : decode cX11_draws 2 = .ok (.putfield 116, 3) := by decide +kernel
theorem dX11_draws_5 : decode cX11_draws 5 = .ok (.aload_n 0, 1) := by decide +kernel
theorem dX11_draws_6 : decode cX11_draws 6 = .ok (.iload_n 1, 1) := by decide +kernel
theorem dX11_draws_7 : decode cX11_draws 7 = .ok (.iload_n 2, 1) := by decide +kernel
theorem dX11_draws_8 : decode cX11_draws 8 = .ok (.i2l, 1) := by decide +kernel
theorem dX11_draws_9 : decode cX11_draws 9 = .ok (.lconst 1, 1) := by decide +kernel
theorem dX11_draws_10 : decode cX11_draws 10 = .ok (.ldc2_w 424, 3) := by decide +kernel
theorem dX11_draws_13 : decode cX11_draws 13 = .ok (.invokestatic 174, 3) := by decide +kernel
theorem dX11_draws_16 : decode cX11_draws 16 = .ok (.invokevirtual 393, 3) := by decide +kernel
theorem dX11_draws_19 : decode cX11_draws 19 = .ok (.istore 5, 2) := by decide +kernel
theorem dX11_draws_21 : decode cX11_draws 21 = .ok (.iload 5, 2) := by decide +kernel
theorem dX11_draws_23 : decode cX11_draws 23 = .ok (.iconst (-1), 1) := by decide +kernel
theorem dX11_draws_24 : decode cX11_draws 24 = .ok (.if_icmp .eq 10, 3) := by decide +kernel
theorem dX11_draws_27 : decode cX11_draws 27 = .ok (.aload_n 0, 1) := by decide +kernel
theorem dX11_draws_28 : decode cX11_draws 28 = .ok (.iload 5, 2) := by decide +kernel
theorem dX11_draws_30 : decode cX11_draws 30 = .ok (.invokevirtual 292, 3) := by decide +kernel
theorem dX11_draws_33 : decode cX11_draws 33 = .ok (.ireturn, 1) := by decide +kernel
theorem dX11_draws_34 : decode cX11_draws 34 = .ok (.aload_n 0, 1) := by decide +kernel
theorem dX11_draws_35 : decode cX11_draws 35 = .ok (.invokevirtual 278, 3) := by decide +kernel
theorem dX11_draws_38 : decode cX11_draws 38 = .ok (.aload_n 0, 1) := by decide +kernel
theorem dX11_draws_39 : decode cX11_draws 39 = .ok (.lload_n 3, 1) := by decide +kernel
theorem dX11_draws_40 : decode cX11_draws 40 = .ok (.putfield 416, 3) := by decide +kernel
theorem dX11_draws_43 : decode cX11_draws 43 = .ok (.aload_n 0, 1) := by decide +kernel
theorem dX11_draws_44 : decode cX11_draws 44 = .ok (.getfield 190, 3) := by decide +kernel
theorem dX11_draws_47 : decode cX11_draws 47 = .ok (.istore 6, 2) := by decide +kernel
theorem dX11_draws_49 : decode cX11_draws 49 = .ok (.iconst 0, 1) := by decide +kernel
theorem dX11_draws_50 : decode cX11_draws 50 = .ok (.istore 7, 2) := by decide +kernel
theorem dX11_draws_52 : decode cX11_draws 52 = .ok (.iload 7, 2) := by decide +kernel
theorem dX11_draws_54 : decode cX11_draws 54 = .ok (.iload_n 2, 1) := by decide +kernel
theorem dX11_draws_55 : decode cX11_draws 55 = .ok (.if_icmp .ge 115, 3) := by decide +kernel
theorem dX11_draws_58 : decode cX11_draws 58 = .ok (.aload_n 0, 1) := by decide +kernel
theorem dX11_draws_59 : decode cX11_draws 59 = .ok (.iconst 4, 1) := by decide +kernel
theorem dX11_draws_60 : decode cX11_draws 60 = .ok (.invokevirtual 426, 3) := by decide +kernel
theorem dX11_draws_63 : decode cX11_draws 63 = .ok (.istore 8, 2) := by decide +kernel
theorem dX11_draws_65 : decode cX11_draws 65 = .ok (.aload_n 0, 1) := by decide +kernel
theorem dX11_draws_66 : decode cX11_draws 66 = .ok (.bipush 100, 2) := by decide +kernel
theorem dX11_draws_68 : decode cX11_draws 68 = .ok (.invokevirtual 426, 3) := by decide +kernel
theorem dX11_draws_71 : decode cX11_draws 71 = .ok (.istore 9, 2) := by decide +kernel
theorem dX11_draws_73 : decode cX11_draws 73 = .ok (.aload_n 0, 1) := by decide +kernel
theorem dX11_draws_74 : decode cX11_draws 74 = .ok (.bipush 19, 2) := by decide +kernel
theorem dX11_draws_76 : decode cX11_draws 76 = .ok (.invokevirtual 426, 3) := by decide +kernel
theorem dX11_draws_79 : decode cX11_draws 79 = .ok (.bipush 9, 2) := by decide +kernel
theorem dX11_draws_81 : decode cX11_draws 81 = .ok (.isub, 1) := by decide +kernel
theorem dX11_draws_82 : decode cX11_draws 82 = .ok (.istore 10, 2) := by decide +kernel
theorem dX11_draws_84 : decode cX11_draws 84 = .ok (.iload 8, 2) := by decide +kernel
theorem dX11_draws_86 : decode cX11_draws 86 = .ok (.iconst 3, 1) := by decide +kernel
theorem dX11_draws_87 : decode cX11_draws 87 = .ok (.if_icmp .ne 30, 3) := by decide +kernel
theorem dX11_draws_90 : decode cX11_draws 90 = .ok (.aload_n 0, 1) := by decide +kernel
theorem dX11_draws_91 : decode cX11_draws 91 = .ok (.getfield 76, 3) := by decide +kernel
theorem dX11_draws_94 : decode cX11_draws 94 = .ok (.iload_n 1, 1) := by decide +kernel
theorem dX11_draws_95 : decode cX11_draws 95 = .ok (.aload_n 0, 1) := by decide +kernel
theorem dX11_draws_96 : decode cX11_draws 96 = .ok (.aload_n 0, 1) := by decide +kernel
theorem dX11_draws_97 : decode cX11_draws 97 = .ok (.getfield 76, 3) := by decide +kernel
theorem dX11_draws_100 : decode cX11_draws 100 = .ok (.iload_n 1, 1) := by decide +kernel
theorem dX11_draws_101 : decode cX11_draws 101 = .ok (.iaload, 1) := by decide +kernel
theorem dX11_draws_102 : decode cX11_draws 102 = .ok (.iload 9, 2) := by decide +kernel
theorem dX11_draws_104 : decode cX11_draws 104 = .ok (.aload_n 0, 1) := by decide +kernel
theorem dX11_draws_105 : decode cX11_draws 105 = .ok (.getfield 79, 3) := by decide +kernel
theorem dX11_draws_108 : decode cX11_draws 108 = .ok (.iload_n 1, 1) := by decide +kernel
theorem dX11_draws_109 : decode cX11_draws 109 = .ok (.iaload, 1) := by decide +kernel
theorem dX11_draws_110 : decode cX11_draws 110 = .ok (.invokevirtual 339, 3) := by decide +kernel
theorem dX11_draws_113 : decode cX11_draws 113 = .ok (.iastore, 1) := by decide +kernel
theorem dX11_draws_114 : decode cX11_draws 114 = .ok (.goto 50, 3) := by decide +kernel
theorem dX11_draws_117 : decode cX11_draws 117 = .ok (.aload_n 0, 1) := by decide +kernel
theorem dX11_draws_118 : decode cX11_draws 118 = .ok (.iload_n 1, 1) := by decide +kernel
theorem dX11_draws_119 : decode cX11_draws 119 = .ok (.iload 9, 2) := by decide +kernel
theorem dX11_draws_121 : decode cX11_draws 121 = .ok (.invokevirtual 397, 3) := by decide +kernel
theorem dX11_draws_124 : decode cX11_draws 124 = .ok (.ifCond .eq 21, 3) := by decide +kernel
theorem dX11_draws_127 : decode cX11_draws 127 = .ok (.iload 8, 2) := by decide +kernel
theorem dX11_draws_129 : decode cX11_draws 129 = .ok (.iconst 2, 1) := by decide +kernel
theorem dX11_draws_130 : decode cX11_draws 130 = .ok (.if_icmp .ne 15, 3) := by decide +kernel
theorem dX11_draws_133 : decode cX11_draws 133 = .ok (.aload_n 0, 1) := by decide +kernel
theorem dX11_draws_134 : decode cX11_draws 134 = .ok (.iload_n 1, 1) := by decide +kernel
theorem dX11_draws_135 : decode cX11_draws 135 = .ok (.iload 9, 2) := by decide +kernel
theorem dX11_draws_137 : decode cX11_draws 137 = .ok (.iload 10, 2) := by decide +kernel
theorem dX11_draws_139 : decode cX11_draws 139 = .ok (.invokevirtual 387, 3) := by decide +kernel
theorem dX11_draws_142 : decode cX11_draws 142 = .ok (.goto 22, 3) := by decide +kernel
theorem dX11_draws_145 : decode cX11_draws 145 = .ok (.aload_n 0, 1) := by decide +kernel
theorem dX11_draws_146 : decode cX11_draws 146 = .ok (.iload_n 1, 1) := by decide +kernel
theorem dX11_draws_147 : decode cX11_draws 147 = .ok (.iload 9, 2) := by decide +kernel
theorem dX11_draws_149 : decode cX11_draws 149 = .ok (.invokevirtual 397, 3) := by decide +kernel
theorem dX11_draws_152 : decode cX11_draws 152 = .ok (.ifCond .eq 12, 3) := by decide +kernel
theorem dX11_draws_155 : decode cX11_draws 155 = .ok (.aload_n 0, 1) := by decide +kernel
theorem dX11_draws_156 : decode cX11_draws 156 = .ok (.iload_n 1, 1) := by decide +kernel
theorem dX11_draws_157 : decode cX11_draws 157 = .ok (.iload 9, 2) := by decide +kernel
theorem dX11_draws_159 : decode cX11_draws 159 = .ok (.iload 10, 2) := by decide +kernel
theorem dX11_draws_161 : decode cX11_draws 161 = .ok (.invokevirtual 384, 3) := by decide +kernel
theorem dX11_draws_164 : decode cX11_draws 164 = .ok (.iinc 7 1, 3) := by decide +kernel
theorem dX11_draws_167 : decode cX11_draws 167 = .ok (.goto (-115), 3) := by decide +kernel
theorem dX11_draws_170 : decode cX11_draws 170 = .ok (.aload_n 0, 1) := by decide +kernel
theorem dX11_draws_171 : decode cX11_draws 171 = .ok (.getfield 190, 3) := by decide +kernel
theorem dX11_draws_174 : decode cX11_draws 174 = .ok (.iload 6, 2) := by decide +kernel
theorem dX11_draws_176 : decode cX11_draws 176 = .ok (.isub, 1) := by decide +kernel
theorem dX11_draws_177 : decode cX11_draws 177 = .ok (.ireturn, 1) := by decide +kernel
theorem dX11_step_0 : decode cX11_step 0 = .ok (.aload_n 0, 1) := by decide +kernel
theorem dX11_step_1 : decode cX11_step 1 = .ok (.iconst 0, 1) := by decide +kernel
theorem dX11_step_2 : decode cX11_step 2 = .ok (.putfield 116, 3) := by decide +kernel
theorem dX11_step_5 : decode cX11_step 5 = .ok (.iload_n 1, 1) := by decide +kernel
theorem dX11_step_6 : decode cX11_step 6 = .ok (.i2l, 1) := by decide +kernel
theorem dX11_step_7 : decode cX11_step 7 = .ok (.lconst 0, 1) := by decide +kernel
theorem dX11_step_8 : decode cX11_step 8 = .ok (.aload_n 0, 1) := by decide +kernel
theorem dX11_step_9 : decode cX11_step 9 = .ok (.getfield 286, 3) := by decide +kernel
theorem dX11_step_12 : decode cX11_step 12 = .ok (.iconst 1, 1) := by decide +kernel
theorem dX11_step_13 : decode cX11_step 13 = .ok (.isub, 1) := by decide +kernel
theorem dX11_step_14 : decode cX11_step 14 = .ok (.i2l, 1) := by decide +kernel
theorem dX11_step_15 : decode cX11_step 15 = .ok (.invokestatic 174, 3) := by decide +kernel
theorem dX11_step_18 : decode cX11_step 18 = .ok (.ifCond .eq 51, 3) := by decide +kernel
theorem dX11_step_21 : decode cX11_step 21 = .ok (.iload_n 2, 1) := by decide +kernel
theorem dX11_step_22 : decode cX11_step 22 = .ok (.i2l, 1) := by decide +kernel
theorem dX11_step_23 : decode cX11_step 23 = .ok (.lconst 0, 1) := by decide +kernel
theorem dX11_step_24 : decode cX11_step 24 = .ok (.aload_n 0, 1) := by decide +kernel
theorem dX11_step_25 : decode cX11_step 25 = .ok (.getfield 20, 3) := by decide +kernel
theorem dX11_step_28 : decode cX11_step 28 = .ok (.iload_n 1, 1) := by decide +kernel
theorem dX11_step_29 : decode cX11_step 29 = .ok (.iaload, 1) := by decide +kernel
theorem dX11_step_30 : decode cX11_step 30 = .ok (.iconst 1, 1) := by decide +kernel
theorem dX11_step_31 : decode cX11_step 31 = .ok (.isub, 1) := by decide +kernel
theorem dX11_step_32 : decode cX11_step 32 = .ok (.i2l, 1) := by decide +kernel
theorem dX11_step_33 : decode cX11_step 33 = .ok (.invokestatic 174, 3) := by decide +kernel
theorem dX11_step_36 : decode cX11_step 36 = .ok (.ifCond .eq 33, 3) := by decide +kernel
theorem dX11_step_39 : decode cX11_step 39 = .ok (.iload_n 3, 1) := by decide +kernel
theorem dX11_step_40 : decode cX11_step 40 = .ok (.i2l, 1) := by decide +kernel
theorem dX11_step_41 : decode cX11_step 41 = .ok (.lconst 0, 1) := by decide +kernel
theorem dX11_step_42 : decode cX11_step 42 = .ok (.ldc2_w 305, 3) := by decide +kernel
theorem dX11_step_45 : decode cX11_step 45 = .ok (.invokestatic 174, 3) := by decide +kernel
theorem dX11_step_48 : decode cX11_step 48 = .ok (.ifCond .eq 21, 3) := by decide +kernel
theorem dX11_step_51 : decode cX11_step 51 = .ok (.aload_n 0, 1) := by decide +kernel
theorem dX11_step_52 : decode cX11_step 52 = .ok (.getfield 17, 3) := by decide +kernel
theorem dX11_step_55 : decode cX11_step 55 = .ok (.iconst 4, 1) := by decide +kernel
theorem dX11_step_56 : decode cX11_step 56 = .ok (.bipush 16, 2) := by decide +kernel
theorem dX11_step_58 : decode cX11_step 58 = .ok (.iload_n 1, 1) := by decide +kernel
theorem dX11_step_59 : decode cX11_step 59 = .ok (.imul, 1) := by decide +kernel
theorem dX11_step_60 : decode cX11_step 60 = .ok (.iload_n 2, 1) := by decide +kernel
theorem dX11_step_61 : decode cX11_step 61 = .ok (.iadd, 1) := by decide +kernel
theorem dX11_step_62 : decode cX11_step 62 = .ok (.imul, 1) := by decide +kernel
theorem dX11_step_63 : decode cX11_step 63 = .ok (.iload_n 3, 1) := by decide +kernel
theorem dX11_step_64 : decode cX11_step 64 = .ok (.iadd, 1) := by decide +kernel
theorem dX11_step_65 : decode cX11_step 65 = .ok (.iaload, 1) := by decide +kernel
theorem dX11_step_66 : decode cX11_step 66 = .ok (.goto 5, 3) := by decide +kernel
theorem dX11_step_69 : decode cX11_step 69 = .ok (.ldc 170, 2) := by decide +kernel
theorem dX11_step_71 : decode cX11_step 71 = .ok (.ireturn, 1) := by decide +kernel
theorem dX11_goesStep_0 : decode cX11_goesStep 0 = .ok (.aload_n 0, 1) := by decide +kernel
theorem dX11_goesStep_1 : decode cX11_goesStep 1 = .ok (.getfield 17, 3) := by decide +kernel
theorem dX11_goesStep_4 : decode cX11_goesStep 4 = .ok (.iload_n 2, 1) := by decide +kernel
theorem dX11_goesStep_5 : decode cX11_goesStep 5 = .ok (.iconst 1, 1) := by decide +kernel
theorem dX11_goesStep_6 : decode cX11_goesStep 6 = .ok (.iadd, 1) := by decide +kernel
theorem dX11_goesStep_7 : decode cX11_goesStep 7 = .ok (.iaload, 1) := by decide +kernel
theorem dX11_goesStep_8 : decode cX11_goesStep 8 = .ok (.istore_n 3, 1) := by decide +kernel
theorem dX11_goesStep_9 : decode cX11_goesStep 9 = .ok (.aload_n 0, 1) := by decide +kernel
theorem dX11_goesStep_10 : decode cX11_goesStep 10 = .ok (.getfield 17, 3) := by decide +kernel
theorem dX11_goesStep_13 : decode cX11_goesStep 13 = .ok (.iload_n 2, 1) := by decide +kernel
theorem dX11_goesStep_14 : decode cX11_goesStep 14 = .ok (.iconst 2, 1) := by decide +kernel
theorem dX11_goesStep_15 : decode cX11_goesStep 15 = .ok (.iadd, 1) := by decide +kernel
theorem dX11_goesStep_16 : decode cX11_goesStep 16 = .ok (.iaload, 1) := by decide +kernel
theorem dX11_goesStep_17 : decode cX11_goesStep 17 = .ok (.istore 4, 2) := by decide +kernel
theorem dX11_goesStep_19 : decode cX11_goesStep 19 = .ok (.aload_n 0, 1) := by decide +kernel
theorem dX11_goesStep_20 : decode cX11_goesStep 20 = .ok (.getfield 17, 3) := by decide +kernel
theorem dX11_goesStep_23 : decode cX11_goesStep 23 = .ok (.iload_n 2, 1) := by decide +kernel
theorem dX11_goesStep_24 : decode cX11_goesStep 24 = .ok (.iaload, 1) := by decide +kernel
theorem dX11_goesStep_25 : decode cX11_goesStep 25 = .ok (.tableswitch 147 0 4 #[35, 76, 35, 101, 129], 35) := by decide +kernel
theorem dX11_goesStep_60 : decode cX11_goesStep 60 = .ok (.aload_n 0, 1) := by decide +kernel
theorem dX11_goesStep_61 : decode cX11_goesStep 61 = .ok (.iload_n 1, 1) := by decide +kernel
theorem dX11_goesStep_62 : decode cX11_goesStep 62 = .ok (.iload_n 3, 1) := by decide +kernel
theorem dX11_goesStep_63 : decode cX11_goesStep 63 = .ok (.invokevirtual 397, 3) := by decide +kernel
theorem dX11_goesStep_66 : decode cX11_goesStep 66 = .ok (.ifCond .ne 5, 3) := by decide +kernel
theorem dX11_goesStep_69 : decode cX11_goesStep 69 = .ok (.iconst 0, 1) := by decide +kernel
theorem dX11_goesStep_70 : decode cX11_goesStep 70 = .ok (.ireturn, 1) := by decide +kernel
theorem dX11_goesStep_71 : decode cX11_goesStep 71 = .ok (.aload_n 0, 1) := by decide +kernel
theorem dX11_goesStep_72 : decode cX11_goesStep 72 = .ok (.getfield 17, 3) := by decide +kernel
theorem dX11_goesStep_75 : decode cX11_goesStep 75 = .ok (.iload_n 2, 1) := by decide +kernel
theorem dX11_goesStep_76 : decode cX11_goesStep 76 = .ok (.iaload, 1) := by decide +kernel
theorem dX11_goesStep_77 : decode cX11_goesStep 77 = .ok (.ifCond .ne 14, 3) := by decide +kernel
theorem dX11_goesStep_80 : decode cX11_goesStep 80 = .ok (.aload_n 0, 1) := by decide +kernel
theorem dX11_goesStep_81 : decode cX11_goesStep 81 = .ok (.iload_n 1, 1) := by decide +kernel
theorem dX11_goesStep_82 : decode cX11_goesStep 82 = .ok (.iload_n 3, 1) := by decide +kernel
theorem dX11_goesStep_83 : decode cX11_goesStep 83 = .ok (.iload 4, 2) := by decide +kernel
theorem dX11_goesStep_85 : decode cX11_goesStep 85 = .ok (.invokevirtual 384, 3) := by decide +kernel
theorem dX11_goesStep_88 : decode cX11_goesStep 88 = .ok (.goto 11, 3) := by decide +kernel
theorem dX11_goesStep_91 : decode cX11_goesStep 91 = .ok (.aload_n 0, 1) := by decide +kernel
theorem dX11_goesStep_92 : decode cX11_goesStep 92 = .ok (.iload_n 1, 1) := by decide +kernel
theorem dX11_goesStep_93 : decode cX11_goesStep 93 = .ok (.iload_n 3, 1) := by decide +kernel
theorem dX11_goesStep_94 : decode cX11_goesStep 94 = .ok (.iload 4, 2) := by decide +kernel
theorem dX11_goesStep_96 : decode cX11_goesStep 96 = .ok (.invokevirtual 387, 3) := by decide +kernel
theorem dX11_goesStep_99 : decode cX11_goesStep 99 = .ok (.iconst 1, 1) := by decide +kernel
theorem dX11_goesStep_100 : decode cX11_goesStep 100 = .ok (.ireturn, 1) := by decide +kernel
theorem dX11_goesStep_101 : decode cX11_goesStep 101 = .ok (.aload_n 0, 1) := by decide +kernel
theorem dX11_goesStep_102 : decode cX11_goesStep 102 = .ok (.getfield 76, 3) := by decide +kernel
theorem dX11_goesStep_105 : decode cX11_goesStep 105 = .ok (.iload_n 1, 1) := by decide +kernel
theorem dX11_goesStep_106 : decode cX11_goesStep 106 = .ok (.aload_n 0, 1) := by decide +kernel
theorem dX11_goesStep_107 : decode cX11_goesStep 107 = .ok (.aload_n 0, 1) := by decide +kernel
theorem dX11_goesStep_108 : decode cX11_goesStep 108 = .ok (.getfield 76, 3) := by decide +kernel
theorem dX11_goesStep_111 : decode cX11_goesStep 111 = .ok (.iload_n 1, 1) := by decide +kernel
theorem dX11_goesStep_112 : decode cX11_goesStep 112 = .ok (.iaload, 1) := by decide +kernel
theorem dX11_goesStep_113 : decode cX11_goesStep 113 = .ok (.iload_n 3, 1) := by decide +kernel
theorem dX11_goesStep_114 : decode cX11_goesStep 114 = .ok (.aload_n 0, 1) := by decide +kernel
theorem dX11_goesStep_115 : decode cX11_goesStep 115 = .ok (.getfield 79, 3) := by decide +kernel
theorem dX11_goesStep_118 : decode cX11_goesStep 118 = .ok (.iload_n 1, 1) := by decide +kernel
theorem dX11_goesStep_119 : decode cX11_goesStep 119 = .ok (.iaload, 1) := by decide +kernel
theorem dX11_goesStep_120 : decode cX11_goesStep 120 = .ok (.invokevirtual 339, 3) := by decide +kernel
theorem dX11_goesStep_123 : decode cX11_goesStep 123 = .ok (.iastore, 1) := by decide +kernel
theorem dX11_goesStep_124 : decode cX11_goesStep 124 = .ok (.iconst 1, 1) := by decide +kernel
theorem dX11_goesStep_125 : decode cX11_goesStep 125 = .ok (.ireturn, 1) := by decide +kernel
theorem dX11_goesStep_126 : decode cX11_goesStep 126 = .ok (.aload_n 0, 1) := by decide +kernel
theorem dX11_goesStep_127 : decode cX11_goesStep 127 = .ok (.getfield 76, 3) := by decide +kernel
theorem dX11_goesStep_130 : decode cX11_goesStep 130 = .ok (.iload_n 1, 1) := by decide +kernel
theorem dX11_goesStep_131 : decode cX11_goesStep 131 = .ok (.aload_n 0, 1) := by decide +kernel
theorem dX11_goesStep_132 : decode cX11_goesStep 132 = .ok (.aload_n 0, 1) := by decide +kernel
theorem dX11_goesStep_133 : decode cX11_goesStep 133 = .ok (.getfield 76, 3) := by decide +kernel
theorem dX11_goesStep_136 : decode cX11_goesStep 136 = .ok (.iload_n 1, 1) := by decide +kernel
theorem dX11_goesStep_137 : decode cX11_goesStep 137 = .ok (.iaload, 1) := by decide +kernel
theorem dX11_goesStep_138 : decode cX11_goesStep 138 = .ok (.iload_n 3, 1) := by decide +kernel
theorem dX11_goesStep_139 : decode cX11_goesStep 139 = .ok (.iload 4, 2) := by decide +kernel
theorem dX11_goesStep_141 : decode cX11_goesStep 141 = .ok (.iconst 1, 1) := by decide +kernel
theorem dX11_goesStep_142 : decode cX11_goesStep 142 = .ok (.aload_n 0, 1) := by decide +kernel
theorem dX11_goesStep_143 : decode cX11_goesStep 143 = .ok (.getfield 79, 3) := by decide +kernel
theorem dX11_goesStep_146 : decode cX11_goesStep 146 = .ok (.iload_n 1, 1) := by decide +kernel
theorem dX11_goesStep_147 : decode cX11_goesStep 147 = .ok (.iaload, 1) := by decide +kernel
theorem dX11_goesStep_148 : decode cX11_goesStep 148 = .ok (.invokevirtual 377, 3) := by decide +kernel
theorem dX11_goesStep_151 : decode cX11_goesStep 151 = .ok (.iastore, 1) := by decide +kernel
theorem dX11_goesStep_152 : decode cX11_goesStep 152 = .ok (.iconst 1, 1) := by decide +kernel
theorem dX11_goesStep_153 : decode cX11_goesStep 153 = .ok (.ireturn, 1) := by decide +kernel
theorem dX11_goesStep_154 : decode cX11_goesStep 154 = .ok (.aload_n 0, 1) := by decide +kernel
theorem dX11_goesStep_155 : decode cX11_goesStep 155 = .ok (.iload_n 1, 1) := by decide +kernel
theorem dX11_goesStep_156 : decode cX11_goesStep 156 = .ok (.iload_n 3, 1) := by decide +kernel
theorem dX11_goesStep_157 : decode cX11_goesStep 157 = .ok (.iload 4, 2) := by decide +kernel
theorem dX11_goesStep_159 : decode cX11_goesStep 159 = .ok (.aload_n 0, 1) := by decide +kernel
theorem dX11_goesStep_160 : decode cX11_goesStep 160 = .ok (.getfield 17, 3) := by decide +kernel
theorem dX11_goesStep_163 : decode cX11_goesStep 163 = .ok (.iload_n 2, 1) := by decide +kernel
theorem dX11_goesStep_164 : decode cX11_goesStep 164 = .ok (.iconst 3, 1) := by decide +kernel
theorem dX11_goesStep_165 : decode cX11_goesStep 165 = .ok (.iadd, 1) := by decide +kernel
theorem dX11_goesStep_166 : decode cX11_goesStep 166 = .ok (.iaload, 1) := by decide +kernel
theorem dX11_goesStep_167 : decode cX11_goesStep 167 = .ok (.invokevirtual 404, 3) := by decide +kernel
theorem dX11_goesStep_170 : decode cX11_goesStep 170 = .ok (.iconst 1, 1) := by decide +kernel
theorem dX11_goesStep_171 : decode cX11_goesStep 171 = .ok (.ireturn, 1) := by decide +kernel
theorem dX11_goesStep_172 : decode cX11_goesStep 172 = .ok (.aload_n 0, 1) := by decide +kernel
theorem dX11_goesStep_173 : decode cX11_goesStep 173 = .ok (.invokevirtual 289, 3) := by decide +kernel
theorem dX11_goesStep_176 : decode cX11_goesStep 176 = .ok (.ifCond .ne 5, 3) := by decide +kernel
theorem dX11_goesStep_179 : decode cX11_goesStep 179 = .ok (.iconst 0, 1) := by decide +kernel
theorem dX11_goesStep_180 : decode cX11_goesStep 180 = .ok (.ireturn, 1) := by decide +kernel
theorem dX11_goesStep_181 : decode cX11_goesStep 181 = .ok (.aload_n 0, 1) := by decide +kernel
theorem dX11_goesStep_182 : decode cX11_goesStep 182 = .ok (.iload_n 1, 1) := by decide +kernel
theorem dX11_goesStep_183 : decode cX11_goesStep 183 = .ok (.invokevirtual 407, 3) := by decide +kernel
theorem dX11_goesStep_186 : decode cX11_goesStep 186 = .ok (.istore 5, 2) := by decide +kernel
theorem dX11_goesStep_188 : decode cX11_goesStep 188 = .ok (.iconst 1, 1) := by decide +kernel
theorem dX11_goesStep_189 : decode cX11_goesStep 189 = .ok (.ireturn, 1) := by decide +kernel
theorem dX11_run_0 : decode cX11_run 0 = .ok (.aload_n 0, 1) := by decide +kernel
theorem dX11_run_1 : decode cX11_run 1 = .ok (.iconst 0, 1) := by decide +kernel
theorem dX11_run_2 : decode cX11_run 2 = .ok (.putfield 116, 3) := by decide +kernel
theorem dX11_run_5 : decode cX11_run 5 = .ok (.iload_n 1, 1) := by decide +kernel
theorem dX11_run_6 : decode cX11_run 6 = .ok (.i2l, 1) := by decide +kernel
theorem dX11_run_7 : decode cX11_run 7 = .ok (.lconst 0, 1) := by decide +kernel
theorem dX11_run_8 : decode cX11_run 8 = .ok (.aload_n 0, 1) := by decide +kernel
theorem dX11_run_9 : decode cX11_run 9 = .ok (.getfield 286, 3) := by decide +kernel
theorem dX11_run_12 : decode cX11_run 12 = .ok (.iconst 1, 1) := by decide +kernel
theorem dX11_run_13 : decode cX11_run 13 = .ok (.isub, 1) := by decide +kernel
theorem dX11_run_14 : decode cX11_run 14 = .ok (.i2l, 1) := by decide +kernel
theorem dX11_run_15 : decode cX11_run 15 = .ok (.invokestatic 174, 3) := by decide +kernel
theorem dX11_run_18 : decode cX11_run 18 = .ok (.ifCond .eq 12, 3) := by decide +kernel
theorem dX11_run_21 : decode cX11_run 21 = .ok (.aload_n 0, 1) := by decide +kernel
theorem dX11_run_22 : decode cX11_run 22 = .ok (.iload_n 2, 1) := by decide +kernel
theorem dX11_run_23 : decode cX11_run 23 = .ok (.iconst 1, 1) := by decide +kernel
theorem dX11_run_24 : decode cX11_run 24 = .ok (.invokevirtual 393, 3) := by decide +kernel
theorem dX11_run_27 : decode cX11_run 27 = .ok (.goto 4, 3) := by decide +kernel
theorem dX11_run_30 : decode cX11_run 30 = .ok (.iconst 0, 1) := by decide +kernel
theorem dX11_run_31 : decode cX11_run 31 = .ok (.istore_n 3, 1) := by decide +kernel
theorem dX11_run_32 : decode cX11_run 32 = .ok (.iload_n 3, 1) := by decide +kernel
theorem dX11_run_33 : decode cX11_run 33 = .ok (.iconst (-1), 1) := by decide +kernel
theorem dX11_run_34 : decode cX11_run 34 = .ok (.if_icmp .eq 9, 3) := by decide +kernel
theorem dX11_run_37 : decode cX11_run 37 = .ok (.aload_n 0, 1) := by decide +kernel
theorem dX11_run_38 : decode cX11_run 38 = .ok (.iload_n 3, 1) := by decide +kernel
theorem dX11_run_39 : decode cX11_run 39 = .ok (.invokevirtual 292, 3) := by decide +kernel
theorem dX11_run_42 : decode cX11_run 42 = .ok (.ireturn, 1) := by decide +kernel
theorem dX11_run_43 : decode cX11_run 43 = .ok (.aload_n 0, 1) := by decide +kernel
theorem dX11_run_44 : decode cX11_run 44 = .ok (.invokevirtual 278, 3) := by decide +kernel
theorem dX11_run_47 : decode cX11_run 47 = .ok (.iconst 0, 1) := by decide +kernel
theorem dX11_run_48 : decode cX11_run 48 = .ok (.istore 4, 2) := by decide +kernel
theorem dX11_run_50 : decode cX11_run 50 = .ok (.iload 4, 2) := by decide +kernel
theorem dX11_run_52 : decode cX11_run 52 = .ok (.aload_n 0, 1) := by decide +kernel
theorem dX11_run_53 : decode cX11_run 53 = .ok (.getfield 20, 3) := by decide +kernel
theorem dX11_run_56 : decode cX11_run 56 = .ok (.iload_n 1, 1) := by decide +kernel
theorem dX11_run_57 : decode cX11_run 57 = .ok (.iaload, 1) := by decide +kernel
theorem dX11_run_58 : decode cX11_run 58 = .ok (.if_icmp .ge 26, 3) := by decide +kernel
theorem dX11_run_61 : decode cX11_run 61 = .ok (.aload_n 0, 1) := by decide +kernel
theorem dX11_run_62 : decode cX11_run 62 = .ok (.iload_n 2, 1) := by decide +kernel
theorem dX11_run_63 : decode cX11_run 63 = .ok (.iconst 4, 1) := by decide +kernel
theorem dX11_run_64 : decode cX11_run 64 = .ok (.bipush 16, 2) := by decide +kernel
theorem dX11_run_66 : decode cX11_run 66 = .ok (.iload_n 1, 1) := by decide +kernel
theorem dX11_run_67 : decode cX11_run 67 = .ok (.imul, 1) := by decide +kernel
theorem dX11_run_68 : decode cX11_run 68 = .ok (.iload 4, 2) := by decide +kernel
theorem dX11_run_70 : decode cX11_run 70 = .ok (.iadd, 1) := by decide +kernel
theorem dX11_run_71 : decode cX11_run 71 = .ok (.imul, 1) := by decide +kernel
theorem dX11_run_72 : decode cX11_run 72 = .ok (.invokevirtual 429, 3) := by decide +kernel
theorem dX11_run_75 : decode cX11_run 75 = .ok (.ifCond .eq 9, 3) := by decide +kernel
theorem dX11_run_78 : decode cX11_run 78 = .ok (.iinc 4 1, 3) := by decide +kernel
theorem dX11_run_81 : decode cX11_run 81 = .ok (.goto (-31), 3) := by decide +kernel
theorem dX11_run_84 : decode cX11_run 84 = .ok (.iload 4, 2) := by decide +kernel
theorem dX11_run_86 : decode cX11_run 86 = .ok (.ireturn, 1) := by decide +kernel
theorem dX11_sharedBy_0 : decode cX11_sharedBy 0 = .ok (.aload_n 0, 1) := by decide +kernel
theorem dX11_sharedBy_1 : decode cX11_sharedBy 1 = .ok (.dup, 1) := by decide +kernel
theorem dX11_sharedBy_2 : decode cX11_sharedBy 2 = .ok (.getfield 255, 3) := by decide +kernel
theorem dX11_sharedBy_5 : decode cX11_sharedBy 5 = .ok (.iconst 1, 1) := by decide +kernel
theorem dX11_sharedBy_6 : decode cX11_sharedBy 6 = .ok (.iadd, 1) := by decide +kernel
theorem dX11_sharedBy_7 : decode cX11_sharedBy 7 = .ok (.putfield 255, 3) := by decide +kernel
theorem dX11_sharedBy_10 : decode cX11_sharedBy 10 = .ok (.aload_n 0, 1) := by decide +kernel
theorem dX11_sharedBy_11 : decode cX11_sharedBy 11 = .ok (.aload_n 0, 1) := by decide +kernel
theorem dX11_sharedBy_12 : decode cX11_sharedBy 12 = .ok (.getfield 67, 3) := by decide +kernel
theorem dX11_sharedBy_15 : decode cX11_sharedBy 15 = .ok (.iload_n 1, 1) := by decide +kernel
theorem dX11_sharedBy_16 : decode cX11_sharedBy 16 = .ok (.iaload, 1) := by decide +kernel
theorem dX11_sharedBy_17 : decode cX11_sharedBy 17 = .ok (.invokevirtual 258, 3) := by decide +kernel
theorem dX11_sharedBy_20 : decode cX11_sharedBy 20 = .ok (.istore_n 3, 1) := by decide +kernel
theorem dX11_sharedBy_21 : decode cX11_sharedBy 21 = .ok (.aload_n 0, 1) := by decide +kernel
theorem dX11_sharedBy_22 : decode cX11_sharedBy 22 = .ok (.aload_n 0, 1) := by decide +kernel
theorem dX11_sharedBy_23 : decode cX11_sharedBy 23 = .ok (.getfield 67, 3) := by decide +kernel
theorem dX11_sharedBy_26 : decode cX11_sharedBy 26 = .ok (.iload_n 2, 1) := by decide +kernel
theorem dX11_sharedBy_27 : decode cX11_sharedBy 27 = .ok (.iaload, 1) := by decide +kernel
theorem dX11_sharedBy_28 : decode cX11_sharedBy 28 = .ok (.invokevirtual 252, 3) := by decide +kernel
theorem dX11_sharedBy_31 : decode cX11_sharedBy 31 = .ok (.iconst 0, 1) := by decide +kernel
theorem dX11_sharedBy_32 : decode cX11_sharedBy 32 = .ok (.istore 4, 2) := by decide +kernel
theorem dX11_sharedBy_34 : decode cX11_sharedBy 34 = .ok (.iconst 0, 1) := by decide +kernel
theorem dX11_sharedBy_35 : decode cX11_sharedBy 35 = .ok (.istore 5, 2) := by decide +kernel
theorem dX11_sharedBy_37 : decode cX11_sharedBy 37 = .ok (.iload 5, 2) := by decide +kernel
theorem dX11_sharedBy_39 : decode cX11_sharedBy 39 = .ok (.aload_n 0, 1) := by decide +kernel
theorem dX11_sharedBy_40 : decode cX11_sharedBy 40 = .ok (.getfield 243, 3) := by decide +kernel
theorem dX11_sharedBy_43 : decode cX11_sharedBy 43 = .ok (.if_icmp .ge 38, 3) := by decide +kernel
theorem dX11_sharedBy_46 : decode cX11_sharedBy 46 = .ok (.iload 4, 2) := by decide +kernel
theorem dX11_sharedBy_48 : decode cX11_sharedBy 48 = .ok (.aload_n 0, 1) := by decide +kernel
theorem dX11_sharedBy_49 : decode cX11_sharedBy 49 = .ok (.getfield 32, 3) := by decide +kernel
theorem dX11_sharedBy_52 : decode cX11_sharedBy 52 = .ok (.aload_n 0, 1) := by decide +kernel
theorem dX11_sharedBy_53 : decode cX11_sharedBy 53 = .ok (.getfield 61, 3) := by decide +kernel
theorem dX11_sharedBy_56 : decode cX11_sharedBy 56 = .ok (.iload 5, 2) := by decide +kernel
theorem dX11_sharedBy_58 : decode cX11_sharedBy 58 = .ok (.iaload, 1) := by decide +kernel
theorem dX11_sharedBy_59 : decode cX11_sharedBy 59 = .ok (.iaload, 1) := by decide +kernel
theorem dX11_sharedBy_60 : decode cX11_sharedBy 60 = .ok (.aload_n 0, 1) := by decide +kernel
theorem dX11_sharedBy_61 : decode cX11_sharedBy 61 = .ok (.getfield 255, 3) := by decide +kernel
theorem dX11_sharedBy_64 : decode cX11_sharedBy 64 = .ok (.if_icmp .ne 7, 3) := by decide +kernel
theorem dX11_sharedBy_67 : decode cX11_sharedBy 67 = .ok (.iconst 1, 1) := by decide +kernel
theorem dX11_sharedBy_68 : decode cX11_sharedBy 68 = .ok (.goto 4, 3) := by decide +kernel
theorem dX11_sharedBy_71 : decode cX11_sharedBy 71 = .ok (.iconst 0, 1) := by decide +kernel
theorem dX11_sharedBy_72 : decode cX11_sharedBy 72 = .ok (.iadd, 1) := by decide +kernel
theorem dX11_sharedBy_73 : decode cX11_sharedBy 73 = .ok (.istore 4, 2) := by decide +kernel
theorem dX11_sharedBy_75 : decode cX11_sharedBy 75 = .ok (.iinc 5 1, 3) := by decide +kernel
theorem dX11_sharedBy_78 : decode cX11_sharedBy 78 = .ok (.goto (-41), 3) := by decide +kernel
theorem dX11_sharedBy_81 : decode cX11_sharedBy 81 = .ok (.iload 4, 2) := by decide +kernel
theorem dX11_sharedBy_83 : decode cX11_sharedBy 83 = .ok (.ireturn, 1) := by decide +kernel
theorem dX11_shared_0 : decode cX11_shared 0 = .ok (.aload_n 0, 1) := by decide +kernel
theorem dX11_shared_1 : decode cX11_shared 1 = .ok (.iconst 0, 1) := by decide +kernel
theorem dX11_shared_2 : decode cX11_shared 2 = .ok (.putfield 116, 3) := by decide +kernel
theorem dX11_shared_5 : decode cX11_shared 5 = .ok (.aload_n 0, 1) := by decide +kernel
theorem dX11_shared_6 : decode cX11_shared 6 = .ok (.iload_n 1, 1) := by decide +kernel
theorem dX11_shared_7 : decode cX11_shared 7 = .ok (.invokevirtual 309, 3) := by decide +kernel
theorem dX11_shared_10 : decode cX11_shared 10 = .ok (.ifCond .eq 20, 3) := by decide +kernel
theorem dX11_shared_13 : decode cX11_shared 13 = .ok (.aload_n 0, 1) := by decide +kernel
theorem dX11_shared_14 : decode cX11_shared 14 = .ok (.iload_n 2, 1) := by decide +kernel
theorem dX11_shared_15 : decode cX11_shared 15 = .ok (.invokevirtual 309, 3) := by decide +kernel
theorem dX11_shared_18 : decode cX11_shared 18 = .ok (.ifCond .eq 12, 3) := by decide +kernel
theorem dX11_shared_21 : decode cX11_shared 21 = .ok (.aload_n 0, 1) := by decide +kernel
theorem dX11_shared_22 : decode cX11_shared 22 = .ok (.iload_n 1, 1) := by decide +kernel
theorem dX11_shared_23 : decode cX11_shared 23 = .ok (.iload_n 2, 1) := by decide +kernel
theorem dX11_shared_24 : decode cX11_shared 24 = .ok (.invokevirtual 432, 3) := by decide +kernel
theorem dX11_shared_27 : decode cX11_shared 27 = .ok (.goto 4, 3) := by decide +kernel
theorem dX11_shared_30 : decode cX11_shared 30 = .ok (.iconst (-1), 1) := by decide +kernel
theorem dX11_shared_31 : decode cX11_shared 31 = .ok (.ireturn, 1) := by decide +kernel
theorem dX11_looked_0 : decode cX11_looked 0 = .ok (.aload_n 0, 1) := by decide +kernel
theorem dX11_looked_1 : decode cX11_looked 1 = .ok (.iconst 0, 1) := by decide +kernel
theorem dX11_looked_2 : decode cX11_looked 2 = .ok (.putfield 116, 3) := by decide +kernel
theorem dX11_looked_5 : decode cX11_looked 5 = .ok (.aload_n 0, 1) := by decide +kernel
theorem dX11_looked_6 : decode cX11_looked 6 = .ok (.iload_n 1, 1) := by decide +kernel
theorem dX11_looked_7 : decode cX11_looked 7 = .ok (.invokevirtual 309, 3) := by decide +kernel
theorem dX11_looked_10 : decode cX11_looked 10 = .ok (.ifCond .eq 11, 3) := by decide +kernel
theorem dX11_looked_13 : decode cX11_looked 13 = .ok (.aload_n 0, 1) := by decide +kernel
theorem dX11_looked_14 : decode cX11_looked 14 = .ok (.iload_n 2, 1) := by decide +kernel
theorem dX11_looked_15 : decode cX11_looked 15 = .ok (.invokevirtual 309, 3) := by decide +kernel
theorem dX11_looked_18 : decode cX11_looked 18 = .ok (.ifCond .ne 5, 3) := by decide +kernel
theorem dX11_looked_21 : decode cX11_looked 21 = .ok (.iconst (-1), 1) := by decide +kernel
theorem dX11_looked_22 : decode cX11_looked 22 = .ok (.ireturn, 1) := by decide +kernel
theorem dX11_looked_23 : decode cX11_looked 23 = .ok (.bipush (-2), 2) := by decide +kernel
theorem dX11_looked_25 : decode cX11_looked 25 = .ok (.aload_n 0, 1) := by decide +kernel
theorem dX11_looked_26 : decode cX11_looked 26 = .ok (.iload_n 1, 1) := by decide +kernel
theorem dX11_looked_27 : decode cX11_looked 27 = .ok (.iload_n 2, 1) := by decide +kernel
theorem dX11_looked_28 : decode cX11_looked 28 = .ok (.invokevirtual 432, 3) := by decide +kernel
theorem dX11_looked_31 : decode cX11_looked 31 = .ok (.imul, 1) := by decide +kernel
theorem dX11_looked_32 : decode cX11_looked 32 = .ok (.istore_n 3, 1) := by decide +kernel
theorem dX11_looked_33 : decode cX11_looked 33 = .ok (.iload_n 3, 1) := by decide +kernel
theorem dX11_looked_34 : decode cX11_looked 34 = .ok (.aload_n 0, 1) := by decide +kernel
theorem dX11_looked_35 : decode cX11_looked 35 = .ok (.getfield 243, 3) := by decide +kernel
theorem dX11_looked_38 : decode cX11_looked 38 = .ok (.iadd, 1) := by decide +kernel
theorem dX11_looked_39 : decode cX11_looked 39 = .ok (.istore_n 3, 1) := by decide +kernel
theorem dX11_looked_40 : decode cX11_looked 40 = .ok (.aload_n 0, 1) := by decide +kernel
theorem dX11_looked_41 : decode cX11_looked 41 = .ok (.aload_n 0, 1) := by decide +kernel
theorem dX11_looked_42 : decode cX11_looked 42 = .ok (.getfield 67, 3) := by decide +kernel
theorem dX11_looked_45 : decode cX11_looked 45 = .ok (.iload_n 1, 1) := by decide +kernel
theorem dX11_looked_46 : decode cX11_looked 46 = .ok (.iaload, 1) := by decide +kernel
theorem dX11_looked_47 : decode cX11_looked 47 = .ok (.invokevirtual 252, 3) := by decide +kernel
theorem dX11_looked_50 : decode cX11_looked 50 = .ok (.iload_n 3, 1) := by decide +kernel
theorem dX11_looked_51 : decode cX11_looked 51 = .ok (.aload_n 0, 1) := by decide +kernel
theorem dX11_looked_52 : decode cX11_looked 52 = .ok (.getfield 243, 3) := by decide +kernel
theorem dX11_looked_55 : decode cX11_looked 55 = .ok (.iadd, 1) := by decide +kernel
theorem dX11_looked_56 : decode cX11_looked 56 = .ok (.ireturn, 1) := by decide +kernel
theorem dX11_difference_0 : decode cX11_difference 0 = .ok (.aload_n 0, 1) := by decide +kernel
theorem dX11_difference_1 : decode cX11_difference 1 = .ok (.iconst 0, 1) := by decide +kernel
theorem dX11_difference_2 : decode cX11_difference 2 = .ok (.putfield 116, 3) := by decide +kernel
theorem dX11_difference_5 : decode cX11_difference 5 = .ok (.aload_n 0, 1) := by decide +kernel
theorem dX11_difference_6 : decode cX11_difference 6 = .ok (.iload_n 1, 1) := by decide +kernel
theorem dX11_difference_7 : decode cX11_difference 7 = .ok (.invokevirtual 309, 3) := by decide +kernel
theorem dX11_difference_10 : decode cX11_difference 10 = .ok (.ifCond .eq 33, 3) := by decide +kernel
theorem dX11_difference_13 : decode cX11_difference 13 = .ok (.aload_n 0, 1) := by decide +kernel
theorem dX11_difference_14 : decode cX11_difference 14 = .ok (.iload_n 2, 1) := by decide +kernel
theorem dX11_difference_15 : decode cX11_difference 15 = .ok (.invokevirtual 309, 3) := by decide +kernel
theorem dX11_difference_18 : decode cX11_difference 18 = .ok (.ifCond .eq 25, 3) := by decide +kernel
theorem dX11_difference_21 : decode cX11_difference 21 = .ok (.iload_n 3, 1) := by decide +kernel
theorem dX11_difference_22 : decode cX11_difference 22 = .ok (.iconst (-1), 1) := by decide +kernel
theorem dX11_difference_23 : decode cX11_difference 23 = .ok (.if_icmp .lt 20, 3) := by decide +kernel
theorem dX11_difference_26 : decode cX11_difference 26 = .ok (.iload_n 3, 1) := by decide +kernel
theorem dX11_difference_27 : decode cX11_difference 27 = .ok (.ifCond .lt 19, 3) := by decide +kernel
theorem dX11_difference_30 : decode cX11_difference 30 = .ok (.iload 4, 2) := by decide +kernel
theorem dX11_difference_32 : decode cX11_difference 32 = .ok (.i2l, 1) := by decide +kernel
theorem dX11_difference_33 : decode cX11_difference 33 = .ok (.lconst 0, 1) := by decide +kernel
theorem dX11_difference_34 : decode cX11_difference 34 = .ok (.ldc2_w 369, 3) := by decide +kernel
theorem dX11_difference_37 : decode cX11_difference 37 = .ok (.invokestatic 174, 3) := by decide +kernel
theorem dX11_difference_40 : decode cX11_difference 40 = .ok (.ifCond .ne 6, 3) := by decide +kernel
theorem dX11_difference_43 : decode cX11_difference 43 = .ok (.ldc 170, 2) := by decide +kernel
theorem dX11_difference_45 : decode cX11_difference 45 = .ok (.ireturn, 1) := by decide +kernel
theorem dX11_difference_46 : decode cX11_difference 46 = .ok (.aload_n 0, 1) := by decide +kernel
theorem dX11_difference_47 : decode cX11_difference 47 = .ok (.aload_n 0, 1) := by decide +kernel
theorem dX11_difference_48 : decode cX11_difference 48 = .ok (.getfield 67, 3) := by decide +kernel
theorem dX11_difference_51 : decode cX11_difference 51 = .ok (.iload_n 1, 1) := by decide +kernel
theorem dX11_difference_52 : decode cX11_difference 52 = .ok (.iaload, 1) := by decide +kernel
theorem dX11_difference_53 : decode cX11_difference 53 = .ok (.aload_n 0, 1) := by decide +kernel
theorem dX11_difference_54 : decode cX11_difference 54 = .ok (.getfield 67, 3) := by decide +kernel
theorem dX11_difference_57 : decode cX11_difference 57 = .ok (.iload_n 2, 1) := by decide +kernel
theorem dX11_difference_58 : decode cX11_difference 58 = .ok (.iaload, 1) := by decide +kernel
theorem dX11_difference_59 : decode cX11_difference 59 = .ok (.invokevirtual 356, 3) := by decide +kernel
theorem dX11_difference_62 : decode cX11_difference 62 = .ok (.iconst 0, 1) := by decide +kernel
theorem dX11_difference_63 : decode cX11_difference 63 = .ok (.istore 5, 2) := by decide +kernel
theorem dX11_difference_65 : decode cX11_difference 65 = .ok (.iconst 0, 1) := by decide +kernel
theorem dX11_difference_66 : decode cX11_difference 66 = .ok (.istore 6, 2) := by decide +kernel
theorem dX11_difference_68 : decode cX11_difference 68 = .ok (.iload 6, 2) := by decide +kernel
theorem dX11_difference_70 : decode cX11_difference 70 = .ok (.sipush 999, 3) := by decide +kernel
theorem dX11_difference_73 : decode cX11_difference 73 = .ok (.if_icmp .gt 79, 3) := by decide +kernel
theorem dX11_difference_76 : decode cX11_difference 76 = .ok (.aload_n 0, 1) := by decide +kernel
theorem dX11_difference_77 : decode cX11_difference 77 = .ok (.iload 6, 2) := by decide +kernel
theorem dX11_difference_79 : decode cX11_difference 79 = .ok (.iconst 0, 1) := by decide +kernel
theorem dX11_difference_80 : decode cX11_difference 80 = .ok (.iconst 1, 1) := by decide +kernel
theorem dX11_difference_81 : decode cX11_difference 81 = .ok (.invokevirtual 362, 3) := by decide +kernel
theorem dX11_difference_84 : decode cX11_difference 84 = .ok (.ifCond .ne 6, 3) := by decide +kernel
theorem dX11_difference_87 : decode cX11_difference 87 = .ok (.goto 59, 3) := by decide +kernel
theorem dX11_difference_90 : decode cX11_difference 90 = .ok (.iload 5, 2) := by decide +kernel
theorem dX11_difference_92 : decode cX11_difference 92 = .ok (.iload_n 3, 1) := by decide +kernel
theorem dX11_difference_93 : decode cX11_difference 93 = .ok (.if_icmp .ne 50, 3) := by decide +kernel
theorem dX11_difference_96 : decode cX11_difference 96 = .ok (.iload 4, 2) := by decide +kernel
theorem dX11_difference_98 : decode cX11_difference 98 = .ok (.ifCond .ne 8, 3) := by decide +kernel
theorem dX11_difference_101 : decode cX11_difference 101 = .ok (.iload 6, 2) := by decide +kernel
theorem dX11_difference_103 : decode cX11_difference 103 = .ok (.goto 39, 3) := by decide +kernel
theorem dX11_difference_106 : decode cX11_difference 106 = .ok (.aload_n 0, 1) := by decide +kernel
theorem dX11_difference_107 : decode cX11_difference 107 = .ok (.getfield 95, 3) := by decide +kernel
theorem dX11_difference_110 : decode cX11_difference 110 = .ok (.iload 6, 2) := by decide +kernel
theorem dX11_difference_112 : decode cX11_difference 112 = .ok (.iaload, 1) := by decide +kernel
theorem dX11_difference_113 : decode cX11_difference 113 = .ok (.iload 4, 2) := by decide +kernel
theorem dX11_difference_115 : decode cX11_difference 115 = .ok (.iconst 1, 1) := by decide +kernel
theorem dX11_difference_116 : decode cX11_difference 116 = .ok (.isub, 1) := by decide +kernel
theorem dX11_difference_117 : decode cX11_difference 117 = .ok (.invokestatic 271, 3) := by decide +kernel
theorem dX11_difference_120 : decode cX11_difference 120 = .ok (.ifCond .eq 20, 3) := by decide +kernel
theorem dX11_difference_123 : decode cX11_difference 123 = .ok (.aload_n 0, 1) := by decide +kernel
theorem dX11_difference_124 : decode cX11_difference 124 = .ok (.getfield 98, 3) := by decide +kernel
theorem dX11_difference_127 : decode cX11_difference 127 = .ok (.iconst 3, 1) := by decide +kernel
theorem dX11_difference_128 : decode cX11_difference 128 = .ok (.iload 6, 2) := by decide +kernel
theorem dX11_difference_130 : decode cX11_difference 130 = .ok (.imul, 1) := by decide +kernel
theorem dX11_difference_131 : decode cX11_difference 131 = .ok (.iload 4, 2) := by decide +kernel
theorem dX11_difference_133 : decode cX11_difference 133 = .ok (.iadd, 1) := by decide +kernel
theorem dX11_difference_134 : decode cX11_difference 134 = .ok (.iconst 1, 1) := by decide +kernel
theorem dX11_difference_135 : decode cX11_difference 135 = .ok (.isub, 1) := by decide +kernel
theorem dX11_difference_136 : decode cX11_difference 136 = .ok (.iaload, 1) := by decide +kernel
theorem dX11_difference_137 : decode cX11_difference 137 = .ok (.goto 5, 3) := by decide +kernel
theorem dX11_difference_140 : decode cX11_difference 140 = .ok (.ldc 170, 2) := by decide +kernel
theorem dX11_difference_142 : decode cX11_difference 142 = .ok (.ireturn, 1) := by decide +kernel
theorem dX11_difference_143 : decode cX11_difference 143 = .ok (.iinc 5 1, 3) := by decide +kernel
theorem dX11_difference_146 : decode cX11_difference 146 = .ok (.iinc 6 1, 3) := by decide +kernel
theorem dX11_difference_149 : decode cX11_difference 149 = .ok (.goto (-81), 3) := by decide +kernel
theorem dX11_difference_152 : decode cX11_difference 152 = .ok (.iload_n 3, 1) := by decide +kernel
theorem dX11_difference_153 : decode cX11_difference 153 = .ok (.iconst (-1), 1) := by decide +kernel
theorem dX11_difference_154 : decode cX11_difference 154 = .ok (.if_icmp .ne 8, 3) := by decide +kernel
theorem dX11_difference_157 : decode cX11_difference 157 = .ok (.iload 5, 2) := by decide +kernel
theorem dX11_difference_159 : decode cX11_difference 159 = .ok (.goto 5, 3) := by decide +kernel
theorem dX11_difference_162 : decode cX11_difference 162 = .ok (.ldc 170, 2) := by decide +kernel
theorem dX11_difference_164 : decode cX11_difference 164 = .ok (.ireturn, 1) := by decide +kernel
theorem dX11_writes_0 : decode cX11_writes 0 = .ok (.aload_n 0, 1) := by decide +kernel
theorem dX11_writes_1 : decode cX11_writes 1 = .ok (.getfield 107, 3) := by decide +kernel
theorem dX11_writes_4 : decode cX11_writes 4 = .ok (.aload_n 0, 1) := by decide +kernel
theorem dX11_writes_5 : decode cX11_writes 5 = .ok (.getfield 435, 3) := by decide +kernel
theorem dX11_writes_8 : decode cX11_writes 8 = .ok (.iload_n 1, 1) := by decide +kernel
theorem dX11_writes_9 : decode cX11_writes 9 = .ok (.i2b, 1) := by decide +kernel
theorem dX11_writes_10 : decode cX11_writes 10 = .ok (.bastore, 1) := by decide +kernel
theorem dX11_writes_11 : decode cX11_writes 11 = .ok (.aload_n 0, 1) := by decide +kernel
theorem dX11_writes_12 : decode cX11_writes 12 = .ok (.dup, 1) := by decide +kernel
theorem dX11_writes_13 : decode cX11_writes 13 = .ok (.getfield 435, 3) := by decide +kernel
theorem dX11_writes_16 : decode cX11_writes 16 = .ok (.iconst 1, 1) := by decide +kernel
theorem dX11_writes_17 : decode cX11_writes 17 = .ok (.iadd, 1) := by decide +kernel
theorem dX11_writes_18 : decode cX11_writes 18 = .ok (.putfield 435, 3) := by decide +kernel
theorem dX11_writes_21 : decode cX11_writes 21 = .ok (.return_, 1) := by decide +kernel
theorem dX11_writesNumber_0 : decode cX11_writesNumber 0 = .ok (.iload_n 1, 1) := by decide +kernel
theorem dX11_writesNumber_1 : decode cX11_writesNumber 1 = .ok (.ifCond .ge 9, 3) := by decide +kernel
theorem dX11_writesNumber_4 : decode cX11_writesNumber 4 = .ok (.aload_n 0, 1) := by decide +kernel
theorem dX11_writesNumber_5 : decode cX11_writesNumber 5 = .ok (.bipush 45, 2) := by decide +kernel
theorem dX11_writesNumber_7 : decode cX11_writesNumber 7 = .ok (.invokevirtual 438, 3) := by decide +kernel
theorem dX11_writesNumber_10 : decode cX11_writesNumber 10 = .ok (.iload_n 1, 1) := by decide +kernel
theorem dX11_writesNumber_11 : decode cX11_writesNumber 11 = .ok (.invokestatic 441, 3) := by decide +kernel
theorem dX11_writesNumber_14 : decode cX11_writesNumber 14 = .ok (.istore_n 2, 1) := by decide +kernel
theorem dX11_writesNumber_15 : decode cX11_writesNumber 15 = .ok (.iload_n 2, 1) := by decide +kernel
theorem dX11_writesNumber_16 : decode cX11_writesNumber 16 = .ok (.bipush 99, 2) := by decide +kernel
theorem dX11_writesNumber_18 : decode cX11_writesNumber 18 = .ok (.if_icmp .le 14, 3) := by decide +kernel
theorem dX11_writesNumber_21 : decode cX11_writesNumber 21 = .ok (.aload_n 0, 1) := by decide +kernel
theorem dX11_writesNumber_22 : decode cX11_writesNumber 22 = .ok (.bipush 48, 2) := by decide +kernel
theorem dX11_writesNumber_24 : decode cX11_writesNumber 24 = .ok (.iload_n 2, 1) := by decide +kernel
theorem dX11_writesNumber_25 : decode cX11_writesNumber 25 = .ok (.bipush 100, 2) := by decide +kernel
theorem dX11_writesNumber_27 : decode cX11_writesNumber 27 = .ok (.idiv, 1) := by decide +kernel
theorem dX11_writesNumber_28 : decode cX11_writesNumber 28 = .ok (.iadd, 1) := by decide +kernel
theorem dX11_writesNumber_29 : decode cX11_writesNumber 29 = .ok (.invokevirtual 438, 3) := by decide +kernel
theorem dX11_writesNumber_32 : decode cX11_writesNumber 32 = .ok (.iload_n 2, 1) := by decide +kernel
theorem dX11_writesNumber_33 : decode cX11_writesNumber 33 = .ok (.bipush 9, 2) := by decide +kernel
theorem dX11_writesNumber_35 : decode cX11_writesNumber 35 = .ok (.if_icmp .le 17, 3) := by decide +kernel
theorem dX11_writesNumber_38 : decode cX11_writesNumber 38 = .ok (.aload_n 0, 1) := by decide +kernel
theorem dX11_writesNumber_39 : decode cX11_writesNumber 39 = .ok (.bipush 48, 2) := by decide +kernel
theorem dX11_writesNumber_41 : decode cX11_writesNumber 41 = .ok (.iload_n 2, 1) := by decide +kernel
theorem dX11_writesNumber_42 : decode cX11_writesNumber 42 = .ok (.bipush 10, 2) := by decide +kernel
theorem dX11_writesNumber_44 : decode cX11_writesNumber 44 = .ok (.idiv, 1) := by decide +kernel
theorem dX11_writesNumber_45 : decode cX11_writesNumber 45 = .ok (.bipush 10, 2) := by decide +kernel
theorem dX11_writesNumber_47 : decode cX11_writesNumber 47 = .ok (.irem, 1) := by decide +kernel
theorem dX11_writesNumber_48 : decode cX11_writesNumber 48 = .ok (.iadd, 1) := by decide +kernel
theorem dX11_writesNumber_49 : decode cX11_writesNumber 49 = .ok (.invokevirtual 438, 3) := by decide +kernel
theorem dX11_writesNumber_52 : decode cX11_writesNumber 52 = .ok (.aload_n 0, 1) := by decide +kernel
theorem dX11_writesNumber_53 : decode cX11_writesNumber 53 = .ok (.bipush 48, 2) := by decide +kernel
theorem dX11_writesNumber_55 : decode cX11_writesNumber 55 = .ok (.iload_n 2, 1) := by decide +kernel
theorem dX11_writesNumber_56 : decode cX11_writesNumber 56 = .ok (.bipush 10, 2) := by decide +kernel
theorem dX11_writesNumber_58 : decode cX11_writesNumber 58 = .ok (.irem, 1) := by decide +kernel
theorem dX11_writesNumber_59 : decode cX11_writesNumber 59 = .ok (.iadd, 1) := by decide +kernel
theorem dX11_writesNumber_60 : decode cX11_writesNumber 60 = .ok (.invokevirtual 438, 3) := by decide +kernel
theorem dX11_writesNumber_63 : decode cX11_writesNumber 63 = .ok (.return_, 1) := by decide +kernel
theorem dX11_writesNode_0 : decode cX11_writesNode 0 = .ok (.aload_n 0, 1) := by decide +kernel
theorem dX11_writesNode_1 : decode cX11_writesNode 1 = .ok (.aload_n 0, 1) := by decide +kernel
theorem dX11_writesNode_2 : decode cX11_writesNode 2 = .ok (.getfield 23, 3) := by decide +kernel
theorem dX11_writesNode_5 : decode cX11_writesNode 5 = .ok (.iload_n 1, 1) := by decide +kernel
theorem dX11_writesNode_6 : decode cX11_writesNode 6 = .ok (.iaload, 1) := by decide +kernel
theorem dX11_writesNode_7 : decode cX11_writesNode 7 = .ok (.iconst 1, 1) := by decide +kernel
theorem dX11_writesNode_8 : decode cX11_writesNode 8 = .ok (.if_icmp .ne 8, 3) := by decide +kernel
theorem dX11_writesNode_11 : decode cX11_writesNode 11 = .ok (.bipush 91, 2) := by decide +kernel
theorem dX11_writesNode_13 : decode cX11_writesNode 13 = .ok (.goto 5, 3) := by decide +kernel
theorem dX11_writesNode_16 : decode cX11_writesNode 16 = .ok (.bipush 40, 2) := by decide +kernel
theorem dX11_writesNode_18 : decode cX11_writesNode 18 = .ok (.invokevirtual 438, 3) := by decide +kernel
theorem dX11_writesNode_21 : decode cX11_writesNode 21 = .ok (.iconst 0, 1) := by decide +kernel
theorem dX11_writesNode_22 : decode cX11_writesNode 22 = .ok (.istore_n 2, 1) := by decide +kernel
theorem dX11_writesNode_23 : decode cX11_writesNode 23 = .ok (.iload_n 2, 1) := by decide +kernel
theorem dX11_writesNode_24 : decode cX11_writesNode 24 = .ok (.aload_n 0, 1) := by decide +kernel
theorem dX11_writesNode_25 : decode cX11_writesNode 25 = .ok (.getfield 26, 3) := by decide +kernel
theorem dX11_writesNode_28 : decode cX11_writesNode 28 = .ok (.iload_n 1, 1) := by decide +kernel
theorem dX11_writesNode_29 : decode cX11_writesNode 29 = .ok (.iaload, 1) := by decide +kernel
theorem dX11_writesNode_30 : decode cX11_writesNode 30 = .ok (.if_icmp .ge 77, 3) := by decide +kernel
theorem dX11_writesNode_33 : decode cX11_writesNode 33 = .ok (.aload_n 0, 1) := by decide +kernel
theorem dX11_writesNode_34 : decode cX11_writesNode 34 = .ok (.getfield 23, 3) := by decide +kernel
theorem dX11_writesNode_37 : decode cX11_writesNode 37 = .ok (.iload_n 1, 1) := by decide +kernel
theorem dX11_writesNode_38 : decode cX11_writesNode 38 = .ok (.iaload, 1) := by decide +kernel
theorem dX11_writesNode_39 : decode cX11_writesNode 39 = .ok (.ifCond .ne 16, 3) := by decide +kernel
theorem dX11_writesNode_42 : decode cX11_writesNode 42 = .ok (.aload_n 0, 1) := by decide +kernel
theorem dX11_writesNode_43 : decode cX11_writesNode 43 = .ok (.aload_n 0, 1) := by decide +kernel
theorem dX11_writesNode_44 : decode cX11_writesNode 44 = .ok (.iload_n 1, 1) := by decide +kernel
theorem dX11_writesNode_45 : decode cX11_writesNode 45 = .ok (.iload_n 2, 1) := by decide +kernel
theorem dX11_writesNode_46 : decode cX11_writesNode 46 = .ok (.invokevirtual 197, 3) := by decide +kernel
theorem dX11_writesNode_49 : decode cX11_writesNode 49 = .ok (.invokevirtual 444, 3) := by decide +kernel
theorem dX11_writesNode_52 : decode cX11_writesNode 52 = .ok (.goto 49, 3) := by decide +kernel
theorem dX11_writesNode_55 : decode cX11_writesNode 55 = .ok (.iload_n 2, 1) := by decide +kernel
theorem dX11_writesNode_56 : decode cX11_writesNode 56 = .ok (.ifCond .le 9, 3) := by decide +kernel
theorem dX11_writesNode_59 : decode cX11_writesNode 59 = .ok (.aload_n 0, 1) := by decide +kernel
theorem dX11_writesNode_60 : decode cX11_writesNode 60 = .ok (.bipush 32, 2) := by decide +kernel
theorem dX11_writesNode_62 : decode cX11_writesNode 62 = .ok (.invokevirtual 438, 3) := by decide +kernel
theorem dX11_writesNode_65 : decode cX11_writesNode 65 = .ok (.aload_n 0, 1) := by decide +kernel
theorem dX11_writesNode_66 : decode cX11_writesNode 66 = .ok (.aload_n 0, 1) := by decide +kernel
theorem dX11_writesNode_67 : decode cX11_writesNode 67 = .ok (.getfield 39, 3) := by decide +kernel
theorem dX11_writesNode_70 : decode cX11_writesNode 70 = .ok (.bipush 7, 2) := by decide +kernel
theorem dX11_writesNode_72 : decode cX11_writesNode 72 = .ok (.iload_n 1, 1) := by decide +kernel
theorem dX11_writesNode_73 : decode cX11_writesNode 73 = .ok (.imul, 1) := by decide +kernel
theorem dX11_writesNode_74 : decode cX11_writesNode 74 = .ok (.iload_n 2, 1) := by decide +kernel
theorem dX11_writesNode_75 : decode cX11_writesNode 75 = .ok (.iadd, 1) := by decide +kernel
theorem dX11_writesNode_76 : decode cX11_writesNode 76 = .ok (.iaload, 1) := by decide +kernel
theorem dX11_writesNode_77 : decode cX11_writesNode 77 = .ok (.invokevirtual 447, 3) := by decide +kernel
theorem dX11_writesNode_80 : decode cX11_writesNode 80 = .ok (.aload_n 0, 1) := by decide +kernel
theorem dX11_writesNode_81 : decode cX11_writesNode 81 = .ok (.bipush 58, 2) := by decide +kernel
theorem dX11_writesNode_83 : decode cX11_writesNode 83 = .ok (.invokevirtual 438, 3) := by decide +kernel
theorem dX11_writesNode_86 : decode cX11_writesNode 86 = .ok (.aload_n 0, 1) := by decide +kernel
theorem dX11_writesNode_87 : decode cX11_writesNode 87 = .ok (.aload_n 0, 1) := by decide +kernel
theorem dX11_writesNode_88 : decode cX11_writesNode 88 = .ok (.getfield 42, 3) := by decide +kernel
theorem dX11_writesNode_91 : decode cX11_writesNode 91 = .ok (.bipush 7, 2) := by decide +kernel
theorem dX11_writesNode_93 : decode cX11_writesNode 93 = .ok (.iload_n 1, 1) := by decide +kernel
theorem dX11_writesNode_94 : decode cX11_writesNode 94 = .ok (.imul, 1) := by decide +kernel
theorem dX11_writesNode_95 : decode cX11_writesNode 95 = .ok (.iload_n 2, 1) := by decide +kernel
theorem dX11_writesNode_96 : decode cX11_writesNode 96 = .ok (.iadd, 1) := by decide +kernel
theorem dX11_writesNode_97 : decode cX11_writesNode 97 = .ok (.iaload, 1) := by decide +kernel
theorem dX11_writesNode_98 : decode cX11_writesNode 98 = .ok (.invokevirtual 447, 3) := by decide +kernel
theorem dX11_writesNode_101 : decode cX11_writesNode 101 = .ok (.iinc 2 1, 3) := by decide +kernel
theorem dX11_writesNode_104 : decode cX11_writesNode 104 = .ok (.goto (-81), 3) := by decide +kernel
theorem dX11_writesNode_107 : decode cX11_writesNode 107 = .ok (.aload_n 0, 1) := by decide +kernel
theorem dX11_writesNode_108 : decode cX11_writesNode 108 = .ok (.aload_n 0, 1) := by decide +kernel
theorem dX11_writesNode_109 : decode cX11_writesNode 109 = .ok (.getfield 23, 3) := by decide +kernel
theorem dX11_writesNode_112 : decode cX11_writesNode 112 = .ok (.iload_n 1, 1) := by decide +kernel
theorem dX11_writesNode_113 : decode cX11_writesNode 113 = .ok (.iaload, 1) := by decide +kernel
theorem dX11_writesNode_114 : decode cX11_writesNode 114 = .ok (.iconst 1, 1) := by decide +kernel
theorem dX11_writesNode_115 : decode cX11_writesNode 115 = .ok (.if_icmp .ne 8, 3) := by decide +kernel
theorem dX11_writesNode_118 : decode cX11_writesNode 118 = .ok (.bipush 93, 2) := by decide +kernel
theorem dX11_writesNode_120 : decode cX11_writesNode 120 = .ok (.goto 5, 3) := by decide +kernel
theorem dX11_writesNode_123 : decode cX11_writesNode 123 = .ok (.bipush 41, 2) := by decide +kernel
theorem dX11_writesNode_125 : decode cX11_writesNode 125 = .ok (.invokevirtual 438, 3) := by decide +kernel
theorem dX11_writesNode_128 : decode cX11_writesNode 128 = .ok (.return_, 1) := by decide +kernel
theorem dX11_laysShown_0 : decode cX11_laysShown 0 = .ok (.aload_n 0, 1) := by decide +kernel
theorem dX11_laysShown_1 : decode cX11_laysShown 1 = .ok (.iconst 0, 1) := by decide +kernel
theorem dX11_laysShown_2 : decode cX11_laysShown 2 = .ok (.putfield 435, 3) := by decide +kernel
theorem dX11_laysShown_5 : decode cX11_laysShown 5 = .ok (.aload_n 0, 1) := by decide +kernel
theorem dX11_laysShown_6 : decode cX11_laysShown 6 = .ok (.aload_n 0, 1) := by decide +kernel
theorem dX11_laysShown_7 : decode cX11_laysShown 7 = .ok (.getfield 67, 3) := by decide +kernel
theorem dX11_laysShown_10 : decode cX11_laysShown 10 = .ok (.iload_n 1, 1) := by decide +kernel
theorem dX11_laysShown_11 : decode cX11_laysShown 11 = .ok (.iaload, 1) := by decide +kernel
theorem dX11_laysShown_12 : decode cX11_laysShown 12 = .ok (.invokevirtual 444, 3) := by decide +kernel
theorem dX11_laysShown_15 : decode cX11_laysShown 15 = .ok (.return_, 1) := by decide +kernel
theorem dX11_areNodesAlike_0 : decode cX11_areNodesAlike 0 = .ok (.aload_n 0, 1) := by decide +kernel
theorem dX11_areNodesAlike_1 : decode cX11_areNodesAlike 1 = .ok (.getfield 23, 3) := by decide +kernel
theorem dX11_areNodesAlike_4 : decode cX11_areNodesAlike 4 = .ok (.iload_n 1, 1) := by decide +kernel
theorem dX11_areNodesAlike_5 : decode cX11_areNodesAlike 5 = .ok (.iaload, 1) := by decide +kernel
theorem dX11_areNodesAlike_6 : decode cX11_areNodesAlike 6 = .ok (.aload_n 0, 1) := by decide +kernel
theorem dX11_areNodesAlike_7 : decode cX11_areNodesAlike 7 = .ok (.getfield 23, 3) := by decide +kernel
theorem dX11_areNodesAlike_10 : decode cX11_areNodesAlike 10 = .ok (.iload_n 2, 1) := by decide +kernel
theorem dX11_areNodesAlike_11 : decode cX11_areNodesAlike 11 = .ok (.iaload, 1) := by decide +kernel
theorem dX11_areNodesAlike_12 : decode cX11_areNodesAlike 12 = .ok (.if_icmp .ne 18, 3) := by decide +kernel
theorem dX11_areNodesAlike_15 : decode cX11_areNodesAlike 15 = .ok (.aload_n 0, 1) := by decide +kernel
theorem dX11_areNodesAlike_16 : decode cX11_areNodesAlike 16 = .ok (.getfield 26, 3) := by decide +kernel
theorem dX11_areNodesAlike_19 : decode cX11_areNodesAlike 19 = .ok (.iload_n 1, 1) := by decide +kernel
theorem dX11_areNodesAlike_20 : decode cX11_areNodesAlike 20 = .ok (.iaload, 1) := by decide +kernel
theorem dX11_areNodesAlike_21 : decode cX11_areNodesAlike 21 = .ok (.aload_n 0, 1) := by decide +kernel
theorem dX11_areNodesAlike_22 : decode cX11_areNodesAlike 22 = .ok (.getfield 26, 3) := by decide +kernel
theorem dX11_areNodesAlike_25 : decode cX11_areNodesAlike 25 = .ok (.iload_n 2, 1) := by decide +kernel
theorem dX11_areNodesAlike_26 : decode cX11_areNodesAlike 26 = .ok (.iaload, 1) := by decide +kernel
theorem dX11_areNodesAlike_27 : decode cX11_areNodesAlike 27 = .ok (.if_icmp .eq 5, 3) := by decide +kernel
theorem dX11_areNodesAlike_30 : decode cX11_areNodesAlike 30 = .ok (.iconst 0, 1) := by decide +kernel
theorem dX11_areNodesAlike_31 : decode cX11_areNodesAlike 31 = .ok (.ireturn, 1) := by decide +kernel
theorem dX11_areNodesAlike_32 : decode cX11_areNodesAlike 32 = .ok (.iconst 1, 1) := by decide +kernel
theorem dX11_areNodesAlike_33 : decode cX11_areNodesAlike 33 = .ok (.istore_n 3, 1) := by decide +kernel
theorem dX11_areNodesAlike_34 : decode cX11_areNodesAlike 34 = .ok (.iconst 0, 1) := by decide +kernel
theorem dX11_areNodesAlike_35 : decode cX11_areNodesAlike 35 = .ok (.istore 4, 2) := by decide +kernel
theorem dX11_areNodesAlike_37 : decode cX11_areNodesAlike 37 = .ok (.iload 4, 2) := by decide +kernel
theorem dX11_areNodesAlike_39 : decode cX11_areNodesAlike 39 = .ok (.aload_n 0, 1) := by decide +kernel
theorem dX11_areNodesAlike_40 : decode cX11_areNodesAlike 40 = .ok (.getfield 26, 3) := by decide +kernel
theorem dX11_areNodesAlike_43 : decode cX11_areNodesAlike 43 = .ok (.iload_n 1, 1) := by decide +kernel
theorem dX11_areNodesAlike_44 : decode cX11_areNodesAlike 44 = .ok (.iaload, 1) := by decide +kernel
theorem dX11_areNodesAlike_45 : decode cX11_areNodesAlike 45 = .ok (.if_icmp .ge 103, 3) := by decide +kernel
theorem dX11_areNodesAlike_48 : decode cX11_areNodesAlike 48 = .ok (.iload_n 3, 1) := by decide +kernel
theorem dX11_areNodesAlike_49 : decode cX11_areNodesAlike 49 = .ok (.ifCond .eq 99, 3) := by decide +kernel
theorem dX11_areNodesAlike_52 : decode cX11_areNodesAlike 52 = .ok (.aload_n 0, 1) := by decide +kernel
theorem dX11_areNodesAlike_53 : decode cX11_areNodesAlike 53 = .ok (.getfield 23, 3) := by decide +kernel
theorem dX11_areNodesAlike_56 : decode cX11_areNodesAlike 56 = .ok (.iload_n 1, 1) := by decide +kernel
theorem dX11_areNodesAlike_57 : decode cX11_areNodesAlike 57 = .ok (.iaload, 1) := by decide +kernel
theorem dX11_areNodesAlike_58 : decode cX11_areNodesAlike 58 = .ok (.ifCond .ne 24, 3) := by decide +kernel
theorem dX11_areNodesAlike_61 : decode cX11_areNodesAlike 61 = .ok (.aload_n 0, 1) := by decide +kernel
theorem dX11_areNodesAlike_62 : decode cX11_areNodesAlike 62 = .ok (.aload_n 0, 1) := by decide +kernel
theorem dX11_areNodesAlike_63 : decode cX11_areNodesAlike 63 = .ok (.iload_n 1, 1) := by decide +kernel
theorem dX11_areNodesAlike_64 : decode cX11_areNodesAlike 64 = .ok (.iload 4, 2) := by decide +kernel
theorem dX11_areNodesAlike_66 : decode cX11_areNodesAlike 66 = .ok (.invokevirtual 197, 3) := by decide +kernel
theorem dX11_areNodesAlike_69 : decode cX11_areNodesAlike 69 = .ok (.aload_n 0, 1) := by decide +kernel
theorem dX11_areNodesAlike_70 : decode cX11_areNodesAlike 70 = .ok (.iload_n 2, 1) := by decide +kernel
theorem dX11_areNodesAlike_71 : decode cX11_areNodesAlike 71 = .ok (.iload 4, 2) := by decide +kernel
theorem dX11_areNodesAlike_73 : decode cX11_areNodesAlike 73 = .ok (.invokevirtual 197, 3) := by decide +kernel
theorem dX11_areNodesAlike_76 : decode cX11_areNodesAlike 76 = .ok (.invokevirtual 450, 3) := by decide +kernel
theorem dX11_areNodesAlike_79 : decode cX11_areNodesAlike 79 = .ok (.goto 62, 3) := by decide +kernel
theorem dX11_areNodesAlike_82 : decode cX11_areNodesAlike 82 = .ok (.aload_n 0, 1) := by decide +kernel
theorem dX11_areNodesAlike_83 : decode cX11_areNodesAlike 83 = .ok (.getfield 39, 3) := by decide +kernel
theorem dX11_areNodesAlike_86 : decode cX11_areNodesAlike 86 = .ok (.bipush 7, 2) := by decide +kernel
theorem dX11_areNodesAlike_88 : decode cX11_areNodesAlike 88 = .ok (.iload_n 1, 1) := by decide +kernel
theorem dX11_areNodesAlike_89 : decode cX11_areNodesAlike 89 = .ok (.imul, 1) := by decide +kernel
theorem dX11_areNodesAlike_90 : decode cX11_areNodesAlike 90 = .ok (.iload 4, 2) := by decide +kernel
theorem dX11_areNodesAlike_92 : decode cX11_areNodesAlike 92 = .ok (.iadd, 1) := by decide +kernel
theorem dX11_areNodesAlike_93 : decode cX11_areNodesAlike 93 = .ok (.iaload, 1) := by decide +kernel
theorem dX11_areNodesAlike_94 : decode cX11_areNodesAlike 94 = .ok (.aload_n 0, 1) := by decide +kernel
theorem dX11_areNodesAlike_95 : decode cX11_areNodesAlike 95 = .ok (.getfield 39, 3) := by decide +kernel
theorem dX11_areNodesAlike_98 : decode cX11_areNodesAlike 98 = .ok (.bipush 7, 2) := by decide +kernel
theorem dX11_areNodesAlike_100 : decode cX11_areNodesAlike 100 = .ok (.iload_n 2, 1) := by decide +kernel
theorem dX11_areNodesAlike_101 : decode cX11_areNodesAlike 101 = .ok (.imul, 1) := by decide +kernel
theorem dX11_areNodesAlike_102 : decode cX11_areNodesAlike 102 = .ok (.iload 4, 2) := by decide +kernel
theorem dX11_areNodesAlike_104 : decode cX11_areNodesAlike 104 = .ok (.iadd, 1) := by decide +kernel
theorem dX11_areNodesAlike_105 : decode cX11_areNodesAlike 105 = .ok (.iaload, 1) := by decide +kernel
theorem dX11_areNodesAlike_106 : decode cX11_areNodesAlike 106 = .ok (.if_icmp .ne 34, 3) := by decide +kernel
theorem dX11_areNodesAlike_109 : decode cX11_areNodesAlike 109 = .ok (.aload_n 0, 1) := by decide +kernel
theorem dX11_areNodesAlike_110 : decode cX11_areNodesAlike 110 = .ok (.getfield 42, 3) := by decide +kernel
theorem dX11_areNodesAlike_113 : decode cX11_areNodesAlike 113 = .ok (.bipush 7, 2) := by decide +kernel
theorem dX11_areNodesAlike_115 : decode cX11_areNodesAlike 115 = .ok (.iload_n 1, 1) := by decide +kernel
theorem dX11_areNodesAlike_116 : decode cX11_areNodesAlike 116 = .ok (.imul, 1) := by decide +kernel
theorem dX11_areNodesAlike_117 : decode cX11_areNodesAlike 117 = .ok (.iload 4, 2) := by decide +kernel
theorem dX11_areNodesAlike_119 : decode cX11_areNodesAlike 119 = .ok (.iadd, 1) := by decide +kernel
theorem dX11_areNodesAlike_120 : decode cX11_areNodesAlike 120 = .ok (.iaload, 1) := by decide +kernel
theorem dX11_areNodesAlike_121 : decode cX11_areNodesAlike 121 = .ok (.aload_n 0, 1) := by decide +kernel
theorem dX11_areNodesAlike_122 : decode cX11_areNodesAlike 122 = .ok (.getfield 42, 3) := by decide +kernel
theorem dX11_areNodesAlike_125 : decode cX11_areNodesAlike 125 = .ok (.bipush 7, 2) := by decide +kernel
theorem dX11_areNodesAlike_127 : decode cX11_areNodesAlike 127 = .ok (.iload_n 2, 1) := by decide +kernel
theorem dX11_areNodesAlike_128 : decode cX11_areNodesAlike 128 = .ok (.imul, 1) := by decide +kernel
theorem dX11_areNodesAlike_129 : decode cX11_areNodesAlike 129 = .ok (.iload 4, 2) := by decide +kernel
theorem dX11_areNodesAlike_131 : decode cX11_areNodesAlike 131 = .ok (.iadd, 1) := by decide +kernel
theorem dX11_areNodesAlike_132 : decode cX11_areNodesAlike 132 = .ok (.iaload, 1) := by decide +kernel
theorem dX11_areNodesAlike_133 : decode cX11_areNodesAlike 133 = .ok (.if_icmp .ne 7, 3) := by decide +kernel
theorem dX11_areNodesAlike_136 : decode cX11_areNodesAlike 136 = .ok (.iconst 1, 1) := by decide +kernel
theorem dX11_areNodesAlike_137 : decode cX11_areNodesAlike 137 = .ok (.goto 4, 3) := by decide +kernel
theorem dX11_areNodesAlike_140 : decode cX11_areNodesAlike 140 = .ok (.iconst 0, 1) := by decide +kernel
theorem dX11_areNodesAlike_141 : decode cX11_areNodesAlike 141 = .ok (.istore_n 3, 1) := by decide +kernel
theorem dX11_areNodesAlike_142 : decode cX11_areNodesAlike 142 = .ok (.iinc 4 1, 3) := by decide +kernel
theorem dX11_areNodesAlike_145 : decode cX11_areNodesAlike 145 = .ok (.goto (-108), 3) := by decide +kernel
theorem dX11_areNodesAlike_148 : decode cX11_areNodesAlike 148 = .ok (.iload_n 3, 1) := by decide +kernel
theorem dX11_areNodesAlike_149 : decode cX11_areNodesAlike 149 = .ok (.ireturn, 1) := by decide +kernel
theorem dX11_holdSame_0 : decode cX11_holdSame 0 = .ok (.aload_n 0, 1) := by decide +kernel
theorem dX11_holdSame_1 : decode cX11_holdSame 1 = .ok (.aload_n 0, 1) := by decide +kernel
theorem dX11_holdSame_2 : decode cX11_holdSame 2 = .ok (.getfield 67, 3) := by decide +kernel
theorem dX11_holdSame_5 : decode cX11_holdSame 5 = .ok (.iload_n 1, 1) := by decide +kernel
theorem dX11_holdSame_6 : decode cX11_holdSame 6 = .ok (.iaload, 1) := by decide +kernel
theorem dX11_holdSame_7 : decode cX11_holdSame 7 = .ok (.aload_n 0, 1) := by decide +kernel
theorem dX11_holdSame_8 : decode cX11_holdSame 8 = .ok (.getfield 67, 3) := by decide +kernel
theorem dX11_holdSame_11 : decode cX11_holdSame 11 = .ok (.iload_n 2, 1) := by decide +kernel
theorem dX11_holdSame_12 : decode cX11_holdSame 12 = .ok (.iaload, 1) := by decide +kernel
theorem dX11_holdSame_13 : decode cX11_holdSame 13 = .ok (.invokevirtual 356, 3) := by decide +kernel
theorem dX11_holdSame_16 : decode cX11_holdSame 16 = .ok (.iconst 0, 1) := by decide +kernel
theorem dX11_holdSame_17 : decode cX11_holdSame 17 = .ok (.istore_n 3, 1) := by decide +kernel
theorem dX11_holdSame_18 : decode cX11_holdSame 18 = .ok (.iload_n 3, 1) := by decide +kernel
theorem dX11_holdSame_19 : decode cX11_holdSame 19 = .ok (.sipush 999, 3) := by decide +kernel
theorem dX11_holdSame_22 : decode cX11_holdSame 22 = .ok (.if_icmp .gt 21, 3) := by decide +kernel
theorem dX11_holdSame_25 : decode cX11_holdSame 25 = .ok (.aload_n 0, 1) := by decide +kernel
theorem dX11_holdSame_26 : decode cX11_holdSame 26 = .ok (.iload_n 3, 1) := by decide +kernel
theorem dX11_holdSame_27 : decode cX11_holdSame 27 = .ok (.iconst 0, 1) := by decide +kernel
theorem dX11_holdSame_28 : decode cX11_holdSame 28 = .ok (.iconst 1, 1) := by decide +kernel
theorem dX11_holdSame_29 : decode cX11_holdSame 29 = .ok (.invokevirtual 362, 3) := by decide +kernel
theorem dX11_holdSame_32 : decode cX11_holdSame 32 = .ok (.ifCond .eq 5, 3) := by decide +kernel
theorem dX11_holdSame_35 : decode cX11_holdSame 35 = .ok (.iconst 0, 1) := by decide +kernel
theorem dX11_holdSame_36 : decode cX11_holdSame 36 = .ok (.ireturn, 1) := by decide +kernel
theorem dX11_holdSame_37 : decode cX11_holdSame 37 = .ok (.iinc 3 1, 3) := by decide +kernel
theorem dX11_holdSame_40 : decode cX11_holdSame 40 = .ok (.goto (-22), 3) := by decide +kernel
theorem dX11_holdSame_43 : decode cX11_holdSame 43 = .ok (.iconst 1, 1) := by decide +kernel
theorem dX11_holdSame_44 : decode cX11_holdSame 44 = .ok (.ireturn, 1) := by decide +kernel
theorem dX11_alike_0 : decode cX11_alike 0 = .ok (.aload_n 0, 1) := by decide +kernel
theorem dX11_alike_1 : decode cX11_alike 1 = .ok (.iconst 0, 1) := by decide +kernel
theorem dX11_alike_2 : decode cX11_alike 2 = .ok (.putfield 116, 3) := by decide +kernel
theorem dX11_alike_5 : decode cX11_alike 5 = .ok (.aload_n 0, 1) := by decide +kernel
theorem dX11_alike_6 : decode cX11_alike 6 = .ok (.iload_n 1, 1) := by decide +kernel
theorem dX11_alike_7 : decode cX11_alike 7 = .ok (.invokevirtual 309, 3) := by decide +kernel
theorem dX11_alike_10 : decode cX11_alike 10 = .ok (.ifCond .eq 21, 3) := by decide +kernel
theorem dX11_alike_13 : decode cX11_alike 13 = .ok (.aload_n 0, 1) := by decide +kernel
theorem dX11_alike_14 : decode cX11_alike 14 = .ok (.iload_n 2, 1) := by decide +kernel
theorem dX11_alike_15 : decode cX11_alike 15 = .ok (.invokevirtual 309, 3) := by decide +kernel
theorem dX11_alike_18 : decode cX11_alike 18 = .ok (.ifCond .eq 13, 3) := by decide +kernel
theorem dX11_alike_21 : decode cX11_alike 21 = .ok (.iload_n 3, 1) := by decide +kernel
theorem dX11_alike_22 : decode cX11_alike 22 = .ok (.i2l, 1) := by decide +kernel
theorem dX11_alike_23 : decode cX11_alike 23 = .ok (.lconst 0, 1) := by decide +kernel
theorem dX11_alike_24 : decode cX11_alike 24 = .ok (.lconst 1, 1) := by decide +kernel
theorem dX11_alike_25 : decode cX11_alike 25 = .ok (.invokestatic 174, 3) := by decide +kernel
theorem dX11_alike_28 : decode cX11_alike 28 = .ok (.ifCond .ne 5, 3) := by decide +kernel
theorem dX11_alike_31 : decode cX11_alike 31 = .ok (.iconst (-1), 1) := by decide +kernel
theorem dX11_alike_32 : decode cX11_alike 32 = .ok (.ireturn, 1) := by decide +kernel
theorem dX11_alike_33 : decode cX11_alike 33 = .ok (.iload_n 3, 1) := by decide +kernel
theorem dX11_alike_34 : decode cX11_alike 34 = .ok (.ifCond .ne 15, 3) := by decide +kernel
theorem dX11_alike_37 : decode cX11_alike 37 = .ok (.aload_n 0, 1) := by decide +kernel
theorem dX11_alike_38 : decode cX11_alike 38 = .ok (.iload_n 1, 1) := by decide +kernel
theorem dX11_alike_39 : decode cX11_alike 39 = .ok (.iload_n 2, 1) := by decide +kernel
theorem dX11_alike_40 : decode cX11_alike 40 = .ok (.invokevirtual 453, 3) := by decide +kernel
theorem dX11_alike_43 : decode cX11_alike 43 = .ok (.ifCond .eq 29, 3) := by decide +kernel
theorem dX11_alike_46 : decode cX11_alike 46 = .ok (.goto 22, 3) := by decide +kernel
theorem dX11_alike_49 : decode cX11_alike 49 = .ok (.aload_n 0, 1) := by decide +kernel
theorem dX11_alike_50 : decode cX11_alike 50 = .ok (.aload_n 0, 1) := by decide +kernel
theorem dX11_alike_51 : decode cX11_alike 51 = .ok (.getfield 67, 3) := by decide +kernel
theorem dX11_alike_54 : decode cX11_alike 54 = .ok (.iload_n 1, 1) := by decide +kernel
theorem dX11_alike_55 : decode cX11_alike 55 = .ok (.iaload, 1) := by decide +kernel
theorem dX11_alike_56 : decode cX11_alike 56 = .ok (.aload_n 0, 1) := by decide +kernel
theorem dX11_alike_57 : decode cX11_alike 57 = .ok (.getfield 67, 3) := by decide +kernel
theorem dX11_alike_60 : decode cX11_alike 60 = .ok (.iload_n 2, 1) := by decide +kernel
theorem dX11_alike_61 : decode cX11_alike 61 = .ok (.iaload, 1) := by decide +kernel
theorem dX11_alike_62 : decode cX11_alike 62 = .ok (.invokevirtual 450, 3) := by decide +kernel
theorem dX11_alike_65 : decode cX11_alike 65 = .ok (.ifCond .eq 7, 3) := by decide +kernel
theorem dX11_alike_68 : decode cX11_alike 68 = .ok (.iconst 1, 1) := by decide +kernel
theorem dX11_alike_69 : decode cX11_alike 69 = .ok (.goto 4, 3) := by decide +kernel
theorem dX11_alike_72 : decode cX11_alike 72 = .ok (.iconst 0, 1) := by decide +kernel
theorem dX11_alike_73 : decode cX11_alike 73 = .ok (.ireturn, 1) := by decide +kernel
theorem dX11_laysSources_0 : decode cX11_laysSources 0 = .ok (.aload_n 0, 1) := by decide +kernel
theorem dX11_laysSources_1 : decode cX11_laysSources 1 = .ok (.getfield 113, 3) := by decide +kernel
theorem dX11_laysSources_4 : decode cX11_laysSources 4 = .ok (.iload_n 1, 1) := by decide +kernel
theorem dX11_laysSources_5 : decode cX11_laysSources 5 = .ok (.dup2, 1) := by decide +kernel
theorem dX11_laysSources_6 : decode cX11_laysSources 6 = .ok (.iaload, 1) := by decide +kernel
theorem dX11_laysSources_7 : decode cX11_laysSources 7 = .ok (.iload_n 2, 1) := by decide +kernel
theorem dX11_laysSources_8 : decode cX11_laysSources 8 = .ok (.ior, 1) := by decide +kernel
theorem dX11_laysSources_9 : decode cX11_laysSources 9 = .ok (.iastore, 1) := by decide +kernel
theorem dX11_laysSources_10 : decode cX11_laysSources 10 = .ok (.iload_n 1, 1) := by decide +kernel
theorem dX11_laysSources_11 : decode cX11_laysSources 11 = .ok (.istore_n 3, 1) := by decide +kernel
theorem dX11_laysSources_12 : decode cX11_laysSources 12 = .ok (.iload_n 3, 1) := by decide +kernel
theorem dX11_laysSources_13 : decode cX11_laysSources 13 = .ok (.ifCond .lt 73, 3) := by decide +kernel
theorem dX11_laysSources_16 : decode cX11_laysSources 16 = .ok (.aload_n 0, 1) := by decide +kernel
theorem dX11_laysSources_17 : decode cX11_laysSources 17 = .ok (.getfield 113, 3) := by decide +kernel
theorem dX11_laysSources_20 : decode cX11_laysSources 20 = .ok (.iload_n 3, 1) := by decide +kernel
theorem dX11_laysSources_21 : decode cX11_laysSources 21 = .ok (.iaload, 1) := by decide +kernel
theorem dX11_laysSources_22 : decode cX11_laysSources 22 = .ok (.iload_n 2, 1) := by decide +kernel
theorem dX11_laysSources_23 : decode cX11_laysSources 23 = .ok (.iand, 1) := by decide +kernel
theorem dX11_laysSources_24 : decode cX11_laysSources 24 = .ok (.ifCond .ne 6, 3) := by decide +kernel
theorem dX11_laysSources_27 : decode cX11_laysSources 27 = .ok (.goto 53, 3) := by decide +kernel
theorem dX11_laysSources_30 : decode cX11_laysSources 30 = .ok (.aload_n 0, 1) := by decide +kernel
theorem dX11_laysSources_31 : decode cX11_laysSources 31 = .ok (.getfield 70, 3) := by decide +kernel
theorem dX11_laysSources_34 : decode cX11_laysSources 34 = .ok (.iload_n 3, 1) := by decide +kernel
theorem dX11_laysSources_35 : decode cX11_laysSources 35 = .ok (.iaload, 1) := by decide +kernel
theorem dX11_laysSources_36 : decode cX11_laysSources 36 = .ok (.iconst (-1), 1) := by decide +kernel
theorem dX11_laysSources_37 : decode cX11_laysSources 37 = .ok (.if_icmp .eq 18, 3) := by decide +kernel
theorem dX11_laysSources_40 : decode cX11_laysSources 40 = .ok (.aload_n 0, 1) := by decide +kernel
theorem dX11_laysSources_41 : decode cX11_laysSources 41 = .ok (.getfield 113, 3) := by decide +kernel
theorem dX11_laysSources_44 : decode cX11_laysSources 44 = .ok (.aload_n 0, 1) := by decide +kernel
theorem dX11_laysSources_45 : decode cX11_laysSources 45 = .ok (.getfield 70, 3) := by decide +kernel
theorem dX11_laysSources_48 : decode cX11_laysSources 48 = .ok (.iload_n 3, 1) := by decide +kernel
theorem dX11_laysSources_49 : decode cX11_laysSources 49 = .ok (.iaload, 1) := by decide +kernel
theorem dX11_laysSources_50 : decode cX11_laysSources 50 = .ok (.dup2, 1) := by decide +kernel
theorem dX11_laysSources_51 : decode cX11_laysSources 51 = .ok (.iaload, 1) := by decide +kernel
theorem dX11_laysSources_52 : decode cX11_laysSources 52 = .ok (.iload_n 2, 1) := by decide +kernel
theorem dX11_laysSources_53 : decode cX11_laysSources 53 = .ok (.ior, 1) := by decide +kernel
theorem dX11_laysSources_54 : decode cX11_laysSources 54 = .ok (.iastore, 1) := by decide +kernel
theorem dX11_laysSources_55 : decode cX11_laysSources 55 = .ok (.aload_n 0, 1) := by decide +kernel
theorem dX11_laysSources_56 : decode cX11_laysSources 56 = .ok (.getfield 73, 3) := by decide +kernel
theorem dX11_laysSources_59 : decode cX11_laysSources 59 = .ok (.iload_n 3, 1) := by decide +kernel
theorem dX11_laysSources_60 : decode cX11_laysSources 60 = .ok (.iaload, 1) := by decide +kernel
theorem dX11_laysSources_61 : decode cX11_laysSources 61 = .ok (.iconst (-1), 1) := by decide +kernel
theorem dX11_laysSources_62 : decode cX11_laysSources 62 = .ok (.if_icmp .eq 18, 3) := by decide +kernel
theorem dX11_laysSources_65 : decode cX11_laysSources 65 = .ok (.aload_n 0, 1) := by decide +kernel
theorem dX11_laysSources_66 : decode cX11_laysSources 66 = .ok (.getfield 113, 3) := by decide +kernel
theorem dX11_laysSources_69 : decode cX11_laysSources 69 = .ok (.aload_n 0, 1) := by decide +kernel
theorem dX11_laysSources_70 : decode cX11_laysSources 70 = .ok (.getfield 73, 3) := by decide +kernel
theorem dX11_laysSources_73 : decode cX11_laysSources 73 = .ok (.iload_n 3, 1) := by decide +kernel
theorem dX11_laysSources_74 : decode cX11_laysSources 74 = .ok (.iaload, 1) := by decide +kernel
theorem dX11_laysSources_75 : decode cX11_laysSources 75 = .ok (.dup2, 1) := by decide +kernel
theorem dX11_laysSources_76 : decode cX11_laysSources 76 = .ok (.iaload, 1) := by decide +kernel
theorem dX11_laysSources_77 : decode cX11_laysSources 77 = .ok (.iload_n 2, 1) := by decide +kernel
theorem dX11_laysSources_78 : decode cX11_laysSources 78 = .ok (.ior, 1) := by decide +kernel
theorem dX11_laysSources_79 : decode cX11_laysSources 79 = .ok (.iastore, 1) := by decide +kernel
theorem dX11_laysSources_80 : decode cX11_laysSources 80 = .ok (.iinc 3 (-1), 3) := by decide +kernel
theorem dX11_laysSources_83 : decode cX11_laysSources 83 = .ok (.goto (-71), 3) := by decide +kernel
theorem dX11_laysSources_86 : decode cX11_laysSources 86 = .ok (.return_, 1) := by decide +kernel
theorem dX11_fork_0 : decode cX11_fork 0 = .ok (.aload_n 0, 1) := by decide +kernel
theorem dX11_fork_1 : decode cX11_fork 1 = .ok (.iconst 0, 1) := by decide +kernel
theorem dX11_fork_2 : decode cX11_fork 2 = .ok (.putfield 116, 3) := by decide +kernel
theorem dX11_fork_5 : decode cX11_fork 5 = .ok (.aload_n 0, 1) := by decide +kernel
theorem dX11_fork_6 : decode cX11_fork 6 = .ok (.iload_n 1, 1) := by decide +kernel
theorem dX11_fork_7 : decode cX11_fork 7 = .ok (.invokevirtual 309, 3) := by decide +kernel
theorem dX11_fork_10 : decode cX11_fork 10 = .ok (.ifCond .eq 11, 3) := by decide +kernel
theorem dX11_fork_13 : decode cX11_fork 13 = .ok (.aload_n 0, 1) := by decide +kernel
theorem dX11_fork_14 : decode cX11_fork 14 = .ok (.iload_n 2, 1) := by decide +kernel
theorem dX11_fork_15 : decode cX11_fork 15 = .ok (.invokevirtual 309, 3) := by decide +kernel
theorem dX11_fork_18 : decode cX11_fork 18 = .ok (.ifCond .ne 5, 3) := by decide +kernel
theorem dX11_fork_21 : decode cX11_fork 21 = .ok (.iconst (-1), 1) := by decide +kernel
theorem dX11_fork_22 : decode cX11_fork 22 = .ok (.ireturn, 1) := by decide +kernel
theorem dX11_fork_23 : decode cX11_fork 23 = .ok (.iconst 0, 1) := by decide +kernel
theorem dX11_fork_24 : decode cX11_fork 24 = .ok (.istore_n 3, 1) := by decide +kernel
theorem dX11_fork_25 : decode cX11_fork 25 = .ok (.iload_n 3, 1) := by decide +kernel
theorem dX11_fork_26 : decode cX11_fork 26 = .ok (.aload_n 0, 1) := by decide +kernel
theorem dX11_fork_27 : decode cX11_fork 27 = .ok (.getfield 261, 3) := by decide +kernel
theorem dX11_fork_30 : decode cX11_fork 30 = .ok (.if_icmp .ge 16, 3) := by decide +kernel
theorem dX11_fork_33 : decode cX11_fork 33 = .ok (.aload_n 0, 1) := by decide +kernel
theorem dX11_fork_34 : decode cX11_fork 34 = .ok (.getfield 113, 3) := by decide +kernel
theorem dX11_fork_37 : decode cX11_fork 37 = .ok (.iload_n 3, 1) := by decide +kernel
theorem dX11_fork_38 : decode cX11_fork 38 = .ok (.iconst 0, 1) := by decide +kernel
theorem dX11_fork_39 : decode cX11_fork 39 = .ok (.iastore, 1) := by decide +kernel
theorem dX11_fork_40 : decode cX11_fork 40 = .ok (.iinc 3 1, 3) := by decide +kernel
theorem dX11_fork_43 : decode cX11_fork 43 = .ok (.goto (-18), 3) := by decide +kernel
theorem dX11_fork_46 : decode cX11_fork 46 = .ok (.aload_n 0, 1) := by decide +kernel
theorem dX11_fork_47 : decode cX11_fork 47 = .ok (.iload_n 1, 1) := by decide +kernel
theorem dX11_fork_48 : decode cX11_fork 48 = .ok (.iconst 1, 1) := by decide +kernel
theorem dX11_fork_49 : decode cX11_fork 49 = .ok (.invokevirtual 456, 3) := by decide +kernel
theorem dX11_fork_52 : decode cX11_fork 52 = .ok (.aload_n 0, 1) := by decide +kernel
theorem dX11_fork_53 : decode cX11_fork 53 = .ok (.iload_n 2, 1) := by decide +kernel
theorem dX11_fork_54 : decode cX11_fork 54 = .ok (.iconst 2, 1) := by decide +kernel
theorem dX11_fork_55 : decode cX11_fork 55 = .ok (.invokevirtual 456, 3) := by decide +kernel
theorem dX11_fork_58 : decode cX11_fork 58 = .ok (.iconst (-1), 1) := by decide +kernel
theorem dX11_fork_59 : decode cX11_fork 59 = .ok (.istore_n 3, 1) := by decide +kernel
theorem dX11_fork_60 : decode cX11_fork 60 = .ok (.iconst 0, 1) := by decide +kernel
theorem dX11_fork_61 : decode cX11_fork 61 = .ok (.istore 4, 2) := by decide +kernel
theorem dX11_fork_63 : decode cX11_fork 63 = .ok (.iload 4, 2) := by decide +kernel
theorem dX11_fork_65 : decode cX11_fork 65 = .ok (.aload_n 0, 1) := by decide +kernel
theorem dX11_fork_66 : decode cX11_fork 66 = .ok (.getfield 261, 3) := by decide +kernel
theorem dX11_fork_69 : decode cX11_fork 69 = .ok (.if_icmp .ge 27, 3) := by decide +kernel
theorem dX11_fork_72 : decode cX11_fork 72 = .ok (.aload_n 0, 1) := by decide +kernel
theorem dX11_fork_73 : decode cX11_fork 73 = .ok (.getfield 113, 3) := by decide +kernel
theorem dX11_fork_76 : decode cX11_fork 76 = .ok (.iload 4, 2) := by decide +kernel
theorem dX11_fork_78 : decode cX11_fork 78 = .ok (.iaload, 1) := by decide +kernel
theorem dX11_fork_79 : decode cX11_fork 79 = .ok (.iconst 3, 1) := by decide +kernel
theorem dX11_fork_80 : decode cX11_fork 80 = .ok (.if_icmp .ne 8, 3) := by decide +kernel
theorem dX11_fork_83 : decode cX11_fork 83 = .ok (.iload 4, 2) := by decide +kernel
theorem dX11_fork_85 : decode cX11_fork 85 = .ok (.goto 4, 3) := by decide +kernel
theorem dX11_fork_88 : decode cX11_fork 88 = .ok (.iload_n 3, 1) := by decide +kernel
theorem dX11_fork_89 : decode cX11_fork 89 = .ok (.istore_n 3, 1) := by decide +kernel
theorem dX11_fork_90 : decode cX11_fork 90 = .ok (.iinc 4 1, 3) := by decide +kernel
theorem dX11_fork_93 : decode cX11_fork 93 = .ok (.goto (-30), 3) := by decide +kernel
theorem dX11_fork_96 : decode cX11_fork 96 = .ok (.iload_n 3, 1) := by decide +kernel
theorem dX11_fork_97 : decode cX11_fork 97 = .ok (.ireturn, 1) := by decide +kernel
theorem dX11_comesFrom_0 : decode cX11_comesFrom 0 = .ok (.aload_n 0, 1) := by decide +kernel
theorem dX11_comesFrom_1 : decode cX11_comesFrom 1 = .ok (.iconst 0, 1) := by decide +kernel
theorem dX11_comesFrom_2 : decode cX11_comesFrom 2 = .ok (.putfield 116, 3) := by decide +kernel
theorem dX11_comesFrom_5 : decode cX11_comesFrom 5 = .ok (.aload_n 0, 1) := by decide +kernel
theorem dX11_comesFrom_6 : decode cX11_comesFrom 6 = .ok (.iload_n 1, 1) := by decide +kernel
theorem dX11_comesFrom_7 : decode cX11_comesFrom 7 = .ok (.invokevirtual 309, 3) := by decide +kernel
theorem dX11_comesFrom_10 : decode cX11_comesFrom 10 = .ok (.ifCond .eq 19, 3) := by decide +kernel
theorem dX11_comesFrom_13 : decode cX11_comesFrom 13 = .ok (.iload_n 2, 1) := by decide +kernel
theorem dX11_comesFrom_14 : decode cX11_comesFrom 14 = .ok (.i2l, 1) := by decide +kernel
theorem dX11_comesFrom_15 : decode cX11_comesFrom 15 = .ok (.lconst 0, 1) := by decide +kernel
theorem dX11_comesFrom_16 : decode cX11_comesFrom 16 = .ok (.aload_n 0, 1) := by decide +kernel
theorem dX11_comesFrom_17 : decode cX11_comesFrom 17 = .ok (.getfield 261, 3) := by decide +kernel
theorem dX11_comesFrom_20 : decode cX11_comesFrom 20 = .ok (.iconst 1, 1) := by decide +kernel
theorem dX11_comesFrom_21 : decode cX11_comesFrom 21 = .ok (.isub, 1) := by decide +kernel
theorem dX11_comesFrom_22 : decode cX11_comesFrom 22 = .ok (.i2l, 1) := by decide +kernel
theorem dX11_comesFrom_23 : decode cX11_comesFrom 23 = .ok (.invokestatic 174, 3) := by decide +kernel
theorem dX11_comesFrom_26 : decode cX11_comesFrom 26 = .ok (.ifCond .ne 5, 3) := by decide +kernel
theorem dX11_comesFrom_29 : decode cX11_comesFrom 29 = .ok (.iconst (-1), 1) := by decide +kernel
theorem dX11_comesFrom_30 : decode cX11_comesFrom 30 = .ok (.ireturn, 1) := by decide +kernel
theorem dX11_comesFrom_31 : decode cX11_comesFrom 31 = .ok (.iconst 0, 1) := by decide +kernel
theorem dX11_comesFrom_32 : decode cX11_comesFrom 32 = .ok (.istore_n 3, 1) := by decide +kernel
theorem dX11_comesFrom_33 : decode cX11_comesFrom 33 = .ok (.iload_n 3, 1) := by decide +kernel
theorem dX11_comesFrom_34 : decode cX11_comesFrom 34 = .ok (.aload_n 0, 1) := by decide +kernel
theorem dX11_comesFrom_35 : decode cX11_comesFrom 35 = .ok (.getfield 261, 3) := by decide +kernel
theorem dX11_comesFrom_38 : decode cX11_comesFrom 38 = .ok (.if_icmp .ge 16, 3) := by decide +kernel
theorem dX11_comesFrom_41 : decode cX11_comesFrom 41 = .ok (.aload_n 0, 1) := by decide +kernel
theorem dX11_comesFrom_42 : decode cX11_comesFrom 42 = .ok (.getfield 113, 3) := by decide +kernel
theorem dX11_comesFrom_45 : decode cX11_comesFrom 45 = .ok (.iload_n 3, 1) := by decide +kernel
theorem dX11_comesFrom_46 : decode cX11_comesFrom 46 = .ok (.iconst 0, 1) := by decide +kernel
theorem dX11_comesFrom_47 : decode cX11_comesFrom 47 = .ok (.iastore, 1) := by decide +kernel
theorem dX11_comesFrom_48 : decode cX11_comesFrom 48 = .ok (.iinc 3 1, 3) := by decide +kernel
theorem dX11_comesFrom_51 : decode cX11_comesFrom 51 = .ok (.goto (-18), 3) := by decide +kernel
theorem dX11_comesFrom_54 : decode cX11_comesFrom 54 = .ok (.aload_n 0, 1) := by decide +kernel
theorem dX11_comesFrom_55 : decode cX11_comesFrom 55 = .ok (.iload_n 1, 1) := by decide +kernel
theorem dX11_comesFrom_56 : decode cX11_comesFrom 56 = .ok (.iconst 1, 1) := by decide +kernel
theorem dX11_comesFrom_57 : decode cX11_comesFrom 57 = .ok (.invokevirtual 456, 3) := by decide +kernel
theorem dX11_comesFrom_60 : decode cX11_comesFrom 60 = .ok (.aload_n 0, 1) := by decide +kernel
theorem dX11_comesFrom_61 : decode cX11_comesFrom 61 = .ok (.getfield 113, 3) := by decide +kernel
theorem dX11_comesFrom_64 : decode cX11_comesFrom 64 = .ok (.iload_n 2, 1) := by decide +kernel
theorem dX11_comesFrom_65 : decode cX11_comesFrom 65 = .ok (.iaload, 1) := by decide +kernel
theorem dX11_comesFrom_66 : decode cX11_comesFrom 66 = .ok (.ireturn, 1) := by decide +kernel
theorem dX11_show_0 : decode cX11_show 0 = .ok (.aload_n 0, 1) := by decide +kernel
theorem dX11_show_1 : decode cX11_show 1 = .ok (.iconst 0, 1) := by decide +kernel
theorem dX11_show_2 : decode cX11_show 2 = .ok (.putfield 116, 3) := by decide +kernel
theorem dX11_show_5 : decode cX11_show 5 = .ok (.aload_n 0, 1) := by decide +kernel
theorem dX11_show_6 : decode cX11_show 6 = .ok (.iload_n 1, 1) := by decide +kernel
theorem dX11_show_7 : decode cX11_show 7 = .ok (.invokevirtual 309, 3) := by decide +kernel
theorem dX11_show_10 : decode cX11_show 10 = .ok (.ifCond .ne 5, 3) := by decide +kernel
theorem dX11_show_13 : decode cX11_show 13 = .ok (.iconst (-1), 1) := by decide +kernel
theorem dX11_show_14 : decode cX11_show 14 = .ok (.ireturn, 1) := by decide +kernel
theorem dX11_show_15 : decode cX11_show 15 = .ok (.aload_n 0, 1) := by decide +kernel
theorem dX11_show_16 : decode cX11_show 16 = .ok (.iload_n 1, 1) := by decide +kernel
theorem dX11_show_17 : decode cX11_show 17 = .ok (.invokevirtual 459, 3) := by decide +kernel
theorem dX11_show_20 : decode cX11_show 20 = .ok (.iconst 0, 1) := by decide +kernel
theorem dX11_show_21 : decode cX11_show 21 = .ok (.istore_n 2, 1) := by decide +kernel
theorem dX11_show_22 : decode cX11_show 22 = .ok (.iload_n 2, 1) := by decide +kernel
theorem dX11_show_23 : decode cX11_show 23 = .ok (.aload_n 0, 1) := by decide +kernel
theorem dX11_show_24 : decode cX11_show 24 = .ok (.getfield 435, 3) := by decide +kernel
theorem dX11_show_27 : decode cX11_show 27 = .ok (.if_icmp .ge 21, 3) := by decide +kernel
theorem dX11_show_30 : decode cX11_show 30 = .ok (.aload_n 0, 1) := by decide +kernel
theorem dX11_show_31 : decode cX11_show 31 = .ok (.getfield 110, 3) := by decide +kernel
theorem dX11_show_34 : decode cX11_show 34 = .ok (.iload_n 2, 1) := by decide +kernel
theorem dX11_show_35 : decode cX11_show 35 = .ok (.aload_n 0, 1) := by decide +kernel
theorem dX11_show_36 : decode cX11_show 36 = .ok (.getfield 107, 3) := by decide +kernel
theorem dX11_show_39 : decode cX11_show 39 = .ok (.iload_n 2, 1) := by decide +kernel
theorem dX11_show_40 : decode cX11_show 40 = .ok (.baload, 1) := by decide +kernel
theorem dX11_show_41 : decode cX11_show 41 = .ok (.bastore, 1) := by decide +kernel
theorem dX11_show_42 : decode cX11_show 42 = .ok (.iinc 2 1, 3) := by decide +kernel
theorem dX11_show_45 : decode cX11_show 45 = .ok (.goto (-23), 3) := by decide +kernel
theorem dX11_show_48 : decode cX11_show 48 = .ok (.aload_n 0, 1) := by decide +kernel
theorem dX11_show_49 : decode cX11_show 49 = .ok (.aload_n 0, 1) := by decide +kernel
theorem dX11_show_50 : decode cX11_show 50 = .ok (.getfield 435, 3) := by decide +kernel
theorem dX11_show_53 : decode cX11_show 53 = .ok (.putfield 462, 3) := by decide +kernel
theorem dX11_show_56 : decode cX11_show 56 = .ok (.aload_n 0, 1) := by decide +kernel
theorem dX11_show_57 : decode cX11_show 57 = .ok (.getfield 462, 3) := by decide +kernel
theorem dX11_show_60 : decode cX11_show 60 = .ok (.ireturn, 1) := by decide +kernel
theorem dX11_shown_0 : decode cX11_shown 0 = .ok (.aload_n 0, 1) := by decide +kernel
theorem dX11_shown_1 : decode cX11_shown 1 = .ok (.iconst 0, 1) := by decide +kernel
theorem dX11_shown_2 : decode cX11_shown 2 = .ok (.putfield 116, 3) := by decide +kernel
theorem dX11_shown_5 : decode cX11_shown 5 = .ok (.iload_n 1, 1) := by decide +kernel
theorem dX11_shown_6 : decode cX11_shown 6 = .ok (.i2l, 1) := by decide +kernel
theorem dX11_shown_7 : decode cX11_shown 7 = .ok (.lconst 0, 1) := by decide +kernel
theorem dX11_shown_8 : decode cX11_shown 8 = .ok (.aload_n 0, 1) := by decide +kernel
theorem dX11_shown_9 : decode cX11_shown 9 = .ok (.getfield 462, 3) := by decide +kernel
theorem dX11_shown_12 : decode cX11_shown 12 = .ok (.iconst 1, 1) := by decide +kernel
theorem dX11_shown_13 : decode cX11_shown 13 = .ok (.isub, 1) := by decide +kernel
theorem dX11_shown_14 : decode cX11_shown 14 = .ok (.i2l, 1) := by decide +kernel
theorem dX11_shown_15 : decode cX11_shown 15 = .ok (.invokestatic 174, 3) := by decide +kernel
theorem dX11_shown_18 : decode cX11_shown 18 = .ok (.ifCond .eq 12, 3) := by decide +kernel
theorem dX11_shown_21 : decode cX11_shown 21 = .ok (.aload_n 0, 1) := by decide +kernel
theorem dX11_shown_22 : decode cX11_shown 22 = .ok (.getfield 110, 3) := by decide +kernel
theorem dX11_shown_25 : decode cX11_shown 25 = .ok (.iload_n 1, 1) := by decide +kernel
theorem dX11_shown_26 : decode cX11_shown 26 = .ok (.baload, 1) := by decide +kernel
theorem dX11_shown_27 : decode cX11_shown 27 = .ok (.goto 4, 3) := by decide +kernel
theorem dX11_shown_30 : decode cX11_shown 30 = .ok (.iconst (-1), 1) := by decide +kernel
theorem dX11_shown_31 : decode cX11_shown 31 = .ok (.ireturn, 1) := by decide +kernel
theorem dX11_digest_0 : decode cX11_digest 0 = .ok (.aload_n 0, 1) := by decide +kernel
theorem dX11_digest_1 : decode cX11_digest 1 = .ok (.iconst 0, 1) := by decide +kernel
theorem dX11_digest_2 : decode cX11_digest 2 = .ok (.putfield 116, 3) := by decide +kernel
theorem dX11_digest_5 : decode cX11_digest 5 = .ok (.aload_n 0, 1) := by decide +kernel
theorem dX11_digest_6 : decode cX11_digest 6 = .ok (.iload_n 1, 1) := by decide +kernel
theorem dX11_digest_7 : decode cX11_digest 7 = .ok (.invokevirtual 309, 3) := by decide +kernel
theorem dX11_digest_10 : decode cX11_digest 10 = .ok (.ifCond .ne 5, 3) := by decide +kernel
theorem dX11_digest_13 : decode cX11_digest 13 = .ok (.iconst (-1), 1) := by decide +kernel
theorem dX11_digest_14 : decode cX11_digest 14 = .ok (.ireturn, 1) := by decide +kernel
theorem dX11_digest_15 : decode cX11_digest 15 = .ok (.aload_n 0, 1) := by decide +kernel
theorem dX11_digest_16 : decode cX11_digest 16 = .ok (.iload_n 1, 1) := by decide +kernel
theorem dX11_digest_17 : decode cX11_digest 17 = .ok (.invokevirtual 459, 3) := by decide +kernel
theorem dX11_digest_20 : decode cX11_digest 20 = .ok (.iconst 0, 1) := by decide +kernel
theorem dX11_digest_21 : decode cX11_digest 21 = .ok (.istore_n 2, 1) := by decide +kernel
theorem dX11_digest_22 : decode cX11_digest 22 = .ok (.iconst 0, 1) := by decide +kernel
theorem dX11_digest_23 : decode cX11_digest 23 = .ok (.istore_n 3, 1) := by decide +kernel
theorem dX11_digest_24 : decode cX11_digest 24 = .ok (.iload_n 3, 1) := by decide +kernel
theorem dX11_digest_25 : decode cX11_digest 25 = .ok (.aload_n 0, 1) := by decide +kernel
theorem dX11_digest_26 : decode cX11_digest 26 = .ok (.getfield 435, 3) := by decide +kernel
theorem dX11_digest_29 : decode cX11_digest 29 = .ok (.if_icmp .ge 25, 3) := by decide +kernel
theorem dX11_digest_32 : decode cX11_digest 32 = .ok (.bipush 31, 2) := by decide +kernel
theorem dX11_digest_34 : decode cX11_digest 34 = .ok (.iload_n 2, 1) := by decide +kernel
theorem dX11_digest_35 : decode cX11_digest 35 = .ok (.imul, 1) := by decide +kernel
theorem dX11_digest_36 : decode cX11_digest 36 = .ok (.aload_n 0, 1) := by decide +kernel
theorem dX11_digest_37 : decode cX11_digest 37 = .ok (.getfield 107, 3) := by decide +kernel
theorem dX11_digest_40 : decode cX11_digest 40 = .ok (.iload_n 3, 1) := by decide +kernel
theorem dX11_digest_41 : decode cX11_digest 41 = .ok (.baload, 1) := by decide +kernel
theorem dX11_digest_42 : decode cX11_digest 42 = .ok (.iadd, 1) := by decide +kernel
theorem dX11_digest_43 : decode cX11_digest 43 = .ok (.ldc_w 465, 3) := by decide +kernel
theorem dX11_digest_46 : decode cX11_digest 46 = .ok (.irem, 1) := by decide +kernel
theorem dX11_digest_47 : decode cX11_digest 47 = .ok (.istore_n 2, 1) := by decide +kernel
theorem dX11_digest_48 : decode cX11_digest 48 = .ok (.iinc 3 1, 3) := by decide +kernel
theorem dX11_digest_51 : decode cX11_digest 51 = .ok (.goto (-27), 3) := by decide +kernel
theorem dX11_digest_54 : decode cX11_digest 54 = .ok (.iload_n 2, 1) := by decide +kernel
theorem dX11_digest_55 : decode cX11_digest 55 = .ok (.ireturn, 1) := by decide +kernel
theorem dX11_status_0 : decode cX11_status 0 = .ok (.aload_n 0, 1) := by decide +kernel
theorem dX11_status_1 : decode cX11_status 1 = .ok (.iconst 0, 1) := by decide +kernel
theorem dX11_status_2 : decode cX11_status 2 = .ok (.putfield 116, 3) := by decide +kernel
theorem dX11_status_5 : decode cX11_status 5 = .ok (.iload_n 1, 1) := by decide +kernel
theorem dX11_status_6 : decode cX11_status 6 = .ok (.i2l, 1) := by decide +kernel
theorem dX11_status_7 : decode cX11_status 7 = .ok (.lconst 0, 1) := by decide +kernel
theorem dX11_status_8 : decode cX11_status 8 = .ok (.ldc2_w 466, 3) := by decide +kernel
theorem dX11_status_11 : decode cX11_status 11 = .ok (.invokestatic 174, 3) := by decide +kernel
theorem dX11_status_14 : decode cX11_status 14 = .ok (.ifCond .eq 12, 3) := by decide +kernel
theorem dX11_status_17 : decode cX11_status 17 = .ok (.aload_n 0, 1) := by decide +kernel
theorem dX11_status_18 : decode cX11_status 18 = .ok (.getfield 85, 3) := by decide +kernel
theorem dX11_status_21 : decode cX11_status 21 = .ok (.iload_n 1, 1) := by decide +kernel
theorem dX11_status_22 : decode cX11_status 22 = .ok (.iaload, 1) := by decide +kernel
theorem dX11_status_23 : decode cX11_status 23 = .ok (.goto 4, 3) := by decide +kernel
theorem dX11_status_26 : decode cX11_status 26 = .ok (.iconst (-1), 1) := by decide +kernel
theorem dX11_status_27 : decode cX11_status 27 = .ok (.ireturn, 1) := by decide +kernel
theorem dX11_image_0 : decode cX11_image 0 = .ok (.aload_n 0, 1) := by decide +kernel
theorem dX11_image_1 : decode cX11_image 1 = .ok (.iconst 0, 1) := by decide +kernel
theorem dX11_image_2 : decode cX11_image 2 = .ok (.putfield 116, 3) := by decide +kernel
theorem dX11_image_5 : decode cX11_image 5 = .ok (.iconst 0, 1) := by decide +kernel
theorem dX11_image_6 : decode cX11_image 6 = .ok (.istore_n 1, 1) := by decide +kernel
theorem dX11_image_7 : decode cX11_image 7 = .ok (.iload_n 1, 1) := by decide +kernel
theorem dX11_image_8 : decode cX11_image 8 = .ok (.aload_n 0, 1) := by decide +kernel
theorem dX11_image_9 : decode cX11_image 9 = .ok (.getfield 261, 3) := by decide +kernel
theorem dX11_image_12 : decode cX11_image 12 = .ok (.if_icmp .ge 21, 3) := by decide +kernel
theorem dX11_image_15 : decode cX11_image 15 = .ok (.aload_n 0, 1) := by decide +kernel
theorem dX11_image_16 : decode cX11_image 16 = .ok (.getfield 92, 3) := by decide +kernel
theorem dX11_image_19 : decode cX11_image 19 = .ok (.iload_n 1, 1) := by decide +kernel
theorem dX11_image_20 : decode cX11_image 20 = .ok (.aload_n 0, 1) := by decide +kernel
theorem dX11_image_21 : decode cX11_image 21 = .ok (.getfield 88, 3) := by decide +kernel
theorem dX11_image_24 : decode cX11_image 24 = .ok (.iload_n 1, 1) := by decide +kernel
theorem dX11_image_25 : decode cX11_image 25 = .ok (.baload, 1) := by decide +kernel
theorem dX11_image_26 : decode cX11_image 26 = .ok (.bastore, 1) := by decide +kernel
theorem dX11_image_27 : decode cX11_image 27 = .ok (.iinc 1 1, 3) := by decide +kernel
theorem dX11_image_30 : decode cX11_image 30 = .ok (.goto (-23), 3) := by decide +kernel
theorem dX11_image_33 : decode cX11_image 33 = .ok (.aload_n 0, 1) := by decide +kernel
theorem dX11_image_34 : decode cX11_image 34 = .ok (.iconst 1, 1) := by decide +kernel
theorem dX11_image_35 : decode cX11_image 35 = .ok (.putfield 264, 3) := by decide +kernel
theorem dX11_image_38 : decode cX11_image 38 = .ok (.aload_n 0, 1) := by decide +kernel
theorem dX11_image_39 : decode cX11_image 39 = .ok (.getfield 275, 3) := by decide +kernel
theorem dX11_image_42 : decode cX11_image 42 = .ok (.ireturn, 1) := by decide +kernel
theorem dX11_back_0 : decode cX11_back 0 = .ok (.aload_n 0, 1) := by decide +kernel
theorem dX11_back_1 : decode cX11_back 1 = .ok (.iconst 0, 1) := by decide +kernel
theorem dX11_back_2 : decode cX11_back 2 = .ok (.putfield 116, 3) := by decide +kernel
theorem dX11_back_5 : decode cX11_back 5 = .ok (.aload_n 0, 1) := by decide +kernel
theorem dX11_back_6 : decode cX11_back 6 = .ok (.getfield 264, 3) := by decide +kernel
theorem dX11_back_9 : decode cX11_back 9 = .ok (.ifCond .ne 5, 3) := by decide +kernel
theorem dX11_back_12 : decode cX11_back 12 = .ok (.iconst (-1), 1) := by decide +kernel
theorem dX11_back_13 : decode cX11_back 13 = .ok (.ireturn, 1) := by decide +kernel
theorem dX11_back_14 : decode cX11_back 14 = .ok (.aload_n 0, 1) := by decide +kernel
theorem dX11_back_15 : decode cX11_back 15 = .ok (.iconst 0, 1) := by decide +kernel
theorem dX11_back_16 : decode cX11_back 16 = .ok (.putfield 275, 3) := by decide +kernel
theorem dX11_back_19 : decode cX11_back 19 = .ok (.iconst 0, 1) := by decide +kernel
theorem dX11_back_20 : decode cX11_back 20 = .ok (.istore_n 1, 1) := by decide +kernel
theorem dX11_back_21 : decode cX11_back 21 = .ok (.iload_n 1, 1) := by decide +kernel
theorem dX11_back_22 : decode cX11_back 22 = .ok (.aload_n 0, 1) := by decide +kernel
theorem dX11_back_23 : decode cX11_back 23 = .ok (.getfield 261, 3) := by decide +kernel
theorem dX11_back_26 : decode cX11_back 26 = .ok (.if_icmp .ge 44, 3) := by decide +kernel
theorem dX11_back_29 : decode cX11_back 29 = .ok (.aload_n 0, 1) := by decide +kernel
theorem dX11_back_30 : decode cX11_back 30 = .ok (.getfield 88, 3) := by decide +kernel
theorem dX11_back_33 : decode cX11_back 33 = .ok (.iload_n 1, 1) := by decide +kernel
theorem dX11_back_34 : decode cX11_back 34 = .ok (.aload_n 0, 1) := by decide +kernel
theorem dX11_back_35 : decode cX11_back 35 = .ok (.getfield 92, 3) := by decide +kernel
theorem dX11_back_38 : decode cX11_back 38 = .ok (.iload_n 1, 1) := by decide +kernel
theorem dX11_back_39 : decode cX11_back 39 = .ok (.baload, 1) := by decide +kernel
theorem dX11_back_40 : decode cX11_back 40 = .ok (.bastore, 1) := by decide +kernel
theorem dX11_back_41 : decode cX11_back 41 = .ok (.aload_n 0, 1) := by decide +kernel
theorem dX11_back_42 : decode cX11_back 42 = .ok (.dup, 1) := by decide +kernel
theorem dX11_back_43 : decode cX11_back 43 = .ok (.getfield 275, 3) := by decide +kernel
theorem dX11_back_46 : decode cX11_back 46 = .ok (.aload_n 0, 1) := by decide +kernel
theorem dX11_back_47 : decode cX11_back 47 = .ok (.getfield 88, 3) := by decide +kernel
theorem dX11_back_50 : decode cX11_back 50 = .ok (.iload_n 1, 1) := by decide +kernel
theorem dX11_back_51 : decode cX11_back 51 = .ok (.baload, 1) := by decide +kernel
theorem dX11_back_52 : decode cX11_back 52 = .ok (.ifCond .eq 7, 3) := by decide +kernel
theorem dX11_back_55 : decode cX11_back 55 = .ok (.iconst 1, 1) := by decide +kernel
theorem dX11_back_56 : decode cX11_back 56 = .ok (.goto 4, 3) := by decide +kernel
theorem dX11_back_59 : decode cX11_back 59 = .ok (.iconst 0, 1) := by decide +kernel
theorem dX11_back_60 : decode cX11_back 60 = .ok (.iadd, 1) := by decide +kernel
theorem dX11_back_61 : decode cX11_back 61 = .ok (.putfield 275, 3) := by decide +kernel
theorem dX11_back_64 : decode cX11_back 64 = .ok (.iinc 1 1, 3) := by decide +kernel
theorem dX11_back_67 : decode cX11_back 67 = .ok (.goto (-46), 3) := by decide +kernel
theorem dX11_back_70 : decode cX11_back 70 = .ok (.aload_n 0, 1) := by decide +kernel
theorem dX11_back_71 : decode cX11_back 71 = .ok (.iconst 0, 1) := by decide +kernel
theorem dX11_back_72 : decode cX11_back 72 = .ok (.putfield 268, 3) := by decide +kernel
theorem dX11_back_75 : decode cX11_back 75 = .ok (.aload_n 0, 1) := by decide +kernel
theorem dX11_back_76 : decode cX11_back 76 = .ok (.getfield 275, 3) := by decide +kernel
theorem dX11_back_79 : decode cX11_back 79 = .ok (.ireturn, 1) := by decide +kernel
theorem dX11_live_0 : decode cX11_live 0 = .ok (.aload_n 0, 1) := by decide +kernel
theorem dX11_live_1 : decode cX11_live 1 = .ok (.dup, 1) := by decide +kernel
theorem dX11_live_2 : decode cX11_live 2 = .ok (.getfield 255, 3) := by decide +kernel
theorem dX11_live_5 : decode cX11_live 5 = .ok (.iconst 1, 1) := by decide +kernel
theorem dX11_live_6 : decode cX11_live 6 = .ok (.iadd, 1) := by decide +kernel
theorem dX11_live_7 : decode cX11_live 7 = .ok (.putfield 255, 3) := by decide +kernel
theorem dX11_live_10 : decode cX11_live 10 = .ok (.iconst 0, 1) := by decide +kernel
theorem dX11_live_11 : decode cX11_live 11 = .ok (.istore_n 1, 1) := by decide +kernel
theorem dX11_live_12 : decode cX11_live 12 = .ok (.iconst 0, 1) := by decide +kernel
theorem dX11_live_13 : decode cX11_live 13 = .ok (.istore_n 2, 1) := by decide +kernel
theorem dX11_live_14 : decode cX11_live 14 = .ok (.iload_n 2, 1) := by decide +kernel
theorem dX11_live_15 : decode cX11_live 15 = .ok (.aload_n 0, 1) := by decide +kernel
theorem dX11_live_16 : decode cX11_live 16 = .ok (.getfield 261, 3) := by decide +kernel
theorem dX11_live_19 : decode cX11_live 19 = .ok (.if_icmp .ge 31, 3) := by decide +kernel
theorem dX11_live_22 : decode cX11_live 22 = .ok (.aload_n 0, 1) := by decide +kernel
theorem dX11_live_23 : decode cX11_live 23 = .ok (.getfield 88, 3) := by decide +kernel
theorem dX11_live_26 : decode cX11_live 26 = .ok (.iload_n 2, 1) := by decide +kernel
theorem dX11_live_27 : decode cX11_live 27 = .ok (.baload, 1) := by decide +kernel
theorem dX11_live_28 : decode cX11_live 28 = .ok (.ifCond .eq 16, 3) := by decide +kernel
theorem dX11_live_31 : decode cX11_live 31 = .ok (.iload_n 1, 1) := by decide +kernel
theorem dX11_live_32 : decode cX11_live 32 = .ok (.aload_n 0, 1) := by decide +kernel
theorem dX11_live_33 : decode cX11_live 33 = .ok (.aload_n 0, 1) := by decide +kernel
theorem dX11_live_34 : decode cX11_live 34 = .ok (.getfield 67, 3) := by decide +kernel
theorem dX11_live_37 : decode cX11_live 37 = .ok (.iload_n 2, 1) := by decide +kernel
theorem dX11_live_38 : decode cX11_live 38 = .ok (.iaload, 1) := by decide +kernel
theorem dX11_live_39 : decode cX11_live 39 = .ok (.invokevirtual 258, 3) := by decide +kernel
theorem dX11_live_42 : decode cX11_live 42 = .ok (.iadd, 1) := by decide +kernel
theorem dX11_live_43 : decode cX11_live 43 = .ok (.istore_n 1, 1) := by decide +kernel
theorem dX11_live_44 : decode cX11_live 44 = .ok (.iinc 2 1, 3) := by decide +kernel
theorem dX11_live_47 : decode cX11_live 47 = .ok (.goto (-33), 3) := by decide +kernel
theorem dX11_live_50 : decode cX11_live 50 = .ok (.iconst 0, 1) := by decide +kernel
theorem dX11_live_51 : decode cX11_live 51 = .ok (.istore_n 2, 1) := by decide +kernel
theorem dX11_live_52 : decode cX11_live 52 = .ok (.iload_n 2, 1) := by decide +kernel
theorem dX11_live_53 : decode cX11_live 53 = .ok (.iconst 4, 1) := by decide +kernel
theorem dX11_live_54 : decode cX11_live 54 = .ok (.if_icmp .ge 33, 3) := by decide +kernel
theorem dX11_live_57 : decode cX11_live 57 = .ok (.aload_n 0, 1) := by decide +kernel
theorem dX11_live_58 : decode cX11_live 58 = .ok (.getfield 268, 3) := by decide +kernel
theorem dX11_live_61 : decode cX11_live 61 = .ok (.iload_n 2, 1) := by decide +kernel
theorem dX11_live_62 : decode cX11_live 62 = .ok (.invokestatic 271, 3) := by decide +kernel
theorem dX11_live_65 : decode cX11_live 65 = .ok (.ifCond .eq 16, 3) := by decide +kernel
theorem dX11_live_68 : decode cX11_live 68 = .ok (.iload_n 1, 1) := by decide +kernel
theorem dX11_live_69 : decode cX11_live 69 = .ok (.aload_n 0, 1) := by decide +kernel
theorem dX11_live_70 : decode cX11_live 70 = .ok (.aload_n 0, 1) := by decide +kernel
theorem dX11_live_71 : decode cX11_live 71 = .ok (.getfield 76, 3) := by decide +kernel
theorem dX11_live_74 : decode cX11_live 74 = .ok (.iload_n 2, 1) := by decide +kernel
theorem dX11_live_75 : decode cX11_live 75 = .ok (.iaload, 1) := by decide +kernel
theorem dX11_live_76 : decode cX11_live 76 = .ok (.invokevirtual 258, 3) := by decide +kernel
theorem dX11_live_79 : decode cX11_live 79 = .ok (.iadd, 1) := by decide +kernel
theorem dX11_live_80 : decode cX11_live 80 = .ok (.istore_n 1, 1) := by decide +kernel
theorem dX11_live_81 : decode cX11_live 81 = .ok (.iinc 2 1, 3) := by decide +kernel
theorem dX11_live_84 : decode cX11_live 84 = .ok (.goto (-32), 3) := by decide +kernel
theorem dX11_live_87 : decode cX11_live 87 = .ok (.iload_n 1, 1) := by decide +kernel
theorem dX11_live_88 : decode cX11_live 88 = .ok (.ireturn, 1) := by decide +kernel
theorem dX11_count_0 : decode cX11_count 0 = .ok (.aload_n 0, 1) := by decide +kernel
theorem dX11_count_1 : decode cX11_count 1 = .ok (.iconst 0, 1) := by decide +kernel
theorem dX11_count_2 : decode cX11_count 2 = .ok (.putfield 116, 3) := by decide +kernel
theorem dX11_count_5 : decode cX11_count 5 = .ok (.iload_n 1, 1) := by decide +kernel
theorem dX11_count_6 : decode cX11_count 6 = .ok (.tableswitch 86 0 7 #[46, 51, 56, 61, 66, 71, 76, 81], 46) := by decide +kernel
theorem dX11_count_52 : decode cX11_count 52 = .ok (.aload_n 0, 1) := by decide +kernel
theorem dX11_count_53 : decode cX11_count 53 = .ok (.getfield 45, 3) := by decide +kernel
theorem dX11_count_56 : decode cX11_count 56 = .ok (.ireturn, 1) := by decide +kernel
theorem dX11_count_57 : decode cX11_count 57 = .ok (.aload_n 0, 1) := by decide +kernel
theorem dX11_count_58 : decode cX11_count 58 = .ok (.getfield 275, 3) := by decide +kernel
theorem dX11_count_61 : decode cX11_count 61 = .ok (.ireturn, 1) := by decide +kernel
theorem dX11_count_62 : decode cX11_count 62 = .ok (.aload_n 0, 1) := by decide +kernel
theorem dX11_count_63 : decode cX11_count 63 = .ok (.getfield 261, 3) := by decide +kernel
theorem dX11_count_66 : decode cX11_count 66 = .ok (.ireturn, 1) := by decide +kernel
theorem dX11_count_67 : decode cX11_count 67 = .ok (.aload_n 0, 1) := by decide +kernel
theorem dX11_count_68 : decode cX11_count 68 = .ok (.getfield 190, 3) := by decide +kernel
theorem dX11_count_71 : decode cX11_count 71 = .ok (.ireturn, 1) := by decide +kernel
theorem dX11_count_72 : decode cX11_count 72 = .ok (.aload_n 0, 1) := by decide +kernel
theorem dX11_count_73 : decode cX11_count 73 = .ok (.invokevirtual 468, 3) := by decide +kernel
theorem dX11_count_76 : decode cX11_count 76 = .ok (.ireturn, 1) := by decide +kernel
theorem dX11_count_77 : decode cX11_count 77 = .ok (.aload_n 0, 1) := by decide +kernel
theorem dX11_count_78 : decode cX11_count 78 = .ok (.getfield 286, 3) := by decide +kernel
theorem dX11_count_81 : decode cX11_count 81 = .ok (.ireturn, 1) := by decide +kernel
theorem dX11_count_82 : decode cX11_count 82 = .ok (.aload_n 0, 1) := by decide +kernel
theorem dX11_count_83 : decode cX11_count 83 = .ok (.getfield 119, 3) := by decide +kernel
theorem dX11_count_86 : decode cX11_count 86 = .ok (.ireturn, 1) := by decide +kernel
theorem dX11_count_87 : decode cX11_count 87 = .ok (.aload_n 0, 1) := by decide +kernel
theorem dX11_count_88 : decode cX11_count 88 = .ok (.getfield 268, 3) := by decide +kernel
theorem dX11_count_91 : decode cX11_count 91 = .ok (.ireturn, 1) := by decide +kernel
theorem dX11_count_92 : decode cX11_count 92 = .ok (.ldc 170, 2) := by decide +kernel
theorem dX11_count_94 : decode cX11_count 94 = .ok (.ireturn, 1) := by decide +kernel
