theorem d_ST_init_0 : decode b_ST_init 0 = .ok (.aload_n 0, 1) := by decide +kernel
theorem d_ST_init_1 : decode b_ST_init 1 = .ok (.invokespecial 1, 3) := by decide +kernel
theorem d_ST_init_4 : decode b_ST_init 4 = .ok (.aload_n 0, 1) := by decide +kernel
theorem d_ST_init_5 : decode b_ST_init 5 = .ok (.new 7, 3) := by decide +kernel
theorem d_ST_init_8 : decode b_ST_init 8 = .ok (.dup, 1) := by decide +kernel
theorem d_ST_init_9 : decode b_ST_init 9 = .ok (.invokespecial 9, 3) := by decide +kernel
theorem d_ST_init_12 : decode b_ST_init 12 = .ok (.putfield 10, 3) := by decide +kernel
theorem d_ST_init_15 : decode b_ST_init 15 = .ok (.aload_n 0, 1) := by decide +kernel
theorem d_ST_init_16 : decode b_ST_init 16 = .ok (.new 7, 3) := by decide +kernel
theorem d_ST_init_19 : decode b_ST_init 19 = .ok (.dup, 1) := by decide +kernel
theorem d_ST_init_20 : decode b_ST_init 20 = .ok (.invokespecial 9, 3) := by decide +kernel
theorem d_ST_init_23 : decode b_ST_init 23 = .ok (.putfield 16, 3) := by decide +kernel
theorem d_ST_init_26 : decode b_ST_init 26 = .ok (.aload_n 0, 1) := by decide +kernel
theorem d_ST_init_27 : decode b_ST_init 27 = .ok (.new 7, 3) := by decide +kernel
theorem d_ST_init_30 : decode b_ST_init 30 = .ok (.dup, 1) := by decide +kernel
theorem d_ST_init_31 : decode b_ST_init 31 = .ok (.invokespecial 9, 3) := by decide +kernel
theorem d_ST_init_34 : decode b_ST_init 34 = .ok (.putfield 19, 3) := by decide +kernel
theorem d_ST_init_37 : decode b_ST_init 37 = .ok (.aload_n 0, 1) := by decide +kernel
theorem d_ST_init_38 : decode b_ST_init 38 = .ok (.new 22, 3) := by decide +kernel
theorem d_ST_init_41 : decode b_ST_init 41 = .ok (.dup, 1) := by decide +kernel
theorem d_ST_init_42 : decode b_ST_init 42 = .ok (.invokespecial 24, 3) := by decide +kernel
theorem d_ST_init_45 : decode b_ST_init 45 = .ok (.putfield 25, 3) := by decide +kernel
theorem d_ST_init_48 : decode b_ST_init 48 = .ok (.aload_n 0, 1) := by decide +kernel
theorem d_ST_init_49 : decode b_ST_init 49 = .ok (.new 22, 3) := by decide +kernel
theorem d_ST_init_52 : decode b_ST_init 52 = .ok (.dup, 1) := by decide +kernel
theorem d_ST_init_53 : decode b_ST_init 53 = .ok (.invokespecial 24, 3) := by decide +kernel
theorem d_ST_init_56 : decode b_ST_init 56 = .ok (.putfield 29, 3) := by decide +kernel
theorem d_ST_init_59 : decode b_ST_init 59 = .ok (.aload_n 0, 1) := by decide +kernel
theorem d_ST_init_60 : decode b_ST_init 60 = .ok (.new 22, 3) := by decide +kernel
theorem d_ST_init_63 : decode b_ST_init 63 = .ok (.dup, 1) := by decide +kernel
theorem d_ST_init_64 : decode b_ST_init 64 = .ok (.invokespecial 24, 3) := by decide +kernel
theorem d_ST_init_67 : decode b_ST_init 67 = .ok (.putfield 32, 3) := by decide +kernel
theorem d_ST_init_70 : decode b_ST_init 70 = .ok (.aload_n 0, 1) := by decide +kernel
theorem d_ST_init_71 : decode b_ST_init 71 = .ok (.new 35, 3) := by decide +kernel
theorem d_ST_init_74 : decode b_ST_init 74 = .ok (.dup, 1) := by decide +kernel
theorem d_ST_init_75 : decode b_ST_init 75 = .ok (.invokespecial 37, 3) := by decide +kernel
theorem d_ST_init_78 : decode b_ST_init 78 = .ok (.putfield 38, 3) := by decide +kernel
theorem d_ST_init_81 : decode b_ST_init 81 = .ok (.aload_n 0, 1) := by decide +kernel
theorem d_ST_init_82 : decode b_ST_init 82 = .ok (.iconst 1, 1) := by decide +kernel
theorem d_ST_init_83 : decode b_ST_init 83 = .ok (.iload_n 1, 1) := by decide +kernel
theorem d_ST_init_84 : decode b_ST_init 84 = .ok (.ldc 42, 2) := by decide +kernel
theorem d_ST_init_86 : decode b_ST_init 86 = .ok (.invokestatic 43, 3) := by decide +kernel
theorem d_ST_init_89 : decode b_ST_init 89 = .ok (.invokestatic 49, 3) := by decide +kernel
theorem d_ST_init_92 : decode b_ST_init 92 = .ok (.putfield 52, 3) := by decide +kernel
theorem d_ST_init_95 : decode b_ST_init 95 = .ok (.return_, 1) := by decide +kernel
theorem d_Fl_init_0 : decode b_Fl_init 0 = .ok (.aload_n 0, 1) := by decide +kernel
theorem d_Fl_init_1 : decode b_Fl_init 1 = .ok (.invokespecial 3, 3) := by decide +kernel
theorem d_Fl_init_4 : decode b_Fl_init 4 = .ok (.aload_n 0, 1) := by decide +kernel
theorem d_Fl_init_5 : decode b_Fl_init 5 = .ok (.sipush 3000, 3) := by decide +kernel
theorem d_Fl_init_8 : decode b_Fl_init 8 = .ok (.anewarray 9, 3) := by decide +kernel
theorem d_Fl_init_11 : decode b_Fl_init 11 = .ok (.putfield 11, 3) := by decide +kernel
theorem d_Fl_init_14 : decode b_Fl_init 14 = .ok (.aload_n 0, 1) := by decide +kernel
theorem d_Fl_init_15 : decode b_Fl_init 15 = .ok (.sipush 3000, 3) := by decide +kernel
theorem d_Fl_init_18 : decode b_Fl_init 18 = .ok (.newarray .int, 2) := by decide +kernel
theorem d_Fl_init_20 : decode b_Fl_init 20 = .ok (.putfield 17, 3) := by decide +kernel
theorem d_Fl_init_23 : decode b_Fl_init 23 = .ok (.aload_n 0, 1) := by decide +kernel
theorem d_Fl_init_24 : decode b_Fl_init 24 = .ok (.sipush 3000, 3) := by decide +kernel
theorem d_Fl_init_27 : decode b_Fl_init 27 = .ok (.newarray .int, 2) := by decide +kernel
theorem d_Fl_init_29 : decode b_Fl_init 29 = .ok (.putfield 21, 3) := by decide +kernel
theorem d_Fl_init_32 : decode b_Fl_init 32 = .ok (.aload_n 0, 1) := by decide +kernel
theorem d_Fl_init_33 : decode b_Fl_init 33 = .ok (.sipush 3000, 3) := by decide +kernel
theorem d_Fl_init_36 : decode b_Fl_init 36 = .ok (.newarray .long, 2) := by decide +kernel
theorem d_Fl_init_38 : decode b_Fl_init 38 = .ok (.putfield 24, 3) := by decide +kernel
theorem d_Fl_init_41 : decode b_Fl_init 41 = .ok (.aload_n 0, 1) := by decide +kernel
theorem d_Fl_init_42 : decode b_Fl_init 42 = .ok (.sipush 3000, 3) := by decide +kernel
theorem d_Fl_init_45 : decode b_Fl_init 45 = .ok (.newarray .long, 2) := by decide +kernel
theorem d_Fl_init_47 : decode b_Fl_init 47 = .ok (.putfield 28, 3) := by decide +kernel
theorem d_Fl_init_50 : decode b_Fl_init 50 = .ok (.aload_n 0, 1) := by decide +kernel
theorem d_Fl_init_51 : decode b_Fl_init 51 = .ok (.sipush 3000, 3) := by decide +kernel
theorem d_Fl_init_54 : decode b_Fl_init 54 = .ok (.newarray .int, 2) := by decide +kernel
theorem d_Fl_init_56 : decode b_Fl_init 56 = .ok (.putfield 31, 3) := by decide +kernel
theorem d_Fl_init_59 : decode b_Fl_init 59 = .ok (.aload_n 0, 1) := by decide +kernel
theorem d_Fl_init_60 : decode b_Fl_init 60 = .ok (.sipush 3000, 3) := by decide +kernel
theorem d_Fl_init_63 : decode b_Fl_init 63 = .ok (.newarray .int, 2) := by decide +kernel
theorem d_Fl_init_65 : decode b_Fl_init 65 = .ok (.putfield 34, 3) := by decide +kernel
theorem d_Fl_init_68 : decode b_Fl_init 68 = .ok (.return_, 1) := by decide +kernel
theorem d_Bx_init_0 : decode b_Bx_init 0 = .ok (.aload_n 0, 1) := by decide +kernel
theorem d_Bx_init_1 : decode b_Bx_init 1 = .ok (.invokespecial 1, 3) := by decide +kernel
theorem d_Bx_init_4 : decode b_Bx_init 4 = .ok (.aload_n 0, 1) := by decide +kernel
theorem d_Bx_init_5 : decode b_Bx_init 5 = .ok (.iconst 1, 1) := by decide +kernel
theorem d_Bx_init_6 : decode b_Bx_init 6 = .ok (.putfield 7, 3) := by decide +kernel
theorem d_Bx_init_9 : decode b_Bx_init 9 = .ok (.return_, 1) := by decide +kernel
theorem d_ST_cell_0 : decode b_ST_cell 0 = .ok (.aload_n 0, 1) := by decide +kernel
theorem d_ST_cell_1 : decode b_ST_cell 1 = .ok (.getfield 10, 3) := by decide +kernel
theorem d_ST_cell_4 : decode b_ST_cell 4 = .ok (.invokevirtual 56, 3) := by decide +kernel
theorem d_ST_cell_7 : decode b_ST_cell 7 = .ok (.bipush 20, 2) := by decide +kernel
theorem d_ST_cell_9 : decode b_ST_cell 9 = .ok (.if_icmp .lt 13, 3) := by decide +kernel
theorem d_ST_cell_12 : decode b_ST_cell 12 = .ok (.new 60, 3) := by decide +kernel
theorem d_ST_cell_15 : decode b_ST_cell 15 = .ok (.dup, 1) := by decide +kernel
theorem d_ST_cell_16 : decode b_ST_cell 16 = .ok (.ldc 62, 2) := by decide +kernel
theorem d_ST_cell_18 : decode b_ST_cell 18 = .ok (.invokespecial 64, 3) := by decide +kernel
theorem d_ST_cell_21 : decode b_ST_cell 21 = .ok (.athrow, 1) := by decide +kernel
theorem d_ST_cell_22 : decode b_ST_cell 22 = .ok (.aload_n 0, 1) := by decide +kernel
theorem d_ST_cell_23 : decode b_ST_cell 23 = .ok (.getfield 10, 3) := by decide +kernel
theorem d_ST_cell_26 : decode b_ST_cell 26 = .ok (.new 67, 3) := by decide +kernel
theorem d_ST_cell_29 : decode b_ST_cell 29 = .ok (.dup, 1) := by decide +kernel
theorem d_ST_cell_30 : decode b_ST_cell 30 = .ok (.invokespecial 69, 3) := by decide +kernel
theorem d_ST_cell_33 : decode b_ST_cell 33 = .ok (.invokevirtual 70, 3) := by decide +kernel
theorem d_ST_cell_36 : decode b_ST_cell 36 = .ok (.pop, 1) := by decide +kernel
theorem d_ST_cell_37 : decode b_ST_cell 37 = .ok (.aload_n 0, 1) := by decide +kernel
theorem d_ST_cell_38 : decode b_ST_cell 38 = .ok (.getfield 10, 3) := by decide +kernel
theorem d_ST_cell_41 : decode b_ST_cell 41 = .ok (.invokevirtual 56, 3) := by decide +kernel
theorem d_ST_cell_44 : decode b_ST_cell 44 = .ok (.iconst 1, 1) := by decide +kernel
theorem d_ST_cell_45 : decode b_ST_cell 45 = .ok (.isub, 1) := by decide +kernel
theorem d_ST_cell_46 : decode b_ST_cell 46 = .ok (.ireturn, 1) := by decide +kernel
theorem d_Cl_init_0 : decode b_Cl_init 0 = .ok (.aload_n 0, 1) := by decide +kernel
theorem d_Cl_init_1 : decode b_Cl_init 1 = .ok (.invokespecial 3, 3) := by decide +kernel
theorem d_Cl_init_4 : decode b_Cl_init 4 = .ok (.aload_n 0, 1) := by decide +kernel
theorem d_Cl_init_5 : decode b_Cl_init 5 = .ok (.new 9, 3) := by decide +kernel
theorem d_Cl_init_8 : decode b_Cl_init 8 = .ok (.dup, 1) := by decide +kernel
theorem d_Cl_init_9 : decode b_Cl_init 9 = .ok (.invokespecial 11, 3) := by decide +kernel
theorem d_Cl_init_12 : decode b_Cl_init 12 = .ok (.putfield 12, 3) := by decide +kernel
theorem d_Cl_init_15 : decode b_Cl_init 15 = .ok (.aload_n 0, 1) := by decide +kernel
theorem d_Cl_init_16 : decode b_Cl_init 16 = .ok (.new 9, 3) := by decide +kernel
theorem d_Cl_init_19 : decode b_Cl_init 19 = .ok (.dup, 1) := by decide +kernel
theorem d_Cl_init_20 : decode b_Cl_init 20 = .ok (.invokespecial 11, 3) := by decide +kernel
theorem d_Cl_init_23 : decode b_Cl_init 23 = .ok (.putfield 18, 3) := by decide +kernel
theorem d_Cl_init_26 : decode b_Cl_init 26 = .ok (.aload_n 0, 1) := by decide +kernel
theorem d_Cl_init_27 : decode b_Cl_init 27 = .ok (.new 21, 3) := by decide +kernel
theorem d_Cl_init_30 : decode b_Cl_init 30 = .ok (.dup, 1) := by decide +kernel
theorem d_Cl_init_31 : decode b_Cl_init 31 = .ok (.invokespecial 23, 3) := by decide +kernel
theorem d_Cl_init_34 : decode b_Cl_init 34 = .ok (.putfield 24, 3) := by decide +kernel
theorem d_Cl_init_37 : decode b_Cl_init 37 = .ok (.return_, 1) := by decide +kernel
theorem d_ST_polygon_0 : decode b_ST_polygon 0 = .ok (.aload_n 0, 1) := by decide +kernel
theorem d_ST_polygon_1 : decode b_ST_polygon 1 = .ok (.iload_n 1, 1) := by decide +kernel
theorem d_ST_polygon_2 : decode b_ST_polygon 2 = .ok (.invokevirtual 74, 3) := by decide +kernel
theorem d_ST_polygon_5 : decode b_ST_polygon 5 = .ok (.astore_n 3, 1) := by decide +kernel
theorem d_ST_polygon_6 : decode b_ST_polygon 6 = .ok (.aload_n 0, 1) := by decide +kernel
theorem d_ST_polygon_7 : decode b_ST_polygon 7 = .ok (.iload_n 2, 1) := by decide +kernel
theorem d_ST_polygon_8 : decode b_ST_polygon 8 = .ok (.invokevirtual 78, 3) := by decide +kernel
theorem d_ST_polygon_11 : decode b_ST_polygon 11 = .ok (.aload_n 0, 1) := by decide +kernel
theorem d_ST_polygon_12 : decode b_ST_polygon 12 = .ok (.invokevirtual 82, 3) := by decide +kernel
theorem d_ST_polygon_15 : decode b_ST_polygon 15 = .ok (.aload_n 0, 1) := by decide +kernel
theorem d_ST_polygon_16 : decode b_ST_polygon 16 = .ok (.aload_n 3, 1) := by decide +kernel
theorem d_ST_polygon_17 : decode b_ST_polygon 17 = .ok (.new 85, 3) := by decide +kernel
theorem d_ST_polygon_20 : decode b_ST_polygon 20 = .ok (.dup, 1) := by decide +kernel
theorem d_ST_polygon_21 : decode b_ST_polygon 21 = .ok (.iload_n 2, 1) := by decide +kernel
theorem d_ST_polygon_22 : decode b_ST_polygon 22 = .ok (.lconst 0, 1) := by decide +kernel
theorem d_ST_polygon_23 : decode b_ST_polygon 23 = .ok (.iconst 0, 1) := by decide +kernel
theorem d_ST_polygon_24 : decode b_ST_polygon 24 = .ok (.invokespecial 87, 3) := by decide +kernel
theorem d_ST_polygon_27 : decode b_ST_polygon 27 = .ok (.invokevirtual 90, 3) := by decide +kernel
theorem d_ST_polygon_30 : decode b_ST_polygon 30 = .ok (.ireturn, 1) := by decide +kernel
theorem d_ST_knownCell_0 : decode b_ST_knownCell 0 = .ok (.iload_n 1, 1) := by decide +kernel
theorem d_ST_knownCell_1 : decode b_ST_knownCell 1 = .ok (.ifCond .lt 14, 3) := by decide +kernel
theorem d_ST_knownCell_4 : decode b_ST_knownCell 4 = .ok (.iload_n 1, 1) := by decide +kernel
theorem d_ST_knownCell_5 : decode b_ST_knownCell 5 = .ok (.aload_n 0, 1) := by decide +kernel
theorem d_ST_knownCell_6 : decode b_ST_knownCell 6 = .ok (.getfield 10, 3) := by decide +kernel
theorem d_ST_knownCell_9 : decode b_ST_knownCell 9 = .ok (.invokevirtual 56, 3) := by decide +kernel
theorem d_ST_knownCell_12 : decode b_ST_knownCell 12 = .ok (.if_icmp .lt 13, 3) := by decide +kernel
theorem d_ST_knownCell_15 : decode b_ST_knownCell 15 = .ok (.new 131, 3) := by decide +kernel
theorem d_ST_knownCell_18 : decode b_ST_knownCell 18 = .ok (.dup, 1) := by decide +kernel
theorem d_ST_knownCell_19 : decode b_ST_knownCell 19 = .ok (.ldc 244, 2) := by decide +kernel
theorem d_ST_knownCell_21 : decode b_ST_knownCell 21 = .ok (.invokespecial 135, 3) := by decide +kernel
theorem d_ST_knownCell_24 : decode b_ST_knownCell 24 = .ok (.athrow, 1) := by decide +kernel
theorem d_ST_knownCell_25 : decode b_ST_knownCell 25 = .ok (.aload_n 0, 1) := by decide +kernel
theorem d_ST_knownCell_26 : decode b_ST_knownCell 26 = .ok (.getfield 10, 3) := by decide +kernel
theorem d_ST_knownCell_29 : decode b_ST_knownCell 29 = .ok (.iload_n 1, 1) := by decide +kernel
theorem d_ST_knownCell_30 : decode b_ST_knownCell 30 = .ok (.invokevirtual 138, 3) := by decide +kernel
theorem d_ST_knownCell_33 : decode b_ST_knownCell 33 = .ok (.checkcast 67, 3) := by decide +kernel
theorem d_ST_knownCell_36 : decode b_ST_knownCell 36 = .ok (.areturn, 1) := by decide +kernel
theorem d_ST_checkLayer_0 : decode b_ST_checkLayer 0 = .ok (.iload_n 1, 1) := by decide +kernel
theorem d_ST_checkLayer_1 : decode b_ST_checkLayer 1 = .ok (.ifCond .lt 11, 3) := by decide +kernel
theorem d_ST_checkLayer_4 : decode b_ST_checkLayer 4 = .ok (.iload_n 1, 1) := by decide +kernel
theorem d_ST_checkLayer_5 : decode b_ST_checkLayer 5 = .ok (.aload_n 0, 1) := by decide +kernel
theorem d_ST_checkLayer_6 : decode b_ST_checkLayer 6 = .ok (.getfield 52, 3) := by decide +kernel
theorem d_ST_checkLayer_9 : decode b_ST_checkLayer 9 = .ok (.if_icmp .lt 13, 3) := by decide +kernel
theorem d_ST_checkLayer_12 : decode b_ST_checkLayer 12 = .ok (.new 131, 3) := by decide +kernel
theorem d_ST_checkLayer_15 : decode b_ST_checkLayer 15 = .ok (.dup, 1) := by decide +kernel
theorem d_ST_checkLayer_16 : decode b_ST_checkLayer 16 = .ok (.ldc 254, 2) := by decide +kernel
theorem d_ST_checkLayer_18 : decode b_ST_checkLayer 18 = .ok (.invokespecial 135, 3) := by decide +kernel
theorem d_ST_checkLayer_21 : decode b_ST_checkLayer 21 = .ok (.athrow, 1) := by decide +kernel
theorem d_ST_checkLayer_22 : decode b_ST_checkLayer 22 = .ok (.return_, 1) := by decide +kernel
theorem d_ST_checkShapesLeft_0 : decode b_ST_checkShapesLeft 0 = .ok (.aload_n 0, 1) := by decide +kernel
theorem d_ST_checkShapesLeft_1 : decode b_ST_checkShapesLeft 1 = .ok (.getfield 16, 3) := by decide +kernel
theorem d_ST_checkShapesLeft_4 : decode b_ST_checkShapesLeft 4 = .ok (.invokevirtual 56, 3) := by decide +kernel
theorem d_ST_checkShapesLeft_7 : decode b_ST_checkShapesLeft 7 = .ok (.bipush 120, 2) := by decide +kernel
theorem d_ST_checkShapesLeft_9 : decode b_ST_checkShapesLeft 9 = .ok (.if_icmp .lt 14, 3) := by decide +kernel
theorem d_ST_checkShapesLeft_12 : decode b_ST_checkShapesLeft 12 = .ok (.new 60, 3) := by decide +kernel
theorem d_ST_checkShapesLeft_15 : decode b_ST_checkShapesLeft 15 = .ok (.dup, 1) := by decide +kernel
theorem d_ST_checkShapesLeft_16 : decode b_ST_checkShapesLeft 16 = .ok (.ldc_w 256, 3) := by decide +kernel
theorem d_ST_checkShapesLeft_19 : decode b_ST_checkShapesLeft 19 = .ok (.invokespecial 64, 3) := by decide +kernel
theorem d_ST_checkShapesLeft_22 : decode b_ST_checkShapesLeft 22 = .ok (.athrow, 1) := by decide +kernel
theorem d_ST_checkShapesLeft_23 : decode b_ST_checkShapesLeft 23 = .ok (.return_, 1) := by decide +kernel
theorem d_Sh_init_0 : decode b_Sh_init 0 = .ok (.aload_n 0, 1) := by decide +kernel
theorem d_Sh_init_1 : decode b_Sh_init 1 = .ok (.invokespecial 3, 3) := by decide +kernel
theorem d_Sh_init_4 : decode b_Sh_init 4 = .ok (.aload_n 0, 1) := by decide +kernel
theorem d_Sh_init_5 : decode b_Sh_init 5 = .ok (.bipush 24, 2) := by decide +kernel
theorem d_Sh_init_7 : decode b_Sh_init 7 = .ok (.newarray .long, 2) := by decide +kernel
theorem d_Sh_init_9 : decode b_Sh_init 9 = .ok (.putfield 9, 3) := by decide +kernel
theorem d_Sh_init_12 : decode b_Sh_init 12 = .ok (.aload_n 0, 1) := by decide +kernel
theorem d_Sh_init_13 : decode b_Sh_init 13 = .ok (.bipush 24, 2) := by decide +kernel
theorem d_Sh_init_15 : decode b_Sh_init 15 = .ok (.newarray .long, 2) := by decide +kernel
theorem d_Sh_init_17 : decode b_Sh_init 17 = .ok (.putfield 15, 3) := by decide +kernel
theorem d_Sh_init_20 : decode b_Sh_init 20 = .ok (.aload_n 0, 1) := by decide +kernel
theorem d_Sh_init_21 : decode b_Sh_init 21 = .ok (.new 18, 3) := by decide +kernel
theorem d_Sh_init_24 : decode b_Sh_init 24 = .ok (.dup, 1) := by decide +kernel
theorem d_Sh_init_25 : decode b_Sh_init 25 = .ok (.invokespecial 20, 3) := by decide +kernel
theorem d_Sh_init_28 : decode b_Sh_init 28 = .ok (.putfield 21, 3) := by decide +kernel
theorem d_Sh_init_31 : decode b_Sh_init 31 = .ok (.aload_n 0, 1) := by decide +kernel
theorem d_Sh_init_32 : decode b_Sh_init 32 = .ok (.bipush 8, 2) := by decide +kernel
theorem d_Sh_init_34 : decode b_Sh_init 34 = .ok (.newarray .int, 2) := by decide +kernel
theorem d_Sh_init_36 : decode b_Sh_init 36 = .ok (.putfield 25, 3) := by decide +kernel
theorem d_Sh_init_39 : decode b_Sh_init 39 = .ok (.aload_n 0, 1) := by decide +kernel
theorem d_Sh_init_40 : decode b_Sh_init 40 = .ok (.bipush 8, 2) := by decide +kernel
theorem d_Sh_init_42 : decode b_Sh_init 42 = .ok (.newarray .int, 2) := by decide +kernel
theorem d_Sh_init_44 : decode b_Sh_init 44 = .ok (.putfield 29, 3) := by decide +kernel
theorem d_Sh_init_47 : decode b_Sh_init 47 = .ok (.aload_n 0, 1) := by decide +kernel
theorem d_Sh_init_48 : decode b_Sh_init 48 = .ok (.iload_n 1, 1) := by decide +kernel
theorem d_Sh_init_49 : decode b_Sh_init 49 = .ok (.putfield 32, 3) := by decide +kernel
theorem d_Sh_init_52 : decode b_Sh_init 52 = .ok (.aload_n 0, 1) := by decide +kernel
theorem d_Sh_init_53 : decode b_Sh_init 53 = .ok (.lload_n 2, 1) := by decide +kernel
theorem d_Sh_init_54 : decode b_Sh_init 54 = .ok (.putfield 36, 3) := by decide +kernel
theorem d_Sh_init_57 : decode b_Sh_init 57 = .ok (.aload_n 0, 1) := by decide +kernel
theorem d_Sh_init_58 : decode b_Sh_init 58 = .ok (.iload 4, 2) := by decide +kernel
theorem d_Sh_init_60 : decode b_Sh_init 60 = .ok (.putfield 40, 3) := by decide +kernel
theorem d_Sh_init_63 : decode b_Sh_init 63 = .ok (.return_, 1) := by decide +kernel
theorem d_ST_keepShape_0 : decode b_ST_keepShape 0 = .ok (.aload_n 0, 1) := by decide +kernel
theorem d_ST_keepShape_1 : decode b_ST_keepShape 1 = .ok (.getfield 16, 3) := by decide +kernel
theorem d_ST_keepShape_4 : decode b_ST_keepShape 4 = .ok (.aload_n 2, 1) := by decide +kernel
theorem d_ST_keepShape_5 : decode b_ST_keepShape 5 = .ok (.invokevirtual 70, 3) := by decide +kernel
theorem d_ST_keepShape_8 : decode b_ST_keepShape 8 = .ok (.pop, 1) := by decide +kernel
theorem d_ST_keepShape_9 : decode b_ST_keepShape 9 = .ok (.aload_n 1, 1) := by decide +kernel
theorem d_ST_keepShape_10 : decode b_ST_keepShape 10 = .ok (.getfield 269, 3) := by decide +kernel
theorem d_ST_keepShape_13 : decode b_ST_keepShape 13 = .ok (.aload_n 2, 1) := by decide +kernel
theorem d_ST_keepShape_14 : decode b_ST_keepShape 14 = .ok (.invokevirtual 70, 3) := by decide +kernel
theorem d_ST_keepShape_17 : decode b_ST_keepShape 17 = .ok (.pop, 1) := by decide +kernel
theorem d_ST_keepShape_18 : decode b_ST_keepShape 18 = .ok (.aload_n 0, 1) := by decide +kernel
theorem d_ST_keepShape_19 : decode b_ST_keepShape 19 = .ok (.getfield 16, 3) := by decide +kernel
theorem d_ST_keepShape_22 : decode b_ST_keepShape 22 = .ok (.invokevirtual 56, 3) := by decide +kernel
theorem d_ST_keepShape_25 : decode b_ST_keepShape 25 = .ok (.iconst 1, 1) := by decide +kernel
theorem d_ST_keepShape_26 : decode b_ST_keepShape 26 = .ok (.isub, 1) := by decide +kernel
theorem d_ST_keepShape_27 : decode b_ST_keepShape 27 = .ok (.ireturn, 1) := by decide +kernel
theorem d_ST_corner_0 : decode b_ST_corner 0 = .ok (.aload_n 0, 1) := by decide +kernel
theorem d_ST_corner_1 : decode b_ST_corner 1 = .ok (.iload_n 1, 1) := by decide +kernel
theorem d_ST_corner_2 : decode b_ST_corner 2 = .ok (.iconst 0, 1) := by decide +kernel
theorem d_ST_corner_3 : decode b_ST_corner 3 = .ok (.invokevirtual 94, 3) := by decide +kernel
theorem d_ST_corner_6 : decode b_ST_corner 6 = .ok (.lload_n 2, 1) := by decide +kernel
theorem d_ST_corner_7 : decode b_ST_corner 7 = .ok (.lload 4, 2) := by decide +kernel
theorem d_ST_corner_9 : decode b_ST_corner 9 = .ok (.invokestatic 98, 3) := by decide +kernel
theorem d_ST_corner_12 : decode b_ST_corner 12 = .ok (.ireturn, 1) := by decide +kernel
theorem d_ST_openShape_0 : decode b_ST_openShape 0 = .ok (.aload_n 0, 1) := by decide +kernel
theorem d_ST_openShape_1 : decode b_ST_openShape 1 = .ok (.iload_n 1, 1) := by decide +kernel
theorem d_ST_openShape_2 : decode b_ST_openShape 2 = .ok (.invokevirtual 236, 3) := by decide +kernel
theorem d_ST_openShape_5 : decode b_ST_openShape 5 = .ok (.astore_n 3, 1) := by decide +kernel
theorem d_ST_openShape_6 : decode b_ST_openShape 6 = .ok (.aload_n 3, 1) := by decide +kernel
theorem d_ST_openShape_7 : decode b_ST_openShape 7 = .ok (.getfield 240, 3) := by decide +kernel
theorem d_ST_openShape_10 : decode b_ST_openShape 10 = .ok (.ifCond .ne 11, 3) := by decide +kernel
theorem d_ST_openShape_13 : decode b_ST_openShape 13 = .ok (.aload_n 3, 1) := by decide +kernel
theorem d_ST_openShape_14 : decode b_ST_openShape 14 = .ok (.invokevirtual 248, 3) := by decide +kernel
theorem d_ST_openShape_17 : decode b_ST_openShape 17 = .ok (.iload_n 2, 1) := by decide +kernel
theorem d_ST_openShape_18 : decode b_ST_openShape 18 = .ok (.if_icmp .eq 13, 3) := by decide +kernel
theorem d_ST_openShape_21 : decode b_ST_openShape 21 = .ok (.new 131, 3) := by decide +kernel
theorem d_ST_openShape_24 : decode b_ST_openShape 24 = .ok (.dup, 1) := by decide +kernel
theorem d_ST_openShape_25 : decode b_ST_openShape 25 = .ok (.ldc 252, 2) := by decide +kernel
theorem d_ST_openShape_27 : decode b_ST_openShape 27 = .ok (.invokespecial 135, 3) := by decide +kernel
theorem d_ST_openShape_30 : decode b_ST_openShape 30 = .ok (.athrow, 1) := by decide +kernel
theorem d_ST_openShape_31 : decode b_ST_openShape 31 = .ok (.aload_n 3, 1) := by decide +kernel
theorem d_ST_openShape_32 : decode b_ST_openShape 32 = .ok (.areturn, 1) := by decide +kernel
theorem d_ST_knownShape_0 : decode b_ST_knownShape 0 = .ok (.iload_n 1, 1) := by decide +kernel
theorem d_ST_knownShape_1 : decode b_ST_knownShape 1 = .ok (.ifCond .lt 14, 3) := by decide +kernel
theorem d_ST_knownShape_4 : decode b_ST_knownShape 4 = .ok (.iload_n 1, 1) := by decide +kernel
theorem d_ST_knownShape_5 : decode b_ST_knownShape 5 = .ok (.aload_n 0, 1) := by decide +kernel
theorem d_ST_knownShape_6 : decode b_ST_knownShape 6 = .ok (.getfield 16, 3) := by decide +kernel
theorem d_ST_knownShape_9 : decode b_ST_knownShape 9 = .ok (.invokevirtual 56, 3) := by decide +kernel
theorem d_ST_knownShape_12 : decode b_ST_knownShape 12 = .ok (.if_icmp .lt 13, 3) := by decide +kernel
theorem d_ST_knownShape_15 : decode b_ST_knownShape 15 = .ok (.new 131, 3) := by decide +kernel
theorem d_ST_knownShape_18 : decode b_ST_knownShape 18 = .ok (.dup, 1) := by decide +kernel
theorem d_ST_knownShape_19 : decode b_ST_knownShape 19 = .ok (.ldc 246, 2) := by decide +kernel
theorem d_ST_knownShape_21 : decode b_ST_knownShape 21 = .ok (.invokespecial 135, 3) := by decide +kernel
theorem d_ST_knownShape_24 : decode b_ST_knownShape 24 = .ok (.athrow, 1) := by decide +kernel
theorem d_ST_knownShape_25 : decode b_ST_knownShape 25 = .ok (.aload_n 0, 1) := by decide +kernel
theorem d_ST_knownShape_26 : decode b_ST_knownShape 26 = .ok (.getfield 16, 3) := by decide +kernel
theorem d_ST_knownShape_29 : decode b_ST_knownShape 29 = .ok (.iload_n 1, 1) := by decide +kernel
theorem d_ST_knownShape_30 : decode b_ST_knownShape 30 = .ok (.invokevirtual 138, 3) := by decide +kernel
theorem d_ST_knownShape_33 : decode b_ST_knownShape 33 = .ok (.checkcast 85, 3) := by decide +kernel
theorem d_ST_knownShape_36 : decode b_ST_knownShape 36 = .ok (.areturn, 1) := by decide +kernel
theorem d_Sh_isPath_0 : decode b_Sh_isPath 0 = .ok (.aload_n 0, 1) := by decide +kernel
theorem d_Sh_isPath_1 : decode b_Sh_isPath 1 = .ok (.getfield 36, 3) := by decide +kernel
theorem d_Sh_isPath_4 : decode b_Sh_isPath 4 = .ok (.lconst 0, 1) := by decide +kernel
theorem d_Sh_isPath_5 : decode b_Sh_isPath 5 = .ok (.lcmp, 1) := by decide +kernel
theorem d_Sh_isPath_6 : decode b_Sh_isPath 6 = .ok (.ifCond .le 7, 3) := by decide +kernel
theorem d_Sh_isPath_9 : decode b_Sh_isPath 9 = .ok (.iconst 1, 1) := by decide +kernel
theorem d_Sh_isPath_10 : decode b_Sh_isPath 10 = .ok (.goto 4, 3) := by decide +kernel
theorem d_Sh_isPath_13 : decode b_Sh_isPath 13 = .ok (.iconst 0, 1) := by decide +kernel
theorem d_Sh_isPath_14 : decode b_Sh_isPath 14 = .ok (.ireturn, 1) := by decide +kernel
theorem d_ST_extend_0 : decode b_ST_extend 0 = .ok (.aload_n 0, 1) := by decide +kernel
theorem d_ST_extend_1 : decode b_ST_extend 1 = .ok (.getfield 270, 3) := by decide +kernel
theorem d_ST_extend_4 : decode b_ST_extend 4 = .ok (.bipush 24, 2) := by decide +kernel
theorem d_ST_extend_6 : decode b_ST_extend 6 = .ok (.if_icmp .lt 14, 3) := by decide +kernel
theorem d_ST_extend_9 : decode b_ST_extend 9 = .ok (.new 60, 3) := by decide +kernel
theorem d_ST_extend_12 : decode b_ST_extend 12 = .ok (.dup, 1) := by decide +kernel
theorem d_ST_extend_13 : decode b_ST_extend 13 = .ok (.ldc_w 271, 3) := by decide +kernel
theorem d_ST_extend_16 : decode b_ST_extend 16 = .ok (.invokespecial 64, 3) := by decide +kernel
theorem d_ST_extend_19 : decode b_ST_extend 19 = .ok (.athrow, 1) := by decide +kernel
theorem d_ST_extend_20 : decode b_ST_extend 20 = .ok (.lload_n 1, 1) := by decide +kernel
theorem d_ST_extend_21 : decode b_ST_extend 21 = .ok (.invokestatic 115, 3) := by decide +kernel
theorem d_ST_extend_24 : decode b_ST_extend 24 = .ok (.lload_n 3, 1) := by decide +kernel
theorem d_ST_extend_25 : decode b_ST_extend 25 = .ok (.invokestatic 115, 3) := by decide +kernel
theorem d_ST_extend_28 : decode b_ST_extend 28 = .ok (.aload_n 0, 1) := by decide +kernel
theorem d_ST_extend_29 : decode b_ST_extend 29 = .ok (.lload_n 1, 1) := by decide +kernel
theorem d_ST_extend_30 : decode b_ST_extend 30 = .ok (.lload_n 3, 1) := by decide +kernel
theorem d_ST_extend_31 : decode b_ST_extend 31 = .ok (.invokevirtual 273, 3) := by decide +kernel
theorem d_ST_extend_34 : decode b_ST_extend 34 = .ok (.ifCond .ne 5, 3) := by decide +kernel
theorem d_ST_extend_37 : decode b_ST_extend 37 = .ok (.iconst 0, 1) := by decide +kernel
theorem d_ST_extend_38 : decode b_ST_extend 38 = .ok (.ireturn, 1) := by decide +kernel
theorem d_ST_extend_39 : decode b_ST_extend 39 = .ok (.aload_n 0, 1) := by decide +kernel
theorem d_ST_extend_40 : decode b_ST_extend 40 = .ok (.lload_n 1, 1) := by decide +kernel
theorem d_ST_extend_41 : decode b_ST_extend 41 = .ok (.lload_n 3, 1) := by decide +kernel
theorem d_ST_extend_42 : decode b_ST_extend 42 = .ok (.invokevirtual 277, 3) := by decide +kernel
theorem d_ST_extend_45 : decode b_ST_extend 45 = .ok (.iconst 1, 1) := by decide +kernel
theorem d_ST_extend_46 : decode b_ST_extend 46 = .ok (.ireturn, 1) := by decide +kernel
theorem d_ST_checkNear_0 : decode b_ST_checkNear 0 = .ok (.lload_n 0, 1) := by decide +kernel
theorem d_ST_checkNear_1 : decode b_ST_checkNear 1 = .ok (.ldc2_w 258, 3) := by decide +kernel
theorem d_ST_checkNear_4 : decode b_ST_checkNear 4 = .ok (.lcmp, 1) := by decide +kernel
theorem d_ST_checkNear_5 : decode b_ST_checkNear 5 = .ok (.ifCond .lt 11, 3) := by decide +kernel
theorem d_ST_checkNear_8 : decode b_ST_checkNear 8 = .ok (.lload_n 0, 1) := by decide +kernel
theorem d_ST_checkNear_9 : decode b_ST_checkNear 9 = .ok (.ldc2_w 260, 3) := by decide +kernel
theorem d_ST_checkNear_12 : decode b_ST_checkNear 12 = .ok (.lcmp, 1) := by decide +kernel
theorem d_ST_checkNear_13 : decode b_ST_checkNear 13 = .ok (.ifCond .le 14, 3) := by decide +kernel
theorem d_ST_checkNear_16 : decode b_ST_checkNear 16 = .ok (.new 106, 3) := by decide +kernel
theorem d_ST_checkNear_19 : decode b_ST_checkNear 19 = .ok (.dup, 1) := by decide +kernel
theorem d_ST_checkNear_20 : decode b_ST_checkNear 20 = .ok (.ldc_w 262, 3) := by decide +kernel
theorem d_ST_checkNear_23 : decode b_ST_checkNear 23 = .ok (.invokespecial 110, 3) := by decide +kernel
theorem d_ST_checkNear_26 : decode b_ST_checkNear 26 = .ok (.athrow, 1) := by decide +kernel
theorem d_ST_checkNear_27 : decode b_ST_checkNear 27 = .ok (.return_, 1) := by decide +kernel
theorem d_Sh_takes_0 : decode b_Sh_takes 0 = .ok (.aload_n 0, 1) := by decide +kernel
theorem d_Sh_takes_1 : decode b_Sh_takes 1 = .ok (.getfield 43, 3) := by decide +kernel
theorem d_Sh_takes_4 : decode b_Sh_takes 4 = .ok (.iconst 1, 1) := by decide +kernel
theorem d_Sh_takes_5 : decode b_Sh_takes 5 = .ok (.isub, 1) := by decide +kernel
theorem d_Sh_takes_6 : decode b_Sh_takes 6 = .ok (.istore 5, 2) := by decide +kernel
theorem d_Sh_takes_8 : decode b_Sh_takes 8 = .ok (.iload 5, 2) := by decide +kernel
theorem d_Sh_takes_10 : decode b_Sh_takes 10 = .ok (.ifCond .ge 5, 3) := by decide +kernel
theorem d_Sh_takes_13 : decode b_Sh_takes 13 = .ok (.iconst 1, 1) := by decide +kernel
theorem d_Sh_takes_14 : decode b_Sh_takes 14 = .ok (.ireturn, 1) := by decide +kernel
theorem d_Sh_takes_15 : decode b_Sh_takes 15 = .ok (.aload_n 0, 1) := by decide +kernel
theorem d_Sh_takes_16 : decode b_Sh_takes 16 = .ok (.getfield 9, 3) := by decide +kernel
theorem d_Sh_takes_19 : decode b_Sh_takes 19 = .ok (.iload 5, 2) := by decide +kernel
theorem d_Sh_takes_21 : decode b_Sh_takes 21 = .ok (.laload, 1) := by decide +kernel
theorem d_Sh_takes_22 : decode b_Sh_takes 22 = .ok (.lload_n 1, 1) := by decide +kernel
theorem d_Sh_takes_23 : decode b_Sh_takes 23 = .ok (.lcmp, 1) := by decide +kernel
theorem d_Sh_takes_24 : decode b_Sh_takes 24 = .ok (.ifCond .eq 7, 3) := by decide +kernel
theorem d_Sh_takes_27 : decode b_Sh_takes 27 = .ok (.iconst 1, 1) := by decide +kernel
theorem d_Sh_takes_28 : decode b_Sh_takes 28 = .ok (.goto 4, 3) := by decide +kernel
theorem d_Sh_takes_31 : decode b_Sh_takes 31 = .ok (.iconst 0, 1) := by decide +kernel
theorem d_Sh_takes_32 : decode b_Sh_takes 32 = .ok (.istore 6, 2) := by decide +kernel
theorem d_Sh_takes_34 : decode b_Sh_takes 34 = .ok (.aload_n 0, 1) := by decide +kernel
theorem d_Sh_takes_35 : decode b_Sh_takes 35 = .ok (.getfield 15, 3) := by decide +kernel
theorem d_Sh_takes_38 : decode b_Sh_takes 38 = .ok (.iload 5, 2) := by decide +kernel
theorem d_Sh_takes_40 : decode b_Sh_takes 40 = .ok (.laload, 1) := by decide +kernel
theorem d_Sh_takes_41 : decode b_Sh_takes 41 = .ok (.lload_n 3, 1) := by decide +kernel
theorem d_Sh_takes_42 : decode b_Sh_takes 42 = .ok (.lcmp, 1) := by decide +kernel
theorem d_Sh_takes_43 : decode b_Sh_takes 43 = .ok (.ifCond .eq 7, 3) := by decide +kernel
theorem d_Sh_takes_46 : decode b_Sh_takes 46 = .ok (.iconst 1, 1) := by decide +kernel
theorem d_Sh_takes_47 : decode b_Sh_takes 47 = .ok (.goto 4, 3) := by decide +kernel
theorem d_Sh_takes_50 : decode b_Sh_takes 50 = .ok (.iconst 0, 1) := by decide +kernel
theorem d_Sh_takes_51 : decode b_Sh_takes 51 = .ok (.istore 7, 2) := by decide +kernel
theorem d_Sh_takes_53 : decode b_Sh_takes 53 = .ok (.aload_n 0, 1) := by decide +kernel
theorem d_Sh_takes_54 : decode b_Sh_takes 54 = .ok (.invokevirtual 46, 3) := by decide +kernel
theorem d_Sh_takes_57 : decode b_Sh_takes 57 = .ok (.ifCond .eq 18, 3) := by decide +kernel
theorem d_Sh_takes_60 : decode b_Sh_takes 60 = .ok (.iload 6, 2) := by decide +kernel
theorem d_Sh_takes_62 : decode b_Sh_takes 62 = .ok (.iload 7, 2) := by decide +kernel
theorem d_Sh_takes_64 : decode b_Sh_takes 64 = .ok (.if_icmp .eq 7, 3) := by decide +kernel
theorem d_Sh_takes_67 : decode b_Sh_takes 67 = .ok (.iconst 1, 1) := by decide +kernel
theorem d_Sh_takes_68 : decode b_Sh_takes 68 = .ok (.goto 22, 3) := by decide +kernel
theorem d_Sh_takes_71 : decode b_Sh_takes 71 = .ok (.iconst 0, 1) := by decide +kernel
theorem d_Sh_takes_72 : decode b_Sh_takes 72 = .ok (.goto 18, 3) := by decide +kernel
theorem d_Sh_takes_75 : decode b_Sh_takes 75 = .ok (.iload 6, 2) := by decide +kernel
theorem d_Sh_takes_77 : decode b_Sh_takes 77 = .ok (.ifCond .ne 8, 3) := by decide +kernel
theorem d_Sh_takes_80 : decode b_Sh_takes 80 = .ok (.iload 7, 2) := by decide +kernel
theorem d_Sh_takes_82 : decode b_Sh_takes 82 = .ok (.ifCond .eq 7, 3) := by decide +kernel
theorem d_Sh_takes_85 : decode b_Sh_takes 85 = .ok (.iconst 1, 1) := by decide +kernel
theorem d_Sh_takes_86 : decode b_Sh_takes 86 = .ok (.goto 4, 3) := by decide +kernel
theorem d_Sh_takes_89 : decode b_Sh_takes 89 = .ok (.iconst 0, 1) := by decide +kernel
theorem d_Sh_takes_90 : decode b_Sh_takes 90 = .ok (.ireturn, 1) := by decide +kernel
theorem d_Sh_add_0 : decode b_Sh_add 0 = .ok (.aload_n 0, 1) := by decide +kernel
theorem d_Sh_add_1 : decode b_Sh_add 1 = .ok (.getfield 43, 3) := by decide +kernel
theorem d_Sh_add_4 : decode b_Sh_add 4 = .ok (.bipush 24, 2) := by decide +kernel
theorem d_Sh_add_6 : decode b_Sh_add 6 = .ok (.if_icmp .lt 4, 3) := by decide +kernel
theorem d_Sh_add_9 : decode b_Sh_add 9 = .ok (.return_, 1) := by decide +kernel
theorem d_Sh_add_10 : decode b_Sh_add 10 = .ok (.aload_n 0, 1) := by decide +kernel
theorem d_Sh_add_11 : decode b_Sh_add 11 = .ok (.getfield 9, 3) := by decide +kernel
theorem d_Sh_add_14 : decode b_Sh_add 14 = .ok (.aload_n 0, 1) := by decide +kernel
theorem d_Sh_add_15 : decode b_Sh_add 15 = .ok (.getfield 43, 3) := by decide +kernel
theorem d_Sh_add_18 : decode b_Sh_add 18 = .ok (.lload_n 1, 1) := by decide +kernel
theorem d_Sh_add_19 : decode b_Sh_add 19 = .ok (.lastore, 1) := by decide +kernel
theorem d_Sh_add_20 : decode b_Sh_add 20 = .ok (.aload_n 0, 1) := by decide +kernel
theorem d_Sh_add_21 : decode b_Sh_add 21 = .ok (.getfield 15, 3) := by decide +kernel
theorem d_Sh_add_24 : decode b_Sh_add 24 = .ok (.aload_n 0, 1) := by decide +kernel
theorem d_Sh_add_25 : decode b_Sh_add 25 = .ok (.getfield 43, 3) := by decide +kernel
theorem d_Sh_add_28 : decode b_Sh_add 28 = .ok (.lload_n 3, 1) := by decide +kernel
theorem d_Sh_add_29 : decode b_Sh_add 29 = .ok (.lastore, 1) := by decide +kernel
theorem d_Sh_add_30 : decode b_Sh_add 30 = .ok (.aload_n 0, 1) := by decide +kernel
theorem d_Sh_add_31 : decode b_Sh_add 31 = .ok (.dup, 1) := by decide +kernel
theorem d_Sh_add_32 : decode b_Sh_add 32 = .ok (.getfield 43, 3) := by decide +kernel
theorem d_Sh_add_35 : decode b_Sh_add 35 = .ok (.iconst 1, 1) := by decide +kernel
theorem d_Sh_add_36 : decode b_Sh_add 36 = .ok (.iadd, 1) := by decide +kernel
theorem d_Sh_add_37 : decode b_Sh_add 37 = .ok (.putfield 43, 3) := by decide +kernel
theorem d_Sh_add_40 : decode b_Sh_add 40 = .ok (.aload_n 0, 1) := by decide +kernel
theorem d_Sh_add_41 : decode b_Sh_add 41 = .ok (.getfield 29, 3) := by decide +kernel
theorem d_Sh_add_44 : decode b_Sh_add 44 = .ok (.iconst 0, 1) := by decide +kernel
theorem d_Sh_add_45 : decode b_Sh_add 45 = .ok (.invokestatic 54, 3) := by decide +kernel
theorem d_Sh_add_48 : decode b_Sh_add 48 = .ok (.aload_n 0, 1) := by decide +kernel
theorem d_Sh_add_49 : decode b_Sh_add 49 = .ok (.invokevirtual 46, 3) := by decide +kernel
theorem d_Sh_add_52 : decode b_Sh_add 52 = .ok (.ifCond .eq 10, 3) := by decide +kernel
theorem d_Sh_add_55 : decode b_Sh_add 55 = .ok (.aload_n 0, 1) := by decide +kernel
theorem d_Sh_add_56 : decode b_Sh_add 56 = .ok (.invokevirtual 60, 3) := by decide +kernel
theorem d_Sh_add_59 : decode b_Sh_add 59 = .ok (.goto 14, 3) := by decide +kernel
theorem d_Sh_add_62 : decode b_Sh_add 62 = .ok (.aload_n 0, 1) := by decide +kernel
theorem d_Sh_add_63 : decode b_Sh_add 63 = .ok (.getfield 21, 3) := by decide +kernel
theorem d_Sh_add_66 : decode b_Sh_add 66 = .ok (.lload_n 1, 1) := by decide +kernel
theorem d_Sh_add_67 : decode b_Sh_add 67 = .ok (.lload_n 3, 1) := by decide +kernel
theorem d_Sh_add_68 : decode b_Sh_add 68 = .ok (.lload_n 1, 1) := by decide +kernel
theorem d_Sh_add_69 : decode b_Sh_add 69 = .ok (.lload_n 3, 1) := by decide +kernel
theorem d_Sh_add_70 : decode b_Sh_add 70 = .ok (.invokevirtual 63, 3) := by decide +kernel
theorem d_Sh_add_73 : decode b_Sh_add 73 = .ok (.return_, 1) := by decide +kernel
theorem d_Sh_measurePieces_0 : decode b_Sh_measurePieces 0 = .ok (.aload_n 0, 1) := by decide +kernel
theorem d_Sh_measurePieces_1 : decode b_Sh_measurePieces 1 = .ok (.getfield 21, 3) := by decide +kernel
theorem d_Sh_measurePieces_4 : decode b_Sh_measurePieces 4 = .ok (.invokevirtual 67, 3) := by decide +kernel
theorem d_Sh_measurePieces_7 : decode b_Sh_measurePieces 7 = .ok (.iconst 1, 1) := by decide +kernel
theorem d_Sh_measurePieces_8 : decode b_Sh_measurePieces 8 = .ok (.istore_n 1, 1) := by decide +kernel
theorem d_Sh_measurePieces_9 : decode b_Sh_measurePieces 9 = .ok (.iload_n 1, 1) := by decide +kernel
theorem d_Sh_measurePieces_10 : decode b_Sh_measurePieces 10 = .ok (.aload_n 0, 1) := by decide +kernel
theorem d_Sh_measurePieces_11 : decode b_Sh_measurePieces 11 = .ok (.getfield 43, 3) := by decide +kernel
theorem d_Sh_measurePieces_14 : decode b_Sh_measurePieces 14 = .ok (.if_icmp .ge 14, 3) := by decide +kernel
theorem d_Sh_measurePieces_17 : decode b_Sh_measurePieces 17 = .ok (.aload_n 0, 1) := by decide +kernel
theorem d_Sh_measurePieces_18 : decode b_Sh_measurePieces 18 = .ok (.iload_n 1, 1) := by decide +kernel
theorem d_Sh_measurePieces_19 : decode b_Sh_measurePieces 19 = .ok (.invokevirtual 70, 3) := by decide +kernel
theorem d_Sh_measurePieces_22 : decode b_Sh_measurePieces 22 = .ok (.iinc 1 1, 3) := by decide +kernel
theorem d_Sh_measurePieces_25 : decode b_Sh_measurePieces 25 = .ok (.goto (-16), 3) := by decide +kernel
theorem d_Sh_measurePieces_28 : decode b_Sh_measurePieces 28 = .ok (.return_, 1) := by decide +kernel
theorem d_Bx_clear_0 : decode b_Bx_clear 0 = .ok (.aload_n 0, 1) := by decide +kernel
theorem d_Bx_clear_1 : decode b_Bx_clear 1 = .ok (.iconst 1, 1) := by decide +kernel
theorem d_Bx_clear_2 : decode b_Bx_clear 2 = .ok (.putfield 7, 3) := by decide +kernel
theorem d_Bx_clear_5 : decode b_Bx_clear 5 = .ok (.return_, 1) := by decide +kernel
theorem d_Sh_holdPiece_0 : decode b_Sh_holdPiece 0 = .ok (.aload_n 0, 1) := by decide +kernel
theorem d_Sh_holdPiece_1 : decode b_Sh_holdPiece 1 = .ok (.getfield 36, 3) := by decide +kernel
theorem d_Sh_holdPiece_4 : decode b_Sh_holdPiece 4 = .ok (.ldc2_w 74, 3) := by decide +kernel
theorem d_Sh_holdPiece_7 : decode b_Sh_holdPiece 7 = .ok (.ldiv, 1) := by decide +kernel
theorem d_Sh_holdPiece_8 : decode b_Sh_holdPiece 8 = .ok (.lstore_n 2, 1) := by decide +kernel
theorem d_Sh_holdPiece_9 : decode b_Sh_holdPiece 9 = .ok (.aload_n 0, 1) := by decide +kernel
theorem d_Sh_holdPiece_10 : decode b_Sh_holdPiece 10 = .ok (.getfield 40, 3) := by decide +kernel
theorem d_Sh_holdPiece_13 : decode b_Sh_holdPiece 13 = .ok (.iconst 1, 1) := by decide +kernel
theorem d_Sh_holdPiece_14 : decode b_Sh_holdPiece 14 = .ok (.if_icmp .ne 12, 3) := by decide +kernel
theorem d_Sh_holdPiece_17 : decode b_Sh_holdPiece 17 = .ok (.iload_n 1, 1) := by decide +kernel
theorem d_Sh_holdPiece_18 : decode b_Sh_holdPiece 18 = .ok (.iconst 1, 1) := by decide +kernel
theorem d_Sh_holdPiece_19 : decode b_Sh_holdPiece 19 = .ok (.if_icmp .ne 7, 3) := by decide +kernel
theorem d_Sh_holdPiece_22 : decode b_Sh_holdPiece 22 = .ok (.lload_n 2, 1) := by decide +kernel
theorem d_Sh_holdPiece_23 : decode b_Sh_holdPiece 23 = .ok (.goto 4, 3) := by decide +kernel
theorem d_Sh_holdPiece_26 : decode b_Sh_holdPiece 26 = .ok (.lconst 0, 1) := by decide +kernel
theorem d_Sh_holdPiece_27 : decode b_Sh_holdPiece 27 = .ok (.lstore 4, 2) := by decide +kernel
theorem d_Sh_holdPiece_29 : decode b_Sh_holdPiece 29 = .ok (.aload_n 0, 1) := by decide +kernel
theorem d_Sh_holdPiece_30 : decode b_Sh_holdPiece 30 = .ok (.getfield 40, 3) := by decide +kernel
theorem d_Sh_holdPiece_33 : decode b_Sh_holdPiece 33 = .ok (.iconst 1, 1) := by decide +kernel
theorem d_Sh_holdPiece_34 : decode b_Sh_holdPiece 34 = .ok (.if_icmp .ne 17, 3) := by decide +kernel
theorem d_Sh_holdPiece_37 : decode b_Sh_holdPiece 37 = .ok (.iload_n 1, 1) := by decide +kernel
theorem d_Sh_holdPiece_38 : decode b_Sh_holdPiece 38 = .ok (.aload_n 0, 1) := by decide +kernel
theorem d_Sh_holdPiece_39 : decode b_Sh_holdPiece 39 = .ok (.getfield 43, 3) := by decide +kernel
theorem d_Sh_holdPiece_42 : decode b_Sh_holdPiece 42 = .ok (.iconst 1, 1) := by decide +kernel
theorem d_Sh_holdPiece_43 : decode b_Sh_holdPiece 43 = .ok (.isub, 1) := by decide +kernel
theorem d_Sh_holdPiece_44 : decode b_Sh_holdPiece 44 = .ok (.if_icmp .ne 7, 3) := by decide +kernel
theorem d_Sh_holdPiece_47 : decode b_Sh_holdPiece 47 = .ok (.lload_n 2, 1) := by decide +kernel
theorem d_Sh_holdPiece_48 : decode b_Sh_holdPiece 48 = .ok (.goto 4, 3) := by decide +kernel
theorem d_Sh_holdPiece_51 : decode b_Sh_holdPiece 51 = .ok (.lconst 0, 1) := by decide +kernel
theorem d_Sh_holdPiece_52 : decode b_Sh_holdPiece 52 = .ok (.lstore 6, 2) := by decide +kernel
theorem d_Sh_holdPiece_54 : decode b_Sh_holdPiece 54 = .ok (.aload_n 0, 1) := by decide +kernel
theorem d_Sh_holdPiece_55 : decode b_Sh_holdPiece 55 = .ok (.getfield 9, 3) := by decide +kernel
theorem d_Sh_holdPiece_58 : decode b_Sh_holdPiece 58 = .ok (.iload_n 1, 1) := by decide +kernel
theorem d_Sh_holdPiece_59 : decode b_Sh_holdPiece 59 = .ok (.laload, 1) := by decide +kernel
theorem d_Sh_holdPiece_60 : decode b_Sh_holdPiece 60 = .ok (.aload_n 0, 1) := by decide +kernel
theorem d_Sh_holdPiece_61 : decode b_Sh_holdPiece 61 = .ok (.getfield 9, 3) := by decide +kernel
theorem d_Sh_holdPiece_64 : decode b_Sh_holdPiece 64 = .ok (.iload_n 1, 1) := by decide +kernel
theorem d_Sh_holdPiece_65 : decode b_Sh_holdPiece 65 = .ok (.iconst 1, 1) := by decide +kernel
theorem d_Sh_holdPiece_66 : decode b_Sh_holdPiece 66 = .ok (.isub, 1) := by decide +kernel
theorem d_Sh_holdPiece_67 : decode b_Sh_holdPiece 67 = .ok (.laload, 1) := by decide +kernel
theorem d_Sh_holdPiece_68 : decode b_Sh_holdPiece 68 = .ok (.lsub, 1) := by decide +kernel
theorem d_Sh_holdPiece_69 : decode b_Sh_holdPiece 69 = .ok (.invokestatic 76, 3) := by decide +kernel
theorem d_Sh_holdPiece_72 : decode b_Sh_holdPiece 72 = .ok (.istore 8, 2) := by decide +kernel
theorem d_Sh_holdPiece_74 : decode b_Sh_holdPiece 74 = .ok (.aload_n 0, 1) := by decide +kernel
theorem d_Sh_holdPiece_75 : decode b_Sh_holdPiece 75 = .ok (.getfield 15, 3) := by decide +kernel
theorem d_Sh_holdPiece_78 : decode b_Sh_holdPiece 78 = .ok (.iload_n 1, 1) := by decide +kernel
theorem d_Sh_holdPiece_79 : decode b_Sh_holdPiece 79 = .ok (.laload, 1) := by decide +kernel
theorem d_Sh_holdPiece_80 : decode b_Sh_holdPiece 80 = .ok (.aload_n 0, 1) := by decide +kernel
theorem d_Sh_holdPiece_81 : decode b_Sh_holdPiece 81 = .ok (.getfield 15, 3) := by decide +kernel
theorem d_Sh_holdPiece_84 : decode b_Sh_holdPiece 84 = .ok (.iload_n 1, 1) := by decide +kernel
theorem d_Sh_holdPiece_85 : decode b_Sh_holdPiece 85 = .ok (.iconst 1, 1) := by decide +kernel
theorem d_Sh_holdPiece_86 : decode b_Sh_holdPiece 86 = .ok (.isub, 1) := by decide +kernel
theorem d_Sh_holdPiece_87 : decode b_Sh_holdPiece 87 = .ok (.laload, 1) := by decide +kernel
theorem d_Sh_holdPiece_88 : decode b_Sh_holdPiece 88 = .ok (.lsub, 1) := by decide +kernel
theorem d_Sh_holdPiece_89 : decode b_Sh_holdPiece 89 = .ok (.invokestatic 76, 3) := by decide +kernel
theorem d_Sh_holdPiece_92 : decode b_Sh_holdPiece 92 = .ok (.istore 9, 2) := by decide +kernel
theorem d_Sh_holdPiece_94 : decode b_Sh_holdPiece 94 = .ok (.aload_n 0, 1) := by decide +kernel
theorem d_Sh_holdPiece_95 : decode b_Sh_holdPiece 95 = .ok (.getfield 9, 3) := by decide +kernel
theorem d_Sh_holdPiece_98 : decode b_Sh_holdPiece 98 = .ok (.iload_n 1, 1) := by decide +kernel
theorem d_Sh_holdPiece_99 : decode b_Sh_holdPiece 99 = .ok (.iconst 1, 1) := by decide +kernel
theorem d_Sh_holdPiece_100 : decode b_Sh_holdPiece 100 = .ok (.isub, 1) := by decide +kernel
theorem d_Sh_holdPiece_101 : decode b_Sh_holdPiece 101 = .ok (.laload, 1) := by decide +kernel
theorem d_Sh_holdPiece_102 : decode b_Sh_holdPiece 102 = .ok (.iload 8, 2) := by decide +kernel
theorem d_Sh_holdPiece_104 : decode b_Sh_holdPiece 104 = .ok (.i2l, 1) := by decide +kernel
theorem d_Sh_holdPiece_105 : decode b_Sh_holdPiece 105 = .ok (.lload 4, 2) := by decide +kernel
theorem d_Sh_holdPiece_107 : decode b_Sh_holdPiece 107 = .ok (.lmul, 1) := by decide +kernel
theorem d_Sh_holdPiece_108 : decode b_Sh_holdPiece 108 = .ok (.lsub, 1) := by decide +kernel
theorem d_Sh_holdPiece_109 : decode b_Sh_holdPiece 109 = .ok (.lstore 10, 2) := by decide +kernel
theorem d_Sh_holdPiece_111 : decode b_Sh_holdPiece 111 = .ok (.aload_n 0, 1) := by decide +kernel
theorem d_Sh_holdPiece_112 : decode b_Sh_holdPiece 112 = .ok (.getfield 15, 3) := by decide +kernel
theorem d_Sh_holdPiece_115 : decode b_Sh_holdPiece 115 = .ok (.iload_n 1, 1) := by decide +kernel
theorem d_Sh_holdPiece_116 : decode b_Sh_holdPiece 116 = .ok (.iconst 1, 1) := by decide +kernel
theorem d_Sh_holdPiece_117 : decode b_Sh_holdPiece 117 = .ok (.isub, 1) := by decide +kernel
theorem d_Sh_holdPiece_118 : decode b_Sh_holdPiece 118 = .ok (.laload, 1) := by decide +kernel
theorem d_Sh_holdPiece_119 : decode b_Sh_holdPiece 119 = .ok (.iload 9, 2) := by decide +kernel
theorem d_Sh_holdPiece_121 : decode b_Sh_holdPiece 121 = .ok (.i2l, 1) := by decide +kernel
theorem d_Sh_holdPiece_122 : decode b_Sh_holdPiece 122 = .ok (.lload 4, 2) := by decide +kernel
theorem d_Sh_holdPiece_124 : decode b_Sh_holdPiece 124 = .ok (.lmul, 1) := by decide +kernel
theorem d_Sh_holdPiece_125 : decode b_Sh_holdPiece 125 = .ok (.lsub, 1) := by decide +kernel
theorem d_Sh_holdPiece_126 : decode b_Sh_holdPiece 126 = .ok (.lstore 12, 2) := by decide +kernel
theorem d_Sh_holdPiece_128 : decode b_Sh_holdPiece 128 = .ok (.aload_n 0, 1) := by decide +kernel
theorem d_Sh_holdPiece_129 : decode b_Sh_holdPiece 129 = .ok (.getfield 9, 3) := by decide +kernel
theorem d_Sh_holdPiece_132 : decode b_Sh_holdPiece 132 = .ok (.iload_n 1, 1) := by decide +kernel
theorem d_Sh_holdPiece_133 : decode b_Sh_holdPiece 133 = .ok (.laload, 1) := by decide +kernel
theorem d_Sh_holdPiece_134 : decode b_Sh_holdPiece 134 = .ok (.iload 8, 2) := by decide +kernel
theorem d_Sh_holdPiece_136 : decode b_Sh_holdPiece 136 = .ok (.i2l, 1) := by decide +kernel
theorem d_Sh_holdPiece_137 : decode b_Sh_holdPiece 137 = .ok (.lload 6, 2) := by decide +kernel
theorem d_Sh_holdPiece_139 : decode b_Sh_holdPiece 139 = .ok (.lmul, 1) := by decide +kernel
theorem d_Sh_holdPiece_140 : decode b_Sh_holdPiece 140 = .ok (.ladd, 1) := by decide +kernel
theorem d_Sh_holdPiece_141 : decode b_Sh_holdPiece 141 = .ok (.lstore 14, 2) := by decide +kernel
theorem d_Sh_holdPiece_143 : decode b_Sh_holdPiece 143 = .ok (.aload_n 0, 1) := by decide +kernel
theorem d_Sh_holdPiece_144 : decode b_Sh_holdPiece 144 = .ok (.getfield 15, 3) := by decide +kernel
theorem d_Sh_holdPiece_147 : decode b_Sh_holdPiece 147 = .ok (.iload_n 1, 1) := by decide +kernel
theorem d_Sh_holdPiece_148 : decode b_Sh_holdPiece 148 = .ok (.laload, 1) := by decide +kernel
theorem d_Sh_holdPiece_149 : decode b_Sh_holdPiece 149 = .ok (.iload 9, 2) := by decide +kernel
theorem d_Sh_holdPiece_151 : decode b_Sh_holdPiece 151 = .ok (.i2l, 1) := by decide +kernel
theorem d_Sh_holdPiece_152 : decode b_Sh_holdPiece 152 = .ok (.lload 6, 2) := by decide +kernel
theorem d_Sh_holdPiece_154 : decode b_Sh_holdPiece 154 = .ok (.lmul, 1) := by decide +kernel
theorem d_Sh_holdPiece_155 : decode b_Sh_holdPiece 155 = .ok (.ladd, 1) := by decide +kernel
theorem d_Sh_holdPiece_156 : decode b_Sh_holdPiece 156 = .ok (.lstore 16, 2) := by decide +kernel
theorem d_Sh_holdPiece_158 : decode b_Sh_holdPiece 158 = .ok (.iload 8, 2) := by decide +kernel
theorem d_Sh_holdPiece_160 : decode b_Sh_holdPiece 160 = .ok (.ifCond .ne 7, 3) := by decide +kernel
theorem d_Sh_holdPiece_163 : decode b_Sh_holdPiece 163 = .ok (.lload_n 2, 1) := by decide +kernel
theorem d_Sh_holdPiece_164 : decode b_Sh_holdPiece 164 = .ok (.goto 4, 3) := by decide +kernel
theorem d_Sh_holdPiece_167 : decode b_Sh_holdPiece 167 = .ok (.lconst 0, 1) := by decide +kernel
theorem d_Sh_holdPiece_168 : decode b_Sh_holdPiece 168 = .ok (.lstore 18, 2) := by decide +kernel
theorem d_Sh_holdPiece_170 : decode b_Sh_holdPiece 170 = .ok (.iload 9, 2) := by decide +kernel
theorem d_Sh_holdPiece_172 : decode b_Sh_holdPiece 172 = .ok (.ifCond .ne 7, 3) := by decide +kernel
theorem d_Sh_holdPiece_175 : decode b_Sh_holdPiece 175 = .ok (.lload_n 2, 1) := by decide +kernel
theorem d_Sh_holdPiece_176 : decode b_Sh_holdPiece 176 = .ok (.goto 4, 3) := by decide +kernel
theorem d_Sh_holdPiece_179 : decode b_Sh_holdPiece 179 = .ok (.lconst 0, 1) := by decide +kernel
theorem d_Sh_holdPiece_180 : decode b_Sh_holdPiece 180 = .ok (.lstore 20, 2) := by decide +kernel
theorem d_Sh_holdPiece_182 : decode b_Sh_holdPiece 182 = .ok (.aload_n 0, 1) := by decide +kernel
theorem d_Sh_holdPiece_183 : decode b_Sh_holdPiece 183 = .ok (.getfield 21, 3) := by decide +kernel
theorem d_Sh_holdPiece_186 : decode b_Sh_holdPiece 186 = .ok (.lload 10, 2) := by decide +kernel
theorem d_Sh_holdPiece_188 : decode b_Sh_holdPiece 188 = .ok (.lload 14, 2) := by decide +kernel
theorem d_Sh_holdPiece_190 : decode b_Sh_holdPiece 190 = .ok (.invokestatic 82, 3) := by decide +kernel
theorem d_Sh_holdPiece_193 : decode b_Sh_holdPiece 193 = .ok (.lload 18, 2) := by decide +kernel
theorem d_Sh_holdPiece_195 : decode b_Sh_holdPiece 195 = .ok (.lsub, 1) := by decide +kernel
theorem d_Sh_holdPiece_196 : decode b_Sh_holdPiece 196 = .ok (.lload 12, 2) := by decide +kernel
theorem d_Sh_holdPiece_198 : decode b_Sh_holdPiece 198 = .ok (.lload 16, 2) := by decide +kernel
theorem d_Sh_holdPiece_200 : decode b_Sh_holdPiece 200 = .ok (.invokestatic 82, 3) := by decide +kernel
theorem d_Sh_holdPiece_203 : decode b_Sh_holdPiece 203 = .ok (.lload 20, 2) := by decide +kernel
theorem d_Sh_holdPiece_205 : decode b_Sh_holdPiece 205 = .ok (.lsub, 1) := by decide +kernel
theorem d_Sh_holdPiece_206 : decode b_Sh_holdPiece 206 = .ok (.lload 10, 2) := by decide +kernel
theorem d_Sh_holdPiece_208 : decode b_Sh_holdPiece 208 = .ok (.lload 14, 2) := by decide +kernel
theorem d_Sh_holdPiece_210 : decode b_Sh_holdPiece 210 = .ok (.invokestatic 88, 3) := by decide +kernel
theorem d_Sh_holdPiece_213 : decode b_Sh_holdPiece 213 = .ok (.lload 18, 2) := by decide +kernel
theorem d_Sh_holdPiece_215 : decode b_Sh_holdPiece 215 = .ok (.ladd, 1) := by decide +kernel
theorem d_Sh_holdPiece_216 : decode b_Sh_holdPiece 216 = .ok (.lload 12, 2) := by decide +kernel
theorem d_Sh_holdPiece_218 : decode b_Sh_holdPiece 218 = .ok (.lload 16, 2) := by decide +kernel
theorem d_Sh_holdPiece_220 : decode b_Sh_holdPiece 220 = .ok (.invokestatic 88, 3) := by decide +kernel
theorem d_Sh_holdPiece_223 : decode b_Sh_holdPiece 223 = .ok (.lload 20, 2) := by decide +kernel
theorem d_Sh_holdPiece_225 : decode b_Sh_holdPiece 225 = .ok (.ladd, 1) := by decide +kernel
theorem d_Sh_holdPiece_226 : decode b_Sh_holdPiece 226 = .ok (.invokevirtual 63, 3) := by decide +kernel
theorem d_Sh_holdPiece_229 : decode b_Sh_holdPiece 229 = .ok (.return_, 1) := by decide +kernel
theorem d_Bx_hold_0 : decode b_Bx_hold 0 = .ok (.aload_n 0, 1) := by decide +kernel
theorem d_Bx_hold_1 : decode b_Bx_hold 1 = .ok (.aload_n 0, 1) := by decide +kernel
theorem d_Bx_hold_2 : decode b_Bx_hold 2 = .ok (.getfield 7, 3) := by decide +kernel
theorem d_Bx_hold_5 : decode b_Bx_hold 5 = .ok (.ifCond .eq 7, 3) := by decide +kernel
theorem d_Bx_hold_8 : decode b_Bx_hold 8 = .ok (.lload_n 1, 1) := by decide +kernel
theorem d_Bx_hold_9 : decode b_Bx_hold 9 = .ok (.goto 11, 3) := by decide +kernel
theorem d_Bx_hold_12 : decode b_Bx_hold 12 = .ok (.aload_n 0, 1) := by decide +kernel
theorem d_Bx_hold_13 : decode b_Bx_hold 13 = .ok (.getfield 13, 3) := by decide +kernel
theorem d_Bx_hold_16 : decode b_Bx_hold 16 = .ok (.lload_n 1, 1) := by decide +kernel
theorem d_Bx_hold_17 : decode b_Bx_hold 17 = .ok (.invokestatic 17, 3) := by decide +kernel
theorem d_Bx_hold_20 : decode b_Bx_hold 20 = .ok (.putfield 13, 3) := by decide +kernel
theorem d_Bx_hold_23 : decode b_Bx_hold 23 = .ok (.aload_n 0, 1) := by decide +kernel
theorem d_Bx_hold_24 : decode b_Bx_hold 24 = .ok (.aload_n 0, 1) := by decide +kernel
theorem d_Bx_hold_25 : decode b_Bx_hold 25 = .ok (.getfield 7, 3) := by decide +kernel
theorem d_Bx_hold_28 : decode b_Bx_hold 28 = .ok (.ifCond .eq 7, 3) := by decide +kernel
theorem d_Bx_hold_31 : decode b_Bx_hold 31 = .ok (.lload_n 3, 1) := by decide +kernel
theorem d_Bx_hold_32 : decode b_Bx_hold 32 = .ok (.goto 11, 3) := by decide +kernel
theorem d_Bx_hold_35 : decode b_Bx_hold 35 = .ok (.aload_n 0, 1) := by decide +kernel
theorem d_Bx_hold_36 : decode b_Bx_hold 36 = .ok (.getfield 23, 3) := by decide +kernel
theorem d_Bx_hold_39 : decode b_Bx_hold 39 = .ok (.lload_n 3, 1) := by decide +kernel
theorem d_Bx_hold_40 : decode b_Bx_hold 40 = .ok (.invokestatic 17, 3) := by decide +kernel
theorem d_Bx_hold_43 : decode b_Bx_hold 43 = .ok (.putfield 23, 3) := by decide +kernel
theorem d_Bx_hold_46 : decode b_Bx_hold 46 = .ok (.aload_n 0, 1) := by decide +kernel
theorem d_Bx_hold_47 : decode b_Bx_hold 47 = .ok (.aload_n 0, 1) := by decide +kernel
theorem d_Bx_hold_48 : decode b_Bx_hold 48 = .ok (.getfield 7, 3) := by decide +kernel
theorem d_Bx_hold_51 : decode b_Bx_hold 51 = .ok (.ifCond .eq 8, 3) := by decide +kernel
theorem d_Bx_hold_54 : decode b_Bx_hold 54 = .ok (.lload 5, 2) := by decide +kernel
theorem d_Bx_hold_56 : decode b_Bx_hold 56 = .ok (.goto 12, 3) := by decide +kernel
theorem d_Bx_hold_59 : decode b_Bx_hold 59 = .ok (.aload_n 0, 1) := by decide +kernel
theorem d_Bx_hold_60 : decode b_Bx_hold 60 = .ok (.getfield 26, 3) := by decide +kernel
theorem d_Bx_hold_63 : decode b_Bx_hold 63 = .ok (.lload 5, 2) := by decide +kernel
theorem d_Bx_hold_65 : decode b_Bx_hold 65 = .ok (.invokestatic 29, 3) := by decide +kernel
theorem d_Bx_hold_68 : decode b_Bx_hold 68 = .ok (.putfield 26, 3) := by decide +kernel
theorem d_Bx_hold_71 : decode b_Bx_hold 71 = .ok (.aload_n 0, 1) := by decide +kernel
theorem d_Bx_hold_72 : decode b_Bx_hold 72 = .ok (.aload_n 0, 1) := by decide +kernel
theorem d_Bx_hold_73 : decode b_Bx_hold 73 = .ok (.getfield 7, 3) := by decide +kernel
theorem d_Bx_hold_76 : decode b_Bx_hold 76 = .ok (.ifCond .eq 8, 3) := by decide +kernel
theorem d_Bx_hold_79 : decode b_Bx_hold 79 = .ok (.lload 7, 2) := by decide +kernel
theorem d_Bx_hold_81 : decode b_Bx_hold 81 = .ok (.goto 12, 3) := by decide +kernel
theorem d_Bx_hold_84 : decode b_Bx_hold 84 = .ok (.aload_n 0, 1) := by decide +kernel
theorem d_Bx_hold_85 : decode b_Bx_hold 85 = .ok (.getfield 32, 3) := by decide +kernel
theorem d_Bx_hold_88 : decode b_Bx_hold 88 = .ok (.lload 7, 2) := by decide +kernel
theorem d_Bx_hold_90 : decode b_Bx_hold 90 = .ok (.invokestatic 29, 3) := by decide +kernel
theorem d_Bx_hold_93 : decode b_Bx_hold 93 = .ok (.putfield 32, 3) := by decide +kernel
theorem d_Bx_hold_96 : decode b_Bx_hold 96 = .ok (.aload_n 0, 1) := by decide +kernel
theorem d_Bx_hold_97 : decode b_Bx_hold 97 = .ok (.iconst 0, 1) := by decide +kernel
theorem d_Bx_hold_98 : decode b_Bx_hold 98 = .ok (.putfield 7, 3) := by decide +kernel
theorem d_Bx_hold_101 : decode b_Bx_hold 101 = .ok (.return_, 1) := by decide +kernel
theorem d_ST_path_0 : decode b_ST_path 0 = .ok (.aload_n 0, 1) := by decide +kernel
theorem d_ST_path_1 : decode b_ST_path 1 = .ok (.iload_n 1, 1) := by decide +kernel
theorem d_ST_path_2 : decode b_ST_path 2 = .ok (.invokevirtual 74, 3) := by decide +kernel
theorem d_ST_path_5 : decode b_ST_path 5 = .ok (.astore 6, 2) := by decide +kernel
theorem d_ST_path_7 : decode b_ST_path 7 = .ok (.aload_n 0, 1) := by decide +kernel
theorem d_ST_path_8 : decode b_ST_path 8 = .ok (.iload_n 2, 1) := by decide +kernel
theorem d_ST_path_9 : decode b_ST_path 9 = .ok (.invokevirtual 78, 3) := by decide +kernel
theorem d_ST_path_12 : decode b_ST_path 12 = .ok (.aload_n 0, 1) := by decide +kernel
theorem d_ST_path_13 : decode b_ST_path 13 = .ok (.invokevirtual 82, 3) := by decide +kernel
theorem d_ST_path_16 : decode b_ST_path 16 = .ok (.lload_n 3, 1) := by decide +kernel
theorem d_ST_path_17 : decode b_ST_path 17 = .ok (.ldc2_w 102, 3) := by decide +kernel
theorem d_ST_path_20 : decode b_ST_path 20 = .ok (.lcmp, 1) := by decide +kernel
theorem d_ST_path_21 : decode b_ST_path 21 = .ok (.ifCond .lt 21, 3) := by decide +kernel
theorem d_ST_path_24 : decode b_ST_path 24 = .ok (.lload_n 3, 1) := by decide +kernel
theorem d_ST_path_25 : decode b_ST_path 25 = .ok (.ldc2_w 104, 3) := by decide +kernel
theorem d_ST_path_28 : decode b_ST_path 28 = .ok (.lcmp, 1) := by decide +kernel
theorem d_ST_path_29 : decode b_ST_path 29 = .ok (.ifCond .gt 13, 3) := by decide +kernel
theorem d_ST_path_32 : decode b_ST_path 32 = .ok (.lload_n 3, 1) := by decide +kernel
theorem d_ST_path_33 : decode b_ST_path 33 = .ok (.ldc2_w 102, 3) := by decide +kernel
theorem d_ST_path_36 : decode b_ST_path 36 = .ok (.lrem, 1) := by decide +kernel
theorem d_ST_path_37 : decode b_ST_path 37 = .ok (.lconst 0, 1) := by decide +kernel
theorem d_ST_path_38 : decode b_ST_path 38 = .ok (.lcmp, 1) := by decide +kernel
theorem d_ST_path_39 : decode b_ST_path 39 = .ok (.ifCond .eq 13, 3) := by decide +kernel
theorem d_ST_path_42 : decode b_ST_path 42 = .ok (.new 106, 3) := by decide +kernel
theorem d_ST_path_45 : decode b_ST_path 45 = .ok (.dup, 1) := by decide +kernel
theorem d_ST_path_46 : decode b_ST_path 46 = .ok (.ldc 108, 2) := by decide +kernel
theorem d_ST_path_48 : decode b_ST_path 48 = .ok (.invokespecial 110, 3) := by decide +kernel
theorem d_ST_path_51 : decode b_ST_path 51 = .ok (.athrow, 1) := by decide +kernel
theorem d_ST_path_52 : decode b_ST_path 52 = .ok (.iload 5, 2) := by decide +kernel
theorem d_ST_path_54 : decode b_ST_path 54 = .ok (.ifCond .lt 9, 3) := by decide +kernel
theorem d_ST_path_57 : decode b_ST_path 57 = .ok (.iload 5, 2) := by decide +kernel
theorem d_ST_path_59 : decode b_ST_path 59 = .ok (.iconst 1, 1) := by decide +kernel
theorem d_ST_path_60 : decode b_ST_path 60 = .ok (.if_icmp .le 13, 3) := by decide +kernel
theorem d_ST_path_63 : decode b_ST_path 63 = .ok (.new 106, 3) := by decide +kernel
theorem d_ST_path_66 : decode b_ST_path 66 = .ok (.dup, 1) := by decide +kernel
theorem d_ST_path_67 : decode b_ST_path 67 = .ok (.ldc 111, 2) := by decide +kernel
theorem d_ST_path_69 : decode b_ST_path 69 = .ok (.invokespecial 110, 3) := by decide +kernel
theorem d_ST_path_72 : decode b_ST_path 72 = .ok (.athrow, 1) := by decide +kernel
theorem d_ST_path_73 : decode b_ST_path 73 = .ok (.aload_n 0, 1) := by decide +kernel
theorem d_ST_path_74 : decode b_ST_path 74 = .ok (.aload 6, 2) := by decide +kernel
theorem d_ST_path_76 : decode b_ST_path 76 = .ok (.new 85, 3) := by decide +kernel
theorem d_ST_path_79 : decode b_ST_path 79 = .ok (.dup, 1) := by decide +kernel
theorem d_ST_path_80 : decode b_ST_path 80 = .ok (.iload_n 2, 1) := by decide +kernel
theorem d_ST_path_81 : decode b_ST_path 81 = .ok (.lload_n 3, 1) := by decide +kernel
theorem d_ST_path_82 : decode b_ST_path 82 = .ok (.iload 5, 2) := by decide +kernel
theorem d_ST_path_84 : decode b_ST_path 84 = .ok (.invokespecial 87, 3) := by decide +kernel
theorem d_ST_path_87 : decode b_ST_path 87 = .ok (.invokevirtual 90, 3) := by decide +kernel
theorem d_ST_path_90 : decode b_ST_path 90 = .ok (.ireturn, 1) := by decide +kernel
theorem d_ST_point_0 : decode b_ST_point 0 = .ok (.aload_n 0, 1) := by decide +kernel
theorem d_ST_point_1 : decode b_ST_point 1 = .ok (.iload_n 1, 1) := by decide +kernel
theorem d_ST_point_2 : decode b_ST_point 2 = .ok (.iconst 1, 1) := by decide +kernel
theorem d_ST_point_3 : decode b_ST_point 3 = .ok (.invokevirtual 94, 3) := by decide +kernel
theorem d_ST_point_6 : decode b_ST_point 6 = .ok (.lload_n 2, 1) := by decide +kernel
theorem d_ST_point_7 : decode b_ST_point 7 = .ok (.lload 4, 2) := by decide +kernel
theorem d_ST_point_9 : decode b_ST_point 9 = .ok (.invokestatic 98, 3) := by decide +kernel
theorem d_ST_point_12 : decode b_ST_point 12 = .ok (.ireturn, 1) := by decide +kernel
theorem d_ST_place_0 : decode b_ST_place 0 = .ok (.aload_n 0, 1) := by decide +kernel
theorem d_ST_place_1 : decode b_ST_place 1 = .ok (.iload_n 1, 1) := by decide +kernel
theorem d_ST_place_2 : decode b_ST_place 2 = .ok (.invokevirtual 74, 3) := by decide +kernel
theorem d_ST_place_5 : decode b_ST_place 5 = .ok (.astore 8, 2) := by decide +kernel
theorem d_ST_place_7 : decode b_ST_place 7 = .ok (.aload_n 0, 1) := by decide +kernel
theorem d_ST_place_8 : decode b_ST_place 8 = .ok (.iload_n 2, 1) := by decide +kernel
theorem d_ST_place_9 : decode b_ST_place 9 = .ok (.invokevirtual 74, 3) := by decide +kernel
theorem d_ST_place_12 : decode b_ST_place 12 = .ok (.astore 9, 2) := by decide +kernel
theorem d_ST_place_14 : decode b_ST_place 14 = .ok (.aload_n 0, 1) := by decide +kernel
theorem d_ST_place_15 : decode b_ST_place 15 = .ok (.getfield 19, 3) := by decide +kernel
theorem d_ST_place_18 : decode b_ST_place 18 = .ok (.invokevirtual 56, 3) := by decide +kernel
theorem d_ST_place_21 : decode b_ST_place 21 = .ok (.bipush 80, 2) := by decide +kernel
theorem d_ST_place_23 : decode b_ST_place 23 = .ok (.if_icmp .lt 13, 3) := by decide +kernel
theorem d_ST_place_26 : decode b_ST_place 26 = .ok (.new 60, 3) := by decide +kernel
theorem d_ST_place_29 : decode b_ST_place 29 = .ok (.dup, 1) := by decide +kernel
theorem d_ST_place_30 : decode b_ST_place 30 = .ok (.ldc 113, 2) := by decide +kernel
theorem d_ST_place_32 : decode b_ST_place 32 = .ok (.invokespecial 64, 3) := by decide +kernel
theorem d_ST_place_35 : decode b_ST_place 35 = .ok (.athrow, 1) := by decide +kernel
theorem d_ST_place_36 : decode b_ST_place 36 = .ok (.lload_n 3, 1) := by decide +kernel
theorem d_ST_place_37 : decode b_ST_place 37 = .ok (.invokestatic 115, 3) := by decide +kernel
theorem d_ST_place_40 : decode b_ST_place 40 = .ok (.lload 5, 2) := by decide +kernel
theorem d_ST_place_42 : decode b_ST_place 42 = .ok (.invokestatic 115, 3) := by decide +kernel
theorem d_ST_place_45 : decode b_ST_place 45 = .ok (.iload 7, 2) := by decide +kernel
theorem d_ST_place_47 : decode b_ST_place 47 = .ok (.ifCond .lt 10, 3) := by decide +kernel
theorem d_ST_place_50 : decode b_ST_place 50 = .ok (.iload 7, 2) := by decide +kernel
theorem d_ST_place_52 : decode b_ST_place 52 = .ok (.bipush 8, 2) := by decide +kernel
theorem d_ST_place_54 : decode b_ST_place 54 = .ok (.if_icmp .lt 13, 3) := by decide +kernel
theorem d_ST_place_57 : decode b_ST_place 57 = .ok (.new 106, 3) := by decide +kernel
theorem d_ST_place_60 : decode b_ST_place 60 = .ok (.dup, 1) := by decide +kernel
theorem d_ST_place_61 : decode b_ST_place 61 = .ok (.ldc 119, 2) := by decide +kernel
theorem d_ST_place_63 : decode b_ST_place 63 = .ok (.invokespecial 110, 3) := by decide +kernel
theorem d_ST_place_66 : decode b_ST_place 66 = .ok (.athrow, 1) := by decide +kernel
theorem d_ST_place_67 : decode b_ST_place 67 = .ok (.aload_n 0, 1) := by decide +kernel
theorem d_ST_place_68 : decode b_ST_place 68 = .ok (.aload 8, 2) := by decide +kernel
theorem d_ST_place_70 : decode b_ST_place 70 = .ok (.aload 9, 2) := by decide +kernel
theorem d_ST_place_72 : decode b_ST_place 72 = .ok (.invokevirtual 121, 3) := by decide +kernel
theorem d_ST_place_75 : decode b_ST_place 75 = .ok (.ifCond .eq 5, 3) := by decide +kernel
theorem d_ST_place_78 : decode b_ST_place 78 = .ok (.iconst (-1), 1) := by decide +kernel
theorem d_ST_place_79 : decode b_ST_place 79 = .ok (.ireturn, 1) := by decide +kernel
theorem d_ST_place_80 : decode b_ST_place 80 = .ok (.new 125, 3) := by decide +kernel
theorem d_ST_place_83 : decode b_ST_place 83 = .ok (.dup, 1) := by decide +kernel
theorem d_ST_place_84 : decode b_ST_place 84 = .ok (.aload 9, 2) := by decide +kernel
theorem d_ST_place_86 : decode b_ST_place 86 = .ok (.lload_n 3, 1) := by decide +kernel
theorem d_ST_place_87 : decode b_ST_place 87 = .ok (.lload 5, 2) := by decide +kernel
theorem d_ST_place_89 : decode b_ST_place 89 = .ok (.iload 7, 2) := by decide +kernel
theorem d_ST_place_91 : decode b_ST_place 91 = .ok (.invokespecial 127, 3) := by decide +kernel
theorem d_ST_place_94 : decode b_ST_place 94 = .ok (.astore 10, 2) := by decide +kernel
theorem d_ST_place_96 : decode b_ST_place 96 = .ok (.aload_n 0, 1) := by decide +kernel
theorem d_ST_place_97 : decode b_ST_place 97 = .ok (.getfield 19, 3) := by decide +kernel
theorem d_ST_place_100 : decode b_ST_place 100 = .ok (.aload 10, 2) := by decide +kernel
theorem d_ST_place_102 : decode b_ST_place 102 = .ok (.invokevirtual 70, 3) := by decide +kernel
theorem d_ST_place_105 : decode b_ST_place 105 = .ok (.pop, 1) := by decide +kernel
theorem d_ST_place_106 : decode b_ST_place 106 = .ok (.aload 8, 2) := by decide +kernel
theorem d_ST_place_108 : decode b_ST_place 108 = .ok (.getfield 130, 3) := by decide +kernel
theorem d_ST_place_111 : decode b_ST_place 111 = .ok (.aload 10, 2) := by decide +kernel
theorem d_ST_place_113 : decode b_ST_place 113 = .ok (.invokevirtual 70, 3) := by decide +kernel
theorem d_ST_place_116 : decode b_ST_place 116 = .ok (.pop, 1) := by decide +kernel
theorem d_ST_place_117 : decode b_ST_place 117 = .ok (.aload_n 0, 1) := by decide +kernel
theorem d_ST_place_118 : decode b_ST_place 118 = .ok (.getfield 19, 3) := by decide +kernel
theorem d_ST_place_121 : decode b_ST_place 121 = .ok (.invokevirtual 56, 3) := by decide +kernel
theorem d_ST_place_124 : decode b_ST_place 124 = .ok (.iconst 1, 1) := by decide +kernel
theorem d_ST_place_125 : decode b_ST_place 125 = .ok (.isub, 1) := by decide +kernel
theorem d_ST_place_126 : decode b_ST_place 126 = .ok (.ireturn, 1) := by decide +kernel
theorem d_ST_wouldHoldItself_0 : decode b_ST_wouldHoldItself 0 = .ok (.iconst 0, 1) := by decide +kernel
theorem d_ST_wouldHoldItself_1 : decode b_ST_wouldHoldItself 1 = .ok (.istore_n 3, 1) := by decide +kernel
theorem d_ST_wouldHoldItself_2 : decode b_ST_wouldHoldItself 2 = .ok (.iload_n 3, 1) := by decide +kernel
theorem d_ST_wouldHoldItself_3 : decode b_ST_wouldHoldItself 3 = .ok (.aload_n 0, 1) := by decide +kernel
theorem d_ST_wouldHoldItself_4 : decode b_ST_wouldHoldItself 4 = .ok (.getfield 10, 3) := by decide +kernel
theorem d_ST_wouldHoldItself_7 : decode b_ST_wouldHoldItself 7 = .ok (.invokevirtual 56, 3) := by decide +kernel
theorem d_ST_wouldHoldItself_10 : decode b_ST_wouldHoldItself 10 = .ok (.if_icmp .ge 24, 3) := by decide +kernel
theorem d_ST_wouldHoldItself_13 : decode b_ST_wouldHoldItself 13 = .ok (.aload_n 0, 1) := by decide +kernel
theorem d_ST_wouldHoldItself_14 : decode b_ST_wouldHoldItself 14 = .ok (.getfield 10, 3) := by decide +kernel
theorem d_ST_wouldHoldItself_17 : decode b_ST_wouldHoldItself 17 = .ok (.iload_n 3, 1) := by decide +kernel
theorem d_ST_wouldHoldItself_18 : decode b_ST_wouldHoldItself 18 = .ok (.invokevirtual 138, 3) := by decide +kernel
theorem d_ST_wouldHoldItself_21 : decode b_ST_wouldHoldItself 21 = .ok (.checkcast 67, 3) := by decide +kernel
theorem d_ST_wouldHoldItself_24 : decode b_ST_wouldHoldItself 24 = .ok (.iconst 0, 1) := by decide +kernel
theorem d_ST_wouldHoldItself_25 : decode b_ST_wouldHoldItself 25 = .ok (.putfield 280, 3) := by decide +kernel
theorem d_ST_wouldHoldItself_28 : decode b_ST_wouldHoldItself 28 = .ok (.iinc 3 1, 3) := by decide +kernel
theorem d_ST_wouldHoldItself_31 : decode b_ST_wouldHoldItself 31 = .ok (.goto (-29), 3) := by decide +kernel
theorem d_ST_wouldHoldItself_34 : decode b_ST_wouldHoldItself 34 = .ok (.aload_n 1, 1) := by decide +kernel
theorem d_ST_wouldHoldItself_35 : decode b_ST_wouldHoldItself 35 = .ok (.aload_n 2, 1) := by decide +kernel
theorem d_ST_wouldHoldItself_36 : decode b_ST_wouldHoldItself 36 = .ok (.iconst 0, 1) := by decide +kernel
theorem d_ST_wouldHoldItself_37 : decode b_ST_wouldHoldItself 37 = .ok (.invokestatic 283, 3) := by decide +kernel
theorem d_ST_wouldHoldItself_40 : decode b_ST_wouldHoldItself 40 = .ok (.ireturn, 1) := by decide +kernel
theorem d_ST_isWithin_0 : decode b_ST_isWithin 0 = .ok (.aload_n 1, 1) := by decide +kernel
theorem d_ST_isWithin_1 : decode b_ST_isWithin 1 = .ok (.aload_n 0, 1) := by decide +kernel
theorem d_ST_isWithin_2 : decode b_ST_isWithin 2 = .ok (.if_acmp .ne 5, 3) := by decide +kernel
theorem d_ST_isWithin_5 : decode b_ST_isWithin 5 = .ok (.iconst 1, 1) := by decide +kernel
theorem d_ST_isWithin_6 : decode b_ST_isWithin 6 = .ok (.ireturn, 1) := by decide +kernel
theorem d_ST_isWithin_7 : decode b_ST_isWithin 7 = .ok (.aload_n 1, 1) := by decide +kernel
theorem d_ST_isWithin_8 : decode b_ST_isWithin 8 = .ok (.getfield 280, 3) := by decide +kernel
theorem d_ST_isWithin_11 : decode b_ST_isWithin 11 = .ok (.ifCond .ne 9, 3) := by decide +kernel
theorem d_ST_isWithin_14 : decode b_ST_isWithin 14 = .ok (.iload_n 2, 1) := by decide +kernel
theorem d_ST_isWithin_15 : decode b_ST_isWithin 15 = .ok (.bipush 20, 2) := by decide +kernel
theorem d_ST_isWithin_17 : decode b_ST_isWithin 17 = .ok (.if_icmp .le 5, 3) := by decide +kernel
theorem d_ST_isWithin_20 : decode b_ST_isWithin 20 = .ok (.iconst 0, 1) := by decide +kernel
theorem d_ST_isWithin_21 : decode b_ST_isWithin 21 = .ok (.ireturn, 1) := by decide +kernel
theorem d_ST_isWithin_22 : decode b_ST_isWithin 22 = .ok (.aload_n 1, 1) := by decide +kernel
theorem d_ST_isWithin_23 : decode b_ST_isWithin 23 = .ok (.iconst 1, 1) := by decide +kernel
theorem d_ST_isWithin_24 : decode b_ST_isWithin 24 = .ok (.putfield 280, 3) := by decide +kernel
theorem d_ST_isWithin_27 : decode b_ST_isWithin 27 = .ok (.iconst 0, 1) := by decide +kernel
theorem d_ST_isWithin_28 : decode b_ST_isWithin 28 = .ok (.istore_n 3, 1) := by decide +kernel
theorem d_ST_isWithin_29 : decode b_ST_isWithin 29 = .ok (.iload_n 3, 1) := by decide +kernel
theorem d_ST_isWithin_30 : decode b_ST_isWithin 30 = .ok (.aload_n 1, 1) := by decide +kernel
theorem d_ST_isWithin_31 : decode b_ST_isWithin 31 = .ok (.getfield 130, 3) := by decide +kernel
theorem d_ST_isWithin_34 : decode b_ST_isWithin 34 = .ok (.invokevirtual 56, 3) := by decide +kernel
theorem d_ST_isWithin_37 : decode b_ST_isWithin 37 = .ok (.if_icmp .ge 35, 3) := by decide +kernel
theorem d_ST_isWithin_40 : decode b_ST_isWithin 40 = .ok (.aload_n 0, 1) := by decide +kernel
theorem d_ST_isWithin_41 : decode b_ST_isWithin 41 = .ok (.aload_n 1, 1) := by decide +kernel
theorem d_ST_isWithin_42 : decode b_ST_isWithin 42 = .ok (.getfield 130, 3) := by decide +kernel
theorem d_ST_isWithin_45 : decode b_ST_isWithin 45 = .ok (.iload_n 3, 1) := by decide +kernel
theorem d_ST_isWithin_46 : decode b_ST_isWithin 46 = .ok (.invokevirtual 138, 3) := by decide +kernel
theorem d_ST_isWithin_49 : decode b_ST_isWithin 49 = .ok (.checkcast 125, 3) := by decide +kernel
theorem d_ST_isWithin_52 : decode b_ST_isWithin 52 = .ok (.getfield 287, 3) := by decide +kernel
theorem d_ST_isWithin_55 : decode b_ST_isWithin 55 = .ok (.iload_n 2, 1) := by decide +kernel
theorem d_ST_isWithin_56 : decode b_ST_isWithin 56 = .ok (.iconst 1, 1) := by decide +kernel
theorem d_ST_isWithin_57 : decode b_ST_isWithin 57 = .ok (.iadd, 1) := by decide +kernel
theorem d_ST_isWithin_58 : decode b_ST_isWithin 58 = .ok (.invokestatic 283, 3) := by decide +kernel
theorem d_ST_isWithin_61 : decode b_ST_isWithin 61 = .ok (.ifCond .eq 5, 3) := by decide +kernel
theorem d_ST_isWithin_64 : decode b_ST_isWithin 64 = .ok (.iconst 1, 1) := by decide +kernel
theorem d_ST_isWithin_65 : decode b_ST_isWithin 65 = .ok (.ireturn, 1) := by decide +kernel
theorem d_ST_isWithin_66 : decode b_ST_isWithin 66 = .ok (.iinc 3 1, 3) := by decide +kernel
theorem d_ST_isWithin_69 : decode b_ST_isWithin 69 = .ok (.goto (-40), 3) := by decide +kernel
theorem d_ST_isWithin_72 : decode b_ST_isWithin 72 = .ok (.iconst 0, 1) := by decide +kernel
theorem d_ST_isWithin_73 : decode b_ST_isWithin 73 = .ok (.ireturn, 1) := by decide +kernel
theorem d_Pl_init_0 : decode b_Pl_init 0 = .ok (.aload_n 0, 1) := by decide +kernel
theorem d_Pl_init_1 : decode b_Pl_init 1 = .ok (.invokespecial 1, 3) := by decide +kernel
theorem d_Pl_init_4 : decode b_Pl_init 4 = .ok (.aload_n 0, 1) := by decide +kernel
theorem d_Pl_init_5 : decode b_Pl_init 5 = .ok (.new 7, 3) := by decide +kernel
theorem d_Pl_init_8 : decode b_Pl_init 8 = .ok (.dup, 1) := by decide +kernel
theorem d_Pl_init_9 : decode b_Pl_init 9 = .ok (.invokespecial 9, 3) := by decide +kernel
theorem d_Pl_init_12 : decode b_Pl_init 12 = .ok (.putfield 10, 3) := by decide +kernel
theorem d_Pl_init_15 : decode b_Pl_init 15 = .ok (.aload_n 0, 1) := by decide +kernel
theorem d_Pl_init_16 : decode b_Pl_init 16 = .ok (.iconst 1, 1) := by decide +kernel
theorem d_Pl_init_17 : decode b_Pl_init 17 = .ok (.putfield 16, 3) := by decide +kernel
theorem d_Pl_init_20 : decode b_Pl_init 20 = .ok (.aload_n 0, 1) := by decide +kernel
theorem d_Pl_init_21 : decode b_Pl_init 21 = .ok (.iconst 1, 1) := by decide +kernel
theorem d_Pl_init_22 : decode b_Pl_init 22 = .ok (.putfield 20, 3) := by decide +kernel
theorem d_Pl_init_25 : decode b_Pl_init 25 = .ok (.aload_n 0, 1) := by decide +kernel
theorem d_Pl_init_26 : decode b_Pl_init 26 = .ok (.aload_n 1, 1) := by decide +kernel
theorem d_Pl_init_27 : decode b_Pl_init 27 = .ok (.putfield 23, 3) := by decide +kernel
theorem d_Pl_init_30 : decode b_Pl_init 30 = .ok (.aload_n 0, 1) := by decide +kernel
theorem d_Pl_init_31 : decode b_Pl_init 31 = .ok (.lload_n 2, 1) := by decide +kernel
theorem d_Pl_init_32 : decode b_Pl_init 32 = .ok (.putfield 27, 3) := by decide +kernel
theorem d_Pl_init_35 : decode b_Pl_init 35 = .ok (.aload_n 0, 1) := by decide +kernel
theorem d_Pl_init_36 : decode b_Pl_init 36 = .ok (.lload 4, 2) := by decide +kernel
theorem d_Pl_init_38 : decode b_Pl_init 38 = .ok (.putfield 31, 3) := by decide +kernel
theorem d_Pl_init_41 : decode b_Pl_init 41 = .ok (.aload_n 0, 1) := by decide +kernel
theorem d_Pl_init_42 : decode b_Pl_init 42 = .ok (.iload 6, 2) := by decide +kernel
theorem d_Pl_init_44 : decode b_Pl_init 44 = .ok (.putfield 34, 3) := by decide +kernel
theorem d_Pl_init_47 : decode b_Pl_init 47 = .ok (.return_, 1) := by decide +kernel
theorem d_ST_array_0 : decode b_ST_array 0 = .ok (.iload_n 1, 1) := by decide +kernel
theorem d_ST_array_1 : decode b_ST_array 1 = .ok (.ifCond .lt 14, 3) := by decide +kernel
theorem d_ST_array_4 : decode b_ST_array 4 = .ok (.iload_n 1, 1) := by decide +kernel
theorem d_ST_array_5 : decode b_ST_array 5 = .ok (.aload_n 0, 1) := by decide +kernel
theorem d_ST_array_6 : decode b_ST_array 6 = .ok (.getfield 19, 3) := by decide +kernel
theorem d_ST_array_9 : decode b_ST_array 9 = .ok (.invokevirtual 56, 3) := by decide +kernel
theorem d_ST_array_12 : decode b_ST_array 12 = .ok (.if_icmp .lt 13, 3) := by decide +kernel
theorem d_ST_array_15 : decode b_ST_array 15 = .ok (.new 131, 3) := by decide +kernel
theorem d_ST_array_18 : decode b_ST_array 18 = .ok (.dup, 1) := by decide +kernel
theorem d_ST_array_19 : decode b_ST_array 19 = .ok (.ldc 133, 2) := by decide +kernel
theorem d_ST_array_21 : decode b_ST_array 21 = .ok (.invokespecial 135, 3) := by decide +kernel
theorem d_ST_array_24 : decode b_ST_array 24 = .ok (.athrow, 1) := by decide +kernel
theorem d_ST_array_25 : decode b_ST_array 25 = .ok (.iload_n 2, 1) := by decide +kernel
theorem d_ST_array_26 : decode b_ST_array 26 = .ok (.iconst 1, 1) := by decide +kernel
theorem d_ST_array_27 : decode b_ST_array 27 = .ok (.if_icmp .lt 20, 3) := by decide +kernel
theorem d_ST_array_30 : decode b_ST_array 30 = .ok (.iload_n 2, 1) := by decide +kernel
theorem d_ST_array_31 : decode b_ST_array 31 = .ok (.bipush 20, 2) := by decide +kernel
theorem d_ST_array_33 : decode b_ST_array 33 = .ok (.if_icmp .gt 14, 3) := by decide +kernel
theorem d_ST_array_36 : decode b_ST_array 36 = .ok (.iload_n 3, 1) := by decide +kernel
theorem d_ST_array_37 : decode b_ST_array 37 = .ok (.iconst 1, 1) := by decide +kernel
theorem d_ST_array_38 : decode b_ST_array 38 = .ok (.if_icmp .lt 9, 3) := by decide +kernel
theorem d_ST_array_41 : decode b_ST_array 41 = .ok (.iload_n 3, 1) := by decide +kernel
theorem d_ST_array_42 : decode b_ST_array 42 = .ok (.bipush 20, 2) := by decide +kernel
theorem d_ST_array_44 : decode b_ST_array 44 = .ok (.if_icmp .le 13, 3) := by decide +kernel
theorem d_ST_array_47 : decode b_ST_array 47 = .ok (.new 106, 3) := by decide +kernel
theorem d_ST_array_50 : decode b_ST_array 50 = .ok (.dup, 1) := by decide +kernel
theorem d_ST_array_51 : decode b_ST_array 51 = .ok (.ldc 136, 2) := by decide +kernel
theorem d_ST_array_53 : decode b_ST_array 53 = .ok (.invokespecial 110, 3) := by decide +kernel
theorem d_ST_array_56 : decode b_ST_array 56 = .ok (.athrow, 1) := by decide +kernel
theorem d_ST_array_57 : decode b_ST_array 57 = .ok (.lload 4, 2) := by decide +kernel
theorem d_ST_array_59 : decode b_ST_array 59 = .ok (.invokestatic 115, 3) := by decide +kernel
theorem d_ST_array_62 : decode b_ST_array 62 = .ok (.lload 6, 2) := by decide +kernel
theorem d_ST_array_64 : decode b_ST_array 64 = .ok (.invokestatic 115, 3) := by decide +kernel
theorem d_ST_array_67 : decode b_ST_array 67 = .ok (.aload_n 0, 1) := by decide +kernel
theorem d_ST_array_68 : decode b_ST_array 68 = .ok (.getfield 19, 3) := by decide +kernel
theorem d_ST_array_71 : decode b_ST_array 71 = .ok (.iload_n 1, 1) := by decide +kernel
theorem d_ST_array_72 : decode b_ST_array 72 = .ok (.invokevirtual 138, 3) := by decide +kernel
theorem d_ST_array_75 : decode b_ST_array 75 = .ok (.checkcast 125, 3) := by decide +kernel
theorem d_ST_array_78 : decode b_ST_array 78 = .ok (.astore 8, 2) := by decide +kernel
theorem d_ST_array_80 : decode b_ST_array 80 = .ok (.aload 8, 2) := by decide +kernel
theorem d_ST_array_82 : decode b_ST_array 82 = .ok (.iload_n 2, 1) := by decide +kernel
theorem d_ST_array_83 : decode b_ST_array 83 = .ok (.putfield 142, 3) := by decide +kernel
theorem d_ST_array_86 : decode b_ST_array 86 = .ok (.aload 8, 2) := by decide +kernel
theorem d_ST_array_88 : decode b_ST_array 88 = .ok (.iload_n 3, 1) := by decide +kernel
theorem d_ST_array_89 : decode b_ST_array 89 = .ok (.putfield 145, 3) := by decide +kernel
theorem d_ST_array_92 : decode b_ST_array 92 = .ok (.aload 8, 2) := by decide +kernel
theorem d_ST_array_94 : decode b_ST_array 94 = .ok (.lload 4, 2) := by decide +kernel
theorem d_ST_array_96 : decode b_ST_array 96 = .ok (.putfield 148, 3) := by decide +kernel
theorem d_ST_array_99 : decode b_ST_array 99 = .ok (.aload 8, 2) := by decide +kernel
theorem d_ST_array_101 : decode b_ST_array 101 = .ok (.lload 6, 2) := by decide +kernel
theorem d_ST_array_103 : decode b_ST_array 103 = .ok (.putfield 152, 3) := by decide +kernel
theorem d_ST_array_106 : decode b_ST_array 106 = .ok (.aload 8, 2) := by decide +kernel
theorem d_ST_array_108 : decode b_ST_array 108 = .ok (.invokevirtual 155, 3) := by decide +kernel
theorem d_ST_array_111 : decode b_ST_array 111 = .ok (.ireturn, 1) := by decide +kernel
theorem d_Pl_copies_0 : decode b_Pl_copies 0 = .ok (.aload_n 0, 1) := by decide +kernel
theorem d_Pl_copies_1 : decode b_Pl_copies 1 = .ok (.getfield 16, 3) := by decide +kernel
theorem d_Pl_copies_4 : decode b_Pl_copies 4 = .ok (.aload_n 0, 1) := by decide +kernel
theorem d_Pl_copies_5 : decode b_Pl_copies 5 = .ok (.getfield 20, 3) := by decide +kernel
theorem d_Pl_copies_8 : decode b_Pl_copies 8 = .ok (.imul, 1) := by decide +kernel
theorem d_Pl_copies_9 : decode b_Pl_copies 9 = .ok (.ireturn, 1) := by decide +kernel
theorem d_ST_box_0 : decode b_ST_box 0 = .ok (.aload_n 0, 1) := by decide +kernel
theorem d_ST_box_1 : decode b_ST_box 1 = .ok (.iload_n 1, 1) := by decide +kernel
theorem d_ST_box_2 : decode b_ST_box 2 = .ok (.invokevirtual 74, 3) := by decide +kernel
theorem d_ST_box_5 : decode b_ST_box 5 = .ok (.astore 4, 2) := by decide +kernel
theorem d_ST_box_7 : decode b_ST_box 7 = .ok (.aload_n 0, 1) := by decide +kernel
theorem d_ST_box_8 : decode b_ST_box 8 = .ok (.iload_n 2, 1) := by decide +kernel
theorem d_ST_box_9 : decode b_ST_box 9 = .ok (.invokevirtual 78, 3) := by decide +kernel
theorem d_ST_box_12 : decode b_ST_box 12 = .ok (.iload_n 3, 1) := by decide +kernel
theorem d_ST_box_13 : decode b_ST_box 13 = .ok (.ifCond .lt 8, 3) := by decide +kernel
theorem d_ST_box_16 : decode b_ST_box 16 = .ok (.iload_n 3, 1) := by decide +kernel
theorem d_ST_box_17 : decode b_ST_box 17 = .ok (.iconst 3, 1) := by decide +kernel
theorem d_ST_box_18 : decode b_ST_box 18 = .ok (.if_icmp .le 13, 3) := by decide +kernel
theorem d_ST_box_21 : decode b_ST_box 21 = .ok (.new 131, 3) := by decide +kernel
theorem d_ST_box_24 : decode b_ST_box 24 = .ok (.dup, 1) := by decide +kernel
theorem d_ST_box_25 : decode b_ST_box 25 = .ok (.ldc 158, 2) := by decide +kernel
theorem d_ST_box_27 : decode b_ST_box 27 = .ok (.invokespecial 135, 3) := by decide +kernel
theorem d_ST_box_30 : decode b_ST_box 30 = .ok (.athrow, 1) := by decide +kernel
theorem d_ST_box_31 : decode b_ST_box 31 = .ok (.aload_n 0, 1) := by decide +kernel
theorem d_ST_box_32 : decode b_ST_box 32 = .ok (.iload_n 2, 1) := by decide +kernel
theorem d_ST_box_33 : decode b_ST_box 33 = .ok (.invokevirtual 160, 3) := by decide +kernel
theorem d_ST_box_36 : decode b_ST_box 36 = .ok (.aload 4, 2) := by decide +kernel
theorem d_ST_box_38 : decode b_ST_box 38 = .ok (.getfield 163, 3) := by decide +kernel
theorem d_ST_box_41 : decode b_ST_box 41 = .ok (.ifCond .ne 13, 3) := by decide +kernel
theorem d_ST_box_44 : decode b_ST_box 44 = .ok (.new 60, 3) := by decide +kernel
theorem d_ST_box_47 : decode b_ST_box 47 = .ok (.dup, 1) := by decide +kernel
theorem d_ST_box_48 : decode b_ST_box 48 = .ok (.ldc 165, 2) := by decide +kernel
theorem d_ST_box_50 : decode b_ST_box 50 = .ok (.invokespecial 64, 3) := by decide +kernel
theorem d_ST_box_53 : decode b_ST_box 53 = .ok (.athrow, 1) := by decide +kernel
theorem d_ST_box_54 : decode b_ST_box 54 = .ok (.aload 4, 2) := by decide +kernel
theorem d_ST_box_56 : decode b_ST_box 56 = .ok (.getfield 167, 3) := by decide +kernel
theorem d_ST_box_59 : decode b_ST_box 59 = .ok (.iload_n 3, 1) := by decide +kernel
theorem d_ST_box_60 : decode b_ST_box 60 = .ok (.invokevirtual 170, 3) := by decide +kernel
theorem d_ST_box_63 : decode b_ST_box 63 = .ok (.lreturn, 1) := by decide +kernel
theorem d_ST_measureCells_0 : decode b_ST_measureCells 0 = .ok (.iconst 0, 1) := by decide +kernel
theorem d_ST_measureCells_1 : decode b_ST_measureCells 1 = .ok (.istore_n 2, 1) := by decide +kernel
theorem d_ST_measureCells_2 : decode b_ST_measureCells 2 = .ok (.iload_n 2, 1) := by decide +kernel
theorem d_ST_measureCells_3 : decode b_ST_measureCells 3 = .ok (.aload_n 0, 1) := by decide +kernel
theorem d_ST_measureCells_4 : decode b_ST_measureCells 4 = .ok (.getfield 10, 3) := by decide +kernel
theorem d_ST_measureCells_7 : decode b_ST_measureCells 7 = .ok (.invokevirtual 56, 3) := by decide +kernel
theorem d_ST_measureCells_10 : decode b_ST_measureCells 10 = .ok (.if_icmp .ge 24, 3) := by decide +kernel
theorem d_ST_measureCells_13 : decode b_ST_measureCells 13 = .ok (.aload_n 0, 1) := by decide +kernel
theorem d_ST_measureCells_14 : decode b_ST_measureCells 14 = .ok (.getfield 10, 3) := by decide +kernel
theorem d_ST_measureCells_17 : decode b_ST_measureCells 17 = .ok (.iload_n 2, 1) := by decide +kernel
theorem d_ST_measureCells_18 : decode b_ST_measureCells 18 = .ok (.invokevirtual 138, 3) := by decide +kernel
theorem d_ST_measureCells_21 : decode b_ST_measureCells 21 = .ok (.checkcast 67, 3) := by decide +kernel
theorem d_ST_measureCells_24 : decode b_ST_measureCells 24 = .ok (.iconst 0, 1) := by decide +kernel
theorem d_ST_measureCells_25 : decode b_ST_measureCells 25 = .ok (.putfield 291, 3) := by decide +kernel
theorem d_ST_measureCells_28 : decode b_ST_measureCells 28 = .ok (.iinc 2 1, 3) := by decide +kernel
theorem d_ST_measureCells_31 : decode b_ST_measureCells 31 = .ok (.goto (-29), 3) := by decide +kernel
theorem d_ST_measureCells_34 : decode b_ST_measureCells 34 = .ok (.iconst 0, 1) := by decide +kernel
theorem d_ST_measureCells_35 : decode b_ST_measureCells 35 = .ok (.istore_n 2, 1) := by decide +kernel
theorem d_ST_measureCells_36 : decode b_ST_measureCells 36 = .ok (.iload_n 2, 1) := by decide +kernel
theorem d_ST_measureCells_37 : decode b_ST_measureCells 37 = .ok (.aload_n 0, 1) := by decide +kernel
theorem d_ST_measureCells_38 : decode b_ST_measureCells 38 = .ok (.getfield 10, 3) := by decide +kernel
theorem d_ST_measureCells_41 : decode b_ST_measureCells 41 = .ok (.invokevirtual 56, 3) := by decide +kernel
theorem d_ST_measureCells_44 : decode b_ST_measureCells 44 = .ok (.if_icmp .ge 25, 3) := by decide +kernel
theorem d_ST_measureCells_47 : decode b_ST_measureCells 47 = .ok (.aload_n 0, 1) := by decide +kernel
theorem d_ST_measureCells_48 : decode b_ST_measureCells 48 = .ok (.getfield 10, 3) := by decide +kernel
theorem d_ST_measureCells_51 : decode b_ST_measureCells 51 = .ok (.iload_n 2, 1) := by decide +kernel
theorem d_ST_measureCells_52 : decode b_ST_measureCells 52 = .ok (.invokevirtual 138, 3) := by decide +kernel
theorem d_ST_measureCells_55 : decode b_ST_measureCells 55 = .ok (.checkcast 67, 3) := by decide +kernel
theorem d_ST_measureCells_58 : decode b_ST_measureCells 58 = .ok (.iload_n 1, 1) := by decide +kernel
theorem d_ST_measureCells_59 : decode b_ST_measureCells 59 = .ok (.iconst 0, 1) := by decide +kernel
theorem d_ST_measureCells_60 : decode b_ST_measureCells 60 = .ok (.invokestatic 294, 3) := by decide +kernel
theorem d_ST_measureCells_63 : decode b_ST_measureCells 63 = .ok (.iinc 2 1, 3) := by decide +kernel
theorem d_ST_measureCells_66 : decode b_ST_measureCells 66 = .ok (.goto (-30), 3) := by decide +kernel
theorem d_ST_measureCells_69 : decode b_ST_measureCells 69 = .ok (.return_, 1) := by decide +kernel
theorem d_ST_measure_0 : decode b_ST_measure 0 = .ok (.aload_n 0, 1) := by decide +kernel
theorem d_ST_measure_1 : decode b_ST_measure 1 = .ok (.getfield 291, 3) := by decide +kernel
theorem d_ST_measure_4 : decode b_ST_measure 4 = .ok (.ifCond .ne 9, 3) := by decide +kernel
theorem d_ST_measure_7 : decode b_ST_measure 7 = .ok (.iload_n 2, 1) := by decide +kernel
theorem d_ST_measure_8 : decode b_ST_measure 8 = .ok (.bipush 20, 2) := by decide +kernel
theorem d_ST_measure_10 : decode b_ST_measure 10 = .ok (.if_icmp .le 4, 3) := by decide +kernel
theorem d_ST_measure_13 : decode b_ST_measure 13 = .ok (.return_, 1) := by decide +kernel
theorem d_ST_measure_14 : decode b_ST_measure 14 = .ok (.aload_n 0, 1) := by decide +kernel
theorem d_ST_measure_15 : decode b_ST_measure 15 = .ok (.iconst 1, 1) := by decide +kernel
theorem d_ST_measure_16 : decode b_ST_measure 16 = .ok (.putfield 291, 3) := by decide +kernel
theorem d_ST_measure_19 : decode b_ST_measure 19 = .ok (.aload_n 0, 1) := by decide +kernel
theorem d_ST_measure_20 : decode b_ST_measure 20 = .ok (.iload_n 1, 1) := by decide +kernel
theorem d_ST_measure_21 : decode b_ST_measure 21 = .ok (.invokevirtual 298, 3) := by decide +kernel
theorem d_ST_measure_24 : decode b_ST_measure 24 = .ok (.iconst 0, 1) := by decide +kernel
theorem d_ST_measure_25 : decode b_ST_measure 25 = .ok (.istore_n 3, 1) := by decide +kernel
theorem d_ST_measure_26 : decode b_ST_measure 26 = .ok (.iload_n 3, 1) := by decide +kernel
theorem d_ST_measure_27 : decode b_ST_measure 27 = .ok (.aload_n 0, 1) := by decide +kernel
theorem d_ST_measure_28 : decode b_ST_measure 28 = .ok (.getfield 130, 3) := by decide +kernel
theorem d_ST_measure_31 : decode b_ST_measure 31 = .ok (.invokevirtual 56, 3) := by decide +kernel
theorem d_ST_measure_34 : decode b_ST_measure 34 = .ok (.if_icmp .ge 40, 3) := by decide +kernel
theorem d_ST_measure_37 : decode b_ST_measure 37 = .ok (.aload_n 0, 1) := by decide +kernel
theorem d_ST_measure_38 : decode b_ST_measure 38 = .ok (.getfield 130, 3) := by decide +kernel
theorem d_ST_measure_41 : decode b_ST_measure 41 = .ok (.iload_n 3, 1) := by decide +kernel
theorem d_ST_measure_42 : decode b_ST_measure 42 = .ok (.invokevirtual 138, 3) := by decide +kernel
theorem d_ST_measure_45 : decode b_ST_measure 45 = .ok (.checkcast 125, 3) := by decide +kernel
theorem d_ST_measure_48 : decode b_ST_measure 48 = .ok (.astore 4, 2) := by decide +kernel
theorem d_ST_measure_50 : decode b_ST_measure 50 = .ok (.aload 4, 2) := by decide +kernel
theorem d_ST_measure_52 : decode b_ST_measure 52 = .ok (.getfield 287, 3) := by decide +kernel
theorem d_ST_measure_55 : decode b_ST_measure 55 = .ok (.iload_n 1, 1) := by decide +kernel
theorem d_ST_measure_56 : decode b_ST_measure 56 = .ok (.iload_n 2, 1) := by decide +kernel
theorem d_ST_measure_57 : decode b_ST_measure 57 = .ok (.iconst 1, 1) := by decide +kernel
theorem d_ST_measure_58 : decode b_ST_measure 58 = .ok (.iadd, 1) := by decide +kernel
theorem d_ST_measure_59 : decode b_ST_measure 59 = .ok (.invokestatic 294, 3) := by decide +kernel
theorem d_ST_measure_62 : decode b_ST_measure 62 = .ok (.aload_n 0, 1) := by decide +kernel
theorem d_ST_measure_63 : decode b_ST_measure 63 = .ok (.aload 4, 2) := by decide +kernel
theorem d_ST_measure_65 : decode b_ST_measure 65 = .ok (.invokevirtual 301, 3) := by decide +kernel
theorem d_ST_measure_68 : decode b_ST_measure 68 = .ok (.iinc 3 1, 3) := by decide +kernel
theorem d_ST_measure_71 : decode b_ST_measure 71 = .ok (.goto (-45), 3) := by decide +kernel
theorem d_ST_measure_74 : decode b_ST_measure 74 = .ok (.return_, 1) := by decide +kernel
theorem d_Cl_measureOwn_0 : decode b_Cl_measureOwn 0 = .ok (.aload_n 0, 1) := by decide +kernel
theorem d_Cl_measureOwn_1 : decode b_Cl_measureOwn 1 = .ok (.iconst 0, 1) := by decide +kernel
theorem d_Cl_measureOwn_2 : decode b_Cl_measureOwn 2 = .ok (.putfield 28, 3) := by decide +kernel
theorem d_Cl_measureOwn_5 : decode b_Cl_measureOwn 5 = .ok (.aload_n 0, 1) := by decide +kernel
theorem d_Cl_measureOwn_6 : decode b_Cl_measureOwn 6 = .ok (.getfield 24, 3) := by decide +kernel
theorem d_Cl_measureOwn_9 : decode b_Cl_measureOwn 9 = .ok (.invokevirtual 32, 3) := by decide +kernel
theorem d_Cl_measureOwn_12 : decode b_Cl_measureOwn 12 = .ok (.iconst 0, 1) := by decide +kernel
theorem d_Cl_measureOwn_13 : decode b_Cl_measureOwn 13 = .ok (.istore_n 2, 1) := by decide +kernel
theorem d_Cl_measureOwn_14 : decode b_Cl_measureOwn 14 = .ok (.iload_n 2, 1) := by decide +kernel
theorem d_Cl_measureOwn_15 : decode b_Cl_measureOwn 15 = .ok (.aload_n 0, 1) := by decide +kernel
theorem d_Cl_measureOwn_16 : decode b_Cl_measureOwn 16 = .ok (.getfield 12, 3) := by decide +kernel
theorem d_Cl_measureOwn_19 : decode b_Cl_measureOwn 19 = .ok (.invokevirtual 35, 3) := by decide +kernel
theorem d_Cl_measureOwn_22 : decode b_Cl_measureOwn 22 = .ok (.if_icmp .ge 50, 3) := by decide +kernel
theorem d_Cl_measureOwn_25 : decode b_Cl_measureOwn 25 = .ok (.aload_n 0, 1) := by decide +kernel
theorem d_Cl_measureOwn_26 : decode b_Cl_measureOwn 26 = .ok (.getfield 12, 3) := by decide +kernel
theorem d_Cl_measureOwn_29 : decode b_Cl_measureOwn 29 = .ok (.iload_n 2, 1) := by decide +kernel
theorem d_Cl_measureOwn_30 : decode b_Cl_measureOwn 30 = .ok (.invokevirtual 38, 3) := by decide +kernel
theorem d_Cl_measureOwn_33 : decode b_Cl_measureOwn 33 = .ok (.checkcast 42, 3) := by decide +kernel
theorem d_Cl_measureOwn_36 : decode b_Cl_measureOwn 36 = .ok (.astore_n 3, 1) := by decide +kernel
theorem d_Cl_measureOwn_37 : decode b_Cl_measureOwn 37 = .ok (.aload_n 3, 1) := by decide +kernel
theorem d_Cl_measureOwn_38 : decode b_Cl_measureOwn 38 = .ok (.iload_n 1, 1) := by decide +kernel
theorem d_Cl_measureOwn_39 : decode b_Cl_measureOwn 39 = .ok (.invokevirtual 44, 3) := by decide +kernel
theorem d_Cl_measureOwn_42 : decode b_Cl_measureOwn 42 = .ok (.ifCond .eq 24, 3) := by decide +kernel
theorem d_Cl_measureOwn_45 : decode b_Cl_measureOwn 45 = .ok (.aload_n 0, 1) := by decide +kernel
theorem d_Cl_measureOwn_46 : decode b_Cl_measureOwn 46 = .ok (.dup, 1) := by decide +kernel
theorem d_Cl_measureOwn_47 : decode b_Cl_measureOwn 47 = .ok (.getfield 28, 3) := by decide +kernel
theorem d_Cl_measureOwn_50 : decode b_Cl_measureOwn 50 = .ok (.iconst 1, 1) := by decide +kernel
theorem d_Cl_measureOwn_51 : decode b_Cl_measureOwn 51 = .ok (.iadd, 1) := by decide +kernel
theorem d_Cl_measureOwn_52 : decode b_Cl_measureOwn 52 = .ok (.putfield 28, 3) := by decide +kernel
theorem d_Cl_measureOwn_55 : decode b_Cl_measureOwn 55 = .ok (.aload_n 0, 1) := by decide +kernel
theorem d_Cl_measureOwn_56 : decode b_Cl_measureOwn 56 = .ok (.getfield 24, 3) := by decide +kernel
theorem d_Cl_measureOwn_59 : decode b_Cl_measureOwn 59 = .ok (.aload_n 3, 1) := by decide +kernel
theorem d_Cl_measureOwn_60 : decode b_Cl_measureOwn 60 = .ok (.getfield 48, 3) := by decide +kernel
theorem d_Cl_measureOwn_63 : decode b_Cl_measureOwn 63 = .ok (.invokevirtual 49, 3) := by decide +kernel
theorem d_Cl_measureOwn_66 : decode b_Cl_measureOwn 66 = .ok (.iinc 2 1, 3) := by decide +kernel
theorem d_Cl_measureOwn_69 : decode b_Cl_measureOwn 69 = .ok (.goto (-55), 3) := by decide +kernel
theorem d_Cl_measureOwn_72 : decode b_Cl_measureOwn 72 = .ok (.return_, 1) := by decide +kernel
theorem d_Sh_isOn_0 : decode b_Sh_isOn 0 = .ok (.aload_n 0, 1) := by decide +kernel
theorem d_Sh_isOn_1 : decode b_Sh_isOn 1 = .ok (.getfield 43, 3) := by decide +kernel
theorem d_Sh_isOn_4 : decode b_Sh_isOn 4 = .ok (.aload_n 0, 1) := by decide +kernel
theorem d_Sh_isOn_5 : decode b_Sh_isOn 5 = .ok (.invokevirtual 46, 3) := by decide +kernel
theorem d_Sh_isOn_8 : decode b_Sh_isOn 8 = .ok (.ifCond .eq 7, 3) := by decide +kernel
theorem d_Sh_isOn_11 : decode b_Sh_isOn 11 = .ok (.iconst 2, 1) := by decide +kernel
theorem d_Sh_isOn_12 : decode b_Sh_isOn 12 = .ok (.goto 4, 3) := by decide +kernel
theorem d_Sh_isOn_15 : decode b_Sh_isOn 15 = .ok (.iconst 3, 1) := by decide +kernel
theorem d_Sh_isOn_16 : decode b_Sh_isOn 16 = .ok (.if_icmp .ge 7, 3) := by decide +kernel
theorem d_Sh_isOn_19 : decode b_Sh_isOn 19 = .ok (.iconst 1, 1) := by decide +kernel
theorem d_Sh_isOn_20 : decode b_Sh_isOn 20 = .ok (.goto 4, 3) := by decide +kernel
theorem d_Sh_isOn_23 : decode b_Sh_isOn 23 = .ok (.iconst 0, 1) := by decide +kernel
theorem d_Sh_isOn_24 : decode b_Sh_isOn 24 = .ok (.istore_n 2, 1) := by decide +kernel
theorem d_Sh_isOn_25 : decode b_Sh_isOn 25 = .ok (.aload_n 0, 1) := by decide +kernel
theorem d_Sh_isOn_26 : decode b_Sh_isOn 26 = .ok (.getfield 50, 3) := by decide +kernel
theorem d_Sh_isOn_29 : decode b_Sh_isOn 29 = .ok (.ifCond .ne 24, 3) := by decide +kernel
theorem d_Sh_isOn_32 : decode b_Sh_isOn 32 = .ok (.iload_n 2, 1) := by decide +kernel
theorem d_Sh_isOn_33 : decode b_Sh_isOn 33 = .ok (.ifCond .ne 20, 3) := by decide +kernel
theorem d_Sh_isOn_36 : decode b_Sh_isOn 36 = .ok (.iload_n 1, 1) := by decide +kernel
theorem d_Sh_isOn_37 : decode b_Sh_isOn 37 = .ok (.iconst (-1), 1) := by decide +kernel
theorem d_Sh_isOn_38 : decode b_Sh_isOn 38 = .ok (.if_icmp .eq 11, 3) := by decide +kernel
theorem d_Sh_isOn_41 : decode b_Sh_isOn 41 = .ok (.iload_n 1, 1) := by decide +kernel
theorem d_Sh_isOn_42 : decode b_Sh_isOn 42 = .ok (.aload_n 0, 1) := by decide +kernel
theorem d_Sh_isOn_43 : decode b_Sh_isOn 43 = .ok (.getfield 32, 3) := by decide +kernel
theorem d_Sh_isOn_46 : decode b_Sh_isOn 46 = .ok (.if_icmp .ne 7, 3) := by decide +kernel
theorem d_Sh_isOn_49 : decode b_Sh_isOn 49 = .ok (.iconst 1, 1) := by decide +kernel
theorem d_Sh_isOn_50 : decode b_Sh_isOn 50 = .ok (.goto 4, 3) := by decide +kernel
theorem d_Sh_isOn_53 : decode b_Sh_isOn 53 = .ok (.iconst 0, 1) := by decide +kernel
theorem d_Sh_isOn_54 : decode b_Sh_isOn 54 = .ok (.ireturn, 1) := by decide +kernel
theorem d_Bx_holdBox_0 : decode b_Bx_holdBox 0 = .ok (.aload_n 0, 1) := by decide +kernel
theorem d_Bx_holdBox_1 : decode b_Bx_holdBox 1 = .ok (.aload_n 1, 1) := by decide +kernel
theorem d_Bx_holdBox_2 : decode b_Bx_holdBox 2 = .ok (.getfield 13, 3) := by decide +kernel
theorem d_Bx_holdBox_5 : decode b_Bx_holdBox 5 = .ok (.aload_n 1, 1) := by decide +kernel
theorem d_Bx_holdBox_6 : decode b_Bx_holdBox 6 = .ok (.getfield 23, 3) := by decide +kernel
theorem d_Bx_holdBox_9 : decode b_Bx_holdBox 9 = .ok (.aload_n 1, 1) := by decide +kernel
theorem d_Bx_holdBox_10 : decode b_Bx_holdBox 10 = .ok (.getfield 26, 3) := by decide +kernel
theorem d_Bx_holdBox_13 : decode b_Bx_holdBox 13 = .ok (.aload_n 1, 1) := by decide +kernel
theorem d_Bx_holdBox_14 : decode b_Bx_holdBox 14 = .ok (.getfield 32, 3) := by decide +kernel
theorem d_Bx_holdBox_17 : decode b_Bx_holdBox 17 = .ok (.invokevirtual 35, 3) := by decide +kernel
theorem d_Bx_holdBox_20 : decode b_Bx_holdBox 20 = .ok (.return_, 1) := by decide +kernel
theorem d_Cl_measureWith_0 : decode b_Cl_measureWith 0 = .ok (.aload_n 1, 1) := by decide +kernel
theorem d_Cl_measureWith_1 : decode b_Cl_measureWith 1 = .ok (.getfield 53, 3) := by decide +kernel
theorem d_Cl_measureWith_4 : decode b_Cl_measureWith 4 = .ok (.getfield 28, 3) := by decide +kernel
theorem d_Cl_measureWith_7 : decode b_Cl_measureWith 7 = .ok (.ifCond .ne 4, 3) := by decide +kernel
theorem d_Cl_measureWith_10 : decode b_Cl_measureWith 10 = .ok (.return_, 1) := by decide +kernel
theorem d_Cl_measureWith_11 : decode b_Cl_measureWith 11 = .ok (.aload_n 0, 1) := by decide +kernel
theorem d_Cl_measureWith_12 : decode b_Cl_measureWith 12 = .ok (.aload_n 0, 1) := by decide +kernel
theorem d_Cl_measureWith_13 : decode b_Cl_measureWith 13 = .ok (.getfield 28, 3) := by decide +kernel
theorem d_Cl_measureWith_16 : decode b_Cl_measureWith 16 = .ok (.aload_n 1, 1) := by decide +kernel
theorem d_Cl_measureWith_17 : decode b_Cl_measureWith 17 = .ok (.invokevirtual 59, 3) := by decide +kernel
theorem d_Cl_measureWith_20 : decode b_Cl_measureWith 20 = .ok (.aload_n 1, 1) := by decide +kernel
theorem d_Cl_measureWith_21 : decode b_Cl_measureWith 21 = .ok (.getfield 53, 3) := by decide +kernel
theorem d_Cl_measureWith_24 : decode b_Cl_measureWith 24 = .ok (.getfield 28, 3) := by decide +kernel
theorem d_Cl_measureWith_27 : decode b_Cl_measureWith 27 = .ok (.imul, 1) := by decide +kernel
theorem d_Cl_measureWith_28 : decode b_Cl_measureWith 28 = .ok (.iadd, 1) := by decide +kernel
theorem d_Cl_measureWith_29 : decode b_Cl_measureWith 29 = .ok (.sipush 3001, 3) := by decide +kernel
theorem d_Cl_measureWith_32 : decode b_Cl_measureWith 32 = .ok (.invokestatic 62, 3) := by decide +kernel
theorem d_Cl_measureWith_35 : decode b_Cl_measureWith 35 = .ok (.putfield 28, 3) := by decide +kernel
theorem d_Cl_measureWith_38 : decode b_Cl_measureWith 38 = .ok (.aload_n 1, 1) := by decide +kernel
theorem d_Cl_measureWith_39 : decode b_Cl_measureWith 39 = .ok (.invokevirtual 68, 3) := by decide +kernel
theorem d_Cl_measureWith_42 : decode b_Cl_measureWith 42 = .ok (.aload_n 0, 1) := by decide +kernel
theorem d_Cl_measureWith_43 : decode b_Cl_measureWith 43 = .ok (.getfield 24, 3) := by decide +kernel
theorem d_Cl_measureWith_46 : decode b_Cl_measureWith 46 = .ok (.aload_n 1, 1) := by decide +kernel
theorem d_Cl_measureWith_47 : decode b_Cl_measureWith 47 = .ok (.getfield 71, 3) := by decide +kernel
theorem d_Cl_measureWith_50 : decode b_Cl_measureWith 50 = .ok (.invokevirtual 49, 3) := by decide +kernel
theorem d_Cl_measureWith_53 : decode b_Cl_measureWith 53 = .ok (.return_, 1) := by decide +kernel
theorem d_Pl_measureBox_0 : decode b_Pl_measureBox 0 = .ok (.aload_n 0, 1) := by decide +kernel
theorem d_Pl_measureBox_1 : decode b_Pl_measureBox 1 = .ok (.getfield 10, 3) := by decide +kernel
theorem d_Pl_measureBox_4 : decode b_Pl_measureBox 4 = .ok (.aload_n 0, 1) := by decide +kernel
theorem d_Pl_measureBox_5 : decode b_Pl_measureBox 5 = .ok (.getfield 23, 3) := by decide +kernel
theorem d_Pl_measureBox_8 : decode b_Pl_measureBox 8 = .ok (.getfield 37, 3) := by decide +kernel
theorem d_Pl_measureBox_11 : decode b_Pl_measureBox 11 = .ok (.aload_n 0, 1) := by decide +kernel
theorem d_Pl_measureBox_12 : decode b_Pl_measureBox 12 = .ok (.getfield 34, 3) := by decide +kernel
theorem d_Pl_measureBox_15 : decode b_Pl_measureBox 15 = .ok (.aload_n 0, 1) := by decide +kernel
theorem d_Pl_measureBox_16 : decode b_Pl_measureBox 16 = .ok (.getfield 27, 3) := by decide +kernel
theorem d_Pl_measureBox_19 : decode b_Pl_measureBox 19 = .ok (.aload_n 0, 1) := by decide +kernel
theorem d_Pl_measureBox_20 : decode b_Pl_measureBox 20 = .ok (.getfield 31, 3) := by decide +kernel
theorem d_Pl_measureBox_23 : decode b_Pl_measureBox 23 = .ok (.invokevirtual 40, 3) := by decide +kernel
theorem d_Pl_measureBox_26 : decode b_Pl_measureBox 26 = .ok (.aload_n 0, 1) := by decide +kernel
theorem d_Pl_measureBox_27 : decode b_Pl_measureBox 27 = .ok (.getfield 10, 3) := by decide +kernel
theorem d_Pl_measureBox_30 : decode b_Pl_measureBox 30 = .ok (.aload_n 0, 1) := by decide +kernel
theorem d_Pl_measureBox_31 : decode b_Pl_measureBox 31 = .ok (.getfield 16, 3) := by decide +kernel
theorem d_Pl_measureBox_34 : decode b_Pl_measureBox 34 = .ok (.iconst 1, 1) := by decide +kernel
theorem d_Pl_measureBox_35 : decode b_Pl_measureBox 35 = .ok (.isub, 1) := by decide +kernel
theorem d_Pl_measureBox_36 : decode b_Pl_measureBox 36 = .ok (.i2l, 1) := by decide +kernel
theorem d_Pl_measureBox_37 : decode b_Pl_measureBox 37 = .ok (.aload_n 0, 1) := by decide +kernel
theorem d_Pl_measureBox_38 : decode b_Pl_measureBox 38 = .ok (.getfield 44, 3) := by decide +kernel
theorem d_Pl_measureBox_41 : decode b_Pl_measureBox 41 = .ok (.lmul, 1) := by decide +kernel
theorem d_Pl_measureBox_42 : decode b_Pl_measureBox 42 = .ok (.aload_n 0, 1) := by decide +kernel
theorem d_Pl_measureBox_43 : decode b_Pl_measureBox 43 = .ok (.getfield 20, 3) := by decide +kernel
theorem d_Pl_measureBox_46 : decode b_Pl_measureBox 46 = .ok (.iconst 1, 1) := by decide +kernel
theorem d_Pl_measureBox_47 : decode b_Pl_measureBox 47 = .ok (.isub, 1) := by decide +kernel
theorem d_Pl_measureBox_48 : decode b_Pl_measureBox 48 = .ok (.i2l, 1) := by decide +kernel
theorem d_Pl_measureBox_49 : decode b_Pl_measureBox 49 = .ok (.aload_n 0, 1) := by decide +kernel
theorem d_Pl_measureBox_50 : decode b_Pl_measureBox 50 = .ok (.getfield 47, 3) := by decide +kernel
theorem d_Pl_measureBox_53 : decode b_Pl_measureBox 53 = .ok (.lmul, 1) := by decide +kernel
theorem d_Pl_measureBox_54 : decode b_Pl_measureBox 54 = .ok (.invokevirtual 50, 3) := by decide +kernel
theorem d_Pl_measureBox_57 : decode b_Pl_measureBox 57 = .ok (.return_, 1) := by decide +kernel
theorem d_Bx_become_0 : decode b_Bx_become 0 = .ok (.iload_n 2, 1) := by decide +kernel
theorem d_Bx_become_1 : decode b_Bx_become 1 = .ok (.aload_n 1, 1) := by decide +kernel
theorem d_Bx_become_2 : decode b_Bx_become 2 = .ok (.getfield 13, 3) := by decide +kernel
theorem d_Bx_become_5 : decode b_Bx_become 5 = .ok (.aload_n 1, 1) := by decide +kernel
theorem d_Bx_become_6 : decode b_Bx_become 6 = .ok (.getfield 23, 3) := by decide +kernel
theorem d_Bx_become_9 : decode b_Bx_become 9 = .ok (.invokestatic 39, 3) := by decide +kernel
theorem d_Bx_become_12 : decode b_Bx_become 12 = .ok (.lstore 7, 2) := by decide +kernel
theorem d_Bx_become_14 : decode b_Bx_become 14 = .ok (.iload_n 2, 1) := by decide +kernel
theorem d_Bx_become_15 : decode b_Bx_become 15 = .ok (.aload_n 1, 1) := by decide +kernel
theorem d_Bx_become_16 : decode b_Bx_become 16 = .ok (.getfield 13, 3) := by decide +kernel
theorem d_Bx_become_19 : decode b_Bx_become 19 = .ok (.aload_n 1, 1) := by decide +kernel
theorem d_Bx_become_20 : decode b_Bx_become 20 = .ok (.getfield 23, 3) := by decide +kernel
theorem d_Bx_become_23 : decode b_Bx_become 23 = .ok (.invokestatic 45, 3) := by decide +kernel
theorem d_Bx_become_26 : decode b_Bx_become 26 = .ok (.lstore 9, 2) := by decide +kernel
theorem d_Bx_become_28 : decode b_Bx_become 28 = .ok (.iload_n 2, 1) := by decide +kernel
theorem d_Bx_become_29 : decode b_Bx_become 29 = .ok (.aload_n 1, 1) := by decide +kernel
theorem d_Bx_become_30 : decode b_Bx_become 30 = .ok (.getfield 26, 3) := by decide +kernel
theorem d_Bx_become_33 : decode b_Bx_become 33 = .ok (.aload_n 1, 1) := by decide +kernel
theorem d_Bx_become_34 : decode b_Bx_become 34 = .ok (.getfield 32, 3) := by decide +kernel
theorem d_Bx_become_37 : decode b_Bx_become 37 = .ok (.invokestatic 39, 3) := by decide +kernel
theorem d_Bx_become_40 : decode b_Bx_become 40 = .ok (.lstore 11, 2) := by decide +kernel
theorem d_Bx_become_42 : decode b_Bx_become 42 = .ok (.iload_n 2, 1) := by decide +kernel
theorem d_Bx_become_43 : decode b_Bx_become 43 = .ok (.aload_n 1, 1) := by decide +kernel
theorem d_Bx_become_44 : decode b_Bx_become 44 = .ok (.getfield 26, 3) := by decide +kernel
theorem d_Bx_become_47 : decode b_Bx_become 47 = .ok (.aload_n 1, 1) := by decide +kernel
theorem d_Bx_become_48 : decode b_Bx_become 48 = .ok (.getfield 32, 3) := by decide +kernel
theorem d_Bx_become_51 : decode b_Bx_become 51 = .ok (.invokestatic 45, 3) := by decide +kernel
theorem d_Bx_become_54 : decode b_Bx_become 54 = .ok (.lstore 13, 2) := by decide +kernel
theorem d_Bx_become_56 : decode b_Bx_become 56 = .ok (.aload_n 0, 1) := by decide +kernel
theorem d_Bx_become_57 : decode b_Bx_become 57 = .ok (.invokevirtual 48, 3) := by decide +kernel
theorem d_Bx_become_60 : decode b_Bx_become 60 = .ok (.aload_n 0, 1) := by decide +kernel
theorem d_Bx_become_61 : decode b_Bx_become 61 = .ok (.lload_n 3, 1) := by decide +kernel
theorem d_Bx_become_62 : decode b_Bx_become 62 = .ok (.lload 7, 2) := by decide +kernel
theorem d_Bx_become_64 : decode b_Bx_become 64 = .ok (.lload 11, 2) := by decide +kernel
theorem d_Bx_become_66 : decode b_Bx_become 66 = .ok (.invokestatic 17, 3) := by decide +kernel
theorem d_Bx_become_69 : decode b_Bx_become 69 = .ok (.ladd, 1) := by decide +kernel
theorem d_Bx_become_70 : decode b_Bx_become 70 = .ok (.lload 5, 2) := by decide +kernel
theorem d_Bx_become_72 : decode b_Bx_become 72 = .ok (.lload 9, 2) := by decide +kernel
theorem d_Bx_become_74 : decode b_Bx_become 74 = .ok (.lload 13, 2) := by decide +kernel
theorem d_Bx_become_76 : decode b_Bx_become 76 = .ok (.invokestatic 17, 3) := by decide +kernel
theorem d_Bx_become_79 : decode b_Bx_become 79 = .ok (.ladd, 1) := by decide +kernel
theorem d_Bx_become_80 : decode b_Bx_become 80 = .ok (.lload_n 3, 1) := by decide +kernel
theorem d_Bx_become_81 : decode b_Bx_become 81 = .ok (.lload 7, 2) := by decide +kernel
theorem d_Bx_become_83 : decode b_Bx_become 83 = .ok (.lload 11, 2) := by decide +kernel
theorem d_Bx_become_85 : decode b_Bx_become 85 = .ok (.invokestatic 29, 3) := by decide +kernel
theorem d_Bx_become_88 : decode b_Bx_become 88 = .ok (.ladd, 1) := by decide +kernel
theorem d_Bx_become_89 : decode b_Bx_become 89 = .ok (.lload 5, 2) := by decide +kernel
theorem d_Bx_become_91 : decode b_Bx_become 91 = .ok (.lload 9, 2) := by decide +kernel
theorem d_Bx_become_93 : decode b_Bx_become 93 = .ok (.lload 13, 2) := by decide +kernel
theorem d_Bx_become_95 : decode b_Bx_become 95 = .ok (.invokestatic 29, 3) := by decide +kernel
theorem d_Bx_become_98 : decode b_Bx_become 98 = .ok (.ladd, 1) := by decide +kernel
theorem d_Bx_become_99 : decode b_Bx_become 99 = .ok (.invokevirtual 35, 3) := by decide +kernel
theorem d_Bx_become_102 : decode b_Bx_become 102 = .ok (.return_, 1) := by decide +kernel
theorem d_ST_turnedX_0 : decode b_ST_turnedX 0 = .ok (.iload_n 0, 1) := by decide +kernel
theorem d_ST_turnedX_1 : decode b_ST_turnedX 1 = .ok (.tableswitch 55 0 7 #[47, 49, 52, 55, 47, 55, 52, 49], 47) := by decide +kernel
theorem d_ST_turnedX_48 : decode b_ST_turnedX 48 = .ok (.lload_n 1, 1) := by decide +kernel
theorem d_ST_turnedX_49 : decode b_ST_turnedX 49 = .ok (.lreturn, 1) := by decide +kernel
theorem d_ST_turnedX_50 : decode b_ST_turnedX 50 = .ok (.lload_n 3, 1) := by decide +kernel
theorem d_ST_turnedX_51 : decode b_ST_turnedX 51 = .ok (.lneg, 1) := by decide +kernel
theorem d_ST_turnedX_52 : decode b_ST_turnedX 52 = .ok (.lreturn, 1) := by decide +kernel
theorem d_ST_turnedX_53 : decode b_ST_turnedX 53 = .ok (.lload_n 1, 1) := by decide +kernel
theorem d_ST_turnedX_54 : decode b_ST_turnedX 54 = .ok (.lneg, 1) := by decide +kernel
theorem d_ST_turnedX_55 : decode b_ST_turnedX 55 = .ok (.lreturn, 1) := by decide +kernel
theorem d_ST_turnedX_56 : decode b_ST_turnedX 56 = .ok (.lload_n 3, 1) := by decide +kernel
theorem d_ST_turnedX_57 : decode b_ST_turnedX 57 = .ok (.lreturn, 1) := by decide +kernel
theorem d_ST_turnedY_0 : decode b_ST_turnedY 0 = .ok (.iload_n 0, 1) := by decide +kernel
theorem d_ST_turnedY_1 : decode b_ST_turnedY 1 = .ok (.tableswitch 50 0 6 #[43, 45, 47, 50, 47, 45, 43], 43) := by decide +kernel
theorem d_ST_turnedY_44 : decode b_ST_turnedY 44 = .ok (.lload_n 3, 1) := by decide +kernel
theorem d_ST_turnedY_45 : decode b_ST_turnedY 45 = .ok (.lreturn, 1) := by decide +kernel
theorem d_ST_turnedY_46 : decode b_ST_turnedY 46 = .ok (.lload_n 1, 1) := by decide +kernel
theorem d_ST_turnedY_47 : decode b_ST_turnedY 47 = .ok (.lreturn, 1) := by decide +kernel
theorem d_ST_turnedY_48 : decode b_ST_turnedY 48 = .ok (.lload_n 3, 1) := by decide +kernel
theorem d_ST_turnedY_49 : decode b_ST_turnedY 49 = .ok (.lneg, 1) := by decide +kernel
theorem d_ST_turnedY_50 : decode b_ST_turnedY 50 = .ok (.lreturn, 1) := by decide +kernel
theorem d_ST_turnedY_51 : decode b_ST_turnedY 51 = .ok (.lload_n 1, 1) := by decide +kernel
theorem d_ST_turnedY_52 : decode b_ST_turnedY 52 = .ok (.lneg, 1) := by decide +kernel
theorem d_ST_turnedY_53 : decode b_ST_turnedY 53 = .ok (.lreturn, 1) := by decide +kernel
theorem d_Bx_stretch_0 : decode b_Bx_stretch 0 = .ok (.aload_n 0, 1) := by decide +kernel
theorem d_Bx_stretch_1 : decode b_Bx_stretch 1 = .ok (.aload_n 0, 1) := by decide +kernel
theorem d_Bx_stretch_2 : decode b_Bx_stretch 2 = .ok (.getfield 13, 3) := by decide +kernel
theorem d_Bx_stretch_5 : decode b_Bx_stretch 5 = .ok (.lload_n 1, 1) := by decide +kernel
theorem d_Bx_stretch_6 : decode b_Bx_stretch 6 = .ok (.ladd, 1) := by decide +kernel
theorem d_Bx_stretch_7 : decode b_Bx_stretch 7 = .ok (.aload_n 0, 1) := by decide +kernel
theorem d_Bx_stretch_8 : decode b_Bx_stretch 8 = .ok (.getfield 23, 3) := by decide +kernel
theorem d_Bx_stretch_11 : decode b_Bx_stretch 11 = .ok (.lload_n 3, 1) := by decide +kernel
theorem d_Bx_stretch_12 : decode b_Bx_stretch 12 = .ok (.ladd, 1) := by decide +kernel
theorem d_Bx_stretch_13 : decode b_Bx_stretch 13 = .ok (.aload_n 0, 1) := by decide +kernel
theorem d_Bx_stretch_14 : decode b_Bx_stretch 14 = .ok (.getfield 26, 3) := by decide +kernel
theorem d_Bx_stretch_17 : decode b_Bx_stretch 17 = .ok (.lload_n 1, 1) := by decide +kernel
theorem d_Bx_stretch_18 : decode b_Bx_stretch 18 = .ok (.ladd, 1) := by decide +kernel
theorem d_Bx_stretch_19 : decode b_Bx_stretch 19 = .ok (.aload_n 0, 1) := by decide +kernel
theorem d_Bx_stretch_20 : decode b_Bx_stretch 20 = .ok (.getfield 32, 3) := by decide +kernel
theorem d_Bx_stretch_23 : decode b_Bx_stretch 23 = .ok (.lload_n 3, 1) := by decide +kernel
theorem d_Bx_stretch_24 : decode b_Bx_stretch 24 = .ok (.ladd, 1) := by decide +kernel
theorem d_Bx_stretch_25 : decode b_Bx_stretch 25 = .ok (.invokevirtual 35, 3) := by decide +kernel
theorem d_Bx_stretch_28 : decode b_Bx_stretch 28 = .ok (.return_, 1) := by decide +kernel
theorem d_Bx_side_0 : decode b_Bx_side 0 = .ok (.iload_n 1, 1) := by decide +kernel
theorem d_Bx_side_1 : decode b_Bx_side 1 = .ok (.tableswitch 42 0 2 #[27, 32, 37], 27) := by decide +kernel
theorem d_Bx_side_28 : decode b_Bx_side 28 = .ok (.aload_n 0, 1) := by decide +kernel
theorem d_Bx_side_29 : decode b_Bx_side 29 = .ok (.getfield 13, 3) := by decide +kernel
theorem d_Bx_side_32 : decode b_Bx_side 32 = .ok (.lreturn, 1) := by decide +kernel
theorem d_Bx_side_33 : decode b_Bx_side 33 = .ok (.aload_n 0, 1) := by decide +kernel
theorem d_Bx_side_34 : decode b_Bx_side 34 = .ok (.getfield 23, 3) := by decide +kernel
theorem d_Bx_side_37 : decode b_Bx_side 37 = .ok (.lreturn, 1) := by decide +kernel
theorem d_Bx_side_38 : decode b_Bx_side 38 = .ok (.aload_n 0, 1) := by decide +kernel
theorem d_Bx_side_39 : decode b_Bx_side 39 = .ok (.getfield 26, 3) := by decide +kernel
theorem d_Bx_side_42 : decode b_Bx_side 42 = .ok (.lreturn, 1) := by decide +kernel
theorem d_Bx_side_43 : decode b_Bx_side 43 = .ok (.aload_n 0, 1) := by decide +kernel
theorem d_Bx_side_44 : decode b_Bx_side 44 = .ok (.getfield 32, 3) := by decide +kernel
theorem d_Bx_side_47 : decode b_Bx_side 47 = .ok (.lreturn, 1) := by decide +kernel
theorem d_ST_flat_0 : decode b_ST_flat 0 = .ok (.aload_n 0, 1) := by decide +kernel
theorem d_ST_flat_1 : decode b_ST_flat 1 = .ok (.iload_n 1, 1) := by decide +kernel
theorem d_ST_flat_2 : decode b_ST_flat 2 = .ok (.invokevirtual 74, 3) := by decide +kernel
theorem d_ST_flat_5 : decode b_ST_flat 5 = .ok (.astore_n 3, 1) := by decide +kernel
theorem d_ST_flat_6 : decode b_ST_flat 6 = .ok (.aload_n 0, 1) := by decide +kernel
theorem d_ST_flat_7 : decode b_ST_flat 7 = .ok (.iload_n 2, 1) := by decide +kernel
theorem d_ST_flat_8 : decode b_ST_flat 8 = .ok (.invokevirtual 78, 3) := by decide +kernel
theorem d_ST_flat_11 : decode b_ST_flat 11 = .ok (.aload_n 0, 1) := by decide +kernel
theorem d_ST_flat_12 : decode b_ST_flat 12 = .ok (.iconst (-1), 1) := by decide +kernel
theorem d_ST_flat_13 : decode b_ST_flat 13 = .ok (.invokevirtual 160, 3) := by decide +kernel
theorem d_ST_flat_16 : decode b_ST_flat 16 = .ok (.aload_n 3, 1) := by decide +kernel
theorem d_ST_flat_17 : decode b_ST_flat 17 = .ok (.invokestatic 174, 3) := by decide +kernel
theorem d_ST_flat_20 : decode b_ST_flat 20 = .ok (.aload_n 0, 1) := by decide +kernel
theorem d_ST_flat_21 : decode b_ST_flat 21 = .ok (.getfield 25, 3) := by decide +kernel
theorem d_ST_flat_24 : decode b_ST_flat 24 = .ok (.aload_n 3, 1) := by decide +kernel
theorem d_ST_flat_25 : decode b_ST_flat 25 = .ok (.iload_n 2, 1) := by decide +kernel
theorem d_ST_flat_26 : decode b_ST_flat 26 = .ok (.invokevirtual 178, 3) := by decide +kernel
theorem d_ST_flat_29 : decode b_ST_flat 29 = .ok (.aload_n 0, 1) := by decide +kernel
theorem d_ST_flat_30 : decode b_ST_flat 30 = .ok (.getfield 25, 3) := by decide +kernel
theorem d_ST_flat_33 : decode b_ST_flat 33 = .ok (.getfield 182, 3) := by decide +kernel
theorem d_ST_flat_36 : decode b_ST_flat 36 = .ok (.ireturn, 1) := by decide +kernel
theorem d_ST_checkFewShapes_0 : decode b_ST_checkFewShapes 0 = .ok (.aload_n 0, 1) := by decide +kernel
theorem d_ST_checkFewShapes_1 : decode b_ST_checkFewShapes 1 = .ok (.getfield 163, 3) := by decide +kernel
theorem d_ST_checkFewShapes_4 : decode b_ST_checkFewShapes 4 = .ok (.sipush 3000, 3) := by decide +kernel
theorem d_ST_checkFewShapes_7 : decode b_ST_checkFewShapes 7 = .ok (.if_icmp .le 14, 3) := by decide +kernel
theorem d_ST_checkFewShapes_10 : decode b_ST_checkFewShapes 10 = .ok (.new 264, 3) := by decide +kernel
theorem d_ST_checkFewShapes_13 : decode b_ST_checkFewShapes 13 = .ok (.dup, 1) := by decide +kernel
theorem d_ST_checkFewShapes_14 : decode b_ST_checkFewShapes 14 = .ok (.ldc_w 266, 3) := by decide +kernel
theorem d_ST_checkFewShapes_17 : decode b_ST_checkFewShapes 17 = .ok (.invokespecial 268, 3) := by decide +kernel
theorem d_ST_checkFewShapes_20 : decode b_ST_checkFewShapes 20 = .ok (.athrow, 1) := by decide +kernel
theorem d_ST_checkFewShapes_21 : decode b_ST_checkFewShapes 21 = .ok (.return_, 1) := by decide +kernel
theorem d_Fl_lay_0 : decode b_Fl_lay 0 = .ok (.aload_n 0, 1) := by decide +kernel
theorem d_Fl_lay_1 : decode b_Fl_lay 1 = .ok (.iconst 0, 1) := by decide +kernel
theorem d_Fl_lay_2 : decode b_Fl_lay 2 = .ok (.putfield 37, 3) := by decide +kernel
theorem d_Fl_lay_5 : decode b_Fl_lay 5 = .ok (.aload_n 0, 1) := by decide +kernel
theorem d_Fl_lay_6 : decode b_Fl_lay 6 = .ok (.iload_n 2, 1) := by decide +kernel
theorem d_Fl_lay_7 : decode b_Fl_lay 7 = .ok (.putfield 41, 3) := by decide +kernel
theorem d_Fl_lay_10 : decode b_Fl_lay 10 = .ok (.aload_n 0, 1) := by decide +kernel
theorem d_Fl_lay_11 : decode b_Fl_lay 11 = .ok (.aload_n 1, 1) := by decide +kernel
theorem d_Fl_lay_12 : decode b_Fl_lay 12 = .ok (.iconst 0, 1) := by decide +kernel
theorem d_Fl_lay_13 : decode b_Fl_lay 13 = .ok (.lconst 0, 1) := by decide +kernel
theorem d_Fl_lay_14 : decode b_Fl_lay 14 = .ok (.lconst 0, 1) := by decide +kernel
theorem d_Fl_lay_15 : decode b_Fl_lay 15 = .ok (.iconst 0, 1) := by decide +kernel
theorem d_Fl_lay_16 : decode b_Fl_lay 16 = .ok (.invokevirtual 44, 3) := by decide +kernel
theorem d_Fl_lay_19 : decode b_Fl_lay 19 = .ok (.return_, 1) := by decide +kernel
theorem d_Fl_layCell_0 : decode b_Fl_layCell 0 = .ok (.iload 7, 2) := by decide +kernel
theorem d_Fl_layCell_2 : decode b_Fl_layCell 2 = .ok (.bipush 20, 2) := by decide +kernel
theorem d_Fl_layCell_4 : decode b_Fl_layCell 4 = .ok (.if_icmp .le 4, 3) := by decide +kernel
theorem d_Fl_layCell_7 : decode b_Fl_layCell 7 = .ok (.return_, 1) := by decide +kernel
theorem d_Fl_layCell_8 : decode b_Fl_layCell 8 = .ok (.iconst 0, 1) := by decide +kernel
theorem d_Fl_layCell_9 : decode b_Fl_layCell 9 = .ok (.istore 8, 2) := by decide +kernel
theorem d_Fl_layCell_11 : decode b_Fl_layCell 11 = .ok (.iload 8, 2) := by decide +kernel
theorem d_Fl_layCell_13 : decode b_Fl_layCell 13 = .ok (.aload_n 1, 1) := by decide +kernel
theorem d_Fl_layCell_14 : decode b_Fl_layCell 14 = .ok (.getfield 48, 3) := by decide +kernel
theorem d_Fl_layCell_17 : decode b_Fl_layCell 17 = .ok (.invokevirtual 53, 3) := by decide +kernel
theorem d_Fl_layCell_20 : decode b_Fl_layCell 20 = .ok (.if_icmp .ge 45, 3) := by decide +kernel
theorem d_Fl_layCell_23 : decode b_Fl_layCell 23 = .ok (.aload_n 1, 1) := by decide +kernel
theorem d_Fl_layCell_24 : decode b_Fl_layCell 24 = .ok (.getfield 48, 3) := by decide +kernel
theorem d_Fl_layCell_27 : decode b_Fl_layCell 27 = .ok (.iload 8, 2) := by decide +kernel
theorem d_Fl_layCell_29 : decode b_Fl_layCell 29 = .ok (.invokevirtual 59, 3) := by decide +kernel
theorem d_Fl_layCell_32 : decode b_Fl_layCell 32 = .ok (.checkcast 9, 3) := by decide +kernel
theorem d_Fl_layCell_35 : decode b_Fl_layCell 35 = .ok (.astore 9, 2) := by decide +kernel
theorem d_Fl_layCell_37 : decode b_Fl_layCell 37 = .ok (.aload 9, 2) := by decide +kernel
theorem d_Fl_layCell_39 : decode b_Fl_layCell 39 = .ok (.aload_n 0, 1) := by decide +kernel
theorem d_Fl_layCell_40 : decode b_Fl_layCell 40 = .ok (.getfield 41, 3) := by decide +kernel
theorem d_Fl_layCell_43 : decode b_Fl_layCell 43 = .ok (.invokevirtual 63, 3) := by decide +kernel
theorem d_Fl_layCell_46 : decode b_Fl_layCell 46 = .ok (.ifCond .eq 13, 3) := by decide +kernel
theorem d_Fl_layCell_49 : decode b_Fl_layCell 49 = .ok (.aload_n 0, 1) := by decide +kernel
theorem d_Fl_layCell_50 : decode b_Fl_layCell 50 = .ok (.aload 9, 2) := by decide +kernel
theorem d_Fl_layCell_52 : decode b_Fl_layCell 52 = .ok (.iload_n 2, 1) := by decide +kernel
theorem d_Fl_layCell_53 : decode b_Fl_layCell 53 = .ok (.lload_n 3, 1) := by decide +kernel
theorem d_Fl_layCell_54 : decode b_Fl_layCell 54 = .ok (.lload 5, 2) := by decide +kernel
theorem d_Fl_layCell_56 : decode b_Fl_layCell 56 = .ok (.invokevirtual 67, 3) := by decide +kernel
theorem d_Fl_layCell_59 : decode b_Fl_layCell 59 = .ok (.iinc 8 1, 3) := by decide +kernel
theorem d_Fl_layCell_62 : decode b_Fl_layCell 62 = .ok (.goto (-51), 3) := by decide +kernel
theorem d_Fl_layCell_65 : decode b_Fl_layCell 65 = .ok (.iconst 0, 1) := by decide +kernel
theorem d_Fl_layCell_66 : decode b_Fl_layCell 66 = .ok (.istore 8, 2) := by decide +kernel
theorem d_Fl_layCell_68 : decode b_Fl_layCell 68 = .ok (.iload 8, 2) := by decide +kernel
theorem d_Fl_layCell_70 : decode b_Fl_layCell 70 = .ok (.aload_n 1, 1) := by decide +kernel
theorem d_Fl_layCell_71 : decode b_Fl_layCell 71 = .ok (.getfield 71, 3) := by decide +kernel
theorem d_Fl_layCell_74 : decode b_Fl_layCell 74 = .ok (.invokevirtual 53, 3) := by decide +kernel
theorem d_Fl_layCell_77 : decode b_Fl_layCell 77 = .ok (.if_icmp .ge 46, 3) := by decide +kernel
theorem d_Fl_layCell_80 : decode b_Fl_layCell 80 = .ok (.aload_n 1, 1) := by decide +kernel
theorem d_Fl_layCell_81 : decode b_Fl_layCell 81 = .ok (.getfield 71, 3) := by decide +kernel
theorem d_Fl_layCell_84 : decode b_Fl_layCell 84 = .ok (.iload 8, 2) := by decide +kernel
theorem d_Fl_layCell_86 : decode b_Fl_layCell 86 = .ok (.invokevirtual 59, 3) := by decide +kernel
theorem d_Fl_layCell_89 : decode b_Fl_layCell 89 = .ok (.checkcast 74, 3) := by decide +kernel
theorem d_Fl_layCell_92 : decode b_Fl_layCell 92 = .ok (.astore 9, 2) := by decide +kernel
theorem d_Fl_layCell_94 : decode b_Fl_layCell 94 = .ok (.aload 9, 2) := by decide +kernel
theorem d_Fl_layCell_96 : decode b_Fl_layCell 96 = .ok (.getfield 76, 3) := by decide +kernel
theorem d_Fl_layCell_99 : decode b_Fl_layCell 99 = .ok (.getfield 80, 3) := by decide +kernel
theorem d_Fl_layCell_102 : decode b_Fl_layCell 102 = .ok (.ifCond .le 15, 3) := by decide +kernel
theorem d_Fl_layCell_105 : decode b_Fl_layCell 105 = .ok (.aload_n 0, 1) := by decide +kernel
theorem d_Fl_layCell_106 : decode b_Fl_layCell 106 = .ok (.aload 9, 2) := by decide +kernel
theorem d_Fl_layCell_108 : decode b_Fl_layCell 108 = .ok (.iload_n 2, 1) := by decide +kernel
theorem d_Fl_layCell_109 : decode b_Fl_layCell 109 = .ok (.lload_n 3, 1) := by decide +kernel
theorem d_Fl_layCell_110 : decode b_Fl_layCell 110 = .ok (.lload 5, 2) := by decide +kernel
theorem d_Fl_layCell_112 : decode b_Fl_layCell 112 = .ok (.iload 7, 2) := by decide +kernel
theorem d_Fl_layCell_114 : decode b_Fl_layCell 114 = .ok (.invokevirtual 82, 3) := by decide +kernel
theorem d_Fl_layCell_117 : decode b_Fl_layCell 117 = .ok (.iinc 8 1, 3) := by decide +kernel
theorem d_Fl_layCell_120 : decode b_Fl_layCell 120 = .ok (.goto (-52), 3) := by decide +kernel
theorem d_Fl_layCell_123 : decode b_Fl_layCell 123 = .ok (.return_, 1) := by decide +kernel
theorem d_Fl_add_0 : decode b_Fl_add 0 = .ok (.aload_n 0, 1) := by decide +kernel
theorem d_Fl_add_1 : decode b_Fl_add 1 = .ok (.getfield 37, 3) := by decide +kernel
theorem d_Fl_add_4 : decode b_Fl_add 4 = .ok (.sipush 3000, 3) := by decide +kernel
theorem d_Fl_add_7 : decode b_Fl_add 7 = .ok (.if_icmp .lt 4, 3) := by decide +kernel
theorem d_Fl_add_10 : decode b_Fl_add 10 = .ok (.return_, 1) := by decide +kernel
theorem d_Fl_add_11 : decode b_Fl_add 11 = .ok (.aload_n 0, 1) := by decide +kernel
theorem d_Fl_add_12 : decode b_Fl_add 12 = .ok (.getfield 11, 3) := by decide +kernel
theorem d_Fl_add_15 : decode b_Fl_add 15 = .ok (.aload_n 0, 1) := by decide +kernel
theorem d_Fl_add_16 : decode b_Fl_add 16 = .ok (.getfield 37, 3) := by decide +kernel
theorem d_Fl_add_19 : decode b_Fl_add 19 = .ok (.aload_n 1, 1) := by decide +kernel
theorem d_Fl_add_20 : decode b_Fl_add 20 = .ok (.aastore, 1) := by decide +kernel
theorem d_Fl_add_21 : decode b_Fl_add 21 = .ok (.aload_n 0, 1) := by decide +kernel
theorem d_Fl_add_22 : decode b_Fl_add 22 = .ok (.getfield 17, 3) := by decide +kernel
theorem d_Fl_add_25 : decode b_Fl_add 25 = .ok (.aload_n 0, 1) := by decide +kernel
theorem d_Fl_add_26 : decode b_Fl_add 26 = .ok (.getfield 37, 3) := by decide +kernel
theorem d_Fl_add_29 : decode b_Fl_add 29 = .ok (.aload_n 1, 1) := by decide +kernel
theorem d_Fl_add_30 : decode b_Fl_add 30 = .ok (.getfield 119, 3) := by decide +kernel
theorem d_Fl_add_33 : decode b_Fl_add 33 = .ok (.iastore, 1) := by decide +kernel
theorem d_Fl_add_34 : decode b_Fl_add 34 = .ok (.aload_n 0, 1) := by decide +kernel
theorem d_Fl_add_35 : decode b_Fl_add 35 = .ok (.getfield 21, 3) := by decide +kernel
theorem d_Fl_add_38 : decode b_Fl_add 38 = .ok (.aload_n 0, 1) := by decide +kernel
theorem d_Fl_add_39 : decode b_Fl_add 39 = .ok (.getfield 37, 3) := by decide +kernel
theorem d_Fl_add_42 : decode b_Fl_add 42 = .ok (.iload_n 2, 1) := by decide +kernel
theorem d_Fl_add_43 : decode b_Fl_add 43 = .ok (.iastore, 1) := by decide +kernel
theorem d_Fl_add_44 : decode b_Fl_add 44 = .ok (.aload_n 0, 1) := by decide +kernel
theorem d_Fl_add_45 : decode b_Fl_add 45 = .ok (.getfield 24, 3) := by decide +kernel
theorem d_Fl_add_48 : decode b_Fl_add 48 = .ok (.aload_n 0, 1) := by decide +kernel
theorem d_Fl_add_49 : decode b_Fl_add 49 = .ok (.getfield 37, 3) := by decide +kernel
theorem d_Fl_add_52 : decode b_Fl_add 52 = .ok (.lload_n 3, 1) := by decide +kernel
theorem d_Fl_add_53 : decode b_Fl_add 53 = .ok (.lastore, 1) := by decide +kernel
theorem d_Fl_add_54 : decode b_Fl_add 54 = .ok (.aload_n 0, 1) := by decide +kernel
theorem d_Fl_add_55 : decode b_Fl_add 55 = .ok (.getfield 28, 3) := by decide +kernel
theorem d_Fl_add_58 : decode b_Fl_add 58 = .ok (.aload_n 0, 1) := by decide +kernel
theorem d_Fl_add_59 : decode b_Fl_add 59 = .ok (.getfield 37, 3) := by decide +kernel
theorem d_Fl_add_62 : decode b_Fl_add 62 = .ok (.lload 5, 2) := by decide +kernel
theorem d_Fl_add_64 : decode b_Fl_add 64 = .ok (.lastore, 1) := by decide +kernel
theorem d_Fl_add_65 : decode b_Fl_add 65 = .ok (.aload_n 0, 1) := by decide +kernel
theorem d_Fl_add_66 : decode b_Fl_add 66 = .ok (.dup, 1) := by decide +kernel
theorem d_Fl_add_67 : decode b_Fl_add 67 = .ok (.getfield 37, 3) := by decide +kernel
theorem d_Fl_add_70 : decode b_Fl_add 70 = .ok (.iconst 1, 1) := by decide +kernel
theorem d_Fl_add_71 : decode b_Fl_add 71 = .ok (.iadd, 1) := by decide +kernel
theorem d_Fl_add_72 : decode b_Fl_add 72 = .ok (.putfield 37, 3) := by decide +kernel
theorem d_Fl_add_75 : decode b_Fl_add 75 = .ok (.return_, 1) := by decide +kernel
theorem d_Fl_layPlace_0 : decode b_Fl_layPlace 0 = .ok (.iload_n 2, 1) := by decide +kernel
theorem d_Fl_layPlace_1 : decode b_Fl_layPlace 1 = .ok (.aload_n 1, 1) := by decide +kernel
theorem d_Fl_layPlace_2 : decode b_Fl_layPlace 2 = .ok (.getfield 86, 3) := by decide +kernel
theorem d_Fl_layPlace_5 : decode b_Fl_layPlace 5 = .ok (.invokestatic 89, 3) := by decide +kernel
theorem d_Fl_layPlace_8 : decode b_Fl_layPlace 8 = .ok (.istore 8, 2) := by decide +kernel
theorem d_Fl_layPlace_10 : decode b_Fl_layPlace 10 = .ok (.iconst 0, 1) := by decide +kernel
theorem d_Fl_layPlace_11 : decode b_Fl_layPlace 11 = .ok (.istore 9, 2) := by decide +kernel
theorem d_Fl_layPlace_13 : decode b_Fl_layPlace 13 = .ok (.iload 9, 2) := by decide +kernel
theorem d_Fl_layPlace_15 : decode b_Fl_layPlace 15 = .ok (.aload_n 1, 1) := by decide +kernel
theorem d_Fl_layPlace_16 : decode b_Fl_layPlace 16 = .ok (.getfield 93, 3) := by decide +kernel
theorem d_Fl_layPlace_19 : decode b_Fl_layPlace 19 = .ok (.if_icmp .ge 92, 3) := by decide +kernel
theorem d_Fl_layPlace_22 : decode b_Fl_layPlace 22 = .ok (.iconst 0, 1) := by decide +kernel
theorem d_Fl_layPlace_23 : decode b_Fl_layPlace 23 = .ok (.istore 10, 2) := by decide +kernel
theorem d_Fl_layPlace_25 : decode b_Fl_layPlace 25 = .ok (.iload 10, 2) := by decide +kernel
theorem d_Fl_layPlace_27 : decode b_Fl_layPlace 27 = .ok (.aload_n 1, 1) := by decide +kernel
theorem d_Fl_layPlace_28 : decode b_Fl_layPlace 28 = .ok (.getfield 96, 3) := by decide +kernel
theorem d_Fl_layPlace_31 : decode b_Fl_layPlace 31 = .ok (.if_icmp .ge 74, 3) := by decide +kernel
theorem d_Fl_layPlace_34 : decode b_Fl_layPlace 34 = .ok (.aload_n 1, 1) := by decide +kernel
theorem d_Fl_layPlace_35 : decode b_Fl_layPlace 35 = .ok (.getfield 99, 3) := by decide +kernel
theorem d_Fl_layPlace_38 : decode b_Fl_layPlace 38 = .ok (.iload 10, 2) := by decide +kernel
theorem d_Fl_layPlace_40 : decode b_Fl_layPlace 40 = .ok (.i2l, 1) := by decide +kernel
theorem d_Fl_layPlace_41 : decode b_Fl_layPlace 41 = .ok (.aload_n 1, 1) := by decide +kernel
theorem d_Fl_layPlace_42 : decode b_Fl_layPlace 42 = .ok (.getfield 103, 3) := by decide +kernel
theorem d_Fl_layPlace_45 : decode b_Fl_layPlace 45 = .ok (.lmul, 1) := by decide +kernel
theorem d_Fl_layPlace_46 : decode b_Fl_layPlace 46 = .ok (.ladd, 1) := by decide +kernel
theorem d_Fl_layPlace_47 : decode b_Fl_layPlace 47 = .ok (.lstore 11, 2) := by decide +kernel
theorem d_Fl_layPlace_49 : decode b_Fl_layPlace 49 = .ok (.aload_n 1, 1) := by decide +kernel
theorem d_Fl_layPlace_50 : decode b_Fl_layPlace 50 = .ok (.getfield 106, 3) := by decide +kernel
theorem d_Fl_layPlace_53 : decode b_Fl_layPlace 53 = .ok (.iload 9, 2) := by decide +kernel
theorem d_Fl_layPlace_55 : decode b_Fl_layPlace 55 = .ok (.i2l, 1) := by decide +kernel
theorem d_Fl_layPlace_56 : decode b_Fl_layPlace 56 = .ok (.aload_n 1, 1) := by decide +kernel
theorem d_Fl_layPlace_57 : decode b_Fl_layPlace 57 = .ok (.getfield 109, 3) := by decide +kernel
theorem d_Fl_layPlace_60 : decode b_Fl_layPlace 60 = .ok (.lmul, 1) := by decide +kernel
theorem d_Fl_layPlace_61 : decode b_Fl_layPlace 61 = .ok (.ladd, 1) := by decide +kernel
theorem d_Fl_layPlace_62 : decode b_Fl_layPlace 62 = .ok (.lstore 13, 2) := by decide +kernel
theorem d_Fl_layPlace_64 : decode b_Fl_layPlace 64 = .ok (.aload_n 0, 1) := by decide +kernel
theorem d_Fl_layPlace_65 : decode b_Fl_layPlace 65 = .ok (.aload_n 1, 1) := by decide +kernel
theorem d_Fl_layPlace_66 : decode b_Fl_layPlace 66 = .ok (.getfield 76, 3) := by decide +kernel
theorem d_Fl_layPlace_69 : decode b_Fl_layPlace 69 = .ok (.iload 8, 2) := by decide +kernel
theorem d_Fl_layPlace_71 : decode b_Fl_layPlace 71 = .ok (.lload_n 3, 1) := by decide +kernel
theorem d_Fl_layPlace_72 : decode b_Fl_layPlace 72 = .ok (.iload_n 2, 1) := by decide +kernel
theorem d_Fl_layPlace_73 : decode b_Fl_layPlace 73 = .ok (.lload 11, 2) := by decide +kernel
theorem d_Fl_layPlace_75 : decode b_Fl_layPlace 75 = .ok (.lload 13, 2) := by decide +kernel
theorem d_Fl_layPlace_77 : decode b_Fl_layPlace 77 = .ok (.invokestatic 112, 3) := by decide +kernel
theorem d_Fl_layPlace_80 : decode b_Fl_layPlace 80 = .ok (.ladd, 1) := by decide +kernel
theorem d_Fl_layPlace_81 : decode b_Fl_layPlace 81 = .ok (.lload 5, 2) := by decide +kernel
theorem d_Fl_layPlace_83 : decode b_Fl_layPlace 83 = .ok (.iload_n 2, 1) := by decide +kernel
theorem d_Fl_layPlace_84 : decode b_Fl_layPlace 84 = .ok (.lload 11, 2) := by decide +kernel
theorem d_Fl_layPlace_86 : decode b_Fl_layPlace 86 = .ok (.lload 13, 2) := by decide +kernel
theorem d_Fl_layPlace_88 : decode b_Fl_layPlace 88 = .ok (.invokestatic 116, 3) := by decide +kernel
theorem d_Fl_layPlace_91 : decode b_Fl_layPlace 91 = .ok (.ladd, 1) := by decide +kernel
theorem d_Fl_layPlace_92 : decode b_Fl_layPlace 92 = .ok (.iload 7, 2) := by decide +kernel
theorem d_Fl_layPlace_94 : decode b_Fl_layPlace 94 = .ok (.iconst 1, 1) := by decide +kernel
theorem d_Fl_layPlace_95 : decode b_Fl_layPlace 95 = .ok (.iadd, 1) := by decide +kernel
theorem d_Fl_layPlace_96 : decode b_Fl_layPlace 96 = .ok (.invokevirtual 44, 3) := by decide +kernel
theorem d_Fl_layPlace_99 : decode b_Fl_layPlace 99 = .ok (.iinc 10 1, 3) := by decide +kernel
theorem d_Fl_layPlace_102 : decode b_Fl_layPlace 102 = .ok (.goto (-77), 3) := by decide +kernel
theorem d_Fl_layPlace_105 : decode b_Fl_layPlace 105 = .ok (.iinc 9 1, 3) := by decide +kernel
theorem d_Fl_layPlace_108 : decode b_Fl_layPlace 108 = .ok (.goto (-95), 3) := by decide +kernel
theorem d_Fl_layPlace_111 : decode b_Fl_layPlace 111 = .ok (.return_, 1) := by decide +kernel
theorem d_ST_bothTurns_0 : decode b_ST_bothTurns 0 = .ok (.iload_n 0, 1) := by decide +kernel
theorem d_ST_bothTurns_1 : decode b_ST_bothTurns 1 = .ok (.iconst 4, 1) := by decide +kernel
theorem d_ST_bothTurns_2 : decode b_ST_bothTurns 2 = .ok (.if_icmp .lt 9, 3) := by decide +kernel
theorem d_ST_bothTurns_5 : decode b_ST_bothTurns 5 = .ok (.iload_n 0, 1) := by decide +kernel
theorem d_ST_bothTurns_6 : decode b_ST_bothTurns 6 = .ok (.iload_n 1, 1) := by decide +kernel
theorem d_ST_bothTurns_7 : decode b_ST_bothTurns 7 = .ok (.isub, 1) := by decide +kernel
theorem d_ST_bothTurns_8 : decode b_ST_bothTurns 8 = .ok (.goto 6, 3) := by decide +kernel
theorem d_ST_bothTurns_11 : decode b_ST_bothTurns 11 = .ok (.iload_n 0, 1) := by decide +kernel
theorem d_ST_bothTurns_12 : decode b_ST_bothTurns 12 = .ok (.iload_n 1, 1) := by decide +kernel
theorem d_ST_bothTurns_13 : decode b_ST_bothTurns 13 = .ok (.iadd, 1) := by decide +kernel
theorem d_ST_bothTurns_14 : decode b_ST_bothTurns 14 = .ok (.istore_n 2, 1) := by decide +kernel
theorem d_ST_bothTurns_15 : decode b_ST_bothTurns 15 = .ok (.iload_n 2, 1) := by decide +kernel
theorem d_ST_bothTurns_16 : decode b_ST_bothTurns 16 = .ok (.iconst 3, 1) := by decide +kernel
theorem d_ST_bothTurns_17 : decode b_ST_bothTurns 17 = .ok (.iand, 1) := by decide +kernel
theorem d_ST_bothTurns_18 : decode b_ST_bothTurns 18 = .ok (.iload_n 0, 1) := by decide +kernel
theorem d_ST_bothTurns_19 : decode b_ST_bothTurns 19 = .ok (.iload_n 1, 1) := by decide +kernel
theorem d_ST_bothTurns_20 : decode b_ST_bothTurns 20 = .ok (.ixor, 1) := by decide +kernel
theorem d_ST_bothTurns_21 : decode b_ST_bothTurns 21 = .ok (.iconst 4, 1) := by decide +kernel
theorem d_ST_bothTurns_22 : decode b_ST_bothTurns 22 = .ok (.iand, 1) := by decide +kernel
theorem d_ST_bothTurns_23 : decode b_ST_bothTurns 23 = .ok (.ior, 1) := by decide +kernel
theorem d_ST_bothTurns_24 : decode b_ST_bothTurns 24 = .ok (.ireturn, 1) := by decide +kernel
theorem d_ST_at_0 : decode b_ST_at 0 = .ok (.iload_n 1, 1) := by decide +kernel
theorem d_ST_at_1 : decode b_ST_at 1 = .ok (.ifCond .lt 14, 3) := by decide +kernel
theorem d_ST_at_4 : decode b_ST_at 4 = .ok (.iload_n 1, 1) := by decide +kernel
theorem d_ST_at_5 : decode b_ST_at 5 = .ok (.aload_n 0, 1) := by decide +kernel
theorem d_ST_at_6 : decode b_ST_at 6 = .ok (.getfield 25, 3) := by decide +kernel
theorem d_ST_at_9 : decode b_ST_at 9 = .ok (.getfield 182, 3) := by decide +kernel
theorem d_ST_at_12 : decode b_ST_at 12 = .ok (.if_icmp .lt 13, 3) := by decide +kernel
theorem d_ST_at_15 : decode b_ST_at 15 = .ok (.new 131, 3) := by decide +kernel
theorem d_ST_at_18 : decode b_ST_at 18 = .ok (.dup, 1) := by decide +kernel
theorem d_ST_at_19 : decode b_ST_at 19 = .ok (.ldc 185, 2) := by decide +kernel
theorem d_ST_at_21 : decode b_ST_at 21 = .ok (.invokespecial 135, 3) := by decide +kernel
theorem d_ST_at_24 : decode b_ST_at 24 = .ok (.athrow, 1) := by decide +kernel
theorem d_ST_at_25 : decode b_ST_at 25 = .ok (.iload_n 2, 1) := by decide +kernel
theorem d_ST_at_26 : decode b_ST_at 26 = .ok (.ifCond .lt 16, 3) := by decide +kernel
theorem d_ST_at_29 : decode b_ST_at 29 = .ok (.iload_n 2, 1) := by decide +kernel
theorem d_ST_at_30 : decode b_ST_at 30 = .ok (.aload_n 0, 1) := by decide +kernel
theorem d_ST_at_31 : decode b_ST_at 31 = .ok (.getfield 25, 3) := by decide +kernel
theorem d_ST_at_34 : decode b_ST_at 34 = .ok (.getfield 187, 3) := by decide +kernel
theorem d_ST_at_37 : decode b_ST_at 37 = .ok (.iload_n 1, 1) := by decide +kernel
theorem d_ST_at_38 : decode b_ST_at 38 = .ok (.iaload, 1) := by decide +kernel
theorem d_ST_at_39 : decode b_ST_at 39 = .ok (.if_icmp .lt 13, 3) := by decide +kernel
theorem d_ST_at_42 : decode b_ST_at 42 = .ok (.new 131, 3) := by decide +kernel
theorem d_ST_at_45 : decode b_ST_at 45 = .ok (.dup, 1) := by decide +kernel
theorem d_ST_at_46 : decode b_ST_at 46 = .ok (.ldc 191, 2) := by decide +kernel
theorem d_ST_at_48 : decode b_ST_at 48 = .ok (.invokespecial 135, 3) := by decide +kernel
theorem d_ST_at_51 : decode b_ST_at 51 = .ok (.athrow, 1) := by decide +kernel
theorem d_ST_at_52 : decode b_ST_at 52 = .ok (.iload_n 3, 1) := by decide +kernel
theorem d_ST_at_53 : decode b_ST_at 53 = .ok (.ifCond .lt 8, 3) := by decide +kernel
theorem d_ST_at_56 : decode b_ST_at 56 = .ok (.iload_n 3, 1) := by decide +kernel
theorem d_ST_at_57 : decode b_ST_at 57 = .ok (.iconst 1, 1) := by decide +kernel
theorem d_ST_at_58 : decode b_ST_at 58 = .ok (.if_icmp .le 13, 3) := by decide +kernel
theorem d_ST_at_61 : decode b_ST_at 61 = .ok (.new 131, 3) := by decide +kernel
theorem d_ST_at_64 : decode b_ST_at 64 = .ok (.dup, 1) := by decide +kernel
theorem d_ST_at_65 : decode b_ST_at 65 = .ok (.ldc 193, 2) := by decide +kernel
theorem d_ST_at_67 : decode b_ST_at 67 = .ok (.invokespecial 135, 3) := by decide +kernel
theorem d_ST_at_70 : decode b_ST_at 70 = .ok (.athrow, 1) := by decide +kernel
theorem d_ST_at_71 : decode b_ST_at 71 = .ok (.iload_n 3, 1) := by decide +kernel
theorem d_ST_at_72 : decode b_ST_at 72 = .ok (.ifCond .ne 15, 3) := by decide +kernel
theorem d_ST_at_75 : decode b_ST_at 75 = .ok (.aload_n 0, 1) := by decide +kernel
theorem d_ST_at_76 : decode b_ST_at 76 = .ok (.getfield 25, 3) := by decide +kernel
theorem d_ST_at_79 : decode b_ST_at 79 = .ok (.iload_n 1, 1) := by decide +kernel
theorem d_ST_at_80 : decode b_ST_at 80 = .ok (.iload_n 2, 1) := by decide +kernel
theorem d_ST_at_81 : decode b_ST_at 81 = .ok (.invokevirtual 195, 3) := by decide +kernel
theorem d_ST_at_84 : decode b_ST_at 84 = .ok (.goto 12, 3) := by decide +kernel
theorem d_ST_at_87 : decode b_ST_at 87 = .ok (.aload_n 0, 1) := by decide +kernel
theorem d_ST_at_88 : decode b_ST_at 88 = .ok (.getfield 25, 3) := by decide +kernel
theorem d_ST_at_91 : decode b_ST_at 91 = .ok (.iload_n 1, 1) := by decide +kernel
theorem d_ST_at_92 : decode b_ST_at 92 = .ok (.iload_n 2, 1) := by decide +kernel
theorem d_ST_at_93 : decode b_ST_at 93 = .ok (.invokevirtual 199, 3) := by decide +kernel
theorem d_ST_at_96 : decode b_ST_at 96 = .ok (.lreturn, 1) := by decide +kernel
theorem d_Fl_cornerX_0 : decode b_Fl_cornerX 0 = .ok (.aload_n 0, 1) := by decide +kernel
theorem d_Fl_cornerX_1 : decode b_Fl_cornerX 1 = .ok (.getfield 24, 3) := by decide +kernel
theorem d_Fl_cornerX_4 : decode b_Fl_cornerX 4 = .ok (.iload_n 1, 1) := by decide +kernel
theorem d_Fl_cornerX_5 : decode b_Fl_cornerX 5 = .ok (.laload, 1) := by decide +kernel
theorem d_Fl_cornerX_6 : decode b_Fl_cornerX 6 = .ok (.aload_n 0, 1) := by decide +kernel
theorem d_Fl_cornerX_7 : decode b_Fl_cornerX 7 = .ok (.getfield 21, 3) := by decide +kernel
theorem d_Fl_cornerX_10 : decode b_Fl_cornerX 10 = .ok (.iload_n 1, 1) := by decide +kernel
theorem d_Fl_cornerX_11 : decode b_Fl_cornerX 11 = .ok (.iaload, 1) := by decide +kernel
theorem d_Fl_cornerX_12 : decode b_Fl_cornerX 12 = .ok (.aload_n 0, 1) := by decide +kernel
theorem d_Fl_cornerX_13 : decode b_Fl_cornerX 13 = .ok (.getfield 11, 3) := by decide +kernel
theorem d_Fl_cornerX_16 : decode b_Fl_cornerX 16 = .ok (.iload_n 1, 1) := by decide +kernel
theorem d_Fl_cornerX_17 : decode b_Fl_cornerX 17 = .ok (.aaload, 1) := by decide +kernel
theorem d_Fl_cornerX_18 : decode b_Fl_cornerX 18 = .ok (.getfield 120, 3) := by decide +kernel
theorem d_Fl_cornerX_21 : decode b_Fl_cornerX 21 = .ok (.iload_n 2, 1) := by decide +kernel
theorem d_Fl_cornerX_22 : decode b_Fl_cornerX 22 = .ok (.laload, 1) := by decide +kernel
theorem d_Fl_cornerX_23 : decode b_Fl_cornerX 23 = .ok (.aload_n 0, 1) := by decide +kernel
theorem d_Fl_cornerX_24 : decode b_Fl_cornerX 24 = .ok (.getfield 11, 3) := by decide +kernel
theorem d_Fl_cornerX_27 : decode b_Fl_cornerX 27 = .ok (.iload_n 1, 1) := by decide +kernel
theorem d_Fl_cornerX_28 : decode b_Fl_cornerX 28 = .ok (.aaload, 1) := by decide +kernel
theorem d_Fl_cornerX_29 : decode b_Fl_cornerX 29 = .ok (.getfield 121, 3) := by decide +kernel
theorem d_Fl_cornerX_32 : decode b_Fl_cornerX 32 = .ok (.iload_n 2, 1) := by decide +kernel
theorem d_Fl_cornerX_33 : decode b_Fl_cornerX 33 = .ok (.laload, 1) := by decide +kernel
theorem d_Fl_cornerX_34 : decode b_Fl_cornerX 34 = .ok (.invokestatic 112, 3) := by decide +kernel
theorem d_Fl_cornerX_37 : decode b_Fl_cornerX 37 = .ok (.ladd, 1) := by decide +kernel
theorem d_Fl_cornerX_38 : decode b_Fl_cornerX 38 = .ok (.lreturn, 1) := by decide +kernel
theorem d_Fl_cornerY_0 : decode b_Fl_cornerY 0 = .ok (.aload_n 0, 1) := by decide +kernel
theorem d_Fl_cornerY_1 : decode b_Fl_cornerY 1 = .ok (.getfield 28, 3) := by decide +kernel
theorem d_Fl_cornerY_4 : decode b_Fl_cornerY 4 = .ok (.iload_n 1, 1) := by decide +kernel
theorem d_Fl_cornerY_5 : decode b_Fl_cornerY 5 = .ok (.laload, 1) := by decide +kernel
theorem d_Fl_cornerY_6 : decode b_Fl_cornerY 6 = .ok (.aload_n 0, 1) := by decide +kernel
theorem d_Fl_cornerY_7 : decode b_Fl_cornerY 7 = .ok (.getfield 21, 3) := by decide +kernel
theorem d_Fl_cornerY_10 : decode b_Fl_cornerY 10 = .ok (.iload_n 1, 1) := by decide +kernel
theorem d_Fl_cornerY_11 : decode b_Fl_cornerY 11 = .ok (.iaload, 1) := by decide +kernel
theorem d_Fl_cornerY_12 : decode b_Fl_cornerY 12 = .ok (.aload_n 0, 1) := by decide +kernel
theorem d_Fl_cornerY_13 : decode b_Fl_cornerY 13 = .ok (.getfield 11, 3) := by decide +kernel
theorem d_Fl_cornerY_16 : decode b_Fl_cornerY 16 = .ok (.iload_n 1, 1) := by decide +kernel
theorem d_Fl_cornerY_17 : decode b_Fl_cornerY 17 = .ok (.aaload, 1) := by decide +kernel
theorem d_Fl_cornerY_18 : decode b_Fl_cornerY 18 = .ok (.getfield 120, 3) := by decide +kernel
theorem d_Fl_cornerY_21 : decode b_Fl_cornerY 21 = .ok (.iload_n 2, 1) := by decide +kernel
theorem d_Fl_cornerY_22 : decode b_Fl_cornerY 22 = .ok (.laload, 1) := by decide +kernel
theorem d_Fl_cornerY_23 : decode b_Fl_cornerY 23 = .ok (.aload_n 0, 1) := by decide +kernel
theorem d_Fl_cornerY_24 : decode b_Fl_cornerY 24 = .ok (.getfield 11, 3) := by decide +kernel
theorem d_Fl_cornerY_27 : decode b_Fl_cornerY 27 = .ok (.iload_n 1, 1) := by decide +kernel
theorem d_Fl_cornerY_28 : decode b_Fl_cornerY 28 = .ok (.aaload, 1) := by decide +kernel
theorem d_Fl_cornerY_29 : decode b_Fl_cornerY 29 = .ok (.getfield 121, 3) := by decide +kernel
theorem d_Fl_cornerY_32 : decode b_Fl_cornerY 32 = .ok (.iload_n 2, 1) := by decide +kernel
theorem d_Fl_cornerY_33 : decode b_Fl_cornerY 33 = .ok (.laload, 1) := by decide +kernel
theorem d_Fl_cornerY_34 : decode b_Fl_cornerY 34 = .ok (.invokestatic 116, 3) := by decide +kernel
theorem d_Fl_cornerY_37 : decode b_Fl_cornerY 37 = .ok (.ladd, 1) := by decide +kernel
theorem d_Fl_cornerY_38 : decode b_Fl_cornerY 38 = .ok (.lreturn, 1) := by decide +kernel
theorem d_ST_equalTo_0 : decode b_ST_equalTo 0 = .ok (.aload_n 0, 1) := by decide +kernel
theorem d_ST_equalTo_1 : decode b_ST_equalTo 1 = .ok (.iload_n 1, 1) := by decide +kernel
theorem d_ST_equalTo_2 : decode b_ST_equalTo 2 = .ok (.invokevirtual 74, 3) := by decide +kernel
theorem d_ST_equalTo_5 : decode b_ST_equalTo 5 = .ok (.astore_n 2, 1) := by decide +kernel
theorem d_ST_equalTo_6 : decode b_ST_equalTo 6 = .ok (.aload_n 0, 1) := by decide +kernel
theorem d_ST_equalTo_7 : decode b_ST_equalTo 7 = .ok (.iconst (-1), 1) := by decide +kernel
theorem d_ST_equalTo_8 : decode b_ST_equalTo 8 = .ok (.invokevirtual 160, 3) := by decide +kernel
theorem d_ST_equalTo_11 : decode b_ST_equalTo 11 = .ok (.iconst 0, 1) := by decide +kernel
theorem d_ST_equalTo_12 : decode b_ST_equalTo 12 = .ok (.istore_n 3, 1) := by decide +kernel
theorem d_ST_equalTo_13 : decode b_ST_equalTo 13 = .ok (.iload_n 3, 1) := by decide +kernel
theorem d_ST_equalTo_14 : decode b_ST_equalTo 14 = .ok (.iload_n 1, 1) := by decide +kernel
theorem d_ST_equalTo_15 : decode b_ST_equalTo 15 = .ok (.if_icmp .gt 23, 3) := by decide +kernel
theorem d_ST_equalTo_18 : decode b_ST_equalTo 18 = .ok (.aload_n 0, 1) := by decide +kernel
theorem d_ST_equalTo_19 : decode b_ST_equalTo 19 = .ok (.getfield 10, 3) := by decide +kernel
theorem d_ST_equalTo_22 : decode b_ST_equalTo 22 = .ok (.iload_n 3, 1) := by decide +kernel
theorem d_ST_equalTo_23 : decode b_ST_equalTo 23 = .ok (.invokevirtual 138, 3) := by decide +kernel
theorem d_ST_equalTo_26 : decode b_ST_equalTo 26 = .ok (.checkcast 67, 3) := by decide +kernel
theorem d_ST_equalTo_29 : decode b_ST_equalTo 29 = .ok (.invokestatic 174, 3) := by decide +kernel
theorem d_ST_equalTo_32 : decode b_ST_equalTo 32 = .ok (.iinc 3 1, 3) := by decide +kernel
theorem d_ST_equalTo_35 : decode b_ST_equalTo 35 = .ok (.goto (-22), 3) := by decide +kernel
theorem d_ST_equalTo_38 : decode b_ST_equalTo 38 = .ok (.iconst 0, 1) := by decide +kernel
theorem d_ST_equalTo_39 : decode b_ST_equalTo 39 = .ok (.istore_n 3, 1) := by decide +kernel
theorem d_ST_equalTo_40 : decode b_ST_equalTo 40 = .ok (.iconst 0, 1) := by decide +kernel
theorem d_ST_equalTo_41 : decode b_ST_equalTo 41 = .ok (.istore 4, 2) := by decide +kernel
theorem d_ST_equalTo_43 : decode b_ST_equalTo 43 = .ok (.iload 4, 2) := by decide +kernel
theorem d_ST_equalTo_45 : decode b_ST_equalTo 45 = .ok (.iload_n 1, 1) := by decide +kernel
theorem d_ST_equalTo_46 : decode b_ST_equalTo 46 = .ok (.if_icmp .ge 75, 3) := by decide +kernel
theorem d_ST_equalTo_49 : decode b_ST_equalTo 49 = .ok (.aload_n 0, 1) := by decide +kernel
theorem d_ST_equalTo_50 : decode b_ST_equalTo 50 = .ok (.getfield 10, 3) := by decide +kernel
theorem d_ST_equalTo_53 : decode b_ST_equalTo 53 = .ok (.iload 4, 2) := by decide +kernel
theorem d_ST_equalTo_55 : decode b_ST_equalTo 55 = .ok (.invokevirtual 138, 3) := by decide +kernel
theorem d_ST_equalTo_58 : decode b_ST_equalTo 58 = .ok (.checkcast 67, 3) := by decide +kernel
theorem d_ST_equalTo_61 : decode b_ST_equalTo 61 = .ok (.astore 5, 2) := by decide +kernel
theorem d_ST_equalTo_63 : decode b_ST_equalTo 63 = .ok (.aload_n 2, 1) := by decide +kernel
theorem d_ST_equalTo_64 : decode b_ST_equalTo 64 = .ok (.aload 5, 2) := by decide +kernel
theorem d_ST_equalTo_66 : decode b_ST_equalTo 66 = .ok (.invokestatic 202, 3) := by decide +kernel
theorem d_ST_equalTo_69 : decode b_ST_equalTo 69 = .ok (.ifCond .ne 6, 3) := by decide +kernel
theorem d_ST_equalTo_72 : decode b_ST_equalTo 72 = .ok (.goto 43, 3) := by decide +kernel
theorem d_ST_equalTo_75 : decode b_ST_equalTo 75 = .ok (.iload_n 3, 1) := by decide +kernel
theorem d_ST_equalTo_76 : decode b_ST_equalTo 76 = .ok (.ifCond .ne 13, 3) := by decide +kernel
theorem d_ST_equalTo_79 : decode b_ST_equalTo 79 = .ok (.aload_n 0, 1) := by decide +kernel
theorem d_ST_equalTo_80 : decode b_ST_equalTo 80 = .ok (.getfield 29, 3) := by decide +kernel
theorem d_ST_equalTo_83 : decode b_ST_equalTo 83 = .ok (.aload_n 2, 1) := by decide +kernel
theorem d_ST_equalTo_84 : decode b_ST_equalTo 84 = .ok (.invokevirtual 205, 3) := by decide +kernel
theorem d_ST_equalTo_87 : decode b_ST_equalTo 87 = .ok (.iconst 1, 1) := by decide +kernel
theorem d_ST_equalTo_88 : decode b_ST_equalTo 88 = .ok (.istore_n 3, 1) := by decide +kernel
theorem d_ST_equalTo_89 : decode b_ST_equalTo 89 = .ok (.aload_n 0, 1) := by decide +kernel
theorem d_ST_equalTo_90 : decode b_ST_equalTo 90 = .ok (.getfield 32, 3) := by decide +kernel
theorem d_ST_equalTo_93 : decode b_ST_equalTo 93 = .ok (.aload 5, 2) := by decide +kernel
theorem d_ST_equalTo_95 : decode b_ST_equalTo 95 = .ok (.invokevirtual 205, 3) := by decide +kernel
theorem d_ST_equalTo_98 : decode b_ST_equalTo 98 = .ok (.aload_n 0, 1) := by decide +kernel
theorem d_ST_equalTo_99 : decode b_ST_equalTo 99 = .ok (.getfield 29, 3) := by decide +kernel
theorem d_ST_equalTo_102 : decode b_ST_equalTo 102 = .ok (.aload_n 0, 1) := by decide +kernel
theorem d_ST_equalTo_103 : decode b_ST_equalTo 103 = .ok (.getfield 32, 3) := by decide +kernel
theorem d_ST_equalTo_106 : decode b_ST_equalTo 106 = .ok (.invokevirtual 208, 3) := by decide +kernel
theorem d_ST_equalTo_109 : decode b_ST_equalTo 109 = .ok (.ifCond .eq 6, 3) := by decide +kernel
theorem d_ST_equalTo_112 : decode b_ST_equalTo 112 = .ok (.iload 4, 2) := by decide +kernel
theorem d_ST_equalTo_114 : decode b_ST_equalTo 114 = .ok (.ireturn, 1) := by decide +kernel
theorem d_ST_equalTo_115 : decode b_ST_equalTo 115 = .ok (.iinc 4 1, 3) := by decide +kernel
theorem d_ST_equalTo_118 : decode b_ST_equalTo 118 = .ok (.goto (-75), 3) := by decide +kernel
theorem d_ST_equalTo_121 : decode b_ST_equalTo 121 = .ok (.iconst (-1), 1) := by decide +kernel
theorem d_ST_equalTo_122 : decode b_ST_equalTo 122 = .ok (.ireturn, 1) := by decide +kernel
theorem d_ST_sameSize_0 : decode b_ST_sameSize 0 = .ok (.aload_n 0, 1) := by decide +kernel
theorem d_ST_sameSize_1 : decode b_ST_sameSize 1 = .ok (.getfield 163, 3) := by decide +kernel
theorem d_ST_sameSize_4 : decode b_ST_sameSize 4 = .ok (.aload_n 1, 1) := by decide +kernel
theorem d_ST_sameSize_5 : decode b_ST_sameSize 5 = .ok (.getfield 163, 3) := by decide +kernel
theorem d_ST_sameSize_8 : decode b_ST_sameSize 8 = .ok (.if_icmp .eq 5, 3) := by decide +kernel
theorem d_ST_sameSize_11 : decode b_ST_sameSize 11 = .ok (.iconst 0, 1) := by decide +kernel
theorem d_ST_sameSize_12 : decode b_ST_sameSize 12 = .ok (.ireturn, 1) := by decide +kernel
theorem d_ST_sameSize_13 : decode b_ST_sameSize 13 = .ok (.aload_n 0, 1) := by decide +kernel
theorem d_ST_sameSize_14 : decode b_ST_sameSize 14 = .ok (.getfield 163, 3) := by decide +kernel
theorem d_ST_sameSize_17 : decode b_ST_sameSize 17 = .ok (.ifCond .eq 39, 3) := by decide +kernel
theorem d_ST_sameSize_20 : decode b_ST_sameSize 20 = .ok (.aload_n 0, 1) := by decide +kernel
theorem d_ST_sameSize_21 : decode b_ST_sameSize 21 = .ok (.getfield 167, 3) := by decide +kernel
theorem d_ST_sameSize_24 : decode b_ST_sameSize 24 = .ok (.invokevirtual 305, 3) := by decide +kernel
theorem d_ST_sameSize_27 : decode b_ST_sameSize 27 = .ok (.aload_n 1, 1) := by decide +kernel
theorem d_ST_sameSize_28 : decode b_ST_sameSize 28 = .ok (.getfield 167, 3) := by decide +kernel
theorem d_ST_sameSize_31 : decode b_ST_sameSize 31 = .ok (.invokevirtual 305, 3) := by decide +kernel
theorem d_ST_sameSize_34 : decode b_ST_sameSize 34 = .ok (.lcmp, 1) := by decide +kernel
theorem d_ST_sameSize_35 : decode b_ST_sameSize 35 = .ok (.ifCond .ne 25, 3) := by decide +kernel
theorem d_ST_sameSize_38 : decode b_ST_sameSize 38 = .ok (.aload_n 0, 1) := by decide +kernel
theorem d_ST_sameSize_39 : decode b_ST_sameSize 39 = .ok (.getfield 167, 3) := by decide +kernel
theorem d_ST_sameSize_42 : decode b_ST_sameSize 42 = .ok (.invokevirtual 309, 3) := by decide +kernel
theorem d_ST_sameSize_45 : decode b_ST_sameSize 45 = .ok (.aload_n 1, 1) := by decide +kernel
theorem d_ST_sameSize_46 : decode b_ST_sameSize 46 = .ok (.getfield 167, 3) := by decide +kernel
theorem d_ST_sameSize_49 : decode b_ST_sameSize 49 = .ok (.invokevirtual 309, 3) := by decide +kernel
theorem d_ST_sameSize_52 : decode b_ST_sameSize 52 = .ok (.lcmp, 1) := by decide +kernel
theorem d_ST_sameSize_53 : decode b_ST_sameSize 53 = .ok (.ifCond .ne 7, 3) := by decide +kernel
theorem d_ST_sameSize_56 : decode b_ST_sameSize 56 = .ok (.iconst 1, 1) := by decide +kernel
theorem d_ST_sameSize_57 : decode b_ST_sameSize 57 = .ok (.goto 4, 3) := by decide +kernel
theorem d_ST_sameSize_60 : decode b_ST_sameSize 60 = .ok (.iconst 0, 1) := by decide +kernel
theorem d_ST_sameSize_61 : decode b_ST_sameSize 61 = .ok (.ireturn, 1) := by decide +kernel
theorem d_Bx_width_0 : decode b_Bx_width 0 = .ok (.aload_n 0, 1) := by decide +kernel
theorem d_Bx_width_1 : decode b_Bx_width 1 = .ok (.getfield 26, 3) := by decide +kernel
theorem d_Bx_width_4 : decode b_Bx_width 4 = .ok (.aload_n 0, 1) := by decide +kernel
theorem d_Bx_width_5 : decode b_Bx_width 5 = .ok (.getfield 13, 3) := by decide +kernel
theorem d_Bx_width_8 : decode b_Bx_width 8 = .ok (.lsub, 1) := by decide +kernel
theorem d_Bx_width_9 : decode b_Bx_width 9 = .ok (.lreturn, 1) := by decide +kernel
theorem d_Bx_height_0 : decode b_Bx_height 0 = .ok (.aload_n 0, 1) := by decide +kernel
theorem d_Bx_height_1 : decode b_Bx_height 1 = .ok (.getfield 32, 3) := by decide +kernel
theorem d_Bx_height_4 : decode b_Bx_height 4 = .ok (.aload_n 0, 1) := by decide +kernel
theorem d_Bx_height_5 : decode b_Bx_height 5 = .ok (.getfield 23, 3) := by decide +kernel
theorem d_Bx_height_8 : decode b_Bx_height 8 = .ok (.lsub, 1) := by decide +kernel
theorem d_Bx_height_9 : decode b_Bx_height 9 = .ok (.lreturn, 1) := by decide +kernel
theorem d_Fl_layFromZero_0 : decode b_Fl_layFromZero 0 = .ok (.aload_n 0, 1) := by decide +kernel
theorem d_Fl_layFromZero_1 : decode b_Fl_layFromZero 1 = .ok (.aload_n 1, 1) := by decide +kernel
theorem d_Fl_layFromZero_2 : decode b_Fl_layFromZero 2 = .ok (.iconst (-1), 1) := by decide +kernel
theorem d_Fl_layFromZero_3 : decode b_Fl_layFromZero 3 = .ok (.invokevirtual 122, 3) := by decide +kernel
theorem d_Fl_layFromZero_6 : decode b_Fl_layFromZero 6 = .ok (.aload_n 0, 1) := by decide +kernel
theorem d_Fl_layFromZero_7 : decode b_Fl_layFromZero 7 = .ok (.lconst 0, 1) := by decide +kernel
theorem d_Fl_layFromZero_8 : decode b_Fl_layFromZero 8 = .ok (.putfield 126, 3) := by decide +kernel
theorem d_Fl_layFromZero_11 : decode b_Fl_layFromZero 11 = .ok (.aload_n 0, 1) := by decide +kernel
theorem d_Fl_layFromZero_12 : decode b_Fl_layFromZero 12 = .ok (.iconst 0, 1) := by decide +kernel
theorem d_Fl_layFromZero_13 : decode b_Fl_layFromZero 13 = .ok (.putfield 129, 3) := by decide +kernel
theorem d_Fl_layFromZero_16 : decode b_Fl_layFromZero 16 = .ok (.iconst 0, 1) := by decide +kernel
theorem d_Fl_layFromZero_17 : decode b_Fl_layFromZero 17 = .ok (.istore_n 2, 1) := by decide +kernel
theorem d_Fl_layFromZero_18 : decode b_Fl_layFromZero 18 = .ok (.iload_n 2, 1) := by decide +kernel
theorem d_Fl_layFromZero_19 : decode b_Fl_layFromZero 19 = .ok (.aload_n 0, 1) := by decide +kernel
theorem d_Fl_layFromZero_20 : decode b_Fl_layFromZero 20 = .ok (.getfield 37, 3) := by decide +kernel
theorem d_Fl_layFromZero_23 : decode b_Fl_layFromZero 23 = .ok (.if_icmp .ge 77, 3) := by decide +kernel
theorem d_Fl_layFromZero_26 : decode b_Fl_layFromZero 26 = .ok (.aload_n 0, 1) := by decide +kernel
theorem d_Fl_layFromZero_27 : decode b_Fl_layFromZero 27 = .ok (.getfield 24, 3) := by decide +kernel
theorem d_Fl_layFromZero_30 : decode b_Fl_layFromZero 30 = .ok (.iload_n 2, 1) := by decide +kernel
theorem d_Fl_layFromZero_31 : decode b_Fl_layFromZero 31 = .ok (.dup2, 1) := by decide +kernel
theorem d_Fl_layFromZero_32 : decode b_Fl_layFromZero 32 = .ok (.laload, 1) := by decide +kernel
theorem d_Fl_layFromZero_33 : decode b_Fl_layFromZero 33 = .ok (.aload_n 1, 1) := by decide +kernel
theorem d_Fl_layFromZero_34 : decode b_Fl_layFromZero 34 = .ok (.getfield 133, 3) := by decide +kernel
theorem d_Fl_layFromZero_37 : decode b_Fl_layFromZero 37 = .ok (.getfield 137, 3) := by decide +kernel
theorem d_Fl_layFromZero_40 : decode b_Fl_layFromZero 40 = .ok (.lsub, 1) := by decide +kernel
theorem d_Fl_layFromZero_41 : decode b_Fl_layFromZero 41 = .ok (.lastore, 1) := by decide +kernel
theorem d_Fl_layFromZero_42 : decode b_Fl_layFromZero 42 = .ok (.aload_n 0, 1) := by decide +kernel
theorem d_Fl_layFromZero_43 : decode b_Fl_layFromZero 43 = .ok (.getfield 28, 3) := by decide +kernel
theorem d_Fl_layFromZero_46 : decode b_Fl_layFromZero 46 = .ok (.iload_n 2, 1) := by decide +kernel
theorem d_Fl_layFromZero_47 : decode b_Fl_layFromZero 47 = .ok (.dup2, 1) := by decide +kernel
theorem d_Fl_layFromZero_48 : decode b_Fl_layFromZero 48 = .ok (.laload, 1) := by decide +kernel
theorem d_Fl_layFromZero_49 : decode b_Fl_layFromZero 49 = .ok (.aload_n 1, 1) := by decide +kernel
theorem d_Fl_layFromZero_50 : decode b_Fl_layFromZero 50 = .ok (.getfield 133, 3) := by decide +kernel
theorem d_Fl_layFromZero_53 : decode b_Fl_layFromZero 53 = .ok (.getfield 142, 3) := by decide +kernel
theorem d_Fl_layFromZero_56 : decode b_Fl_layFromZero 56 = .ok (.lsub, 1) := by decide +kernel
theorem d_Fl_layFromZero_57 : decode b_Fl_layFromZero 57 = .ok (.lastore, 1) := by decide +kernel
theorem d_Fl_layFromZero_58 : decode b_Fl_layFromZero 58 = .ok (.aload_n 0, 1) := by decide +kernel
theorem d_Fl_layFromZero_59 : decode b_Fl_layFromZero 59 = .ok (.getfield 31, 3) := by decide +kernel
theorem d_Fl_layFromZero_62 : decode b_Fl_layFromZero 62 = .ok (.iload_n 2, 1) := by decide +kernel
theorem d_Fl_layFromZero_63 : decode b_Fl_layFromZero 63 = .ok (.iload_n 2, 1) := by decide +kernel
theorem d_Fl_layFromZero_64 : decode b_Fl_layFromZero 64 = .ok (.iastore, 1) := by decide +kernel
theorem d_Fl_layFromZero_65 : decode b_Fl_layFromZero 65 = .ok (.aload_n 0, 1) := by decide +kernel
theorem d_Fl_layFromZero_66 : decode b_Fl_layFromZero 66 = .ok (.getfield 11, 3) := by decide +kernel
theorem d_Fl_layFromZero_69 : decode b_Fl_layFromZero 69 = .ok (.iload_n 2, 1) := by decide +kernel
theorem d_Fl_layFromZero_70 : decode b_Fl_layFromZero 70 = .ok (.aaload, 1) := by decide +kernel
theorem d_Fl_layFromZero_71 : decode b_Fl_layFromZero 71 = .ok (.aload_n 0, 1) := by decide +kernel
theorem d_Fl_layFromZero_72 : decode b_Fl_layFromZero 72 = .ok (.getfield 21, 3) := by decide +kernel
theorem d_Fl_layFromZero_75 : decode b_Fl_layFromZero 75 = .ok (.iload_n 2, 1) := by decide +kernel
theorem d_Fl_layFromZero_76 : decode b_Fl_layFromZero 76 = .ok (.iaload, 1) := by decide +kernel
theorem d_Fl_layFromZero_77 : decode b_Fl_layFromZero 77 = .ok (.invokevirtual 145, 3) := by decide +kernel
theorem d_Fl_layFromZero_80 : decode b_Fl_layFromZero 80 = .ok (.aload_n 0, 1) := by decide +kernel
theorem d_Fl_layFromZero_81 : decode b_Fl_layFromZero 81 = .ok (.dup, 1) := by decide +kernel
theorem d_Fl_layFromZero_82 : decode b_Fl_layFromZero 82 = .ok (.getfield 126, 3) := by decide +kernel
theorem d_Fl_layFromZero_85 : decode b_Fl_layFromZero 85 = .ok (.aload_n 0, 1) := by decide +kernel
theorem d_Fl_layFromZero_86 : decode b_Fl_layFromZero 86 = .ok (.iload_n 2, 1) := by decide +kernel
theorem d_Fl_layFromZero_87 : decode b_Fl_layFromZero 87 = .ok (.invokevirtual 149, 3) := by decide +kernel
theorem d_Fl_layFromZero_90 : decode b_Fl_layFromZero 90 = .ok (.ladd, 1) := by decide +kernel
theorem d_Fl_layFromZero_91 : decode b_Fl_layFromZero 91 = .ok (.putfield 126, 3) := by decide +kernel
theorem d_Fl_layFromZero_94 : decode b_Fl_layFromZero 94 = .ok (.iinc 2 1, 3) := by decide +kernel
theorem d_Fl_layFromZero_97 : decode b_Fl_layFromZero 97 = .ok (.goto (-79), 3) := by decide +kernel
theorem d_Fl_layFromZero_100 : decode b_Fl_layFromZero 100 = .ok (.return_, 1) := by decide +kernel
theorem d_Sh_settleOrder_0 : decode b_Sh_settleOrder 0 = .ok (.aload_n 0, 1) := by decide +kernel
theorem d_Sh_settleOrder_1 : decode b_Sh_settleOrder 1 = .ok (.getfield 29, 3) := by decide +kernel
theorem d_Sh_settleOrder_4 : decode b_Sh_settleOrder 4 = .ok (.iload_n 1, 1) := by decide +kernel
theorem d_Sh_settleOrder_5 : decode b_Sh_settleOrder 5 = .ok (.iaload, 1) := by decide +kernel
theorem d_Sh_settleOrder_6 : decode b_Sh_settleOrder 6 = .ok (.ifCond .ne 10, 3) := by decide +kernel
theorem d_Sh_settleOrder_9 : decode b_Sh_settleOrder 9 = .ok (.aload_n 0, 1) := by decide +kernel
theorem d_Sh_settleOrder_10 : decode b_Sh_settleOrder 10 = .ok (.getfield 43, 3) := by decide +kernel
theorem d_Sh_settleOrder_13 : decode b_Sh_settleOrder 13 = .ok (.ifCond .ne 4, 3) := by decide +kernel
theorem d_Sh_settleOrder_16 : decode b_Sh_settleOrder 16 = .ok (.return_, 1) := by decide +kernel
theorem d_Sh_settleOrder_17 : decode b_Sh_settleOrder 17 = .ok (.aload_n 0, 1) := by decide +kernel
theorem d_Sh_settleOrder_18 : decode b_Sh_settleOrder 18 = .ok (.getfield 25, 3) := by decide +kernel
theorem d_Sh_settleOrder_21 : decode b_Sh_settleOrder 21 = .ok (.iload_n 1, 1) := by decide +kernel
theorem d_Sh_settleOrder_22 : decode b_Sh_settleOrder 22 = .ok (.iconst 0, 1) := by decide +kernel
theorem d_Sh_settleOrder_23 : decode b_Sh_settleOrder 23 = .ok (.iastore, 1) := by decide +kernel
theorem d_Sh_settleOrder_24 : decode b_Sh_settleOrder 24 = .ok (.aload_n 0, 1) := by decide +kernel
theorem d_Sh_settleOrder_25 : decode b_Sh_settleOrder 25 = .ok (.getfield 29, 3) := by decide +kernel
theorem d_Sh_settleOrder_28 : decode b_Sh_settleOrder 28 = .ok (.iload_n 1, 1) := by decide +kernel
theorem d_Sh_settleOrder_29 : decode b_Sh_settleOrder 29 = .ok (.iconst 1, 1) := by decide +kernel
theorem d_Sh_settleOrder_30 : decode b_Sh_settleOrder 30 = .ok (.iastore, 1) := by decide +kernel
theorem d_Sh_settleOrder_31 : decode b_Sh_settleOrder 31 = .ok (.aload_n 0, 1) := by decide +kernel
theorem d_Sh_settleOrder_32 : decode b_Sh_settleOrder 32 = .ok (.invokevirtual 46, 3) := by decide +kernel
theorem d_Sh_settleOrder_35 : decode b_Sh_settleOrder 35 = .ok (.ifCond .eq 16, 3) := by decide +kernel
theorem d_Sh_settleOrder_38 : decode b_Sh_settleOrder 38 = .ok (.aload_n 0, 1) := by decide +kernel
theorem d_Sh_settleOrder_39 : decode b_Sh_settleOrder 39 = .ok (.iload_n 1, 1) := by decide +kernel
theorem d_Sh_settleOrder_40 : decode b_Sh_settleOrder 40 = .ok (.aload_n 0, 1) := by decide +kernel
theorem d_Sh_settleOrder_41 : decode b_Sh_settleOrder 41 = .ok (.getfield 43, 3) := by decide +kernel
theorem d_Sh_settleOrder_44 : decode b_Sh_settleOrder 44 = .ok (.iconst 1, 1) := by decide +kernel
theorem d_Sh_settleOrder_45 : decode b_Sh_settleOrder 45 = .ok (.isub, 1) := by decide +kernel
theorem d_Sh_settleOrder_46 : decode b_Sh_settleOrder 46 = .ok (.iconst (-1), 1) := by decide +kernel
theorem d_Sh_settleOrder_47 : decode b_Sh_settleOrder 47 = .ok (.invokevirtual 91, 3) := by decide +kernel
theorem d_Sh_settleOrder_50 : decode b_Sh_settleOrder 50 = .ok (.return_, 1) := by decide +kernel
theorem d_Sh_settleOrder_51 : decode b_Sh_settleOrder 51 = .ok (.iconst 0, 1) := by decide +kernel
theorem d_Sh_settleOrder_52 : decode b_Sh_settleOrder 52 = .ok (.istore_n 2, 1) := by decide +kernel
theorem d_Sh_settleOrder_53 : decode b_Sh_settleOrder 53 = .ok (.iload_n 2, 1) := by decide +kernel
theorem d_Sh_settleOrder_54 : decode b_Sh_settleOrder 54 = .ok (.aload_n 0, 1) := by decide +kernel
theorem d_Sh_settleOrder_55 : decode b_Sh_settleOrder 55 = .ok (.getfield 43, 3) := by decide +kernel
theorem d_Sh_settleOrder_58 : decode b_Sh_settleOrder 58 = .ok (.if_icmp .ge 23, 3) := by decide +kernel
theorem d_Sh_settleOrder_61 : decode b_Sh_settleOrder 61 = .ok (.aload_n 0, 1) := by decide +kernel
theorem d_Sh_settleOrder_62 : decode b_Sh_settleOrder 62 = .ok (.iload_n 1, 1) := by decide +kernel
theorem d_Sh_settleOrder_63 : decode b_Sh_settleOrder 63 = .ok (.iload_n 2, 1) := by decide +kernel
theorem d_Sh_settleOrder_64 : decode b_Sh_settleOrder 64 = .ok (.iconst 1, 1) := by decide +kernel
theorem d_Sh_settleOrder_65 : decode b_Sh_settleOrder 65 = .ok (.invokevirtual 91, 3) := by decide +kernel
theorem d_Sh_settleOrder_68 : decode b_Sh_settleOrder 68 = .ok (.aload_n 0, 1) := by decide +kernel
theorem d_Sh_settleOrder_69 : decode b_Sh_settleOrder 69 = .ok (.iload_n 1, 1) := by decide +kernel
theorem d_Sh_settleOrder_70 : decode b_Sh_settleOrder 70 = .ok (.iload_n 2, 1) := by decide +kernel
theorem d_Sh_settleOrder_71 : decode b_Sh_settleOrder 71 = .ok (.iconst (-1), 1) := by decide +kernel
theorem d_Sh_settleOrder_72 : decode b_Sh_settleOrder 72 = .ok (.invokevirtual 91, 3) := by decide +kernel
theorem d_Sh_settleOrder_75 : decode b_Sh_settleOrder 75 = .ok (.iinc 2 1, 3) := by decide +kernel
theorem d_Sh_settleOrder_78 : decode b_Sh_settleOrder 78 = .ok (.goto (-25), 3) := by decide +kernel
theorem d_Sh_settleOrder_81 : decode b_Sh_settleOrder 81 = .ok (.return_, 1) := by decide +kernel
theorem d_Sh_takeIfLess_0 : decode b_Sh_takeIfLess 0 = .ok (.iconst 0, 1) := by decide +kernel
theorem d_Sh_takeIfLess_1 : decode b_Sh_takeIfLess 1 = .ok (.istore 4, 2) := by decide +kernel
theorem d_Sh_takeIfLess_3 : decode b_Sh_takeIfLess 3 = .ok (.iconst 0, 1) := by decide +kernel
theorem d_Sh_takeIfLess_4 : decode b_Sh_takeIfLess 4 = .ok (.istore 5, 2) := by decide +kernel
theorem d_Sh_takeIfLess_6 : decode b_Sh_takeIfLess 6 = .ok (.iload 5, 2) := by decide +kernel
theorem d_Sh_takeIfLess_8 : decode b_Sh_takeIfLess 8 = .ok (.aload_n 0, 1) := by decide +kernel
theorem d_Sh_takeIfLess_9 : decode b_Sh_takeIfLess 9 = .ok (.getfield 43, 3) := by decide +kernel
theorem d_Sh_takeIfLess_12 : decode b_Sh_takeIfLess 12 = .ok (.if_icmp .ge 125, 3) := by decide +kernel
theorem d_Sh_takeIfLess_15 : decode b_Sh_takeIfLess 15 = .ok (.iload 4, 2) := by decide +kernel
theorem d_Sh_takeIfLess_17 : decode b_Sh_takeIfLess 17 = .ok (.ifCond .ne 120, 3) := by decide +kernel
theorem d_Sh_takeIfLess_20 : decode b_Sh_takeIfLess 20 = .ok (.iload_n 2, 1) := by decide +kernel
theorem d_Sh_takeIfLess_21 : decode b_Sh_takeIfLess 21 = .ok (.iload_n 3, 1) := by decide +kernel
theorem d_Sh_takeIfLess_22 : decode b_Sh_takeIfLess 22 = .ok (.iload 5, 2) := by decide +kernel
theorem d_Sh_takeIfLess_24 : decode b_Sh_takeIfLess 24 = .ok (.imul, 1) := by decide +kernel
theorem d_Sh_takeIfLess_25 : decode b_Sh_takeIfLess 25 = .ok (.iadd, 1) := by decide +kernel
theorem d_Sh_takeIfLess_26 : decode b_Sh_takeIfLess 26 = .ok (.aload_n 0, 1) := by decide +kernel
theorem d_Sh_takeIfLess_27 : decode b_Sh_takeIfLess 27 = .ok (.getfield 43, 3) := by decide +kernel
theorem d_Sh_takeIfLess_30 : decode b_Sh_takeIfLess 30 = .ok (.invokestatic 95, 3) := by decide +kernel
theorem d_Sh_takeIfLess_33 : decode b_Sh_takeIfLess 33 = .ok (.istore 6, 2) := by decide +kernel
theorem d_Sh_takeIfLess_35 : decode b_Sh_takeIfLess 35 = .ok (.aload_n 0, 1) := by decide +kernel
theorem d_Sh_takeIfLess_36 : decode b_Sh_takeIfLess 36 = .ok (.iload_n 1, 1) := by decide +kernel
theorem d_Sh_takeIfLess_37 : decode b_Sh_takeIfLess 37 = .ok (.iload 5, 2) := by decide +kernel
theorem d_Sh_takeIfLess_39 : decode b_Sh_takeIfLess 39 = .ok (.invokevirtual 99, 3) := by decide +kernel
theorem d_Sh_takeIfLess_42 : decode b_Sh_takeIfLess 42 = .ok (.istore 7, 2) := by decide +kernel
theorem d_Sh_takeIfLess_44 : decode b_Sh_takeIfLess 44 = .ok (.iload_n 1, 1) := by decide +kernel
theorem d_Sh_takeIfLess_45 : decode b_Sh_takeIfLess 45 = .ok (.aload_n 0, 1) := by decide +kernel
theorem d_Sh_takeIfLess_46 : decode b_Sh_takeIfLess 46 = .ok (.getfield 9, 3) := by decide +kernel
theorem d_Sh_takeIfLess_49 : decode b_Sh_takeIfLess 49 = .ok (.iload 6, 2) := by decide +kernel
theorem d_Sh_takeIfLess_51 : decode b_Sh_takeIfLess 51 = .ok (.laload, 1) := by decide +kernel
theorem d_Sh_takeIfLess_52 : decode b_Sh_takeIfLess 52 = .ok (.aload_n 0, 1) := by decide +kernel
theorem d_Sh_takeIfLess_53 : decode b_Sh_takeIfLess 53 = .ok (.getfield 15, 3) := by decide +kernel
theorem d_Sh_takeIfLess_56 : decode b_Sh_takeIfLess 56 = .ok (.iload 6, 2) := by decide +kernel
theorem d_Sh_takeIfLess_58 : decode b_Sh_takeIfLess 58 = .ok (.laload, 1) := by decide +kernel
theorem d_Sh_takeIfLess_59 : decode b_Sh_takeIfLess 59 = .ok (.invokestatic 102, 3) := by decide +kernel
theorem d_Sh_takeIfLess_62 : decode b_Sh_takeIfLess 62 = .ok (.iload_n 1, 1) := by decide +kernel
theorem d_Sh_takeIfLess_63 : decode b_Sh_takeIfLess 63 = .ok (.aload_n 0, 1) := by decide +kernel
theorem d_Sh_takeIfLess_64 : decode b_Sh_takeIfLess 64 = .ok (.getfield 9, 3) := by decide +kernel
theorem d_Sh_takeIfLess_67 : decode b_Sh_takeIfLess 67 = .ok (.iload 7, 2) := by decide +kernel
theorem d_Sh_takeIfLess_69 : decode b_Sh_takeIfLess 69 = .ok (.laload, 1) := by decide +kernel
theorem d_Sh_takeIfLess_70 : decode b_Sh_takeIfLess 70 = .ok (.aload_n 0, 1) := by decide +kernel
theorem d_Sh_takeIfLess_71 : decode b_Sh_takeIfLess 71 = .ok (.getfield 15, 3) := by decide +kernel
theorem d_Sh_takeIfLess_74 : decode b_Sh_takeIfLess 74 = .ok (.iload 7, 2) := by decide +kernel
theorem d_Sh_takeIfLess_76 : decode b_Sh_takeIfLess 76 = .ok (.laload, 1) := by decide +kernel
theorem d_Sh_takeIfLess_77 : decode b_Sh_takeIfLess 77 = .ok (.invokestatic 102, 3) := by decide +kernel
theorem d_Sh_takeIfLess_80 : decode b_Sh_takeIfLess 80 = .ok (.invokestatic 106, 3) := by decide +kernel
theorem d_Sh_takeIfLess_83 : decode b_Sh_takeIfLess 83 = .ok (.istore 4, 2) := by decide +kernel
theorem d_Sh_takeIfLess_85 : decode b_Sh_takeIfLess 85 = .ok (.iload 4, 2) := by decide +kernel
theorem d_Sh_takeIfLess_87 : decode b_Sh_takeIfLess 87 = .ok (.ifCond .ne 44, 3) := by decide +kernel
theorem d_Sh_takeIfLess_90 : decode b_Sh_takeIfLess 90 = .ok (.iload_n 1, 1) := by decide +kernel
theorem d_Sh_takeIfLess_91 : decode b_Sh_takeIfLess 91 = .ok (.aload_n 0, 1) := by decide +kernel
theorem d_Sh_takeIfLess_92 : decode b_Sh_takeIfLess 92 = .ok (.getfield 9, 3) := by decide +kernel
theorem d_Sh_takeIfLess_95 : decode b_Sh_takeIfLess 95 = .ok (.iload 6, 2) := by decide +kernel
theorem d_Sh_takeIfLess_97 : decode b_Sh_takeIfLess 97 = .ok (.laload, 1) := by decide +kernel
theorem d_Sh_takeIfLess_98 : decode b_Sh_takeIfLess 98 = .ok (.aload_n 0, 1) := by decide +kernel
theorem d_Sh_takeIfLess_99 : decode b_Sh_takeIfLess 99 = .ok (.getfield 15, 3) := by decide +kernel
theorem d_Sh_takeIfLess_102 : decode b_Sh_takeIfLess 102 = .ok (.iload 6, 2) := by decide +kernel
theorem d_Sh_takeIfLess_104 : decode b_Sh_takeIfLess 104 = .ok (.laload, 1) := by decide +kernel
theorem d_Sh_takeIfLess_105 : decode b_Sh_takeIfLess 105 = .ok (.invokestatic 110, 3) := by decide +kernel
theorem d_Sh_takeIfLess_108 : decode b_Sh_takeIfLess 108 = .ok (.iload_n 1, 1) := by decide +kernel
theorem d_Sh_takeIfLess_109 : decode b_Sh_takeIfLess 109 = .ok (.aload_n 0, 1) := by decide +kernel
theorem d_Sh_takeIfLess_110 : decode b_Sh_takeIfLess 110 = .ok (.getfield 9, 3) := by decide +kernel
theorem d_Sh_takeIfLess_113 : decode b_Sh_takeIfLess 113 = .ok (.iload 7, 2) := by decide +kernel
theorem d_Sh_takeIfLess_115 : decode b_Sh_takeIfLess 115 = .ok (.laload, 1) := by decide +kernel
theorem d_Sh_takeIfLess_116 : decode b_Sh_takeIfLess 116 = .ok (.aload_n 0, 1) := by decide +kernel
theorem d_Sh_takeIfLess_117 : decode b_Sh_takeIfLess 117 = .ok (.getfield 15, 3) := by decide +kernel
theorem d_Sh_takeIfLess_120 : decode b_Sh_takeIfLess 120 = .ok (.iload 7, 2) := by decide +kernel
theorem d_Sh_takeIfLess_122 : decode b_Sh_takeIfLess 122 = .ok (.laload, 1) := by decide +kernel
theorem d_Sh_takeIfLess_123 : decode b_Sh_takeIfLess 123 = .ok (.invokestatic 110, 3) := by decide +kernel
theorem d_Sh_takeIfLess_126 : decode b_Sh_takeIfLess 126 = .ok (.invokestatic 106, 3) := by decide +kernel
theorem d_Sh_takeIfLess_129 : decode b_Sh_takeIfLess 129 = .ok (.istore 4, 2) := by decide +kernel
theorem d_Sh_takeIfLess_131 : decode b_Sh_takeIfLess 131 = .ok (.iinc 5 1, 3) := by decide +kernel
theorem d_Sh_takeIfLess_134 : decode b_Sh_takeIfLess 134 = .ok (.goto (-128), 3) := by decide +kernel
theorem d_Sh_takeIfLess_137 : decode b_Sh_takeIfLess 137 = .ok (.iload 4, 2) := by decide +kernel
theorem d_Sh_takeIfLess_139 : decode b_Sh_takeIfLess 139 = .ok (.ifCond .ge 17, 3) := by decide +kernel
theorem d_Sh_takeIfLess_142 : decode b_Sh_takeIfLess 142 = .ok (.aload_n 0, 1) := by decide +kernel
theorem d_Sh_takeIfLess_143 : decode b_Sh_takeIfLess 143 = .ok (.getfield 25, 3) := by decide +kernel
theorem d_Sh_takeIfLess_146 : decode b_Sh_takeIfLess 146 = .ok (.iload_n 1, 1) := by decide +kernel
theorem d_Sh_takeIfLess_147 : decode b_Sh_takeIfLess 147 = .ok (.iload_n 2, 1) := by decide +kernel
theorem d_Sh_takeIfLess_148 : decode b_Sh_takeIfLess 148 = .ok (.iastore, 1) := by decide +kernel
theorem d_Sh_takeIfLess_149 : decode b_Sh_takeIfLess 149 = .ok (.aload_n 0, 1) := by decide +kernel
theorem d_Sh_takeIfLess_150 : decode b_Sh_takeIfLess 150 = .ok (.getfield 29, 3) := by decide +kernel
theorem d_Sh_takeIfLess_153 : decode b_Sh_takeIfLess 153 = .ok (.iload_n 1, 1) := by decide +kernel
theorem d_Sh_takeIfLess_154 : decode b_Sh_takeIfLess 154 = .ok (.iload_n 3, 1) := by decide +kernel
theorem d_Sh_takeIfLess_155 : decode b_Sh_takeIfLess 155 = .ok (.iastore, 1) := by decide +kernel
theorem d_Sh_takeIfLess_156 : decode b_Sh_takeIfLess 156 = .ok (.return_, 1) := by decide +kernel
theorem d_Sh_orderedIndex_0 : decode b_Sh_orderedIndex 0 = .ok (.aload_n 0, 1) := by decide +kernel
theorem d_Sh_orderedIndex_1 : decode b_Sh_orderedIndex 1 = .ok (.getfield 43, 3) := by decide +kernel
theorem d_Sh_orderedIndex_4 : decode b_Sh_orderedIndex 4 = .ok (.ifCond .ne 7, 3) := by decide +kernel
theorem d_Sh_orderedIndex_7 : decode b_Sh_orderedIndex 7 = .ok (.iconst 0, 1) := by decide +kernel
theorem d_Sh_orderedIndex_8 : decode b_Sh_orderedIndex 8 = .ok (.goto 25, 3) := by decide +kernel
theorem d_Sh_orderedIndex_11 : decode b_Sh_orderedIndex 11 = .ok (.aload_n 0, 1) := by decide +kernel
theorem d_Sh_orderedIndex_12 : decode b_Sh_orderedIndex 12 = .ok (.getfield 25, 3) := by decide +kernel
theorem d_Sh_orderedIndex_15 : decode b_Sh_orderedIndex 15 = .ok (.iload_n 1, 1) := by decide +kernel
theorem d_Sh_orderedIndex_16 : decode b_Sh_orderedIndex 16 = .ok (.iaload, 1) := by decide +kernel
theorem d_Sh_orderedIndex_17 : decode b_Sh_orderedIndex 17 = .ok (.aload_n 0, 1) := by decide +kernel
theorem d_Sh_orderedIndex_18 : decode b_Sh_orderedIndex 18 = .ok (.getfield 29, 3) := by decide +kernel
theorem d_Sh_orderedIndex_21 : decode b_Sh_orderedIndex 21 = .ok (.iload_n 1, 1) := by decide +kernel
theorem d_Sh_orderedIndex_22 : decode b_Sh_orderedIndex 22 = .ok (.iaload, 1) := by decide +kernel
theorem d_Sh_orderedIndex_23 : decode b_Sh_orderedIndex 23 = .ok (.iload_n 2, 1) := by decide +kernel
theorem d_Sh_orderedIndex_24 : decode b_Sh_orderedIndex 24 = .ok (.imul, 1) := by decide +kernel
theorem d_Sh_orderedIndex_25 : decode b_Sh_orderedIndex 25 = .ok (.iadd, 1) := by decide +kernel
theorem d_Sh_orderedIndex_26 : decode b_Sh_orderedIndex 26 = .ok (.aload_n 0, 1) := by decide +kernel
theorem d_Sh_orderedIndex_27 : decode b_Sh_orderedIndex 27 = .ok (.getfield 43, 3) := by decide +kernel
theorem d_Sh_orderedIndex_30 : decode b_Sh_orderedIndex 30 = .ok (.invokestatic 95, 3) := by decide +kernel
theorem d_Sh_orderedIndex_33 : decode b_Sh_orderedIndex 33 = .ok (.ireturn, 1) := by decide +kernel
theorem d_Fl_markOf_0 : decode b_Fl_markOf 0 = .ok (.aload_n 0, 1) := by decide +kernel
theorem d_Fl_markOf_1 : decode b_Fl_markOf 1 = .ok (.getfield 11, 3) := by decide +kernel
theorem d_Fl_markOf_4 : decode b_Fl_markOf 4 = .ok (.iload_n 1, 1) := by decide +kernel
theorem d_Fl_markOf_5 : decode b_Fl_markOf 5 = .ok (.aaload, 1) := by decide +kernel
theorem d_Fl_markOf_6 : decode b_Fl_markOf 6 = .ok (.aload_n 0, 1) := by decide +kernel
theorem d_Fl_markOf_7 : decode b_Fl_markOf 7 = .ok (.getfield 21, 3) := by decide +kernel
theorem d_Fl_markOf_10 : decode b_Fl_markOf 10 = .ok (.iload_n 1, 1) := by decide +kernel
theorem d_Fl_markOf_11 : decode b_Fl_markOf 11 = .ok (.iaload, 1) := by decide +kernel
theorem d_Fl_markOf_12 : decode b_Fl_markOf 12 = .ok (.iconst 0, 1) := by decide +kernel
theorem d_Fl_markOf_13 : decode b_Fl_markOf 13 = .ok (.invokevirtual 153, 3) := by decide +kernel
theorem d_Fl_markOf_16 : decode b_Fl_markOf 16 = .ok (.istore_n 2, 1) := by decide +kernel
theorem d_Fl_markOf_17 : decode b_Fl_markOf 17 = .ok (.aload_n 0, 1) := by decide +kernel
theorem d_Fl_markOf_18 : decode b_Fl_markOf 18 = .ok (.iload_n 1, 1) := by decide +kernel
theorem d_Fl_markOf_19 : decode b_Fl_markOf 19 = .ok (.iload_n 2, 1) := by decide +kernel
theorem d_Fl_markOf_20 : decode b_Fl_markOf 20 = .ok (.invokevirtual 156, 3) := by decide +kernel
theorem d_Fl_markOf_23 : decode b_Fl_markOf 23 = .ok (.ldc2_w 160, 3) := by decide +kernel
theorem d_Fl_markOf_26 : decode b_Fl_markOf 26 = .ok (.lmul, 1) := by decide +kernel
theorem d_Fl_markOf_27 : decode b_Fl_markOf 27 = .ok (.aload_n 0, 1) := by decide +kernel
theorem d_Fl_markOf_28 : decode b_Fl_markOf 28 = .ok (.iload_n 1, 1) := by decide +kernel
theorem d_Fl_markOf_29 : decode b_Fl_markOf 29 = .ok (.iload_n 2, 1) := by decide +kernel
theorem d_Fl_markOf_30 : decode b_Fl_markOf 30 = .ok (.invokevirtual 162, 3) := by decide +kernel
theorem d_Fl_markOf_33 : decode b_Fl_markOf 33 = .ok (.ldc2_w 165, 3) := by decide +kernel
theorem d_Fl_markOf_36 : decode b_Fl_markOf 36 = .ok (.lmul, 1) := by decide +kernel
theorem d_Fl_markOf_37 : decode b_Fl_markOf 37 = .ok (.ladd, 1) := by decide +kernel
theorem d_Fl_markOf_38 : decode b_Fl_markOf 38 = .ok (.lstore_n 3, 1) := by decide +kernel
theorem d_Fl_markOf_39 : decode b_Fl_markOf 39 = .ok (.lload_n 3, 1) := by decide +kernel
theorem d_Fl_markOf_40 : decode b_Fl_markOf 40 = .ok (.lload_n 3, 1) := by decide +kernel
theorem d_Fl_markOf_41 : decode b_Fl_markOf 41 = .ok (.bipush 32, 2) := by decide +kernel
theorem d_Fl_markOf_43 : decode b_Fl_markOf 43 = .ok (.lushr, 1) := by decide +kernel
theorem d_Fl_markOf_44 : decode b_Fl_markOf 44 = .ok (.lxor, 1) := by decide +kernel
theorem d_Fl_markOf_45 : decode b_Fl_markOf 45 = .ok (.lstore_n 3, 1) := by decide +kernel
theorem d_Fl_markOf_46 : decode b_Fl_markOf 46 = .ok (.lload_n 3, 1) := by decide +kernel
theorem d_Fl_markOf_47 : decode b_Fl_markOf 47 = .ok (.lload_n 3, 1) := by decide +kernel
theorem d_Fl_markOf_48 : decode b_Fl_markOf 48 = .ok (.lmul, 1) := by decide +kernel
theorem d_Fl_markOf_49 : decode b_Fl_markOf 49 = .ok (.lreturn, 1) := by decide +kernel
theorem d_Fl_hasSameShapes_0 : decode b_Fl_hasSameShapes 0 = .ok (.aload_n 0, 1) := by decide +kernel
theorem d_Fl_hasSameShapes_1 : decode b_Fl_hasSameShapes 1 = .ok (.getfield 37, 3) := by decide +kernel
theorem d_Fl_hasSameShapes_4 : decode b_Fl_hasSameShapes 4 = .ok (.aload_n 1, 1) := by decide +kernel
theorem d_Fl_hasSameShapes_5 : decode b_Fl_hasSameShapes 5 = .ok (.getfield 37, 3) := by decide +kernel
theorem d_Fl_hasSameShapes_8 : decode b_Fl_hasSameShapes 8 = .ok (.if_icmp .ne 15, 3) := by decide +kernel
theorem d_Fl_hasSameShapes_11 : decode b_Fl_hasSameShapes 11 = .ok (.aload_n 0, 1) := by decide +kernel
theorem d_Fl_hasSameShapes_12 : decode b_Fl_hasSameShapes 12 = .ok (.getfield 126, 3) := by decide +kernel
theorem d_Fl_hasSameShapes_15 : decode b_Fl_hasSameShapes 15 = .ok (.aload_n 1, 1) := by decide +kernel
theorem d_Fl_hasSameShapes_16 : decode b_Fl_hasSameShapes 16 = .ok (.getfield 126, 3) := by decide +kernel
theorem d_Fl_hasSameShapes_19 : decode b_Fl_hasSameShapes 19 = .ok (.lcmp, 1) := by decide +kernel
theorem d_Fl_hasSameShapes_20 : decode b_Fl_hasSameShapes 20 = .ok (.ifCond .eq 5, 3) := by decide +kernel
theorem d_Fl_hasSameShapes_23 : decode b_Fl_hasSameShapes 23 = .ok (.iconst 0, 1) := by decide +kernel
theorem d_Fl_hasSameShapes_24 : decode b_Fl_hasSameShapes 24 = .ok (.ireturn, 1) := by decide +kernel
theorem d_Fl_hasSameShapes_25 : decode b_Fl_hasSameShapes 25 = .ok (.aload_n 0, 1) := by decide +kernel
theorem d_Fl_hasSameShapes_26 : decode b_Fl_hasSameShapes 26 = .ok (.invokevirtual 167, 3) := by decide +kernel
theorem d_Fl_hasSameShapes_29 : decode b_Fl_hasSameShapes 29 = .ok (.aload_n 1, 1) := by decide +kernel
theorem d_Fl_hasSameShapes_30 : decode b_Fl_hasSameShapes 30 = .ok (.invokevirtual 167, 3) := by decide +kernel
theorem d_Fl_hasSameShapes_33 : decode b_Fl_hasSameShapes 33 = .ok (.iconst 0, 1) := by decide +kernel
theorem d_Fl_hasSameShapes_34 : decode b_Fl_hasSameShapes 34 = .ok (.istore_n 2, 1) := by decide +kernel
theorem d_Fl_hasSameShapes_35 : decode b_Fl_hasSameShapes 35 = .ok (.iload_n 2, 1) := by decide +kernel
theorem d_Fl_hasSameShapes_36 : decode b_Fl_hasSameShapes 36 = .ok (.aload_n 0, 1) := by decide +kernel
theorem d_Fl_hasSameShapes_37 : decode b_Fl_hasSameShapes 37 = .ok (.getfield 37, 3) := by decide +kernel
theorem d_Fl_hasSameShapes_40 : decode b_Fl_hasSameShapes 40 = .ok (.if_icmp .ge 31, 3) := by decide +kernel
theorem d_Fl_hasSameShapes_43 : decode b_Fl_hasSameShapes 43 = .ok (.aload_n 0, 1) := by decide +kernel
theorem d_Fl_hasSameShapes_44 : decode b_Fl_hasSameShapes 44 = .ok (.aload_n 0, 1) := by decide +kernel
theorem d_Fl_hasSameShapes_45 : decode b_Fl_hasSameShapes 45 = .ok (.getfield 31, 3) := by decide +kernel
theorem d_Fl_hasSameShapes_48 : decode b_Fl_hasSameShapes 48 = .ok (.iload_n 2, 1) := by decide +kernel
theorem d_Fl_hasSameShapes_49 : decode b_Fl_hasSameShapes 49 = .ok (.iaload, 1) := by decide +kernel
theorem d_Fl_hasSameShapes_50 : decode b_Fl_hasSameShapes 50 = .ok (.aload_n 1, 1) := by decide +kernel
theorem d_Fl_hasSameShapes_51 : decode b_Fl_hasSameShapes 51 = .ok (.aload_n 1, 1) := by decide +kernel
theorem d_Fl_hasSameShapes_52 : decode b_Fl_hasSameShapes 52 = .ok (.getfield 31, 3) := by decide +kernel
theorem d_Fl_hasSameShapes_55 : decode b_Fl_hasSameShapes 55 = .ok (.iload_n 2, 1) := by decide +kernel
theorem d_Fl_hasSameShapes_56 : decode b_Fl_hasSameShapes 56 = .ok (.iaload, 1) := by decide +kernel
theorem d_Fl_hasSameShapes_57 : decode b_Fl_hasSameShapes 57 = .ok (.invokevirtual 170, 3) := by decide +kernel
theorem d_Fl_hasSameShapes_60 : decode b_Fl_hasSameShapes 60 = .ok (.ifCond .eq 5, 3) := by decide +kernel
theorem d_Fl_hasSameShapes_63 : decode b_Fl_hasSameShapes 63 = .ok (.iconst 0, 1) := by decide +kernel
theorem d_Fl_hasSameShapes_64 : decode b_Fl_hasSameShapes 64 = .ok (.ireturn, 1) := by decide +kernel
theorem d_Fl_hasSameShapes_65 : decode b_Fl_hasSameShapes 65 = .ok (.iinc 2 1, 3) := by decide +kernel
theorem d_Fl_hasSameShapes_68 : decode b_Fl_hasSameShapes 68 = .ok (.goto (-33), 3) := by decide +kernel
theorem d_Fl_hasSameShapes_71 : decode b_Fl_hasSameShapes 71 = .ok (.iconst 1, 1) := by decide +kernel
theorem d_Fl_hasSameShapes_72 : decode b_Fl_hasSameShapes 72 = .ok (.ireturn, 1) := by decide +kernel
theorem d_Fl_sort_0 : decode b_Fl_sort 0 = .ok (.aload_n 0, 1) := by decide +kernel
theorem d_Fl_sort_1 : decode b_Fl_sort 1 = .ok (.getfield 129, 3) := by decide +kernel
theorem d_Fl_sort_4 : decode b_Fl_sort 4 = .ok (.ifCond .eq 4, 3) := by decide +kernel
theorem d_Fl_sort_7 : decode b_Fl_sort 7 = .ok (.return_, 1) := by decide +kernel
theorem d_Fl_sort_8 : decode b_Fl_sort 8 = .ok (.iconst 1, 1) := by decide +kernel
theorem d_Fl_sort_9 : decode b_Fl_sort 9 = .ok (.istore_n 1, 1) := by decide +kernel
theorem d_Fl_sort_10 : decode b_Fl_sort 10 = .ok (.iload_n 1, 1) := by decide +kernel
theorem d_Fl_sort_11 : decode b_Fl_sort 11 = .ok (.aload_n 0, 1) := by decide +kernel
theorem d_Fl_sort_12 : decode b_Fl_sort 12 = .ok (.getfield 37, 3) := by decide +kernel
theorem d_Fl_sort_15 : decode b_Fl_sort 15 = .ok (.if_icmp .ge 73, 3) := by decide +kernel
theorem d_Fl_sort_18 : decode b_Fl_sort 18 = .ok (.iconst 0, 1) := by decide +kernel
theorem d_Fl_sort_19 : decode b_Fl_sort 19 = .ok (.istore_n 2, 1) := by decide +kernel
theorem d_Fl_sort_20 : decode b_Fl_sort 20 = .ok (.iload_n 2, 1) := by decide +kernel
theorem d_Fl_sort_21 : decode b_Fl_sort 21 = .ok (.aload_n 0, 1) := by decide +kernel
theorem d_Fl_sort_22 : decode b_Fl_sort 22 = .ok (.getfield 37, 3) := by decide +kernel
theorem d_Fl_sort_25 : decode b_Fl_sort 25 = .ok (.if_icmp .ge 39, 3) := by decide +kernel
theorem d_Fl_sort_28 : decode b_Fl_sort 28 = .ok (.aload_n 0, 1) := by decide +kernel
theorem d_Fl_sort_29 : decode b_Fl_sort 29 = .ok (.iload_n 2, 1) := by decide +kernel
theorem d_Fl_sort_30 : decode b_Fl_sort 30 = .ok (.iload_n 2, 1) := by decide +kernel
theorem d_Fl_sort_31 : decode b_Fl_sort 31 = .ok (.iload_n 1, 1) := by decide +kernel
theorem d_Fl_sort_32 : decode b_Fl_sort 32 = .ok (.iadd, 1) := by decide +kernel
theorem d_Fl_sort_33 : decode b_Fl_sort 33 = .ok (.aload_n 0, 1) := by decide +kernel
theorem d_Fl_sort_34 : decode b_Fl_sort 34 = .ok (.getfield 37, 3) := by decide +kernel
theorem d_Fl_sort_37 : decode b_Fl_sort 37 = .ok (.invokestatic 174, 3) := by decide +kernel
theorem d_Fl_sort_40 : decode b_Fl_sort 40 = .ok (.iload_n 2, 1) := by decide +kernel
theorem d_Fl_sort_41 : decode b_Fl_sort 41 = .ok (.iconst 2, 1) := by decide +kernel
theorem d_Fl_sort_42 : decode b_Fl_sort 42 = .ok (.iload_n 1, 1) := by decide +kernel
theorem d_Fl_sort_43 : decode b_Fl_sort 43 = .ok (.imul, 1) := by decide +kernel
theorem d_Fl_sort_44 : decode b_Fl_sort 44 = .ok (.iadd, 1) := by decide +kernel
theorem d_Fl_sort_45 : decode b_Fl_sort 45 = .ok (.aload_n 0, 1) := by decide +kernel
theorem d_Fl_sort_46 : decode b_Fl_sort 46 = .ok (.getfield 37, 3) := by decide +kernel
theorem d_Fl_sort_49 : decode b_Fl_sort 49 = .ok (.invokestatic 174, 3) := by decide +kernel
theorem d_Fl_sort_52 : decode b_Fl_sort 52 = .ok (.invokevirtual 179, 3) := by decide +kernel
theorem d_Fl_sort_55 : decode b_Fl_sort 55 = .ok (.iload_n 2, 1) := by decide +kernel
theorem d_Fl_sort_56 : decode b_Fl_sort 56 = .ok (.iconst 2, 1) := by decide +kernel
theorem d_Fl_sort_57 : decode b_Fl_sort 57 = .ok (.iload_n 1, 1) := by decide +kernel
theorem d_Fl_sort_58 : decode b_Fl_sort 58 = .ok (.imul, 1) := by decide +kernel
theorem d_Fl_sort_59 : decode b_Fl_sort 59 = .ok (.iadd, 1) := by decide +kernel
theorem d_Fl_sort_60 : decode b_Fl_sort 60 = .ok (.istore_n 2, 1) := by decide +kernel
theorem d_Fl_sort_61 : decode b_Fl_sort 61 = .ok (.goto (-41), 3) := by decide +kernel
theorem d_Fl_sort_64 : decode b_Fl_sort 64 = .ok (.aload_n 0, 1) := by decide +kernel
theorem d_Fl_sort_65 : decode b_Fl_sort 65 = .ok (.getfield 34, 3) := by decide +kernel
theorem d_Fl_sort_68 : decode b_Fl_sort 68 = .ok (.iconst 0, 1) := by decide +kernel
theorem d_Fl_sort_69 : decode b_Fl_sort 69 = .ok (.aload_n 0, 1) := by decide +kernel
theorem d_Fl_sort_70 : decode b_Fl_sort 70 = .ok (.getfield 31, 3) := by decide +kernel
theorem d_Fl_sort_73 : decode b_Fl_sort 73 = .ok (.iconst 0, 1) := by decide +kernel
theorem d_Fl_sort_74 : decode b_Fl_sort 74 = .ok (.aload_n 0, 1) := by decide +kernel
theorem d_Fl_sort_75 : decode b_Fl_sort 75 = .ok (.getfield 37, 3) := by decide +kernel
theorem d_Fl_sort_78 : decode b_Fl_sort 78 = .ok (.invokestatic 183, 3) := by decide +kernel
theorem d_Fl_sort_81 : decode b_Fl_sort 81 = .ok (.iload_n 1, 1) := by decide +kernel
theorem d_Fl_sort_82 : decode b_Fl_sort 82 = .ok (.iconst 2, 1) := by decide +kernel
theorem d_Fl_sort_83 : decode b_Fl_sort 83 = .ok (.imul, 1) := by decide +kernel
theorem d_Fl_sort_84 : decode b_Fl_sort 84 = .ok (.istore_n 1, 1) := by decide +kernel
theorem d_Fl_sort_85 : decode b_Fl_sort 85 = .ok (.goto (-75), 3) := by decide +kernel
theorem d_Fl_sort_88 : decode b_Fl_sort 88 = .ok (.aload_n 0, 1) := by decide +kernel
theorem d_Fl_sort_89 : decode b_Fl_sort 89 = .ok (.iconst 1, 1) := by decide +kernel
theorem d_Fl_sort_90 : decode b_Fl_sort 90 = .ok (.putfield 129, 3) := by decide +kernel
theorem d_Fl_sort_93 : decode b_Fl_sort 93 = .ok (.return_, 1) := by decide +kernel
theorem d_Fl_merge_0 : decode b_Fl_merge 0 = .ok (.iload_n 1, 1) := by decide +kernel
theorem d_Fl_merge_1 : decode b_Fl_merge 1 = .ok (.istore 4, 2) := by decide +kernel
theorem d_Fl_merge_3 : decode b_Fl_merge 3 = .ok (.iload_n 2, 1) := by decide +kernel
theorem d_Fl_merge_4 : decode b_Fl_merge 4 = .ok (.istore 5, 2) := by decide +kernel
theorem d_Fl_merge_6 : decode b_Fl_merge 6 = .ok (.iload_n 1, 1) := by decide +kernel
theorem d_Fl_merge_7 : decode b_Fl_merge 7 = .ok (.istore 6, 2) := by decide +kernel
theorem d_Fl_merge_9 : decode b_Fl_merge 9 = .ok (.iload 6, 2) := by decide +kernel
theorem d_Fl_merge_11 : decode b_Fl_merge 11 = .ok (.iload_n 3, 1) := by decide +kernel
theorem d_Fl_merge_12 : decode b_Fl_merge 12 = .ok (.if_icmp .ge 93, 3) := by decide +kernel
theorem d_Fl_merge_15 : decode b_Fl_merge 15 = .ok (.iload 4, 2) := by decide +kernel
theorem d_Fl_merge_17 : decode b_Fl_merge 17 = .ok (.iload_n 2, 1) := by decide +kernel
theorem d_Fl_merge_18 : decode b_Fl_merge 18 = .ok (.if_icmp .ge 35, 3) := by decide +kernel
theorem d_Fl_merge_21 : decode b_Fl_merge 21 = .ok (.iload 5, 2) := by decide +kernel
theorem d_Fl_merge_23 : decode b_Fl_merge 23 = .ok (.iload_n 3, 1) := by decide +kernel
theorem d_Fl_merge_24 : decode b_Fl_merge 24 = .ok (.if_icmp .ge 25, 3) := by decide +kernel
theorem d_Fl_merge_27 : decode b_Fl_merge 27 = .ok (.aload_n 0, 1) := by decide +kernel
theorem d_Fl_merge_28 : decode b_Fl_merge 28 = .ok (.aload_n 0, 1) := by decide +kernel
theorem d_Fl_merge_29 : decode b_Fl_merge 29 = .ok (.getfield 31, 3) := by decide +kernel
theorem d_Fl_merge_32 : decode b_Fl_merge 32 = .ok (.iload 4, 2) := by decide +kernel
theorem d_Fl_merge_34 : decode b_Fl_merge 34 = .ok (.iaload, 1) := by decide +kernel
theorem d_Fl_merge_35 : decode b_Fl_merge 35 = .ok (.aload_n 0, 1) := by decide +kernel
theorem d_Fl_merge_36 : decode b_Fl_merge 36 = .ok (.aload_n 0, 1) := by decide +kernel
theorem d_Fl_merge_37 : decode b_Fl_merge 37 = .ok (.getfield 31, 3) := by decide +kernel
theorem d_Fl_merge_40 : decode b_Fl_merge 40 = .ok (.iload 5, 2) := by decide +kernel
theorem d_Fl_merge_42 : decode b_Fl_merge 42 = .ok (.iaload, 1) := by decide +kernel
theorem d_Fl_merge_43 : decode b_Fl_merge 43 = .ok (.invokevirtual 170, 3) := by decide +kernel
theorem d_Fl_merge_46 : decode b_Fl_merge 46 = .ok (.ifCond .gt 7, 3) := by decide +kernel
theorem d_Fl_merge_49 : decode b_Fl_merge 49 = .ok (.iconst 1, 1) := by decide +kernel
theorem d_Fl_merge_50 : decode b_Fl_merge 50 = .ok (.goto 4, 3) := by decide +kernel
theorem d_Fl_merge_53 : decode b_Fl_merge 53 = .ok (.iconst 0, 1) := by decide +kernel
theorem d_Fl_merge_54 : decode b_Fl_merge 54 = .ok (.istore 7, 2) := by decide +kernel
theorem d_Fl_merge_56 : decode b_Fl_merge 56 = .ok (.aload_n 0, 1) := by decide +kernel
theorem d_Fl_merge_57 : decode b_Fl_merge 57 = .ok (.getfield 34, 3) := by decide +kernel
theorem d_Fl_merge_60 : decode b_Fl_merge 60 = .ok (.iload 6, 2) := by decide +kernel
theorem d_Fl_merge_62 : decode b_Fl_merge 62 = .ok (.iload 7, 2) := by decide +kernel
theorem d_Fl_merge_64 : decode b_Fl_merge 64 = .ok (.ifCond .eq 13, 3) := by decide +kernel
theorem d_Fl_merge_67 : decode b_Fl_merge 67 = .ok (.aload_n 0, 1) := by decide +kernel
theorem d_Fl_merge_68 : decode b_Fl_merge 68 = .ok (.getfield 31, 3) := by decide +kernel
theorem d_Fl_merge_71 : decode b_Fl_merge 71 = .ok (.iload 4, 2) := by decide +kernel
theorem d_Fl_merge_73 : decode b_Fl_merge 73 = .ok (.iaload, 1) := by decide +kernel
theorem d_Fl_merge_74 : decode b_Fl_merge 74 = .ok (.goto 10, 3) := by decide +kernel
theorem d_Fl_merge_77 : decode b_Fl_merge 77 = .ok (.aload_n 0, 1) := by decide +kernel
theorem d_Fl_merge_78 : decode b_Fl_merge 78 = .ok (.getfield 31, 3) := by decide +kernel
theorem d_Fl_merge_81 : decode b_Fl_merge 81 = .ok (.iload 5, 2) := by decide +kernel
theorem d_Fl_merge_83 : decode b_Fl_merge 83 = .ok (.iaload, 1) := by decide +kernel
theorem d_Fl_merge_84 : decode b_Fl_merge 84 = .ok (.iastore, 1) := by decide +kernel
theorem d_Fl_merge_85 : decode b_Fl_merge 85 = .ok (.iload 7, 2) := by decide +kernel
theorem d_Fl_merge_87 : decode b_Fl_merge 87 = .ok (.ifCond .eq 9, 3) := by decide +kernel
theorem d_Fl_merge_90 : decode b_Fl_merge 90 = .ok (.iinc 4 1, 3) := by decide +kernel
theorem d_Fl_merge_93 : decode b_Fl_merge 93 = .ok (.goto 6, 3) := by decide +kernel
theorem d_Fl_merge_96 : decode b_Fl_merge 96 = .ok (.iinc 5 1, 3) := by decide +kernel
theorem d_Fl_merge_99 : decode b_Fl_merge 99 = .ok (.iinc 6 1, 3) := by decide +kernel
theorem d_Fl_merge_102 : decode b_Fl_merge 102 = .ok (.goto (-93), 3) := by decide +kernel
theorem d_Fl_merge_105 : decode b_Fl_merge 105 = .ok (.return_, 1) := by decide +kernel
theorem d_Fl_compare_0 : decode b_Fl_compare 0 = .ok (.aload_n 0, 1) := by decide +kernel
theorem d_Fl_compare_1 : decode b_Fl_compare 1 = .ok (.getfield 11, 3) := by decide +kernel
theorem d_Fl_compare_4 : decode b_Fl_compare 4 = .ok (.iload_n 1, 1) := by decide +kernel
theorem d_Fl_compare_5 : decode b_Fl_compare 5 = .ok (.aaload, 1) := by decide +kernel
theorem d_Fl_compare_6 : decode b_Fl_compare 6 = .ok (.astore 4, 2) := by decide +kernel
theorem d_Fl_compare_8 : decode b_Fl_compare 8 = .ok (.aload_n 2, 1) := by decide +kernel
theorem d_Fl_compare_9 : decode b_Fl_compare 9 = .ok (.getfield 11, 3) := by decide +kernel
theorem d_Fl_compare_12 : decode b_Fl_compare 12 = .ok (.iload_n 3, 1) := by decide +kernel
theorem d_Fl_compare_13 : decode b_Fl_compare 13 = .ok (.aaload, 1) := by decide +kernel
theorem d_Fl_compare_14 : decode b_Fl_compare 14 = .ok (.astore 5, 2) := by decide +kernel
theorem d_Fl_compare_16 : decode b_Fl_compare 16 = .ok (.aload 4, 2) := by decide +kernel
theorem d_Fl_compare_18 : decode b_Fl_compare 18 = .ok (.aload 5, 2) := by decide +kernel
theorem d_Fl_compare_20 : decode b_Fl_compare 20 = .ok (.if_acmp .ne 68, 3) := by decide +kernel
theorem d_Fl_compare_23 : decode b_Fl_compare 23 = .ok (.aload_n 0, 1) := by decide +kernel
theorem d_Fl_compare_24 : decode b_Fl_compare 24 = .ok (.getfield 21, 3) := by decide +kernel
theorem d_Fl_compare_27 : decode b_Fl_compare 27 = .ok (.iload_n 1, 1) := by decide +kernel
theorem d_Fl_compare_28 : decode b_Fl_compare 28 = .ok (.iaload, 1) := by decide +kernel
theorem d_Fl_compare_29 : decode b_Fl_compare 29 = .ok (.aload_n 2, 1) := by decide +kernel
theorem d_Fl_compare_30 : decode b_Fl_compare 30 = .ok (.getfield 21, 3) := by decide +kernel
theorem d_Fl_compare_33 : decode b_Fl_compare 33 = .ok (.iload_n 3, 1) := by decide +kernel
theorem d_Fl_compare_34 : decode b_Fl_compare 34 = .ok (.iaload, 1) := by decide +kernel
theorem d_Fl_compare_35 : decode b_Fl_compare 35 = .ok (.if_icmp .ne 53, 3) := by decide +kernel
theorem d_Fl_compare_38 : decode b_Fl_compare 38 = .ok (.aload_n 0, 1) := by decide +kernel
theorem d_Fl_compare_39 : decode b_Fl_compare 39 = .ok (.getfield 24, 3) := by decide +kernel
theorem d_Fl_compare_42 : decode b_Fl_compare 42 = .ok (.iload_n 1, 1) := by decide +kernel
theorem d_Fl_compare_43 : decode b_Fl_compare 43 = .ok (.laload, 1) := by decide +kernel
theorem d_Fl_compare_44 : decode b_Fl_compare 44 = .ok (.aload_n 2, 1) := by decide +kernel
theorem d_Fl_compare_45 : decode b_Fl_compare 45 = .ok (.getfield 24, 3) := by decide +kernel
theorem d_Fl_compare_48 : decode b_Fl_compare 48 = .ok (.iload_n 3, 1) := by decide +kernel
theorem d_Fl_compare_49 : decode b_Fl_compare 49 = .ok (.laload, 1) := by decide +kernel
theorem d_Fl_compare_50 : decode b_Fl_compare 50 = .ok (.lcmp, 1) := by decide +kernel
theorem d_Fl_compare_51 : decode b_Fl_compare 51 = .ok (.ifCond .eq 21, 3) := by decide +kernel
theorem d_Fl_compare_54 : decode b_Fl_compare 54 = .ok (.aload_n 0, 1) := by decide +kernel
theorem d_Fl_compare_55 : decode b_Fl_compare 55 = .ok (.getfield 24, 3) := by decide +kernel
theorem d_Fl_compare_58 : decode b_Fl_compare 58 = .ok (.iload_n 1, 1) := by decide +kernel
theorem d_Fl_compare_59 : decode b_Fl_compare 59 = .ok (.laload, 1) := by decide +kernel
theorem d_Fl_compare_60 : decode b_Fl_compare 60 = .ok (.aload_n 2, 1) := by decide +kernel
theorem d_Fl_compare_61 : decode b_Fl_compare 61 = .ok (.getfield 24, 3) := by decide +kernel
theorem d_Fl_compare_64 : decode b_Fl_compare 64 = .ok (.iload_n 3, 1) := by decide +kernel
theorem d_Fl_compare_65 : decode b_Fl_compare 65 = .ok (.laload, 1) := by decide +kernel
theorem d_Fl_compare_66 : decode b_Fl_compare 66 = .ok (.invokestatic 189, 3) := by decide +kernel
theorem d_Fl_compare_69 : decode b_Fl_compare 69 = .ok (.goto 18, 3) := by decide +kernel
theorem d_Fl_compare_72 : decode b_Fl_compare 72 = .ok (.aload_n 0, 1) := by decide +kernel
theorem d_Fl_compare_73 : decode b_Fl_compare 73 = .ok (.getfield 28, 3) := by decide +kernel
theorem d_Fl_compare_76 : decode b_Fl_compare 76 = .ok (.iload_n 1, 1) := by decide +kernel
theorem d_Fl_compare_77 : decode b_Fl_compare 77 = .ok (.laload, 1) := by decide +kernel
theorem d_Fl_compare_78 : decode b_Fl_compare 78 = .ok (.aload_n 2, 1) := by decide +kernel
theorem d_Fl_compare_79 : decode b_Fl_compare 79 = .ok (.getfield 28, 3) := by decide +kernel
theorem d_Fl_compare_82 : decode b_Fl_compare 82 = .ok (.iload_n 3, 1) := by decide +kernel
theorem d_Fl_compare_83 : decode b_Fl_compare 83 = .ok (.laload, 1) := by decide +kernel
theorem d_Fl_compare_84 : decode b_Fl_compare 84 = .ok (.invokestatic 189, 3) := by decide +kernel
theorem d_Fl_compare_87 : decode b_Fl_compare 87 = .ok (.ireturn, 1) := by decide +kernel
theorem d_Fl_compare_88 : decode b_Fl_compare 88 = .ok (.aload 4, 2) := by decide +kernel
theorem d_Fl_compare_90 : decode b_Fl_compare 90 = .ok (.aload 5, 2) := by decide +kernel
theorem d_Fl_compare_92 : decode b_Fl_compare 92 = .ok (.invokevirtual 194, 3) := by decide +kernel
theorem d_Fl_compare_95 : decode b_Fl_compare 95 = .ok (.istore 6, 2) := by decide +kernel
theorem d_Fl_compare_97 : decode b_Fl_compare 97 = .ok (.iconst 0, 1) := by decide +kernel
theorem d_Fl_compare_98 : decode b_Fl_compare 98 = .ok (.istore 7, 2) := by decide +kernel
theorem d_Fl_compare_100 : decode b_Fl_compare 100 = .ok (.iload 7, 2) := by decide +kernel
theorem d_Fl_compare_102 : decode b_Fl_compare 102 = .ok (.aload 4, 2) := by decide +kernel
theorem d_Fl_compare_104 : decode b_Fl_compare 104 = .ok (.getfield 119, 3) := by decide +kernel
theorem d_Fl_compare_107 : decode b_Fl_compare 107 = .ok (.if_icmp .ge 87, 3) := by decide +kernel
theorem d_Fl_compare_110 : decode b_Fl_compare 110 = .ok (.iload 6, 2) := by decide +kernel
theorem d_Fl_compare_112 : decode b_Fl_compare 112 = .ok (.ifCond .ne 82, 3) := by decide +kernel
theorem d_Fl_compare_115 : decode b_Fl_compare 115 = .ok (.aload 4, 2) := by decide +kernel
theorem d_Fl_compare_117 : decode b_Fl_compare 117 = .ok (.aload_n 0, 1) := by decide +kernel
theorem d_Fl_compare_118 : decode b_Fl_compare 118 = .ok (.getfield 21, 3) := by decide +kernel
theorem d_Fl_compare_121 : decode b_Fl_compare 121 = .ok (.iload_n 1, 1) := by decide +kernel
theorem d_Fl_compare_122 : decode b_Fl_compare 122 = .ok (.iaload, 1) := by decide +kernel
theorem d_Fl_compare_123 : decode b_Fl_compare 123 = .ok (.iload 7, 2) := by decide +kernel
theorem d_Fl_compare_125 : decode b_Fl_compare 125 = .ok (.invokevirtual 153, 3) := by decide +kernel
theorem d_Fl_compare_128 : decode b_Fl_compare 128 = .ok (.istore 8, 2) := by decide +kernel
theorem d_Fl_compare_130 : decode b_Fl_compare 130 = .ok (.aload 5, 2) := by decide +kernel
theorem d_Fl_compare_132 : decode b_Fl_compare 132 = .ok (.aload_n 2, 1) := by decide +kernel
theorem d_Fl_compare_133 : decode b_Fl_compare 133 = .ok (.getfield 21, 3) := by decide +kernel
theorem d_Fl_compare_136 : decode b_Fl_compare 136 = .ok (.iload_n 3, 1) := by decide +kernel
theorem d_Fl_compare_137 : decode b_Fl_compare 137 = .ok (.iaload, 1) := by decide +kernel
theorem d_Fl_compare_138 : decode b_Fl_compare 138 = .ok (.iload 7, 2) := by decide +kernel
theorem d_Fl_compare_140 : decode b_Fl_compare 140 = .ok (.invokevirtual 153, 3) := by decide +kernel
theorem d_Fl_compare_143 : decode b_Fl_compare 143 = .ok (.istore 9, 2) := by decide +kernel
theorem d_Fl_compare_145 : decode b_Fl_compare 145 = .ok (.aload_n 0, 1) := by decide +kernel
theorem d_Fl_compare_146 : decode b_Fl_compare 146 = .ok (.iload_n 1, 1) := by decide +kernel
theorem d_Fl_compare_147 : decode b_Fl_compare 147 = .ok (.iload 8, 2) := by decide +kernel
theorem d_Fl_compare_149 : decode b_Fl_compare 149 = .ok (.invokevirtual 156, 3) := by decide +kernel
theorem d_Fl_compare_152 : decode b_Fl_compare 152 = .ok (.aload_n 2, 1) := by decide +kernel
theorem d_Fl_compare_153 : decode b_Fl_compare 153 = .ok (.iload_n 3, 1) := by decide +kernel
theorem d_Fl_compare_154 : decode b_Fl_compare 154 = .ok (.iload 9, 2) := by decide +kernel
theorem d_Fl_compare_156 : decode b_Fl_compare 156 = .ok (.invokevirtual 156, 3) := by decide +kernel
theorem d_Fl_compare_159 : decode b_Fl_compare 159 = .ok (.invokestatic 189, 3) := by decide +kernel
theorem d_Fl_compare_162 : decode b_Fl_compare 162 = .ok (.istore 6, 2) := by decide +kernel
theorem d_Fl_compare_164 : decode b_Fl_compare 164 = .ok (.iload 6, 2) := by decide +kernel
theorem d_Fl_compare_166 : decode b_Fl_compare 166 = .ok (.ifCond .ne 22, 3) := by decide +kernel
theorem d_Fl_compare_169 : decode b_Fl_compare 169 = .ok (.aload_n 0, 1) := by decide +kernel
theorem d_Fl_compare_170 : decode b_Fl_compare 170 = .ok (.iload_n 1, 1) := by decide +kernel
theorem d_Fl_compare_171 : decode b_Fl_compare 171 = .ok (.iload 8, 2) := by decide +kernel
theorem d_Fl_compare_173 : decode b_Fl_compare 173 = .ok (.invokevirtual 162, 3) := by decide +kernel
theorem d_Fl_compare_176 : decode b_Fl_compare 176 = .ok (.aload_n 2, 1) := by decide +kernel
theorem d_Fl_compare_177 : decode b_Fl_compare 177 = .ok (.iload_n 3, 1) := by decide +kernel
theorem d_Fl_compare_178 : decode b_Fl_compare 178 = .ok (.iload 9, 2) := by decide +kernel
theorem d_Fl_compare_180 : decode b_Fl_compare 180 = .ok (.invokevirtual 162, 3) := by decide +kernel
theorem d_Fl_compare_183 : decode b_Fl_compare 183 = .ok (.invokestatic 189, 3) := by decide +kernel
theorem d_Fl_compare_186 : decode b_Fl_compare 186 = .ok (.istore 6, 2) := by decide +kernel
theorem d_Fl_compare_188 : decode b_Fl_compare 188 = .ok (.iinc 7 1, 3) := by decide +kernel
theorem d_Fl_compare_191 : decode b_Fl_compare 191 = .ok (.goto (-91), 3) := by decide +kernel
theorem d_Fl_compare_194 : decode b_Fl_compare 194 = .ok (.iload 6, 2) := by decide +kernel
theorem d_Fl_compare_196 : decode b_Fl_compare 196 = .ok (.ireturn, 1) := by decide +kernel
theorem d_Sh_compareKind_0 : decode b_Sh_compareKind 0 = .ok (.aload_n 0, 1) := by decide +kernel
theorem d_Sh_compareKind_1 : decode b_Sh_compareKind 1 = .ok (.getfield 32, 3) := by decide +kernel
theorem d_Sh_compareKind_4 : decode b_Sh_compareKind 4 = .ok (.aload_n 1, 1) := by decide +kernel
theorem d_Sh_compareKind_5 : decode b_Sh_compareKind 5 = .ok (.getfield 32, 3) := by decide +kernel
theorem d_Sh_compareKind_8 : decode b_Sh_compareKind 8 = .ok (.invokestatic 113, 3) := by decide +kernel
theorem d_Sh_compareKind_11 : decode b_Sh_compareKind 11 = .ok (.istore_n 2, 1) := by decide +kernel
theorem d_Sh_compareKind_12 : decode b_Sh_compareKind 12 = .ok (.iload_n 2, 1) := by decide +kernel
theorem d_Sh_compareKind_13 : decode b_Sh_compareKind 13 = .ok (.ifCond .ne 15, 3) := by decide +kernel
theorem d_Sh_compareKind_16 : decode b_Sh_compareKind 16 = .ok (.aload_n 0, 1) := by decide +kernel
theorem d_Sh_compareKind_17 : decode b_Sh_compareKind 17 = .ok (.getfield 36, 3) := by decide +kernel
theorem d_Sh_compareKind_20 : decode b_Sh_compareKind 20 = .ok (.aload_n 1, 1) := by decide +kernel
theorem d_Sh_compareKind_21 : decode b_Sh_compareKind 21 = .ok (.getfield 36, 3) := by decide +kernel
theorem d_Sh_compareKind_24 : decode b_Sh_compareKind 24 = .ok (.invokestatic 106, 3) := by decide +kernel
theorem d_Sh_compareKind_27 : decode b_Sh_compareKind 27 = .ok (.istore_n 2, 1) := by decide +kernel
theorem d_Sh_compareKind_28 : decode b_Sh_compareKind 28 = .ok (.iload_n 2, 1) := by decide +kernel
theorem d_Sh_compareKind_29 : decode b_Sh_compareKind 29 = .ok (.ifCond .ne 15, 3) := by decide +kernel
theorem d_Sh_compareKind_32 : decode b_Sh_compareKind 32 = .ok (.aload_n 0, 1) := by decide +kernel
theorem d_Sh_compareKind_33 : decode b_Sh_compareKind 33 = .ok (.getfield 40, 3) := by decide +kernel
theorem d_Sh_compareKind_36 : decode b_Sh_compareKind 36 = .ok (.aload_n 1, 1) := by decide +kernel
theorem d_Sh_compareKind_37 : decode b_Sh_compareKind 37 = .ok (.getfield 40, 3) := by decide +kernel
theorem d_Sh_compareKind_40 : decode b_Sh_compareKind 40 = .ok (.invokestatic 113, 3) := by decide +kernel
theorem d_Sh_compareKind_43 : decode b_Sh_compareKind 43 = .ok (.istore_n 2, 1) := by decide +kernel
theorem d_Sh_compareKind_44 : decode b_Sh_compareKind 44 = .ok (.iload_n 2, 1) := by decide +kernel
theorem d_Sh_compareKind_45 : decode b_Sh_compareKind 45 = .ok (.ifCond .ne 15, 3) := by decide +kernel
theorem d_Sh_compareKind_48 : decode b_Sh_compareKind 48 = .ok (.aload_n 0, 1) := by decide +kernel
theorem d_Sh_compareKind_49 : decode b_Sh_compareKind 49 = .ok (.getfield 43, 3) := by decide +kernel
theorem d_Sh_compareKind_52 : decode b_Sh_compareKind 52 = .ok (.aload_n 1, 1) := by decide +kernel
theorem d_Sh_compareKind_53 : decode b_Sh_compareKind 53 = .ok (.getfield 43, 3) := by decide +kernel
theorem d_Sh_compareKind_56 : decode b_Sh_compareKind 56 = .ok (.invokestatic 113, 3) := by decide +kernel
theorem d_Sh_compareKind_59 : decode b_Sh_compareKind 59 = .ok (.istore_n 2, 1) := by decide +kernel
theorem d_Sh_compareKind_60 : decode b_Sh_compareKind 60 = .ok (.iload_n 2, 1) := by decide +kernel
theorem d_Sh_compareKind_61 : decode b_Sh_compareKind 61 = .ok (.ireturn, 1) := by decide +kernel
theorem d_ST_find_0 : decode b_ST_find 0 = .ok (.aload_n 0, 1) := by decide +kernel
theorem d_ST_find_1 : decode b_ST_find 1 = .ok (.iload_n 1, 1) := by decide +kernel
theorem d_ST_find_2 : decode b_ST_find 2 = .ok (.invokevirtual 74, 3) := by decide +kernel
theorem d_ST_find_5 : decode b_ST_find 5 = .ok (.astore 10, 2) := by decide +kernel
theorem d_ST_find_7 : decode b_ST_find 7 = .ok (.lload_n 2, 1) := by decide +kernel
theorem d_ST_find_8 : decode b_ST_find 8 = .ok (.invokestatic 115, 3) := by decide +kernel
theorem d_ST_find_11 : decode b_ST_find 11 = .ok (.lload 4, 2) := by decide +kernel
theorem d_ST_find_13 : decode b_ST_find 13 = .ok (.invokestatic 115, 3) := by decide +kernel
theorem d_ST_find_16 : decode b_ST_find 16 = .ok (.lload 6, 2) := by decide +kernel
theorem d_ST_find_18 : decode b_ST_find 18 = .ok (.invokestatic 115, 3) := by decide +kernel
theorem d_ST_find_21 : decode b_ST_find 21 = .ok (.lload 8, 2) := by decide +kernel
theorem d_ST_find_23 : decode b_ST_find 23 = .ok (.invokestatic 115, 3) := by decide +kernel
theorem d_ST_find_26 : decode b_ST_find 26 = .ok (.lload_n 2, 1) := by decide +kernel
theorem d_ST_find_27 : decode b_ST_find 27 = .ok (.lload 6, 2) := by decide +kernel
theorem d_ST_find_29 : decode b_ST_find 29 = .ok (.lcmp, 1) := by decide +kernel
theorem d_ST_find_30 : decode b_ST_find 30 = .ok (.ifCond .gt 11, 3) := by decide +kernel
theorem d_ST_find_33 : decode b_ST_find 33 = .ok (.lload 4, 2) := by decide +kernel
theorem d_ST_find_35 : decode b_ST_find 35 = .ok (.lload 8, 2) := by decide +kernel
theorem d_ST_find_37 : decode b_ST_find 37 = .ok (.lcmp, 1) := by decide +kernel
theorem d_ST_find_38 : decode b_ST_find 38 = .ok (.ifCond .le 13, 3) := by decide +kernel
theorem d_ST_find_41 : decode b_ST_find 41 = .ok (.new 106, 3) := by decide +kernel
theorem d_ST_find_44 : decode b_ST_find 44 = .ok (.dup, 1) := by decide +kernel
theorem d_ST_find_45 : decode b_ST_find 45 = .ok (.ldc 212, 2) := by decide +kernel
theorem d_ST_find_47 : decode b_ST_find 47 = .ok (.invokespecial 110, 3) := by decide +kernel
theorem d_ST_find_50 : decode b_ST_find 50 = .ok (.athrow, 1) := by decide +kernel
theorem d_ST_find_51 : decode b_ST_find 51 = .ok (.aload_n 0, 1) := by decide +kernel
theorem d_ST_find_52 : decode b_ST_find 52 = .ok (.iconst (-1), 1) := by decide +kernel
theorem d_ST_find_53 : decode b_ST_find 53 = .ok (.invokevirtual 160, 3) := by decide +kernel
theorem d_ST_find_56 : decode b_ST_find 56 = .ok (.aload 10, 2) := by decide +kernel
theorem d_ST_find_58 : decode b_ST_find 58 = .ok (.invokestatic 174, 3) := by decide +kernel
theorem d_ST_find_61 : decode b_ST_find 61 = .ok (.aload_n 0, 1) := by decide +kernel
theorem d_ST_find_62 : decode b_ST_find 62 = .ok (.getfield 29, 3) := by decide +kernel
theorem d_ST_find_65 : decode b_ST_find 65 = .ok (.aload 10, 2) := by decide +kernel
theorem d_ST_find_67 : decode b_ST_find 67 = .ok (.iconst (-1), 1) := by decide +kernel
theorem d_ST_find_68 : decode b_ST_find 68 = .ok (.invokevirtual 178, 3) := by decide +kernel
theorem d_ST_find_71 : decode b_ST_find 71 = .ok (.iconst 0, 1) := by decide +kernel
theorem d_ST_find_72 : decode b_ST_find 72 = .ok (.istore 11, 2) := by decide +kernel
theorem d_ST_find_74 : decode b_ST_find 74 = .ok (.iconst 0, 1) := by decide +kernel
theorem d_ST_find_75 : decode b_ST_find 75 = .ok (.istore 12, 2) := by decide +kernel
theorem d_ST_find_77 : decode b_ST_find 77 = .ok (.iload 12, 2) := by decide +kernel
theorem d_ST_find_79 : decode b_ST_find 79 = .ok (.aload_n 0, 1) := by decide +kernel
theorem d_ST_find_80 : decode b_ST_find 80 = .ok (.getfield 29, 3) := by decide +kernel
theorem d_ST_find_83 : decode b_ST_find 83 = .ok (.getfield 182, 3) := by decide +kernel
theorem d_ST_find_86 : decode b_ST_find 86 = .ok (.if_icmp .ge 79, 3) := by decide +kernel
theorem d_ST_find_89 : decode b_ST_find 89 = .ok (.aload_n 0, 1) := by decide +kernel
theorem d_ST_find_90 : decode b_ST_find 90 = .ok (.getfield 38, 3) := by decide +kernel
theorem d_ST_find_93 : decode b_ST_find 93 = .ok (.aload_n 0, 1) := by decide +kernel
theorem d_ST_find_94 : decode b_ST_find 94 = .ok (.getfield 29, 3) := by decide +kernel
theorem d_ST_find_97 : decode b_ST_find 97 = .ok (.getfield 214, 3) := by decide +kernel
theorem d_ST_find_100 : decode b_ST_find 100 = .ok (.iload 12, 2) := by decide +kernel
theorem d_ST_find_102 : decode b_ST_find 102 = .ok (.aaload, 1) := by decide +kernel
theorem d_ST_find_103 : decode b_ST_find 103 = .ok (.getfield 217, 3) := by decide +kernel
theorem d_ST_find_106 : decode b_ST_find 106 = .ok (.aload_n 0, 1) := by decide +kernel
theorem d_ST_find_107 : decode b_ST_find 107 = .ok (.getfield 29, 3) := by decide +kernel
theorem d_ST_find_110 : decode b_ST_find 110 = .ok (.getfield 218, 3) := by decide +kernel
theorem d_ST_find_113 : decode b_ST_find 113 = .ok (.iload 12, 2) := by decide +kernel
theorem d_ST_find_115 : decode b_ST_find 115 = .ok (.iaload, 1) := by decide +kernel
theorem d_ST_find_116 : decode b_ST_find 116 = .ok (.aload_n 0, 1) := by decide +kernel
theorem d_ST_find_117 : decode b_ST_find 117 = .ok (.getfield 29, 3) := by decide +kernel
theorem d_ST_find_120 : decode b_ST_find 120 = .ok (.getfield 221, 3) := by decide +kernel
theorem d_ST_find_123 : decode b_ST_find 123 = .ok (.iload 12, 2) := by decide +kernel
theorem d_ST_find_125 : decode b_ST_find 125 = .ok (.laload, 1) := by decide +kernel
theorem d_ST_find_126 : decode b_ST_find 126 = .ok (.aload_n 0, 1) := by decide +kernel
theorem d_ST_find_127 : decode b_ST_find 127 = .ok (.getfield 29, 3) := by decide +kernel
theorem d_ST_find_130 : decode b_ST_find 130 = .ok (.getfield 225, 3) := by decide +kernel
theorem d_ST_find_133 : decode b_ST_find 133 = .ok (.iload 12, 2) := by decide +kernel
theorem d_ST_find_135 : decode b_ST_find 135 = .ok (.laload, 1) := by decide +kernel
theorem d_ST_find_136 : decode b_ST_find 136 = .ok (.invokevirtual 228, 3) := by decide +kernel
theorem d_ST_find_139 : decode b_ST_find 139 = .ok (.aload_n 0, 1) := by decide +kernel
theorem d_ST_find_140 : decode b_ST_find 140 = .ok (.getfield 38, 3) := by decide +kernel
theorem d_ST_find_143 : decode b_ST_find 143 = .ok (.lload_n 2, 1) := by decide +kernel
theorem d_ST_find_144 : decode b_ST_find 144 = .ok (.lload 4, 2) := by decide +kernel
theorem d_ST_find_146 : decode b_ST_find 146 = .ok (.lload 6, 2) := by decide +kernel
theorem d_ST_find_148 : decode b_ST_find 148 = .ok (.lload 8, 2) := by decide +kernel
theorem d_ST_find_150 : decode b_ST_find 150 = .ok (.invokevirtual 232, 3) := by decide +kernel
theorem d_ST_find_153 : decode b_ST_find 153 = .ok (.ifCond .eq 6, 3) := by decide +kernel
theorem d_ST_find_156 : decode b_ST_find 156 = .ok (.iinc 11 1, 3) := by decide +kernel
theorem d_ST_find_159 : decode b_ST_find 159 = .ok (.iinc 12 1, 3) := by decide +kernel
theorem d_ST_find_162 : decode b_ST_find 162 = .ok (.goto (-85), 3) := by decide +kernel
theorem d_ST_find_165 : decode b_ST_find 165 = .ok (.iload 11, 2) := by decide +kernel
theorem d_ST_find_167 : decode b_ST_find 167 = .ok (.ireturn, 1) := by decide +kernel
theorem d_Bx_touches_0 : decode b_Bx_touches 0 = .ok (.aload_n 0, 1) := by decide +kernel
theorem d_Bx_touches_1 : decode b_Bx_touches 1 = .ok (.getfield 13, 3) := by decide +kernel
theorem d_Bx_touches_4 : decode b_Bx_touches 4 = .ok (.lload 5, 2) := by decide +kernel
theorem d_Bx_touches_6 : decode b_Bx_touches 6 = .ok (.lcmp, 1) := by decide +kernel
theorem d_Bx_touches_7 : decode b_Bx_touches 7 = .ok (.ifCond .gt 35, 3) := by decide +kernel
theorem d_Bx_touches_10 : decode b_Bx_touches 10 = .ok (.aload_n 0, 1) := by decide +kernel
theorem d_Bx_touches_11 : decode b_Bx_touches 11 = .ok (.getfield 26, 3) := by decide +kernel
theorem d_Bx_touches_14 : decode b_Bx_touches 14 = .ok (.lload_n 1, 1) := by decide +kernel
theorem d_Bx_touches_15 : decode b_Bx_touches 15 = .ok (.lcmp, 1) := by decide +kernel
theorem d_Bx_touches_16 : decode b_Bx_touches 16 = .ok (.ifCond .lt 26, 3) := by decide +kernel
theorem d_Bx_touches_19 : decode b_Bx_touches 19 = .ok (.aload_n 0, 1) := by decide +kernel
theorem d_Bx_touches_20 : decode b_Bx_touches 20 = .ok (.getfield 23, 3) := by decide +kernel
theorem d_Bx_touches_23 : decode b_Bx_touches 23 = .ok (.lload 7, 2) := by decide +kernel
theorem d_Bx_touches_25 : decode b_Bx_touches 25 = .ok (.lcmp, 1) := by decide +kernel
theorem d_Bx_touches_26 : decode b_Bx_touches 26 = .ok (.ifCond .gt 16, 3) := by decide +kernel
theorem d_Bx_touches_29 : decode b_Bx_touches 29 = .ok (.aload_n 0, 1) := by decide +kernel
theorem d_Bx_touches_30 : decode b_Bx_touches 30 = .ok (.getfield 32, 3) := by decide +kernel
theorem d_Bx_touches_33 : decode b_Bx_touches 33 = .ok (.lload_n 3, 1) := by decide +kernel
theorem d_Bx_touches_34 : decode b_Bx_touches 34 = .ok (.lcmp, 1) := by decide +kernel
theorem d_Bx_touches_35 : decode b_Bx_touches 35 = .ok (.ifCond .lt 7, 3) := by decide +kernel
theorem d_Bx_touches_38 : decode b_Bx_touches 38 = .ok (.iconst 1, 1) := by decide +kernel
theorem d_Bx_touches_39 : decode b_Bx_touches 39 = .ok (.goto 4, 3) := by decide +kernel
theorem d_Bx_touches_42 : decode b_Bx_touches 42 = .ok (.iconst 0, 1) := by decide +kernel
theorem d_Bx_touches_43 : decode b_Bx_touches 43 = .ok (.ireturn, 1) := by decide +kernel
theorem d_ST_drop_0 : decode b_ST_drop 0 = .ok (.aload_n 0, 1) := by decide +kernel
theorem d_ST_drop_1 : decode b_ST_drop 1 = .ok (.iload_n 1, 1) := by decide +kernel
theorem d_ST_drop_2 : decode b_ST_drop 2 = .ok (.invokevirtual 236, 3) := by decide +kernel
theorem d_ST_drop_5 : decode b_ST_drop 5 = .ok (.astore_n 2, 1) := by decide +kernel
theorem d_ST_drop_6 : decode b_ST_drop 6 = .ok (.aload_n 2, 1) := by decide +kernel
theorem d_ST_drop_7 : decode b_ST_drop 7 = .ok (.getfield 240, 3) := by decide +kernel
theorem d_ST_drop_10 : decode b_ST_drop 10 = .ok (.ifCond .ne 7, 3) := by decide +kernel
theorem d_ST_drop_13 : decode b_ST_drop 13 = .ok (.iconst 1, 1) := by decide +kernel
theorem d_ST_drop_14 : decode b_ST_drop 14 = .ok (.goto 4, 3) := by decide +kernel
theorem d_ST_drop_17 : decode b_ST_drop 17 = .ok (.iconst 0, 1) := by decide +kernel
theorem d_ST_drop_18 : decode b_ST_drop 18 = .ok (.istore_n 3, 1) := by decide +kernel
theorem d_ST_drop_19 : decode b_ST_drop 19 = .ok (.aload_n 2, 1) := by decide +kernel
theorem d_ST_drop_20 : decode b_ST_drop 20 = .ok (.iconst 1, 1) := by decide +kernel
theorem d_ST_drop_21 : decode b_ST_drop 21 = .ok (.putfield 240, 3) := by decide +kernel
theorem d_ST_drop_24 : decode b_ST_drop 24 = .ok (.iload_n 3, 1) := by decide +kernel
theorem d_ST_drop_25 : decode b_ST_drop 25 = .ok (.ireturn, 1) := by decide +kernel
