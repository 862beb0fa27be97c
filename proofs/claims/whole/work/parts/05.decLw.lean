theorem d_Lw_cell_0_0 : decode b_Lw_cell_0 0 = .ok (.iload_n 1, 1) := by decide +kernel
theorem d_Lw_cell_0_1 : decode b_Lw_cell_0 1 = .ok (.aload_n 0, 1) := by decide +kernel
theorem d_Lw_cell_0_2 : decode b_Lw_cell_0 2 = .ok (.arraylength, 1) := by decide +kernel
theorem d_Lw_cell_0_3 : decode b_Lw_cell_0 3 = .ok (.if_icmp .ge 9, 3) := by decide +kernel
theorem d_Lw_cell_0_6 : decode b_Lw_cell_0 6 = .ok (.aload_n 0, 1) := by decide +kernel
theorem d_Lw_cell_0_7 : decode b_Lw_cell_0 7 = .ok (.iload_n 1, 1) := by decide +kernel
theorem d_Lw_cell_0_8 : decode b_Lw_cell_0 8 = .ok (.iaload, 1) := by decide +kernel
theorem d_Lw_cell_0_9 : decode b_Lw_cell_0 9 = .ok (.goto 4, 3) := by decide +kernel
theorem d_Lw_cell_0_12 : decode b_Lw_cell_0 12 = .ok (.iconst 0, 1) := by decide +kernel
theorem d_Lw_cell_0_13 : decode b_Lw_cell_0 13 = .ok (.ireturn, 1) := by decide +kernel
theorem d_Lw_cell_1_0 : decode b_Lw_cell_1 0 = .ok (.aload_n 1, 1) := by decide +kernel
theorem d_Lw_cell_1_1 : decode b_Lw_cell_1 1 = .ok (.iconst 0, 1) := by decide +kernel
theorem d_Lw_cell_1_2 : decode b_Lw_cell_1 2 = .ok (.aload_n 0, 1) := by decide +kernel
theorem d_Lw_cell_1_3 : decode b_Lw_cell_1 3 = .ok (.invokevirtual 7, 3) := by decide +kernel
theorem d_Lw_cell_1_6 : decode b_Lw_cell_1 6 = .ok (.i2l, 1) := by decide +kernel
theorem d_Lw_cell_1_7 : decode b_Lw_cell_1 7 = .ok (.lastore, 1) := by decide +kernel
theorem d_Lw_cell_1_8 : decode b_Lw_cell_1 8 = .ok (.goto 6, 3) := by decide +kernel
theorem d_Lw_cell_1_11 : decode b_Lw_cell_1 11 = .ok (.astore_n 2, 1) := by decide +kernel
theorem d_Lw_cell_1_12 : decode b_Lw_cell_1 12 = .ok (.iconst 1, 1) := by decide +kernel
theorem d_Lw_cell_1_13 : decode b_Lw_cell_1 13 = .ok (.ireturn, 1) := by decide +kernel
theorem d_Lw_cell_1_14 : decode b_Lw_cell_1 14 = .ok (.iconst 0, 1) := by decide +kernel
theorem d_Lw_cell_1_15 : decode b_Lw_cell_1 15 = .ok (.ireturn, 1) := by decide +kernel
theorem d_Lw_polygon_0 : decode b_Lw_polygon 0 = .ok (.aload_n 3, 1) := by decide +kernel
theorem d_Lw_polygon_1 : decode b_Lw_polygon 1 = .ok (.iconst 0, 1) := by decide +kernel
theorem d_Lw_polygon_2 : decode b_Lw_polygon 2 = .ok (.aload_n 0, 1) := by decide +kernel
theorem d_Lw_polygon_3 : decode b_Lw_polygon 3 = .ok (.iload_n 1, 1) := by decide +kernel
theorem d_Lw_polygon_4 : decode b_Lw_polygon 4 = .ok (.iload_n 2, 1) := by decide +kernel
theorem d_Lw_polygon_5 : decode b_Lw_polygon 5 = .ok (.invokevirtual 15, 3) := by decide +kernel
theorem d_Lw_polygon_8 : decode b_Lw_polygon 8 = .ok (.i2l, 1) := by decide +kernel
theorem d_Lw_polygon_9 : decode b_Lw_polygon 9 = .ok (.lastore, 1) := by decide +kernel
theorem d_Lw_polygon_10 : decode b_Lw_polygon 10 = .ok (.goto 11, 3) := by decide +kernel
theorem d_Lw_polygon_13 : decode b_Lw_polygon 13 = .ok (.astore 4, 2) := by decide +kernel
theorem d_Lw_polygon_15 : decode b_Lw_polygon 15 = .ok (.iconst 1, 1) := by decide +kernel
theorem d_Lw_polygon_16 : decode b_Lw_polygon 16 = .ok (.ireturn, 1) := by decide +kernel
theorem d_Lw_polygon_17 : decode b_Lw_polygon 17 = .ok (.astore 4, 2) := by decide +kernel
theorem d_Lw_polygon_19 : decode b_Lw_polygon 19 = .ok (.iconst 2, 1) := by decide +kernel
theorem d_Lw_polygon_20 : decode b_Lw_polygon 20 = .ok (.ireturn, 1) := by decide +kernel
theorem d_Lw_polygon_21 : decode b_Lw_polygon 21 = .ok (.iconst 0, 1) := by decide +kernel
theorem d_Lw_polygon_22 : decode b_Lw_polygon 22 = .ok (.ireturn, 1) := by decide +kernel
theorem d_Lw_corner_0 : decode b_Lw_corner 0 = .ok (.aload 6, 2) := by decide +kernel
theorem d_Lw_corner_2 : decode b_Lw_corner 2 = .ok (.iconst 0, 1) := by decide +kernel
theorem d_Lw_corner_3 : decode b_Lw_corner 3 = .ok (.aload_n 0, 1) := by decide +kernel
theorem d_Lw_corner_4 : decode b_Lw_corner 4 = .ok (.iload_n 1, 1) := by decide +kernel
theorem d_Lw_corner_5 : decode b_Lw_corner 5 = .ok (.lload_n 2, 1) := by decide +kernel
theorem d_Lw_corner_6 : decode b_Lw_corner 6 = .ok (.lload 4, 2) := by decide +kernel
theorem d_Lw_corner_8 : decode b_Lw_corner 8 = .ok (.invokevirtual 21, 3) := by decide +kernel
theorem d_Lw_corner_11 : decode b_Lw_corner 11 = .ok (.ifCond .eq 7, 3) := by decide +kernel
theorem d_Lw_corner_14 : decode b_Lw_corner 14 = .ok (.lconst 1, 1) := by decide +kernel
theorem d_Lw_corner_15 : decode b_Lw_corner 15 = .ok (.goto 4, 3) := by decide +kernel
theorem d_Lw_corner_18 : decode b_Lw_corner 18 = .ok (.lconst 0, 1) := by decide +kernel
theorem d_Lw_corner_19 : decode b_Lw_corner 19 = .ok (.lastore, 1) := by decide +kernel
theorem d_Lw_corner_20 : decode b_Lw_corner 20 = .ok (.goto 15, 3) := by decide +kernel
theorem d_Lw_corner_23 : decode b_Lw_corner 23 = .ok (.astore 7, 2) := by decide +kernel
theorem d_Lw_corner_25 : decode b_Lw_corner 25 = .ok (.iconst 1, 1) := by decide +kernel
theorem d_Lw_corner_26 : decode b_Lw_corner 26 = .ok (.ireturn, 1) := by decide +kernel
theorem d_Lw_corner_27 : decode b_Lw_corner 27 = .ok (.astore 7, 2) := by decide +kernel
theorem d_Lw_corner_29 : decode b_Lw_corner 29 = .ok (.iconst 2, 1) := by decide +kernel
theorem d_Lw_corner_30 : decode b_Lw_corner 30 = .ok (.ireturn, 1) := by decide +kernel
theorem d_Lw_corner_31 : decode b_Lw_corner 31 = .ok (.astore 7, 2) := by decide +kernel
theorem d_Lw_corner_33 : decode b_Lw_corner 33 = .ok (.iconst 3, 1) := by decide +kernel
theorem d_Lw_corner_34 : decode b_Lw_corner 34 = .ok (.ireturn, 1) := by decide +kernel
theorem d_Lw_corner_35 : decode b_Lw_corner 35 = .ok (.iconst 0, 1) := by decide +kernel
theorem d_Lw_corner_36 : decode b_Lw_corner 36 = .ok (.ireturn, 1) := by decide +kernel
theorem d_Lw_path_0 : decode b_Lw_path 0 = .ok (.aload 6, 2) := by decide +kernel
theorem d_Lw_path_2 : decode b_Lw_path 2 = .ok (.iconst 0, 1) := by decide +kernel
theorem d_Lw_path_3 : decode b_Lw_path 3 = .ok (.aload_n 0, 1) := by decide +kernel
theorem d_Lw_path_4 : decode b_Lw_path 4 = .ok (.iload_n 1, 1) := by decide +kernel
theorem d_Lw_path_5 : decode b_Lw_path 5 = .ok (.iload_n 2, 1) := by decide +kernel
theorem d_Lw_path_6 : decode b_Lw_path 6 = .ok (.lload_n 3, 1) := by decide +kernel
theorem d_Lw_path_7 : decode b_Lw_path 7 = .ok (.iload 5, 2) := by decide +kernel
theorem d_Lw_path_9 : decode b_Lw_path 9 = .ok (.invokevirtual 27, 3) := by decide +kernel
theorem d_Lw_path_12 : decode b_Lw_path 12 = .ok (.i2l, 1) := by decide +kernel
theorem d_Lw_path_13 : decode b_Lw_path 13 = .ok (.lastore, 1) := by decide +kernel
theorem d_Lw_path_14 : decode b_Lw_path 14 = .ok (.goto 15, 3) := by decide +kernel
theorem d_Lw_path_17 : decode b_Lw_path 17 = .ok (.astore 7, 2) := by decide +kernel
theorem d_Lw_path_19 : decode b_Lw_path 19 = .ok (.iconst 1, 1) := by decide +kernel
theorem d_Lw_path_20 : decode b_Lw_path 20 = .ok (.ireturn, 1) := by decide +kernel
theorem d_Lw_path_21 : decode b_Lw_path 21 = .ok (.astore 7, 2) := by decide +kernel
theorem d_Lw_path_23 : decode b_Lw_path 23 = .ok (.iconst 2, 1) := by decide +kernel
theorem d_Lw_path_24 : decode b_Lw_path 24 = .ok (.ireturn, 1) := by decide +kernel
theorem d_Lw_path_25 : decode b_Lw_path 25 = .ok (.astore 7, 2) := by decide +kernel
theorem d_Lw_path_27 : decode b_Lw_path 27 = .ok (.iconst 3, 1) := by decide +kernel
theorem d_Lw_path_28 : decode b_Lw_path 28 = .ok (.ireturn, 1) := by decide +kernel
theorem d_Lw_path_29 : decode b_Lw_path 29 = .ok (.iconst 0, 1) := by decide +kernel
theorem d_Lw_path_30 : decode b_Lw_path 30 = .ok (.ireturn, 1) := by decide +kernel
theorem d_Lw_point_0 : decode b_Lw_point 0 = .ok (.aload 6, 2) := by decide +kernel
theorem d_Lw_point_2 : decode b_Lw_point 2 = .ok (.iconst 0, 1) := by decide +kernel
theorem d_Lw_point_3 : decode b_Lw_point 3 = .ok (.aload_n 0, 1) := by decide +kernel
theorem d_Lw_point_4 : decode b_Lw_point 4 = .ok (.iload_n 1, 1) := by decide +kernel
theorem d_Lw_point_5 : decode b_Lw_point 5 = .ok (.lload_n 2, 1) := by decide +kernel
theorem d_Lw_point_6 : decode b_Lw_point 6 = .ok (.lload 4, 2) := by decide +kernel
theorem d_Lw_point_8 : decode b_Lw_point 8 = .ok (.invokevirtual 31, 3) := by decide +kernel
theorem d_Lw_point_11 : decode b_Lw_point 11 = .ok (.ifCond .eq 7, 3) := by decide +kernel
theorem d_Lw_point_14 : decode b_Lw_point 14 = .ok (.lconst 1, 1) := by decide +kernel
theorem d_Lw_point_15 : decode b_Lw_point 15 = .ok (.goto 4, 3) := by decide +kernel
theorem d_Lw_point_18 : decode b_Lw_point 18 = .ok (.lconst 0, 1) := by decide +kernel
theorem d_Lw_point_19 : decode b_Lw_point 19 = .ok (.lastore, 1) := by decide +kernel
theorem d_Lw_point_20 : decode b_Lw_point 20 = .ok (.goto 15, 3) := by decide +kernel
theorem d_Lw_point_23 : decode b_Lw_point 23 = .ok (.astore 7, 2) := by decide +kernel
theorem d_Lw_point_25 : decode b_Lw_point 25 = .ok (.iconst 1, 1) := by decide +kernel
theorem d_Lw_point_26 : decode b_Lw_point 26 = .ok (.ireturn, 1) := by decide +kernel
theorem d_Lw_point_27 : decode b_Lw_point 27 = .ok (.astore 7, 2) := by decide +kernel
theorem d_Lw_point_29 : decode b_Lw_point 29 = .ok (.iconst 2, 1) := by decide +kernel
theorem d_Lw_point_30 : decode b_Lw_point 30 = .ok (.ireturn, 1) := by decide +kernel
theorem d_Lw_point_31 : decode b_Lw_point 31 = .ok (.astore 7, 2) := by decide +kernel
theorem d_Lw_point_33 : decode b_Lw_point 33 = .ok (.iconst 3, 1) := by decide +kernel
theorem d_Lw_point_34 : decode b_Lw_point 34 = .ok (.ireturn, 1) := by decide +kernel
theorem d_Lw_point_35 : decode b_Lw_point 35 = .ok (.iconst 0, 1) := by decide +kernel
theorem d_Lw_point_36 : decode b_Lw_point 36 = .ok (.ireturn, 1) := by decide +kernel
theorem d_Lw_place_0 : decode b_Lw_place 0 = .ok (.aload 8, 2) := by decide +kernel
theorem d_Lw_place_2 : decode b_Lw_place 2 = .ok (.iconst 0, 1) := by decide +kernel
theorem d_Lw_place_3 : decode b_Lw_place 3 = .ok (.aload_n 0, 1) := by decide +kernel
theorem d_Lw_place_4 : decode b_Lw_place 4 = .ok (.iload_n 1, 1) := by decide +kernel
theorem d_Lw_place_5 : decode b_Lw_place 5 = .ok (.iload_n 2, 1) := by decide +kernel
theorem d_Lw_place_6 : decode b_Lw_place 6 = .ok (.lload_n 3, 1) := by decide +kernel
theorem d_Lw_place_7 : decode b_Lw_place 7 = .ok (.lload 5, 2) := by decide +kernel
theorem d_Lw_place_9 : decode b_Lw_place 9 = .ok (.iload 7, 2) := by decide +kernel
theorem d_Lw_place_11 : decode b_Lw_place 11 = .ok (.invokevirtual 34, 3) := by decide +kernel
theorem d_Lw_place_14 : decode b_Lw_place 14 = .ok (.i2l, 1) := by decide +kernel
theorem d_Lw_place_15 : decode b_Lw_place 15 = .ok (.lastore, 1) := by decide +kernel
theorem d_Lw_place_16 : decode b_Lw_place 16 = .ok (.goto 15, 3) := by decide +kernel
theorem d_Lw_place_19 : decode b_Lw_place 19 = .ok (.astore 9, 2) := by decide +kernel
theorem d_Lw_place_21 : decode b_Lw_place 21 = .ok (.iconst 1, 1) := by decide +kernel
theorem d_Lw_place_22 : decode b_Lw_place 22 = .ok (.ireturn, 1) := by decide +kernel
theorem d_Lw_place_23 : decode b_Lw_place 23 = .ok (.astore 9, 2) := by decide +kernel
theorem d_Lw_place_25 : decode b_Lw_place 25 = .ok (.iconst 2, 1) := by decide +kernel
theorem d_Lw_place_26 : decode b_Lw_place 26 = .ok (.ireturn, 1) := by decide +kernel
theorem d_Lw_place_27 : decode b_Lw_place 27 = .ok (.astore 9, 2) := by decide +kernel
theorem d_Lw_place_29 : decode b_Lw_place 29 = .ok (.iconst 3, 1) := by decide +kernel
theorem d_Lw_place_30 : decode b_Lw_place 30 = .ok (.ireturn, 1) := by decide +kernel
theorem d_Lw_place_31 : decode b_Lw_place 31 = .ok (.iconst 0, 1) := by decide +kernel
theorem d_Lw_place_32 : decode b_Lw_place 32 = .ok (.ireturn, 1) := by decide +kernel
theorem d_Lw_array_0 : decode b_Lw_array 0 = .ok (.aload 8, 2) := by decide +kernel
theorem d_Lw_array_2 : decode b_Lw_array 2 = .ok (.iconst 0, 1) := by decide +kernel
theorem d_Lw_array_3 : decode b_Lw_array 3 = .ok (.aload_n 0, 1) := by decide +kernel
theorem d_Lw_array_4 : decode b_Lw_array 4 = .ok (.iload_n 1, 1) := by decide +kernel
theorem d_Lw_array_5 : decode b_Lw_array 5 = .ok (.iload_n 2, 1) := by decide +kernel
theorem d_Lw_array_6 : decode b_Lw_array 6 = .ok (.iload_n 3, 1) := by decide +kernel
theorem d_Lw_array_7 : decode b_Lw_array 7 = .ok (.lload 4, 2) := by decide +kernel
theorem d_Lw_array_9 : decode b_Lw_array 9 = .ok (.lload 6, 2) := by decide +kernel
theorem d_Lw_array_11 : decode b_Lw_array 11 = .ok (.invokevirtual 38, 3) := by decide +kernel
theorem d_Lw_array_14 : decode b_Lw_array 14 = .ok (.i2l, 1) := by decide +kernel
theorem d_Lw_array_15 : decode b_Lw_array 15 = .ok (.lastore, 1) := by decide +kernel
theorem d_Lw_array_16 : decode b_Lw_array 16 = .ok (.goto 11, 3) := by decide +kernel
theorem d_Lw_array_19 : decode b_Lw_array 19 = .ok (.astore 9, 2) := by decide +kernel
theorem d_Lw_array_21 : decode b_Lw_array 21 = .ok (.iconst 1, 1) := by decide +kernel
theorem d_Lw_array_22 : decode b_Lw_array 22 = .ok (.ireturn, 1) := by decide +kernel
theorem d_Lw_array_23 : decode b_Lw_array 23 = .ok (.astore 9, 2) := by decide +kernel
theorem d_Lw_array_25 : decode b_Lw_array 25 = .ok (.iconst 2, 1) := by decide +kernel
theorem d_Lw_array_26 : decode b_Lw_array 26 = .ok (.ireturn, 1) := by decide +kernel
theorem d_Lw_array_27 : decode b_Lw_array 27 = .ok (.iconst 0, 1) := by decide +kernel
theorem d_Lw_array_28 : decode b_Lw_array 28 = .ok (.ireturn, 1) := by decide +kernel
theorem d_Lw_box_0 : decode b_Lw_box 0 = .ok (.aload 4, 2) := by decide +kernel
theorem d_Lw_box_2 : decode b_Lw_box 2 = .ok (.iconst 0, 1) := by decide +kernel
theorem d_Lw_box_3 : decode b_Lw_box 3 = .ok (.aload_n 0, 1) := by decide +kernel
theorem d_Lw_box_4 : decode b_Lw_box 4 = .ok (.iload_n 1, 1) := by decide +kernel
theorem d_Lw_box_5 : decode b_Lw_box 5 = .ok (.iload_n 2, 1) := by decide +kernel
theorem d_Lw_box_6 : decode b_Lw_box 6 = .ok (.iload_n 3, 1) := by decide +kernel
theorem d_Lw_box_7 : decode b_Lw_box 7 = .ok (.invokevirtual 42, 3) := by decide +kernel
theorem d_Lw_box_10 : decode b_Lw_box 10 = .ok (.lastore, 1) := by decide +kernel
theorem d_Lw_box_11 : decode b_Lw_box 11 = .ok (.goto 11, 3) := by decide +kernel
theorem d_Lw_box_14 : decode b_Lw_box 14 = .ok (.astore 5, 2) := by decide +kernel
theorem d_Lw_box_16 : decode b_Lw_box 16 = .ok (.iconst 1, 1) := by decide +kernel
theorem d_Lw_box_17 : decode b_Lw_box 17 = .ok (.ireturn, 1) := by decide +kernel
theorem d_Lw_box_18 : decode b_Lw_box 18 = .ok (.astore 5, 2) := by decide +kernel
theorem d_Lw_box_20 : decode b_Lw_box 20 = .ok (.iconst 2, 1) := by decide +kernel
theorem d_Lw_box_21 : decode b_Lw_box 21 = .ok (.ireturn, 1) := by decide +kernel
theorem d_Lw_box_22 : decode b_Lw_box 22 = .ok (.iconst 0, 1) := by decide +kernel
theorem d_Lw_box_23 : decode b_Lw_box 23 = .ok (.ireturn, 1) := by decide +kernel
theorem d_Lw_flat_0 : decode b_Lw_flat 0 = .ok (.aload_n 3, 1) := by decide +kernel
theorem d_Lw_flat_1 : decode b_Lw_flat 1 = .ok (.iconst 0, 1) := by decide +kernel
theorem d_Lw_flat_2 : decode b_Lw_flat 2 = .ok (.aload_n 0, 1) := by decide +kernel
theorem d_Lw_flat_3 : decode b_Lw_flat 3 = .ok (.iload_n 1, 1) := by decide +kernel
theorem d_Lw_flat_4 : decode b_Lw_flat 4 = .ok (.iload_n 2, 1) := by decide +kernel
theorem d_Lw_flat_5 : decode b_Lw_flat 5 = .ok (.invokevirtual 46, 3) := by decide +kernel
theorem d_Lw_flat_8 : decode b_Lw_flat 8 = .ok (.i2l, 1) := by decide +kernel
theorem d_Lw_flat_9 : decode b_Lw_flat 9 = .ok (.lastore, 1) := by decide +kernel
theorem d_Lw_flat_10 : decode b_Lw_flat 10 = .ok (.goto 11, 3) := by decide +kernel
theorem d_Lw_flat_13 : decode b_Lw_flat 13 = .ok (.astore 4, 2) := by decide +kernel
theorem d_Lw_flat_15 : decode b_Lw_flat 15 = .ok (.iconst 1, 1) := by decide +kernel
theorem d_Lw_flat_16 : decode b_Lw_flat 16 = .ok (.ireturn, 1) := by decide +kernel
theorem d_Lw_flat_17 : decode b_Lw_flat 17 = .ok (.astore 4, 2) := by decide +kernel
theorem d_Lw_flat_19 : decode b_Lw_flat 19 = .ok (.iconst 2, 1) := by decide +kernel
theorem d_Lw_flat_20 : decode b_Lw_flat 20 = .ok (.ireturn, 1) := by decide +kernel
theorem d_Lw_flat_21 : decode b_Lw_flat 21 = .ok (.iconst 0, 1) := by decide +kernel
theorem d_Lw_flat_22 : decode b_Lw_flat 22 = .ok (.ireturn, 1) := by decide +kernel
theorem d_Lw_at_0 : decode b_Lw_at 0 = .ok (.aload 4, 2) := by decide +kernel
theorem d_Lw_at_2 : decode b_Lw_at 2 = .ok (.iconst 0, 1) := by decide +kernel
theorem d_Lw_at_3 : decode b_Lw_at 3 = .ok (.aload_n 0, 1) := by decide +kernel
theorem d_Lw_at_4 : decode b_Lw_at 4 = .ok (.iload_n 1, 1) := by decide +kernel
theorem d_Lw_at_5 : decode b_Lw_at 5 = .ok (.iload_n 2, 1) := by decide +kernel
theorem d_Lw_at_6 : decode b_Lw_at 6 = .ok (.iload_n 3, 1) := by decide +kernel
theorem d_Lw_at_7 : decode b_Lw_at 7 = .ok (.invokevirtual 51, 3) := by decide +kernel
theorem d_Lw_at_10 : decode b_Lw_at 10 = .ok (.lastore, 1) := by decide +kernel
theorem d_Lw_at_11 : decode b_Lw_at 11 = .ok (.goto 7, 3) := by decide +kernel
theorem d_Lw_at_14 : decode b_Lw_at 14 = .ok (.astore 5, 2) := by decide +kernel
theorem d_Lw_at_16 : decode b_Lw_at 16 = .ok (.iconst 1, 1) := by decide +kernel
theorem d_Lw_at_17 : decode b_Lw_at 17 = .ok (.ireturn, 1) := by decide +kernel
theorem d_Lw_at_18 : decode b_Lw_at 18 = .ok (.iconst 0, 1) := by decide +kernel
theorem d_Lw_at_19 : decode b_Lw_at 19 = .ok (.ireturn, 1) := by decide +kernel
theorem d_Lw_equalTo_0 : decode b_Lw_equalTo 0 = .ok (.aload_n 2, 1) := by decide +kernel
theorem d_Lw_equalTo_1 : decode b_Lw_equalTo 1 = .ok (.iconst 0, 1) := by decide +kernel
theorem d_Lw_equalTo_2 : decode b_Lw_equalTo 2 = .ok (.aload_n 0, 1) := by decide +kernel
theorem d_Lw_equalTo_3 : decode b_Lw_equalTo 3 = .ok (.iload_n 1, 1) := by decide +kernel
theorem d_Lw_equalTo_4 : decode b_Lw_equalTo 4 = .ok (.invokevirtual 54, 3) := by decide +kernel
theorem d_Lw_equalTo_7 : decode b_Lw_equalTo 7 = .ok (.i2l, 1) := by decide +kernel
theorem d_Lw_equalTo_8 : decode b_Lw_equalTo 8 = .ok (.lastore, 1) := by decide +kernel
theorem d_Lw_equalTo_9 : decode b_Lw_equalTo 9 = .ok (.goto 9, 3) := by decide +kernel
theorem d_Lw_equalTo_12 : decode b_Lw_equalTo 12 = .ok (.astore_n 3, 1) := by decide +kernel
theorem d_Lw_equalTo_13 : decode b_Lw_equalTo 13 = .ok (.iconst 1, 1) := by decide +kernel
theorem d_Lw_equalTo_14 : decode b_Lw_equalTo 14 = .ok (.ireturn, 1) := by decide +kernel
theorem d_Lw_equalTo_15 : decode b_Lw_equalTo 15 = .ok (.astore_n 3, 1) := by decide +kernel
theorem d_Lw_equalTo_16 : decode b_Lw_equalTo 16 = .ok (.iconst 2, 1) := by decide +kernel
theorem d_Lw_equalTo_17 : decode b_Lw_equalTo 17 = .ok (.ireturn, 1) := by decide +kernel
theorem d_Lw_equalTo_18 : decode b_Lw_equalTo 18 = .ok (.iconst 0, 1) := by decide +kernel
theorem d_Lw_equalTo_19 : decode b_Lw_equalTo 19 = .ok (.ireturn, 1) := by decide +kernel
theorem d_Lw_find_0 : decode b_Lw_find 0 = .ok (.aload 10, 2) := by decide +kernel
theorem d_Lw_find_2 : decode b_Lw_find 2 = .ok (.iconst 0, 1) := by decide +kernel
theorem d_Lw_find_3 : decode b_Lw_find 3 = .ok (.aload_n 0, 1) := by decide +kernel
theorem d_Lw_find_4 : decode b_Lw_find 4 = .ok (.iload_n 1, 1) := by decide +kernel
theorem d_Lw_find_5 : decode b_Lw_find 5 = .ok (.lload_n 2, 1) := by decide +kernel
theorem d_Lw_find_6 : decode b_Lw_find 6 = .ok (.lload 4, 2) := by decide +kernel
theorem d_Lw_find_8 : decode b_Lw_find 8 = .ok (.lload 6, 2) := by decide +kernel
theorem d_Lw_find_10 : decode b_Lw_find 10 = .ok (.lload 8, 2) := by decide +kernel
theorem d_Lw_find_12 : decode b_Lw_find 12 = .ok (.invokevirtual 58, 3) := by decide +kernel
theorem d_Lw_find_15 : decode b_Lw_find 15 = .ok (.i2l, 1) := by decide +kernel
theorem d_Lw_find_16 : decode b_Lw_find 16 = .ok (.lastore, 1) := by decide +kernel
theorem d_Lw_find_17 : decode b_Lw_find 17 = .ok (.goto 15, 3) := by decide +kernel
theorem d_Lw_find_20 : decode b_Lw_find 20 = .ok (.astore 11, 2) := by decide +kernel
theorem d_Lw_find_22 : decode b_Lw_find 22 = .ok (.iconst 1, 1) := by decide +kernel
theorem d_Lw_find_23 : decode b_Lw_find 23 = .ok (.ireturn, 1) := by decide +kernel
theorem d_Lw_find_24 : decode b_Lw_find 24 = .ok (.astore 11, 2) := by decide +kernel
theorem d_Lw_find_26 : decode b_Lw_find 26 = .ok (.iconst 2, 1) := by decide +kernel
theorem d_Lw_find_27 : decode b_Lw_find 27 = .ok (.ireturn, 1) := by decide +kernel
theorem d_Lw_find_28 : decode b_Lw_find 28 = .ok (.astore 11, 2) := by decide +kernel
theorem d_Lw_find_30 : decode b_Lw_find 30 = .ok (.iconst 3, 1) := by decide +kernel
theorem d_Lw_find_31 : decode b_Lw_find 31 = .ok (.ireturn, 1) := by decide +kernel
theorem d_Lw_find_32 : decode b_Lw_find 32 = .ok (.iconst 0, 1) := by decide +kernel
theorem d_Lw_find_33 : decode b_Lw_find 33 = .ok (.ireturn, 1) := by decide +kernel
theorem d_Lw_drop_0 : decode b_Lw_drop 0 = .ok (.aload_n 2, 1) := by decide +kernel
theorem d_Lw_drop_1 : decode b_Lw_drop 1 = .ok (.iconst 0, 1) := by decide +kernel
theorem d_Lw_drop_2 : decode b_Lw_drop 2 = .ok (.aload_n 0, 1) := by decide +kernel
theorem d_Lw_drop_3 : decode b_Lw_drop 3 = .ok (.iload_n 1, 1) := by decide +kernel
theorem d_Lw_drop_4 : decode b_Lw_drop 4 = .ok (.invokevirtual 62, 3) := by decide +kernel
theorem d_Lw_drop_7 : decode b_Lw_drop 7 = .ok (.ifCond .eq 7, 3) := by decide +kernel
theorem d_Lw_drop_10 : decode b_Lw_drop 10 = .ok (.lconst 1, 1) := by decide +kernel
theorem d_Lw_drop_11 : decode b_Lw_drop 11 = .ok (.goto 4, 3) := by decide +kernel
theorem d_Lw_drop_14 : decode b_Lw_drop 14 = .ok (.lconst 0, 1) := by decide +kernel
theorem d_Lw_drop_15 : decode b_Lw_drop 15 = .ok (.lastore, 1) := by decide +kernel
theorem d_Lw_drop_16 : decode b_Lw_drop 16 = .ok (.goto 6, 3) := by decide +kernel
theorem d_Lw_drop_19 : decode b_Lw_drop 19 = .ok (.astore_n 3, 1) := by decide +kernel
theorem d_Lw_drop_20 : decode b_Lw_drop 20 = .ok (.iconst 1, 1) := by decide +kernel
theorem d_Lw_drop_21 : decode b_Lw_drop 21 = .ok (.ireturn, 1) := by decide +kernel
theorem d_Lw_drop_22 : decode b_Lw_drop 22 = .ok (.iconst 0, 1) := by decide +kernel
theorem d_Lw_drop_23 : decode b_Lw_drop 23 = .ok (.ireturn, 1) := by decide +kernel
theorem d_law_0 : decode code 0 = .ok (.new 8, 3) := by decide +kernel
theorem d_law_3 : decode code 3 = .ok (.dup, 1) := by decide +kernel
theorem d_law_4 : decode code 4 = .ok (.aload_n 0, 1) := by decide +kernel
theorem d_law_5 : decode code 5 = .ok (.iconst 0, 1) := by decide +kernel
theorem d_law_6 : decode code 6 = .ok (.invokestatic 66, 3) := by decide +kernel
theorem d_law_9 : decode code 9 = .ok (.invokespecial 71, 3) := by decide +kernel
theorem d_law_12 : decode code 12 = .ok (.astore_n 1, 1) := by decide +kernel
theorem d_law_13 : decode code 13 = .ok (.new 74, 3) := by decide +kernel
theorem d_law_16 : decode code 16 = .ok (.dup, 1) := by decide +kernel
theorem d_law_17 : decode code 17 = .ok (.aload_n 0, 1) := by decide +kernel
theorem d_law_18 : decode code 18 = .ok (.iconst 0, 1) := by decide +kernel
theorem d_law_19 : decode code 19 = .ok (.invokestatic 66, 3) := by decide +kernel
theorem d_law_22 : decode code 22 = .ok (.invokespecial 76, 3) := by decide +kernel
theorem d_law_25 : decode code 25 = .ok (.astore_n 2, 1) := by decide +kernel
theorem d_law_26 : decode code 26 = .ok (.iconst 1, 1) := by decide +kernel
theorem d_law_27 : decode code 27 = .ok (.newarray .long, 2) := by decide +kernel
theorem d_law_29 : decode code 29 = .ok (.astore_n 3, 1) := by decide +kernel
theorem d_law_30 : decode code 30 = .ok (.iconst 1, 1) := by decide +kernel
theorem d_law_31 : decode code 31 = .ok (.istore 4, 2) := by decide +kernel
theorem d_law_33 : decode code 33 = .ok (.iload 4, 2) := by decide +kernel
theorem d_law_35 : decode code 35 = .ok (.aload_n 0, 1) := by decide +kernel
theorem d_law_36 : decode code 36 = .ok (.arraylength, 1) := by decide +kernel
theorem d_law_37 : decode code 37 = .ok (.bipush 10, 2) := by decide +kernel
theorem d_law_39 : decode code 39 = .ok (.isub, 1) := by decide +kernel
theorem d_law_40 : decode code 40 = .ok (.if_icmp .gt 1549, 3) := by decide +kernel
theorem d_law_43 : decode code 43 = .ok (.aload_n 0, 1) := by decide +kernel
theorem d_law_44 : decode code 44 = .ok (.iload 4, 2) := by decide +kernel
theorem d_law_46 : decode code 46 = .ok (.iaload, 1) := by decide +kernel
theorem d_law_47 : decode code 47 = .ok (.bipush 15, 2) := by decide +kernel
theorem d_law_49 : decode code 49 = .ok (.iand, 1) := by decide +kernel
theorem d_law_50 : decode code 50 = .ok (.tableswitch 1533 0 12 #[66, 110, 178, 329, 453, 604, 776, 948, 1027, 1095, 1174, 1230, 1470], 66) := by decide +kernel
theorem d_law_116 : decode code 116 = .ok (.aload_n 1, 1) := by decide +kernel
theorem d_law_117 : decode code 117 = .ok (.aload_n 3, 1) := by decide +kernel
theorem d_law_118 : decode code 118 = .ok (.invokestatic 77, 3) := by decide +kernel
theorem d_law_121 : decode code 121 = .ok (.istore 5, 2) := by decide +kernel
theorem d_law_123 : decode code 123 = .ok (.aload_n 2, 1) := by decide +kernel
theorem d_law_124 : decode code 124 = .ok (.invokevirtual 80, 3) := by decide +kernel
theorem d_law_127 : decode code 127 = .ok (.istore 6, 2) := by decide +kernel
theorem d_law_129 : decode code 129 = .ok (.aload_n 2, 1) := by decide +kernel
theorem d_law_130 : decode code 130 = .ok (.invokevirtual 81, 3) := by decide +kernel
theorem d_law_133 : decode code 133 = .ok (.iload 5, 2) := by decide +kernel
theorem d_law_135 : decode code 135 = .ok (.if_icmp .eq 5, 3) := by decide +kernel
theorem d_law_138 : decode code 138 = .ok (.iconst 0, 1) := by decide +kernel
theorem d_law_139 : decode code 139 = .ok (.ireturn, 1) := by decide +kernel
theorem d_law_140 : decode code 140 = .ok (.iload 5, 2) := by decide +kernel
theorem d_law_142 : decode code 142 = .ok (.ifCond .ne 15, 3) := by decide +kernel
theorem d_law_145 : decode code 145 = .ok (.aload_n 3, 1) := by decide +kernel
theorem d_law_146 : decode code 146 = .ok (.iconst 0, 1) := by decide +kernel
theorem d_law_147 : decode code 147 = .ok (.laload, 1) := by decide +kernel
theorem d_law_148 : decode code 148 = .ok (.iload 6, 2) := by decide +kernel
theorem d_law_150 : decode code 150 = .ok (.i2l, 1) := by decide +kernel
theorem d_law_151 : decode code 151 = .ok (.lcmp, 1) := by decide +kernel
theorem d_law_152 : decode code 152 = .ok (.ifCond .eq 5, 3) := by decide +kernel
theorem d_law_155 : decode code 155 = .ok (.iconst 0, 1) := by decide +kernel
theorem d_law_156 : decode code 156 = .ok (.ireturn, 1) := by decide +kernel
theorem d_law_157 : decode code 157 = .ok (.goto 1426, 3) := by decide +kernel
theorem d_law_160 : decode code 160 = .ok (.aload_n 1, 1) := by decide +kernel
theorem d_law_161 : decode code 161 = .ok (.aload_n 0, 1) := by decide +kernel
theorem d_law_162 : decode code 162 = .ok (.iload 4, 2) := by decide +kernel
theorem d_law_164 : decode code 164 = .ok (.iconst 1, 1) := by decide +kernel
theorem d_law_165 : decode code 165 = .ok (.iadd, 1) := by decide +kernel
theorem d_law_166 : decode code 166 = .ok (.iaload, 1) := by decide +kernel
theorem d_law_167 : decode code 167 = .ok (.aload_n 0, 1) := by decide +kernel
theorem d_law_168 : decode code 168 = .ok (.iload 4, 2) := by decide +kernel
theorem d_law_170 : decode code 170 = .ok (.iconst 2, 1) := by decide +kernel
theorem d_law_171 : decode code 171 = .ok (.iadd, 1) := by decide +kernel
theorem d_law_172 : decode code 172 = .ok (.iaload, 1) := by decide +kernel
theorem d_law_173 : decode code 173 = .ok (.aload_n 3, 1) := by decide +kernel
theorem d_law_174 : decode code 174 = .ok (.invokestatic 84, 3) := by decide +kernel
theorem d_law_177 : decode code 177 = .ok (.istore 5, 2) := by decide +kernel
theorem d_law_179 : decode code 179 = .ok (.aload_n 2, 1) := by decide +kernel
theorem d_law_180 : decode code 180 = .ok (.aload_n 0, 1) := by decide +kernel
theorem d_law_181 : decode code 181 = .ok (.iload 4, 2) := by decide +kernel
theorem d_law_183 : decode code 183 = .ok (.iconst 1, 1) := by decide +kernel
theorem d_law_184 : decode code 184 = .ok (.iadd, 1) := by decide +kernel
theorem d_law_185 : decode code 185 = .ok (.iaload, 1) := by decide +kernel
theorem d_law_186 : decode code 186 = .ok (.aload_n 0, 1) := by decide +kernel
theorem d_law_187 : decode code 187 = .ok (.iload 4, 2) := by decide +kernel
theorem d_law_189 : decode code 189 = .ok (.iconst 2, 1) := by decide +kernel
theorem d_law_190 : decode code 190 = .ok (.iadd, 1) := by decide +kernel
theorem d_law_191 : decode code 191 = .ok (.iaload, 1) := by decide +kernel
theorem d_law_192 : decode code 192 = .ok (.invokevirtual 87, 3) := by decide +kernel
theorem d_law_195 : decode code 195 = .ok (.istore 6, 2) := by decide +kernel
theorem d_law_197 : decode code 197 = .ok (.aload_n 2, 1) := by decide +kernel
theorem d_law_198 : decode code 198 = .ok (.invokevirtual 81, 3) := by decide +kernel
theorem d_law_201 : decode code 201 = .ok (.iload 5, 2) := by decide +kernel
theorem d_law_203 : decode code 203 = .ok (.if_icmp .eq 5, 3) := by decide +kernel
theorem d_law_206 : decode code 206 = .ok (.iconst 0, 1) := by decide +kernel
theorem d_law_207 : decode code 207 = .ok (.ireturn, 1) := by decide +kernel
theorem d_law_208 : decode code 208 = .ok (.iload 5, 2) := by decide +kernel
theorem d_law_210 : decode code 210 = .ok (.ifCond .ne 15, 3) := by decide +kernel
theorem d_law_213 : decode code 213 = .ok (.aload_n 3, 1) := by decide +kernel
theorem d_law_214 : decode code 214 = .ok (.iconst 0, 1) := by decide +kernel
theorem d_law_215 : decode code 215 = .ok (.laload, 1) := by decide +kernel
theorem d_law_216 : decode code 216 = .ok (.iload 6, 2) := by decide +kernel
theorem d_law_218 : decode code 218 = .ok (.i2l, 1) := by decide +kernel
theorem d_law_219 : decode code 219 = .ok (.lcmp, 1) := by decide +kernel
theorem d_law_220 : decode code 220 = .ok (.ifCond .eq 5, 3) := by decide +kernel
theorem d_law_223 : decode code 223 = .ok (.iconst 0, 1) := by decide +kernel
theorem d_law_224 : decode code 224 = .ok (.ireturn, 1) := by decide +kernel
theorem d_law_225 : decode code 225 = .ok (.goto 1358, 3) := by decide +kernel
theorem d_law_228 : decode code 228 = .ok (.aload_n 1, 1) := by decide +kernel
theorem d_law_229 : decode code 229 = .ok (.aload_n 0, 1) := by decide +kernel
theorem d_law_230 : decode code 230 = .ok (.iload 4, 2) := by decide +kernel
theorem d_law_232 : decode code 232 = .ok (.iconst 1, 1) := by decide +kernel
theorem d_law_233 : decode code 233 = .ok (.iadd, 1) := by decide +kernel
theorem d_law_234 : decode code 234 = .ok (.iaload, 1) := by decide +kernel
theorem d_law_235 : decode code 235 = .ok (.aload_n 0, 1) := by decide +kernel
theorem d_law_236 : decode code 236 = .ok (.iload 4, 2) := by decide +kernel
theorem d_law_238 : decode code 238 = .ok (.iconst 2, 1) := by decide +kernel
theorem d_law_239 : decode code 239 = .ok (.iadd, 1) := by decide +kernel
theorem d_law_240 : decode code 240 = .ok (.iaload, 1) := by decide +kernel
theorem d_law_241 : decode code 241 = .ok (.i2l, 1) := by decide +kernel
theorem d_law_242 : decode code 242 = .ok (.bipush 32, 2) := by decide +kernel
theorem d_law_244 : decode code 244 = .ok (.lshl, 1) := by decide +kernel
theorem d_law_245 : decode code 245 = .ok (.aload_n 0, 1) := by decide +kernel
theorem d_law_246 : decode code 246 = .ok (.iload 4, 2) := by decide +kernel
theorem d_law_248 : decode code 248 = .ok (.iconst 3, 1) := by decide +kernel
theorem d_law_249 : decode code 249 = .ok (.iadd, 1) := by decide +kernel
theorem d_law_250 : decode code 250 = .ok (.iaload, 1) := by decide +kernel
theorem d_law_251 : decode code 251 = .ok (.i2l, 1) := by decide +kernel
theorem d_law_252 : decode code 252 = .ok (.ldc2_w 88, 3) := by decide +kernel
theorem d_law_255 : decode code 255 = .ok (.land, 1) := by decide +kernel
theorem d_law_256 : decode code 256 = .ok (.lor, 1) := by decide +kernel
theorem d_law_257 : decode code 257 = .ok (.aload_n 0, 1) := by decide +kernel
theorem d_law_258 : decode code 258 = .ok (.iload 4, 2) := by decide +kernel
theorem d_law_260 : decode code 260 = .ok (.iconst 4, 1) := by decide +kernel
theorem d_law_261 : decode code 261 = .ok (.iadd, 1) := by decide +kernel
theorem d_law_262 : decode code 262 = .ok (.iaload, 1) := by decide +kernel
theorem d_law_263 : decode code 263 = .ok (.i2l, 1) := by decide +kernel
theorem d_law_264 : decode code 264 = .ok (.bipush 32, 2) := by decide +kernel
theorem d_law_266 : decode code 266 = .ok (.lshl, 1) := by decide +kernel
theorem d_law_267 : decode code 267 = .ok (.aload_n 0, 1) := by decide +kernel
theorem d_law_268 : decode code 268 = .ok (.iload 4, 2) := by decide +kernel
theorem d_law_270 : decode code 270 = .ok (.iconst 5, 1) := by decide +kernel
theorem d_law_271 : decode code 271 = .ok (.iadd, 1) := by decide +kernel
theorem d_law_272 : decode code 272 = .ok (.iaload, 1) := by decide +kernel
theorem d_law_273 : decode code 273 = .ok (.i2l, 1) := by decide +kernel
theorem d_law_274 : decode code 274 = .ok (.ldc2_w 88, 3) := by decide +kernel
theorem d_law_277 : decode code 277 = .ok (.land, 1) := by decide +kernel
theorem d_law_278 : decode code 278 = .ok (.lor, 1) := by decide +kernel
theorem d_law_279 : decode code 279 = .ok (.aload_n 3, 1) := by decide +kernel
theorem d_law_280 : decode code 280 = .ok (.invokestatic 90, 3) := by decide +kernel
theorem d_law_283 : decode code 283 = .ok (.istore 5, 2) := by decide +kernel
theorem d_law_285 : decode code 285 = .ok (.aload_n 2, 1) := by decide +kernel
theorem d_law_286 : decode code 286 = .ok (.aload_n 0, 1) := by decide +kernel
theorem d_law_287 : decode code 287 = .ok (.iload 4, 2) := by decide +kernel
theorem d_law_289 : decode code 289 = .ok (.iconst 1, 1) := by decide +kernel
theorem d_law_290 : decode code 290 = .ok (.iadd, 1) := by decide +kernel
theorem d_law_291 : decode code 291 = .ok (.iaload, 1) := by decide +kernel
theorem d_law_292 : decode code 292 = .ok (.aload_n 0, 1) := by decide +kernel
theorem d_law_293 : decode code 293 = .ok (.iload 4, 2) := by decide +kernel
theorem d_law_295 : decode code 295 = .ok (.iconst 2, 1) := by decide +kernel
theorem d_law_296 : decode code 296 = .ok (.iadd, 1) := by decide +kernel
theorem d_law_297 : decode code 297 = .ok (.iaload, 1) := by decide +kernel
theorem d_law_298 : decode code 298 = .ok (.i2l, 1) := by decide +kernel
theorem d_law_299 : decode code 299 = .ok (.bipush 32, 2) := by decide +kernel
theorem d_law_301 : decode code 301 = .ok (.lshl, 1) := by decide +kernel
theorem d_law_302 : decode code 302 = .ok (.aload_n 0, 1) := by decide +kernel
theorem d_law_303 : decode code 303 = .ok (.iload 4, 2) := by decide +kernel
theorem d_law_305 : decode code 305 = .ok (.iconst 3, 1) := by decide +kernel
theorem d_law_306 : decode code 306 = .ok (.iadd, 1) := by decide +kernel
theorem d_law_307 : decode code 307 = .ok (.iaload, 1) := by decide +kernel
theorem d_law_308 : decode code 308 = .ok (.i2l, 1) := by decide +kernel
theorem d_law_309 : decode code 309 = .ok (.ldc2_w 88, 3) := by decide +kernel
theorem d_law_312 : decode code 312 = .ok (.land, 1) := by decide +kernel
theorem d_law_313 : decode code 313 = .ok (.lor, 1) := by decide +kernel
theorem d_law_314 : decode code 314 = .ok (.aload_n 0, 1) := by decide +kernel
theorem d_law_315 : decode code 315 = .ok (.iload 4, 2) := by decide +kernel
theorem d_law_317 : decode code 317 = .ok (.iconst 4, 1) := by decide +kernel
theorem d_law_318 : decode code 318 = .ok (.iadd, 1) := by decide +kernel
theorem d_law_319 : decode code 319 = .ok (.iaload, 1) := by decide +kernel
theorem d_law_320 : decode code 320 = .ok (.i2l, 1) := by decide +kernel
theorem d_law_321 : decode code 321 = .ok (.bipush 32, 2) := by decide +kernel
theorem d_law_323 : decode code 323 = .ok (.lshl, 1) := by decide +kernel
theorem d_law_324 : decode code 324 = .ok (.aload_n 0, 1) := by decide +kernel
theorem d_law_325 : decode code 325 = .ok (.iload 4, 2) := by decide +kernel
theorem d_law_327 : decode code 327 = .ok (.iconst 5, 1) := by decide +kernel
theorem d_law_328 : decode code 328 = .ok (.iadd, 1) := by decide +kernel
theorem d_law_329 : decode code 329 = .ok (.iaload, 1) := by decide +kernel
theorem d_law_330 : decode code 330 = .ok (.i2l, 1) := by decide +kernel
theorem d_law_331 : decode code 331 = .ok (.ldc2_w 88, 3) := by decide +kernel
theorem d_law_334 : decode code 334 = .ok (.land, 1) := by decide +kernel
theorem d_law_335 : decode code 335 = .ok (.lor, 1) := by decide +kernel
theorem d_law_336 : decode code 336 = .ok (.invokevirtual 93, 3) := by decide +kernel
theorem d_law_339 : decode code 339 = .ok (.istore 6, 2) := by decide +kernel
theorem d_law_341 : decode code 341 = .ok (.aload_n 2, 1) := by decide +kernel
theorem d_law_342 : decode code 342 = .ok (.invokevirtual 81, 3) := by decide +kernel
theorem d_law_345 : decode code 345 = .ok (.iload 5, 2) := by decide +kernel
theorem d_law_347 : decode code 347 = .ok (.if_icmp .eq 5, 3) := by decide +kernel
theorem d_law_350 : decode code 350 = .ok (.iconst 0, 1) := by decide +kernel
theorem d_law_351 : decode code 351 = .ok (.ireturn, 1) := by decide +kernel
theorem d_law_352 : decode code 352 = .ok (.iload 5, 2) := by decide +kernel
theorem d_law_354 : decode code 354 = .ok (.ifCond .ne 22, 3) := by decide +kernel
theorem d_law_357 : decode code 357 = .ok (.aload_n 3, 1) := by decide +kernel
theorem d_law_358 : decode code 358 = .ok (.iconst 0, 1) := by decide +kernel
theorem d_law_359 : decode code 359 = .ok (.laload, 1) := by decide +kernel
theorem d_law_360 : decode code 360 = .ok (.iload 6, 2) := by decide +kernel
theorem d_law_362 : decode code 362 = .ok (.ifCond .eq 7, 3) := by decide +kernel
theorem d_law_365 : decode code 365 = .ok (.lconst 1, 1) := by decide +kernel
theorem d_law_366 : decode code 366 = .ok (.goto 4, 3) := by decide +kernel
theorem d_law_369 : decode code 369 = .ok (.lconst 0, 1) := by decide +kernel
theorem d_law_370 : decode code 370 = .ok (.lcmp, 1) := by decide +kernel
theorem d_law_371 : decode code 371 = .ok (.ifCond .eq 5, 3) := by decide +kernel
theorem d_law_374 : decode code 374 = .ok (.iconst 0, 1) := by decide +kernel
theorem d_law_375 : decode code 375 = .ok (.ireturn, 1) := by decide +kernel
theorem d_law_376 : decode code 376 = .ok (.goto 1207, 3) := by decide +kernel
theorem d_law_379 : decode code 379 = .ok (.aload_n 1, 1) := by decide +kernel
theorem d_law_380 : decode code 380 = .ok (.aload_n 0, 1) := by decide +kernel
theorem d_law_381 : decode code 381 = .ok (.iload 4, 2) := by decide +kernel
theorem d_law_383 : decode code 383 = .ok (.iconst 1, 1) := by decide +kernel
theorem d_law_384 : decode code 384 = .ok (.iadd, 1) := by decide +kernel
theorem d_law_385 : decode code 385 = .ok (.iaload, 1) := by decide +kernel
theorem d_law_386 : decode code 386 = .ok (.aload_n 0, 1) := by decide +kernel
theorem d_law_387 : decode code 387 = .ok (.iload 4, 2) := by decide +kernel
theorem d_law_389 : decode code 389 = .ok (.iconst 2, 1) := by decide +kernel
theorem d_law_390 : decode code 390 = .ok (.iadd, 1) := by decide +kernel
theorem d_law_391 : decode code 391 = .ok (.iaload, 1) := by decide +kernel
theorem d_law_392 : decode code 392 = .ok (.aload_n 0, 1) := by decide +kernel
theorem d_law_393 : decode code 393 = .ok (.iload 4, 2) := by decide +kernel
theorem d_law_395 : decode code 395 = .ok (.iconst 3, 1) := by decide +kernel
theorem d_law_396 : decode code 396 = .ok (.iadd, 1) := by decide +kernel
theorem d_law_397 : decode code 397 = .ok (.iaload, 1) := by decide +kernel
theorem d_law_398 : decode code 398 = .ok (.i2l, 1) := by decide +kernel
theorem d_law_399 : decode code 399 = .ok (.bipush 32, 2) := by decide +kernel
theorem d_law_401 : decode code 401 = .ok (.lshl, 1) := by decide +kernel
theorem d_law_402 : decode code 402 = .ok (.aload_n 0, 1) := by decide +kernel
theorem d_law_403 : decode code 403 = .ok (.iload 4, 2) := by decide +kernel
theorem d_law_405 : decode code 405 = .ok (.iconst 4, 1) := by decide +kernel
theorem d_law_406 : decode code 406 = .ok (.iadd, 1) := by decide +kernel
theorem d_law_407 : decode code 407 = .ok (.iaload, 1) := by decide +kernel
theorem d_law_408 : decode code 408 = .ok (.i2l, 1) := by decide +kernel
theorem d_law_409 : decode code 409 = .ok (.ldc2_w 88, 3) := by decide +kernel
theorem d_law_412 : decode code 412 = .ok (.land, 1) := by decide +kernel
theorem d_law_413 : decode code 413 = .ok (.lor, 1) := by decide +kernel
theorem d_law_414 : decode code 414 = .ok (.aload_n 0, 1) := by decide +kernel
theorem d_law_415 : decode code 415 = .ok (.iload 4, 2) := by decide +kernel
theorem d_law_417 : decode code 417 = .ok (.iconst 5, 1) := by decide +kernel
theorem d_law_418 : decode code 418 = .ok (.iadd, 1) := by decide +kernel
theorem d_law_419 : decode code 419 = .ok (.iaload, 1) := by decide +kernel
theorem d_law_420 : decode code 420 = .ok (.aload_n 3, 1) := by decide +kernel
theorem d_law_421 : decode code 421 = .ok (.invokestatic 94, 3) := by decide +kernel
theorem d_law_424 : decode code 424 = .ok (.istore 5, 2) := by decide +kernel
theorem d_law_426 : decode code 426 = .ok (.aload_n 2, 1) := by decide +kernel
theorem d_law_427 : decode code 427 = .ok (.aload_n 0, 1) := by decide +kernel
theorem d_law_428 : decode code 428 = .ok (.iload 4, 2) := by decide +kernel
theorem d_law_430 : decode code 430 = .ok (.iconst 1, 1) := by decide +kernel
theorem d_law_431 : decode code 431 = .ok (.iadd, 1) := by decide +kernel
theorem d_law_432 : decode code 432 = .ok (.iaload, 1) := by decide +kernel
theorem d_law_433 : decode code 433 = .ok (.aload_n 0, 1) := by decide +kernel
theorem d_law_434 : decode code 434 = .ok (.iload 4, 2) := by decide +kernel
theorem d_law_436 : decode code 436 = .ok (.iconst 2, 1) := by decide +kernel
theorem d_law_437 : decode code 437 = .ok (.iadd, 1) := by decide +kernel
theorem d_law_438 : decode code 438 = .ok (.iaload, 1) := by decide +kernel
theorem d_law_439 : decode code 439 = .ok (.aload_n 0, 1) := by decide +kernel
theorem d_law_440 : decode code 440 = .ok (.iload 4, 2) := by decide +kernel
theorem d_law_442 : decode code 442 = .ok (.iconst 3, 1) := by decide +kernel
theorem d_law_443 : decode code 443 = .ok (.iadd, 1) := by decide +kernel
theorem d_law_444 : decode code 444 = .ok (.iaload, 1) := by decide +kernel
theorem d_law_445 : decode code 445 = .ok (.i2l, 1) := by decide +kernel
theorem d_law_446 : decode code 446 = .ok (.bipush 32, 2) := by decide +kernel
theorem d_law_448 : decode code 448 = .ok (.lshl, 1) := by decide +kernel
theorem d_law_449 : decode code 449 = .ok (.aload_n 0, 1) := by decide +kernel
theorem d_law_450 : decode code 450 = .ok (.iload 4, 2) := by decide +kernel
theorem d_law_452 : decode code 452 = .ok (.iconst 4, 1) := by decide +kernel
theorem d_law_453 : decode code 453 = .ok (.iadd, 1) := by decide +kernel
theorem d_law_454 : decode code 454 = .ok (.iaload, 1) := by decide +kernel
theorem d_law_455 : decode code 455 = .ok (.i2l, 1) := by decide +kernel
theorem d_law_456 : decode code 456 = .ok (.ldc2_w 88, 3) := by decide +kernel
theorem d_law_459 : decode code 459 = .ok (.land, 1) := by decide +kernel
theorem d_law_460 : decode code 460 = .ok (.lor, 1) := by decide +kernel
theorem d_law_461 : decode code 461 = .ok (.aload_n 0, 1) := by decide +kernel
theorem d_law_462 : decode code 462 = .ok (.iload 4, 2) := by decide +kernel
theorem d_law_464 : decode code 464 = .ok (.iconst 5, 1) := by decide +kernel
theorem d_law_465 : decode code 465 = .ok (.iadd, 1) := by decide +kernel
theorem d_law_466 : decode code 466 = .ok (.iaload, 1) := by decide +kernel
theorem d_law_467 : decode code 467 = .ok (.invokevirtual 97, 3) := by decide +kernel
theorem d_law_470 : decode code 470 = .ok (.istore 6, 2) := by decide +kernel
theorem d_law_472 : decode code 472 = .ok (.aload_n 2, 1) := by decide +kernel
theorem d_law_473 : decode code 473 = .ok (.invokevirtual 81, 3) := by decide +kernel
theorem d_law_476 : decode code 476 = .ok (.iload 5, 2) := by decide +kernel
theorem d_law_478 : decode code 478 = .ok (.if_icmp .eq 5, 3) := by decide +kernel
theorem d_law_481 : decode code 481 = .ok (.iconst 0, 1) := by decide +kernel
theorem d_law_482 : decode code 482 = .ok (.ireturn, 1) := by decide +kernel
theorem d_law_483 : decode code 483 = .ok (.iload 5, 2) := by decide +kernel
theorem d_law_485 : decode code 485 = .ok (.ifCond .ne 15, 3) := by decide +kernel
theorem d_law_488 : decode code 488 = .ok (.aload_n 3, 1) := by decide +kernel
theorem d_law_489 : decode code 489 = .ok (.iconst 0, 1) := by decide +kernel
theorem d_law_490 : decode code 490 = .ok (.laload, 1) := by decide +kernel
theorem d_law_491 : decode code 491 = .ok (.iload 6, 2) := by decide +kernel
theorem d_law_493 : decode code 493 = .ok (.i2l, 1) := by decide +kernel
theorem d_law_494 : decode code 494 = .ok (.lcmp, 1) := by decide +kernel
theorem d_law_495 : decode code 495 = .ok (.ifCond .eq 5, 3) := by decide +kernel
theorem d_law_498 : decode code 498 = .ok (.iconst 0, 1) := by decide +kernel
theorem d_law_499 : decode code 499 = .ok (.ireturn, 1) := by decide +kernel
theorem d_law_500 : decode code 500 = .ok (.goto 1083, 3) := by decide +kernel
theorem d_law_503 : decode code 503 = .ok (.aload_n 1, 1) := by decide +kernel
theorem d_law_504 : decode code 504 = .ok (.aload_n 0, 1) := by decide +kernel
theorem d_law_505 : decode code 505 = .ok (.iload 4, 2) := by decide +kernel
theorem d_law_507 : decode code 507 = .ok (.iconst 1, 1) := by decide +kernel
theorem d_law_508 : decode code 508 = .ok (.iadd, 1) := by decide +kernel
theorem d_law_509 : decode code 509 = .ok (.iaload, 1) := by decide +kernel
theorem d_law_510 : decode code 510 = .ok (.aload_n 0, 1) := by decide +kernel
theorem d_law_511 : decode code 511 = .ok (.iload 4, 2) := by decide +kernel
theorem d_law_513 : decode code 513 = .ok (.iconst 2, 1) := by decide +kernel
theorem d_law_514 : decode code 514 = .ok (.iadd, 1) := by decide +kernel
theorem d_law_515 : decode code 515 = .ok (.iaload, 1) := by decide +kernel
theorem d_law_516 : decode code 516 = .ok (.i2l, 1) := by decide +kernel
theorem d_law_517 : decode code 517 = .ok (.bipush 32, 2) := by decide +kernel
theorem d_law_519 : decode code 519 = .ok (.lshl, 1) := by decide +kernel
theorem d_law_520 : decode code 520 = .ok (.aload_n 0, 1) := by decide +kernel
theorem d_law_521 : decode code 521 = .ok (.iload 4, 2) := by decide +kernel
theorem d_law_523 : decode code 523 = .ok (.iconst 3, 1) := by decide +kernel
theorem d_law_524 : decode code 524 = .ok (.iadd, 1) := by decide +kernel
theorem d_law_525 : decode code 525 = .ok (.iaload, 1) := by decide +kernel
theorem d_law_526 : decode code 526 = .ok (.i2l, 1) := by decide +kernel
theorem d_law_527 : decode code 527 = .ok (.ldc2_w 88, 3) := by decide +kernel
theorem d_law_530 : decode code 530 = .ok (.land, 1) := by decide +kernel
theorem d_law_531 : decode code 531 = .ok (.lor, 1) := by decide +kernel
theorem d_law_532 : decode code 532 = .ok (.aload_n 0, 1) := by decide +kernel
theorem d_law_533 : decode code 533 = .ok (.iload 4, 2) := by decide +kernel
theorem d_law_535 : decode code 535 = .ok (.iconst 4, 1) := by decide +kernel
theorem d_law_536 : decode code 536 = .ok (.iadd, 1) := by decide +kernel
theorem d_law_537 : decode code 537 = .ok (.iaload, 1) := by decide +kernel
theorem d_law_538 : decode code 538 = .ok (.i2l, 1) := by decide +kernel
theorem d_law_539 : decode code 539 = .ok (.bipush 32, 2) := by decide +kernel
theorem d_law_541 : decode code 541 = .ok (.lshl, 1) := by decide +kernel
theorem d_law_542 : decode code 542 = .ok (.aload_n 0, 1) := by decide +kernel
theorem d_law_543 : decode code 543 = .ok (.iload 4, 2) := by decide +kernel
theorem d_law_545 : decode code 545 = .ok (.iconst 5, 1) := by decide +kernel
theorem d_law_546 : decode code 546 = .ok (.iadd, 1) := by decide +kernel
theorem d_law_547 : decode code 547 = .ok (.iaload, 1) := by decide +kernel
theorem d_law_548 : decode code 548 = .ok (.i2l, 1) := by decide +kernel
theorem d_law_549 : decode code 549 = .ok (.ldc2_w 88, 3) := by decide +kernel
theorem d_law_552 : decode code 552 = .ok (.land, 1) := by decide +kernel
theorem d_law_553 : decode code 553 = .ok (.lor, 1) := by decide +kernel
theorem d_law_554 : decode code 554 = .ok (.aload_n 3, 1) := by decide +kernel
theorem d_law_555 : decode code 555 = .ok (.invokestatic 98, 3) := by decide +kernel
theorem d_law_558 : decode code 558 = .ok (.istore 5, 2) := by decide +kernel
theorem d_law_560 : decode code 560 = .ok (.aload_n 2, 1) := by decide +kernel
theorem d_law_561 : decode code 561 = .ok (.aload_n 0, 1) := by decide +kernel
theorem d_law_562 : decode code 562 = .ok (.iload 4, 2) := by decide +kernel
theorem d_law_564 : decode code 564 = .ok (.iconst 1, 1) := by decide +kernel
theorem d_law_565 : decode code 565 = .ok (.iadd, 1) := by decide +kernel
theorem d_law_566 : decode code 566 = .ok (.iaload, 1) := by decide +kernel
theorem d_law_567 : decode code 567 = .ok (.aload_n 0, 1) := by decide +kernel
theorem d_law_568 : decode code 568 = .ok (.iload 4, 2) := by decide +kernel
theorem d_law_570 : decode code 570 = .ok (.iconst 2, 1) := by decide +kernel
theorem d_law_571 : decode code 571 = .ok (.iadd, 1) := by decide +kernel
theorem d_law_572 : decode code 572 = .ok (.iaload, 1) := by decide +kernel
theorem d_law_573 : decode code 573 = .ok (.i2l, 1) := by decide +kernel
theorem d_law_574 : decode code 574 = .ok (.bipush 32, 2) := by decide +kernel
theorem d_law_576 : decode code 576 = .ok (.lshl, 1) := by decide +kernel
theorem d_law_577 : decode code 577 = .ok (.aload_n 0, 1) := by decide +kernel
theorem d_law_578 : decode code 578 = .ok (.iload 4, 2) := by decide +kernel
theorem d_law_580 : decode code 580 = .ok (.iconst 3, 1) := by decide +kernel
theorem d_law_581 : decode code 581 = .ok (.iadd, 1) := by decide +kernel
theorem d_law_582 : decode code 582 = .ok (.iaload, 1) := by decide +kernel
theorem d_law_583 : decode code 583 = .ok (.i2l, 1) := by decide +kernel
theorem d_law_584 : decode code 584 = .ok (.ldc2_w 88, 3) := by decide +kernel
theorem d_law_587 : decode code 587 = .ok (.land, 1) := by decide +kernel
theorem d_law_588 : decode code 588 = .ok (.lor, 1) := by decide +kernel
theorem d_law_589 : decode code 589 = .ok (.aload_n 0, 1) := by decide +kernel
theorem d_law_590 : decode code 590 = .ok (.iload 4, 2) := by decide +kernel
theorem d_law_592 : decode code 592 = .ok (.iconst 4, 1) := by decide +kernel
theorem d_law_593 : decode code 593 = .ok (.iadd, 1) := by decide +kernel
theorem d_law_594 : decode code 594 = .ok (.iaload, 1) := by decide +kernel
theorem d_law_595 : decode code 595 = .ok (.i2l, 1) := by decide +kernel
theorem d_law_596 : decode code 596 = .ok (.bipush 32, 2) := by decide +kernel
theorem d_law_598 : decode code 598 = .ok (.lshl, 1) := by decide +kernel
theorem d_law_599 : decode code 599 = .ok (.aload_n 0, 1) := by decide +kernel
theorem d_law_600 : decode code 600 = .ok (.iload 4, 2) := by decide +kernel
theorem d_law_602 : decode code 602 = .ok (.iconst 5, 1) := by decide +kernel
theorem d_law_603 : decode code 603 = .ok (.iadd, 1) := by decide +kernel
theorem d_law_604 : decode code 604 = .ok (.iaload, 1) := by decide +kernel
theorem d_law_605 : decode code 605 = .ok (.i2l, 1) := by decide +kernel
theorem d_law_606 : decode code 606 = .ok (.ldc2_w 88, 3) := by decide +kernel
theorem d_law_609 : decode code 609 = .ok (.land, 1) := by decide +kernel
theorem d_law_610 : decode code 610 = .ok (.lor, 1) := by decide +kernel
theorem d_law_611 : decode code 611 = .ok (.invokevirtual 100, 3) := by decide +kernel
theorem d_law_614 : decode code 614 = .ok (.istore 6, 2) := by decide +kernel
theorem d_law_616 : decode code 616 = .ok (.aload_n 2, 1) := by decide +kernel
theorem d_law_617 : decode code 617 = .ok (.invokevirtual 81, 3) := by decide +kernel
theorem d_law_620 : decode code 620 = .ok (.iload 5, 2) := by decide +kernel
theorem d_law_622 : decode code 622 = .ok (.if_icmp .eq 5, 3) := by decide +kernel
theorem d_law_625 : decode code 625 = .ok (.iconst 0, 1) := by decide +kernel
theorem d_law_626 : decode code 626 = .ok (.ireturn, 1) := by decide +kernel
theorem d_law_627 : decode code 627 = .ok (.iload 5, 2) := by decide +kernel
theorem d_law_629 : decode code 629 = .ok (.ifCond .ne 22, 3) := by decide +kernel
theorem d_law_632 : decode code 632 = .ok (.aload_n 3, 1) := by decide +kernel
theorem d_law_633 : decode code 633 = .ok (.iconst 0, 1) := by decide +kernel
theorem d_law_634 : decode code 634 = .ok (.laload, 1) := by decide +kernel
theorem d_law_635 : decode code 635 = .ok (.iload 6, 2) := by decide +kernel
theorem d_law_637 : decode code 637 = .ok (.ifCond .eq 7, 3) := by decide +kernel
theorem d_law_640 : decode code 640 = .ok (.lconst 1, 1) := by decide +kernel
theorem d_law_641 : decode code 641 = .ok (.goto 4, 3) := by decide +kernel
theorem d_law_644 : decode code 644 = .ok (.lconst 0, 1) := by decide +kernel
theorem d_law_645 : decode code 645 = .ok (.lcmp, 1) := by decide +kernel
theorem d_law_646 : decode code 646 = .ok (.ifCond .eq 5, 3) := by decide +kernel
theorem d_law_649 : decode code 649 = .ok (.iconst 0, 1) := by decide +kernel
theorem d_law_650 : decode code 650 = .ok (.ireturn, 1) := by decide +kernel
theorem d_law_651 : decode code 651 = .ok (.goto 932, 3) := by decide +kernel
theorem d_law_654 : decode code 654 = .ok (.aload_n 1, 1) := by decide +kernel
theorem d_law_655 : decode code 655 = .ok (.aload_n 0, 1) := by decide +kernel
theorem d_law_656 : decode code 656 = .ok (.iload 4, 2) := by decide +kernel
theorem d_law_658 : decode code 658 = .ok (.iconst 1, 1) := by decide +kernel
theorem d_law_659 : decode code 659 = .ok (.iadd, 1) := by decide +kernel
theorem d_law_660 : decode code 660 = .ok (.iaload, 1) := by decide +kernel
theorem d_law_661 : decode code 661 = .ok (.aload_n 0, 1) := by decide +kernel
theorem d_law_662 : decode code 662 = .ok (.iload 4, 2) := by decide +kernel
theorem d_law_664 : decode code 664 = .ok (.iconst 2, 1) := by decide +kernel
theorem d_law_665 : decode code 665 = .ok (.iadd, 1) := by decide +kernel
theorem d_law_666 : decode code 666 = .ok (.iaload, 1) := by decide +kernel
theorem d_law_667 : decode code 667 = .ok (.aload_n 0, 1) := by decide +kernel
theorem d_law_668 : decode code 668 = .ok (.iload 4, 2) := by decide +kernel
theorem d_law_670 : decode code 670 = .ok (.iconst 3, 1) := by decide +kernel
theorem d_law_671 : decode code 671 = .ok (.iadd, 1) := by decide +kernel
theorem d_law_672 : decode code 672 = .ok (.iaload, 1) := by decide +kernel
theorem d_law_673 : decode code 673 = .ok (.i2l, 1) := by decide +kernel
theorem d_law_674 : decode code 674 = .ok (.bipush 32, 2) := by decide +kernel
theorem d_law_676 : decode code 676 = .ok (.lshl, 1) := by decide +kernel
theorem d_law_677 : decode code 677 = .ok (.aload_n 0, 1) := by decide +kernel
theorem d_law_678 : decode code 678 = .ok (.iload 4, 2) := by decide +kernel
theorem d_law_680 : decode code 680 = .ok (.iconst 4, 1) := by decide +kernel
theorem d_law_681 : decode code 681 = .ok (.iadd, 1) := by decide +kernel
theorem d_law_682 : decode code 682 = .ok (.iaload, 1) := by decide +kernel
theorem d_law_683 : decode code 683 = .ok (.i2l, 1) := by decide +kernel
theorem d_law_684 : decode code 684 = .ok (.ldc2_w 88, 3) := by decide +kernel
theorem d_law_687 : decode code 687 = .ok (.land, 1) := by decide +kernel
theorem d_law_688 : decode code 688 = .ok (.lor, 1) := by decide +kernel
theorem d_law_689 : decode code 689 = .ok (.aload_n 0, 1) := by decide +kernel
theorem d_law_690 : decode code 690 = .ok (.iload 4, 2) := by decide +kernel
theorem d_law_692 : decode code 692 = .ok (.iconst 5, 1) := by decide +kernel
theorem d_law_693 : decode code 693 = .ok (.iadd, 1) := by decide +kernel
theorem d_law_694 : decode code 694 = .ok (.iaload, 1) := by decide +kernel
theorem d_law_695 : decode code 695 = .ok (.i2l, 1) := by decide +kernel
theorem d_law_696 : decode code 696 = .ok (.bipush 32, 2) := by decide +kernel
theorem d_law_698 : decode code 698 = .ok (.lshl, 1) := by decide +kernel
theorem d_law_699 : decode code 699 = .ok (.aload_n 0, 1) := by decide +kernel
theorem d_law_700 : decode code 700 = .ok (.iload 4, 2) := by decide +kernel
theorem d_law_702 : decode code 702 = .ok (.bipush 6, 2) := by decide +kernel
theorem d_law_704 : decode code 704 = .ok (.iadd, 1) := by decide +kernel
theorem d_law_705 : decode code 705 = .ok (.iaload, 1) := by decide +kernel
theorem d_law_706 : decode code 706 = .ok (.i2l, 1) := by decide +kernel
theorem d_law_707 : decode code 707 = .ok (.ldc2_w 88, 3) := by decide +kernel
theorem d_law_710 : decode code 710 = .ok (.land, 1) := by decide +kernel
theorem d_law_711 : decode code 711 = .ok (.lor, 1) := by decide +kernel
theorem d_law_712 : decode code 712 = .ok (.aload_n 0, 1) := by decide +kernel
theorem d_law_713 : decode code 713 = .ok (.iload 4, 2) := by decide +kernel
theorem d_law_715 : decode code 715 = .ok (.bipush 7, 2) := by decide +kernel
theorem d_law_717 : decode code 717 = .ok (.iadd, 1) := by decide +kernel
theorem d_law_718 : decode code 718 = .ok (.iaload, 1) := by decide +kernel
theorem d_law_719 : decode code 719 = .ok (.aload_n 3, 1) := by decide +kernel
theorem d_law_720 : decode code 720 = .ok (.invokestatic 101, 3) := by decide +kernel
theorem d_law_723 : decode code 723 = .ok (.istore 5, 2) := by decide +kernel
theorem d_law_725 : decode code 725 = .ok (.aload_n 2, 1) := by decide +kernel
theorem d_law_726 : decode code 726 = .ok (.aload_n 0, 1) := by decide +kernel
theorem d_law_727 : decode code 727 = .ok (.iload 4, 2) := by decide +kernel
theorem d_law_729 : decode code 729 = .ok (.iconst 1, 1) := by decide +kernel
theorem d_law_730 : decode code 730 = .ok (.iadd, 1) := by decide +kernel
theorem d_law_731 : decode code 731 = .ok (.iaload, 1) := by decide +kernel
theorem d_law_732 : decode code 732 = .ok (.aload_n 0, 1) := by decide +kernel
theorem d_law_733 : decode code 733 = .ok (.iload 4, 2) := by decide +kernel
theorem d_law_735 : decode code 735 = .ok (.iconst 2, 1) := by decide +kernel
theorem d_law_736 : decode code 736 = .ok (.iadd, 1) := by decide +kernel
theorem d_law_737 : decode code 737 = .ok (.iaload, 1) := by decide +kernel
theorem d_law_738 : decode code 738 = .ok (.aload_n 0, 1) := by decide +kernel
theorem d_law_739 : decode code 739 = .ok (.iload 4, 2) := by decide +kernel
theorem d_law_741 : decode code 741 = .ok (.iconst 3, 1) := by decide +kernel
theorem d_law_742 : decode code 742 = .ok (.iadd, 1) := by decide +kernel
theorem d_law_743 : decode code 743 = .ok (.iaload, 1) := by decide +kernel
theorem d_law_744 : decode code 744 = .ok (.i2l, 1) := by decide +kernel
theorem d_law_745 : decode code 745 = .ok (.bipush 32, 2) := by decide +kernel
theorem d_law_747 : decode code 747 = .ok (.lshl, 1) := by decide +kernel
theorem d_law_748 : decode code 748 = .ok (.aload_n 0, 1) := by decide +kernel
theorem d_law_749 : decode code 749 = .ok (.iload 4, 2) := by decide +kernel
theorem d_law_751 : decode code 751 = .ok (.iconst 4, 1) := by decide +kernel
theorem d_law_752 : decode code 752 = .ok (.iadd, 1) := by decide +kernel
theorem d_law_753 : decode code 753 = .ok (.iaload, 1) := by decide +kernel
theorem d_law_754 : decode code 754 = .ok (.i2l, 1) := by decide +kernel
theorem d_law_755 : decode code 755 = .ok (.ldc2_w 88, 3) := by decide +kernel
theorem d_law_758 : decode code 758 = .ok (.land, 1) := by decide +kernel
theorem d_law_759 : decode code 759 = .ok (.lor, 1) := by decide +kernel
theorem d_law_760 : decode code 760 = .ok (.aload_n 0, 1) := by decide +kernel
theorem d_law_761 : decode code 761 = .ok (.iload 4, 2) := by decide +kernel
theorem d_law_763 : decode code 763 = .ok (.iconst 5, 1) := by decide +kernel
theorem d_law_764 : decode code 764 = .ok (.iadd, 1) := by decide +kernel
theorem d_law_765 : decode code 765 = .ok (.iaload, 1) := by decide +kernel
theorem d_law_766 : decode code 766 = .ok (.i2l, 1) := by decide +kernel
theorem d_law_767 : decode code 767 = .ok (.bipush 32, 2) := by decide +kernel
theorem d_law_769 : decode code 769 = .ok (.lshl, 1) := by decide +kernel
theorem d_law_770 : decode code 770 = .ok (.aload_n 0, 1) := by decide +kernel
theorem d_law_771 : decode code 771 = .ok (.iload 4, 2) := by decide +kernel
theorem d_law_773 : decode code 773 = .ok (.bipush 6, 2) := by decide +kernel
theorem d_law_775 : decode code 775 = .ok (.iadd, 1) := by decide +kernel
theorem d_law_776 : decode code 776 = .ok (.iaload, 1) := by decide +kernel
theorem d_law_777 : decode code 777 = .ok (.i2l, 1) := by decide +kernel
theorem d_law_778 : decode code 778 = .ok (.ldc2_w 88, 3) := by decide +kernel
theorem d_law_781 : decode code 781 = .ok (.land, 1) := by decide +kernel
theorem d_law_782 : decode code 782 = .ok (.lor, 1) := by decide +kernel
theorem d_law_783 : decode code 783 = .ok (.aload_n 0, 1) := by decide +kernel
theorem d_law_784 : decode code 784 = .ok (.iload 4, 2) := by decide +kernel
theorem d_law_786 : decode code 786 = .ok (.bipush 7, 2) := by decide +kernel
theorem d_law_788 : decode code 788 = .ok (.iadd, 1) := by decide +kernel
theorem d_law_789 : decode code 789 = .ok (.iaload, 1) := by decide +kernel
theorem d_law_790 : decode code 790 = .ok (.invokevirtual 104, 3) := by decide +kernel
theorem d_law_793 : decode code 793 = .ok (.istore 6, 2) := by decide +kernel
theorem d_law_795 : decode code 795 = .ok (.aload_n 2, 1) := by decide +kernel
theorem d_law_796 : decode code 796 = .ok (.invokevirtual 81, 3) := by decide +kernel
theorem d_law_799 : decode code 799 = .ok (.iload 5, 2) := by decide +kernel
theorem d_law_801 : decode code 801 = .ok (.if_icmp .eq 5, 3) := by decide +kernel
theorem d_law_804 : decode code 804 = .ok (.iconst 0, 1) := by decide +kernel
theorem d_law_805 : decode code 805 = .ok (.ireturn, 1) := by decide +kernel
theorem d_law_806 : decode code 806 = .ok (.iload 5, 2) := by decide +kernel
theorem d_law_808 : decode code 808 = .ok (.ifCond .ne 15, 3) := by decide +kernel
theorem d_law_811 : decode code 811 = .ok (.aload_n 3, 1) := by decide +kernel
theorem d_law_812 : decode code 812 = .ok (.iconst 0, 1) := by decide +kernel
theorem d_law_813 : decode code 813 = .ok (.laload, 1) := by decide +kernel
theorem d_law_814 : decode code 814 = .ok (.iload 6, 2) := by decide +kernel
theorem d_law_816 : decode code 816 = .ok (.i2l, 1) := by decide +kernel
theorem d_law_817 : decode code 817 = .ok (.lcmp, 1) := by decide +kernel
theorem d_law_818 : decode code 818 = .ok (.ifCond .eq 5, 3) := by decide +kernel
theorem d_law_821 : decode code 821 = .ok (.iconst 0, 1) := by decide +kernel
theorem d_law_822 : decode code 822 = .ok (.ireturn, 1) := by decide +kernel
theorem d_law_823 : decode code 823 = .ok (.goto 760, 3) := by decide +kernel
theorem d_law_826 : decode code 826 = .ok (.aload_n 1, 1) := by decide +kernel
theorem d_law_827 : decode code 827 = .ok (.aload_n 0, 1) := by decide +kernel
theorem d_law_828 : decode code 828 = .ok (.iload 4, 2) := by decide +kernel
theorem d_law_830 : decode code 830 = .ok (.iconst 1, 1) := by decide +kernel
theorem d_law_831 : decode code 831 = .ok (.iadd, 1) := by decide +kernel
theorem d_law_832 : decode code 832 = .ok (.iaload, 1) := by decide +kernel
theorem d_law_833 : decode code 833 = .ok (.aload_n 0, 1) := by decide +kernel
theorem d_law_834 : decode code 834 = .ok (.iload 4, 2) := by decide +kernel
theorem d_law_836 : decode code 836 = .ok (.iconst 2, 1) := by decide +kernel
theorem d_law_837 : decode code 837 = .ok (.iadd, 1) := by decide +kernel
theorem d_law_838 : decode code 838 = .ok (.iaload, 1) := by decide +kernel
theorem d_law_839 : decode code 839 = .ok (.aload_n 0, 1) := by decide +kernel
theorem d_law_840 : decode code 840 = .ok (.iload 4, 2) := by decide +kernel
theorem d_law_842 : decode code 842 = .ok (.iconst 3, 1) := by decide +kernel
theorem d_law_843 : decode code 843 = .ok (.iadd, 1) := by decide +kernel
theorem d_law_844 : decode code 844 = .ok (.iaload, 1) := by decide +kernel
theorem d_law_845 : decode code 845 = .ok (.aload_n 0, 1) := by decide +kernel
theorem d_law_846 : decode code 846 = .ok (.iload 4, 2) := by decide +kernel
theorem d_law_848 : decode code 848 = .ok (.iconst 4, 1) := by decide +kernel
theorem d_law_849 : decode code 849 = .ok (.iadd, 1) := by decide +kernel
theorem d_law_850 : decode code 850 = .ok (.iaload, 1) := by decide +kernel
theorem d_law_851 : decode code 851 = .ok (.i2l, 1) := by decide +kernel
theorem d_law_852 : decode code 852 = .ok (.bipush 32, 2) := by decide +kernel
theorem d_law_854 : decode code 854 = .ok (.lshl, 1) := by decide +kernel
theorem d_law_855 : decode code 855 = .ok (.aload_n 0, 1) := by decide +kernel
theorem d_law_856 : decode code 856 = .ok (.iload 4, 2) := by decide +kernel
theorem d_law_858 : decode code 858 = .ok (.iconst 5, 1) := by decide +kernel
theorem d_law_859 : decode code 859 = .ok (.iadd, 1) := by decide +kernel
theorem d_law_860 : decode code 860 = .ok (.iaload, 1) := by decide +kernel
theorem d_law_861 : decode code 861 = .ok (.i2l, 1) := by decide +kernel
theorem d_law_862 : decode code 862 = .ok (.ldc2_w 88, 3) := by decide +kernel
theorem d_law_865 : decode code 865 = .ok (.land, 1) := by decide +kernel
theorem d_law_866 : decode code 866 = .ok (.lor, 1) := by decide +kernel
theorem d_law_867 : decode code 867 = .ok (.aload_n 0, 1) := by decide +kernel
theorem d_law_868 : decode code 868 = .ok (.iload 4, 2) := by decide +kernel
theorem d_law_870 : decode code 870 = .ok (.bipush 6, 2) := by decide +kernel
theorem d_law_872 : decode code 872 = .ok (.iadd, 1) := by decide +kernel
theorem d_law_873 : decode code 873 = .ok (.iaload, 1) := by decide +kernel
theorem d_law_874 : decode code 874 = .ok (.i2l, 1) := by decide +kernel
theorem d_law_875 : decode code 875 = .ok (.bipush 32, 2) := by decide +kernel
theorem d_law_877 : decode code 877 = .ok (.lshl, 1) := by decide +kernel
theorem d_law_878 : decode code 878 = .ok (.aload_n 0, 1) := by decide +kernel
theorem d_law_879 : decode code 879 = .ok (.iload 4, 2) := by decide +kernel
theorem d_law_881 : decode code 881 = .ok (.bipush 7, 2) := by decide +kernel
theorem d_law_883 : decode code 883 = .ok (.iadd, 1) := by decide +kernel
theorem d_law_884 : decode code 884 = .ok (.iaload, 1) := by decide +kernel
theorem d_law_885 : decode code 885 = .ok (.i2l, 1) := by decide +kernel
theorem d_law_886 : decode code 886 = .ok (.ldc2_w 88, 3) := by decide +kernel
theorem d_law_889 : decode code 889 = .ok (.land, 1) := by decide +kernel
theorem d_law_890 : decode code 890 = .ok (.lor, 1) := by decide +kernel
theorem d_law_891 : decode code 891 = .ok (.aload_n 3, 1) := by decide +kernel
theorem d_law_892 : decode code 892 = .ok (.invokestatic 105, 3) := by decide +kernel
theorem d_law_895 : decode code 895 = .ok (.istore 5, 2) := by decide +kernel
theorem d_law_897 : decode code 897 = .ok (.aload_n 2, 1) := by decide +kernel
theorem d_law_898 : decode code 898 = .ok (.aload_n 0, 1) := by decide +kernel
theorem d_law_899 : decode code 899 = .ok (.iload 4, 2) := by decide +kernel
theorem d_law_901 : decode code 901 = .ok (.iconst 1, 1) := by decide +kernel
theorem d_law_902 : decode code 902 = .ok (.iadd, 1) := by decide +kernel
theorem d_law_903 : decode code 903 = .ok (.iaload, 1) := by decide +kernel
theorem d_law_904 : decode code 904 = .ok (.aload_n 0, 1) := by decide +kernel
theorem d_law_905 : decode code 905 = .ok (.iload 4, 2) := by decide +kernel
theorem d_law_907 : decode code 907 = .ok (.iconst 2, 1) := by decide +kernel
theorem d_law_908 : decode code 908 = .ok (.iadd, 1) := by decide +kernel
theorem d_law_909 : decode code 909 = .ok (.iaload, 1) := by decide +kernel
theorem d_law_910 : decode code 910 = .ok (.aload_n 0, 1) := by decide +kernel
theorem d_law_911 : decode code 911 = .ok (.iload 4, 2) := by decide +kernel
theorem d_law_913 : decode code 913 = .ok (.iconst 3, 1) := by decide +kernel
theorem d_law_914 : decode code 914 = .ok (.iadd, 1) := by decide +kernel
theorem d_law_915 : decode code 915 = .ok (.iaload, 1) := by decide +kernel
theorem d_law_916 : decode code 916 = .ok (.aload_n 0, 1) := by decide +kernel
theorem d_law_917 : decode code 917 = .ok (.iload 4, 2) := by decide +kernel
theorem d_law_919 : decode code 919 = .ok (.iconst 4, 1) := by decide +kernel
theorem d_law_920 : decode code 920 = .ok (.iadd, 1) := by decide +kernel
theorem d_law_921 : decode code 921 = .ok (.iaload, 1) := by decide +kernel
theorem d_law_922 : decode code 922 = .ok (.i2l, 1) := by decide +kernel
theorem d_law_923 : decode code 923 = .ok (.bipush 32, 2) := by decide +kernel
theorem d_law_925 : decode code 925 = .ok (.lshl, 1) := by decide +kernel
theorem d_law_926 : decode code 926 = .ok (.aload_n 0, 1) := by decide +kernel
theorem d_law_927 : decode code 927 = .ok (.iload 4, 2) := by decide +kernel
theorem d_law_929 : decode code 929 = .ok (.iconst 5, 1) := by decide +kernel
theorem d_law_930 : decode code 930 = .ok (.iadd, 1) := by decide +kernel
theorem d_law_931 : decode code 931 = .ok (.iaload, 1) := by decide +kernel
theorem d_law_932 : decode code 932 = .ok (.i2l, 1) := by decide +kernel
theorem d_law_933 : decode code 933 = .ok (.ldc2_w 88, 3) := by decide +kernel
theorem d_law_936 : decode code 936 = .ok (.land, 1) := by decide +kernel
theorem d_law_937 : decode code 937 = .ok (.lor, 1) := by decide +kernel
theorem d_law_938 : decode code 938 = .ok (.aload_n 0, 1) := by decide +kernel
theorem d_law_939 : decode code 939 = .ok (.iload 4, 2) := by decide +kernel
theorem d_law_941 : decode code 941 = .ok (.bipush 6, 2) := by decide +kernel
theorem d_law_943 : decode code 943 = .ok (.iadd, 1) := by decide +kernel
theorem d_law_944 : decode code 944 = .ok (.iaload, 1) := by decide +kernel
theorem d_law_945 : decode code 945 = .ok (.i2l, 1) := by decide +kernel
theorem d_law_946 : decode code 946 = .ok (.bipush 32, 2) := by decide +kernel
theorem d_law_948 : decode code 948 = .ok (.lshl, 1) := by decide +kernel
theorem d_law_949 : decode code 949 = .ok (.aload_n 0, 1) := by decide +kernel
theorem d_law_950 : decode code 950 = .ok (.iload 4, 2) := by decide +kernel
theorem d_law_952 : decode code 952 = .ok (.bipush 7, 2) := by decide +kernel
theorem d_law_954 : decode code 954 = .ok (.iadd, 1) := by decide +kernel
theorem d_law_955 : decode code 955 = .ok (.iaload, 1) := by decide +kernel
theorem d_law_956 : decode code 956 = .ok (.i2l, 1) := by decide +kernel
theorem d_law_957 : decode code 957 = .ok (.ldc2_w 88, 3) := by decide +kernel
theorem d_law_960 : decode code 960 = .ok (.land, 1) := by decide +kernel
theorem d_law_961 : decode code 961 = .ok (.lor, 1) := by decide +kernel
theorem d_law_962 : decode code 962 = .ok (.invokevirtual 108, 3) := by decide +kernel
theorem d_law_965 : decode code 965 = .ok (.istore 6, 2) := by decide +kernel
theorem d_law_967 : decode code 967 = .ok (.aload_n 2, 1) := by decide +kernel
theorem d_law_968 : decode code 968 = .ok (.invokevirtual 81, 3) := by decide +kernel
theorem d_law_971 : decode code 971 = .ok (.iload 5, 2) := by decide +kernel
theorem d_law_973 : decode code 973 = .ok (.if_icmp .eq 5, 3) := by decide +kernel
theorem d_law_976 : decode code 976 = .ok (.iconst 0, 1) := by decide +kernel
theorem d_law_977 : decode code 977 = .ok (.ireturn, 1) := by decide +kernel
theorem d_law_978 : decode code 978 = .ok (.iload 5, 2) := by decide +kernel
theorem d_law_980 : decode code 980 = .ok (.ifCond .ne 15, 3) := by decide +kernel
theorem d_law_983 : decode code 983 = .ok (.aload_n 3, 1) := by decide +kernel
theorem d_law_984 : decode code 984 = .ok (.iconst 0, 1) := by decide +kernel
theorem d_law_985 : decode code 985 = .ok (.laload, 1) := by decide +kernel
theorem d_law_986 : decode code 986 = .ok (.iload 6, 2) := by decide +kernel
theorem d_law_988 : decode code 988 = .ok (.i2l, 1) := by decide +kernel
theorem d_law_989 : decode code 989 = .ok (.lcmp, 1) := by decide +kernel
theorem d_law_990 : decode code 990 = .ok (.ifCond .eq 5, 3) := by decide +kernel
theorem d_law_993 : decode code 993 = .ok (.iconst 0, 1) := by decide +kernel
theorem d_law_994 : decode code 994 = .ok (.ireturn, 1) := by decide +kernel
theorem d_law_995 : decode code 995 = .ok (.goto 588, 3) := by decide +kernel
theorem d_law_998 : decode code 998 = .ok (.aload_n 1, 1) := by decide +kernel
theorem d_law_999 : decode code 999 = .ok (.aload_n 0, 1) := by decide +kernel
theorem d_law_1000 : decode code 1000 = .ok (.iload 4, 2) := by decide +kernel
theorem d_law_1002 : decode code 1002 = .ok (.iconst 1, 1) := by decide +kernel
theorem d_law_1003 : decode code 1003 = .ok (.iadd, 1) := by decide +kernel
theorem d_law_1004 : decode code 1004 = .ok (.iaload, 1) := by decide +kernel
theorem d_law_1005 : decode code 1005 = .ok (.aload_n 0, 1) := by decide +kernel
theorem d_law_1006 : decode code 1006 = .ok (.iload 4, 2) := by decide +kernel
theorem d_law_1008 : decode code 1008 = .ok (.iconst 2, 1) := by decide +kernel
theorem d_law_1009 : decode code 1009 = .ok (.iadd, 1) := by decide +kernel
theorem d_law_1010 : decode code 1010 = .ok (.iaload, 1) := by decide +kernel
theorem d_law_1011 : decode code 1011 = .ok (.aload_n 0, 1) := by decide +kernel
theorem d_law_1012 : decode code 1012 = .ok (.iload 4, 2) := by decide +kernel
theorem d_law_1014 : decode code 1014 = .ok (.iconst 3, 1) := by decide +kernel
theorem d_law_1015 : decode code 1015 = .ok (.iadd, 1) := by decide +kernel
theorem d_law_1016 : decode code 1016 = .ok (.iaload, 1) := by decide +kernel
theorem d_law_1017 : decode code 1017 = .ok (.aload_n 3, 1) := by decide +kernel
theorem d_law_1018 : decode code 1018 = .ok (.invokestatic 109, 3) := by decide +kernel
theorem d_law_1021 : decode code 1021 = .ok (.istore 5, 2) := by decide +kernel
theorem d_law_1023 : decode code 1023 = .ok (.aload_n 2, 1) := by decide +kernel
theorem d_law_1024 : decode code 1024 = .ok (.aload_n 0, 1) := by decide +kernel
theorem d_law_1025 : decode code 1025 = .ok (.iload 4, 2) := by decide +kernel
theorem d_law_1027 : decode code 1027 = .ok (.iconst 1, 1) := by decide +kernel
theorem d_law_1028 : decode code 1028 = .ok (.iadd, 1) := by decide +kernel
theorem d_law_1029 : decode code 1029 = .ok (.iaload, 1) := by decide +kernel
theorem d_law_1030 : decode code 1030 = .ok (.aload_n 0, 1) := by decide +kernel
theorem d_law_1031 : decode code 1031 = .ok (.iload 4, 2) := by decide +kernel
theorem d_law_1033 : decode code 1033 = .ok (.iconst 2, 1) := by decide +kernel
theorem d_law_1034 : decode code 1034 = .ok (.iadd, 1) := by decide +kernel
theorem d_law_1035 : decode code 1035 = .ok (.iaload, 1) := by decide +kernel
theorem d_law_1036 : decode code 1036 = .ok (.aload_n 0, 1) := by decide +kernel
theorem d_law_1037 : decode code 1037 = .ok (.iload 4, 2) := by decide +kernel
theorem d_law_1039 : decode code 1039 = .ok (.iconst 3, 1) := by decide +kernel
theorem d_law_1040 : decode code 1040 = .ok (.iadd, 1) := by decide +kernel
theorem d_law_1041 : decode code 1041 = .ok (.iaload, 1) := by decide +kernel
theorem d_law_1042 : decode code 1042 = .ok (.invokevirtual 112, 3) := by decide +kernel
theorem d_law_1045 : decode code 1045 = .ok (.lstore 6, 2) := by decide +kernel
theorem d_law_1047 : decode code 1047 = .ok (.aload_n 2, 1) := by decide +kernel
theorem d_law_1048 : decode code 1048 = .ok (.invokevirtual 81, 3) := by decide +kernel
theorem d_law_1051 : decode code 1051 = .ok (.iload 5, 2) := by decide +kernel
theorem d_law_1053 : decode code 1053 = .ok (.if_icmp .eq 5, 3) := by decide +kernel
theorem d_law_1056 : decode code 1056 = .ok (.iconst 0, 1) := by decide +kernel
theorem d_law_1057 : decode code 1057 = .ok (.ireturn, 1) := by decide +kernel
theorem d_law_1058 : decode code 1058 = .ok (.iload 5, 2) := by decide +kernel
theorem d_law_1060 : decode code 1060 = .ok (.ifCond .ne 14, 3) := by decide +kernel
theorem d_law_1063 : decode code 1063 = .ok (.aload_n 3, 1) := by decide +kernel
theorem d_law_1064 : decode code 1064 = .ok (.iconst 0, 1) := by decide +kernel
theorem d_law_1065 : decode code 1065 = .ok (.laload, 1) := by decide +kernel
theorem d_law_1066 : decode code 1066 = .ok (.lload 6, 2) := by decide +kernel
theorem d_law_1068 : decode code 1068 = .ok (.lcmp, 1) := by decide +kernel
theorem d_law_1069 : decode code 1069 = .ok (.ifCond .eq 5, 3) := by decide +kernel
theorem d_law_1072 : decode code 1072 = .ok (.iconst 0, 1) := by decide +kernel
theorem d_law_1073 : decode code 1073 = .ok (.ireturn, 1) := by decide +kernel
theorem d_law_1074 : decode code 1074 = .ok (.goto 509, 3) := by decide +kernel
theorem d_law_1077 : decode code 1077 = .ok (.aload_n 1, 1) := by decide +kernel
theorem d_law_1078 : decode code 1078 = .ok (.aload_n 0, 1) := by decide +kernel
theorem d_law_1079 : decode code 1079 = .ok (.iload 4, 2) := by decide +kernel
theorem d_law_1081 : decode code 1081 = .ok (.iconst 1, 1) := by decide +kernel
theorem d_law_1082 : decode code 1082 = .ok (.iadd, 1) := by decide +kernel
theorem d_law_1083 : decode code 1083 = .ok (.iaload, 1) := by decide +kernel
theorem d_law_1084 : decode code 1084 = .ok (.aload_n 0, 1) := by decide +kernel
theorem d_law_1085 : decode code 1085 = .ok (.iload 4, 2) := by decide +kernel
theorem d_law_1087 : decode code 1087 = .ok (.iconst 2, 1) := by decide +kernel
theorem d_law_1088 : decode code 1088 = .ok (.iadd, 1) := by decide +kernel
theorem d_law_1089 : decode code 1089 = .ok (.iaload, 1) := by decide +kernel
theorem d_law_1090 : decode code 1090 = .ok (.aload_n 3, 1) := by decide +kernel
theorem d_law_1091 : decode code 1091 = .ok (.invokestatic 113, 3) := by decide +kernel
theorem d_law_1094 : decode code 1094 = .ok (.istore 5, 2) := by decide +kernel
theorem d_law_1096 : decode code 1096 = .ok (.aload_n 2, 1) := by decide +kernel
theorem d_law_1097 : decode code 1097 = .ok (.aload_n 0, 1) := by decide +kernel
theorem d_law_1098 : decode code 1098 = .ok (.iload 4, 2) := by decide +kernel
theorem d_law_1100 : decode code 1100 = .ok (.iconst 1, 1) := by decide +kernel
theorem d_law_1101 : decode code 1101 = .ok (.iadd, 1) := by decide +kernel
theorem d_law_1102 : decode code 1102 = .ok (.iaload, 1) := by decide +kernel
theorem d_law_1103 : decode code 1103 = .ok (.aload_n 0, 1) := by decide +kernel
theorem d_law_1104 : decode code 1104 = .ok (.iload 4, 2) := by decide +kernel
theorem d_law_1106 : decode code 1106 = .ok (.iconst 2, 1) := by decide +kernel
theorem d_law_1107 : decode code 1107 = .ok (.iadd, 1) := by decide +kernel
theorem d_law_1108 : decode code 1108 = .ok (.iaload, 1) := by decide +kernel
theorem d_law_1109 : decode code 1109 = .ok (.invokevirtual 115, 3) := by decide +kernel
theorem d_law_1112 : decode code 1112 = .ok (.istore 6, 2) := by decide +kernel
theorem d_law_1114 : decode code 1114 = .ok (.aload_n 2, 1) := by decide +kernel
theorem d_law_1115 : decode code 1115 = .ok (.invokevirtual 81, 3) := by decide +kernel
theorem d_law_1118 : decode code 1118 = .ok (.iload 5, 2) := by decide +kernel
theorem d_law_1120 : decode code 1120 = .ok (.if_icmp .eq 5, 3) := by decide +kernel
theorem d_law_1123 : decode code 1123 = .ok (.iconst 0, 1) := by decide +kernel
theorem d_law_1124 : decode code 1124 = .ok (.ireturn, 1) := by decide +kernel
theorem d_law_1125 : decode code 1125 = .ok (.iload 5, 2) := by decide +kernel
theorem d_law_1127 : decode code 1127 = .ok (.ifCond .ne 15, 3) := by decide +kernel
theorem d_law_1130 : decode code 1130 = .ok (.aload_n 3, 1) := by decide +kernel
theorem d_law_1131 : decode code 1131 = .ok (.iconst 0, 1) := by decide +kernel
theorem d_law_1132 : decode code 1132 = .ok (.laload, 1) := by decide +kernel
theorem d_law_1133 : decode code 1133 = .ok (.iload 6, 2) := by decide +kernel
theorem d_law_1135 : decode code 1135 = .ok (.i2l, 1) := by decide +kernel
theorem d_law_1136 : decode code 1136 = .ok (.lcmp, 1) := by decide +kernel
theorem d_law_1137 : decode code 1137 = .ok (.ifCond .eq 5, 3) := by decide +kernel
theorem d_law_1140 : decode code 1140 = .ok (.iconst 0, 1) := by decide +kernel
theorem d_law_1141 : decode code 1141 = .ok (.ireturn, 1) := by decide +kernel
theorem d_law_1142 : decode code 1142 = .ok (.goto 441, 3) := by decide +kernel
theorem d_law_1145 : decode code 1145 = .ok (.aload_n 1, 1) := by decide +kernel
theorem d_law_1146 : decode code 1146 = .ok (.aload_n 0, 1) := by decide +kernel
theorem d_law_1147 : decode code 1147 = .ok (.iload 4, 2) := by decide +kernel
theorem d_law_1149 : decode code 1149 = .ok (.iconst 1, 1) := by decide +kernel
theorem d_law_1150 : decode code 1150 = .ok (.iadd, 1) := by decide +kernel
theorem d_law_1151 : decode code 1151 = .ok (.iaload, 1) := by decide +kernel
theorem d_law_1152 : decode code 1152 = .ok (.aload_n 0, 1) := by decide +kernel
theorem d_law_1153 : decode code 1153 = .ok (.iload 4, 2) := by decide +kernel
theorem d_law_1155 : decode code 1155 = .ok (.iconst 2, 1) := by decide +kernel
theorem d_law_1156 : decode code 1156 = .ok (.iadd, 1) := by decide +kernel
theorem d_law_1157 : decode code 1157 = .ok (.iaload, 1) := by decide +kernel
theorem d_law_1158 : decode code 1158 = .ok (.aload_n 0, 1) := by decide +kernel
theorem d_law_1159 : decode code 1159 = .ok (.iload 4, 2) := by decide +kernel
theorem d_law_1161 : decode code 1161 = .ok (.iconst 3, 1) := by decide +kernel
theorem d_law_1162 : decode code 1162 = .ok (.iadd, 1) := by decide +kernel
theorem d_law_1163 : decode code 1163 = .ok (.iaload, 1) := by decide +kernel
theorem d_law_1164 : decode code 1164 = .ok (.aload_n 3, 1) := by decide +kernel
theorem d_law_1165 : decode code 1165 = .ok (.invokestatic 116, 3) := by decide +kernel
theorem d_law_1168 : decode code 1168 = .ok (.istore 5, 2) := by decide +kernel
theorem d_law_1170 : decode code 1170 = .ok (.aload_n 2, 1) := by decide +kernel
theorem d_law_1171 : decode code 1171 = .ok (.aload_n 0, 1) := by decide +kernel
theorem d_law_1172 : decode code 1172 = .ok (.iload 4, 2) := by decide +kernel
theorem d_law_1174 : decode code 1174 = .ok (.iconst 1, 1) := by decide +kernel
theorem d_law_1175 : decode code 1175 = .ok (.iadd, 1) := by decide +kernel
theorem d_law_1176 : decode code 1176 = .ok (.iaload, 1) := by decide +kernel
theorem d_law_1177 : decode code 1177 = .ok (.aload_n 0, 1) := by decide +kernel
theorem d_law_1178 : decode code 1178 = .ok (.iload 4, 2) := by decide +kernel
theorem d_law_1180 : decode code 1180 = .ok (.iconst 2, 1) := by decide +kernel
theorem d_law_1181 : decode code 1181 = .ok (.iadd, 1) := by decide +kernel
theorem d_law_1182 : decode code 1182 = .ok (.iaload, 1) := by decide +kernel
theorem d_law_1183 : decode code 1183 = .ok (.aload_n 0, 1) := by decide +kernel
theorem d_law_1184 : decode code 1184 = .ok (.iload 4, 2) := by decide +kernel
theorem d_law_1186 : decode code 1186 = .ok (.iconst 3, 1) := by decide +kernel
theorem d_law_1187 : decode code 1187 = .ok (.iadd, 1) := by decide +kernel
theorem d_law_1188 : decode code 1188 = .ok (.iaload, 1) := by decide +kernel
theorem d_law_1189 : decode code 1189 = .ok (.invokevirtual 118, 3) := by decide +kernel
theorem d_law_1192 : decode code 1192 = .ok (.lstore 6, 2) := by decide +kernel
theorem d_law_1194 : decode code 1194 = .ok (.aload_n 2, 1) := by decide +kernel
theorem d_law_1195 : decode code 1195 = .ok (.invokevirtual 81, 3) := by decide +kernel
theorem d_law_1198 : decode code 1198 = .ok (.iload 5, 2) := by decide +kernel
theorem d_law_1200 : decode code 1200 = .ok (.if_icmp .eq 5, 3) := by decide +kernel
theorem d_law_1203 : decode code 1203 = .ok (.iconst 0, 1) := by decide +kernel
theorem d_law_1204 : decode code 1204 = .ok (.ireturn, 1) := by decide +kernel
theorem d_law_1205 : decode code 1205 = .ok (.iload 5, 2) := by decide +kernel
theorem d_law_1207 : decode code 1207 = .ok (.ifCond .ne 14, 3) := by decide +kernel
theorem d_law_1210 : decode code 1210 = .ok (.aload_n 3, 1) := by decide +kernel
theorem d_law_1211 : decode code 1211 = .ok (.iconst 0, 1) := by decide +kernel
theorem d_law_1212 : decode code 1212 = .ok (.laload, 1) := by decide +kernel
theorem d_law_1213 : decode code 1213 = .ok (.lload 6, 2) := by decide +kernel
theorem d_law_1215 : decode code 1215 = .ok (.lcmp, 1) := by decide +kernel
theorem d_law_1216 : decode code 1216 = .ok (.ifCond .eq 5, 3) := by decide +kernel
theorem d_law_1219 : decode code 1219 = .ok (.iconst 0, 1) := by decide +kernel
theorem d_law_1220 : decode code 1220 = .ok (.ireturn, 1) := by decide +kernel
theorem d_law_1221 : decode code 1221 = .ok (.goto 362, 3) := by decide +kernel
theorem d_law_1224 : decode code 1224 = .ok (.aload_n 1, 1) := by decide +kernel
theorem d_law_1225 : decode code 1225 = .ok (.aload_n 0, 1) := by decide +kernel
theorem d_law_1226 : decode code 1226 = .ok (.iload 4, 2) := by decide +kernel
theorem d_law_1228 : decode code 1228 = .ok (.iconst 1, 1) := by decide +kernel
theorem d_law_1229 : decode code 1229 = .ok (.iadd, 1) := by decide +kernel
theorem d_law_1230 : decode code 1230 = .ok (.iaload, 1) := by decide +kernel
theorem d_law_1231 : decode code 1231 = .ok (.aload_n 3, 1) := by decide +kernel
theorem d_law_1232 : decode code 1232 = .ok (.invokestatic 119, 3) := by decide +kernel
theorem d_law_1235 : decode code 1235 = .ok (.istore 5, 2) := by decide +kernel
theorem d_law_1237 : decode code 1237 = .ok (.aload_n 2, 1) := by decide +kernel
theorem d_law_1238 : decode code 1238 = .ok (.aload_n 0, 1) := by decide +kernel
theorem d_law_1239 : decode code 1239 = .ok (.iload 4, 2) := by decide +kernel
theorem d_law_1241 : decode code 1241 = .ok (.iconst 1, 1) := by decide +kernel
theorem d_law_1242 : decode code 1242 = .ok (.iadd, 1) := by decide +kernel
theorem d_law_1243 : decode code 1243 = .ok (.iaload, 1) := by decide +kernel
theorem d_law_1244 : decode code 1244 = .ok (.invokevirtual 122, 3) := by decide +kernel
theorem d_law_1247 : decode code 1247 = .ok (.istore 6, 2) := by decide +kernel
theorem d_law_1249 : decode code 1249 = .ok (.aload_n 2, 1) := by decide +kernel
theorem d_law_1250 : decode code 1250 = .ok (.invokevirtual 81, 3) := by decide +kernel
theorem d_law_1253 : decode code 1253 = .ok (.iload 5, 2) := by decide +kernel
theorem d_law_1255 : decode code 1255 = .ok (.if_icmp .eq 5, 3) := by decide +kernel
theorem d_law_1258 : decode code 1258 = .ok (.iconst 0, 1) := by decide +kernel
theorem d_law_1259 : decode code 1259 = .ok (.ireturn, 1) := by decide +kernel
theorem d_law_1260 : decode code 1260 = .ok (.iload 5, 2) := by decide +kernel
theorem d_law_1262 : decode code 1262 = .ok (.ifCond .ne 15, 3) := by decide +kernel
theorem d_law_1265 : decode code 1265 = .ok (.aload_n 3, 1) := by decide +kernel
theorem d_law_1266 : decode code 1266 = .ok (.iconst 0, 1) := by decide +kernel
theorem d_law_1267 : decode code 1267 = .ok (.laload, 1) := by decide +kernel
theorem d_law_1268 : decode code 1268 = .ok (.iload 6, 2) := by decide +kernel
theorem d_law_1270 : decode code 1270 = .ok (.i2l, 1) := by decide +kernel
theorem d_law_1271 : decode code 1271 = .ok (.lcmp, 1) := by decide +kernel
theorem d_law_1272 : decode code 1272 = .ok (.ifCond .eq 5, 3) := by decide +kernel
theorem d_law_1275 : decode code 1275 = .ok (.iconst 0, 1) := by decide +kernel
theorem d_law_1276 : decode code 1276 = .ok (.ireturn, 1) := by decide +kernel
theorem d_law_1277 : decode code 1277 = .ok (.goto 306, 3) := by decide +kernel
theorem d_law_1280 : decode code 1280 = .ok (.aload_n 1, 1) := by decide +kernel
theorem d_law_1281 : decode code 1281 = .ok (.aload_n 0, 1) := by decide +kernel
theorem d_law_1282 : decode code 1282 = .ok (.iload 4, 2) := by decide +kernel
theorem d_law_1284 : decode code 1284 = .ok (.iconst 1, 1) := by decide +kernel
theorem d_law_1285 : decode code 1285 = .ok (.iadd, 1) := by decide +kernel
theorem d_law_1286 : decode code 1286 = .ok (.iaload, 1) := by decide +kernel
theorem d_law_1287 : decode code 1287 = .ok (.aload_n 0, 1) := by decide +kernel
theorem d_law_1288 : decode code 1288 = .ok (.iload 4, 2) := by decide +kernel
theorem d_law_1290 : decode code 1290 = .ok (.iconst 2, 1) := by decide +kernel
theorem d_law_1291 : decode code 1291 = .ok (.iadd, 1) := by decide +kernel
theorem d_law_1292 : decode code 1292 = .ok (.iaload, 1) := by decide +kernel
theorem d_law_1293 : decode code 1293 = .ok (.i2l, 1) := by decide +kernel
theorem d_law_1294 : decode code 1294 = .ok (.bipush 32, 2) := by decide +kernel
theorem d_law_1296 : decode code 1296 = .ok (.lshl, 1) := by decide +kernel
theorem d_law_1297 : decode code 1297 = .ok (.aload_n 0, 1) := by decide +kernel
theorem d_law_1298 : decode code 1298 = .ok (.iload 4, 2) := by decide +kernel
theorem d_law_1300 : decode code 1300 = .ok (.iconst 3, 1) := by decide +kernel
theorem d_law_1301 : decode code 1301 = .ok (.iadd, 1) := by decide +kernel
theorem d_law_1302 : decode code 1302 = .ok (.iaload, 1) := by decide +kernel
theorem d_law_1303 : decode code 1303 = .ok (.i2l, 1) := by decide +kernel
theorem d_law_1304 : decode code 1304 = .ok (.ldc2_w 88, 3) := by decide +kernel
theorem d_law_1307 : decode code 1307 = .ok (.land, 1) := by decide +kernel
theorem d_law_1308 : decode code 1308 = .ok (.lor, 1) := by decide +kernel
theorem d_law_1309 : decode code 1309 = .ok (.aload_n 0, 1) := by decide +kernel
theorem d_law_1310 : decode code 1310 = .ok (.iload 4, 2) := by decide +kernel
theorem d_law_1312 : decode code 1312 = .ok (.iconst 4, 1) := by decide +kernel
theorem d_law_1313 : decode code 1313 = .ok (.iadd, 1) := by decide +kernel
theorem d_law_1314 : decode code 1314 = .ok (.iaload, 1) := by decide +kernel
theorem d_law_1315 : decode code 1315 = .ok (.i2l, 1) := by decide +kernel
theorem d_law_1316 : decode code 1316 = .ok (.bipush 32, 2) := by decide +kernel
theorem d_law_1318 : decode code 1318 = .ok (.lshl, 1) := by decide +kernel
theorem d_law_1319 : decode code 1319 = .ok (.aload_n 0, 1) := by decide +kernel
theorem d_law_1320 : decode code 1320 = .ok (.iload 4, 2) := by decide +kernel
theorem d_law_1322 : decode code 1322 = .ok (.iconst 5, 1) := by decide +kernel
theorem d_law_1323 : decode code 1323 = .ok (.iadd, 1) := by decide +kernel
theorem d_law_1324 : decode code 1324 = .ok (.iaload, 1) := by decide +kernel
theorem d_law_1325 : decode code 1325 = .ok (.i2l, 1) := by decide +kernel
theorem d_law_1326 : decode code 1326 = .ok (.ldc2_w 88, 3) := by decide +kernel
theorem d_law_1329 : decode code 1329 = .ok (.land, 1) := by decide +kernel
theorem d_law_1330 : decode code 1330 = .ok (.lor, 1) := by decide +kernel
theorem d_law_1331 : decode code 1331 = .ok (.aload_n 0, 1) := by decide +kernel
theorem d_law_1332 : decode code 1332 = .ok (.iload 4, 2) := by decide +kernel
theorem d_law_1334 : decode code 1334 = .ok (.bipush 6, 2) := by decide +kernel
theorem d_law_1336 : decode code 1336 = .ok (.iadd, 1) := by decide +kernel
theorem d_law_1337 : decode code 1337 = .ok (.iaload, 1) := by decide +kernel
theorem d_law_1338 : decode code 1338 = .ok (.i2l, 1) := by decide +kernel
theorem d_law_1339 : decode code 1339 = .ok (.bipush 32, 2) := by decide +kernel
theorem d_law_1341 : decode code 1341 = .ok (.lshl, 1) := by decide +kernel
theorem d_law_1342 : decode code 1342 = .ok (.aload_n 0, 1) := by decide +kernel
theorem d_law_1343 : decode code 1343 = .ok (.iload 4, 2) := by decide +kernel
theorem d_law_1345 : decode code 1345 = .ok (.bipush 7, 2) := by decide +kernel
theorem d_law_1347 : decode code 1347 = .ok (.iadd, 1) := by decide +kernel
theorem d_law_1348 : decode code 1348 = .ok (.iaload, 1) := by decide +kernel
theorem d_law_1349 : decode code 1349 = .ok (.i2l, 1) := by decide +kernel
theorem d_law_1350 : decode code 1350 = .ok (.ldc2_w 88, 3) := by decide +kernel
theorem d_law_1353 : decode code 1353 = .ok (.land, 1) := by decide +kernel
theorem d_law_1354 : decode code 1354 = .ok (.lor, 1) := by decide +kernel
theorem d_law_1355 : decode code 1355 = .ok (.aload_n 0, 1) := by decide +kernel
theorem d_law_1356 : decode code 1356 = .ok (.iload 4, 2) := by decide +kernel
theorem d_law_1358 : decode code 1358 = .ok (.bipush 8, 2) := by decide +kernel
theorem d_law_1360 : decode code 1360 = .ok (.iadd, 1) := by decide +kernel
theorem d_law_1361 : decode code 1361 = .ok (.iaload, 1) := by decide +kernel
theorem d_law_1362 : decode code 1362 = .ok (.i2l, 1) := by decide +kernel
theorem d_law_1363 : decode code 1363 = .ok (.bipush 32, 2) := by decide +kernel
theorem d_law_1365 : decode code 1365 = .ok (.lshl, 1) := by decide +kernel
theorem d_law_1366 : decode code 1366 = .ok (.aload_n 0, 1) := by decide +kernel
theorem d_law_1367 : decode code 1367 = .ok (.iload 4, 2) := by decide +kernel
theorem d_law_1369 : decode code 1369 = .ok (.bipush 9, 2) := by decide +kernel
theorem d_law_1371 : decode code 1371 = .ok (.iadd, 1) := by decide +kernel
theorem d_law_1372 : decode code 1372 = .ok (.iaload, 1) := by decide +kernel
theorem d_law_1373 : decode code 1373 = .ok (.i2l, 1) := by decide +kernel
theorem d_law_1374 : decode code 1374 = .ok (.ldc2_w 88, 3) := by decide +kernel
theorem d_law_1377 : decode code 1377 = .ok (.land, 1) := by decide +kernel
theorem d_law_1378 : decode code 1378 = .ok (.lor, 1) := by decide +kernel
theorem d_law_1379 : decode code 1379 = .ok (.aload_n 3, 1) := by decide +kernel
theorem d_law_1380 : decode code 1380 = .ok (.invokestatic 123, 3) := by decide +kernel
theorem d_law_1383 : decode code 1383 = .ok (.istore 5, 2) := by decide +kernel
theorem d_law_1385 : decode code 1385 = .ok (.aload_n 2, 1) := by decide +kernel
theorem d_law_1386 : decode code 1386 = .ok (.aload_n 0, 1) := by decide +kernel
theorem d_law_1387 : decode code 1387 = .ok (.iload 4, 2) := by decide +kernel
theorem d_law_1389 : decode code 1389 = .ok (.iconst 1, 1) := by decide +kernel
theorem d_law_1390 : decode code 1390 = .ok (.iadd, 1) := by decide +kernel
theorem d_law_1391 : decode code 1391 = .ok (.iaload, 1) := by decide +kernel
theorem d_law_1392 : decode code 1392 = .ok (.aload_n 0, 1) := by decide +kernel
theorem d_law_1393 : decode code 1393 = .ok (.iload 4, 2) := by decide +kernel
theorem d_law_1395 : decode code 1395 = .ok (.iconst 2, 1) := by decide +kernel
theorem d_law_1396 : decode code 1396 = .ok (.iadd, 1) := by decide +kernel
theorem d_law_1397 : decode code 1397 = .ok (.iaload, 1) := by decide +kernel
theorem d_law_1398 : decode code 1398 = .ok (.i2l, 1) := by decide +kernel
theorem d_law_1399 : decode code 1399 = .ok (.bipush 32, 2) := by decide +kernel
theorem d_law_1401 : decode code 1401 = .ok (.lshl, 1) := by decide +kernel
theorem d_law_1402 : decode code 1402 = .ok (.aload_n 0, 1) := by decide +kernel
theorem d_law_1403 : decode code 1403 = .ok (.iload 4, 2) := by decide +kernel
theorem d_law_1405 : decode code 1405 = .ok (.iconst 3, 1) := by decide +kernel
theorem d_law_1406 : decode code 1406 = .ok (.iadd, 1) := by decide +kernel
theorem d_law_1407 : decode code 1407 = .ok (.iaload, 1) := by decide +kernel
theorem d_law_1408 : decode code 1408 = .ok (.i2l, 1) := by decide +kernel
theorem d_law_1409 : decode code 1409 = .ok (.ldc2_w 88, 3) := by decide +kernel
theorem d_law_1412 : decode code 1412 = .ok (.land, 1) := by decide +kernel
theorem d_law_1413 : decode code 1413 = .ok (.lor, 1) := by decide +kernel
theorem d_law_1414 : decode code 1414 = .ok (.aload_n 0, 1) := by decide +kernel
theorem d_law_1415 : decode code 1415 = .ok (.iload 4, 2) := by decide +kernel
theorem d_law_1417 : decode code 1417 = .ok (.iconst 4, 1) := by decide +kernel
theorem d_law_1418 : decode code 1418 = .ok (.iadd, 1) := by decide +kernel
theorem d_law_1419 : decode code 1419 = .ok (.iaload, 1) := by decide +kernel
theorem d_law_1420 : decode code 1420 = .ok (.i2l, 1) := by decide +kernel
theorem d_law_1421 : decode code 1421 = .ok (.bipush 32, 2) := by decide +kernel
theorem d_law_1423 : decode code 1423 = .ok (.lshl, 1) := by decide +kernel
theorem d_law_1424 : decode code 1424 = .ok (.aload_n 0, 1) := by decide +kernel
theorem d_law_1425 : decode code 1425 = .ok (.iload 4, 2) := by decide +kernel
theorem d_law_1427 : decode code 1427 = .ok (.iconst 5, 1) := by decide +kernel
theorem d_law_1428 : decode code 1428 = .ok (.iadd, 1) := by decide +kernel
theorem d_law_1429 : decode code 1429 = .ok (.iaload, 1) := by decide +kernel
theorem d_law_1430 : decode code 1430 = .ok (.i2l, 1) := by decide +kernel
theorem d_law_1431 : decode code 1431 = .ok (.ldc2_w 88, 3) := by decide +kernel
theorem d_law_1434 : decode code 1434 = .ok (.land, 1) := by decide +kernel
theorem d_law_1435 : decode code 1435 = .ok (.lor, 1) := by decide +kernel
theorem d_law_1436 : decode code 1436 = .ok (.aload_n 0, 1) := by decide +kernel
theorem d_law_1437 : decode code 1437 = .ok (.iload 4, 2) := by decide +kernel
theorem d_law_1439 : decode code 1439 = .ok (.bipush 6, 2) := by decide +kernel
theorem d_law_1441 : decode code 1441 = .ok (.iadd, 1) := by decide +kernel
theorem d_law_1442 : decode code 1442 = .ok (.iaload, 1) := by decide +kernel
theorem d_law_1443 : decode code 1443 = .ok (.i2l, 1) := by decide +kernel
theorem d_law_1444 : decode code 1444 = .ok (.bipush 32, 2) := by decide +kernel
theorem d_law_1446 : decode code 1446 = .ok (.lshl, 1) := by decide +kernel
theorem d_law_1447 : decode code 1447 = .ok (.aload_n 0, 1) := by decide +kernel
theorem d_law_1448 : decode code 1448 = .ok (.iload 4, 2) := by decide +kernel
theorem d_law_1450 : decode code 1450 = .ok (.bipush 7, 2) := by decide +kernel
theorem d_law_1452 : decode code 1452 = .ok (.iadd, 1) := by decide +kernel
theorem d_law_1453 : decode code 1453 = .ok (.iaload, 1) := by decide +kernel
theorem d_law_1454 : decode code 1454 = .ok (.i2l, 1) := by decide +kernel
theorem d_law_1455 : decode code 1455 = .ok (.ldc2_w 88, 3) := by decide +kernel
theorem d_law_1458 : decode code 1458 = .ok (.land, 1) := by decide +kernel
theorem d_law_1459 : decode code 1459 = .ok (.lor, 1) := by decide +kernel
theorem d_law_1460 : decode code 1460 = .ok (.aload_n 0, 1) := by decide +kernel
theorem d_law_1461 : decode code 1461 = .ok (.iload 4, 2) := by decide +kernel
theorem d_law_1463 : decode code 1463 = .ok (.bipush 8, 2) := by decide +kernel
theorem d_law_1465 : decode code 1465 = .ok (.iadd, 1) := by decide +kernel
theorem d_law_1466 : decode code 1466 = .ok (.iaload, 1) := by decide +kernel
theorem d_law_1467 : decode code 1467 = .ok (.i2l, 1) := by decide +kernel
theorem d_law_1468 : decode code 1468 = .ok (.bipush 32, 2) := by decide +kernel
theorem d_law_1470 : decode code 1470 = .ok (.lshl, 1) := by decide +kernel
theorem d_law_1471 : decode code 1471 = .ok (.aload_n 0, 1) := by decide +kernel
theorem d_law_1472 : decode code 1472 = .ok (.iload 4, 2) := by decide +kernel
theorem d_law_1474 : decode code 1474 = .ok (.bipush 9, 2) := by decide +kernel
theorem d_law_1476 : decode code 1476 = .ok (.iadd, 1) := by decide +kernel
theorem d_law_1477 : decode code 1477 = .ok (.iaload, 1) := by decide +kernel
theorem d_law_1478 : decode code 1478 = .ok (.i2l, 1) := by decide +kernel
theorem d_law_1479 : decode code 1479 = .ok (.ldc2_w 88, 3) := by decide +kernel
theorem d_law_1482 : decode code 1482 = .ok (.land, 1) := by decide +kernel
theorem d_law_1483 : decode code 1483 = .ok (.lor, 1) := by decide +kernel
theorem d_law_1484 : decode code 1484 = .ok (.invokevirtual 126, 3) := by decide +kernel
theorem d_law_1487 : decode code 1487 = .ok (.istore 6, 2) := by decide +kernel
theorem d_law_1489 : decode code 1489 = .ok (.aload_n 2, 1) := by decide +kernel
theorem d_law_1490 : decode code 1490 = .ok (.invokevirtual 81, 3) := by decide +kernel
theorem d_law_1493 : decode code 1493 = .ok (.iload 5, 2) := by decide +kernel
theorem d_law_1495 : decode code 1495 = .ok (.if_icmp .eq 5, 3) := by decide +kernel
theorem d_law_1498 : decode code 1498 = .ok (.iconst 0, 1) := by decide +kernel
theorem d_law_1499 : decode code 1499 = .ok (.ireturn, 1) := by decide +kernel
theorem d_law_1500 : decode code 1500 = .ok (.iload 5, 2) := by decide +kernel
theorem d_law_1502 : decode code 1502 = .ok (.ifCond .ne 15, 3) := by decide +kernel
theorem d_law_1505 : decode code 1505 = .ok (.aload_n 3, 1) := by decide +kernel
theorem d_law_1506 : decode code 1506 = .ok (.iconst 0, 1) := by decide +kernel
theorem d_law_1507 : decode code 1507 = .ok (.laload, 1) := by decide +kernel
theorem d_law_1508 : decode code 1508 = .ok (.iload 6, 2) := by decide +kernel
theorem d_law_1510 : decode code 1510 = .ok (.i2l, 1) := by decide +kernel
theorem d_law_1511 : decode code 1511 = .ok (.lcmp, 1) := by decide +kernel
theorem d_law_1512 : decode code 1512 = .ok (.ifCond .eq 5, 3) := by decide +kernel
theorem d_law_1515 : decode code 1515 = .ok (.iconst 0, 1) := by decide +kernel
theorem d_law_1516 : decode code 1516 = .ok (.ireturn, 1) := by decide +kernel
theorem d_law_1517 : decode code 1517 = .ok (.goto 66, 3) := by decide +kernel
theorem d_law_1520 : decode code 1520 = .ok (.aload_n 1, 1) := by decide +kernel
theorem d_law_1521 : decode code 1521 = .ok (.aload_n 0, 1) := by decide +kernel
theorem d_law_1522 : decode code 1522 = .ok (.iload 4, 2) := by decide +kernel
theorem d_law_1524 : decode code 1524 = .ok (.iconst 1, 1) := by decide +kernel
theorem d_law_1525 : decode code 1525 = .ok (.iadd, 1) := by decide +kernel
theorem d_law_1526 : decode code 1526 = .ok (.iaload, 1) := by decide +kernel
theorem d_law_1527 : decode code 1527 = .ok (.aload_n 3, 1) := by decide +kernel
theorem d_law_1528 : decode code 1528 = .ok (.invokestatic 127, 3) := by decide +kernel
theorem d_law_1531 : decode code 1531 = .ok (.istore 5, 2) := by decide +kernel
theorem d_law_1533 : decode code 1533 = .ok (.aload_n 2, 1) := by decide +kernel
theorem d_law_1534 : decode code 1534 = .ok (.aload_n 0, 1) := by decide +kernel
theorem d_law_1535 : decode code 1535 = .ok (.iload 4, 2) := by decide +kernel
theorem d_law_1537 : decode code 1537 = .ok (.iconst 1, 1) := by decide +kernel
theorem d_law_1538 : decode code 1538 = .ok (.iadd, 1) := by decide +kernel
theorem d_law_1539 : decode code 1539 = .ok (.iaload, 1) := by decide +kernel
theorem d_law_1540 : decode code 1540 = .ok (.invokevirtual 129, 3) := by decide +kernel
theorem d_law_1543 : decode code 1543 = .ok (.istore 6, 2) := by decide +kernel
theorem d_law_1545 : decode code 1545 = .ok (.aload_n 2, 1) := by decide +kernel
theorem d_law_1546 : decode code 1546 = .ok (.invokevirtual 81, 3) := by decide +kernel
theorem d_law_1549 : decode code 1549 = .ok (.iload 5, 2) := by decide +kernel
theorem d_law_1551 : decode code 1551 = .ok (.if_icmp .eq 5, 3) := by decide +kernel
theorem d_law_1554 : decode code 1554 = .ok (.iconst 0, 1) := by decide +kernel
theorem d_law_1555 : decode code 1555 = .ok (.ireturn, 1) := by decide +kernel
theorem d_law_1556 : decode code 1556 = .ok (.iload 5, 2) := by decide +kernel
theorem d_law_1558 : decode code 1558 = .ok (.ifCond .ne 22, 3) := by decide +kernel
theorem d_law_1561 : decode code 1561 = .ok (.aload_n 3, 1) := by decide +kernel
theorem d_law_1562 : decode code 1562 = .ok (.iconst 0, 1) := by decide +kernel
theorem d_law_1563 : decode code 1563 = .ok (.laload, 1) := by decide +kernel
theorem d_law_1564 : decode code 1564 = .ok (.iload 6, 2) := by decide +kernel
theorem d_law_1566 : decode code 1566 = .ok (.ifCond .eq 7, 3) := by decide +kernel
theorem d_law_1569 : decode code 1569 = .ok (.lconst 1, 1) := by decide +kernel
theorem d_law_1570 : decode code 1570 = .ok (.goto 4, 3) := by decide +kernel
theorem d_law_1573 : decode code 1573 = .ok (.lconst 0, 1) := by decide +kernel
theorem d_law_1574 : decode code 1574 = .ok (.lcmp, 1) := by decide +kernel
theorem d_law_1575 : decode code 1575 = .ok (.ifCond .eq 5, 3) := by decide +kernel
theorem d_law_1578 : decode code 1578 = .ok (.iconst 0, 1) := by decide +kernel
theorem d_law_1579 : decode code 1579 = .ok (.ireturn, 1) := by decide +kernel
theorem d_law_1580 : decode code 1580 = .ok (.goto 3, 3) := by decide +kernel
theorem d_law_1583 : decode code 1583 = .ok (.iinc 4 10, 3) := by decide +kernel
theorem d_law_1586 : decode code 1586 = .ok (.goto (-1553), 3) := by decide +kernel
theorem d_law_1589 : decode code 1589 = .ok (.iconst 1, 1) := by decide +kernel
theorem d_law_1590 : decode code 1590 = .ok (.ireturn, 1) := by decide +kernel
