theorem dL_cell_0 : decode cL_cell 0 = .ok (.iload_n 1, 1) := by decide +kernel
theorem dL_cell_1 : decode cL_cell 1 = .ok (.aload_n 0, 1) := by decide +kernel
theorem dL_cell_2 : decode cL_cell 2 = .ok (.arraylength, 1) := by decide +kernel
theorem dL_cell_3 : decode cL_cell 3 = .ok (.if_icmp .ge 9, 3) := by decide +kernel
theorem dL_cell_6 : decode cL_cell 6 = .ok (.aload_n 0, 1) := by decide +kernel
theorem dL_cell_7 : decode cL_cell 7 = .ok (.iload_n 1, 1) := by decide +kernel
theorem dL_cell_8 : decode cL_cell 8 = .ok (.iaload, 1) := by decide +kernel
theorem dL_cell_9 : decode cL_cell 9 = .ok (.goto 4, 3) := by decide +kernel
theorem dL_cell_12 : decode cL_cell 12 = .ok (.iconst 0, 1) := by decide +kernel
theorem dL_cell_13 : decode cL_cell 13 = .ok (.ireturn, 1) := by decide +kernel
theorem dL_told_0 : decode cL_told 0 = .ok (.aload_n 2, 1) := by decide +kernel
theorem dL_told_1 : decode cL_told 1 = .ok (.iconst 0, 1) := by decide +kernel
theorem dL_told_2 : decode cL_told 2 = .ok (.aload_n 0, 1) := by decide +kernel
theorem dL_told_3 : decode cL_told 3 = .ok (.iload_n 1, 1) := by decide +kernel
theorem dL_told_4 : decode cL_told 4 = .ok (.invokevirtual 7, 3) := by decide +kernel
theorem dL_told_7 : decode cL_told 7 = .ok (.i2l, 1) := by decide +kernel
theorem dL_told_8 : decode cL_told 8 = .ok (.lastore, 1) := by decide +kernel
theorem dL_told_9 : decode cL_told 9 = .ok (.goto 6, 3) := by decide +kernel
theorem dL_told_12 : decode cL_told 12 = .ok (.astore_n 3, 1) := by decide +kernel
theorem dL_told_13 : decode cL_told 13 = .ok (.iconst 1, 1) := by decide +kernel
theorem dL_told_14 : decode cL_told 14 = .ok (.ireturn, 1) := by decide +kernel
theorem dL_told_15 : decode cL_told 15 = .ok (.iconst 0, 1) := by decide +kernel
theorem dL_told_16 : decode cL_told 16 = .ok (.ireturn, 1) := by decide +kernel
theorem dL_bound_0 : decode cL_bound 0 = .ok (.aload_n 0, 1) := by decide +kernel
theorem dL_bound_1 : decode cL_bound 1 = .ok (.iload_n 1, 1) := by decide +kernel
theorem dL_bound_2 : decode cL_bound 2 = .ok (.invokevirtual 15, 3) := by decide +kernel
theorem dL_bound_5 : decode cL_bound 5 = .ok (.goto 6, 3) := by decide +kernel
theorem dL_bound_8 : decode cL_bound 8 = .ok (.astore_n 2, 1) := by decide +kernel
theorem dL_bound_9 : decode cL_bound 9 = .ok (.iconst 1, 1) := by decide +kernel
theorem dL_bound_10 : decode cL_bound 10 = .ok (.ireturn, 1) := by decide +kernel
theorem dL_bound_11 : decode cL_bound 11 = .ok (.iconst 0, 1) := by decide +kernel
theorem dL_bound_12 : decode cL_bound 12 = .ok (.ireturn, 1) := by decide +kernel
theorem dL_group_0 : decode cL_group 0 = .ok (.aload_n 3, 1) := by decide +kernel
theorem dL_group_1 : decode cL_group 1 = .ok (.iconst 0, 1) := by decide +kernel
theorem dL_group_2 : decode cL_group 2 = .ok (.aload_n 0, 1) := by decide +kernel
theorem dL_group_3 : decode cL_group 3 = .ok (.iload_n 1, 1) := by decide +kernel
theorem dL_group_4 : decode cL_group 4 = .ok (.iload_n 2, 1) := by decide +kernel
theorem dL_group_5 : decode cL_group 5 = .ok (.invokevirtual 19, 3) := by decide +kernel
theorem dL_group_8 : decode cL_group 8 = .ok (.i2l, 1) := by decide +kernel
theorem dL_group_9 : decode cL_group 9 = .ok (.lastore, 1) := by decide +kernel
theorem dL_group_10 : decode cL_group 10 = .ok (.goto 7, 3) := by decide +kernel
theorem dL_group_13 : decode cL_group 13 = .ok (.astore 4, 2) := by decide +kernel
theorem dL_group_15 : decode cL_group 15 = .ok (.iconst 1, 1) := by decide +kernel
theorem dL_group_16 : decode cL_group 16 = .ok (.ireturn, 1) := by decide +kernel
theorem dL_group_17 : decode cL_group 17 = .ok (.iconst 0, 1) := by decide +kernel
theorem dL_group_18 : decode cL_group 18 = .ok (.ireturn, 1) := by decide +kernel
theorem dL_end_0 : decode cL_end 0 = .ok (.aload_n 3, 1) := by decide +kernel
theorem dL_end_1 : decode cL_end 1 = .ok (.iconst 0, 1) := by decide +kernel
theorem dL_end_2 : decode cL_end 2 = .ok (.aload_n 0, 1) := by decide +kernel
theorem dL_end_3 : decode cL_end 3 = .ok (.iload_n 1, 1) := by decide +kernel
theorem dL_end_4 : decode cL_end 4 = .ok (.iload_n 2, 1) := by decide +kernel
theorem dL_end_5 : decode cL_end 5 = .ok (.invokevirtual 25, 3) := by decide +kernel
theorem dL_end_8 : decode cL_end 8 = .ok (.i2l, 1) := by decide +kernel
theorem dL_end_9 : decode cL_end 9 = .ok (.lastore, 1) := by decide +kernel
theorem dL_end_10 : decode cL_end 10 = .ok (.goto 11, 3) := by decide +kernel
theorem dL_end_13 : decode cL_end 13 = .ok (.astore 4, 2) := by decide +kernel
theorem dL_end_15 : decode cL_end 15 = .ok (.iconst 1, 1) := by decide +kernel
theorem dL_end_16 : decode cL_end 16 = .ok (.ireturn, 1) := by decide +kernel
theorem dL_end_17 : decode cL_end 17 = .ok (.astore 4, 2) := by decide +kernel
theorem dL_end_19 : decode cL_end 19 = .ok (.iconst 2, 1) := by decide +kernel
theorem dL_end_20 : decode cL_end 20 = .ok (.ireturn, 1) := by decide +kernel
theorem dL_end_21 : decode cL_end 21 = .ok (.iconst 0, 1) := by decide +kernel
theorem dL_end_22 : decode cL_end 22 = .ok (.ireturn, 1) := by decide +kernel
theorem dL_mask_0 : decode cL_mask 0 = .ok (.aload_n 3, 1) := by decide +kernel
theorem dL_mask_1 : decode cL_mask 1 = .ok (.iconst 0, 1) := by decide +kernel
theorem dL_mask_2 : decode cL_mask 2 = .ok (.aload_n 0, 1) := by decide +kernel
theorem dL_mask_3 : decode cL_mask 3 = .ok (.iload_n 1, 1) := by decide +kernel
theorem dL_mask_4 : decode cL_mask 4 = .ok (.iload_n 2, 1) := by decide +kernel
theorem dL_mask_5 : decode cL_mask 5 = .ok (.invokevirtual 31, 3) := by decide +kernel
theorem dL_mask_8 : decode cL_mask 8 = .ok (.i2l, 1) := by decide +kernel
theorem dL_mask_9 : decode cL_mask 9 = .ok (.lastore, 1) := by decide +kernel
theorem dL_mask_10 : decode cL_mask 10 = .ok (.goto 11, 3) := by decide +kernel
theorem dL_mask_13 : decode cL_mask 13 = .ok (.astore 4, 2) := by decide +kernel
theorem dL_mask_15 : decode cL_mask 15 = .ok (.iconst 1, 1) := by decide +kernel
theorem dL_mask_16 : decode cL_mask 16 = .ok (.ireturn, 1) := by decide +kernel
theorem dL_mask_17 : decode cL_mask 17 = .ok (.astore 4, 2) := by decide +kernel
theorem dL_mask_19 : decode cL_mask 19 = .ok (.iconst 2, 1) := by decide +kernel
theorem dL_mask_20 : decode cL_mask 20 = .ok (.ireturn, 1) := by decide +kernel
theorem dL_mask_21 : decode cL_mask 21 = .ok (.iconst 0, 1) := by decide +kernel
theorem dL_mask_22 : decode cL_mask 22 = .ok (.ireturn, 1) := by decide +kernel
theorem dL_colour_0 : decode cL_colour 0 = .ok (.aload_n 0, 1) := by decide +kernel
theorem dL_colour_1 : decode cL_colour 1 = .ok (.iload_n 1, 1) := by decide +kernel
theorem dL_colour_2 : decode cL_colour 2 = .ok (.iload_n 2, 1) := by decide +kernel
theorem dL_colour_3 : decode cL_colour 3 = .ok (.invokevirtual 35, 3) := by decide +kernel
theorem dL_colour_6 : decode cL_colour 6 = .ok (.goto 9, 3) := by decide +kernel
theorem dL_colour_9 : decode cL_colour 9 = .ok (.astore_n 3, 1) := by decide +kernel
theorem dL_colour_10 : decode cL_colour 10 = .ok (.iconst 1, 1) := by decide +kernel
theorem dL_colour_11 : decode cL_colour 11 = .ok (.ireturn, 1) := by decide +kernel
theorem dL_colour_12 : decode cL_colour 12 = .ok (.astore_n 3, 1) := by decide +kernel
theorem dL_colour_13 : decode cL_colour 13 = .ok (.iconst 2, 1) := by decide +kernel
theorem dL_colour_14 : decode cL_colour 14 = .ok (.ireturn, 1) := by decide +kernel
theorem dL_colour_15 : decode cL_colour 15 = .ok (.iconst 0, 1) := by decide +kernel
theorem dL_colour_16 : decode cL_colour 16 = .ok (.ireturn, 1) := by decide +kernel
theorem dL_stays_0 : decode cL_stays 0 = .ok (.aload_n 0, 1) := by decide +kernel
theorem dL_stays_1 : decode cL_stays 1 = .ok (.iload_n 1, 1) := by decide +kernel
theorem dL_stays_2 : decode cL_stays 2 = .ok (.iload_n 2, 1) := by decide +kernel
theorem dL_stays_3 : decode cL_stays 3 = .ok (.invokevirtual 41, 3) := by decide +kernel
theorem dL_stays_6 : decode cL_stays 6 = .ok (.goto 6, 3) := by decide +kernel
theorem dL_stays_9 : decode cL_stays 9 = .ok (.astore_n 3, 1) := by decide +kernel
theorem dL_stays_10 : decode cL_stays 10 = .ok (.iconst 1, 1) := by decide +kernel
theorem dL_stays_11 : decode cL_stays 11 = .ok (.ireturn, 1) := by decide +kernel
theorem dL_stays_12 : decode cL_stays 12 = .ok (.iconst 0, 1) := by decide +kernel
theorem dL_stays_13 : decode cL_stays 13 = .ok (.ireturn, 1) := by decide +kernel
theorem dL_cover_0 : decode cL_cover 0 = .ok (.aload_n 0, 1) := by decide +kernel
theorem dL_cover_1 : decode cL_cover 1 = .ok (.iload_n 1, 1) := by decide +kernel
theorem dL_cover_2 : decode cL_cover 2 = .ok (.iload_n 2, 1) := by decide +kernel
theorem dL_cover_3 : decode cL_cover 3 = .ok (.iload_n 3, 1) := by decide +kernel
theorem dL_cover_4 : decode cL_cover 4 = .ok (.invokevirtual 45, 3) := by decide +kernel
theorem dL_cover_7 : decode cL_cover 7 = .ok (.goto 11, 3) := by decide +kernel
theorem dL_cover_10 : decode cL_cover 10 = .ok (.astore 4, 2) := by decide +kernel
theorem dL_cover_12 : decode cL_cover 12 = .ok (.iconst 1, 1) := by decide +kernel
theorem dL_cover_13 : decode cL_cover 13 = .ok (.ireturn, 1) := by decide +kernel
theorem dL_cover_14 : decode cL_cover 14 = .ok (.astore 4, 2) := by decide +kernel
theorem dL_cover_16 : decode cL_cover 16 = .ok (.iconst 2, 1) := by decide +kernel
theorem dL_cover_17 : decode cL_cover 17 = .ok (.ireturn, 1) := by decide +kernel
theorem dL_cover_18 : decode cL_cover 18 = .ok (.iconst 0, 1) := by decide +kernel
theorem dL_cover_19 : decode cL_cover 19 = .ok (.ireturn, 1) := by decide +kernel
theorem dL_fill_0 : decode cL_fill 0 = .ok (.aload_n 0, 1) := by decide +kernel
theorem dL_fill_1 : decode cL_fill 1 = .ok (.iload_n 1, 1) := by decide +kernel
theorem dL_fill_2 : decode cL_fill 2 = .ok (.iload_n 2, 1) := by decide +kernel
theorem dL_fill_3 : decode cL_fill 3 = .ok (.iload_n 3, 1) := by decide +kernel
theorem dL_fill_4 : decode cL_fill 4 = .ok (.iload 4, 2) := by decide +kernel
theorem dL_fill_6 : decode cL_fill 6 = .ok (.iload 5, 2) := by decide +kernel
theorem dL_fill_8 : decode cL_fill 8 = .ok (.invokevirtual 49, 3) := by decide +kernel
theorem dL_fill_11 : decode cL_fill 11 = .ok (.goto 7, 3) := by decide +kernel
theorem dL_fill_14 : decode cL_fill 14 = .ok (.astore 6, 2) := by decide +kernel
theorem dL_fill_16 : decode cL_fill 16 = .ok (.iconst 1, 1) := by decide +kernel
theorem dL_fill_17 : decode cL_fill 17 = .ok (.ireturn, 1) := by decide +kernel
theorem dL_fill_18 : decode cL_fill 18 = .ok (.iconst 0, 1) := by decide +kernel
theorem dL_fill_19 : decode cL_fill 19 = .ok (.ireturn, 1) := by decide +kernel
theorem dL_mark_0 : decode cL_mark 0 = .ok (.aload 4, 2) := by decide +kernel
theorem dL_mark_2 : decode cL_mark 2 = .ok (.iconst 0, 1) := by decide +kernel
theorem dL_mark_3 : decode cL_mark 3 = .ok (.aload_n 0, 1) := by decide +kernel
theorem dL_mark_4 : decode cL_mark 4 = .ok (.iload_n 1, 1) := by decide +kernel
theorem dL_mark_5 : decode cL_mark 5 = .ok (.iload_n 2, 1) := by decide +kernel
theorem dL_mark_6 : decode cL_mark 6 = .ok (.iload_n 3, 1) := by decide +kernel
theorem dL_mark_7 : decode cL_mark 7 = .ok (.invokevirtual 53, 3) := by decide +kernel
theorem dL_mark_10 : decode cL_mark 10 = .ok (.i2l, 1) := by decide +kernel
theorem dL_mark_11 : decode cL_mark 11 = .ok (.lastore, 1) := by decide +kernel
theorem dL_mark_12 : decode cL_mark 12 = .ok (.goto 7, 3) := by decide +kernel
theorem dL_mark_15 : decode cL_mark 15 = .ok (.astore 5, 2) := by decide +kernel
theorem dL_mark_17 : decode cL_mark 17 = .ok (.iconst 1, 1) := by decide +kernel
theorem dL_mark_18 : decode cL_mark 18 = .ok (.ireturn, 1) := by decide +kernel
theorem dL_mark_19 : decode cL_mark 19 = .ok (.iconst 0, 1) := by decide +kernel
theorem dL_mark_20 : decode cL_mark 20 = .ok (.ireturn, 1) := by decide +kernel
theorem dL_point_0 : decode cL_point 0 = .ok (.aload 4, 2) := by decide +kernel
theorem dL_point_2 : decode cL_point 2 = .ok (.iconst 0, 1) := by decide +kernel
theorem dL_point_3 : decode cL_point 3 = .ok (.aload_n 0, 1) := by decide +kernel
theorem dL_point_4 : decode cL_point 4 = .ok (.iload_n 1, 1) := by decide +kernel
theorem dL_point_5 : decode cL_point 5 = .ok (.iload_n 2, 1) := by decide +kernel
theorem dL_point_6 : decode cL_point 6 = .ok (.iload_n 3, 1) := by decide +kernel
theorem dL_point_7 : decode cL_point 7 = .ok (.invokevirtual 57, 3) := by decide +kernel
theorem dL_point_10 : decode cL_point 10 = .ok (.i2l, 1) := by decide +kernel
theorem dL_point_11 : decode cL_point 11 = .ok (.lastore, 1) := by decide +kernel
theorem dL_point_12 : decode cL_point 12 = .ok (.goto 7, 3) := by decide +kernel
theorem dL_point_15 : decode cL_point 15 = .ok (.astore 5, 2) := by decide +kernel
theorem dL_point_17 : decode cL_point 17 = .ok (.iconst 1, 1) := by decide +kernel
theorem dL_point_18 : decode cL_point 18 = .ok (.ireturn, 1) := by decide +kernel
theorem dL_point_19 : decode cL_point 19 = .ok (.iconst 0, 1) := by decide +kernel
theorem dL_point_20 : decode cL_point 20 = .ok (.ireturn, 1) := by decide +kernel
theorem dL_alpha_0 : decode cL_alpha 0 = .ok (.aload 4, 2) := by decide +kernel
theorem dL_alpha_2 : decode cL_alpha 2 = .ok (.iconst 0, 1) := by decide +kernel
theorem dL_alpha_3 : decode cL_alpha 3 = .ok (.aload_n 0, 1) := by decide +kernel
theorem dL_alpha_4 : decode cL_alpha 4 = .ok (.iload_n 1, 1) := by decide +kernel
theorem dL_alpha_5 : decode cL_alpha 5 = .ok (.iload_n 2, 1) := by decide +kernel
theorem dL_alpha_6 : decode cL_alpha 6 = .ok (.iload_n 3, 1) := by decide +kernel
theorem dL_alpha_7 : decode cL_alpha 7 = .ok (.invokevirtual 60, 3) := by decide +kernel
theorem dL_alpha_10 : decode cL_alpha 10 = .ok (.i2l, 1) := by decide +kernel
theorem dL_alpha_11 : decode cL_alpha 11 = .ok (.lastore, 1) := by decide +kernel
theorem dL_alpha_12 : decode cL_alpha 12 = .ok (.goto 11, 3) := by decide +kernel
theorem dL_alpha_15 : decode cL_alpha 15 = .ok (.astore 5, 2) := by decide +kernel
theorem dL_alpha_17 : decode cL_alpha 17 = .ok (.iconst 1, 1) := by decide +kernel
theorem dL_alpha_18 : decode cL_alpha 18 = .ok (.ireturn, 1) := by decide +kernel
theorem dL_alpha_19 : decode cL_alpha 19 = .ok (.astore 5, 2) := by decide +kernel
theorem dL_alpha_21 : decode cL_alpha 21 = .ok (.iconst 2, 1) := by decide +kernel
theorem dL_alpha_22 : decode cL_alpha 22 = .ok (.ireturn, 1) := by decide +kernel
theorem dL_alpha_23 : decode cL_alpha 23 = .ok (.iconst 0, 1) := by decide +kernel
theorem dL_alpha_24 : decode cL_alpha 24 = .ok (.ireturn, 1) := by decide +kernel
theorem dL_paper_0 : decode cL_paper 0 = .ok (.aload 4, 2) := by decide +kernel
theorem dL_paper_2 : decode cL_paper 2 = .ok (.iconst 0, 1) := by decide +kernel
theorem dL_paper_3 : decode cL_paper 3 = .ok (.aload_n 0, 1) := by decide +kernel
theorem dL_paper_4 : decode cL_paper 4 = .ok (.iload_n 1, 1) := by decide +kernel
theorem dL_paper_5 : decode cL_paper 5 = .ok (.iload_n 2, 1) := by decide +kernel
theorem dL_paper_6 : decode cL_paper 6 = .ok (.iload_n 3, 1) := by decide +kernel
theorem dL_paper_7 : decode cL_paper 7 = .ok (.invokevirtual 63, 3) := by decide +kernel
theorem dL_paper_10 : decode cL_paper 10 = .ok (.i2l, 1) := by decide +kernel
theorem dL_paper_11 : decode cL_paper 11 = .ok (.lastore, 1) := by decide +kernel
theorem dL_paper_12 : decode cL_paper 12 = .ok (.goto 7, 3) := by decide +kernel
theorem dL_paper_15 : decode cL_paper 15 = .ok (.astore 5, 2) := by decide +kernel
theorem dL_paper_17 : decode cL_paper 17 = .ok (.iconst 1, 1) := by decide +kernel
theorem dL_paper_18 : decode cL_paper 18 = .ok (.ireturn, 1) := by decide +kernel
theorem dL_paper_19 : decode cL_paper 19 = .ok (.iconst 0, 1) := by decide +kernel
theorem dL_paper_20 : decode cL_paper 20 = .ok (.ireturn, 1) := by decide +kernel
theorem dL_separable_0 : decode cL_separable 0 = .ok (.aload 4, 2) := by decide +kernel
theorem dL_separable_2 : decode cL_separable 2 = .ok (.iconst 0, 1) := by decide +kernel
theorem dL_separable_3 : decode cL_separable 3 = .ok (.aload_n 0, 1) := by decide +kernel
theorem dL_separable_4 : decode cL_separable 4 = .ok (.iload_n 1, 1) := by decide +kernel
theorem dL_separable_5 : decode cL_separable 5 = .ok (.iload_n 2, 1) := by decide +kernel
theorem dL_separable_6 : decode cL_separable 6 = .ok (.iload_n 3, 1) := by decide +kernel
theorem dL_separable_7 : decode cL_separable 7 = .ok (.invokevirtual 66, 3) := by decide +kernel
theorem dL_separable_10 : decode cL_separable 10 = .ok (.i2l, 1) := by decide +kernel
theorem dL_separable_11 : decode cL_separable 11 = .ok (.lastore, 1) := by decide +kernel
theorem dL_separable_12 : decode cL_separable 12 = .ok (.goto 7, 3) := by decide +kernel
theorem dL_separable_15 : decode cL_separable 15 = .ok (.astore 5, 2) := by decide +kernel
theorem dL_separable_17 : decode cL_separable 17 = .ok (.iconst 1, 1) := by decide +kernel
theorem dL_separable_18 : decode cL_separable 18 = .ok (.ireturn, 1) := by decide +kernel
theorem dL_separable_19 : decode cL_separable 19 = .ok (.iconst 0, 1) := by decide +kernel
theorem dL_separable_20 : decode cL_separable 20 = .ok (.ireturn, 1) := by decide +kernel
theorem dL_blend_0 : decode cL_blend 0 = .ok (.aload 4, 2) := by decide +kernel
theorem dL_blend_2 : decode cL_blend 2 = .ok (.iconst 0, 1) := by decide +kernel
theorem dL_blend_3 : decode cL_blend 3 = .ok (.aload_n 0, 1) := by decide +kernel
theorem dL_blend_4 : decode cL_blend 4 = .ok (.iload_n 1, 1) := by decide +kernel
theorem dL_blend_5 : decode cL_blend 5 = .ok (.iload_n 2, 1) := by decide +kernel
theorem dL_blend_6 : decode cL_blend 6 = .ok (.iload_n 3, 1) := by decide +kernel
theorem dL_blend_7 : decode cL_blend 7 = .ok (.invokevirtual 69, 3) := by decide +kernel
theorem dL_blend_10 : decode cL_blend 10 = .ok (.i2l, 1) := by decide +kernel
theorem dL_blend_11 : decode cL_blend 11 = .ok (.lastore, 1) := by decide +kernel
theorem dL_blend_12 : decode cL_blend 12 = .ok (.goto 7, 3) := by decide +kernel
theorem dL_blend_15 : decode cL_blend 15 = .ok (.astore 5, 2) := by decide +kernel
theorem dL_blend_17 : decode cL_blend 17 = .ok (.iconst 1, 1) := by decide +kernel
theorem dL_blend_18 : decode cL_blend 18 = .ok (.ireturn, 1) := by decide +kernel
theorem dL_blend_19 : decode cL_blend 19 = .ok (.iconst 0, 1) := by decide +kernel
theorem dL_blend_20 : decode cL_blend 20 = .ok (.ireturn, 1) := by decide +kernel
