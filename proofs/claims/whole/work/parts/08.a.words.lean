/-! 08: printed: words by their places, rooms, links -/
theorem inlX0 : ∀ w ∈ wsX00, w ∈ wsL_law := fun _ h => List.mem_append_left _ (List.mem_append_left _ (List.mem_append_left _ (List.mem_append_left _ (List.mem_append_left _ (List.mem_append_left _ (List.mem_append_right _ h))))))
theorem inlX1 : ∀ w ∈ wsX10, w ∈ wsL_law := fun _ h => List.mem_append_left _ (List.mem_append_left _ (List.mem_append_left _ (List.mem_append_left _ (List.mem_append_left _ (List.mem_append_left _ (List.mem_append_left _ (List.mem_append_left _ (List.mem_append_right _ h))))))))
theorem inlX2 : ∀ w ∈ wsX20, w ∈ wsL_law := fun _ h => List.mem_append_left _ (List.mem_append_left _ (List.mem_append_left _ (List.mem_append_left _ (List.mem_append_left _ (List.mem_append_right _ h)))))
theorem inlX3 : ∀ w ∈ wsX30, w ∈ wsL_law := fun _ h => List.mem_append_left _ (List.mem_append_left _ (List.mem_append_left _ (List.mem_append_left _ (List.mem_append_left _ (List.mem_append_left _ (List.mem_append_left _ (List.mem_append_right _ h)))))))
theorem inlX4 : ∀ w ∈ wsX40, w ∈ wsL_law := fun _ h => List.mem_append_left _ (List.mem_append_left _ (List.mem_append_left _ (List.mem_append_left _ (List.mem_append_left _ (List.mem_append_left _ (List.mem_append_left _ (List.mem_append_left _ (List.mem_append_left _ (List.mem_append_right _ h)))))))))
theorem inlX5 : ∀ w ∈ wsX50, w ∈ wsL_law := fun _ h => List.mem_append_left _ (List.mem_append_left _ (List.mem_append_left _ (List.mem_append_left _ (List.mem_append_right _ h))))
theorem inlX6 : ∀ w ∈ wsX60, w ∈ wsL_law := fun _ h => List.mem_append_left _ (List.mem_append_left _ (List.mem_append_left _ (List.mem_append_right _ h)))
theorem inlX7 : ∀ w ∈ wsX70, w ∈ wsL_law := fun _ h => List.mem_append_left _ (List.mem_append_left _ (List.mem_append_left _ (List.mem_append_left _ (List.mem_append_left _ (List.mem_append_left _ (List.mem_append_left _ (List.mem_append_left _ (List.mem_append_left _ (List.mem_append_left _ (List.mem_append_left _ (List.mem_append_right _ h)))))))))))
theorem inlX8 : ∀ w ∈ wsX80, w ∈ wsL_law := fun _ h => List.mem_append_left _ (List.mem_append_left _ (List.mem_append_right _ h))
theorem inlX9 : ∀ w ∈ wsX90, w ∈ wsL_law := fun _ h => List.mem_append_left _ (List.mem_append_left _ (List.mem_append_left _ (List.mem_append_left _ (List.mem_append_left _ (List.mem_append_left _ (List.mem_append_left _ (List.mem_append_left _ (List.mem_append_left _ (List.mem_append_left _ (List.mem_append_right _ h))))))))))
def wt_66 : List Cond := wsL_law0_r66
def wt_65 : List Cond := wsL_law0_r65 ++ wt_66
def wt_64 : List Cond := wsL_law0_r64 ++ wt_65
def wt_63 : List Cond := wsL_law0_r63 ++ wt_64
def wt_62 : List Cond := wsL_law0_r62 ++ wt_63
def wt_61 : List Cond := wsL_law0_r61 ++ wt_62
def wt_60 : List Cond := wsL_law0_r60 ++ wt_61
def wt_59 : List Cond := wsL_law0_r59 ++ wt_60
def wt_58 : List Cond := wsL_law0_r58 ++ wt_59
def wt_57 : List Cond := wsL_law0_r57 ++ wt_58
def wt_56 : List Cond := wsL_law0_r56 ++ wt_57
def wt_55 : List Cond := wsL_law0_r55 ++ wt_56
def wt_54 : List Cond := wsL_law0_r54 ++ wt_55
def wt_53 : List Cond := wsL_law0_r53 ++ wt_54
def wt_52 : List Cond := wsL_law0_r52 ++ wt_53
def wt_51 : List Cond := wsL_law0_r51 ++ wt_52
def wt_50 : List Cond := wsL_law0_r50 ++ wt_51
def wt_49 : List Cond := wsL_law0_r49 ++ wt_50
def wt_48 : List Cond := wsL_law0_r48 ++ wt_49
def wt_47 : List Cond := wsL_law0_r47 ++ wt_48
def wt_46 : List Cond := wsL_law0_r46 ++ wt_47
def wt_45 : List Cond := wsL_law0_r45 ++ wt_46
def wt_44 : List Cond := wsL_law0_r44 ++ wt_45
def wt_43 : List Cond := wsL_law0_r43 ++ wt_44
def wt_42 : List Cond := wsL_law0_r42 ++ wt_43
def wt_41 : List Cond := wsL_law0_r41 ++ wt_42
def wt_40 : List Cond := wsL_law0_r40 ++ wt_41
def wt_39 : List Cond := wsL_law0_r39 ++ wt_40
def wt_38 : List Cond := wsL_law0_r38 ++ wt_39
def wt_37 : List Cond := wsL_law0_r37 ++ wt_38
def wt_36 : List Cond := wsL_law0_r36 ++ wt_37
def wt_35 : List Cond := wsL_law0_r35 ++ wt_36
def wt_34 : List Cond := wsL_law0_r34 ++ wt_35
def wt_33 : List Cond := wsL_law0_r33 ++ wt_34
def wt_32 : List Cond := wsL_law0_r32 ++ wt_33
def wt_31 : List Cond := wsL_law0_r31 ++ wt_32
def wt_30 : List Cond := wsL_law0_r30 ++ wt_31
def wt_29 : List Cond := wsL_law0_r29 ++ wt_30
def wt_28 : List Cond := wsL_law0_r28 ++ wt_29
def wt_27 : List Cond := wsL_law0_r27 ++ wt_28
def wt_26 : List Cond := wsL_law0_r26 ++ wt_27
def wt_25 : List Cond := wsL_law0_r25 ++ wt_26
def wt_24 : List Cond := wsL_law0_r24 ++ wt_25
def wt_23 : List Cond := wsL_law0_r23 ++ wt_24
def wt_22 : List Cond := wsL_law0_r22 ++ wt_23
def wt_21 : List Cond := wsL_law0_r21 ++ wt_22
def wt_20 : List Cond := wsL_law0_r20 ++ wt_21
def wt_19 : List Cond := wsL_law0_r19 ++ wt_20
def wt_18 : List Cond := wsL_law0_r18 ++ wt_19
def wt_17 : List Cond := wsL_law0_r17 ++ wt_18
def wt_16 : List Cond := wsL_law0_r16 ++ wt_17
def wt_15 : List Cond := wsL_law0_r15 ++ wt_16
def wt_14 : List Cond := wsL_law0_r14 ++ wt_15
def wt_13 : List Cond := wsL_law0_r13 ++ wt_14
def wt_12 : List Cond := wsL_law0_r12 ++ wt_13
def wt_11 : List Cond := wsL_law0_r11 ++ wt_12
def wt_10 : List Cond := wsL_law0_r10 ++ wt_11
def wt_9 : List Cond := wsL_law0_r9 ++ wt_10
def wt_8 : List Cond := wsL_law0_r8 ++ wt_9
def wt_7 : List Cond := wsL_law0_r7 ++ wt_8
def wt_6 : List Cond := wsL_law0_r6 ++ wt_7
def wt_5 : List Cond := wsL_law0_r5 ++ wt_6
def wt_4 : List Cond := wsL_law0_r4 ++ wt_5
def wt_3 : List Cond := wsL_law0_r3 ++ wt_4
def wt_2 : List Cond := wsL_law0_r2 ++ wt_3
def wt_1 : List Cond := wsL_law0_r1 ++ wt_2
theorem st_1 : ∀ w ∈ wt_1, w ∈ wsL_law := fun w h => List.mem_append_left _ (List.mem_append_left _ (List.mem_append_left _ (List.mem_append_left _ (List.mem_append_left _ (List.mem_append_left _ (List.mem_append_left _ (List.mem_append_left _ (List.mem_append_left _ (List.mem_append_left _ (List.mem_append_left _ (List.mem_append_left _ (h))))))))))))
theorem st_2 : ∀ w ∈ wt_2, w ∈ wsL_law := fun w h => st_1 w (List.mem_append_right _ h)
theorem sr_1 : ∀ w ∈ wsL_law0_r1, w ∈ wsL_law := fun w h => st_1 w (List.mem_append_left _ h)
theorem st_3 : ∀ w ∈ wt_3, w ∈ wsL_law := fun w h => st_2 w (List.mem_append_right _ h)
theorem sr_2 : ∀ w ∈ wsL_law0_r2, w ∈ wsL_law := fun w h => st_2 w (List.mem_append_left _ h)
theorem st_4 : ∀ w ∈ wt_4, w ∈ wsL_law := fun w h => st_3 w (List.mem_append_right _ h)
theorem sr_3 : ∀ w ∈ wsL_law0_r3, w ∈ wsL_law := fun w h => st_3 w (List.mem_append_left _ h)
theorem st_5 : ∀ w ∈ wt_5, w ∈ wsL_law := fun w h => st_4 w (List.mem_append_right _ h)
theorem sr_4 : ∀ w ∈ wsL_law0_r4, w ∈ wsL_law := fun w h => st_4 w (List.mem_append_left _ h)
theorem st_6 : ∀ w ∈ wt_6, w ∈ wsL_law := fun w h => st_5 w (List.mem_append_right _ h)
theorem sr_5 : ∀ w ∈ wsL_law0_r5, w ∈ wsL_law := fun w h => st_5 w (List.mem_append_left _ h)
theorem st_7 : ∀ w ∈ wt_7, w ∈ wsL_law := fun w h => st_6 w (List.mem_append_right _ h)
theorem sr_6 : ∀ w ∈ wsL_law0_r6, w ∈ wsL_law := fun w h => st_6 w (List.mem_append_left _ h)
theorem st_8 : ∀ w ∈ wt_8, w ∈ wsL_law := fun w h => st_7 w (List.mem_append_right _ h)
theorem sr_7 : ∀ w ∈ wsL_law0_r7, w ∈ wsL_law := fun w h => st_7 w (List.mem_append_left _ h)
theorem st_9 : ∀ w ∈ wt_9, w ∈ wsL_law := fun w h => st_8 w (List.mem_append_right _ h)
theorem sr_8 : ∀ w ∈ wsL_law0_r8, w ∈ wsL_law := fun w h => st_8 w (List.mem_append_left _ h)
theorem st_10 : ∀ w ∈ wt_10, w ∈ wsL_law := fun w h => st_9 w (List.mem_append_right _ h)
theorem sr_9 : ∀ w ∈ wsL_law0_r9, w ∈ wsL_law := fun w h => st_9 w (List.mem_append_left _ h)
theorem st_11 : ∀ w ∈ wt_11, w ∈ wsL_law := fun w h => st_10 w (List.mem_append_right _ h)
theorem sr_10 : ∀ w ∈ wsL_law0_r10, w ∈ wsL_law := fun w h => st_10 w (List.mem_append_left _ h)
theorem st_12 : ∀ w ∈ wt_12, w ∈ wsL_law := fun w h => st_11 w (List.mem_append_right _ h)
theorem sr_11 : ∀ w ∈ wsL_law0_r11, w ∈ wsL_law := fun w h => st_11 w (List.mem_append_left _ h)
theorem st_13 : ∀ w ∈ wt_13, w ∈ wsL_law := fun w h => st_12 w (List.mem_append_right _ h)
theorem sr_12 : ∀ w ∈ wsL_law0_r12, w ∈ wsL_law := fun w h => st_12 w (List.mem_append_left _ h)
theorem st_14 : ∀ w ∈ wt_14, w ∈ wsL_law := fun w h => st_13 w (List.mem_append_right _ h)
theorem sr_13 : ∀ w ∈ wsL_law0_r13, w ∈ wsL_law := fun w h => st_13 w (List.mem_append_left _ h)
theorem st_15 : ∀ w ∈ wt_15, w ∈ wsL_law := fun w h => st_14 w (List.mem_append_right _ h)
theorem sr_14 : ∀ w ∈ wsL_law0_r14, w ∈ wsL_law := fun w h => st_14 w (List.mem_append_left _ h)
theorem st_16 : ∀ w ∈ wt_16, w ∈ wsL_law := fun w h => st_15 w (List.mem_append_right _ h)
theorem sr_15 : ∀ w ∈ wsL_law0_r15, w ∈ wsL_law := fun w h => st_15 w (List.mem_append_left _ h)
theorem st_17 : ∀ w ∈ wt_17, w ∈ wsL_law := fun w h => st_16 w (List.mem_append_right _ h)
theorem sr_16 : ∀ w ∈ wsL_law0_r16, w ∈ wsL_law := fun w h => st_16 w (List.mem_append_left _ h)
theorem st_18 : ∀ w ∈ wt_18, w ∈ wsL_law := fun w h => st_17 w (List.mem_append_right _ h)
theorem sr_17 : ∀ w ∈ wsL_law0_r17, w ∈ wsL_law := fun w h => st_17 w (List.mem_append_left _ h)
theorem st_19 : ∀ w ∈ wt_19, w ∈ wsL_law := fun w h => st_18 w (List.mem_append_right _ h)
theorem sr_18 : ∀ w ∈ wsL_law0_r18, w ∈ wsL_law := fun w h => st_18 w (List.mem_append_left _ h)
theorem st_20 : ∀ w ∈ wt_20, w ∈ wsL_law := fun w h => st_19 w (List.mem_append_right _ h)
theorem sr_19 : ∀ w ∈ wsL_law0_r19, w ∈ wsL_law := fun w h => st_19 w (List.mem_append_left _ h)
theorem st_21 : ∀ w ∈ wt_21, w ∈ wsL_law := fun w h => st_20 w (List.mem_append_right _ h)
theorem sr_20 : ∀ w ∈ wsL_law0_r20, w ∈ wsL_law := fun w h => st_20 w (List.mem_append_left _ h)
theorem st_22 : ∀ w ∈ wt_22, w ∈ wsL_law := fun w h => st_21 w (List.mem_append_right _ h)
theorem sr_21 : ∀ w ∈ wsL_law0_r21, w ∈ wsL_law := fun w h => st_21 w (List.mem_append_left _ h)
theorem st_23 : ∀ w ∈ wt_23, w ∈ wsL_law := fun w h => st_22 w (List.mem_append_right _ h)
theorem sr_22 : ∀ w ∈ wsL_law0_r22, w ∈ wsL_law := fun w h => st_22 w (List.mem_append_left _ h)
theorem st_24 : ∀ w ∈ wt_24, w ∈ wsL_law := fun w h => st_23 w (List.mem_append_right _ h)
theorem sr_23 : ∀ w ∈ wsL_law0_r23, w ∈ wsL_law := fun w h => st_23 w (List.mem_append_left _ h)
theorem st_25 : ∀ w ∈ wt_25, w ∈ wsL_law := fun w h => st_24 w (List.mem_append_right _ h)
theorem sr_24 : ∀ w ∈ wsL_law0_r24, w ∈ wsL_law := fun w h => st_24 w (List.mem_append_left _ h)
theorem st_26 : ∀ w ∈ wt_26, w ∈ wsL_law := fun w h => st_25 w (List.mem_append_right _ h)
theorem sr_25 : ∀ w ∈ wsL_law0_r25, w ∈ wsL_law := fun w h => st_25 w (List.mem_append_left _ h)
theorem st_27 : ∀ w ∈ wt_27, w ∈ wsL_law := fun w h => st_26 w (List.mem_append_right _ h)
theorem sr_26 : ∀ w ∈ wsL_law0_r26, w ∈ wsL_law := fun w h => st_26 w (List.mem_append_left _ h)
theorem st_28 : ∀ w ∈ wt_28, w ∈ wsL_law := fun w h => st_27 w (List.mem_append_right _ h)
theorem sr_27 : ∀ w ∈ wsL_law0_r27, w ∈ wsL_law := fun w h => st_27 w (List.mem_append_left _ h)
theorem st_29 : ∀ w ∈ wt_29, w ∈ wsL_law := fun w h => st_28 w (List.mem_append_right _ h)
theorem sr_28 : ∀ w ∈ wsL_law0_r28, w ∈ wsL_law := fun w h => st_28 w (List.mem_append_left _ h)
theorem st_30 : ∀ w ∈ wt_30, w ∈ wsL_law := fun w h => st_29 w (List.mem_append_right _ h)
theorem sr_29 : ∀ w ∈ wsL_law0_r29, w ∈ wsL_law := fun w h => st_29 w (List.mem_append_left _ h)
theorem st_31 : ∀ w ∈ wt_31, w ∈ wsL_law := fun w h => st_30 w (List.mem_append_right _ h)
theorem sr_30 : ∀ w ∈ wsL_law0_r30, w ∈ wsL_law := fun w h => st_30 w (List.mem_append_left _ h)
theorem st_32 : ∀ w ∈ wt_32, w ∈ wsL_law := fun w h => st_31 w (List.mem_append_right _ h)
theorem sr_31 : ∀ w ∈ wsL_law0_r31, w ∈ wsL_law := fun w h => st_31 w (List.mem_append_left _ h)
theorem st_33 : ∀ w ∈ wt_33, w ∈ wsL_law := fun w h => st_32 w (List.mem_append_right _ h)
theorem sr_32 : ∀ w ∈ wsL_law0_r32, w ∈ wsL_law := fun w h => st_32 w (List.mem_append_left _ h)
theorem st_34 : ∀ w ∈ wt_34, w ∈ wsL_law := fun w h => st_33 w (List.mem_append_right _ h)
theorem sr_33 : ∀ w ∈ wsL_law0_r33, w ∈ wsL_law := fun w h => st_33 w (List.mem_append_left _ h)
theorem st_35 : ∀ w ∈ wt_35, w ∈ wsL_law := fun w h => st_34 w (List.mem_append_right _ h)
theorem sr_34 : ∀ w ∈ wsL_law0_r34, w ∈ wsL_law := fun w h => st_34 w (List.mem_append_left _ h)
theorem st_36 : ∀ w ∈ wt_36, w ∈ wsL_law := fun w h => st_35 w (List.mem_append_right _ h)
theorem sr_35 : ∀ w ∈ wsL_law0_r35, w ∈ wsL_law := fun w h => st_35 w (List.mem_append_left _ h)
theorem st_37 : ∀ w ∈ wt_37, w ∈ wsL_law := fun w h => st_36 w (List.mem_append_right _ h)
theorem sr_36 : ∀ w ∈ wsL_law0_r36, w ∈ wsL_law := fun w h => st_36 w (List.mem_append_left _ h)
theorem st_38 : ∀ w ∈ wt_38, w ∈ wsL_law := fun w h => st_37 w (List.mem_append_right _ h)
theorem sr_37 : ∀ w ∈ wsL_law0_r37, w ∈ wsL_law := fun w h => st_37 w (List.mem_append_left _ h)
theorem st_39 : ∀ w ∈ wt_39, w ∈ wsL_law := fun w h => st_38 w (List.mem_append_right _ h)
theorem sr_38 : ∀ w ∈ wsL_law0_r38, w ∈ wsL_law := fun w h => st_38 w (List.mem_append_left _ h)
theorem st_40 : ∀ w ∈ wt_40, w ∈ wsL_law := fun w h => st_39 w (List.mem_append_right _ h)
theorem sr_39 : ∀ w ∈ wsL_law0_r39, w ∈ wsL_law := fun w h => st_39 w (List.mem_append_left _ h)
theorem st_41 : ∀ w ∈ wt_41, w ∈ wsL_law := fun w h => st_40 w (List.mem_append_right _ h)
theorem sr_40 : ∀ w ∈ wsL_law0_r40, w ∈ wsL_law := fun w h => st_40 w (List.mem_append_left _ h)
theorem st_42 : ∀ w ∈ wt_42, w ∈ wsL_law := fun w h => st_41 w (List.mem_append_right _ h)
theorem sr_41 : ∀ w ∈ wsL_law0_r41, w ∈ wsL_law := fun w h => st_41 w (List.mem_append_left _ h)
theorem st_43 : ∀ w ∈ wt_43, w ∈ wsL_law := fun w h => st_42 w (List.mem_append_right _ h)
theorem sr_42 : ∀ w ∈ wsL_law0_r42, w ∈ wsL_law := fun w h => st_42 w (List.mem_append_left _ h)
theorem st_44 : ∀ w ∈ wt_44, w ∈ wsL_law := fun w h => st_43 w (List.mem_append_right _ h)
theorem sr_43 : ∀ w ∈ wsL_law0_r43, w ∈ wsL_law := fun w h => st_43 w (List.mem_append_left _ h)
theorem st_45 : ∀ w ∈ wt_45, w ∈ wsL_law := fun w h => st_44 w (List.mem_append_right _ h)
theorem sr_44 : ∀ w ∈ wsL_law0_r44, w ∈ wsL_law := fun w h => st_44 w (List.mem_append_left _ h)
theorem st_46 : ∀ w ∈ wt_46, w ∈ wsL_law := fun w h => st_45 w (List.mem_append_right _ h)
theorem sr_45 : ∀ w ∈ wsL_law0_r45, w ∈ wsL_law := fun w h => st_45 w (List.mem_append_left _ h)
theorem st_47 : ∀ w ∈ wt_47, w ∈ wsL_law := fun w h => st_46 w (List.mem_append_right _ h)
theorem sr_46 : ∀ w ∈ wsL_law0_r46, w ∈ wsL_law := fun w h => st_46 w (List.mem_append_left _ h)
theorem st_48 : ∀ w ∈ wt_48, w ∈ wsL_law := fun w h => st_47 w (List.mem_append_right _ h)
theorem sr_47 : ∀ w ∈ wsL_law0_r47, w ∈ wsL_law := fun w h => st_47 w (List.mem_append_left _ h)
theorem st_49 : ∀ w ∈ wt_49, w ∈ wsL_law := fun w h => st_48 w (List.mem_append_right _ h)
theorem sr_48 : ∀ w ∈ wsL_law0_r48, w ∈ wsL_law := fun w h => st_48 w (List.mem_append_left _ h)
theorem st_50 : ∀ w ∈ wt_50, w ∈ wsL_law := fun w h => st_49 w (List.mem_append_right _ h)
theorem sr_49 : ∀ w ∈ wsL_law0_r49, w ∈ wsL_law := fun w h => st_49 w (List.mem_append_left _ h)
theorem st_51 : ∀ w ∈ wt_51, w ∈ wsL_law := fun w h => st_50 w (List.mem_append_right _ h)
theorem sr_50 : ∀ w ∈ wsL_law0_r50, w ∈ wsL_law := fun w h => st_50 w (List.mem_append_left _ h)
theorem st_52 : ∀ w ∈ wt_52, w ∈ wsL_law := fun w h => st_51 w (List.mem_append_right _ h)
theorem sr_51 : ∀ w ∈ wsL_law0_r51, w ∈ wsL_law := fun w h => st_51 w (List.mem_append_left _ h)
theorem st_53 : ∀ w ∈ wt_53, w ∈ wsL_law := fun w h => st_52 w (List.mem_append_right _ h)
theorem sr_52 : ∀ w ∈ wsL_law0_r52, w ∈ wsL_law := fun w h => st_52 w (List.mem_append_left _ h)
theorem st_54 : ∀ w ∈ wt_54, w ∈ wsL_law := fun w h => st_53 w (List.mem_append_right _ h)
theorem sr_53 : ∀ w ∈ wsL_law0_r53, w ∈ wsL_law := fun w h => st_53 w (List.mem_append_left _ h)
theorem st_55 : ∀ w ∈ wt_55, w ∈ wsL_law := fun w h => st_54 w (List.mem_append_right _ h)
theorem sr_54 : ∀ w ∈ wsL_law0_r54, w ∈ wsL_law := fun w h => st_54 w (List.mem_append_left _ h)
theorem st_56 : ∀ w ∈ wt_56, w ∈ wsL_law := fun w h => st_55 w (List.mem_append_right _ h)
theorem sr_55 : ∀ w ∈ wsL_law0_r55, w ∈ wsL_law := fun w h => st_55 w (List.mem_append_left _ h)
theorem st_57 : ∀ w ∈ wt_57, w ∈ wsL_law := fun w h => st_56 w (List.mem_append_right _ h)
theorem sr_56 : ∀ w ∈ wsL_law0_r56, w ∈ wsL_law := fun w h => st_56 w (List.mem_append_left _ h)
theorem st_58 : ∀ w ∈ wt_58, w ∈ wsL_law := fun w h => st_57 w (List.mem_append_right _ h)
theorem sr_57 : ∀ w ∈ wsL_law0_r57, w ∈ wsL_law := fun w h => st_57 w (List.mem_append_left _ h)
theorem st_59 : ∀ w ∈ wt_59, w ∈ wsL_law := fun w h => st_58 w (List.mem_append_right _ h)
theorem sr_58 : ∀ w ∈ wsL_law0_r58, w ∈ wsL_law := fun w h => st_58 w (List.mem_append_left _ h)
theorem st_60 : ∀ w ∈ wt_60, w ∈ wsL_law := fun w h => st_59 w (List.mem_append_right _ h)
theorem sr_59 : ∀ w ∈ wsL_law0_r59, w ∈ wsL_law := fun w h => st_59 w (List.mem_append_left _ h)
theorem st_61 : ∀ w ∈ wt_61, w ∈ wsL_law := fun w h => st_60 w (List.mem_append_right _ h)
theorem sr_60 : ∀ w ∈ wsL_law0_r60, w ∈ wsL_law := fun w h => st_60 w (List.mem_append_left _ h)
theorem st_62 : ∀ w ∈ wt_62, w ∈ wsL_law := fun w h => st_61 w (List.mem_append_right _ h)
theorem sr_61 : ∀ w ∈ wsL_law0_r61, w ∈ wsL_law := fun w h => st_61 w (List.mem_append_left _ h)
theorem st_63 : ∀ w ∈ wt_63, w ∈ wsL_law := fun w h => st_62 w (List.mem_append_right _ h)
theorem sr_62 : ∀ w ∈ wsL_law0_r62, w ∈ wsL_law := fun w h => st_62 w (List.mem_append_left _ h)
theorem st_64 : ∀ w ∈ wt_64, w ∈ wsL_law := fun w h => st_63 w (List.mem_append_right _ h)
theorem sr_63 : ∀ w ∈ wsL_law0_r63, w ∈ wsL_law := fun w h => st_63 w (List.mem_append_left _ h)
theorem st_65 : ∀ w ∈ wt_65, w ∈ wsL_law := fun w h => st_64 w (List.mem_append_right _ h)
theorem sr_64 : ∀ w ∈ wsL_law0_r64, w ∈ wsL_law := fun w h => st_64 w (List.mem_append_left _ h)
theorem st_66 : ∀ w ∈ wt_66, w ∈ wsL_law := fun w h => st_65 w (List.mem_append_right _ h)
theorem sr_65 : ∀ w ∈ wsL_law0_r65, w ∈ wsL_law := fun w h => st_65 w (List.mem_append_left _ h)
theorem sr_66 : ∀ w ∈ wsL_law0_r66, w ∈ wsL_law := st_66
theorem wm_0 : (.classLink RL 8 RX7 : Cond) ∈ wsL_law := sr_1 _ (List.mem_of_getElem? (i := 0) rfl)
theorem wm_1 : (.instantiable RX7 13 : Cond) ∈ wsL_law := sr_1 _ (List.mem_of_getElem? (i := 1) rfl)
theorem wm_2 : (.initialized RX7 : Cond) ∈ wsL_law := sr_1 _ (List.mem_of_getElem? (i := 2) rfl)
theorem wm_3 : (.classLink RL 16 RX9 : Cond) ∈ wsL_law := sr_1 _ (List.mem_of_getElem? (i := 3) rfl)
theorem wm_4 : (.instantiable RX9 29 : Cond) ∈ wsL_law := sr_1 _ (List.mem_of_getElem? (i := 4) rfl)
theorem wm_5 : (.initialized RX9 : Cond) ∈ wsL_law := sr_1 _ (List.mem_of_getElem? (i := 5) rfl)
theorem wm_6 : (.arrayClass .long : Cond) ∈ wsL_law := sr_1 _ (List.mem_of_getElem? (i := 6) rfl)
theorem wm_7 : (.methodLink RL 15 yX7_init : Cond) ∈ wsL_law := sr_1 _ (List.mem_of_getElem? (i := 7) rfl)
theorem wm_8 : (.instanceMethod yX7_init : Cond) ∈ wsL_law := sr_1 _ (List.mem_of_getElem? (i := 8) rfl)
theorem wm_9 : (.code yX7_init cX7_init 2 none : Cond) ∈ wsL_law := sr_1 _ (List.mem_of_getElem? (i := 9) rfl)
theorem wm_10 : (.methodLink RX7 1 objectInit : Cond) ∈ wsL_law := sr_1 _ (List.mem_of_getElem? (i := 10) rfl)
theorem wm_11 : (.instanceMethod objectInit : Cond) ∈ wsL_law := sr_1 _ (List.mem_of_getElem? (i := 11) rfl)
theorem wm_12 : (.code objectInit ⟨#[0xb1]⟩ 1 none : Cond) ∈ wsL_law := sr_1 _ (List.mem_of_getElem? (i := 12) rfl)
theorem wm_13 : (.classLink RX7 7 RX4 : Cond) ∈ wsL_law := sr_1 _ (List.mem_of_getElem? (i := 13) rfl)
theorem wm_14 : (.instantiable RX4 1 : Cond) ∈ wsL_law := sr_1 _ (List.mem_of_getElem? (i := 14) rfl)
theorem wm_15 : (.initialized RX4 : Cond) ∈ wsL_law := sr_1 _ (List.mem_of_getElem? (i := 15) rfl)
theorem wm_16 : (.fieldLink RX7 10 "TwoTrolleys" "teller" "LTwoTrolleys$Teller;" : Cond) ∈ wsL_law := sr_1 _ (List.mem_of_getElem? (i := 16) rfl)
theorem wm_17 : (.classLink RX7 16 RX1 : Cond) ∈ wsL_law := sr_1 _ (List.mem_of_getElem? (i := 17) rfl)
theorem wm_18 : (.instantiable RX1 5 : Cond) ∈ wsL_law := sr_1 _ (List.mem_of_getElem? (i := 18) rfl)
theorem wm_19 : (.initialized RX1 : Cond) ∈ wsL_law := sr_1 _ (List.mem_of_getElem? (i := 19) rfl)
theorem wm_20 : (.fieldLink RX7 19 "TwoTrolleys" "current" "LTwoTrolleys$Flight;" : Cond) ∈ wsL_law := sr_1 _ (List.mem_of_getElem? (i := 20) rfl)
theorem wm_21 : (.fieldLink RX7 23 "TwoTrolleys" "draft" "LTwoTrolleys$Flight;" : Cond) ∈ wsL_law := sr_1 _ (List.mem_of_getElem? (i := 21) rfl)
theorem wm_22 : (.classLink RX7 26 RX3 : Cond) ∈ wsL_law := sr_1 _ (List.mem_of_getElem? (i := 22) rfl)
theorem wm_23 : (.instantiable RX3 8 : Cond) ∈ wsL_law := sr_1 _ (List.mem_of_getElem? (i := 23) rfl)
theorem wm_24 : (.initialized RX3 : Cond) ∈ wsL_law := sr_2 _ (List.mem_of_getElem? (i := 0) rfl)
theorem wm_25 : (.fieldLink RX7 29 "TwoTrolleys" "run" "LTwoTrolleys$Run;" : Cond) ∈ wsL_law := sr_2 _ (List.mem_of_getElem? (i := 1) rfl)
theorem wm_26 : (.fieldLink RX7 33 "TwoTrolleys" "marks" "[LTwoTrolleys$Run;" : Cond) ∈ wsL_law := sr_2 _ (List.mem_of_getElem? (i := 2) rfl)
theorem wm_27 : (.classLink RX7 37 RX0 : Cond) ∈ wsL_law := sr_2 _ (List.mem_of_getElem? (i := 3) rfl)
theorem wm_28 : (.instantiable RX0 4 : Cond) ∈ wsL_law := sr_2 _ (List.mem_of_getElem? (i := 4) rfl)
theorem wm_29 : (.initialized RX0 : Cond) ∈ wsL_law := sr_2 _ (List.mem_of_getElem? (i := 5) rfl)
theorem wm_30 : (.fieldLink RX7 40 "TwoTrolleys" "drawers" "LTwoTrolleys$Drawers;" : Cond) ∈ wsL_law := sr_2 _ (List.mem_of_getElem? (i := 6) rfl)
theorem wm_31 : (.classLink RX7 44 RX2 : Cond) ∈ wsL_law := sr_2 _ (List.mem_of_getElem? (i := 7) rfl)
theorem wm_32 : (.instantiable RX2 1 : Cond) ∈ wsL_law := sr_2 _ (List.mem_of_getElem? (i := 8) rfl)
theorem wm_33 : (.initialized RX2 : Cond) ∈ wsL_law := sr_2 _ (List.mem_of_getElem? (i := 9) rfl)
theorem wm_34 : (.fieldLink RX7 47 "TwoTrolleys" "odds" "LTwoTrolleys$Odds;" : Cond) ∈ wsL_law := sr_2 _ (List.mem_of_getElem? (i := 10) rfl)
theorem wm_35 : (.classLink RX7 51 RX5 : Cond) ∈ wsL_law := sr_2 _ (List.mem_of_getElem? (i := 11) rfl)
theorem wm_36 : (.instantiable RX5 5 : Cond) ∈ wsL_law := sr_2 _ (List.mem_of_getElem? (i := 12) rfl)
theorem wm_37 : (.initialized RX5 : Cond) ∈ wsL_law := sr_2 _ (List.mem_of_getElem? (i := 13) rfl)
theorem wm_38 : (.fieldLink RX7 54 "TwoTrolleys" "box" "LTwoTrolleys$Till;" : Cond) ∈ wsL_law := sr_2 _ (List.mem_of_getElem? (i := 14) rfl)
theorem wm_39 : (.instanceMethod yX4_init : Cond) ∈ wsL_law := sr_2 _ (List.mem_of_getElem? (i := 15) rfl)
theorem wm_40 : (.code yX4_init cX4_init 1 none : Cond) ∈ wsL_law := sr_2 _ (List.mem_of_getElem? (i := 16) rfl)
theorem wm_41 : (.methodLink RX4 3 objectInit : Cond) ∈ wsL_law := sr_2 _ (List.mem_of_getElem? (i := 17) rfl)
theorem wm_42 : (.classLink RX4 9 RX6 : Cond) ∈ wsL_law := sr_2 _ (List.mem_of_getElem? (i := 18) rfl)
theorem wm_43 : (.instantiable RX6 13 : Cond) ∈ wsL_law := sr_2 _ (List.mem_of_getElem? (i := 19) rfl)
theorem wm_44 : (.initialized RX6 : Cond) ∈ wsL_law := sr_2 _ (List.mem_of_getElem? (i := 20) rfl)
theorem wm_45 : (.fieldLink RX4 12 "TwoTrolleys$Teller" "tokens" "LTwoTrolleys$Tokens;" : Cond) ∈ wsL_law := sr_2 _ (List.mem_of_getElem? (i := 21) rfl)
theorem wm_46 : (.instanceMethod yX6_init : Cond) ∈ wsL_law := sr_2 _ (List.mem_of_getElem? (i := 22) rfl)
theorem wm_47 : (.code yX6_init cX6_init 1 none : Cond) ∈ wsL_law := sr_2 _ (List.mem_of_getElem? (i := 23) rfl)
theorem wm_48 : (.methodLink RX6 3 objectInit : Cond) ∈ wsL_law := sr_3 _ (List.mem_of_getElem? (i := 0) rfl)
theorem wm_49 : (.arrayClass .byte : Cond) ∈ wsL_law := sr_3 _ (List.mem_of_getElem? (i := 1) rfl)
theorem wm_50 : (.fieldLink RX6 9 "TwoTrolleys$Tokens" "bytes" "[B" : Cond) ∈ wsL_law := sr_3 _ (List.mem_of_getElem? (i := 2) rfl)
theorem wm_51 : (.fieldLink RX6 15 "TwoTrolleys$Tokens" "names" "[J" : Cond) ∈ wsL_law := sr_3 _ (List.mem_of_getElem? (i := 3) rfl)
theorem wm_52 : (.arrayClass .int : Cond) ∈ wsL_law := sr_3 _ (List.mem_of_getElem? (i := 4) rfl)
theorem wm_53 : (.fieldLink RX6 19 "TwoTrolleys$Tokens" "nameSorts" "[I" : Cond) ∈ wsL_law := sr_3 _ (List.mem_of_getElem? (i := 5) rfl)
theorem wm_54 : (.fieldLink RX6 23 "TwoTrolleys$Tokens" "nameNumbers" "[I" : Cond) ∈ wsL_law := sr_3 _ (List.mem_of_getElem? (i := 6) rfl)
theorem wm_55 : (.instanceMethod yX1_init : Cond) ∈ wsL_law := sr_3 _ (List.mem_of_getElem? (i := 7) rfl)
theorem wm_56 : (.code yX1_init cX1_init 1 none : Cond) ∈ wsL_law := sr_3 _ (List.mem_of_getElem? (i := 8) rfl)
theorem wm_57 : (.methodLink RX1 3 objectInit : Cond) ∈ wsL_law := sr_3 _ (List.mem_of_getElem? (i := 9) rfl)
theorem wm_58 : (.fieldLink RX1 9 "TwoTrolleys$Flight" "counts" "[I" : Cond) ∈ wsL_law := sr_3 _ (List.mem_of_getElem? (i := 10) rfl)
theorem wm_59 : (.fieldLink RX1 15 "TwoTrolleys$Flight" "told" "[I" : Cond) ∈ wsL_law := sr_3 _ (List.mem_of_getElem? (i := 11) rfl)
theorem wm_60 : (.fieldLink RX1 18 "TwoTrolleys$Flight" "blocks" "[I" : Cond) ∈ wsL_law := sr_3 _ (List.mem_of_getElem? (i := 12) rfl)
theorem wm_61 : (.fieldLink RX1 21 "TwoTrolleys$Flight" "sitters" "[I" : Cond) ∈ wsL_law := sr_3 _ (List.mem_of_getElem? (i := 13) rfl)
theorem wm_62 : (.fieldLink RX1 24 "TwoTrolleys$Flight" "loads" "[I" : Cond) ∈ wsL_law := sr_3 _ (List.mem_of_getElem? (i := 14) rfl)
theorem wm_63 : (.instanceMethod yX3_init : Cond) ∈ wsL_law := sr_3 _ (List.mem_of_getElem? (i := 15) rfl)
theorem wm_64 : (.code yX3_init cX3_init 1 none : Cond) ∈ wsL_law := sr_3 _ (List.mem_of_getElem? (i := 16) rfl)
theorem wm_65 : (.methodLink RX3 3 objectInit : Cond) ∈ wsL_law := sr_3 _ (List.mem_of_getElem? (i := 17) rfl)
theorem wm_66 : (.fieldLink RX3 9 "TwoTrolleys$Run" "spent" "[I" : Cond) ∈ wsL_law := sr_3 _ (List.mem_of_getElem? (i := 18) rfl)
theorem wm_67 : (.fieldLink RX3 15 "TwoTrolleys$Run" "stock" "[I" : Cond) ∈ wsL_law := sr_3 _ (List.mem_of_getElem? (i := 19) rfl)
theorem wm_68 : (.fieldLink RX3 18 "TwoTrolleys$Run" "facts" "[I" : Cond) ∈ wsL_law := sr_3 _ (List.mem_of_getElem? (i := 20) rfl)
theorem wm_69 : (.fieldLink RX3 21 "TwoTrolleys$Run" "gotIt" "[I" : Cond) ∈ wsL_law := sr_3 _ (List.mem_of_getElem? (i := 21) rfl)
theorem wm_70 : (.fieldLink RX3 24 "TwoTrolleys$Run" "low" "I" : Cond) ∈ wsL_law := sr_3 _ (List.mem_of_getElem? (i := 22) rfl)
theorem wm_71 : (.instanceMethod yX0_init : Cond) ∈ wsL_law := sr_3 _ (List.mem_of_getElem? (i := 23) rfl)
theorem wm_72 : (.code yX0_init cX0_init 1 none : Cond) ∈ wsL_law := sr_4 _ (List.mem_of_getElem? (i := 0) rfl)
theorem wm_73 : (.methodLink RX0 3 objectInit : Cond) ∈ wsL_law := sr_4 _ (List.mem_of_getElem? (i := 1) rfl)
theorem wm_74 : (.fieldLink RX0 9 "TwoTrolleys$Drawers" "rooms" "[I" : Cond) ∈ wsL_law := sr_4 _ (List.mem_of_getElem? (i := 2) rfl)
theorem wm_75 : (.fieldLink RX0 15 "TwoTrolleys$Drawers" "wanted" "[I" : Cond) ∈ wsL_law := sr_4 _ (List.mem_of_getElem? (i := 3) rfl)
theorem wm_76 : (.fieldLink RX0 18 "TwoTrolleys$Drawers" "best" "[I" : Cond) ∈ wsL_law := sr_4 _ (List.mem_of_getElem? (i := 4) rfl)
theorem wm_77 : (.instanceMethod yX2_init : Cond) ∈ wsL_law := sr_4 _ (List.mem_of_getElem? (i := 5) rfl)
theorem wm_78 : (.code yX2_init cX2_init 1 none : Cond) ∈ wsL_law := sr_4 _ (List.mem_of_getElem? (i := 6) rfl)
theorem wm_79 : (.methodLink RX2 3 objectInit : Cond) ∈ wsL_law := sr_4 _ (List.mem_of_getElem? (i := 7) rfl)
theorem wm_80 : (.fieldLink RX2 11 "TwoTrolleys$Odds" "waysWith" "[J" : Cond) ∈ wsL_law := sr_4 _ (List.mem_of_getElem? (i := 8) rfl)
theorem wm_81 : (.instanceMethod yX5_init : Cond) ∈ wsL_law := sr_4 _ (List.mem_of_getElem? (i := 9) rfl)
theorem wm_82 : (.code yX5_init cX5_init 1 none : Cond) ∈ wsL_law := sr_4 _ (List.mem_of_getElem? (i := 10) rfl)
theorem wm_83 : (.methodLink RX5 3 objectInit : Cond) ∈ wsL_law := sr_4 _ (List.mem_of_getElem? (i := 11) rfl)
theorem wm_84 : (.fieldLink RX5 9 "TwoTrolleys$Till" "stock" "[I" : Cond) ∈ wsL_law := sr_4 _ (List.mem_of_getElem? (i := 12) rfl)
theorem wm_85 : (.fieldLink RX5 15 "TwoTrolleys$Till" "returned" "[I" : Cond) ∈ wsL_law := sr_4 _ (List.mem_of_getElem? (i := 13) rfl)
theorem wm_87 : (.fieldLink RX5 20 "TwoTrolleys$Till" "fewestCoins" "[[I" : Cond) ∈ wsL_law := sr_4 _ (List.mem_of_getElem? (i := 15) rfl)
theorem wm_88 : (.fieldLink RX5 23 "TwoTrolleys$Till" "waysFor" "[I" : Cond) ∈ wsL_law := sr_4 _ (List.mem_of_getElem? (i := 16) rfl)
theorem wm_89 : (.methodLink RL 18 yX9_init : Cond) ∈ wsL_law := sr_4 _ (List.mem_of_getElem? (i := 17) rfl)
theorem wm_90 : (.instanceMethod yX9_init : Cond) ∈ wsL_law := sr_4 _ (List.mem_of_getElem? (i := 18) rfl)
theorem wm_91 : (.code yX9_init cX9_init 1 none : Cond) ∈ wsL_law := sr_4 _ (List.mem_of_getElem? (i := 19) rfl)
theorem wm_92 : (.methodLink RX9 3 objectInit : Cond) ∈ wsL_law := sr_4 _ (List.mem_of_getElem? (i := 20) rfl)
theorem wm_93 : (.fieldLink RX9 9 "TwoTrolleysModel" "where" "I" : Cond) ∈ wsL_law := sr_4 _ (List.mem_of_getElem? (i := 21) rfl)
theorem wm_94 : (.fieldLink RX9 13 "TwoTrolleysModel" "tape" "[B" : Cond) ∈ wsL_law := sr_4 _ (List.mem_of_getElem? (i := 22) rfl)
theorem wm_95 : (.fieldLink RX9 17 "TwoTrolleysModel" "drawerLeft" "[I" : Cond) ∈ wsL_law := sr_4 _ (List.mem_of_getElem? (i := 23) rfl)
theorem wm_96 : (.fieldLink RX9 21 "TwoTrolleysModel" "run" "[I" : Cond) ∈ wsL_law := sr_5 _ (List.mem_of_getElem? (i := 0) rfl)
theorem wm_97 : (.fieldLink RX9 24 "TwoTrolleysModel" "kept" "[I" : Cond) ∈ wsL_law := sr_5 _ (List.mem_of_getElem? (i := 1) rfl)
theorem wm_98 : (.fieldLink RX9 27 "TwoTrolleysModel" "liking" "[J" : Cond) ∈ wsL_law := sr_5 _ (List.mem_of_getElem? (i := 2) rfl)
theorem wm_99 : (.fieldLink RX9 31 "TwoTrolleysModel" "packs" "[I" : Cond) ∈ wsL_law := sr_5 _ (List.mem_of_getElem? (i := 3) rfl)
theorem wm_100 : (.fieldLink RX9 34 "TwoTrolleysModel" "many" "[I" : Cond) ∈ wsL_law := sr_5 _ (List.mem_of_getElem? (i := 4) rfl)
theorem wm_101 : (.fieldLink RX9 37 "TwoTrolleysModel" "till" "[I" : Cond) ∈ wsL_law := sr_5 _ (List.mem_of_getElem? (i := 5) rfl)
theorem wm_102 : (.fieldLink RX9 40 "TwoTrolleysModel" "given" "[I" : Cond) ∈ wsL_law := sr_5 _ (List.mem_of_getElem? (i := 6) rfl)
theorem wm_103 : (.fieldLink RX9 43 "TwoTrolleysModel" "giving" "[I" : Cond) ∈ wsL_law := sr_5 _ (List.mem_of_getElem? (i := 7) rfl)
theorem wm_104 : (.fieldLink RX9 46 "TwoTrolleysModel" "fewestCoins" "[I" : Cond) ∈ wsL_law := sr_5 _ (List.mem_of_getElem? (i := 8) rfl)
theorem wm_105 : (.fieldLink RX9 49 "TwoTrolleysModel" "changes" "[I" : Cond) ∈ wsL_law := sr_5 _ (List.mem_of_getElem? (i := 9) rfl)
theorem wm_106 : (.methodLink RL 19 yX7_feed : Cond) ∈ wsL_law := sr_5 _ (List.mem_of_getElem? (i := 10) rfl)
theorem wm_107 : (.instanceMethod yX7_feed : Cond) ∈ wsL_law := sr_5 _ (List.mem_of_getElem? (i := 11) rfl)
theorem wm_108 : (.selects RX7 yX7_feed yX7_feed : Cond) ∈ wsL_law := sr_5 _ (List.mem_of_getElem? (i := 12) rfl)
theorem wm_109 : (.code yX7_feed cX7_feed 6 (some .int) : Cond) ∈ wsL_law := sr_5 _ (List.mem_of_getElem? (i := 13) rfl)
theorem wm_110 : (.fieldLink RX7 58 "TwoTrolleys" "tapeLength" "I" : Cond) ∈ wsL_law := sr_5 _ (List.mem_of_getElem? (i := 14) rfl)
theorem wm_111 : (.methodLink RX7 62 yX4_write : Cond) ∈ wsL_law := sr_5 _ (List.mem_of_getElem? (i := 15) rfl)
theorem wm_112 : (.instanceMethod yX4_write : Cond) ∈ wsL_law := sr_5 _ (List.mem_of_getElem? (i := 16) rfl)
theorem wm_113 : (.selects RX4 yX4_write yX4_write : Cond) ∈ wsL_law := sr_5 _ (List.mem_of_getElem? (i := 17) rfl)
theorem wm_114 : (.code yX4_write cX4_write 3 none : Cond) ∈ wsL_law := sr_5 _ (List.mem_of_getElem? (i := 18) rfl)
theorem wm_115 : (.methodLink RX4 18 yX6_write : Cond) ∈ wsL_law := sr_5 _ (List.mem_of_getElem? (i := 19) rfl)
theorem wm_116 : (.instanceMethod yX6_write : Cond) ∈ wsL_law := sr_5 _ (List.mem_of_getElem? (i := 20) rfl)
theorem wm_117 : (.selects RX6 yX6_write yX6_write : Cond) ∈ wsL_law := sr_5 _ (List.mem_of_getElem? (i := 21) rfl)
theorem wm_118 : (.code yX6_write cX6_write 4 none : Cond) ∈ wsL_law := sr_5 _ (List.mem_of_getElem? (i := 22) rfl)
theorem wm_119 : (.methodLink RL 23 yX9_feed : Cond) ∈ wsL_law := sr_5 _ (List.mem_of_getElem? (i := 23) rfl)
theorem wm_120 : (.instanceMethod yX9_feed : Cond) ∈ wsL_law := sr_6 _ (List.mem_of_getElem? (i := 0) rfl)
theorem wm_121 : (.selects RX9 yX9_feed yX9_feed : Cond) ∈ wsL_law := sr_6 _ (List.mem_of_getElem? (i := 1) rfl)
theorem wm_122 : (.code yX9_feed cX9_feed 8 (some .int) : Cond) ∈ wsL_law := sr_6 _ (List.mem_of_getElem? (i := 2) rfl)
theorem wm_123 : (.fieldLink RX9 52 "TwoTrolleysModel" "thrown" "I" : Cond) ∈ wsL_law := sr_6 _ (List.mem_of_getElem? (i := 3) rfl)
theorem wm_124 : (.fieldLink RX9 418 "TwoTrolleysModel" "taped" "I" : Cond) ∈ wsL_law := sr_6 _ (List.mem_of_getElem? (i := 4) rfl)
theorem wm_125 : (.methodLink RL 24 yX7_flight : Cond) ∈ wsL_law := sr_6 _ (List.mem_of_getElem? (i := 5) rfl)
theorem wm_126 : (.instanceMethod yX7_flight : Cond) ∈ wsL_law := sr_6 _ (List.mem_of_getElem? (i := 6) rfl)
theorem wm_127 : (.selects RX7 yX7_flight yX7_flight : Cond) ∈ wsL_law := sr_6 _ (List.mem_of_getElem? (i := 7) rfl)
theorem wm_128 : (.code yX7_flight cX7_flight 3 (some .int) : Cond) ∈ wsL_law := sr_6 _ (List.mem_of_getElem? (i := 8) rfl)
theorem wm_129 : (.fieldLink RX7 74 "TwoTrolleys" "latestFault" "I" : Cond) ∈ wsL_law := sr_6 _ (List.mem_of_getElem? (i := 9) rfl)
theorem wm_130 : (.fieldLink RX7 81 "TwoTrolleys" "faultPlace" "I" : Cond) ∈ wsL_law := sr_6 _ (List.mem_of_getElem? (i := 10) rfl)
theorem wm_131 : (.fieldLink RX7 87 "TwoTrolleys" "markCount" "I" : Cond) ∈ wsL_law := sr_6 _ (List.mem_of_getElem? (i := 11) rfl)
theorem wm_132 : (.methodLink RX7 66 yX7_refuse : Cond) ∈ wsL_law := sr_6 _ (List.mem_of_getElem? (i := 12) rfl)
theorem wm_133 : (.instanceMethod yX7_refuse : Cond) ∈ wsL_law := sr_6 _ (List.mem_of_getElem? (i := 13) rfl)
theorem wm_134 : (.selects RX7 yX7_refuse yX7_refuse : Cond) ∈ wsL_law := sr_6 _ (List.mem_of_getElem? (i := 14) rfl)
theorem wm_135 : (.code yX7_refuse cX7_refuse 2 (some .int) : Cond) ∈ wsL_law := sr_6 _ (List.mem_of_getElem? (i := 15) rfl)
theorem wm_136 : (.fieldLink RX7 96 "TwoTrolleys" "latestTrouble" "I" : Cond) ∈ wsL_law := sr_6 _ (List.mem_of_getElem? (i := 16) rfl)
theorem wm_137 : (.methodLink RX7 70 yX4_read : Cond) ∈ wsL_law := sr_6 _ (List.mem_of_getElem? (i := 17) rfl)
theorem wm_138 : (.instanceMethod yX4_read : Cond) ∈ wsL_law := sr_6 _ (List.mem_of_getElem? (i := 18) rfl)
theorem wm_139 : (.selects RX4 yX4_read yX4_read : Cond) ∈ wsL_law := sr_6 _ (List.mem_of_getElem? (i := 19) rfl)
theorem wm_140 : (.code yX4_read cX4_read 4 (some .int) : Cond) ∈ wsL_law := sr_6 _ (List.mem_of_getElem? (i := 20) rfl)
theorem wm_141 : (.methodLink RX4 26 yX1_forget : Cond) ∈ wsL_law := sr_6 _ (List.mem_of_getElem? (i := 21) rfl)
theorem wm_142 : (.instanceMethod yX1_forget : Cond) ∈ wsL_law := sr_6 _ (List.mem_of_getElem? (i := 22) rfl)
theorem wm_143 : (.selects RX1 yX1_forget yX1_forget : Cond) ∈ wsL_law := sr_6 _ (List.mem_of_getElem? (i := 23) rfl)
theorem wm_144 : (.code yX1_forget cX1_forget 1 none : Cond) ∈ wsL_law := sr_7 _ (List.mem_of_getElem? (i := 0) rfl)
theorem wm_145 : (.methodLink RX1 27 yJ7_fill_53178 : Cond) ∈ wsL_law := sr_7 _ (List.mem_of_getElem? (i := 1) rfl)
theorem wm_146 : (.static yJ7_fill_53178 : Cond) ∈ wsL_law := sr_7 _ (List.mem_of_getElem? (i := 2) rfl)
theorem wm_147 : (.initialized RJ7 : Cond) ∈ wsL_law := sr_7 _ (List.mem_of_getElem? (i := 3) rfl)
theorem wm_148 : (.code yJ7_fill_53178 cJ7_fill_53178 4 none : Cond) ∈ wsL_law := sr_7 _ (List.mem_of_getElem? (i := 4) rfl)
theorem wm_149 : (.methodLink RX4 31 yX6_begin : Cond) ∈ wsL_law := sr_7 _ (List.mem_of_getElem? (i := 5) rfl)
theorem wm_150 : (.instanceMethod yX6_begin : Cond) ∈ wsL_law := sr_7 _ (List.mem_of_getElem? (i := 6) rfl)
theorem wm_151 : (.selects RX6 yX6_begin yX6_begin : Cond) ∈ wsL_law := sr_7 _ (List.mem_of_getElem? (i := 7) rfl)
theorem wm_152 : (.code yX6_begin cX6_begin 2 none : Cond) ∈ wsL_law := sr_7 _ (List.mem_of_getElem? (i := 8) rfl)
theorem wm_153 : (.methodLink RX6 26 Lib.Math.min.name : Cond) ∈ wsL_law := sr_7 _ (List.mem_of_getElem? (i := 9) rfl)
theorem wm_154 : (.static Lib.Math.min.name : Cond) ∈ wsL_law := sr_7 _ (List.mem_of_getElem? (i := 10) rfl)
theorem wm_155 : (.initialized "java/lang/Math" : Cond) ∈ wsL_law := sr_7 _ (List.mem_of_getElem? (i := 11) rfl)
theorem wm_156 : (.code Lib.Math.min.name Lib.Math.min.code 2 (some .int) : Cond) ∈ wsL_law := sr_7 _ (List.mem_of_getElem? (i := 12) rfl)
theorem wm_157 : (.fieldLink RX6 32 "TwoTrolleys$Tokens" "end" "I" : Cond) ∈ wsL_law := sr_7 _ (List.mem_of_getElem? (i := 13) rfl)
theorem wm_158 : (.fieldLink RX6 36 "TwoTrolleys$Tokens" "to" "I" : Cond) ∈ wsL_law := sr_7 _ (List.mem_of_getElem? (i := 14) rfl)
theorem wm_159 : (.fieldLink RX6 39 "TwoTrolleys$Tokens" "fault" "I" : Cond) ∈ wsL_law := sr_7 _ (List.mem_of_getElem? (i := 15) rfl)
theorem wm_160 : (.fieldLink RX6 42 "TwoTrolleys$Tokens" "place" "I" : Cond) ∈ wsL_law := sr_7 _ (List.mem_of_getElem? (i := 16) rfl)
theorem wm_161 : (.fieldLink RX6 45 "TwoTrolleys$Tokens" "nameCount" "I" : Cond) ∈ wsL_law := sr_7 _ (List.mem_of_getElem? (i := 17) rfl)
theorem wm_162 : (.methodLink RX6 48 yX6_next : Cond) ∈ wsL_law := sr_7 _ (List.mem_of_getElem? (i := 18) rfl)
theorem wm_163 : (.instanceMethod yX6_next : Cond) ∈ wsL_law := sr_7 _ (List.mem_of_getElem? (i := 19) rfl)
theorem wm_164 : (.selects RX6 yX6_next yX6_next : Cond) ∈ wsL_law := sr_7 _ (List.mem_of_getElem? (i := 20) rfl)
theorem wm_165 : (.code yX6_next cX6_next 1 none : Cond) ∈ wsL_law := sr_7 _ (List.mem_of_getElem? (i := 21) rfl)
theorem wm_166 : (.fieldLink RX6 54 "TwoTrolleys$Tokens" "from" "I" : Cond) ∈ wsL_law := sr_7 _ (List.mem_of_getElem? (i := 22) rfl)
theorem wm_167 : (.fieldLink RX6 57 "TwoTrolleys$Tokens" "word" "J" : Cond) ∈ wsL_law := sr_7 _ (List.mem_of_getElem? (i := 23) rfl)
theorem wm_168 : (.fieldLink RX6 61 "TwoTrolleys$Tokens" "whole" "I" : Cond) ∈ wsL_law := sr_8 _ (List.mem_of_getElem? (i := 0) rfl)
theorem wm_169 : (.fieldLink RX6 51 "TwoTrolleys$Tokens" "sort" "I" : Cond) ∈ wsL_law := sr_8 _ (List.mem_of_getElem? (i := 1) rfl)
theorem wm_170 : (.methodLink RX4 35 yX6_isFine : Cond) ∈ wsL_law := sr_8 _ (List.mem_of_getElem? (i := 2) rfl)
theorem wm_171 : (.instanceMethod yX6_isFine : Cond) ∈ wsL_law := sr_8 _ (List.mem_of_getElem? (i := 3) rfl)
theorem wm_172 : (.selects RX6 yX6_isFine yX6_isFine : Cond) ∈ wsL_law := sr_8 _ (List.mem_of_getElem? (i := 4) rfl)
theorem wm_173 : (.code yX6_isFine cX6_isFine 1 (some .boolean) : Cond) ∈ wsL_law := sr_8 _ (List.mem_of_getElem? (i := 5) rfl)
theorem wm_174 : (.methodLink RX4 39 yX6_reserved : Cond) ∈ wsL_law := sr_8 _ (List.mem_of_getElem? (i := 6) rfl)
theorem wm_175 : (.instanceMethod yX6_reserved : Cond) ∈ wsL_law := sr_8 _ (List.mem_of_getElem? (i := 7) rfl)
theorem wm_176 : (.selects RX6 yX6_reserved yX6_reserved : Cond) ∈ wsL_law := sr_8 _ (List.mem_of_getElem? (i := 8) rfl)
theorem wm_177 : (.code yX6_reserved cX6_reserved 4 (some .int) : Cond) ∈ wsL_law := sr_8 _ (List.mem_of_getElem? (i := 9) rfl)
theorem wm_178 : (.methodLink RX6 64 yJ0_length_8abf5 : Cond) ∈ wsL_law := sr_8 _ (List.mem_of_getElem? (i := 10) rfl)
theorem wm_179 : (.instanceMethod yJ0_length_8abf5 : Cond) ∈ wsL_law := sr_8 _ (List.mem_of_getElem? (i := 11) rfl)
theorem wm_180 : (.selects RJ0 yJ0_length_8abf5 yJ0_length_8abf5 : Cond) ∈ wsL_law := sr_8 _ (List.mem_of_getElem? (i := 12) rfl)
theorem wm_181 : (.initialized RJ0 : Cond) ∈ wsL_law := sr_8 _ (List.mem_of_getElem? (i := 13) rfl)
theorem wm_182 : (.code yJ0_length_8abf5 cJ0_length_8abf5 1 (some .int) : Cond) ∈ wsL_law := sr_8 _ (List.mem_of_getElem? (i := 14) rfl)
theorem wm_183 : (.fieldLink RJ0 9 "java/lang/String" "value" "[B" : Cond) ∈ wsL_law := sr_8 _ (List.mem_of_getElem? (i := 15) rfl)
theorem wm_184 : (.methodLink RJ0 335 yJ0_coder_7d493 : Cond) ∈ wsL_law := sr_8 _ (List.mem_of_getElem? (i := 16) rfl)
theorem wm_185 : (.instanceMethod yJ0_coder_7d493 : Cond) ∈ wsL_law := sr_8 _ (List.mem_of_getElem? (i := 17) rfl)
theorem wm_186 : (.selects RJ0 yJ0_coder_7d493 yJ0_coder_7d493 : Cond) ∈ wsL_law := sr_8 _ (List.mem_of_getElem? (i := 18) rfl)
theorem wm_187 : (.code yJ0_coder_7d493 cJ0_coder_7d493 1 (some .byte) : Cond) ∈ wsL_law := sr_8 _ (List.mem_of_getElem? (i := 19) rfl)
theorem wm_188 : (.fieldLink RJ0 38 "java/lang/String" "COMPACT_STRINGS" "Z" : Cond) ∈ wsL_law := sr_8 _ (List.mem_of_getElem? (i := 20) rfl)
theorem wm_189 : (.fieldLink RJ0 15 "java/lang/String" "coder" "B" : Cond) ∈ wsL_law := sr_8 _ (List.mem_of_getElem? (i := 21) rfl)
theorem wm_190 : (.methodLink RX6 70 yJ0_charAt_5068e : Cond) ∈ wsL_law := sr_8 _ (List.mem_of_getElem? (i := 22) rfl)
theorem wm_191 : (.instanceMethod yJ0_charAt_5068e : Cond) ∈ wsL_law := sr_8 _ (List.mem_of_getElem? (i := 23) rfl)
theorem wm_192 : (.selects RJ0 yJ0_charAt_5068e yJ0_charAt_5068e : Cond) ∈ wsL_law := sr_9 _ (List.mem_of_getElem? (i := 0) rfl)
theorem wm_193 : (.code yJ0_charAt_5068e cJ0_charAt_5068e 2 (some .char) : Cond) ∈ wsL_law := sr_9 _ (List.mem_of_getElem? (i := 1) rfl)
theorem wm_194 : (.methodLink RJ0 492 yJ0_isLatin1_aae02 : Cond) ∈ wsL_law := sr_9 _ (List.mem_of_getElem? (i := 2) rfl)
theorem wm_195 : (.instanceMethod yJ0_isLatin1_aae02 : Cond) ∈ wsL_law := sr_9 _ (List.mem_of_getElem? (i := 3) rfl)
theorem wm_196 : (.selects RJ0 yJ0_isLatin1_aae02 yJ0_isLatin1_aae02 : Cond) ∈ wsL_law := sr_9 _ (List.mem_of_getElem? (i := 4) rfl)
theorem wm_197 : (.code yJ0_isLatin1_aae02 cJ0_isLatin1_aae02 1 (some .boolean) : Cond) ∈ wsL_law := sr_9 _ (List.mem_of_getElem? (i := 5) rfl)
theorem wm_198 : (.methodLink RJ0 495 yJ1_charAt_3b067 : Cond) ∈ wsL_law := sr_9 _ (List.mem_of_getElem? (i := 6) rfl)
theorem wm_199 : (.static yJ1_charAt_3b067 : Cond) ∈ wsL_law := sr_9 _ (List.mem_of_getElem? (i := 7) rfl)
theorem wm_200 : (.initialized RJ1 : Cond) ∈ wsL_law := sr_9 _ (List.mem_of_getElem? (i := 8) rfl)
theorem wm_201 : (.code yJ1_charAt_3b067 cJ1_charAt_3b067 2 (some .char) : Cond) ∈ wsL_law := sr_9 _ (List.mem_of_getElem? (i := 9) rfl)
theorem wm_202 : (.methodLink RJ1 9 yJ0_checkIndex_df160 : Cond) ∈ wsL_law := sr_9 _ (List.mem_of_getElem? (i := 10) rfl)
theorem wm_203 : (.static yJ0_checkIndex_df160 : Cond) ∈ wsL_law := sr_9 _ (List.mem_of_getElem? (i := 11) rfl)
theorem wm_204 : (.code yJ0_checkIndex_df160 cJ0_checkIndex_df160 2 none : Cond) ∈ wsL_law := sr_9 _ (List.mem_of_getElem? (i := 12) rfl)
theorem wm_205 : (.fieldLink RJ0 1053 "jdk/internal/util/Preconditions" "SIOOBE_FORMATTER" "Ljava/util/function/BiFunction;" : Cond) ∈ wsL_law := sr_9 _ (List.mem_of_getElem? (i := 13) rfl)
theorem wm_206 : (.methodLink RJ0 1059 yJ3_checkIndex_8e157 : Cond) ∈ wsL_law := sr_9 _ (List.mem_of_getElem? (i := 14) rfl)
theorem wm_207 : (.static yJ3_checkIndex_8e157 : Cond) ∈ wsL_law := sr_9 _ (List.mem_of_getElem? (i := 15) rfl)
theorem wm_208 : (.initialized RJ3 : Cond) ∈ wsL_law := sr_9 _ (List.mem_of_getElem? (i := 16) rfl)
theorem wm_209 : (.code yJ3_checkIndex_8e157 cJ3_checkIndex_8e157 3 (some .int) : Cond) ∈ wsL_law := sr_9 _ (List.mem_of_getElem? (i := 17) rfl)
theorem wm_210 : (.methodLink RJ0 498 yJ2_charAt_3b067 : Cond) ∈ wsL_law := sr_9 _ (List.mem_of_getElem? (i := 18) rfl)
theorem wm_211 : (.static yJ2_charAt_3b067 : Cond) ∈ wsL_law := sr_9 _ (List.mem_of_getElem? (i := 19) rfl)
theorem wm_212 : (.initialized RJ2 : Cond) ∈ wsL_law := sr_9 _ (List.mem_of_getElem? (i := 20) rfl)
theorem wm_213 : (.code yJ2_charAt_3b067 cJ2_charAt_3b067 2 (some .char) : Cond) ∈ wsL_law := sr_9 _ (List.mem_of_getElem? (i := 21) rfl)
theorem wm_214 : (.methodLink RJ2 67 yJ2_checkIndex_2214a : Cond) ∈ wsL_law := sr_9 _ (List.mem_of_getElem? (i := 22) rfl)
theorem wm_215 : (.static yJ2_checkIndex_2214a : Cond) ∈ wsL_law := sr_9 _ (List.mem_of_getElem? (i := 23) rfl)
theorem wm_216 : (.code yJ2_checkIndex_2214a cJ2_checkIndex_2214a 2 none : Cond) ∈ wsL_law := sr_10 _ (List.mem_of_getElem? (i := 0) rfl)
theorem wm_217 : (.methodLink RJ2 48 yJ2_length_9d52b : Cond) ∈ wsL_law := sr_10 _ (List.mem_of_getElem? (i := 1) rfl)
theorem wm_218 : (.static yJ2_length_9d52b : Cond) ∈ wsL_law := sr_10 _ (List.mem_of_getElem? (i := 2) rfl)
theorem wm_219 : (.code yJ2_length_9d52b cJ2_length_9d52b 1 (some .int) : Cond) ∈ wsL_law := sr_10 _ (List.mem_of_getElem? (i := 3) rfl)
theorem wm_220 : (.methodLink RJ2 414 yJ0_checkIndex_df160 : Cond) ∈ wsL_law := sr_10 _ (List.mem_of_getElem? (i := 4) rfl)
theorem wm_221 : (.methodLink RJ2 71 yJ2_getChar_3b067 : Cond) ∈ wsL_law := sr_10 _ (List.mem_of_getElem? (i := 5) rfl)
theorem wm_222 : (.static yJ2_getChar_3b067 : Cond) ∈ wsL_law := sr_10 _ (List.mem_of_getElem? (i := 6) rfl)
theorem wm_223 : (.code yJ2_getChar_3b067 cJ2_getChar_3b067 2 (some .char) : Cond) ∈ wsL_law := sr_10 _ (List.mem_of_getElem? (i := 7) rfl)
theorem wm_224 : (.fieldLink RJ2 44 "java/lang/StringUTF16" "$assertionsDisabled" "Z" : Cond) ∈ wsL_law := sr_10 _ (List.mem_of_getElem? (i := 8) rfl)
theorem wm_225 : (.fieldLink RJ2 59 "java/lang/StringUTF16" "HI_BYTE_SHIFT" "I" : Cond) ∈ wsL_law := sr_10 _ (List.mem_of_getElem? (i := 9) rfl)
theorem wm_226 : (.fieldLink RJ2 63 "java/lang/StringUTF16" "LO_BYTE_SHIFT" "I" : Cond) ∈ wsL_law := sr_10 _ (List.mem_of_getElem? (i := 10) rfl)
theorem wm_227 : (.methodLink RX4 42 yX4_tellLine : Cond) ∈ wsL_law := sr_10 _ (List.mem_of_getElem? (i := 11) rfl)
theorem wm_228 : (.instanceMethod yX4_tellLine : Cond) ∈ wsL_law := sr_10 _ (List.mem_of_getElem? (i := 12) rfl)
theorem wm_229 : (.selects RX4 yX4_tellLine yX4_tellLine : Cond) ∈ wsL_law := sr_10 _ (List.mem_of_getElem? (i := 13) rfl)
theorem wm_230 : (.code yX4_tellLine cX4_tellLine 3 none : Cond) ∈ wsL_law := sr_10 _ (List.mem_of_getElem? (i := 14) rfl)
theorem wm_231 : (.methodLink RX4 56 yX6_fail : Cond) ∈ wsL_law := sr_10 _ (List.mem_of_getElem? (i := 15) rfl)
theorem wm_232 : (.instanceMethod yX6_fail : Cond) ∈ wsL_law := sr_10 _ (List.mem_of_getElem? (i := 16) rfl)
theorem wm_233 : (.selects RX6 yX6_fail yX6_fail : Cond) ∈ wsL_law := sr_10 _ (List.mem_of_getElem? (i := 17) rfl)
theorem wm_234 : (.code yX6_fail cX6_fail 2 none : Cond) ∈ wsL_law := sr_10 _ (List.mem_of_getElem? (i := 18) rfl)
theorem wm_235 : (.methodLink RX4 65 yX1_isFull : Cond) ∈ wsL_law := sr_10 _ (List.mem_of_getElem? (i := 19) rfl)
theorem wm_236 : (.instanceMethod yX1_isFull : Cond) ∈ wsL_law := sr_10 _ (List.mem_of_getElem? (i := 20) rfl)
theorem wm_237 : (.selects RX1 yX1_isFull yX1_isFull : Cond) ∈ wsL_law := sr_10 _ (List.mem_of_getElem? (i := 21) rfl)
theorem wm_238 : (.code yX1_isFull cX1_isFull 2 (some .boolean) : Cond) ∈ wsL_law := sr_10 _ (List.mem_of_getElem? (i := 22) rfl)
theorem wm_239 : (.methodLink RX4 69 yX6_next : Cond) ∈ wsL_law := sr_10 _ (List.mem_of_getElem? (i := 23) rfl)
theorem wm_240 : (.methodLink RX4 72 yX1_open : Cond) ∈ wsL_law := sr_11 _ (List.mem_of_getElem? (i := 0) rfl)
theorem wm_241 : (.instanceMethod yX1_open : Cond) ∈ wsL_law := sr_11 _ (List.mem_of_getElem? (i := 1) rfl)
theorem wm_242 : (.selects RX1 yX1_open yX1_open : Cond) ∈ wsL_law := sr_11 _ (List.mem_of_getElem? (i := 2) rfl)
theorem wm_243 : (.code yX1_open cX1_open 3 none : Cond) ∈ wsL_law := sr_11 _ (List.mem_of_getElem? (i := 3) rfl)
theorem wm_244 : (.methodLink RX1 36 yX1_put : Cond) ∈ wsL_law := sr_11 _ (List.mem_of_getElem? (i := 4) rfl)
theorem wm_245 : (.instanceMethod yX1_put : Cond) ∈ wsL_law := sr_11 _ (List.mem_of_getElem? (i := 5) rfl)
theorem wm_246 : (.selects RX1 yX1_put yX1_put : Cond) ∈ wsL_law := sr_11 _ (List.mem_of_getElem? (i := 6) rfl)
theorem wm_247 : (.code yX1_put cX1_put 5 none : Cond) ∈ wsL_law := sr_11 _ (List.mem_of_getElem? (i := 7) rfl)
theorem wm_248 : (.methodLink RX4 75 yX1_count : Cond) ∈ wsL_law := sr_11 _ (List.mem_of_getElem? (i := 8) rfl)
theorem wm_249 : (.instanceMethod yX1_count : Cond) ∈ wsL_law := sr_11 _ (List.mem_of_getElem? (i := 9) rfl)
theorem wm_250 : (.selects RX1 yX1_count yX1_count : Cond) ∈ wsL_law := sr_11 _ (List.mem_of_getElem? (i := 10) rfl)
theorem wm_251 : (.code yX1_count cX1_count 2 (some .int) : Cond) ∈ wsL_law := sr_11 _ (List.mem_of_getElem? (i := 11) rfl)
theorem wm_252 : (.methodLink RX4 79 yX6_expectNewName : Cond) ∈ wsL_law := sr_11 _ (List.mem_of_getElem? (i := 12) rfl)
theorem wm_253 : (.instanceMethod yX6_expectNewName : Cond) ∈ wsL_law := sr_11 _ (List.mem_of_getElem? (i := 13) rfl)
theorem wm_254 : (.selects RX6 yX6_expectNewName yX6_expectNewName : Cond) ∈ wsL_law := sr_11 _ (List.mem_of_getElem? (i := 14) rfl)
theorem wm_255 : (.code yX6_expectNewName cX6_expectNewName 3 none : Cond) ∈ wsL_law := sr_11 _ (List.mem_of_getElem? (i := 15) rfl)
theorem wm_256 : (.methodLink RX6 88 yX6_reserved : Cond) ∈ wsL_law := sr_11 _ (List.mem_of_getElem? (i := 16) rfl)
theorem wm_257 : (.methodLink RX6 80 yX6_fail : Cond) ∈ wsL_law := sr_11 _ (List.mem_of_getElem? (i := 17) rfl)
theorem wm_258 : (.methodLink RX6 91 yX6_findName : Cond) ∈ wsL_law := sr_11 _ (List.mem_of_getElem? (i := 18) rfl)
theorem wm_259 : (.instanceMethod yX6_findName : Cond) ∈ wsL_law := sr_11 _ (List.mem_of_getElem? (i := 19) rfl)
theorem wm_260 : (.selects RX6 yX6_findName yX6_findName : Cond) ∈ wsL_law := sr_11 _ (List.mem_of_getElem? (i := 20) rfl)
theorem wm_261 : (.code yX6_findName cX6_findName 2 (some .int) : Cond) ∈ wsL_law := sr_11 _ (List.mem_of_getElem? (i := 21) rfl)
theorem wm_262 : (.methodLink RX4 82 yX4_tellNamedThing : Cond) ∈ wsL_law := sr_11 _ (List.mem_of_getElem? (i := 22) rfl)
theorem wm_263 : (.instanceMethod yX4_tellNamedThing : Cond) ∈ wsL_law := sr_11 _ (List.mem_of_getElem? (i := 23) rfl)
theorem wm_264 : (.selects RX4 yX4_tellNamedThing yX4_tellNamedThing : Cond) ∈ wsL_law := sr_12 _ (List.mem_of_getElem? (i := 0) rfl)
theorem wm_265 : (.code yX4_tellNamedThing cX4_tellNamedThing 3 none : Cond) ∈ wsL_law := sr_12 _ (List.mem_of_getElem? (i := 1) rfl)
theorem wm_266 : (.methodLink RX4 100 yX4_labelled : Cond) ∈ wsL_law := sr_12 _ (List.mem_of_getElem? (i := 2) rfl)
theorem wm_267 : (.instanceMethod yX4_labelled : Cond) ∈ wsL_law := sr_12 _ (List.mem_of_getElem? (i := 3) rfl)
theorem wm_268 : (.selects RX4 yX4_labelled yX4_labelled : Cond) ∈ wsL_law := sr_12 _ (List.mem_of_getElem? (i := 4) rfl)
theorem wm_269 : (.code yX4_labelled cX4_labelled 4 (some .int) : Cond) ∈ wsL_law := sr_12 _ (List.mem_of_getElem? (i := 5) rfl)
theorem wm_270 : (.methodLink RX4 142 yX6_expectWord : Cond) ∈ wsL_law := sr_12 _ (List.mem_of_getElem? (i := 6) rfl)
theorem wm_271 : (.instanceMethod yX6_expectWord : Cond) ∈ wsL_law := sr_12 _ (List.mem_of_getElem? (i := 7) rfl)
theorem wm_272 : (.selects RX6 yX6_expectWord yX6_expectWord : Cond) ∈ wsL_law := sr_12 _ (List.mem_of_getElem? (i := 8) rfl)
theorem wm_273 : (.code yX6_expectWord cX6_expectWord 2 none : Cond) ∈ wsL_law := sr_12 _ (List.mem_of_getElem? (i := 9) rfl)
theorem wm_274 : (.methodLink RX6 84 yX6_isWord : Cond) ∈ wsL_law := sr_12 _ (List.mem_of_getElem? (i := 10) rfl)
theorem wm_275 : (.instanceMethod yX6_isWord : Cond) ∈ wsL_law := sr_12 _ (List.mem_of_getElem? (i := 11) rfl)
theorem wm_276 : (.selects RX6 yX6_isWord yX6_isWord : Cond) ∈ wsL_law := sr_12 _ (List.mem_of_getElem? (i := 12) rfl)
theorem wm_277 : (.code yX6_isWord cX6_isWord 3 (some .boolean) : Cond) ∈ wsL_law := sr_12 _ (List.mem_of_getElem? (i := 13) rfl)
theorem wm_278 : (.methodLink RX4 116 yX6_expectWhole : Cond) ∈ wsL_law := sr_12 _ (List.mem_of_getElem? (i := 14) rfl)
theorem wm_279 : (.instanceMethod yX6_expectWhole : Cond) ∈ wsL_law := sr_12 _ (List.mem_of_getElem? (i := 15) rfl)
theorem wm_280 : (.selects RX6 yX6_expectWhole yX6_expectWhole : Cond) ∈ wsL_law := sr_12 _ (List.mem_of_getElem? (i := 16) rfl)
theorem wm_281 : (.code yX6_expectWhole cX6_expectWhole 4 (some .int) : Cond) ∈ wsL_law := sr_12 _ (List.mem_of_getElem? (i := 17) rfl)
theorem wm_282 : (.methodLink RX4 104 yX1_put : Cond) ∈ wsL_law := sr_12 _ (List.mem_of_getElem? (i := 18) rfl)
theorem wm_283 : (.methodLink RX4 130 yX4_trolleyEnd : Cond) ∈ wsL_law := sr_12 _ (List.mem_of_getElem? (i := 19) rfl)
theorem wm_284 : (.instanceMethod yX4_trolleyEnd : Cond) ∈ wsL_law := sr_12 _ (List.mem_of_getElem? (i := 20) rfl)
theorem wm_285 : (.selects RX4 yX4_trolleyEnd yX4_trolleyEnd : Cond) ∈ wsL_law := sr_12 _ (List.mem_of_getElem? (i := 21) rfl)
theorem wm_286 : (.code yX4_trolleyEnd cX4_trolleyEnd 3 (some .int) : Cond) ∈ wsL_law := sr_12 _ (List.mem_of_getElem? (i := 22) rfl)
theorem wm_287 : (.methodLink RX4 151 yX6_isWord : Cond) ∈ wsL_law := sr_12 _ (List.mem_of_getElem? (i := 23) rfl)
theorem wm_288 : (.methodLink RX4 190 yX1_hasTrolleyFrom : Cond) ∈ wsL_law := sr_13 _ (List.mem_of_getElem? (i := 0) rfl)
theorem wm_289 : (.instanceMethod yX1_hasTrolleyFrom : Cond) ∈ wsL_law := sr_13 _ (List.mem_of_getElem? (i := 1) rfl)
theorem wm_290 : (.selects RX1 yX1_hasTrolleyFrom yX1_hasTrolleyFrom : Cond) ∈ wsL_law := sr_13 _ (List.mem_of_getElem? (i := 2) rfl)
theorem wm_291 : (.code yX1_hasTrolleyFrom cX1_hasTrolleyFrom 3 (some .boolean) : Cond) ∈ wsL_law := sr_13 _ (List.mem_of_getElem? (i := 3) rfl)
theorem wm_292 : (.methodLink RX1 48 yX1_get : Cond) ∈ wsL_law := sr_13 _ (List.mem_of_getElem? (i := 4) rfl)
theorem wm_293 : (.instanceMethod yX1_get : Cond) ∈ wsL_law := sr_13 _ (List.mem_of_getElem? (i := 5) rfl)
theorem wm_294 : (.selects RX1 yX1_get yX1_get : Cond) ∈ wsL_law := sr_13 _ (List.mem_of_getElem? (i := 6) rfl)
theorem wm_295 : (.code yX1_get cX1_get 4 (some .int) : Cond) ∈ wsL_law := sr_13 _ (List.mem_of_getElem? (i := 7) rfl)
theorem wm_296 : (.methodLink RX4 146 yX6_expectName : Cond) ∈ wsL_law := sr_13 _ (List.mem_of_getElem? (i := 8) rfl)
theorem wm_297 : (.instanceMethod yX6_expectName : Cond) ∈ wsL_law := sr_13 _ (List.mem_of_getElem? (i := 9) rfl)
theorem wm_298 : (.selects RX6 yX6_expectName yX6_expectName : Cond) ∈ wsL_law := sr_13 _ (List.mem_of_getElem? (i := 10) rfl)
theorem wm_299 : (.code yX6_expectName cX6_expectName 3 (some .int) : Cond) ∈ wsL_law := sr_13 _ (List.mem_of_getElem? (i := 11) rfl)
theorem wm_300 : (.methodLink RX6 94 yX6_seeName : Cond) ∈ wsL_law := sr_13 _ (List.mem_of_getElem? (i := 12) rfl)
theorem wm_301 : (.instanceMethod yX6_seeName : Cond) ∈ wsL_law := sr_13 _ (List.mem_of_getElem? (i := 13) rfl)
theorem wm_302 : (.selects RX6 yX6_seeName yX6_seeName : Cond) ∈ wsL_law := sr_13 _ (List.mem_of_getElem? (i := 14) rfl)
theorem wm_303 : (.code yX6_seeName cX6_seeName 3 (some .int) : Cond) ∈ wsL_law := sr_13 _ (List.mem_of_getElem? (i := 15) rfl)
theorem wm_304 : (.methodLink RX4 85 yX4_tellOfNames : Cond) ∈ wsL_law := sr_13 _ (List.mem_of_getElem? (i := 16) rfl)
theorem wm_305 : (.instanceMethod yX4_tellOfNames : Cond) ∈ wsL_law := sr_13 _ (List.mem_of_getElem? (i := 17) rfl)
theorem wm_306 : (.selects RX4 yX4_tellOfNames yX4_tellOfNames : Cond) ∈ wsL_law := sr_13 _ (List.mem_of_getElem? (i := 18) rfl)
theorem wm_307 : (.code yX4_tellOfNames cX4_tellOfNames 4 none : Cond) ∈ wsL_law := sr_13 _ (List.mem_of_getElem? (i := 19) rfl)
theorem wm_308 : (.methodLink RX4 159 Lib.Math.max.name : Cond) ∈ wsL_law := sr_13 _ (List.mem_of_getElem? (i := 20) rfl)
theorem wm_309 : (.static Lib.Math.max.name : Cond) ∈ wsL_law := sr_13 _ (List.mem_of_getElem? (i := 21) rfl)
theorem wm_310 : (.code Lib.Math.max.name Lib.Math.max.code 2 (some .int) : Cond) ∈ wsL_law := sr_13 _ (List.mem_of_getElem? (i := 22) rfl)
theorem wm_311 : (.methodLink RX4 88 yX4_tellBlock : Cond) ∈ wsL_law := sr_13 _ (List.mem_of_getElem? (i := 23) rfl)
theorem wm_312 : (.instanceMethod yX4_tellBlock : Cond) ∈ wsL_law := sr_14 _ (List.mem_of_getElem? (i := 0) rfl)
theorem wm_313 : (.selects RX4 yX4_tellBlock yX4_tellBlock : Cond) ∈ wsL_law := sr_14 _ (List.mem_of_getElem? (i := 1) rfl)
theorem wm_314 : (.code yX4_tellBlock cX4_tellBlock 4 none : Cond) ∈ wsL_law := sr_14 _ (List.mem_of_getElem? (i := 2) rfl)
theorem wm_315 : (.methodLink RX4 170 yX4_tellLiking : Cond) ∈ wsL_law := sr_14 _ (List.mem_of_getElem? (i := 3) rfl)
theorem wm_316 : (.instanceMethod yX4_tellLiking : Cond) ∈ wsL_law := sr_14 _ (List.mem_of_getElem? (i := 4) rfl)
theorem wm_317 : (.selects RX4 yX4_tellLiking yX4_tellLiking : Cond) ∈ wsL_law := sr_14 _ (List.mem_of_getElem? (i := 5) rfl)
theorem wm_318 : (.code yX4_tellLiking cX4_tellLiking 4 none : Cond) ∈ wsL_law := sr_14 _ (List.mem_of_getElem? (i := 6) rfl)
theorem wm_319 : (.methodLink RX4 177 yX6_seeName : Cond) ∈ wsL_law := sr_14 _ (List.mem_of_getElem? (i := 7) rfl)
theorem wm_320 : (.methodLink RX4 180 yX1_weightIn : Cond) ∈ wsL_law := sr_14 _ (List.mem_of_getElem? (i := 8) rfl)
theorem wm_321 : (.instanceMethod yX1_weightIn : Cond) ∈ wsL_law := sr_14 _ (List.mem_of_getElem? (i := 9) rfl)
theorem wm_322 : (.selects RX1 yX1_weightIn yX1_weightIn : Cond) ∈ wsL_law := sr_14 _ (List.mem_of_getElem? (i := 10) rfl)
theorem wm_323 : (.code yX1_weightIn cX1_weightIn 5 (some .int) : Cond) ∈ wsL_law := sr_14 _ (List.mem_of_getElem? (i := 11) rfl)
theorem wm_324 : (.methodLink RX4 183 yX1_addLiking : Cond) ∈ wsL_law := sr_14 _ (List.mem_of_getElem? (i := 12) rfl)
theorem wm_325 : (.instanceMethod yX1_addLiking : Cond) ∈ wsL_law := sr_14 _ (List.mem_of_getElem? (i := 13) rfl)
theorem wm_326 : (.selects RX1 yX1_addLiking yX1_addLiking : Cond) ∈ wsL_law := sr_14 _ (List.mem_of_getElem? (i := 14) rfl)
theorem wm_327 : (.code yX1_addLiking cX1_addLiking 4 none : Cond) ∈ wsL_law := sr_14 _ (List.mem_of_getElem? (i := 15) rfl)
theorem wm_328 : (.methodLink RX1 44 yX1_count : Cond) ∈ wsL_law := sr_14 _ (List.mem_of_getElem? (i := 16) rfl)
theorem wm_329 : (.methodLink RX4 173 yX6_isSign : Cond) ∈ wsL_law := sr_14 _ (List.mem_of_getElem? (i := 17) rfl)
theorem wm_330 : (.instanceMethod yX6_isSign : Cond) ∈ wsL_law := sr_14 _ (List.mem_of_getElem? (i := 18) rfl)
theorem wm_331 : (.selects RX6 yX6_isSign yX6_isSign : Cond) ∈ wsL_law := sr_14 _ (List.mem_of_getElem? (i := 19) rfl)
theorem wm_332 : (.code yX6_isSign cX6_isSign 2 (some .boolean) : Cond) ∈ wsL_law := sr_14 _ (List.mem_of_getElem? (i := 20) rfl)
theorem wm_333 : (.methodLink RX4 92 yX4_tellNumbers : Cond) ∈ wsL_law := sr_14 _ (List.mem_of_getElem? (i := 21) rfl)
theorem wm_334 : (.instanceMethod yX4_tellNumbers : Cond) ∈ wsL_law := sr_14 _ (List.mem_of_getElem? (i := 22) rfl)
theorem wm_335 : (.selects RX4 yX4_tellNumbers yX4_tellNumbers : Cond) ∈ wsL_law := sr_14 _ (List.mem_of_getElem? (i := 23) rfl)
theorem wm_336 : (.code yX4_tellNumbers cX4_tellNumbers 4 none : Cond) ∈ wsL_law := sr_15 _ (List.mem_of_getElem? (i := 0) rfl)
theorem wm_337 : (.methodLink RX4 95 yX1_close : Cond) ∈ wsL_law := sr_15 _ (List.mem_of_getElem? (i := 1) rfl)
theorem wm_338 : (.instanceMethod yX1_close : Cond) ∈ wsL_law := sr_15 _ (List.mem_of_getElem? (i := 2) rfl)
theorem wm_339 : (.selects RX1 yX1_close yX1_close : Cond) ∈ wsL_law := sr_15 _ (List.mem_of_getElem? (i := 3) rfl)
theorem wm_340 : (.code yX1_close cX1_close 2 none : Cond) ∈ wsL_law := sr_15 _ (List.mem_of_getElem? (i := 4) rfl)
theorem wm_341 : (.methodLink RX1 40 yX1_isFull : Cond) ∈ wsL_law := sr_15 _ (List.mem_of_getElem? (i := 5) rfl)
theorem wm_342 : (.methodLink RX4 46 yX6_isAtEnd : Cond) ∈ wsL_law := sr_15 _ (List.mem_of_getElem? (i := 6) rfl)
theorem wm_343 : (.instanceMethod yX6_isAtEnd : Cond) ∈ wsL_law := sr_15 _ (List.mem_of_getElem? (i := 7) rfl)
theorem wm_344 : (.selects RX6 yX6_isAtEnd yX6_isAtEnd : Cond) ∈ wsL_law := sr_15 _ (List.mem_of_getElem? (i := 8) rfl)
theorem wm_345 : (.code yX6_isAtEnd cX6_isAtEnd 1 (some .boolean) : Cond) ∈ wsL_law := sr_15 _ (List.mem_of_getElem? (i := 9) rfl)
theorem wm_346 : (.methodLink RX4 49 yX6_expectSign : Cond) ∈ wsL_law := sr_15 _ (List.mem_of_getElem? (i := 10) rfl)
theorem wm_347 : (.instanceMethod yX6_expectSign : Cond) ∈ wsL_law := sr_15 _ (List.mem_of_getElem? (i := 11) rfl)
theorem wm_348 : (.selects RX6 yX6_expectSign yX6_expectSign : Cond) ∈ wsL_law := sr_15 _ (List.mem_of_getElem? (i := 12) rfl)
theorem wm_349 : (.code yX6_expectSign cX6_expectSign 2 none : Cond) ∈ wsL_law := sr_15 _ (List.mem_of_getElem? (i := 13) rfl)
theorem wm_350 : (.methodLink RX6 76 yX6_isSign : Cond) ∈ wsL_law := sr_15 _ (List.mem_of_getElem? (i := 14) rfl)
theorem wm_351 : (.methodLink RX4 53 yX1_lacks : Cond) ∈ wsL_law := sr_15 _ (List.mem_of_getElem? (i := 15) rfl)
theorem wm_352 : (.instanceMethod yX1_lacks : Cond) ∈ wsL_law := sr_15 _ (List.mem_of_getElem? (i := 16) rfl)
theorem wm_353 : (.selects RX1 yX1_lacks yX1_lacks : Cond) ∈ wsL_law := sr_15 _ (List.mem_of_getElem? (i := 17) rfl)
theorem wm_354 : (.code yX1_lacks cX1_lacks 1 (some .boolean) : Cond) ∈ wsL_law := sr_15 _ (List.mem_of_getElem? (i := 18) rfl)
theorem wm_355 : (.methodLink RX4 59 yX1_settle : Cond) ∈ wsL_law := sr_15 _ (List.mem_of_getElem? (i := 19) rfl)
theorem wm_356 : (.instanceMethod yX1_settle : Cond) ∈ wsL_law := sr_15 _ (List.mem_of_getElem? (i := 20) rfl)
theorem wm_357 : (.selects RX1 yX1_settle yX1_settle : Cond) ∈ wsL_law := sr_15 _ (List.mem_of_getElem? (i := 21) rfl)
theorem wm_358 : (.code yX1_settle cX1_settle 3 none : Cond) ∈ wsL_law := sr_15 _ (List.mem_of_getElem? (i := 22) rfl)
theorem wm_359 : (.methodLink RX1 58 Lib.Math.max.name : Cond) ∈ wsL_law := sr_15 _ (List.mem_of_getElem? (i := 23) rfl)
theorem wm_360 : (.methodLink RX1 52 yX1_latestBlock : Cond) ∈ wsL_law := sr_16 _ (List.mem_of_getElem? (i := 0) rfl)
theorem wm_361 : (.instanceMethod yX1_latestBlock : Cond) ∈ wsL_law := sr_16 _ (List.mem_of_getElem? (i := 1) rfl)
theorem wm_362 : (.selects RX1 yX1_latestBlock yX1_latestBlock : Cond) ∈ wsL_law := sr_16 _ (List.mem_of_getElem? (i := 2) rfl)
theorem wm_363 : (.code yX1_latestBlock cX1_latestBlock 3 (some .int) : Cond) ∈ wsL_law := sr_16 _ (List.mem_of_getElem? (i := 3) rfl)
theorem wm_364 : (.methodLink RX1 55 yX1_namedIn : Cond) ∈ wsL_law := sr_16 _ (List.mem_of_getElem? (i := 4) rfl)
theorem wm_365 : (.instanceMethod yX1_namedIn : Cond) ∈ wsL_law := sr_16 _ (List.mem_of_getElem? (i := 5) rfl)
theorem wm_366 : (.selects RX1 yX1_namedIn yX1_namedIn : Cond) ∈ wsL_law := sr_16 _ (List.mem_of_getElem? (i := 6) rfl)
theorem wm_367 : (.code yX1_namedIn cX1_namedIn 4 (some .int) : Cond) ∈ wsL_law := sr_16 _ (List.mem_of_getElem? (i := 7) rfl)
theorem wm_368 : (.methodLink RX4 62 yX6_firstFault : Cond) ∈ wsL_law := sr_16 _ (List.mem_of_getElem? (i := 8) rfl)
theorem wm_369 : (.instanceMethod yX6_firstFault : Cond) ∈ wsL_law := sr_16 _ (List.mem_of_getElem? (i := 9) rfl)
theorem wm_370 : (.selects RX6 yX6_firstFault yX6_firstFault : Cond) ∈ wsL_law := sr_16 _ (List.mem_of_getElem? (i := 10) rfl)
theorem wm_371 : (.code yX6_firstFault cX6_firstFault 1 (some .int) : Cond) ∈ wsL_law := sr_16 _ (List.mem_of_getElem? (i := 11) rfl)
theorem wm_372 : (.methodLink RX7 77 yX4_faultPlace : Cond) ∈ wsL_law := sr_16 _ (List.mem_of_getElem? (i := 12) rfl)
theorem wm_373 : (.instanceMethod yX4_faultPlace : Cond) ∈ wsL_law := sr_16 _ (List.mem_of_getElem? (i := 13) rfl)
theorem wm_374 : (.selects RX4 yX4_faultPlace yX4_faultPlace : Cond) ∈ wsL_law := sr_16 _ (List.mem_of_getElem? (i := 14) rfl)
theorem wm_375 : (.code yX4_faultPlace cX4_faultPlace 1 (some .int) : Cond) ∈ wsL_law := sr_16 _ (List.mem_of_getElem? (i := 15) rfl)
theorem wm_376 : (.methodLink RX4 22 yX6_faultPlace : Cond) ∈ wsL_law := sr_16 _ (List.mem_of_getElem? (i := 16) rfl)
theorem wm_377 : (.instanceMethod yX6_faultPlace : Cond) ∈ wsL_law := sr_16 _ (List.mem_of_getElem? (i := 17) rfl)
theorem wm_378 : (.selects RX6 yX6_faultPlace yX6_faultPlace : Cond) ∈ wsL_law := sr_16 _ (List.mem_of_getElem? (i := 18) rfl)
theorem wm_379 : (.code yX6_faultPlace cX6_faultPlace 1 (some .int) : Cond) ∈ wsL_law := sr_16 _ (List.mem_of_getElem? (i := 19) rfl)
theorem wm_380 : (.methodLink RX7 83 yX3_restart : Cond) ∈ wsL_law := sr_16 _ (List.mem_of_getElem? (i := 20) rfl)
theorem wm_381 : (.instanceMethod yX3_restart : Cond) ∈ wsL_law := sr_16 _ (List.mem_of_getElem? (i := 21) rfl)
theorem wm_382 : (.selects RX3 yX3_restart yX3_restart : Cond) ∈ wsL_law := sr_16 _ (List.mem_of_getElem? (i := 22) rfl)
theorem wm_383 : (.code yX3_restart cX3_restart 4 none : Cond) ∈ wsL_law := sr_16 _ (List.mem_of_getElem? (i := 23) rfl)
theorem wm_384 : (.fieldLink RX3 44 "TwoTrolleys$Run" "high" "I" : Cond) ∈ wsL_law := sr_17 _ (List.mem_of_getElem? (i := 0) rfl)
theorem wm_385 : (.fieldLink RX3 47 "TwoTrolleys$Run" "spills" "I" : Cond) ∈ wsL_law := sr_17 _ (List.mem_of_getElem? (i := 1) rfl)
theorem wm_386 : (.fieldLink RX3 50 "TwoTrolleys$Run" "random" "I" : Cond) ∈ wsL_law := sr_17 _ (List.mem_of_getElem? (i := 2) rfl)
theorem wm_387 : (.methodLink RX3 28 yJ7_fill_53178 : Cond) ∈ wsL_law := sr_17 _ (List.mem_of_getElem? (i := 3) rfl)
theorem wm_388 : (.methodLink RX3 34 yX1_loadOf : Cond) ∈ wsL_law := sr_17 _ (List.mem_of_getElem? (i := 4) rfl)
theorem wm_389 : (.instanceMethod yX1_loadOf : Cond) ∈ wsL_law := sr_17 _ (List.mem_of_getElem? (i := 5) rfl)
theorem wm_390 : (.selects RX1 yX1_loadOf yX1_loadOf : Cond) ∈ wsL_law := sr_17 _ (List.mem_of_getElem? (i := 6) rfl)
theorem wm_391 : (.code yX1_loadOf cX1_loadOf 4 (some .int) : Cond) ∈ wsL_law := sr_17 _ (List.mem_of_getElem? (i := 7) rfl)
theorem wm_392 : (.methodLink RX3 40 yX1_rows : Cond) ∈ wsL_law := sr_17 _ (List.mem_of_getElem? (i := 8) rfl)
theorem wm_393 : (.instanceMethod yX1_rows : Cond) ∈ wsL_law := sr_17 _ (List.mem_of_getElem? (i := 9) rfl)
theorem wm_394 : (.selects RX1 yX1_rows yX1_rows : Cond) ∈ wsL_law := sr_17 _ (List.mem_of_getElem? (i := 10) rfl)
theorem wm_395 : (.code yX1_rows cX1_rows 1 (some .int) : Cond) ∈ wsL_law := sr_17 _ (List.mem_of_getElem? (i := 11) rfl)
theorem wm_396 : (.methodLink RX7 90 yX1_count : Cond) ∈ wsL_law := sr_17 _ (List.mem_of_getElem? (i := 12) rfl)
theorem wm_397 : (.methodLink RX7 93 yX7_accept : Cond) ∈ wsL_law := sr_17 _ (List.mem_of_getElem? (i := 13) rfl)
theorem wm_398 : (.instanceMethod yX7_accept : Cond) ∈ wsL_law := sr_17 _ (List.mem_of_getElem? (i := 14) rfl)
theorem wm_399 : (.selects RX7 yX7_accept yX7_accept : Cond) ∈ wsL_law := sr_17 _ (List.mem_of_getElem? (i := 15) rfl)
theorem wm_400 : (.code yX7_accept cX7_accept 2 (some .int) : Cond) ∈ wsL_law := sr_17 _ (List.mem_of_getElem? (i := 16) rfl)
theorem wm_401 : (.methodLink RL 27 yX9_flight : Cond) ∈ wsL_law := sr_17 _ (List.mem_of_getElem? (i := 17) rfl)
theorem wm_402 : (.instanceMethod yX9_flight : Cond) ∈ wsL_law := sr_17 _ (List.mem_of_getElem? (i := 18) rfl)
theorem wm_403 : (.selects RX9 yX9_flight yX9_flight : Cond) ∈ wsL_law := sr_17 _ (List.mem_of_getElem? (i := 19) rfl)
theorem wm_404 : (.code yX9_flight cX9_flight 2 (some .int) : Cond) ∈ wsL_law := sr_17 _ (List.mem_of_getElem? (i := 20) rfl)
theorem wm_405 : (.fieldLink RX9 65 "TwoTrolleysModel" "size" "I" : Cond) ∈ wsL_law := sr_17 _ (List.mem_of_getElem? (i := 21) rfl)
theorem wm_406 : (.fieldLink RX9 83 "TwoTrolleysModel" "at" "I" : Cond) ∈ wsL_law := sr_17 _ (List.mem_of_getElem? (i := 22) rfl)
theorem wm_407 : (.fieldLink RX9 109 "TwoTrolleysModel" "fault" "I" : Cond) ∈ wsL_law := sr_17 _ (List.mem_of_getElem? (i := 23) rfl)
theorem wm_408 : (.classLink RX9 179 RX8 : Cond) ∈ wsL_law := sr_18 _ (List.mem_of_getElem? (i := 0) rfl)
theorem wm_409 : (.instantiable RX8 47 : Cond) ∈ wsL_law := sr_18 _ (List.mem_of_getElem? (i := 1) rfl)
theorem wm_410 : (.initialized RX8 : Cond) ∈ wsL_law := sr_18 _ (List.mem_of_getElem? (i := 2) rfl)
theorem wm_411 : (.fieldLink RX9 174 "TwoTrolleysModel" "read" "LTwoTrolleysModel$Flight;" : Cond) ∈ wsL_law := sr_18 _ (List.mem_of_getElem? (i := 3) rfl)
theorem wm_412 : (.fieldLink RX9 80 "TwoTrolleysModel" "sort" "I" : Cond) ∈ wsL_law := sr_18 _ (List.mem_of_getElem? (i := 4) rfl)
theorem wm_413 : (.fieldLink RX9 55 "TwoTrolleysModel" "trouble" "I" : Cond) ∈ wsL_law := sr_18 _ (List.mem_of_getElem? (i := 5) rfl)
theorem wm_414 : (.fieldLink RX9 112 "TwoTrolleysModel" "wrongAt" "I" : Cond) ∈ wsL_law := sr_18 _ (List.mem_of_getElem? (i := 6) rfl)
theorem wm_415 : (.fieldLink RX9 425 "TwoTrolleysModel" "flight" "LTwoTrolleysModel$Flight;" : Cond) ∈ wsL_law := sr_18 _ (List.mem_of_getElem? (i := 7) rfl)
theorem wm_416 : (.fieldLink RX9 428 "TwoTrolleysModel" "marks" "I" : Cond) ∈ wsL_law := sr_18 _ (List.mem_of_getElem? (i := 8) rfl)
theorem wm_417 : (.methodLink RX9 58 yX9_refused : Cond) ∈ wsL_law := sr_18 _ (List.mem_of_getElem? (i := 9) rfl)
theorem wm_418 : (.instanceMethod yX9_refused : Cond) ∈ wsL_law := sr_18 _ (List.mem_of_getElem? (i := 10) rfl)
theorem wm_419 : (.selects RX9 yX9_refused yX9_refused : Cond) ∈ wsL_law := sr_18 _ (List.mem_of_getElem? (i := 11) rfl)
theorem wm_420 : (.code yX9_refused cX9_refused 2 (some .int) : Cond) ∈ wsL_law := sr_18 _ (List.mem_of_getElem? (i := 12) rfl)
theorem wm_421 : (.instanceMethod yX8_init : Cond) ∈ wsL_law := sr_18 _ (List.mem_of_getElem? (i := 13) rfl)
theorem wm_422 : (.code yX8_init cX8_init 1 none : Cond) ∈ wsL_law := sr_18 _ (List.mem_of_getElem? (i := 14) rfl)
theorem wm_423 : (.methodLink RX8 3 objectInit : Cond) ∈ wsL_law := sr_18 _ (List.mem_of_getElem? (i := 15) rfl)
theorem wm_424 : (.fieldLink RX8 9 "TwoTrolleysModel$Flight" "least" "I" : Cond) ∈ wsL_law := sr_18 _ (List.mem_of_getElem? (i := 16) rfl)
theorem wm_425 : (.fieldLink RX8 15 "TwoTrolleysModel$Flight" "shape" "[I" : Cond) ∈ wsL_law := sr_18 _ (List.mem_of_getElem? (i := 17) rfl)
theorem wm_426 : (.fieldLink RX8 19 "TwoTrolleysModel$Flight" "hot" "[I" : Cond) ∈ wsL_law := sr_18 _ (List.mem_of_getElem? (i := 18) rfl)
theorem wm_427 : (.fieldLink RX8 22 "TwoTrolleysModel$Flight" "batchKind" "[I" : Cond) ∈ wsL_law := sr_18 _ (List.mem_of_getElem? (i := 19) rfl)
theorem wm_428 : (.fieldLink RX8 25 "TwoTrolleysModel$Flight" "batchAt" "[I" : Cond) ∈ wsL_law := sr_18 _ (List.mem_of_getElem? (i := 20) rfl)
theorem wm_429 : (.fieldLink RX8 28 "TwoTrolleysModel$Flight" "tookKind" "[I" : Cond) ∈ wsL_law := sr_18 _ (List.mem_of_getElem? (i := 21) rfl)
theorem wm_430 : (.fieldLink RX8 31 "TwoTrolleysModel$Flight" "took" "[I" : Cond) ∈ wsL_law := sr_18 _ (List.mem_of_getElem? (i := 22) rfl)
theorem wm_431 : (.fieldLink RX8 34 "TwoTrolleysModel$Flight" "tookOf" "[I" : Cond) ∈ wsL_law := sr_18 _ (List.mem_of_getElem? (i := 23) rfl)
theorem wm_432 : (.fieldLink RX8 37 "TwoTrolleysModel$Flight" "end" "[I" : Cond) ∈ wsL_law := sr_19 _ (List.mem_of_getElem? (i := 0) rfl)
theorem wm_433 : (.fieldLink RX8 40 "TwoTrolleysModel$Flight" "drawers" "[I" : Cond) ∈ wsL_law := sr_19 _ (List.mem_of_getElem? (i := 1) rfl)
theorem wm_434 : (.fieldLink RX8 43 "TwoTrolleysModel$Flight" "holds" "[I" : Cond) ∈ wsL_law := sr_19 _ (List.mem_of_getElem? (i := 2) rfl)
theorem wm_435 : (.fieldLink RX8 46 "TwoTrolleysModel$Flight" "load" "[I" : Cond) ∈ wsL_law := sr_19 _ (List.mem_of_getElem? (i := 3) rfl)
theorem wm_436 : (.fieldLink RX8 49 "TwoTrolleysModel$Flight" "blockFrom" "[I" : Cond) ∈ wsL_law := sr_19 _ (List.mem_of_getElem? (i := 4) rfl)
theorem wm_437 : (.fieldLink RX8 52 "TwoTrolleysModel$Flight" "blockTo" "[I" : Cond) ∈ wsL_law := sr_19 _ (List.mem_of_getElem? (i := 5) rfl)
theorem wm_438 : (.fieldLink RX8 55 "TwoTrolleysModel$Flight" "seats" "[I" : Cond) ∈ wsL_law := sr_19 _ (List.mem_of_getElem? (i := 6) rfl)
theorem wm_439 : (.fieldLink RX8 58 "TwoTrolleysModel$Flight" "likedMany" "[I" : Cond) ∈ wsL_law := sr_19 _ (List.mem_of_getElem? (i := 7) rfl)
theorem wm_440 : (.fieldLink RX8 61 "TwoTrolleysModel$Flight" "likedKind" "[I" : Cond) ∈ wsL_law := sr_19 _ (List.mem_of_getElem? (i := 8) rfl)
theorem wm_441 : (.fieldLink RX8 64 "TwoTrolleysModel$Flight" "liked" "[I" : Cond) ∈ wsL_law := sr_19 _ (List.mem_of_getElem? (i := 9) rfl)
theorem wm_442 : (.fieldLink RX8 67 "TwoTrolleysModel$Flight" "namedRow" "[I" : Cond) ∈ wsL_law := sr_19 _ (List.mem_of_getElem? (i := 10) rfl)
theorem wm_443 : (.fieldLink RX8 70 "TwoTrolleysModel$Flight" "eats" "[I" : Cond) ∈ wsL_law := sr_19 _ (List.mem_of_getElem? (i := 11) rfl)
theorem wm_444 : (.fieldLink RX8 73 "TwoTrolleysModel$Flight" "beltsFrom" "[I" : Cond) ∈ wsL_law := sr_19 _ (List.mem_of_getElem? (i := 12) rfl)
theorem wm_445 : (.fieldLink RX8 76 "TwoTrolleysModel$Flight" "beltsTo" "[I" : Cond) ∈ wsL_law := sr_19 _ (List.mem_of_getElem? (i := 13) rfl)
theorem wm_446 : (.fieldLink RX8 79 "TwoTrolleysModel$Flight" "gap" "[I" : Cond) ∈ wsL_law := sr_19 _ (List.mem_of_getElem? (i := 14) rfl)
theorem wm_447 : (.fieldLink RX8 82 "TwoTrolleysModel$Flight" "pastAt" "[I" : Cond) ∈ wsL_law := sr_19 _ (List.mem_of_getElem? (i := 15) rfl)
theorem wm_448 : (.fieldLink RX8 85 "TwoTrolleysModel$Flight" "pastFrom" "[I" : Cond) ∈ wsL_law := sr_19 _ (List.mem_of_getElem? (i := 16) rfl)
theorem wm_449 : (.fieldLink RX8 88 "TwoTrolleysModel$Flight" "pastTo" "[I" : Cond) ∈ wsL_law := sr_19 _ (List.mem_of_getElem? (i := 17) rfl)
theorem wm_450 : (.fieldLink RX8 91 "TwoTrolleysModel$Flight" "price" "[I" : Cond) ∈ wsL_law := sr_19 _ (List.mem_of_getElem? (i := 18) rfl)
theorem wm_451 : (.arrayClass .boolean : Cond) ∈ wsL_law := sr_19 _ (List.mem_of_getElem? (i := 19) rfl)
theorem wm_452 : (.fieldLink RX8 94 "TwoTrolleysModel$Flight" "isChild" "[Z" : Cond) ∈ wsL_law := sr_19 _ (List.mem_of_getElem? (i := 20) rfl)
theorem wm_453 : (.fieldLink RX8 98 "TwoTrolleysModel$Flight" "name" "[J" : Cond) ∈ wsL_law := sr_19 _ (List.mem_of_getElem? (i := 21) rfl)
theorem wm_454 : (.fieldLink RX8 102 "TwoTrolleysModel$Flight" "nameSort" "[I" : Cond) ∈ wsL_law := sr_19 _ (List.mem_of_getElem? (i := 22) rfl)
theorem wm_455 : (.fieldLink RX8 105 "TwoTrolleysModel$Flight" "nameNumber" "[I" : Cond) ∈ wsL_law := sr_19 _ (List.mem_of_getElem? (i := 23) rfl)
theorem wm_456 : (.methodLink RX9 123 yX9_goesOn : Cond) ∈ wsL_law := sr_20 _ (List.mem_of_getElem? (i := 0) rfl)
theorem wm_457 : (.instanceMethod yX9_goesOn : Cond) ∈ wsL_law := sr_20 _ (List.mem_of_getElem? (i := 1) rfl)
theorem wm_458 : (.selects RX9 yX9_goesOn yX9_goesOn : Cond) ∈ wsL_law := sr_20 _ (List.mem_of_getElem? (i := 2) rfl)
theorem wm_459 : (.code yX9_goesOn cX9_goesOn 3 none : Cond) ∈ wsL_law := sr_20 _ (List.mem_of_getElem? (i := 3) rfl)
theorem wm_460 : (.fieldLink RX9 89 "TwoTrolleysModel" "place" "I" : Cond) ∈ wsL_law := sr_20 _ (List.mem_of_getElem? (i := 4) rfl)
theorem wm_461 : (.fieldLink RX9 92 "TwoTrolleysModel" "mark" "I" : Cond) ∈ wsL_law := sr_20 _ (List.mem_of_getElem? (i := 5) rfl)
theorem wm_462 : (.fieldLink RX9 99 "TwoTrolleysModel" "word" "J" : Cond) ∈ wsL_law := sr_20 _ (List.mem_of_getElem? (i := 6) rfl)
theorem wm_463 : (.constantLong RX9 74 (32) : Cond) ∈ wsL_law := sr_20 _ (List.mem_of_getElem? (i := 7) rfl)
theorem wm_464 : (.fieldLink RX9 106 "TwoTrolleysModel" "number" "I" : Cond) ∈ wsL_law := sr_20 _ (List.mem_of_getElem? (i := 8) rfl)
theorem wm_465 : (.methodLink RX9 86 yX9_byteAt : Cond) ∈ wsL_law := sr_20 _ (List.mem_of_getElem? (i := 9) rfl)
theorem wm_466 : (.instanceMethod yX9_byteAt : Cond) ∈ wsL_law := sr_20 _ (List.mem_of_getElem? (i := 10) rfl)
theorem wm_467 : (.selects RX9 yX9_byteAt yX9_byteAt : Cond) ∈ wsL_law := sr_20 _ (List.mem_of_getElem? (i := 11) rfl)
theorem wm_468 : (.code yX9_byteAt cX9_byteAt 2 (some .int) : Cond) ∈ wsL_law := sr_20 _ (List.mem_of_getElem? (i := 12) rfl)
theorem wm_469 : (.methodLink RX9 95 yX9_isLetter : Cond) ∈ wsL_law := sr_20 _ (List.mem_of_getElem? (i := 13) rfl)
theorem wm_470 : (.static yX9_isLetter : Cond) ∈ wsL_law := sr_20 _ (List.mem_of_getElem? (i := 14) rfl)
theorem wm_471 : (.code yX9_isLetter cX9_isLetter 1 (some .boolean) : Cond) ∈ wsL_law := sr_20 _ (List.mem_of_getElem? (i := 15) rfl)
theorem wm_472 : (.methodLink RX9 103 yX9_isDigit : Cond) ∈ wsL_law := sr_20 _ (List.mem_of_getElem? (i := 16) rfl)
theorem wm_473 : (.static yX9_isDigit : Cond) ∈ wsL_law := sr_20 _ (List.mem_of_getElem? (i := 17) rfl)
theorem wm_474 : (.code yX9_isDigit cX9_isDigit 1 (some .boolean) : Cond) ∈ wsL_law := sr_20 _ (List.mem_of_getElem? (i := 18) rfl)
theorem wm_475 : (.methodLink RX9 422 yX9_readFlight : Cond) ∈ wsL_law := sr_20 _ (List.mem_of_getElem? (i := 19) rfl)
theorem wm_476 : (.instanceMethod yX9_readFlight : Cond) ∈ wsL_law := sr_20 _ (List.mem_of_getElem? (i := 20) rfl)
theorem wm_477 : (.selects RX9 yX9_readFlight yX9_readFlight : Cond) ∈ wsL_law := sr_20 _ (List.mem_of_getElem? (i := 21) rfl)
theorem wm_478 : (.code yX9_readFlight cX9_readFlight 2 none : Cond) ∈ wsL_law := sr_20 _ (List.mem_of_getElem? (i := 22) rfl)
theorem wm_479 : (.methodLink RX9 199 yX9_readLine : Cond) ∈ wsL_law := sr_20 _ (List.mem_of_getElem? (i := 23) rfl)
theorem wm_480 : (.instanceMethod yX9_readLine : Cond) ∈ wsL_law := sr_21 _ (List.mem_of_getElem? (i := 0) rfl)
theorem wm_481 : (.selects RX9 yX9_readLine yX9_readLine : Cond) ∈ wsL_law := sr_21 _ (List.mem_of_getElem? (i := 1) rfl)
theorem wm_482 : (.code yX9_readLine cX9_readLine 1 none : Cond) ∈ wsL_law := sr_21 _ (List.mem_of_getElem? (i := 2) rfl)
theorem wm_483 : (.methodLink RX9 119 yX9_isWord : Cond) ∈ wsL_law := sr_21 _ (List.mem_of_getElem? (i := 3) rfl)
theorem wm_484 : (.instanceMethod yX9_isWord : Cond) ∈ wsL_law := sr_21 _ (List.mem_of_getElem? (i := 4) rfl)
theorem wm_485 : (.selects RX9 yX9_isWord yX9_isWord : Cond) ∈ wsL_law := sr_21 _ (List.mem_of_getElem? (i := 5) rfl)
theorem wm_486 : (.code yX9_isWord cX9_isWord 2 (some .boolean) : Cond) ∈ wsL_law := sr_21 _ (List.mem_of_getElem? (i := 6) rfl)
theorem wm_487 : (.methodLink RX9 115 yX9_wordOf : Cond) ∈ wsL_law := sr_21 _ (List.mem_of_getElem? (i := 7) rfl)
theorem wm_488 : (.static yX9_wordOf : Cond) ∈ wsL_law := sr_21 _ (List.mem_of_getElem? (i := 8) rfl)
theorem wm_489 : (.code yX9_wordOf cX9_wordOf 4 (some .long) : Cond) ∈ wsL_law := sr_21 _ (List.mem_of_getElem? (i := 9) rfl)
theorem wm_490 : (.methodLink RX9 68 yJ0_length_8abf5 : Cond) ∈ wsL_law := sr_21 _ (List.mem_of_getElem? (i := 10) rfl)
theorem wm_491 : (.methodLink RX9 76 yJ0_charAt_5068e : Cond) ∈ wsL_law := sr_21 _ (List.mem_of_getElem? (i := 11) rfl)
theorem wm_492 : (.methodLink RX9 217 yX9_readCabin : Cond) ∈ wsL_law := sr_21 _ (List.mem_of_getElem? (i := 12) rfl)
theorem wm_493 : (.instanceMethod yX9_readCabin : Cond) ∈ wsL_law := sr_21 _ (List.mem_of_getElem? (i := 13) rfl)
theorem wm_494 : (.selects RX9 yX9_readCabin yX9_readCabin : Cond) ∈ wsL_law := sr_21 _ (List.mem_of_getElem? (i := 14) rfl)
theorem wm_495 : (.code yX9_readCabin cX9_readCabin 2 none : Cond) ∈ wsL_law := sr_21 _ (List.mem_of_getElem? (i := 15) rfl)
theorem wm_496 : (.methodLink RX9 126 yX9_wrong : Cond) ∈ wsL_law := sr_21 _ (List.mem_of_getElem? (i := 16) rfl)
theorem wm_497 : (.instanceMethod yX9_wrong : Cond) ∈ wsL_law := sr_21 _ (List.mem_of_getElem? (i := 17) rfl)
theorem wm_498 : (.selects RX9 yX9_wrong yX9_wrong : Cond) ∈ wsL_law := sr_21 _ (List.mem_of_getElem? (i := 18) rfl)
theorem wm_499 : (.code yX9_wrong cX9_wrong 2 none : Cond) ∈ wsL_law := sr_21 _ (List.mem_of_getElem? (i := 19) rfl)
theorem wm_500 : (.methodLink RX9 257 yX9_readPart : Cond) ∈ wsL_law := sr_21 _ (List.mem_of_getElem? (i := 20) rfl)
theorem wm_501 : (.instanceMethod yX9_readPart : Cond) ∈ wsL_law := sr_21 _ (List.mem_of_getElem? (i := 21) rfl)
theorem wm_502 : (.selects RX9 yX9_readPart yX9_readPart : Cond) ∈ wsL_law := sr_21 _ (List.mem_of_getElem? (i := 22) rfl)
theorem wm_503 : (.code yX9_readPart cX9_readPart 4 (some .int) : Cond) ∈ wsL_law := sr_21 _ (List.mem_of_getElem? (i := 23) rfl)
theorem wm_504 : (.methodLink RX9 134 yX9_needs : Cond) ∈ wsL_law := sr_22 _ (List.mem_of_getElem? (i := 0) rfl)
theorem wm_505 : (.instanceMethod yX9_needs : Cond) ∈ wsL_law := sr_22 _ (List.mem_of_getElem? (i := 1) rfl)
theorem wm_506 : (.selects RX9 yX9_needs yX9_needs : Cond) ∈ wsL_law := sr_22 _ (List.mem_of_getElem? (i := 2) rfl)
theorem wm_507 : (.code yX9_needs cX9_needs 2 none : Cond) ∈ wsL_law := sr_22 _ (List.mem_of_getElem? (i := 3) rfl)
theorem wm_508 : (.methodLink RX9 138 yX9_readWhole : Cond) ∈ wsL_law := sr_22 _ (List.mem_of_getElem? (i := 4) rfl)
theorem wm_509 : (.instanceMethod yX9_readWhole : Cond) ∈ wsL_law := sr_22 _ (List.mem_of_getElem? (i := 5) rfl)
theorem wm_510 : (.selects RX9 yX9_readWhole yX9_readWhole : Cond) ∈ wsL_law := sr_22 _ (List.mem_of_getElem? (i := 6) rfl)
theorem wm_511 : (.code yX9_readWhole cX9_readWhole 4 (some .int) : Cond) ∈ wsL_law := sr_22 _ (List.mem_of_getElem? (i := 7) rfl)
theorem wm_512 : (.methodLink RX9 130 yX9_in : Cond) ∈ wsL_law := sr_22 _ (List.mem_of_getElem? (i := 8) rfl)
theorem wm_513 : (.static yX9_in : Cond) ∈ wsL_law := sr_22 _ (List.mem_of_getElem? (i := 9) rfl)
theorem wm_514 : (.code yX9_in cX9_in 3 (some .boolean) : Cond) ∈ wsL_law := sr_22 _ (List.mem_of_getElem? (i := 10) rfl)
theorem wm_515 : (.methodLink RX9 220 yX9_readHeat : Cond) ∈ wsL_law := sr_22 _ (List.mem_of_getElem? (i := 11) rfl)
theorem wm_516 : (.instanceMethod yX9_readHeat : Cond) ∈ wsL_law := sr_22 _ (List.mem_of_getElem? (i := 12) rfl)
theorem wm_517 : (.selects RX9 yX9_readHeat yX9_readHeat : Cond) ∈ wsL_law := sr_22 _ (List.mem_of_getElem? (i := 13) rfl)
theorem wm_518 : (.code yX9_readHeat cX9_readHeat 2 none : Cond) ∈ wsL_law := sr_22 _ (List.mem_of_getElem? (i := 14) rfl)
theorem wm_519 : (.methodLink RX9 223 yX9_readKind : Cond) ∈ wsL_law := sr_22 _ (List.mem_of_getElem? (i := 15) rfl)
theorem wm_520 : (.instanceMethod yX9_readKind : Cond) ∈ wsL_law := sr_22 _ (List.mem_of_getElem? (i := 16) rfl)
theorem wm_521 : (.selects RX9 yX9_readKind yX9_readKind : Cond) ∈ wsL_law := sr_22 _ (List.mem_of_getElem? (i := 17) rfl)
theorem wm_522 : (.code yX9_readKind cX9_readKind 3 none : Cond) ∈ wsL_law := sr_22 _ (List.mem_of_getElem? (i := 18) rfl)
theorem wm_523 : (.methodLink RX9 274 yX9_begins : Cond) ∈ wsL_law := sr_22 _ (List.mem_of_getElem? (i := 19) rfl)
theorem wm_524 : (.instanceMethod yX9_begins : Cond) ∈ wsL_law := sr_22 _ (List.mem_of_getElem? (i := 20) rfl)
theorem wm_525 : (.selects RX9 yX9_begins yX9_begins : Cond) ∈ wsL_law := sr_22 _ (List.mem_of_getElem? (i := 21) rfl)
theorem wm_526 : (.code yX9_begins cX9_begins 3 none : Cond) ∈ wsL_law := sr_22 _ (List.mem_of_getElem? (i := 22) rfl)
theorem wm_527 : (.methodLink RX9 278 yX9_readFresh : Cond) ∈ wsL_law := sr_22 _ (List.mem_of_getElem? (i := 23) rfl)
theorem wm_528 : (.instanceMethod yX9_readFresh : Cond) ∈ wsL_law := sr_23 _ (List.mem_of_getElem? (i := 0) rfl)
theorem wm_529 : (.selects RX9 yX9_readFresh yX9_readFresh : Cond) ∈ wsL_law := sr_23 _ (List.mem_of_getElem? (i := 1) rfl)
theorem wm_530 : (.code yX9_readFresh cX9_readFresh 3 none : Cond) ∈ wsL_law := sr_23 _ (List.mem_of_getElem? (i := 2) rfl)
theorem wm_531 : (.methodLink RX9 170 yX9_isName : Cond) ∈ wsL_law := sr_23 _ (List.mem_of_getElem? (i := 3) rfl)
theorem wm_532 : (.instanceMethod yX9_isName : Cond) ∈ wsL_law := sr_23 _ (List.mem_of_getElem? (i := 4) rfl)
theorem wm_533 : (.selects RX9 yX9_isName yX9_isName : Cond) ∈ wsL_law := sr_23 _ (List.mem_of_getElem? (i := 5) rfl)
theorem wm_534 : (.code yX9_isName cX9_isName 1 (some .boolean) : Cond) ∈ wsL_law := sr_23 _ (List.mem_of_getElem? (i := 6) rfl)
theorem wm_535 : (.methodLink RX9 178 yX8_find : Cond) ∈ wsL_law := sr_23 _ (List.mem_of_getElem? (i := 7) rfl)
theorem wm_536 : (.instanceMethod yX8_find : Cond) ∈ wsL_law := sr_23 _ (List.mem_of_getElem? (i := 8) rfl)
theorem wm_537 : (.selects RX8 yX8_find yX8_find : Cond) ∈ wsL_law := sr_23 _ (List.mem_of_getElem? (i := 9) rfl)
theorem wm_538 : (.code yX8_find cX8_find 4 (some .int) : Cond) ∈ wsL_law := sr_23 _ (List.mem_of_getElem? (i := 10) rfl)
theorem wm_539 : (.fieldLink RX8 108 "TwoTrolleysModel$Flight" "names" "I" : Cond) ∈ wsL_law := sr_23 _ (List.mem_of_getElem? (i := 11) rfl)
theorem wm_540 : (.methodLink RX9 226 yX9_readBatch : Cond) ∈ wsL_law := sr_23 _ (List.mem_of_getElem? (i := 12) rfl)
theorem wm_541 : (.instanceMethod yX9_readBatch : Cond) ∈ wsL_law := sr_23 _ (List.mem_of_getElem? (i := 13) rfl)
theorem wm_542 : (.selects RX9 yX9_readBatch yX9_readBatch : Cond) ∈ wsL_law := sr_23 _ (List.mem_of_getElem? (i := 14) rfl)
theorem wm_543 : (.code yX9_readBatch cX9_readBatch 3 none : Cond) ∈ wsL_law := sr_23 _ (List.mem_of_getElem? (i := 15) rfl)
theorem wm_544 : (.methodLink RX9 292 yX9_readKnown : Cond) ∈ wsL_law := sr_23 _ (List.mem_of_getElem? (i := 16) rfl)
theorem wm_545 : (.instanceMethod yX9_readKnown : Cond) ∈ wsL_law := sr_23 _ (List.mem_of_getElem? (i := 17) rfl)
theorem wm_546 : (.selects RX9 yX9_readKnown yX9_readKnown : Cond) ∈ wsL_law := sr_23 _ (List.mem_of_getElem? (i := 18) rfl)
theorem wm_547 : (.code yX9_readKnown cX9_readKnown 3 (some .int) : Cond) ∈ wsL_law := sr_23 _ (List.mem_of_getElem? (i := 19) rfl)
theorem wm_548 : (.methodLink RX9 196 yX9_known : Cond) ∈ wsL_law := sr_23 _ (List.mem_of_getElem? (i := 20) rfl)
theorem wm_549 : (.instanceMethod yX9_known : Cond) ∈ wsL_law := sr_23 _ (List.mem_of_getElem? (i := 21) rfl)
theorem wm_550 : (.selects RX9 yX9_known yX9_known : Cond) ∈ wsL_law := sr_23 _ (List.mem_of_getElem? (i := 22) rfl)
theorem wm_551 : (.code yX9_known cX9_known 3 (some .int) : Cond) ∈ wsL_law := sr_23 _ (List.mem_of_getElem? (i := 23) rfl)
theorem wm_552 : (.methodLink RX9 229 yX9_readTook : Cond) ∈ wsL_law := sr_24 _ (List.mem_of_getElem? (i := 0) rfl)
theorem wm_553 : (.instanceMethod yX9_readTook : Cond) ∈ wsL_law := sr_24 _ (List.mem_of_getElem? (i := 1) rfl)
theorem wm_554 : (.selects RX9 yX9_readTook yX9_readTook : Cond) ∈ wsL_law := sr_24 _ (List.mem_of_getElem? (i := 2) rfl)
theorem wm_555 : (.code yX9_readTook cX9_readTook 4 none : Cond) ∈ wsL_law := sr_24 _ (List.mem_of_getElem? (i := 3) rfl)
theorem wm_556 : (.methodLink RX9 232 yX9_readTrolley : Cond) ∈ wsL_law := sr_24 _ (List.mem_of_getElem? (i := 4) rfl)
theorem wm_557 : (.instanceMethod yX9_readTrolley : Cond) ∈ wsL_law := sr_24 _ (List.mem_of_getElem? (i := 5) rfl)
theorem wm_558 : (.selects RX9 yX9_readTrolley yX9_readTrolley : Cond) ∈ wsL_law := sr_24 _ (List.mem_of_getElem? (i := 6) rfl)
theorem wm_559 : (.code yX9_readTrolley cX9_readTrolley 4 none : Cond) ∈ wsL_law := sr_24 _ (List.mem_of_getElem? (i := 7) rfl)
theorem wm_560 : (.methodLink RX9 319 yX8_trolleyAt : Cond) ∈ wsL_law := sr_24 _ (List.mem_of_getElem? (i := 8) rfl)
theorem wm_561 : (.instanceMethod yX8_trolleyAt : Cond) ∈ wsL_law := sr_24 _ (List.mem_of_getElem? (i := 9) rfl)
theorem wm_562 : (.selects RX8 yX8_trolleyAt yX8_trolleyAt : Cond) ∈ wsL_law := sr_24 _ (List.mem_of_getElem? (i := 10) rfl)
theorem wm_563 : (.code yX8_trolleyAt cX8_trolleyAt 3 (some .int) : Cond) ∈ wsL_law := sr_24 _ (List.mem_of_getElem? (i := 11) rfl)
theorem wm_564 : (.fieldLink RX8 133 "TwoTrolleysModel$Flight" "trolleys" "I" : Cond) ∈ wsL_law := sr_24 _ (List.mem_of_getElem? (i := 12) rfl)
theorem wm_565 : (.methodLink RX9 235 yX9_readLoad : Cond) ∈ wsL_law := sr_24 _ (List.mem_of_getElem? (i := 13) rfl)
theorem wm_566 : (.instanceMethod yX9_readLoad : Cond) ∈ wsL_law := sr_24 _ (List.mem_of_getElem? (i := 14) rfl)
theorem wm_567 : (.selects RX9 yX9_readLoad yX9_readLoad : Cond) ∈ wsL_law := sr_24 _ (List.mem_of_getElem? (i := 15) rfl)
theorem wm_568 : (.code yX9_readLoad cX9_readLoad 4 none : Cond) ∈ wsL_law := sr_24 _ (List.mem_of_getElem? (i := 16) rfl)
theorem wm_569 : (.methodLink RX9 238 yX9_readBlock : Cond) ∈ wsL_law := sr_24 _ (List.mem_of_getElem? (i := 17) rfl)
theorem wm_570 : (.instanceMethod yX9_readBlock : Cond) ∈ wsL_law := sr_24 _ (List.mem_of_getElem? (i := 18) rfl)
theorem wm_571 : (.selects RX9 yX9_readBlock yX9_readBlock : Cond) ∈ wsL_law := sr_24 _ (List.mem_of_getElem? (i := 19) rfl)
theorem wm_572 : (.code yX9_readBlock cX9_readBlock 9 none : Cond) ∈ wsL_law := sr_24 _ (List.mem_of_getElem? (i := 20) rfl)
theorem wm_573 : (.methodLink RX9 202 yX9_eatsSign : Cond) ∈ wsL_law := sr_24 _ (List.mem_of_getElem? (i := 21) rfl)
theorem wm_574 : (.instanceMethod yX9_eatsSign : Cond) ∈ wsL_law := sr_24 _ (List.mem_of_getElem? (i := 22) rfl)
theorem wm_575 : (.selects RX9 yX9_eatsSign yX9_eatsSign : Cond) ∈ wsL_law := sr_24 _ (List.mem_of_getElem? (i := 23) rfl)
theorem wm_576 : (.code yX9_eatsSign cX9_eatsSign 3 (some .boolean) : Cond) ∈ wsL_law := sr_25 _ (List.mem_of_getElem? (i := 0) rfl)
theorem wm_577 : (.methodLink RX9 241 yX9_readNamed : Cond) ∈ wsL_law := sr_25 _ (List.mem_of_getElem? (i := 1) rfl)
theorem wm_578 : (.instanceMethod yX9_readNamed : Cond) ∈ wsL_law := sr_25 _ (List.mem_of_getElem? (i := 2) rfl)
theorem wm_579 : (.selects RX9 yX9_readNamed yX9_readNamed : Cond) ∈ wsL_law := sr_25 _ (List.mem_of_getElem? (i := 3) rfl)
theorem wm_580 : (.code yX9_readNamed cX9_readNamed 4 none : Cond) ∈ wsL_law := sr_25 _ (List.mem_of_getElem? (i := 4) rfl)
theorem wm_581 : (.methodLink RX9 372 yX9_eatsWord : Cond) ∈ wsL_law := sr_25 _ (List.mem_of_getElem? (i := 5) rfl)
theorem wm_582 : (.instanceMethod yX9_eatsWord : Cond) ∈ wsL_law := sr_25 _ (List.mem_of_getElem? (i := 6) rfl)
theorem wm_583 : (.selects RX9 yX9_eatsWord yX9_eatsWord : Cond) ∈ wsL_law := sr_25 _ (List.mem_of_getElem? (i := 7) rfl)
theorem wm_584 : (.code yX9_eatsWord cX9_eatsWord 3 (some .boolean) : Cond) ∈ wsL_law := sr_25 _ (List.mem_of_getElem? (i := 8) rfl)
theorem wm_585 : (.methodLink RX9 244 yX9_readBelts : Cond) ∈ wsL_law := sr_25 _ (List.mem_of_getElem? (i := 9) rfl)
theorem wm_586 : (.instanceMethod yX9_readBelts : Cond) ∈ wsL_law := sr_25 _ (List.mem_of_getElem? (i := 10) rfl)
theorem wm_587 : (.selects RX9 yX9_readBelts yX9_readBelts : Cond) ∈ wsL_law := sr_25 _ (List.mem_of_getElem? (i := 11) rfl)
theorem wm_588 : (.code yX9_readBelts cX9_readBelts 3 none : Cond) ∈ wsL_law := sr_25 _ (List.mem_of_getElem? (i := 12) rfl)
theorem wm_589 : (.methodLink RX9 247 yX9_readGap : Cond) ∈ wsL_law := sr_25 _ (List.mem_of_getElem? (i := 13) rfl)
theorem wm_590 : (.instanceMethod yX9_readGap : Cond) ∈ wsL_law := sr_25 _ (List.mem_of_getElem? (i := 14) rfl)
theorem wm_591 : (.selects RX9 yX9_readGap yX9_readGap : Cond) ∈ wsL_law := sr_25 _ (List.mem_of_getElem? (i := 15) rfl)
theorem wm_592 : (.code yX9_readGap cX9_readGap 2 none : Cond) ∈ wsL_law := sr_25 _ (List.mem_of_getElem? (i := 16) rfl)
theorem wm_593 : (.methodLink RX9 250 yX9_readPast : Cond) ∈ wsL_law := sr_25 _ (List.mem_of_getElem? (i := 17) rfl)
theorem wm_594 : (.instanceMethod yX9_readPast : Cond) ∈ wsL_law := sr_25 _ (List.mem_of_getElem? (i := 18) rfl)
theorem wm_595 : (.selects RX9 yX9_readPast yX9_readPast : Cond) ∈ wsL_law := sr_25 _ (List.mem_of_getElem? (i := 19) rfl)
theorem wm_596 : (.code yX9_readPast cX9_readPast 4 none : Cond) ∈ wsL_law := sr_25 _ (List.mem_of_getElem? (i := 20) rfl)
theorem wm_597 : (.methodLink RX9 253 yX9_readDrink : Cond) ∈ wsL_law := sr_25 _ (List.mem_of_getElem? (i := 21) rfl)
theorem wm_598 : (.instanceMethod yX9_readDrink : Cond) ∈ wsL_law := sr_25 _ (List.mem_of_getElem? (i := 22) rfl)
theorem wm_599 : (.selects RX9 yX9_readDrink yX9_readDrink : Cond) ∈ wsL_law := sr_25 _ (List.mem_of_getElem? (i := 23) rfl)
theorem wm_600 : (.code yX9_readDrink cX9_readDrink 2 none : Cond) ∈ wsL_law := sr_26 _ (List.mem_of_getElem? (i := 0) rfl)
theorem wm_601 : (.methodLink RX9 431 yX9_startsAnew : Cond) ∈ wsL_law := sr_26 _ (List.mem_of_getElem? (i := 1) rfl)
theorem wm_602 : (.instanceMethod yX9_startsAnew : Cond) ∈ wsL_law := sr_26 _ (List.mem_of_getElem? (i := 2) rfl)
theorem wm_603 : (.selects RX9 yX9_startsAnew yX9_startsAnew : Cond) ∈ wsL_law := sr_26 _ (List.mem_of_getElem? (i := 3) rfl)
theorem wm_604 : (.code yX9_startsAnew cX9_startsAnew 4 none : Cond) ∈ wsL_law := sr_26 _ (List.mem_of_getElem? (i := 4) rfl)
theorem wm_605 : (.methodLink RX9 62 yX9_done : Cond) ∈ wsL_law := sr_26 _ (List.mem_of_getElem? (i := 5) rfl)
theorem wm_606 : (.instanceMethod yX9_done : Cond) ∈ wsL_law := sr_26 _ (List.mem_of_getElem? (i := 6) rfl)
theorem wm_607 : (.selects RX9 yX9_done yX9_done : Cond) ∈ wsL_law := sr_26 _ (List.mem_of_getElem? (i := 7) rfl)
theorem wm_608 : (.code yX9_done cX9_done 2 (some .int) : Cond) ∈ wsL_law := sr_26 _ (List.mem_of_getElem? (i := 8) rfl)
theorem wm_609 : (.methodLink RL 28 yX7_fault : Cond) ∈ wsL_law := sr_26 _ (List.mem_of_getElem? (i := 9) rfl)
theorem wm_610 : (.instanceMethod yX7_fault : Cond) ∈ wsL_law := sr_26 _ (List.mem_of_getElem? (i := 10) rfl)
theorem wm_611 : (.selects RX7 yX7_fault yX7_fault : Cond) ∈ wsL_law := sr_26 _ (List.mem_of_getElem? (i := 11) rfl)
theorem wm_612 : (.code yX7_fault cX7_fault 1 (some .int) : Cond) ∈ wsL_law := sr_26 _ (List.mem_of_getElem? (i := 12) rfl)
theorem wm_613 : (.methodLink RL 32 yX9_fault : Cond) ∈ wsL_law := sr_26 _ (List.mem_of_getElem? (i := 13) rfl)
theorem wm_614 : (.instanceMethod yX9_fault : Cond) ∈ wsL_law := sr_26 _ (List.mem_of_getElem? (i := 14) rfl)
theorem wm_615 : (.selects RX9 yX9_fault yX9_fault : Cond) ∈ wsL_law := sr_26 _ (List.mem_of_getElem? (i := 15) rfl)
theorem wm_616 : (.code yX9_fault cX9_fault 1 (some .int) : Cond) ∈ wsL_law := sr_26 _ (List.mem_of_getElem? (i := 16) rfl)
theorem wm_617 : (.methodLink RL 33 yX7_where : Cond) ∈ wsL_law := sr_26 _ (List.mem_of_getElem? (i := 17) rfl)
theorem wm_618 : (.instanceMethod yX7_where : Cond) ∈ wsL_law := sr_26 _ (List.mem_of_getElem? (i := 18) rfl)
theorem wm_619 : (.selects RX7 yX7_where yX7_where : Cond) ∈ wsL_law := sr_26 _ (List.mem_of_getElem? (i := 19) rfl)
theorem wm_620 : (.code yX7_where cX7_where 1 (some .int) : Cond) ∈ wsL_law := sr_26 _ (List.mem_of_getElem? (i := 20) rfl)
theorem wm_621 : (.methodLink RL 36 yX9_where : Cond) ∈ wsL_law := sr_26 _ (List.mem_of_getElem? (i := 21) rfl)
theorem wm_622 : (.instanceMethod yX9_where : Cond) ∈ wsL_law := sr_26 _ (List.mem_of_getElem? (i := 22) rfl)
theorem wm_623 : (.selects RX9 yX9_where yX9_where : Cond) ∈ wsL_law := sr_26 _ (List.mem_of_getElem? (i := 23) rfl)
theorem wm_624 : (.code yX9_where cX9_where 1 (some .int) : Cond) ∈ wsL_law := sr_27 _ (List.mem_of_getElem? (i := 0) rfl)
theorem wm_625 : (.methodLink RL 37 yX7_sits : Cond) ∈ wsL_law := sr_27 _ (List.mem_of_getElem? (i := 1) rfl)
theorem wm_626 : (.instanceMethod yX7_sits : Cond) ∈ wsL_law := sr_27 _ (List.mem_of_getElem? (i := 2) rfl)
theorem wm_627 : (.selects RX7 yX7_sits yX7_sits : Cond) ∈ wsL_law := sr_27 _ (List.mem_of_getElem? (i := 3) rfl)
theorem wm_628 : (.code yX7_sits cX7_sits 2 (some .int) : Cond) ∈ wsL_law := sr_27 _ (List.mem_of_getElem? (i := 4) rfl)
theorem wm_629 : (.methodLink RX7 99 yX7_isRow : Cond) ∈ wsL_law := sr_27 _ (List.mem_of_getElem? (i := 5) rfl)
theorem wm_630 : (.instanceMethod yX7_isRow : Cond) ∈ wsL_law := sr_27 _ (List.mem_of_getElem? (i := 6) rfl)
theorem wm_631 : (.selects RX7 yX7_isRow yX7_isRow : Cond) ∈ wsL_law := sr_27 _ (List.mem_of_getElem? (i := 7) rfl)
theorem wm_632 : (.code yX7_isRow cX7_isRow 2 (some .boolean) : Cond) ∈ wsL_law := sr_27 _ (List.mem_of_getElem? (i := 8) rfl)
theorem wm_633 : (.methodLink RX7 110 yX1_rows : Cond) ∈ wsL_law := sr_27 _ (List.mem_of_getElem? (i := 9) rfl)
theorem wm_634 : (.methodLink RX7 103 yX1_sitting : Cond) ∈ wsL_law := sr_27 _ (List.mem_of_getElem? (i := 10) rfl)
theorem wm_635 : (.instanceMethod yX1_sitting : Cond) ∈ wsL_law := sr_27 _ (List.mem_of_getElem? (i := 11) rfl)
theorem wm_636 : (.selects RX1 yX1_sitting yX1_sitting : Cond) ∈ wsL_law := sr_27 _ (List.mem_of_getElem? (i := 12) rfl)
theorem wm_637 : (.code yX1_sitting cX1_sitting 2 (some .int) : Cond) ∈ wsL_law := sr_27 _ (List.mem_of_getElem? (i := 13) rfl)
theorem wm_638 : (.methodLink RL 40 yX9_sits : Cond) ∈ wsL_law := sr_27 _ (List.mem_of_getElem? (i := 14) rfl)
theorem wm_639 : (.instanceMethod yX9_sits : Cond) ∈ wsL_law := sr_27 _ (List.mem_of_getElem? (i := 15) rfl)
theorem wm_640 : (.selects RX9 yX9_sits yX9_sits : Cond) ∈ wsL_law := sr_27 _ (List.mem_of_getElem? (i := 16) rfl)
theorem wm_641 : (.code yX9_sits cX9_sits 2 (some .int) : Cond) ∈ wsL_law := sr_27 _ (List.mem_of_getElem? (i := 17) rfl)
theorem wm_642 : (.methodLink RX9 434 yX9_isRow : Cond) ∈ wsL_law := sr_27 _ (List.mem_of_getElem? (i := 18) rfl)
theorem wm_643 : (.instanceMethod yX9_isRow : Cond) ∈ wsL_law := sr_27 _ (List.mem_of_getElem? (i := 19) rfl)
theorem wm_644 : (.selects RX9 yX9_isRow yX9_isRow : Cond) ∈ wsL_law := sr_27 _ (List.mem_of_getElem? (i := 20) rfl)
theorem wm_645 : (.code yX9_isRow cX9_isRow 2 (some .boolean) : Cond) ∈ wsL_law := sr_27 _ (List.mem_of_getElem? (i := 21) rfl)
theorem wm_646 : (.methodLink RX9 437 yX8_sitsIn : Cond) ∈ wsL_law := sr_27 _ (List.mem_of_getElem? (i := 22) rfl)
theorem wm_647 : (.instanceMethod yX8_sitsIn : Cond) ∈ wsL_law := sr_27 _ (List.mem_of_getElem? (i := 23) rfl)
theorem wm_648 : (.selects RX8 yX8_sitsIn yX8_sitsIn : Cond) ∈ wsL_law := sr_28 _ (List.mem_of_getElem? (i := 0) rfl)
theorem wm_649 : (.code yX8_sitsIn cX8_sitsIn 2 (some .int) : Cond) ∈ wsL_law := sr_28 _ (List.mem_of_getElem? (i := 1) rfl)
theorem wm_650 : (.methodLink RX8 124 yX8_namedIn : Cond) ∈ wsL_law := sr_28 _ (List.mem_of_getElem? (i := 2) rfl)
theorem wm_651 : (.instanceMethod yX8_namedIn : Cond) ∈ wsL_law := sr_28 _ (List.mem_of_getElem? (i := 3) rfl)
theorem wm_652 : (.selects RX8 yX8_namedIn yX8_namedIn : Cond) ∈ wsL_law := sr_28 _ (List.mem_of_getElem? (i := 4) rfl)
theorem wm_653 : (.code yX8_namedIn cX8_namedIn 4 (some .int) : Cond) ∈ wsL_law := sr_28 _ (List.mem_of_getElem? (i := 5) rfl)
theorem wm_654 : (.fieldLink RX8 118 "TwoTrolleysModel$Flight" "nameds" "I" : Cond) ∈ wsL_law := sr_28 _ (List.mem_of_getElem? (i := 6) rfl)
theorem wm_655 : (.methodLink RX8 127 yX8_othersIn : Cond) ∈ wsL_law := sr_28 _ (List.mem_of_getElem? (i := 7) rfl)
theorem wm_656 : (.instanceMethod yX8_othersIn : Cond) ∈ wsL_law := sr_28 _ (List.mem_of_getElem? (i := 8) rfl)
theorem wm_657 : (.selects RX8 yX8_othersIn yX8_othersIn : Cond) ∈ wsL_law := sr_28 _ (List.mem_of_getElem? (i := 9) rfl)
theorem wm_658 : (.code yX8_othersIn cX8_othersIn 3 (some .int) : Cond) ∈ wsL_law := sr_28 _ (List.mem_of_getElem? (i := 10) rfl)
theorem wm_659 : (.methodLink RX8 121 yX8_seatsOf : Cond) ∈ wsL_law := sr_28 _ (List.mem_of_getElem? (i := 11) rfl)
theorem wm_660 : (.instanceMethod yX8_seatsOf : Cond) ∈ wsL_law := sr_28 _ (List.mem_of_getElem? (i := 12) rfl)
theorem wm_661 : (.selects RX8 yX8_seatsOf yX8_seatsOf : Cond) ∈ wsL_law := sr_28 _ (List.mem_of_getElem? (i := 13) rfl)
theorem wm_662 : (.code yX8_seatsOf cX8_seatsOf 2 (some .int) : Cond) ∈ wsL_law := sr_28 _ (List.mem_of_getElem? (i := 14) rfl)
theorem wm_663 : (.methodLink RX8 114 yX8_blockOf : Cond) ∈ wsL_law := sr_28 _ (List.mem_of_getElem? (i := 15) rfl)
theorem wm_664 : (.instanceMethod yX8_blockOf : Cond) ∈ wsL_law := sr_28 _ (List.mem_of_getElem? (i := 16) rfl)
theorem wm_665 : (.selects RX8 yX8_blockOf yX8_blockOf : Cond) ∈ wsL_law := sr_28 _ (List.mem_of_getElem? (i := 17) rfl)
theorem wm_666 : (.code yX8_blockOf cX8_blockOf 4 (some .int) : Cond) ∈ wsL_law := sr_28 _ (List.mem_of_getElem? (i := 18) rfl)
theorem wm_667 : (.fieldLink RX8 111 "TwoTrolleysModel$Flight" "blocks" "I" : Cond) ∈ wsL_law := sr_28 _ (List.mem_of_getElem? (i := 19) rfl)
theorem wm_668 : (.methodLink RL 41 yX7_all : Cond) ∈ wsL_law := sr_28 _ (List.mem_of_getElem? (i := 20) rfl)
theorem wm_669 : (.instanceMethod yX7_all : Cond) ∈ wsL_law := sr_28 _ (List.mem_of_getElem? (i := 21) rfl)
theorem wm_670 : (.selects RX7 yX7_all yX7_all : Cond) ∈ wsL_law := sr_28 _ (List.mem_of_getElem? (i := 22) rfl)
theorem wm_671 : (.code yX7_all cX7_all 1 (some .int) : Cond) ∈ wsL_law := sr_28 _ (List.mem_of_getElem? (i := 23) rfl)
theorem wm_672 : (.methodLink RX7 106 yX7_hasFlight : Cond) ∈ wsL_law := sr_29 _ (List.mem_of_getElem? (i := 0) rfl)
theorem wm_673 : (.instanceMethod yX7_hasFlight : Cond) ∈ wsL_law := sr_29 _ (List.mem_of_getElem? (i := 1) rfl)
theorem wm_674 : (.selects RX7 yX7_hasFlight yX7_hasFlight : Cond) ∈ wsL_law := sr_29 _ (List.mem_of_getElem? (i := 2) rfl)
theorem wm_675 : (.code yX7_hasFlight cX7_hasFlight 1 (some .boolean) : Cond) ∈ wsL_law := sr_29 _ (List.mem_of_getElem? (i := 3) rfl)
theorem wm_676 : (.methodLink RX7 113 yX1_sittingWithin : Cond) ∈ wsL_law := sr_29 _ (List.mem_of_getElem? (i := 4) rfl)
theorem wm_677 : (.instanceMethod yX1_sittingWithin : Cond) ∈ wsL_law := sr_29 _ (List.mem_of_getElem? (i := 5) rfl)
theorem wm_678 : (.selects RX1 yX1_sittingWithin yX1_sittingWithin : Cond) ∈ wsL_law := sr_29 _ (List.mem_of_getElem? (i := 6) rfl)
theorem wm_679 : (.code yX1_sittingWithin cX1_sittingWithin 5 (some .int) : Cond) ∈ wsL_law := sr_29 _ (List.mem_of_getElem? (i := 7) rfl)
theorem wm_680 : (.methodLink RX1 64 yX1_sitting : Cond) ∈ wsL_law := sr_29 _ (List.mem_of_getElem? (i := 8) rfl)
theorem wm_681 : (.methodLink RL 44 yX9_all : Cond) ∈ wsL_law := sr_29 _ (List.mem_of_getElem? (i := 9) rfl)
theorem wm_682 : (.instanceMethod yX9_all : Cond) ∈ wsL_law := sr_29 _ (List.mem_of_getElem? (i := 10) rfl)
theorem wm_683 : (.selects RX9 yX9_all yX9_all : Cond) ∈ wsL_law := sr_29 _ (List.mem_of_getElem? (i := 11) rfl)
theorem wm_684 : (.code yX9_all cX9_all 1 (some .int) : Cond) ∈ wsL_law := sr_29 _ (List.mem_of_getElem? (i := 12) rfl)
theorem wm_685 : (.methodLink RX9 440 yX9_sitsAll : Cond) ∈ wsL_law := sr_29 _ (List.mem_of_getElem? (i := 13) rfl)
theorem wm_686 : (.instanceMethod yX9_sitsAll : Cond) ∈ wsL_law := sr_29 _ (List.mem_of_getElem? (i := 14) rfl)
theorem wm_687 : (.selects RX9 yX9_sitsAll yX9_sitsAll : Cond) ∈ wsL_law := sr_29 _ (List.mem_of_getElem? (i := 15) rfl)
theorem wm_688 : (.code yX9_sitsAll cX9_sitsAll 3 (some .int) : Cond) ∈ wsL_law := sr_29 _ (List.mem_of_getElem? (i := 16) rfl)
theorem wm_689 : (.methodLink RL 45 yX7_likes : Cond) ∈ wsL_law := sr_29 _ (List.mem_of_getElem? (i := 17) rfl)
theorem wm_690 : (.instanceMethod yX7_likes : Cond) ∈ wsL_law := sr_29 _ (List.mem_of_getElem? (i := 18) rfl)
theorem wm_691 : (.selects RX7 yX7_likes yX7_likes : Cond) ∈ wsL_law := sr_29 _ (List.mem_of_getElem? (i := 19) rfl)
theorem wm_692 : (.code yX7_likes cX7_likes 3 (some .int) : Cond) ∈ wsL_law := sr_29 _ (List.mem_of_getElem? (i := 20) rfl)
theorem wm_693 : (.methodLink RX7 117 yX7_isKind : Cond) ∈ wsL_law := sr_29 _ (List.mem_of_getElem? (i := 21) rfl)
theorem wm_694 : (.instanceMethod yX7_isKind : Cond) ∈ wsL_law := sr_29 _ (List.mem_of_getElem? (i := 22) rfl)
theorem wm_695 : (.selects RX7 yX7_isKind yX7_isKind : Cond) ∈ wsL_law := sr_29 _ (List.mem_of_getElem? (i := 23) rfl)
theorem wm_696 : (.code yX7_isKind cX7_isKind 2 (some .boolean) : Cond) ∈ wsL_law := sr_30 _ (List.mem_of_getElem? (i := 0) rfl)
theorem wm_697 : (.methodLink RX7 120 yX1_weight : Cond) ∈ wsL_law := sr_30 _ (List.mem_of_getElem? (i := 1) rfl)
theorem wm_698 : (.instanceMethod yX1_weight : Cond) ∈ wsL_law := sr_30 _ (List.mem_of_getElem? (i := 2) rfl)
theorem wm_699 : (.selects RX1 yX1_weight yX1_weight : Cond) ∈ wsL_law := sr_30 _ (List.mem_of_getElem? (i := 3) rfl)
theorem wm_700 : (.code yX1_weight cX1_weight 3 (some .int) : Cond) ∈ wsL_law := sr_30 _ (List.mem_of_getElem? (i := 4) rfl)
theorem wm_701 : (.methodLink RX1 71 yX1_blockOf : Cond) ∈ wsL_law := sr_30 _ (List.mem_of_getElem? (i := 5) rfl)
theorem wm_702 : (.instanceMethod yX1_blockOf : Cond) ∈ wsL_law := sr_30 _ (List.mem_of_getElem? (i := 6) rfl)
theorem wm_703 : (.selects RX1 yX1_blockOf yX1_blockOf : Cond) ∈ wsL_law := sr_30 _ (List.mem_of_getElem? (i := 7) rfl)
theorem wm_704 : (.code yX1_blockOf cX1_blockOf 2 (some .int) : Cond) ∈ wsL_law := sr_30 _ (List.mem_of_getElem? (i := 8) rfl)
theorem wm_705 : (.methodLink RX1 74 yX1_weightIn : Cond) ∈ wsL_law := sr_30 _ (List.mem_of_getElem? (i := 9) rfl)
theorem wm_706 : (.methodLink RL 49 yX9_likes : Cond) ∈ wsL_law := sr_30 _ (List.mem_of_getElem? (i := 10) rfl)
theorem wm_707 : (.instanceMethod yX9_likes : Cond) ∈ wsL_law := sr_30 _ (List.mem_of_getElem? (i := 11) rfl)
theorem wm_708 : (.selects RX9 yX9_likes yX9_likes : Cond) ∈ wsL_law := sr_30 _ (List.mem_of_getElem? (i := 12) rfl)
theorem wm_709 : (.code yX9_likes cX9_likes 3 (some .int) : Cond) ∈ wsL_law := sr_30 _ (List.mem_of_getElem? (i := 13) rfl)
theorem wm_710 : (.methodLink RX9 446 yX9_isKind : Cond) ∈ wsL_law := sr_30 _ (List.mem_of_getElem? (i := 14) rfl)
theorem wm_711 : (.instanceMethod yX9_isKind : Cond) ∈ wsL_law := sr_30 _ (List.mem_of_getElem? (i := 15) rfl)
theorem wm_712 : (.selects RX9 yX9_isKind yX9_isKind : Cond) ∈ wsL_law := sr_30 _ (List.mem_of_getElem? (i := 16) rfl)
theorem wm_713 : (.code yX9_isKind cX9_isKind 2 (some .boolean) : Cond) ∈ wsL_law := sr_30 _ (List.mem_of_getElem? (i := 17) rfl)
theorem wm_714 : (.methodLink RX9 449 yX9_weightOf : Cond) ∈ wsL_law := sr_30 _ (List.mem_of_getElem? (i := 18) rfl)
theorem wm_715 : (.instanceMethod yX9_weightOf : Cond) ∈ wsL_law := sr_30 _ (List.mem_of_getElem? (i := 19) rfl)
theorem wm_716 : (.selects RX9 yX9_weightOf yX9_weightOf : Cond) ∈ wsL_law := sr_30 _ (List.mem_of_getElem? (i := 20) rfl)
theorem wm_717 : (.code yX9_weightOf cX9_weightOf 5 (some .int) : Cond) ∈ wsL_law := sr_30 _ (List.mem_of_getElem? (i := 21) rfl)
theorem wm_718 : (.methodLink RX9 443 yX8_blockOf : Cond) ∈ wsL_law := sr_30 _ (List.mem_of_getElem? (i := 22) rfl)
theorem wm_719 : (.methodLink RL 50 yX7_loaded : Cond) ∈ wsL_law := sr_30 _ (List.mem_of_getElem? (i := 23) rfl)
theorem wm_720 : (.instanceMethod yX7_loaded : Cond) ∈ wsL_law := sr_31 _ (List.mem_of_getElem? (i := 0) rfl)
theorem wm_721 : (.selects RX7 yX7_loaded yX7_loaded : Cond) ∈ wsL_law := sr_31 _ (List.mem_of_getElem? (i := 1) rfl)
theorem wm_722 : (.code yX7_loaded cX7_loaded 3 (some .int) : Cond) ∈ wsL_law := sr_31 _ (List.mem_of_getElem? (i := 2) rfl)
theorem wm_723 : (.methodLink RX7 123 yX7_isTrolley : Cond) ∈ wsL_law := sr_31 _ (List.mem_of_getElem? (i := 3) rfl)
theorem wm_724 : (.instanceMethod yX7_isTrolley : Cond) ∈ wsL_law := sr_31 _ (List.mem_of_getElem? (i := 4) rfl)
theorem wm_725 : (.selects RX7 yX7_isTrolley yX7_isTrolley : Cond) ∈ wsL_law := sr_31 _ (List.mem_of_getElem? (i := 5) rfl)
theorem wm_726 : (.code yX7_isTrolley cX7_isTrolley 2 (some .boolean) : Cond) ∈ wsL_law := sr_31 _ (List.mem_of_getElem? (i := 6) rfl)
theorem wm_727 : (.methodLink RX7 126 yX1_loadOf : Cond) ∈ wsL_law := sr_31 _ (List.mem_of_getElem? (i := 7) rfl)
theorem wm_728 : (.methodLink RL 53 yX9_loaded : Cond) ∈ wsL_law := sr_31 _ (List.mem_of_getElem? (i := 8) rfl)
theorem wm_729 : (.instanceMethod yX9_loaded : Cond) ∈ wsL_law := sr_31 _ (List.mem_of_getElem? (i := 9) rfl)
theorem wm_730 : (.selects RX9 yX9_loaded yX9_loaded : Cond) ∈ wsL_law := sr_31 _ (List.mem_of_getElem? (i := 10) rfl)
theorem wm_731 : (.code yX9_loaded cX9_loaded 3 (some .int) : Cond) ∈ wsL_law := sr_31 _ (List.mem_of_getElem? (i := 11) rfl)
theorem wm_732 : (.methodLink RX9 452 yX9_isTrolley : Cond) ∈ wsL_law := sr_31 _ (List.mem_of_getElem? (i := 12) rfl)
theorem wm_733 : (.instanceMethod yX9_isTrolley : Cond) ∈ wsL_law := sr_31 _ (List.mem_of_getElem? (i := 13) rfl)
theorem wm_734 : (.selects RX9 yX9_isTrolley yX9_isTrolley : Cond) ∈ wsL_law := sr_31 _ (List.mem_of_getElem? (i := 14) rfl)
theorem wm_735 : (.code yX9_isTrolley cX9_isTrolley 2 (some .boolean) : Cond) ∈ wsL_law := sr_31 _ (List.mem_of_getElem? (i := 15) rfl)
theorem wm_736 : (.methodLink RL 54 yX7_fitsIn : Cond) ∈ wsL_law := sr_31 _ (List.mem_of_getElem? (i := 16) rfl)
theorem wm_737 : (.instanceMethod yX7_fitsIn : Cond) ∈ wsL_law := sr_31 _ (List.mem_of_getElem? (i := 17) rfl)
theorem wm_738 : (.selects RX7 yX7_fitsIn yX7_fitsIn : Cond) ∈ wsL_law := sr_31 _ (List.mem_of_getElem? (i := 18) rfl)
theorem wm_739 : (.code yX7_fitsIn cX7_fitsIn 2 (some .int) : Cond) ∈ wsL_law := sr_31 _ (List.mem_of_getElem? (i := 19) rfl)
theorem wm_740 : (.methodLink RX7 129 yX0_holdLoad : Cond) ∈ wsL_law := sr_31 _ (List.mem_of_getElem? (i := 20) rfl)
theorem wm_741 : (.instanceMethod yX0_holdLoad : Cond) ∈ wsL_law := sr_31 _ (List.mem_of_getElem? (i := 21) rfl)
theorem wm_742 : (.selects RX0 yX0_holdLoad yX0_holdLoad : Cond) ∈ wsL_law := sr_31 _ (List.mem_of_getElem? (i := 22) rfl)
theorem wm_743 : (.code yX0_holdLoad cX0_holdLoad 6 (some .boolean) : Cond) ∈ wsL_law := sr_31 _ (List.mem_of_getElem? (i := 23) rfl)
theorem wm_744 : (.methodLink RX0 37 yX0_empty : Cond) ∈ wsL_law := sr_32 _ (List.mem_of_getElem? (i := 0) rfl)
theorem wm_745 : (.instanceMethod yX0_empty : Cond) ∈ wsL_law := sr_32 _ (List.mem_of_getElem? (i := 1) rfl)
theorem wm_746 : (.selects RX0 yX0_empty yX0_empty : Cond) ∈ wsL_law := sr_32 _ (List.mem_of_getElem? (i := 2) rfl)
theorem wm_747 : (.code yX0_empty cX0_empty 4 none : Cond) ∈ wsL_law := sr_32 _ (List.mem_of_getElem? (i := 3) rfl)
theorem wm_748 : (.methodLink RX0 27 Lib.Math.min.name : Cond) ∈ wsL_law := sr_32 _ (List.mem_of_getElem? (i := 4) rfl)
theorem wm_749 : (.fieldLink RX0 33 "TwoTrolleys$Drawers" "count" "I" : Cond) ∈ wsL_law := sr_32 _ (List.mem_of_getElem? (i := 5) rfl)
theorem wm_750 : (.methodLink RX0 21 yX1_get : Cond) ∈ wsL_law := sr_32 _ (List.mem_of_getElem? (i := 6) rfl)
theorem wm_751 : (.methodLink RX0 41 yX1_count : Cond) ∈ wsL_law := sr_32 _ (List.mem_of_getElem? (i := 7) rfl)
theorem wm_752 : (.methodLink RX0 44 yX1_loadOf : Cond) ∈ wsL_law := sr_32 _ (List.mem_of_getElem? (i := 8) rfl)
theorem wm_753 : (.methodLink RX0 47 yX0_takes : Cond) ∈ wsL_law := sr_32 _ (List.mem_of_getElem? (i := 9) rfl)
theorem wm_754 : (.instanceMethod yX0_takes : Cond) ∈ wsL_law := sr_32 _ (List.mem_of_getElem? (i := 10) rfl)
theorem wm_755 : (.selects RX0 yX0_takes yX0_takes : Cond) ∈ wsL_law := sr_32 _ (List.mem_of_getElem? (i := 11) rfl)
theorem wm_756 : (.code yX0_takes cX0_takes 3 (some .boolean) : Cond) ∈ wsL_law := sr_32 _ (List.mem_of_getElem? (i := 12) rfl)
theorem wm_757 : (.methodLink RL 57 yX9_fitsIn : Cond) ∈ wsL_law := sr_32 _ (List.mem_of_getElem? (i := 13) rfl)
theorem wm_758 : (.instanceMethod yX9_fitsIn : Cond) ∈ wsL_law := sr_32 _ (List.mem_of_getElem? (i := 14) rfl)
theorem wm_759 : (.selects RX9 yX9_fitsIn yX9_fitsIn : Cond) ∈ wsL_law := sr_32 _ (List.mem_of_getElem? (i := 15) rfl)
theorem wm_760 : (.code yX9_fitsIn cX9_fitsIn 5 (some .int) : Cond) ∈ wsL_law := sr_32 _ (List.mem_of_getElem? (i := 16) rfl)
theorem wm_761 : (.methodLink RX9 455 yX9_empties : Cond) ∈ wsL_law := sr_32 _ (List.mem_of_getElem? (i := 17) rfl)
theorem wm_762 : (.instanceMethod yX9_empties : Cond) ∈ wsL_law := sr_32 _ (List.mem_of_getElem? (i := 18) rfl)
theorem wm_763 : (.selects RX9 yX9_empties yX9_empties : Cond) ∈ wsL_law := sr_32 _ (List.mem_of_getElem? (i := 19) rfl)
theorem wm_764 : (.code yX9_empties cX9_empties 3 none : Cond) ∈ wsL_law := sr_32 _ (List.mem_of_getElem? (i := 20) rfl)
theorem wm_765 : (.methodLink RX9 458 yX9_goesIn : Cond) ∈ wsL_law := sr_32 _ (List.mem_of_getElem? (i := 21) rfl)
theorem wm_766 : (.instanceMethod yX9_goesIn : Cond) ∈ wsL_law := sr_32 _ (List.mem_of_getElem? (i := 22) rfl)
theorem wm_767 : (.selects RX9 yX9_goesIn yX9_goesIn : Cond) ∈ wsL_law := sr_32 _ (List.mem_of_getElem? (i := 23) rfl)
theorem wm_768 : (.code yX9_goesIn cX9_goesIn 4 (some .boolean) : Cond) ∈ wsL_law := sr_33 _ (List.mem_of_getElem? (i := 0) rfl)
theorem wm_769 : (.methodLink RL 58 yX7_start : Cond) ∈ wsL_law := sr_33 _ (List.mem_of_getElem? (i := 1) rfl)
theorem wm_770 : (.instanceMethod yX7_start : Cond) ∈ wsL_law := sr_33 _ (List.mem_of_getElem? (i := 2) rfl)
theorem wm_771 : (.selects RX7 yX7_start yX7_start : Cond) ∈ wsL_law := sr_33 _ (List.mem_of_getElem? (i := 3) rfl)
theorem wm_772 : (.code yX7_start cX7_start 2 (some .boolean) : Cond) ∈ wsL_law := sr_33 _ (List.mem_of_getElem? (i := 4) rfl)
theorem wm_773 : (.constant RX7 136 (65536) : Cond) ∈ wsL_law := sr_33 _ (List.mem_of_getElem? (i := 5) rfl)
theorem wm_774 : (.methodLink RX7 133 yX7_deny : Cond) ∈ wsL_law := sr_33 _ (List.mem_of_getElem? (i := 6) rfl)
theorem wm_775 : (.instanceMethod yX7_deny : Cond) ∈ wsL_law := sr_33 _ (List.mem_of_getElem? (i := 7) rfl)
theorem wm_776 : (.selects RX7 yX7_deny yX7_deny : Cond) ∈ wsL_law := sr_33 _ (List.mem_of_getElem? (i := 8) rfl)
theorem wm_777 : (.code yX7_deny cX7_deny 2 (some .boolean) : Cond) ∈ wsL_law := sr_33 _ (List.mem_of_getElem? (i := 9) rfl)
theorem wm_778 : (.methodLink RX7 137 yX7_grant : Cond) ∈ wsL_law := sr_33 _ (List.mem_of_getElem? (i := 10) rfl)
theorem wm_779 : (.instanceMethod yX7_grant : Cond) ∈ wsL_law := sr_33 _ (List.mem_of_getElem? (i := 11) rfl)
theorem wm_780 : (.selects RX7 yX7_grant yX7_grant : Cond) ∈ wsL_law := sr_33 _ (List.mem_of_getElem? (i := 12) rfl)
theorem wm_781 : (.code yX7_grant cX7_grant 1 (some .boolean) : Cond) ∈ wsL_law := sr_33 _ (List.mem_of_getElem? (i := 13) rfl)
theorem wm_782 : (.methodLink RL 62 yX9_start : Cond) ∈ wsL_law := sr_33 _ (List.mem_of_getElem? (i := 14) rfl)
theorem wm_783 : (.instanceMethod yX9_start : Cond) ∈ wsL_law := sr_33 _ (List.mem_of_getElem? (i := 15) rfl)
theorem wm_784 : (.selects RX9 yX9_start yX9_start : Cond) ∈ wsL_law := sr_33 _ (List.mem_of_getElem? (i := 16) rfl)
theorem wm_785 : (.code yX9_start cX9_start 2 (some .boolean) : Cond) ∈ wsL_law := sr_33 _ (List.mem_of_getElem? (i := 17) rfl)
theorem wm_786 : (.constant RX9 465 (65536) : Cond) ∈ wsL_law := sr_33 _ (List.mem_of_getElem? (i := 18) rfl)
theorem wm_787 : (.methodLink RX9 462 yX9_denied : Cond) ∈ wsL_law := sr_33 _ (List.mem_of_getElem? (i := 19) rfl)
theorem wm_788 : (.instanceMethod yX9_denied : Cond) ∈ wsL_law := sr_33 _ (List.mem_of_getElem? (i := 20) rfl)
theorem wm_789 : (.selects RX9 yX9_denied yX9_denied : Cond) ∈ wsL_law := sr_33 _ (List.mem_of_getElem? (i := 21) rfl)
theorem wm_790 : (.code yX9_denied cX9_denied 2 (some .boolean) : Cond) ∈ wsL_law := sr_33 _ (List.mem_of_getElem? (i := 22) rfl)
theorem wm_791 : (.methodLink RX9 466 yX9_granted : Cond) ∈ wsL_law := sr_33 _ (List.mem_of_getElem? (i := 23) rfl)
theorem wm_792 : (.instanceMethod yX9_granted : Cond) ∈ wsL_law := sr_34 _ (List.mem_of_getElem? (i := 0) rfl)
theorem wm_793 : (.selects RX9 yX9_granted yX9_granted : Cond) ∈ wsL_law := sr_34 _ (List.mem_of_getElem? (i := 1) rfl)
theorem wm_794 : (.code yX9_granted cX9_granted 1 (some .boolean) : Cond) ∈ wsL_law := sr_34 _ (List.mem_of_getElem? (i := 2) rfl)
theorem wm_795 : (.methodLink RL 63 yX7_step : Cond) ∈ wsL_law := sr_34 _ (List.mem_of_getElem? (i := 3) rfl)
theorem wm_796 : (.instanceMethod yX7_step : Cond) ∈ wsL_law := sr_34 _ (List.mem_of_getElem? (i := 4) rfl)
theorem wm_797 : (.selects RX7 yX7_step yX7_step : Cond) ∈ wsL_law := sr_34 _ (List.mem_of_getElem? (i := 5) rfl)
theorem wm_798 : (.code yX7_step cX7_step 1 (some .int) : Cond) ∈ wsL_law := sr_34 _ (List.mem_of_getElem? (i := 6) rfl)
theorem wm_799 : (.methodLink RX7 140 yX3_isOver : Cond) ∈ wsL_law := sr_34 _ (List.mem_of_getElem? (i := 7) rfl)
theorem wm_800 : (.instanceMethod yX3_isOver : Cond) ∈ wsL_law := sr_34 _ (List.mem_of_getElem? (i := 8) rfl)
theorem wm_801 : (.selects RX3 yX3_isOver yX3_isOver : Cond) ∈ wsL_law := sr_34 _ (List.mem_of_getElem? (i := 9) rfl)
theorem wm_802 : (.code yX3_isOver cX3_isOver 1 (some .boolean) : Cond) ∈ wsL_law := sr_34 _ (List.mem_of_getElem? (i := 10) rfl)
theorem wm_803 : (.methodLink RX7 143 yX3_advance : Cond) ∈ wsL_law := sr_34 _ (List.mem_of_getElem? (i := 11) rfl)
theorem wm_804 : (.instanceMethod yX3_advance : Cond) ∈ wsL_law := sr_34 _ (List.mem_of_getElem? (i := 12) rfl)
theorem wm_805 : (.selects RX3 yX3_advance yX3_advance : Cond) ∈ wsL_law := sr_34 _ (List.mem_of_getElem? (i := 13) rfl)
theorem wm_806 : (.code yX3_advance cX3_advance 7 (some .int) : Cond) ∈ wsL_law := sr_34 _ (List.mem_of_getElem? (i := 14) rfl)
theorem wm_807 : (.methodLink RX3 62 yX3_nextTrolley : Cond) ∈ wsL_law := sr_34 _ (List.mem_of_getElem? (i := 15) rfl)
theorem wm_808 : (.instanceMethod yX3_nextTrolley : Cond) ∈ wsL_law := sr_34 _ (List.mem_of_getElem? (i := 16) rfl)
theorem wm_809 : (.selects RX3 yX3_nextTrolley yX3_nextTrolley : Cond) ∈ wsL_law := sr_34 _ (List.mem_of_getElem? (i := 17) rfl)
theorem wm_810 : (.code yX3_nextTrolley cX3_nextTrolley 2 (some .int) : Cond) ∈ wsL_law := sr_34 _ (List.mem_of_getElem? (i := 18) rfl)
theorem wm_811 : (.methodLink RX3 92 yX1_count : Cond) ∈ wsL_law := sr_34 _ (List.mem_of_getElem? (i := 19) rfl)
theorem wm_812 : (.methodLink RX3 66 yX1_isFront : Cond) ∈ wsL_law := sr_34 _ (List.mem_of_getElem? (i := 20) rfl)
theorem wm_813 : (.instanceMethod yX1_isFront : Cond) ∈ wsL_law := sr_34 _ (List.mem_of_getElem? (i := 21) rfl)
theorem wm_814 : (.selects RX1 yX1_isFront yX1_isFront : Cond) ∈ wsL_law := sr_34 _ (List.mem_of_getElem? (i := 22) rfl)
theorem wm_815 : (.code yX1_isFront cX1_isFront 2 (some .boolean) : Cond) ∈ wsL_law := sr_34 _ (List.mem_of_getElem? (i := 23) rfl)
theorem wm_816 : (.methodLink RX3 70 yX1_behindBelts : Cond) ∈ wsL_law := sr_35 _ (List.mem_of_getElem? (i := 0) rfl)
theorem wm_817 : (.instanceMethod yX1_behindBelts : Cond) ∈ wsL_law := sr_35 _ (List.mem_of_getElem? (i := 1) rfl)
theorem wm_818 : (.selects RX1 yX1_behindBelts yX1_behindBelts : Cond) ∈ wsL_law := sr_35 _ (List.mem_of_getElem? (i := 2) rfl)
theorem wm_819 : (.code yX1_behindBelts cX1_behindBelts 6 (some .int) : Cond) ∈ wsL_law := sr_35 _ (List.mem_of_getElem? (i := 3) rfl)
theorem wm_820 : (.methodLink RX3 74 yX1_walk : Cond) ∈ wsL_law := sr_35 _ (List.mem_of_getElem? (i := 4) rfl)
theorem wm_821 : (.instanceMethod yX1_walk : Cond) ∈ wsL_law := sr_35 _ (List.mem_of_getElem? (i := 5) rfl)
theorem wm_822 : (.selects RX1 yX1_walk yX1_walk : Cond) ∈ wsL_law := sr_35 _ (List.mem_of_getElem? (i := 6) rfl)
theorem wm_823 : (.code yX1_walk cX1_walk 1 (some .int) : Cond) ∈ wsL_law := sr_35 _ (List.mem_of_getElem? (i := 7) rfl)
theorem wm_824 : (.methodLink RX3 77 yX3_addFact : Cond) ∈ wsL_law := sr_35 _ (List.mem_of_getElem? (i := 8) rfl)
theorem wm_825 : (.instanceMethod yX3_addFact : Cond) ∈ wsL_law := sr_35 _ (List.mem_of_getElem? (i := 9) rfl)
theorem wm_826 : (.selects RX3 yX3_addFact yX3_addFact : Cond) ∈ wsL_law := sr_35 _ (List.mem_of_getElem? (i := 10) rfl)
theorem wm_827 : (.code yX3_addFact cX3_addFact 5 none : Cond) ∈ wsL_law := sr_35 _ (List.mem_of_getElem? (i := 11) rfl)
theorem wm_828 : (.methodLink RX3 81 yX3_serveNamed : Cond) ∈ wsL_law := sr_35 _ (List.mem_of_getElem? (i := 12) rfl)
theorem wm_829 : (.instanceMethod yX3_serveNamed : Cond) ∈ wsL_law := sr_35 _ (List.mem_of_getElem? (i := 13) rfl)
theorem wm_830 : (.selects RX3 yX3_serveNamed yX3_serveNamed : Cond) ∈ wsL_law := sr_35 _ (List.mem_of_getElem? (i := 14) rfl)
theorem wm_831 : (.code yX3_serveNamed cX3_serveNamed 6 none : Cond) ∈ wsL_law := sr_35 _ (List.mem_of_getElem? (i := 15) rfl)
theorem wm_832 : (.methodLink RX3 95 yX1_get : Cond) ∈ wsL_law := sr_35 _ (List.mem_of_getElem? (i := 16) rfl)
theorem wm_833 : (.methodLink RX3 59 yX3_fact : Cond) ∈ wsL_law := sr_35 _ (List.mem_of_getElem? (i := 17) rfl)
theorem wm_834 : (.instanceMethod yX3_fact : Cond) ∈ wsL_law := sr_35 _ (List.mem_of_getElem? (i := 18) rfl)
theorem wm_835 : (.selects RX3 yX3_fact yX3_fact : Cond) ∈ wsL_law := sr_35 _ (List.mem_of_getElem? (i := 19) rfl)
theorem wm_836 : (.code yX3_fact cX3_fact 4 (some .int) : Cond) ∈ wsL_law := sr_35 _ (List.mem_of_getElem? (i := 20) rfl)
theorem wm_837 : (.methodLink RX3 99 yX3_leftOf : Cond) ∈ wsL_law := sr_35 _ (List.mem_of_getElem? (i := 21) rfl)
theorem wm_838 : (.instanceMethod yX3_leftOf : Cond) ∈ wsL_law := sr_35 _ (List.mem_of_getElem? (i := 22) rfl)
theorem wm_839 : (.selects RX3 yX3_leftOf yX3_leftOf : Cond) ∈ wsL_law := sr_35 _ (List.mem_of_getElem? (i := 23) rfl)
theorem wm_840 : (.code yX3_leftOf cX3_leftOf 4 (some .int) : Cond) ∈ wsL_law := sr_36 _ (List.mem_of_getElem? (i := 0) rfl)
theorem wm_841 : (.methodLink RX3 102 yX3_hand : Cond) ∈ wsL_law := sr_36 _ (List.mem_of_getElem? (i := 1) rfl)
theorem wm_842 : (.instanceMethod yX3_hand : Cond) ∈ wsL_law := sr_36 _ (List.mem_of_getElem? (i := 2) rfl)
theorem wm_843 : (.selects RX3 yX3_hand yX3_hand : Cond) ∈ wsL_law := sr_36 _ (List.mem_of_getElem? (i := 3) rfl)
theorem wm_844 : (.code yX3_hand cX3_hand 5 none : Cond) ∈ wsL_law := sr_36 _ (List.mem_of_getElem? (i := 4) rfl)
theorem wm_845 : (.methodLink RX3 123 yX1_serve : Cond) ∈ wsL_law := sr_36 _ (List.mem_of_getElem? (i := 5) rfl)
theorem wm_846 : (.instanceMethod yX1_serve : Cond) ∈ wsL_law := sr_36 _ (List.mem_of_getElem? (i := 6) rfl)
theorem wm_847 : (.selects RX1 yX1_serve yX1_serve : Cond) ∈ wsL_law := sr_36 _ (List.mem_of_getElem? (i := 7) rfl)
theorem wm_848 : (.code yX1_serve cX1_serve 1 (some .int) : Cond) ∈ wsL_law := sr_36 _ (List.mem_of_getElem? (i := 8) rfl)
theorem wm_849 : (.methodLink RX3 126 yX1_isCold : Cond) ∈ wsL_law := sr_36 _ (List.mem_of_getElem? (i := 9) rfl)
theorem wm_850 : (.instanceMethod yX1_isCold : Cond) ∈ wsL_law := sr_36 _ (List.mem_of_getElem? (i := 10) rfl)
theorem wm_851 : (.selects RX1 yX1_isCold yX1_isCold : Cond) ∈ wsL_law := sr_36 _ (List.mem_of_getElem? (i := 11) rfl)
theorem wm_852 : (.code yX1_isCold cX1_isCold 3 (some .boolean) : Cond) ∈ wsL_law := sr_36 _ (List.mem_of_getElem? (i := 12) rfl)
theorem wm_853 : (.methodLink RX1 80 yX1_degrees : Cond) ∈ wsL_law := sr_36 _ (List.mem_of_getElem? (i := 13) rfl)
theorem wm_854 : (.instanceMethod yX1_degrees : Cond) ∈ wsL_law := sr_36 _ (List.mem_of_getElem? (i := 14) rfl)
theorem wm_855 : (.selects RX1 yX1_degrees yX1_degrees : Cond) ∈ wsL_law := sr_36 _ (List.mem_of_getElem? (i := 15) rfl)
theorem wm_856 : (.code yX1_degrees cX1_degrees 6 (some .int) : Cond) ∈ wsL_law := sr_36 _ (List.mem_of_getElem? (i := 16) rfl)
theorem wm_857 : (.methodLink RX3 85 yX3_serveOthers : Cond) ∈ wsL_law := sr_36 _ (List.mem_of_getElem? (i := 17) rfl)
theorem wm_858 : (.instanceMethod yX3_serveOthers : Cond) ∈ wsL_law := sr_36 _ (List.mem_of_getElem? (i := 18) rfl)
theorem wm_859 : (.selects RX3 yX3_serveOthers yX3_serveOthers : Cond) ∈ wsL_law := sr_36 _ (List.mem_of_getElem? (i := 19) rfl)
theorem wm_860 : (.code yX3_serveOthers cX3_serveOthers 9 none : Cond) ∈ wsL_law := sr_36 _ (List.mem_of_getElem? (i := 20) rfl)
theorem wm_861 : (.methodLink RX3 111 Lib.Math.max.name : Cond) ∈ wsL_law := sr_36 _ (List.mem_of_getElem? (i := 21) rfl)
theorem wm_862 : (.constant RX3 116 (65537) : Cond) ∈ wsL_law := sr_36 _ (List.mem_of_getElem? (i := 22) rfl)
theorem wm_863 : (.methodLink RX3 105 yX1_unnamedIn : Cond) ∈ wsL_law := sr_36 _ (List.mem_of_getElem? (i := 23) rfl)
theorem wm_864 : (.instanceMethod yX1_unnamedIn : Cond) ∈ wsL_law := sr_37 _ (List.mem_of_getElem? (i := 0) rfl)
theorem wm_865 : (.selects RX1 yX1_unnamedIn yX1_unnamedIn : Cond) ∈ wsL_law := sr_37 _ (List.mem_of_getElem? (i := 1) rfl)
theorem wm_866 : (.code yX1_unnamedIn cX1_unnamedIn 2 (some .int) : Cond) ∈ wsL_law := sr_37 _ (List.mem_of_getElem? (i := 2) rfl)
theorem wm_867 : (.methodLink RX3 108 yX1_weights : Cond) ∈ wsL_law := sr_37 _ (List.mem_of_getElem? (i := 3) rfl)
theorem wm_868 : (.instanceMethod yX1_weights : Cond) ∈ wsL_law := sr_37 _ (List.mem_of_getElem? (i := 4) rfl)
theorem wm_869 : (.selects RX1 yX1_weights yX1_weights : Cond) ∈ wsL_law := sr_37 _ (List.mem_of_getElem? (i := 5) rfl)
theorem wm_870 : (.code yX1_weights cX1_weights 4 (some .int) : Cond) ∈ wsL_law := sr_37 _ (List.mem_of_getElem? (i := 6) rfl)
theorem wm_871 : (.methodLink RX3 117 yX1_likedBy : Cond) ∈ wsL_law := sr_37 _ (List.mem_of_getElem? (i := 7) rfl)
theorem wm_872 : (.instanceMethod yX1_likedBy : Cond) ∈ wsL_law := sr_37 _ (List.mem_of_getElem? (i := 8) rfl)
theorem wm_873 : (.selects RX1 yX1_likedBy yX1_likedBy : Cond) ∈ wsL_law := sr_37 _ (List.mem_of_getElem? (i := 9) rfl)
theorem wm_874 : (.code yX1_likedBy cX1_likedBy 6 (some .int) : Cond) ∈ wsL_law := sr_37 _ (List.mem_of_getElem? (i := 10) rfl)
theorem wm_875 : (.methodLink RX3 120 yX3_mostLeft : Cond) ∈ wsL_law := sr_37 _ (List.mem_of_getElem? (i := 11) rfl)
theorem wm_876 : (.instanceMethod yX3_mostLeft : Cond) ∈ wsL_law := sr_37 _ (List.mem_of_getElem? (i := 12) rfl)
theorem wm_877 : (.selects RX3 yX3_mostLeft yX3_mostLeft : Cond) ∈ wsL_law := sr_37 _ (List.mem_of_getElem? (i := 13) rfl)
theorem wm_878 : (.code yX3_mostLeft cX3_mostLeft 4 (some .int) : Cond) ∈ wsL_law := sr_37 _ (List.mem_of_getElem? (i := 14) rfl)
theorem wm_879 : (.methodLink RX3 89 yX1_beltsBegunWithin : Cond) ∈ wsL_law := sr_37 _ (List.mem_of_getElem? (i := 15) rfl)
theorem wm_880 : (.instanceMethod yX1_beltsBegunWithin : Cond) ∈ wsL_law := sr_37 _ (List.mem_of_getElem? (i := 16) rfl)
theorem wm_881 : (.selects RX1 yX1_beltsBegunWithin yX1_beltsBegunWithin : Cond) ∈ wsL_law := sr_37 _ (List.mem_of_getElem? (i := 17) rfl)
theorem wm_882 : (.code yX1_beltsBegunWithin cX1_beltsBegunWithin 6 (some .int) : Cond) ∈ wsL_law := sr_37 _ (List.mem_of_getElem? (i := 18) rfl)
theorem wm_883 : (.methodLink RL 66 yX9_step : Cond) ∈ wsL_law := sr_37 _ (List.mem_of_getElem? (i := 19) rfl)
theorem wm_884 : (.instanceMethod yX9_step : Cond) ∈ wsL_law := sr_37 _ (List.mem_of_getElem? (i := 20) rfl)
theorem wm_885 : (.selects RX9 yX9_step yX9_step : Cond) ∈ wsL_law := sr_37 _ (List.mem_of_getElem? (i := 21) rfl)
theorem wm_886 : (.code yX9_step cX9_step 1 (some .int) : Cond) ∈ wsL_law := sr_37 _ (List.mem_of_getElem? (i := 22) rfl)
theorem wm_887 : (.methodLink RX9 513 yX9_isOver : Cond) ∈ wsL_law := sr_37 _ (List.mem_of_getElem? (i := 23) rfl)
theorem wm_888 : (.instanceMethod yX9_isOver : Cond) ∈ wsL_law := sr_38 _ (List.mem_of_getElem? (i := 0) rfl)
theorem wm_889 : (.selects RX9 yX9_isOver yX9_isOver : Cond) ∈ wsL_law := sr_38 _ (List.mem_of_getElem? (i := 1) rfl)
theorem wm_890 : (.code yX9_isOver cX9_isOver 1 (some .boolean) : Cond) ∈ wsL_law := sr_38 _ (List.mem_of_getElem? (i := 2) rfl)
theorem wm_891 : (.methodLink RX9 516 yX9_steps : Cond) ∈ wsL_law := sr_38 _ (List.mem_of_getElem? (i := 3) rfl)
theorem wm_892 : (.instanceMethod yX9_steps : Cond) ∈ wsL_law := sr_38 _ (List.mem_of_getElem? (i := 4) rfl)
theorem wm_893 : (.selects RX9 yX9_steps yX9_steps : Cond) ∈ wsL_law := sr_38 _ (List.mem_of_getElem? (i := 5) rfl)
theorem wm_894 : (.code yX9_steps cX9_steps 5 (some .int) : Cond) ∈ wsL_law := sr_38 _ (List.mem_of_getElem? (i := 6) rfl)
theorem wm_895 : (.methodLink RX9 494 yX9_nextTrolley : Cond) ∈ wsL_law := sr_38 _ (List.mem_of_getElem? (i := 7) rfl)
theorem wm_896 : (.instanceMethod yX9_nextTrolley : Cond) ∈ wsL_law := sr_38 _ (List.mem_of_getElem? (i := 8) rfl)
theorem wm_897 : (.selects RX9 yX9_nextTrolley yX9_nextTrolley : Cond) ∈ wsL_law := sr_38 _ (List.mem_of_getElem? (i := 9) rfl)
theorem wm_898 : (.code yX9_nextTrolley cX9_nextTrolley 4 (some .int) : Cond) ∈ wsL_law := sr_38 _ (List.mem_of_getElem? (i := 10) rfl)
theorem wm_899 : (.methodLink RX9 497 yX9_nextRow : Cond) ∈ wsL_law := sr_38 _ (List.mem_of_getElem? (i := 11) rfl)
theorem wm_900 : (.instanceMethod yX9_nextRow : Cond) ∈ wsL_law := sr_38 _ (List.mem_of_getElem? (i := 12) rfl)
theorem wm_901 : (.selects RX9 yX9_nextRow yX9_nextRow : Cond) ∈ wsL_law := sr_38 _ (List.mem_of_getElem? (i := 13) rfl)
theorem wm_902 : (.code yX9_nextRow cX9_nextRow 4 (some .int) : Cond) ∈ wsL_law := sr_38 _ (List.mem_of_getElem? (i := 14) rfl)
theorem wm_903 : (.methodLink RX9 469 yX9_isServed : Cond) ∈ wsL_law := sr_38 _ (List.mem_of_getElem? (i := 15) rfl)
theorem wm_904 : (.instanceMethod yX9_isServed : Cond) ∈ wsL_law := sr_38 _ (List.mem_of_getElem? (i := 16) rfl)
theorem wm_905 : (.selects RX9 yX9_isServed yX9_isServed : Cond) ∈ wsL_law := sr_38 _ (List.mem_of_getElem? (i := 17) rfl)
theorem wm_906 : (.code yX9_isServed cX9_isServed 2 (some .boolean) : Cond) ∈ wsL_law := sr_38 _ (List.mem_of_getElem? (i := 18) rfl)
theorem wm_907 : (.methodLink RX9 500 yX9_behindBelts : Cond) ∈ wsL_law := sr_38 _ (List.mem_of_getElem? (i := 19) rfl)
theorem wm_908 : (.instanceMethod yX9_behindBelts : Cond) ∈ wsL_law := sr_38 _ (List.mem_of_getElem? (i := 20) rfl)
theorem wm_909 : (.selects RX9 yX9_behindBelts yX9_behindBelts : Cond) ∈ wsL_law := sr_38 _ (List.mem_of_getElem? (i := 21) rfl)
theorem wm_910 : (.code yX9_behindBelts cX9_behindBelts 5 (some .int) : Cond) ∈ wsL_law := sr_38 _ (List.mem_of_getElem? (i := 22) rfl)
theorem wm_911 : (.methodLink RX9 503 yX9_servesNamed : Cond) ∈ wsL_law := sr_38 _ (List.mem_of_getElem? (i := 23) rfl)
theorem wm_912 : (.instanceMethod yX9_servesNamed : Cond) ∈ wsL_law := sr_39 _ (List.mem_of_getElem? (i := 0) rfl)
theorem wm_913 : (.selects RX9 yX9_servesNamed yX9_servesNamed : Cond) ∈ wsL_law := sr_39 _ (List.mem_of_getElem? (i := 1) rfl)
theorem wm_914 : (.code yX9_servesNamed cX9_servesNamed 5 none : Cond) ∈ wsL_law := sr_39 _ (List.mem_of_getElem? (i := 2) rfl)
theorem wm_915 : (.methodLink RX9 481 yX9_leftOf : Cond) ∈ wsL_law := sr_39 _ (List.mem_of_getElem? (i := 3) rfl)
theorem wm_916 : (.instanceMethod yX9_leftOf : Cond) ∈ wsL_law := sr_39 _ (List.mem_of_getElem? (i := 4) rfl)
theorem wm_917 : (.selects RX9 yX9_leftOf yX9_leftOf : Cond) ∈ wsL_law := sr_39 _ (List.mem_of_getElem? (i := 5) rfl)
theorem wm_918 : (.code yX9_leftOf cX9_leftOf 3 (some .int) : Cond) ∈ wsL_law := sr_39 _ (List.mem_of_getElem? (i := 6) rfl)
theorem wm_919 : (.methodLink RX9 484 yX9_hands : Cond) ∈ wsL_law := sr_39 _ (List.mem_of_getElem? (i := 7) rfl)
theorem wm_920 : (.instanceMethod yX9_hands : Cond) ∈ wsL_law := sr_39 _ (List.mem_of_getElem? (i := 8) rfl)
theorem wm_921 : (.selects RX9 yX9_hands yX9_hands : Cond) ∈ wsL_law := sr_39 _ (List.mem_of_getElem? (i := 9) rfl)
theorem wm_922 : (.code yX9_hands cX9_hands 4 none : Cond) ∈ wsL_law := sr_39 _ (List.mem_of_getElem? (i := 10) rfl)
theorem wm_923 : (.methodLink RX9 478 yX9_heatOf : Cond) ∈ wsL_law := sr_39 _ (List.mem_of_getElem? (i := 11) rfl)
theorem wm_924 : (.instanceMethod yX9_heatOf : Cond) ∈ wsL_law := sr_39 _ (List.mem_of_getElem? (i := 12) rfl)
theorem wm_925 : (.selects RX9 yX9_heatOf yX9_heatOf : Cond) ∈ wsL_law := sr_39 _ (List.mem_of_getElem? (i := 13) rfl)
theorem wm_926 : (.code yX9_heatOf cX9_heatOf 5 (some .int) : Cond) ∈ wsL_law := sr_39 _ (List.mem_of_getElem? (i := 14) rfl)
theorem wm_927 : (.methodLink RX9 507 yX8_othersIn : Cond) ∈ wsL_law := sr_39 _ (List.mem_of_getElem? (i := 15) rfl)
theorem wm_928 : (.methodLink RX9 510 yX9_servesOther : Cond) ∈ wsL_law := sr_39 _ (List.mem_of_getElem? (i := 16) rfl)
theorem wm_929 : (.instanceMethod yX9_servesOther : Cond) ∈ wsL_law := sr_39 _ (List.mem_of_getElem? (i := 17) rfl)
theorem wm_930 : (.selects RX9 yX9_servesOther yX9_servesOther : Cond) ∈ wsL_law := sr_39 _ (List.mem_of_getElem? (i := 18) rfl)
theorem wm_931 : (.code yX9_servesOther cX9_servesOther 6 none : Cond) ∈ wsL_law := sr_39 _ (List.mem_of_getElem? (i := 19) rfl)
theorem wm_932 : (.methodLink RX9 491 yX9_likedIn : Cond) ∈ wsL_law := sr_39 _ (List.mem_of_getElem? (i := 20) rfl)
theorem wm_933 : (.instanceMethod yX9_likedIn : Cond) ∈ wsL_law := sr_39 _ (List.mem_of_getElem? (i := 21) rfl)
theorem wm_934 : (.selects RX9 yX9_likedIn yX9_likedIn : Cond) ∈ wsL_law := sr_39 _ (List.mem_of_getElem? (i := 22) rfl)
theorem wm_935 : (.code yX9_likedIn cX9_likedIn 5 (some .int) : Cond) ∈ wsL_law := sr_39 _ (List.mem_of_getElem? (i := 23) rfl)
theorem wm_936 : (.methodLink RX9 488 yX9_drawn : Cond) ∈ wsL_law := sr_40 _ (List.mem_of_getElem? (i := 0) rfl)
theorem wm_937 : (.instanceMethod yX9_drawn : Cond) ∈ wsL_law := sr_40 _ (List.mem_of_getElem? (i := 1) rfl)
theorem wm_938 : (.selects RX9 yX9_drawn yX9_drawn : Cond) ∈ wsL_law := sr_40 _ (List.mem_of_getElem? (i := 2) rfl)
theorem wm_939 : (.code yX9_drawn cX9_drawn 2 (some .int) : Cond) ∈ wsL_law := sr_40 _ (List.mem_of_getElem? (i := 3) rfl)
theorem wm_940 : (.constantLong RX9 472 (75) : Cond) ∈ wsL_law := sr_40 _ (List.mem_of_getElem? (i := 4) rfl)
theorem wm_941 : (.constantLong RX9 474 (74) : Cond) ∈ wsL_law := sr_40 _ (List.mem_of_getElem? (i := 5) rfl)
theorem wm_942 : (.constantLong RX9 476 (65537) : Cond) ∈ wsL_law := sr_40 _ (List.mem_of_getElem? (i := 6) rfl)
theorem wm_943 : (.methodLink RL 67 yX7_finish : Cond) ∈ wsL_law := sr_40 _ (List.mem_of_getElem? (i := 7) rfl)
theorem wm_944 : (.instanceMethod yX7_finish : Cond) ∈ wsL_law := sr_40 _ (List.mem_of_getElem? (i := 8) rfl)
theorem wm_945 : (.selects RX7 yX7_finish yX7_finish : Cond) ∈ wsL_law := sr_40 _ (List.mem_of_getElem? (i := 9) rfl)
theorem wm_946 : (.code yX7_finish cX7_finish 2 (some .int) : Cond) ∈ wsL_law := sr_40 _ (List.mem_of_getElem? (i := 10) rfl)
theorem wm_947 : (.methodLink RL 70 yX9_finish : Cond) ∈ wsL_law := sr_40 _ (List.mem_of_getElem? (i := 11) rfl)
theorem wm_948 : (.instanceMethod yX9_finish : Cond) ∈ wsL_law := sr_40 _ (List.mem_of_getElem? (i := 12) rfl)
theorem wm_949 : (.selects RX9 yX9_finish yX9_finish : Cond) ∈ wsL_law := sr_40 _ (List.mem_of_getElem? (i := 13) rfl)
theorem wm_950 : (.code yX9_finish cX9_finish 2 (some .int) : Cond) ∈ wsL_law := sr_40 _ (List.mem_of_getElem? (i := 14) rfl)
theorem wm_951 : (.methodLink RL 71 yX7_seconds : Cond) ∈ wsL_law := sr_40 _ (List.mem_of_getElem? (i := 15) rfl)
theorem wm_952 : (.instanceMethod yX7_seconds : Cond) ∈ wsL_law := sr_40 _ (List.mem_of_getElem? (i := 16) rfl)
theorem wm_953 : (.selects RX7 yX7_seconds yX7_seconds : Cond) ∈ wsL_law := sr_40 _ (List.mem_of_getElem? (i := 17) rfl)
theorem wm_954 : (.code yX7_seconds cX7_seconds 2 (some .int) : Cond) ∈ wsL_law := sr_40 _ (List.mem_of_getElem? (i := 18) rfl)
theorem wm_955 : (.methodLink RX7 147 yX3_secondsOf : Cond) ∈ wsL_law := sr_40 _ (List.mem_of_getElem? (i := 19) rfl)
theorem wm_956 : (.instanceMethod yX3_secondsOf : Cond) ∈ wsL_law := sr_40 _ (List.mem_of_getElem? (i := 20) rfl)
theorem wm_957 : (.selects RX3 yX3_secondsOf yX3_secondsOf : Cond) ∈ wsL_law := sr_40 _ (List.mem_of_getElem? (i := 21) rfl)
theorem wm_958 : (.code yX3_secondsOf cX3_secondsOf 2 (some .int) : Cond) ∈ wsL_law := sr_40 _ (List.mem_of_getElem? (i := 22) rfl)
theorem wm_959 : (.methodLink RL 74 yX9_seconds : Cond) ∈ wsL_law := sr_40 _ (List.mem_of_getElem? (i := 23) rfl)
theorem wm_960 : (.instanceMethod yX9_seconds : Cond) ∈ wsL_law := sr_41 _ (List.mem_of_getElem? (i := 0) rfl)
theorem wm_961 : (.selects RX9 yX9_seconds yX9_seconds : Cond) ∈ wsL_law := sr_41 _ (List.mem_of_getElem? (i := 1) rfl)
theorem wm_962 : (.code yX9_seconds cX9_seconds 2 (some .int) : Cond) ∈ wsL_law := sr_41 _ (List.mem_of_getElem? (i := 2) rfl)
theorem wm_963 : (.methodLink RL 75 yX7_left : Cond) ∈ wsL_law := sr_41 _ (List.mem_of_getElem? (i := 3) rfl)
theorem wm_964 : (.instanceMethod yX7_left : Cond) ∈ wsL_law := sr_41 _ (List.mem_of_getElem? (i := 4) rfl)
theorem wm_965 : (.selects RX7 yX7_left yX7_left : Cond) ∈ wsL_law := sr_41 _ (List.mem_of_getElem? (i := 5) rfl)
theorem wm_966 : (.code yX7_left cX7_left 3 (some .int) : Cond) ∈ wsL_law := sr_41 _ (List.mem_of_getElem? (i := 6) rfl)
theorem wm_967 : (.methodLink RX7 150 yX3_leftOf : Cond) ∈ wsL_law := sr_41 _ (List.mem_of_getElem? (i := 7) rfl)
theorem wm_968 : (.methodLink RL 78 yX9_left : Cond) ∈ wsL_law := sr_41 _ (List.mem_of_getElem? (i := 8) rfl)
theorem wm_969 : (.instanceMethod yX9_left : Cond) ∈ wsL_law := sr_41 _ (List.mem_of_getElem? (i := 9) rfl)
theorem wm_970 : (.selects RX9 yX9_left yX9_left : Cond) ∈ wsL_law := sr_41 _ (List.mem_of_getElem? (i := 10) rfl)
theorem wm_971 : (.code yX9_left cX9_left 3 (some .int) : Cond) ∈ wsL_law := sr_41 _ (List.mem_of_getElem? (i := 11) rfl)
theorem wm_972 : (.methodLink RL 79 yX7_served : Cond) ∈ wsL_law := sr_41 _ (List.mem_of_getElem? (i := 12) rfl)
theorem wm_973 : (.instanceMethod yX7_served : Cond) ∈ wsL_law := sr_41 _ (List.mem_of_getElem? (i := 13) rfl)
theorem wm_974 : (.selects RX7 yX7_served yX7_served : Cond) ∈ wsL_law := sr_41 _ (List.mem_of_getElem? (i := 14) rfl)
theorem wm_975 : (.code yX7_served cX7_served 3 (some .int) : Cond) ∈ wsL_law := sr_41 _ (List.mem_of_getElem? (i := 15) rfl)
theorem wm_976 : (.methodLink RX7 153 yX3_isServed : Cond) ∈ wsL_law := sr_41 _ (List.mem_of_getElem? (i := 16) rfl)
theorem wm_977 : (.instanceMethod yX3_isServed : Cond) ∈ wsL_law := sr_41 _ (List.mem_of_getElem? (i := 17) rfl)
theorem wm_978 : (.selects RX3 yX3_isServed yX3_isServed : Cond) ∈ wsL_law := sr_41 _ (List.mem_of_getElem? (i := 18) rfl)
theorem wm_979 : (.code yX3_isServed cX3_isServed 2 (some .boolean) : Cond) ∈ wsL_law := sr_41 _ (List.mem_of_getElem? (i := 19) rfl)
theorem wm_980 : (.methodLink RX7 156 yX3_fact : Cond) ∈ wsL_law := sr_41 _ (List.mem_of_getElem? (i := 20) rfl)
theorem wm_981 : (.methodLink RL 82 yX9_served : Cond) ∈ wsL_law := sr_41 _ (List.mem_of_getElem? (i := 21) rfl)
theorem wm_982 : (.instanceMethod yX9_served : Cond) ∈ wsL_law := sr_41 _ (List.mem_of_getElem? (i := 22) rfl)
theorem wm_983 : (.selects RX9 yX9_served yX9_served : Cond) ∈ wsL_law := sr_41 _ (List.mem_of_getElem? (i := 23) rfl)
theorem wm_984 : (.code yX9_served cX9_served 3 (some .int) : Cond) ∈ wsL_law := sr_42 _ (List.mem_of_getElem? (i := 0) rfl)
theorem wm_985 : (.methodLink RX9 519 yX9_traysIn : Cond) ∈ wsL_law := sr_42 _ (List.mem_of_getElem? (i := 1) rfl)
theorem wm_986 : (.instanceMethod yX9_traysIn : Cond) ∈ wsL_law := sr_42 _ (List.mem_of_getElem? (i := 2) rfl)
theorem wm_987 : (.selects RX9 yX9_traysIn yX9_traysIn : Cond) ∈ wsL_law := sr_42 _ (List.mem_of_getElem? (i := 3) rfl)
theorem wm_988 : (.code yX9_traysIn cX9_traysIn 4 (some .int) : Cond) ∈ wsL_law := sr_42 _ (List.mem_of_getElem? (i := 4) rfl)
theorem wm_989 : (.methodLink RL 83 yX7_trays : Cond) ∈ wsL_law := sr_42 _ (List.mem_of_getElem? (i := 5) rfl)
theorem wm_990 : (.instanceMethod yX7_trays : Cond) ∈ wsL_law := sr_42 _ (List.mem_of_getElem? (i := 6) rfl)
theorem wm_991 : (.selects RX7 yX7_trays yX7_trays : Cond) ∈ wsL_law := sr_42 _ (List.mem_of_getElem? (i := 7) rfl)
theorem wm_992 : (.code yX7_trays cX7_trays 3 (some .int) : Cond) ∈ wsL_law := sr_42 _ (List.mem_of_getElem? (i := 8) rfl)
theorem wm_993 : (.methodLink RL 86 yX9_trays : Cond) ∈ wsL_law := sr_42 _ (List.mem_of_getElem? (i := 9) rfl)
theorem wm_994 : (.instanceMethod yX9_trays : Cond) ∈ wsL_law := sr_42 _ (List.mem_of_getElem? (i := 10) rfl)
theorem wm_995 : (.selects RX9 yX9_trays yX9_trays : Cond) ∈ wsL_law := sr_42 _ (List.mem_of_getElem? (i := 11) rfl)
theorem wm_996 : (.code yX9_trays cX9_trays 3 (some .int) : Cond) ∈ wsL_law := sr_42 _ (List.mem_of_getElem? (i := 12) rfl)
theorem wm_997 : (.methodLink RL 87 yX7_got : Cond) ∈ wsL_law := sr_42 _ (List.mem_of_getElem? (i := 13) rfl)
theorem wm_998 : (.instanceMethod yX7_got : Cond) ∈ wsL_law := sr_42 _ (List.mem_of_getElem? (i := 14) rfl)
theorem wm_999 : (.selects RX7 yX7_got yX7_got : Cond) ∈ wsL_law := sr_42 _ (List.mem_of_getElem? (i := 15) rfl)
theorem wm_1000 : (.code yX7_got cX7_got 3 (some .int) : Cond) ∈ wsL_law := sr_42 _ (List.mem_of_getElem? (i := 16) rfl)
theorem wm_1001 : (.methodLink RX7 159 yX1_isNamedInside : Cond) ∈ wsL_law := sr_42 _ (List.mem_of_getElem? (i := 17) rfl)
theorem wm_1002 : (.instanceMethod yX1_isNamedInside : Cond) ∈ wsL_law := sr_42 _ (List.mem_of_getElem? (i := 18) rfl)
theorem wm_1003 : (.selects RX1 yX1_isNamedInside yX1_isNamedInside : Cond) ∈ wsL_law := sr_42 _ (List.mem_of_getElem? (i := 19) rfl)
theorem wm_1004 : (.code yX1_isNamedInside cX1_isNamedInside 2 (some .boolean) : Cond) ∈ wsL_law := sr_42 _ (List.mem_of_getElem? (i := 20) rfl)
theorem wm_1005 : (.methodLink RX1 67 yX1_rows : Cond) ∈ wsL_law := sr_42 _ (List.mem_of_getElem? (i := 21) rfl)
theorem wm_1006 : (.methodLink RX7 162 yX1_get : Cond) ∈ wsL_law := sr_42 _ (List.mem_of_getElem? (i := 22) rfl)
theorem wm_1007 : (.methodLink RX7 166 yX3_gotOf : Cond) ∈ wsL_law := sr_42 _ (List.mem_of_getElem? (i := 23) rfl)
theorem wm_1008 : (.instanceMethod yX3_gotOf : Cond) ∈ wsL_law := sr_43 _ (List.mem_of_getElem? (i := 0) rfl)
theorem wm_1009 : (.selects RX3 yX3_gotOf yX3_gotOf : Cond) ∈ wsL_law := sr_43 _ (List.mem_of_getElem? (i := 1) rfl)
theorem wm_1010 : (.code yX3_gotOf cX3_gotOf 2 (some .int) : Cond) ∈ wsL_law := sr_43 _ (List.mem_of_getElem? (i := 2) rfl)
theorem wm_1011 : (.methodLink RL 90 yX9_got : Cond) ∈ wsL_law := sr_43 _ (List.mem_of_getElem? (i := 3) rfl)
theorem wm_1012 : (.instanceMethod yX9_got : Cond) ∈ wsL_law := sr_43 _ (List.mem_of_getElem? (i := 4) rfl)
theorem wm_1013 : (.selects RX9 yX9_got yX9_got : Cond) ∈ wsL_law := sr_43 _ (List.mem_of_getElem? (i := 5) rfl)
theorem wm_1014 : (.code yX9_got cX9_got 2 (some .int) : Cond) ∈ wsL_law := sr_43 _ (List.mem_of_getElem? (i := 6) rfl)
theorem wm_1015 : (.methodLink RL 91 yX7_sum : Cond) ∈ wsL_law := sr_43 _ (List.mem_of_getElem? (i := 7) rfl)
theorem wm_1016 : (.instanceMethod yX7_sum : Cond) ∈ wsL_law := sr_43 _ (List.mem_of_getElem? (i := 8) rfl)
theorem wm_1017 : (.selects RX7 yX7_sum yX7_sum : Cond) ∈ wsL_law := sr_43 _ (List.mem_of_getElem? (i := 9) rfl)
theorem wm_1018 : (.code yX7_sum cX7_sum 2 (some .int) : Cond) ∈ wsL_law := sr_43 _ (List.mem_of_getElem? (i := 10) rfl)
theorem wm_1019 : (.methodLink RX7 169 yX3_sumOf : Cond) ∈ wsL_law := sr_43 _ (List.mem_of_getElem? (i := 11) rfl)
theorem wm_1020 : (.instanceMethod yX3_sumOf : Cond) ∈ wsL_law := sr_43 _ (List.mem_of_getElem? (i := 12) rfl)
theorem wm_1021 : (.selects RX3 yX3_sumOf yX3_sumOf : Cond) ∈ wsL_law := sr_43 _ (List.mem_of_getElem? (i := 13) rfl)
theorem wm_1022 : (.code yX3_sumOf cX3_sumOf 4 (some .int) : Cond) ∈ wsL_law := sr_43 _ (List.mem_of_getElem? (i := 14) rfl)
theorem wm_1023 : (.methodLink RX7 172 yX3_spilt : Cond) ∈ wsL_law := sr_43 _ (List.mem_of_getElem? (i := 15) rfl)
theorem wm_1024 : (.instanceMethod yX3_spilt : Cond) ∈ wsL_law := sr_43 _ (List.mem_of_getElem? (i := 16) rfl)
theorem wm_1025 : (.selects RX3 yX3_spilt yX3_spilt : Cond) ∈ wsL_law := sr_43 _ (List.mem_of_getElem? (i := 17) rfl)
theorem wm_1026 : (.code yX3_spilt cX3_spilt 1 (some .int) : Cond) ∈ wsL_law := sr_43 _ (List.mem_of_getElem? (i := 18) rfl)
theorem wm_1027 : (.methodLink RX7 175 yX3_rowsServed : Cond) ∈ wsL_law := sr_43 _ (List.mem_of_getElem? (i := 19) rfl)
theorem wm_1028 : (.instanceMethod yX3_rowsServed : Cond) ∈ wsL_law := sr_43 _ (List.mem_of_getElem? (i := 20) rfl)
theorem wm_1029 : (.selects RX3 yX3_rowsServed yX3_rowsServed : Cond) ∈ wsL_law := sr_43 _ (List.mem_of_getElem? (i := 21) rfl)
theorem wm_1030 : (.code yX3_rowsServed cX3_rowsServed 2 (some .int) : Cond) ∈ wsL_law := sr_43 _ (List.mem_of_getElem? (i := 22) rfl)
theorem wm_1031 : (.methodLink RL 94 yX9_sum : Cond) ∈ wsL_law := sr_43 _ (List.mem_of_getElem? (i := 23) rfl)
theorem wm_1032 : (.instanceMethod yX9_sum : Cond) ∈ wsL_law := sr_44 _ (List.mem_of_getElem? (i := 0) rfl)
theorem wm_1033 : (.selects RX9 yX9_sum yX9_sum : Cond) ∈ wsL_law := sr_44 _ (List.mem_of_getElem? (i := 1) rfl)
theorem wm_1034 : (.code yX9_sum cX9_sum 4 (some .int) : Cond) ∈ wsL_law := sr_44 _ (List.mem_of_getElem? (i := 2) rfl)
theorem wm_1035 : (.methodLink RL 95 yX7_heat : Cond) ∈ wsL_law := sr_44 _ (List.mem_of_getElem? (i := 3) rfl)
theorem wm_1036 : (.instanceMethod yX7_heat : Cond) ∈ wsL_law := sr_44 _ (List.mem_of_getElem? (i := 4) rfl)
theorem wm_1037 : (.selects RX7 yX7_heat yX7_heat : Cond) ∈ wsL_law := sr_44 _ (List.mem_of_getElem? (i := 5) rfl)
theorem wm_1038 : (.code yX7_heat cX7_heat 3 (some .int) : Cond) ∈ wsL_law := sr_44 _ (List.mem_of_getElem? (i := 6) rfl)
theorem wm_1039 : (.methodLink RX7 178 yX7_refuseFarBelow : Cond) ∈ wsL_law := sr_44 _ (List.mem_of_getElem? (i := 7) rfl)
theorem wm_1040 : (.instanceMethod yX7_refuseFarBelow : Cond) ∈ wsL_law := sr_44 _ (List.mem_of_getElem? (i := 8) rfl)
theorem wm_1041 : (.selects RX7 yX7_refuseFarBelow yX7_refuseFarBelow : Cond) ∈ wsL_law := sr_44 _ (List.mem_of_getElem? (i := 9) rfl)
theorem wm_1042 : (.code yX7_refuseFarBelow cX7_refuseFarBelow 2 (some .int) : Cond) ∈ wsL_law := sr_44 _ (List.mem_of_getElem? (i := 10) rfl)
theorem wm_1043 : (.methodLink RX7 181 yX7_isMinute : Cond) ∈ wsL_law := sr_44 _ (List.mem_of_getElem? (i := 11) rfl)
theorem wm_1044 : (.static yX7_isMinute : Cond) ∈ wsL_law := sr_44 _ (List.mem_of_getElem? (i := 12) rfl)
theorem wm_1045 : (.code yX7_isMinute cX7_isMinute 1 (some .boolean) : Cond) ∈ wsL_law := sr_44 _ (List.mem_of_getElem? (i := 13) rfl)
theorem wm_1046 : (.methodLink RX7 184 yX1_degrees : Cond) ∈ wsL_law := sr_44 _ (List.mem_of_getElem? (i := 14) rfl)
theorem wm_1047 : (.methodLink RL 98 yX9_heat : Cond) ∈ wsL_law := sr_44 _ (List.mem_of_getElem? (i := 15) rfl)
theorem wm_1048 : (.instanceMethod yX9_heat : Cond) ∈ wsL_law := sr_44 _ (List.mem_of_getElem? (i := 16) rfl)
theorem wm_1049 : (.selects RX9 yX9_heat yX9_heat : Cond) ∈ wsL_law := sr_44 _ (List.mem_of_getElem? (i := 17) rfl)
theorem wm_1050 : (.code yX9_heat cX9_heat 3 (some .int) : Cond) ∈ wsL_law := sr_44 _ (List.mem_of_getElem? (i := 18) rfl)
theorem wm_1051 : (.methodLink RX9 522 yX9_lost : Cond) ∈ wsL_law := sr_44 _ (List.mem_of_getElem? (i := 19) rfl)
theorem wm_1052 : (.instanceMethod yX9_lost : Cond) ∈ wsL_law := sr_44 _ (List.mem_of_getElem? (i := 20) rfl)
theorem wm_1053 : (.selects RX9 yX9_lost yX9_lost : Cond) ∈ wsL_law := sr_44 _ (List.mem_of_getElem? (i := 21) rfl)
theorem wm_1054 : (.code yX9_lost cX9_lost 2 (some .int) : Cond) ∈ wsL_law := sr_44 _ (List.mem_of_getElem? (i := 22) rfl)
theorem wm_1055 : (.methodLink RL 99 yX7_cold : Cond) ∈ wsL_law := sr_44 _ (List.mem_of_getElem? (i := 23) rfl)
theorem wm_1056 : (.instanceMethod yX7_cold : Cond) ∈ wsL_law := sr_45 _ (List.mem_of_getElem? (i := 0) rfl)
theorem wm_1057 : (.selects RX7 yX7_cold yX7_cold : Cond) ∈ wsL_law := sr_45 _ (List.mem_of_getElem? (i := 1) rfl)
theorem wm_1058 : (.code yX7_cold cX7_cold 4 (some .int) : Cond) ∈ wsL_law := sr_45 _ (List.mem_of_getElem? (i := 2) rfl)
theorem wm_1059 : (.methodLink RX7 187 yX1_isCold : Cond) ∈ wsL_law := sr_45 _ (List.mem_of_getElem? (i := 3) rfl)
theorem wm_1060 : (.methodLink RL 102 yX9_cold : Cond) ∈ wsL_law := sr_45 _ (List.mem_of_getElem? (i := 4) rfl)
theorem wm_1061 : (.instanceMethod yX9_cold : Cond) ∈ wsL_law := sr_45 _ (List.mem_of_getElem? (i := 5) rfl)
theorem wm_1062 : (.selects RX9 yX9_cold yX9_cold : Cond) ∈ wsL_law := sr_45 _ (List.mem_of_getElem? (i := 6) rfl)
theorem wm_1063 : (.code yX9_cold cX9_cold 4 (some .int) : Cond) ∈ wsL_law := sr_45 _ (List.mem_of_getElem? (i := 7) rfl)
theorem wm_1064 : (.methodLink RL 103 yX7_mark : Cond) ∈ wsL_law := sr_45 _ (List.mem_of_getElem? (i := 8) rfl)
theorem wm_1065 : (.instanceMethod yX7_mark : Cond) ∈ wsL_law := sr_45 _ (List.mem_of_getElem? (i := 9) rfl)
theorem wm_1066 : (.selects RX7 yX7_mark yX7_mark : Cond) ∈ wsL_law := sr_45 _ (List.mem_of_getElem? (i := 10) rfl)
theorem wm_1067 : (.code yX7_mark cX7_mark 1 (some .int) : Cond) ∈ wsL_law := sr_45 _ (List.mem_of_getElem? (i := 11) rfl)
theorem wm_1068 : (.methodLink RX7 191 yX3_copy : Cond) ∈ wsL_law := sr_45 _ (List.mem_of_getElem? (i := 12) rfl)
theorem wm_1069 : (.instanceMethod yX3_copy : Cond) ∈ wsL_law := sr_45 _ (List.mem_of_getElem? (i := 13) rfl)
theorem wm_1070 : (.selects RX3 yX3_copy yX3_copy : Cond) ∈ wsL_law := sr_45 _ (List.mem_of_getElem? (i := 14) rfl)
theorem wm_1071 : (.code yX3_copy cX3_copy 2 none : Cond) ∈ wsL_law := sr_45 _ (List.mem_of_getElem? (i := 15) rfl)
theorem wm_1072 : (.methodLink RX3 53 arraycopyName : Cond) ∈ wsL_law := sr_45 _ (List.mem_of_getElem? (i := 16) rfl)
theorem wm_1073 : (.native arraycopyName : Cond) ∈ wsL_law := sr_45 _ (List.mem_of_getElem? (i := 17) rfl)
theorem wm_1074 : (.static arraycopyName : Cond) ∈ wsL_law := sr_45 _ (List.mem_of_getElem? (i := 18) rfl)
theorem wm_1075 : (.initialized "java/lang/System" : Cond) ∈ wsL_law := sr_45 _ (List.mem_of_getElem? (i := 19) rfl)
theorem wm_1076 : (.methodLink RL 106 yX9_mark : Cond) ∈ wsL_law := sr_45 _ (List.mem_of_getElem? (i := 20) rfl)
theorem wm_1077 : (.instanceMethod yX9_mark : Cond) ∈ wsL_law := sr_45 _ (List.mem_of_getElem? (i := 21) rfl)
theorem wm_1078 : (.selects RX9 yX9_mark yX9_mark : Cond) ∈ wsL_law := sr_45 _ (List.mem_of_getElem? (i := 22) rfl)
theorem wm_1079 : (.code yX9_mark cX9_mark 2 (some .int) : Cond) ∈ wsL_law := sr_45 _ (List.mem_of_getElem? (i := 23) rfl)
theorem wm_1080 : (.methodLink RL 107 yX7_back : Cond) ∈ wsL_law := sr_46 _ (List.mem_of_getElem? (i := 0) rfl)
theorem wm_1081 : (.instanceMethod yX7_back : Cond) ∈ wsL_law := sr_46 _ (List.mem_of_getElem? (i := 1) rfl)
theorem wm_1082 : (.selects RX7 yX7_back yX7_back : Cond) ∈ wsL_law := sr_46 _ (List.mem_of_getElem? (i := 2) rfl)
theorem wm_1083 : (.code yX7_back cX7_back 2 (some .boolean) : Cond) ∈ wsL_law := sr_46 _ (List.mem_of_getElem? (i := 3) rfl)
theorem wm_1084 : (.methodLink RL 110 yX9_back : Cond) ∈ wsL_law := sr_46 _ (List.mem_of_getElem? (i := 4) rfl)
theorem wm_1085 : (.instanceMethod yX9_back : Cond) ∈ wsL_law := sr_46 _ (List.mem_of_getElem? (i := 5) rfl)
theorem wm_1086 : (.selects RX9 yX9_back yX9_back : Cond) ∈ wsL_law := sr_46 _ (List.mem_of_getElem? (i := 6) rfl)
theorem wm_1087 : (.code yX9_back cX9_back 3 (some .boolean) : Cond) ∈ wsL_law := sr_46 _ (List.mem_of_getElem? (i := 7) rfl)
theorem wm_1088 : (.methodLink RL 111 yX7_meets : Cond) ∈ wsL_law := sr_46 _ (List.mem_of_getElem? (i := 8) rfl)
theorem wm_1089 : (.instanceMethod yX7_meets : Cond) ∈ wsL_law := sr_46 _ (List.mem_of_getElem? (i := 9) rfl)
theorem wm_1090 : (.selects RX7 yX7_meets yX7_meets : Cond) ∈ wsL_law := sr_46 _ (List.mem_of_getElem? (i := 10) rfl)
theorem wm_1091 : (.code yX7_meets cX7_meets 2 (some .int) : Cond) ∈ wsL_law := sr_46 _ (List.mem_of_getElem? (i := 11) rfl)
theorem wm_1092 : (.methodLink RX7 195 yX7_isMeeting : Cond) ∈ wsL_law := sr_46 _ (List.mem_of_getElem? (i := 12) rfl)
theorem wm_1093 : (.instanceMethod yX7_isMeeting : Cond) ∈ wsL_law := sr_46 _ (List.mem_of_getElem? (i := 13) rfl)
theorem wm_1094 : (.selects RX7 yX7_isMeeting yX7_isMeeting : Cond) ∈ wsL_law := sr_46 _ (List.mem_of_getElem? (i := 14) rfl)
theorem wm_1095 : (.code yX7_isMeeting cX7_isMeeting 2 (some .boolean) : Cond) ∈ wsL_law := sr_46 _ (List.mem_of_getElem? (i := 15) rfl)
theorem wm_1096 : (.methodLink RX7 198 yX1_secondsMeetingAt : Cond) ∈ wsL_law := sr_46 _ (List.mem_of_getElem? (i := 16) rfl)
theorem wm_1097 : (.instanceMethod yX1_secondsMeetingAt : Cond) ∈ wsL_law := sr_46 _ (List.mem_of_getElem? (i := 17) rfl)
theorem wm_1098 : (.selects RX1 yX1_secondsMeetingAt yX1_secondsMeetingAt : Cond) ∈ wsL_law := sr_46 _ (List.mem_of_getElem? (i := 18) rfl)
theorem wm_1099 : (.code yX1_secondsMeetingAt cX1_secondsMeetingAt 2 (some .int) : Cond) ∈ wsL_law := sr_46 _ (List.mem_of_getElem? (i := 19) rfl)
theorem wm_1100 : (.methodLink RX1 83 yX1_secondsFor : Cond) ∈ wsL_law := sr_46 _ (List.mem_of_getElem? (i := 20) rfl)
theorem wm_1101 : (.instanceMethod yX1_secondsFor : Cond) ∈ wsL_law := sr_46 _ (List.mem_of_getElem? (i := 21) rfl)
theorem wm_1102 : (.selects RX1 yX1_secondsFor yX1_secondsFor : Cond) ∈ wsL_law := sr_46 _ (List.mem_of_getElem? (i := 22) rfl)
theorem wm_1103 : (.code yX1_secondsFor cX1_secondsFor 4 (some .int) : Cond) ∈ wsL_law := sr_46 _ (List.mem_of_getElem? (i := 23) rfl)
theorem wm_1104 : (.methodLink RX1 86 yX1_serve : Cond) ∈ wsL_law := sr_47 _ (List.mem_of_getElem? (i := 0) rfl)
theorem wm_1105 : (.methodLink RX1 89 yX1_sittingWithin : Cond) ∈ wsL_law := sr_47 _ (List.mem_of_getElem? (i := 1) rfl)
theorem wm_1106 : (.methodLink RX1 92 yX1_walk : Cond) ∈ wsL_law := sr_47 _ (List.mem_of_getElem? (i := 2) rfl)
theorem wm_1107 : (.methodLink RL 114 yX9_meets : Cond) ∈ wsL_law := sr_47 _ (List.mem_of_getElem? (i := 3) rfl)
theorem wm_1108 : (.instanceMethod yX9_meets : Cond) ∈ wsL_law := sr_47 _ (List.mem_of_getElem? (i := 4) rfl)
theorem wm_1109 : (.selects RX9 yX9_meets yX9_meets : Cond) ∈ wsL_law := sr_47 _ (List.mem_of_getElem? (i := 5) rfl)
theorem wm_1110 : (.code yX9_meets cX9_meets 2 (some .int) : Cond) ∈ wsL_law := sr_47 _ (List.mem_of_getElem? (i := 6) rfl)
theorem wm_1111 : (.methodLink RX9 534 yX9_isMeeting : Cond) ∈ wsL_law := sr_47 _ (List.mem_of_getElem? (i := 7) rfl)
theorem wm_1112 : (.instanceMethod yX9_isMeeting : Cond) ∈ wsL_law := sr_47 _ (List.mem_of_getElem? (i := 8) rfl)
theorem wm_1113 : (.selects RX9 yX9_isMeeting yX9_isMeeting : Cond) ∈ wsL_law := sr_47 _ (List.mem_of_getElem? (i := 9) rfl)
theorem wm_1114 : (.code yX9_isMeeting cX9_isMeeting 2 (some .boolean) : Cond) ∈ wsL_law := sr_47 _ (List.mem_of_getElem? (i := 10) rfl)
theorem wm_1115 : (.methodLink RX9 537 yX9_meetsAt : Cond) ∈ wsL_law := sr_47 _ (List.mem_of_getElem? (i := 11) rfl)
theorem wm_1116 : (.instanceMethod yX9_meetsAt : Cond) ∈ wsL_law := sr_47 _ (List.mem_of_getElem? (i := 12) rfl)
theorem wm_1117 : (.selects RX9 yX9_meetsAt yX9_meetsAt : Cond) ∈ wsL_law := sr_47 _ (List.mem_of_getElem? (i := 13) rfl)
theorem wm_1118 : (.code yX9_meetsAt cX9_meetsAt 7 (some .int) : Cond) ∈ wsL_law := sr_47 _ (List.mem_of_getElem? (i := 14) rfl)
theorem wm_1119 : (.methodLink RX9 525 yX9_firstRow : Cond) ∈ wsL_law := sr_47 _ (List.mem_of_getElem? (i := 15) rfl)
theorem wm_1120 : (.instanceMethod yX9_firstRow : Cond) ∈ wsL_law := sr_47 _ (List.mem_of_getElem? (i := 16) rfl)
theorem wm_1121 : (.selects RX9 yX9_firstRow yX9_firstRow : Cond) ∈ wsL_law := sr_47 _ (List.mem_of_getElem? (i := 17) rfl)
theorem wm_1122 : (.code yX9_firstRow cX9_firstRow 3 (some .int) : Cond) ∈ wsL_law := sr_47 _ (List.mem_of_getElem? (i := 18) rfl)
theorem wm_1123 : (.methodLink RX9 528 yX9_lastRow : Cond) ∈ wsL_law := sr_47 _ (List.mem_of_getElem? (i := 19) rfl)
theorem wm_1124 : (.instanceMethod yX9_lastRow : Cond) ∈ wsL_law := sr_47 _ (List.mem_of_getElem? (i := 20) rfl)
theorem wm_1125 : (.selects RX9 yX9_lastRow yX9_lastRow : Cond) ∈ wsL_law := sr_47 _ (List.mem_of_getElem? (i := 21) rfl)
theorem wm_1126 : (.code yX9_lastRow cX9_lastRow 3 (some .int) : Cond) ∈ wsL_law := sr_47 _ (List.mem_of_getElem? (i := 22) rfl)
theorem wm_1127 : (.methodLink RX9 531 yX9_sitsBetween : Cond) ∈ wsL_law := sr_47 _ (List.mem_of_getElem? (i := 23) rfl)
theorem wm_1128 : (.instanceMethod yX9_sitsBetween : Cond) ∈ wsL_law := sr_48 _ (List.mem_of_getElem? (i := 0) rfl)
theorem wm_1129 : (.selects RX9 yX9_sitsBetween yX9_sitsBetween : Cond) ∈ wsL_law := sr_48 _ (List.mem_of_getElem? (i := 1) rfl)
theorem wm_1130 : (.code yX9_sitsBetween cX9_sitsBetween 5 (some .int) : Cond) ∈ wsL_law := sr_48 _ (List.mem_of_getElem? (i := 2) rfl)
theorem wm_1131 : (.methodLink RL 115 yX7_soonest : Cond) ∈ wsL_law := sr_48 _ (List.mem_of_getElem? (i := 3) rfl)
theorem wm_1132 : (.instanceMethod yX7_soonest : Cond) ∈ wsL_law := sr_48 _ (List.mem_of_getElem? (i := 4) rfl)
theorem wm_1133 : (.selects RX7 yX7_soonest yX7_soonest : Cond) ∈ wsL_law := sr_48 _ (List.mem_of_getElem? (i := 5) rfl)
theorem wm_1134 : (.code yX7_soonest cX7_soonest 5 (some .int) : Cond) ∈ wsL_law := sr_48 _ (List.mem_of_getElem? (i := 6) rfl)
theorem wm_1135 : (.methodLink RL 118 yX9_soonest : Cond) ∈ wsL_law := sr_48 _ (List.mem_of_getElem? (i := 7) rfl)
theorem wm_1136 : (.instanceMethod yX9_soonest : Cond) ∈ wsL_law := sr_48 _ (List.mem_of_getElem? (i := 8) rfl)
theorem wm_1137 : (.selects RX9 yX9_soonest yX9_soonest : Cond) ∈ wsL_law := sr_48 _ (List.mem_of_getElem? (i := 9) rfl)
theorem wm_1138 : (.code yX9_soonest cX9_soonest 3 (some .int) : Cond) ∈ wsL_law := sr_48 _ (List.mem_of_getElem? (i := 10) rfl)
theorem wm_1139 : (.methodLink RL 119 yX7_lacking : Cond) ∈ wsL_law := sr_48 _ (List.mem_of_getElem? (i := 11) rfl)
theorem wm_1140 : (.instanceMethod yX7_lacking : Cond) ∈ wsL_law := sr_48 _ (List.mem_of_getElem? (i := 12) rfl)
theorem wm_1141 : (.selects RX7 yX7_lacking yX7_lacking : Cond) ∈ wsL_law := sr_48 _ (List.mem_of_getElem? (i := 13) rfl)
theorem wm_1142 : (.code yX7_lacking cX7_lacking 2 (some .int) : Cond) ∈ wsL_law := sr_48 _ (List.mem_of_getElem? (i := 14) rfl)
theorem wm_1143 : (.methodLink RX7 201 yX1_lackingMeetingAt : Cond) ∈ wsL_law := sr_48 _ (List.mem_of_getElem? (i := 15) rfl)
theorem wm_1144 : (.instanceMethod yX1_lackingMeetingAt : Cond) ∈ wsL_law := sr_48 _ (List.mem_of_getElem? (i := 16) rfl)
theorem wm_1145 : (.selects RX1 yX1_lackingMeetingAt yX1_lackingMeetingAt : Cond) ∈ wsL_law := sr_48 _ (List.mem_of_getElem? (i := 17) rfl)
theorem wm_1146 : (.code yX1_lackingMeetingAt cX1_lackingMeetingAt 7 (some .int) : Cond) ∈ wsL_law := sr_48 _ (List.mem_of_getElem? (i := 18) rfl)
theorem wm_1147 : (.methodLink RX1 95 yX1_isFront : Cond) ∈ wsL_law := sr_48 _ (List.mem_of_getElem? (i := 19) rfl)
theorem wm_1148 : (.methodLink RX1 98 yX1_loadOfTrolley : Cond) ∈ wsL_law := sr_48 _ (List.mem_of_getElem? (i := 20) rfl)
theorem wm_1149 : (.instanceMethod yX1_loadOfTrolley : Cond) ∈ wsL_law := sr_48 _ (List.mem_of_getElem? (i := 21) rfl)
theorem wm_1150 : (.selects RX1 yX1_loadOfTrolley yX1_loadOfTrolley : Cond) ∈ wsL_law := sr_48 _ (List.mem_of_getElem? (i := 22) rfl)
theorem wm_1151 : (.code yX1_loadOfTrolley cX1_loadOfTrolley 4 (some .int) : Cond) ∈ wsL_law := sr_48 _ (List.mem_of_getElem? (i := 23) rfl)
theorem wm_1152 : (.methodLink RX1 77 yX1_loadOf : Cond) ∈ wsL_law := sr_49 _ (List.mem_of_getElem? (i := 0) rfl)
theorem wm_1153 : (.methodLink RL 122 yX9_lacking : Cond) ∈ wsL_law := sr_49 _ (List.mem_of_getElem? (i := 1) rfl)
theorem wm_1154 : (.instanceMethod yX9_lacking : Cond) ∈ wsL_law := sr_49 _ (List.mem_of_getElem? (i := 2) rfl)
theorem wm_1155 : (.selects RX9 yX9_lacking yX9_lacking : Cond) ∈ wsL_law := sr_49 _ (List.mem_of_getElem? (i := 3) rfl)
theorem wm_1156 : (.code yX9_lacking cX9_lacking 2 (some .int) : Cond) ∈ wsL_law := sr_49 _ (List.mem_of_getElem? (i := 4) rfl)
theorem wm_1157 : (.methodLink RX9 540 yX9_lackingAt : Cond) ∈ wsL_law := sr_49 _ (List.mem_of_getElem? (i := 5) rfl)
theorem wm_1158 : (.instanceMethod yX9_lackingAt : Cond) ∈ wsL_law := sr_49 _ (List.mem_of_getElem? (i := 6) rfl)
theorem wm_1159 : (.selects RX9 yX9_lackingAt yX9_lackingAt : Cond) ∈ wsL_law := sr_49 _ (List.mem_of_getElem? (i := 7) rfl)
theorem wm_1160 : (.code yX9_lackingAt cX9_lackingAt 6 (some .int) : Cond) ∈ wsL_law := sr_49 _ (List.mem_of_getElem? (i := 8) rfl)
theorem wm_1161 : (.methodLink RL 123 yX7_fairest : Cond) ∈ wsL_law := sr_49 _ (List.mem_of_getElem? (i := 9) rfl)
theorem wm_1162 : (.instanceMethod yX7_fairest : Cond) ∈ wsL_law := sr_49 _ (List.mem_of_getElem? (i := 10) rfl)
theorem wm_1163 : (.selects RX7 yX7_fairest yX7_fairest : Cond) ∈ wsL_law := sr_49 _ (List.mem_of_getElem? (i := 11) rfl)
theorem wm_1164 : (.code yX7_fairest cX7_fairest 5 (some .int) : Cond) ∈ wsL_law := sr_49 _ (List.mem_of_getElem? (i := 12) rfl)
theorem wm_1165 : (.methodLink RL 126 yX9_fairest : Cond) ∈ wsL_law := sr_49 _ (List.mem_of_getElem? (i := 13) rfl)
theorem wm_1166 : (.instanceMethod yX9_fairest : Cond) ∈ wsL_law := sr_49 _ (List.mem_of_getElem? (i := 14) rfl)
theorem wm_1167 : (.selects RX9 yX9_fairest yX9_fairest : Cond) ∈ wsL_law := sr_49 _ (List.mem_of_getElem? (i := 15) rfl)
theorem wm_1168 : (.code yX9_fairest cX9_fairest 3 (some .int) : Cond) ∈ wsL_law := sr_49 _ (List.mem_of_getElem? (i := 16) rfl)
theorem wm_1169 : (.methodLink RL 127 yX7_met : Cond) ∈ wsL_law := sr_49 _ (List.mem_of_getElem? (i := 17) rfl)
theorem wm_1170 : (.instanceMethod yX7_met : Cond) ∈ wsL_law := sr_49 _ (List.mem_of_getElem? (i := 18) rfl)
theorem wm_1171 : (.selects RX7 yX7_met yX7_met : Cond) ∈ wsL_law := sr_49 _ (List.mem_of_getElem? (i := 19) rfl)
theorem wm_1172 : (.code yX7_met cX7_met 1 (some .int) : Cond) ∈ wsL_law := sr_49 _ (List.mem_of_getElem? (i := 20) rfl)
theorem wm_1173 : (.methodLink RX7 204 yX1_hasTrolleyFrom : Cond) ∈ wsL_law := sr_49 _ (List.mem_of_getElem? (i := 21) rfl)
theorem wm_1174 : (.methodLink RX7 207 yX3_frontRows : Cond) ∈ wsL_law := sr_49 _ (List.mem_of_getElem? (i := 22) rfl)
theorem wm_1175 : (.instanceMethod yX3_frontRows : Cond) ∈ wsL_law := sr_49 _ (List.mem_of_getElem? (i := 23) rfl)
theorem wm_1176 : (.selects RX3 yX3_frontRows yX3_frontRows : Cond) ∈ wsL_law := sr_50 _ (List.mem_of_getElem? (i := 0) rfl)
theorem wm_1177 : (.code yX3_frontRows cX3_frontRows 1 (some .int) : Cond) ∈ wsL_law := sr_50 _ (List.mem_of_getElem? (i := 1) rfl)
theorem wm_1178 : (.methodLink RL 130 yX9_met : Cond) ∈ wsL_law := sr_50 _ (List.mem_of_getElem? (i := 2) rfl)
theorem wm_1179 : (.instanceMethod yX9_met : Cond) ∈ wsL_law := sr_50 _ (List.mem_of_getElem? (i := 3) rfl)
theorem wm_1180 : (.selects RX9 yX9_met yX9_met : Cond) ∈ wsL_law := sr_50 _ (List.mem_of_getElem? (i := 4) rfl)
theorem wm_1181 : (.code yX9_met cX9_met 3 (some .int) : Cond) ∈ wsL_law := sr_50 _ (List.mem_of_getElem? (i := 5) rfl)
theorem wm_1182 : (.methodLink RL 131 yX7_out : Cond) ∈ wsL_law := sr_50 _ (List.mem_of_getElem? (i := 6) rfl)
theorem wm_1183 : (.instanceMethod yX7_out : Cond) ∈ wsL_law := sr_50 _ (List.mem_of_getElem? (i := 7) rfl)
theorem wm_1184 : (.selects RX7 yX7_out yX7_out : Cond) ∈ wsL_law := sr_50 _ (List.mem_of_getElem? (i := 8) rfl)
theorem wm_1185 : (.code yX7_out cX7_out 4 (some .long) : Cond) ∈ wsL_law := sr_50 _ (List.mem_of_getElem? (i := 9) rfl)
theorem wm_1186 : (.methodLink RX7 210 yX2_weigh : Cond) ∈ wsL_law := sr_50 _ (List.mem_of_getElem? (i := 10) rfl)
theorem wm_1187 : (.instanceMethod yX2_weigh : Cond) ∈ wsL_law := sr_50 _ (List.mem_of_getElem? (i := 11) rfl)
theorem wm_1188 : (.selects RX2 yX2_weigh yX2_weigh : Cond) ∈ wsL_law := sr_50 _ (List.mem_of_getElem? (i := 12) rfl)
theorem wm_1189 : (.code yX2_weigh cX2_weigh 10 (some .boolean) : Cond) ∈ wsL_law := sr_50 _ (List.mem_of_getElem? (i := 13) rfl)
theorem wm_1190 : (.methodLink RX2 15 yJ7_fill_d0a16 : Cond) ∈ wsL_law := sr_50 _ (List.mem_of_getElem? (i := 14) rfl)
theorem wm_1191 : (.static yJ7_fill_d0a16 : Cond) ∈ wsL_law := sr_50 _ (List.mem_of_getElem? (i := 15) rfl)
theorem wm_1192 : (.code yJ7_fill_d0a16 cJ7_fill_d0a16 5 none : Cond) ∈ wsL_law := sr_50 _ (List.mem_of_getElem? (i := 16) rfl)
theorem wm_1193 : (.methodLink RX2 21 yX1_unnamedIn : Cond) ∈ wsL_law := sr_50 _ (List.mem_of_getElem? (i := 17) rfl)
theorem wm_1194 : (.methodLink RX2 27 yX1_weight : Cond) ∈ wsL_law := sr_50 _ (List.mem_of_getElem? (i := 18) rfl)
theorem wm_1195 : (.methodLink RX2 31 yX1_weights : Cond) ∈ wsL_law := sr_50 _ (List.mem_of_getElem? (i := 19) rfl)
theorem wm_1196 : (.methodLink RX2 34 yX2_addOne : Cond) ∈ wsL_law := sr_50 _ (List.mem_of_getElem? (i := 20) rfl)
theorem wm_1197 : (.instanceMethod yX2_addOne : Cond) ∈ wsL_law := sr_50 _ (List.mem_of_getElem? (i := 21) rfl)
theorem wm_1198 : (.selects RX2 yX2_addOne yX2_addOne : Cond) ∈ wsL_law := sr_50 _ (List.mem_of_getElem? (i := 22) rfl)
theorem wm_1199 : (.code yX2_addOne cX2_addOne 4 none : Cond) ∈ wsL_law := sr_50 _ (List.mem_of_getElem? (i := 23) rfl)
theorem wm_1200 : (.methodLink RX7 214 yX2_waysAbove : Cond) ∈ wsL_law := sr_51 _ (List.mem_of_getElem? (i := 0) rfl)
theorem wm_1201 : (.instanceMethod yX2_waysAbove : Cond) ∈ wsL_law := sr_51 _ (List.mem_of_getElem? (i := 1) rfl)
theorem wm_1202 : (.selects RX2 yX2_waysAbove yX2_waysAbove : Cond) ∈ wsL_law := sr_51 _ (List.mem_of_getElem? (i := 2) rfl)
theorem wm_1203 : (.code yX2_waysAbove cX2_waysAbove 5 (some .long) : Cond) ∈ wsL_law := sr_51 _ (List.mem_of_getElem? (i := 3) rfl)
theorem wm_1204 : (.methodLink RX2 38 Lib.Math.max.name : Cond) ∈ wsL_law := sr_51 _ (List.mem_of_getElem? (i := 4) rfl)
theorem wm_1205 : (.methodLink RL 135 yX9_out : Cond) ∈ wsL_law := sr_51 _ (List.mem_of_getElem? (i := 5) rfl)
theorem wm_1206 : (.instanceMethod yX9_out : Cond) ∈ wsL_law := sr_51 _ (List.mem_of_getElem? (i := 6) rfl)
theorem wm_1207 : (.selects RX9 yX9_out yX9_out : Cond) ∈ wsL_law := sr_51 _ (List.mem_of_getElem? (i := 7) rfl)
theorem wm_1208 : (.code yX9_out cX9_out 4 (some .long) : Cond) ∈ wsL_law := sr_51 _ (List.mem_of_getElem? (i := 8) rfl)
theorem wm_1209 : (.methodLink RX9 543 yX9_aheadOf : Cond) ∈ wsL_law := sr_51 _ (List.mem_of_getElem? (i := 9) rfl)
theorem wm_1210 : (.instanceMethod yX9_aheadOf : Cond) ∈ wsL_law := sr_51 _ (List.mem_of_getElem? (i := 10) rfl)
theorem wm_1211 : (.selects RX9 yX9_aheadOf yX9_aheadOf : Cond) ∈ wsL_law := sr_51 _ (List.mem_of_getElem? (i := 11) rfl)
theorem wm_1212 : (.code yX9_aheadOf cX9_aheadOf 4 (some .int) : Cond) ∈ wsL_law := sr_51 _ (List.mem_of_getElem? (i := 12) rfl)
theorem wm_1213 : (.methodLink RX9 546 yX9_likings : Cond) ∈ wsL_law := sr_51 _ (List.mem_of_getElem? (i := 13) rfl)
theorem wm_1214 : (.instanceMethod yX9_likings : Cond) ∈ wsL_law := sr_51 _ (List.mem_of_getElem? (i := 14) rfl)
theorem wm_1215 : (.selects RX9 yX9_likings yX9_likings : Cond) ∈ wsL_law := sr_51 _ (List.mem_of_getElem? (i := 15) rfl)
theorem wm_1216 : (.code yX9_likings cX9_likings 10 none : Cond) ∈ wsL_law := sr_51 _ (List.mem_of_getElem? (i := 16) rfl)
theorem wm_1217 : (.methodLink RX9 549 yX9_moreThan : Cond) ∈ wsL_law := sr_51 _ (List.mem_of_getElem? (i := 17) rfl)
theorem wm_1218 : (.instanceMethod yX9_moreThan : Cond) ∈ wsL_law := sr_51 _ (List.mem_of_getElem? (i := 18) rfl)
theorem wm_1219 : (.selects RX9 yX9_moreThan yX9_moreThan : Cond) ∈ wsL_law := sr_51 _ (List.mem_of_getElem? (i := 19) rfl)
theorem wm_1220 : (.code yX9_moreThan cX9_moreThan 5 (some .long) : Cond) ∈ wsL_law := sr_51 _ (List.mem_of_getElem? (i := 20) rfl)
theorem wm_1221 : (.methodLink RL 136 yX7_ways : Cond) ∈ wsL_law := sr_51 _ (List.mem_of_getElem? (i := 21) rfl)
theorem wm_1222 : (.instanceMethod yX7_ways : Cond) ∈ wsL_law := sr_51 _ (List.mem_of_getElem? (i := 22) rfl)
theorem wm_1223 : (.selects RX7 yX7_ways yX7_ways : Cond) ∈ wsL_law := sr_51 _ (List.mem_of_getElem? (i := 23) rfl)
theorem wm_1224 : (.code yX7_ways cX7_ways 2 (some .long) : Cond) ∈ wsL_law := sr_52 _ (List.mem_of_getElem? (i := 0) rfl)
theorem wm_1225 : (.methodLink RX7 218 yX2_allWays : Cond) ∈ wsL_law := sr_52 _ (List.mem_of_getElem? (i := 1) rfl)
theorem wm_1226 : (.instanceMethod yX2_allWays : Cond) ∈ wsL_law := sr_52 _ (List.mem_of_getElem? (i := 2) rfl)
theorem wm_1227 : (.selects RX2 yX2_allWays yX2_allWays : Cond) ∈ wsL_law := sr_52 _ (List.mem_of_getElem? (i := 3) rfl)
theorem wm_1228 : (.code yX2_allWays cX2_allWays 1 (some .long) : Cond) ∈ wsL_law := sr_52 _ (List.mem_of_getElem? (i := 4) rfl)
theorem wm_1229 : (.methodLink RX2 43 yX2_waysAbove : Cond) ∈ wsL_law := sr_52 _ (List.mem_of_getElem? (i := 5) rfl)
theorem wm_1230 : (.methodLink RL 140 yX9_ways : Cond) ∈ wsL_law := sr_52 _ (List.mem_of_getElem? (i := 6) rfl)
theorem wm_1231 : (.instanceMethod yX9_ways : Cond) ∈ wsL_law := sr_52 _ (List.mem_of_getElem? (i := 7) rfl)
theorem wm_1232 : (.selects RX9 yX9_ways yX9_ways : Cond) ∈ wsL_law := sr_52 _ (List.mem_of_getElem? (i := 8) rfl)
theorem wm_1233 : (.code yX9_ways cX9_ways 2 (some .long) : Cond) ∈ wsL_law := sr_52 _ (List.mem_of_getElem? (i := 9) rfl)
theorem wm_1234 : (.methodLink RL 141 yX7_enough : Cond) ∈ wsL_law := sr_52 _ (List.mem_of_getElem? (i := 10) rfl)
theorem wm_1235 : (.instanceMethod yX7_enough : Cond) ∈ wsL_law := sr_52 _ (List.mem_of_getElem? (i := 11) rfl)
theorem wm_1236 : (.selects RX7 yX7_enough yX7_enough : Cond) ∈ wsL_law := sr_52 _ (List.mem_of_getElem? (i := 12) rfl)
theorem wm_1237 : (.code yX7_enough cX7_enough 4 (some .int) : Cond) ∈ wsL_law := sr_52 _ (List.mem_of_getElem? (i := 13) rfl)
theorem wm_1238 : (.methodLink RX7 222 yX2_fewestFor : Cond) ∈ wsL_law := sr_52 _ (List.mem_of_getElem? (i := 14) rfl)
theorem wm_1239 : (.instanceMethod yX2_fewestFor : Cond) ∈ wsL_law := sr_52 _ (List.mem_of_getElem? (i := 15) rfl)
theorem wm_1240 : (.selects RX2 yX2_fewestFor yX2_fewestFor : Cond) ∈ wsL_law := sr_52 _ (List.mem_of_getElem? (i := 16) rfl)
theorem wm_1241 : (.code yX2_fewestFor cX2_fewestFor 5 (some .int) : Cond) ∈ wsL_law := sr_52 _ (List.mem_of_getElem? (i := 17) rfl)
theorem wm_1242 : (.constantLong RX2 51 (100) : Cond) ∈ wsL_law := sr_52 _ (List.mem_of_getElem? (i := 18) rfl)
theorem wm_1243 : (.methodLink RX2 47 yX2_allWays : Cond) ∈ wsL_law := sr_52 _ (List.mem_of_getElem? (i := 19) rfl)
theorem wm_1244 : (.methodLink RL 145 yX9_enough : Cond) ∈ wsL_law := sr_52 _ (List.mem_of_getElem? (i := 20) rfl)
theorem wm_1245 : (.instanceMethod yX9_enough : Cond) ∈ wsL_law := sr_52 _ (List.mem_of_getElem? (i := 21) rfl)
theorem wm_1246 : (.selects RX9 yX9_enough yX9_enough : Cond) ∈ wsL_law := sr_52 _ (List.mem_of_getElem? (i := 22) rfl)
theorem wm_1247 : (.code yX9_enough cX9_enough 5 (some .int) : Cond) ∈ wsL_law := sr_52 _ (List.mem_of_getElem? (i := 23) rfl)
theorem wm_1248 : (.constantLong RX9 553 (100) : Cond) ∈ wsL_law := sr_53 _ (List.mem_of_getElem? (i := 0) rfl)
theorem wm_1249 : (.methodLink RL 146 yX7_load : Cond) ∈ wsL_law := sr_53 _ (List.mem_of_getElem? (i := 1) rfl)
theorem wm_1250 : (.instanceMethod yX7_load : Cond) ∈ wsL_law := sr_53 _ (List.mem_of_getElem? (i := 2) rfl)
theorem wm_1251 : (.selects RX7 yX7_load yX7_load : Cond) ∈ wsL_law := sr_53 _ (List.mem_of_getElem? (i := 3) rfl)
theorem wm_1252 : (.code yX7_load cX7_load 4 (some .int) : Cond) ∈ wsL_law := sr_53 _ (List.mem_of_getElem? (i := 4) rfl)
theorem wm_1253 : (.methodLink RX7 225 yX1_formerLoad : Cond) ∈ wsL_law := sr_53 _ (List.mem_of_getElem? (i := 5) rfl)
theorem wm_1254 : (.instanceMethod yX1_formerLoad : Cond) ∈ wsL_law := sr_53 _ (List.mem_of_getElem? (i := 6) rfl)
theorem wm_1255 : (.selects RX1 yX1_formerLoad yX1_formerLoad : Cond) ∈ wsL_law := sr_53 _ (List.mem_of_getElem? (i := 7) rfl)
theorem wm_1256 : (.code yX1_formerLoad cX1_formerLoad 8 (some .int) : Cond) ∈ wsL_law := sr_53 _ (List.mem_of_getElem? (i := 8) rfl)
theorem wm_1257 : (.methodLink RL 150 yX9_load : Cond) ∈ wsL_law := sr_53 _ (List.mem_of_getElem? (i := 9) rfl)
theorem wm_1258 : (.instanceMethod yX9_load : Cond) ∈ wsL_law := sr_53 _ (List.mem_of_getElem? (i := 10) rfl)
theorem wm_1259 : (.selects RX9 yX9_load yX9_load : Cond) ∈ wsL_law := sr_53 _ (List.mem_of_getElem? (i := 11) rfl)
theorem wm_1260 : (.code yX9_load cX9_load 4 (some .int) : Cond) ∈ wsL_law := sr_53 _ (List.mem_of_getElem? (i := 12) rfl)
theorem wm_1261 : (.methodLink RX9 555 yX9_loadBy : Cond) ∈ wsL_law := sr_53 _ (List.mem_of_getElem? (i := 13) rfl)
theorem wm_1262 : (.instanceMethod yX9_loadBy : Cond) ∈ wsL_law := sr_53 _ (List.mem_of_getElem? (i := 14) rfl)
theorem wm_1263 : (.selects RX9 yX9_loadBy yX9_loadBy : Cond) ∈ wsL_law := sr_53 _ (List.mem_of_getElem? (i := 15) rfl)
theorem wm_1264 : (.code yX9_loadBy cX9_loadBy 6 (some .int) : Cond) ∈ wsL_law := sr_53 _ (List.mem_of_getElem? (i := 16) rfl)
theorem wm_1265 : (.methodLink RL 151 yX7_spare : Cond) ∈ wsL_law := sr_53 _ (List.mem_of_getElem? (i := 17) rfl)
theorem wm_1266 : (.instanceMethod yX7_spare : Cond) ∈ wsL_law := sr_53 _ (List.mem_of_getElem? (i := 18) rfl)
theorem wm_1267 : (.selects RX7 yX7_spare yX7_spare : Cond) ∈ wsL_law := sr_53 _ (List.mem_of_getElem? (i := 19) rfl)
theorem wm_1268 : (.code yX7_spare cX7_spare 3 (some .int) : Cond) ∈ wsL_law := sr_53 _ (List.mem_of_getElem? (i := 20) rfl)
theorem wm_1269 : (.methodLink RX7 229 yX1_loadOfKind : Cond) ∈ wsL_law := sr_53 _ (List.mem_of_getElem? (i := 21) rfl)
theorem wm_1270 : (.instanceMethod yX1_loadOfKind : Cond) ∈ wsL_law := sr_53 _ (List.mem_of_getElem? (i := 22) rfl)
theorem wm_1271 : (.selects RX1 yX1_loadOfKind yX1_loadOfKind : Cond) ∈ wsL_law := sr_53 _ (List.mem_of_getElem? (i := 23) rfl)
theorem wm_1272 : (.code yX1_loadOfKind cX1_loadOfKind 2 (some .int) : Cond) ∈ wsL_law := sr_54 _ (List.mem_of_getElem? (i := 0) rfl)
theorem wm_1273 : (.methodLink RL 154 yX9_spare : Cond) ∈ wsL_law := sr_54 _ (List.mem_of_getElem? (i := 1) rfl)
theorem wm_1274 : (.instanceMethod yX9_spare : Cond) ∈ wsL_law := sr_54 _ (List.mem_of_getElem? (i := 2) rfl)
theorem wm_1275 : (.selects RX9 yX9_spare yX9_spare : Cond) ∈ wsL_law := sr_54 _ (List.mem_of_getElem? (i := 3) rfl)
theorem wm_1276 : (.code yX9_spare cX9_spare 3 (some .int) : Cond) ∈ wsL_law := sr_54 _ (List.mem_of_getElem? (i := 4) rfl)
theorem wm_1277 : (.methodLink RX9 559 yX9_loadedInAll : Cond) ∈ wsL_law := sr_54 _ (List.mem_of_getElem? (i := 5) rfl)
theorem wm_1278 : (.instanceMethod yX9_loadedInAll : Cond) ∈ wsL_law := sr_54 _ (List.mem_of_getElem? (i := 6) rfl)
theorem wm_1279 : (.selects RX9 yX9_loadedInAll yX9_loadedInAll : Cond) ∈ wsL_law := sr_54 _ (List.mem_of_getElem? (i := 7) rfl)
theorem wm_1280 : (.code yX9_loadedInAll cX9_loadedInAll 4 (some .int) : Cond) ∈ wsL_law := sr_54 _ (List.mem_of_getElem? (i := 8) rfl)
theorem wm_1281 : (.methodLink RL 155 yX7_unloaded : Cond) ∈ wsL_law := sr_54 _ (List.mem_of_getElem? (i := 9) rfl)
theorem wm_1282 : (.instanceMethod yX7_unloaded : Cond) ∈ wsL_law := sr_54 _ (List.mem_of_getElem? (i := 10) rfl)
theorem wm_1283 : (.selects RX7 yX7_unloaded yX7_unloaded : Cond) ∈ wsL_law := sr_54 _ (List.mem_of_getElem? (i := 11) rfl)
theorem wm_1284 : (.code yX7_unloaded cX7_unloaded 3 (some .int) : Cond) ∈ wsL_law := sr_54 _ (List.mem_of_getElem? (i := 12) rfl)
theorem wm_1285 : (.methodLink RL 158 yX9_unloaded : Cond) ∈ wsL_law := sr_54 _ (List.mem_of_getElem? (i := 13) rfl)
theorem wm_1286 : (.instanceMethod yX9_unloaded : Cond) ∈ wsL_law := sr_54 _ (List.mem_of_getElem? (i := 14) rfl)
theorem wm_1287 : (.selects RX9 yX9_unloaded yX9_unloaded : Cond) ∈ wsL_law := sr_54 _ (List.mem_of_getElem? (i := 15) rfl)
theorem wm_1288 : (.code yX9_unloaded cX9_unloaded 3 (some .int) : Cond) ∈ wsL_law := sr_54 _ (List.mem_of_getElem? (i := 16) rfl)
theorem wm_1289 : (.methodLink RL 159 yX7_waits : Cond) ∈ wsL_law := sr_54 _ (List.mem_of_getElem? (i := 17) rfl)
theorem wm_1290 : (.instanceMethod yX7_waits : Cond) ∈ wsL_law := sr_54 _ (List.mem_of_getElem? (i := 18) rfl)
theorem wm_1291 : (.selects RX7 yX7_waits yX7_waits : Cond) ∈ wsL_law := sr_54 _ (List.mem_of_getElem? (i := 19) rfl)
theorem wm_1292 : (.code yX7_waits cX7_waits 2 (some .int) : Cond) ∈ wsL_law := sr_54 _ (List.mem_of_getElem? (i := 20) rfl)
theorem wm_1293 : (.methodLink RX7 232 yX3_waitOf : Cond) ∈ wsL_law := sr_54 _ (List.mem_of_getElem? (i := 21) rfl)
theorem wm_1294 : (.instanceMethod yX3_waitOf : Cond) ∈ wsL_law := sr_54 _ (List.mem_of_getElem? (i := 22) rfl)
theorem wm_1295 : (.selects RX3 yX3_waitOf yX3_waitOf : Cond) ∈ wsL_law := sr_54 _ (List.mem_of_getElem? (i := 23) rfl)
theorem wm_1296 : (.code yX3_waitOf cX3_waitOf 7 (some .int) : Cond) ∈ wsL_law := sr_55 _ (List.mem_of_getElem? (i := 0) rfl)
theorem wm_1297 : (.methodLink RX3 137 yX3_rowInTheWay : Cond) ∈ wsL_law := sr_55 _ (List.mem_of_getElem? (i := 1) rfl)
theorem wm_1298 : (.instanceMethod yX3_rowInTheWay : Cond) ∈ wsL_law := sr_55 _ (List.mem_of_getElem? (i := 2) rfl)
theorem wm_1299 : (.selects RX3 yX3_rowInTheWay yX3_rowInTheWay : Cond) ∈ wsL_law := sr_55 _ (List.mem_of_getElem? (i := 3) rfl)
theorem wm_1300 : (.code yX3_rowInTheWay cX3_rowInTheWay 8 (some .int) : Cond) ∈ wsL_law := sr_55 _ (List.mem_of_getElem? (i := 4) rfl)
theorem wm_1301 : (.methodLink RX3 144 Lib.Math.min.name : Cond) ∈ wsL_law := sr_55 _ (List.mem_of_getElem? (i := 5) rfl)
theorem wm_1302 : (.methodLink RX3 141 yX3_rowOf : Cond) ∈ wsL_law := sr_55 _ (List.mem_of_getElem? (i := 6) rfl)
theorem wm_1303 : (.instanceMethod yX3_rowOf : Cond) ∈ wsL_law := sr_55 _ (List.mem_of_getElem? (i := 7) rfl)
theorem wm_1304 : (.selects RX3 yX3_rowOf yX3_rowOf : Cond) ∈ wsL_law := sr_55 _ (List.mem_of_getElem? (i := 8) rfl)
theorem wm_1305 : (.code yX3_rowOf cX3_rowOf 5 (some .int) : Cond) ∈ wsL_law := sr_55 _ (List.mem_of_getElem? (i := 9) rfl)
theorem wm_1306 : (.methodLink RX3 130 yX3_isServed : Cond) ∈ wsL_law := sr_55 _ (List.mem_of_getElem? (i := 10) rfl)
theorem wm_1307 : (.methodLink RX3 133 yX3_leaves : Cond) ∈ wsL_law := sr_55 _ (List.mem_of_getElem? (i := 11) rfl)
theorem wm_1308 : (.instanceMethod yX3_leaves : Cond) ∈ wsL_law := sr_55 _ (List.mem_of_getElem? (i := 12) rfl)
theorem wm_1309 : (.selects RX3 yX3_leaves yX3_leaves : Cond) ∈ wsL_law := sr_55 _ (List.mem_of_getElem? (i := 13) rfl)
theorem wm_1310 : (.code yX3_leaves cX3_leaves 6 (some .int) : Cond) ∈ wsL_law := sr_55 _ (List.mem_of_getElem? (i := 14) rfl)
theorem wm_1311 : (.methodLink RX3 147 yX1_isGap : Cond) ∈ wsL_law := sr_55 _ (List.mem_of_getElem? (i := 15) rfl)
theorem wm_1312 : (.instanceMethod yX1_isGap : Cond) ∈ wsL_law := sr_55 _ (List.mem_of_getElem? (i := 16) rfl)
theorem wm_1313 : (.selects RX1 yX1_isGap yX1_isGap : Cond) ∈ wsL_law := sr_55 _ (List.mem_of_getElem? (i := 17) rfl)
theorem wm_1314 : (.code yX1_isGap cX1_isGap 3 (some .boolean) : Cond) ∈ wsL_law := sr_55 _ (List.mem_of_getElem? (i := 18) rfl)
theorem wm_1315 : (.methodLink RL 162 yX9_waits : Cond) ∈ wsL_law := sr_55 _ (List.mem_of_getElem? (i := 19) rfl)
theorem wm_1316 : (.instanceMethod yX9_waits : Cond) ∈ wsL_law := sr_55 _ (List.mem_of_getElem? (i := 20) rfl)
theorem wm_1317 : (.selects RX9 yX9_waits yX9_waits : Cond) ∈ wsL_law := sr_55 _ (List.mem_of_getElem? (i := 21) rfl)
theorem wm_1318 : (.code yX9_waits cX9_waits 4 (some .int) : Cond) ∈ wsL_law := sr_55 _ (List.mem_of_getElem? (i := 22) rfl)
theorem wm_1319 : (.methodLink RX9 568 yX9_isFree : Cond) ∈ wsL_law := sr_55 _ (List.mem_of_getElem? (i := 23) rfl)
theorem wm_1320 : (.instanceMethod yX9_isFree : Cond) ∈ wsL_law := sr_56 _ (List.mem_of_getElem? (i := 0) rfl)
theorem wm_1321 : (.selects RX9 yX9_isFree yX9_isFree : Cond) ∈ wsL_law := sr_56 _ (List.mem_of_getElem? (i := 1) rfl)
theorem wm_1322 : (.code yX9_isFree cX9_isFree 5 (some .boolean) : Cond) ∈ wsL_law := sr_56 _ (List.mem_of_getElem? (i := 2) rfl)
theorem wm_1323 : (.methodLink RX9 562 yX9_rowOn : Cond) ∈ wsL_law := sr_56 _ (List.mem_of_getElem? (i := 3) rfl)
theorem wm_1324 : (.instanceMethod yX9_rowOn : Cond) ∈ wsL_law := sr_56 _ (List.mem_of_getElem? (i := 4) rfl)
theorem wm_1325 : (.selects RX9 yX9_rowOn yX9_rowOn : Cond) ∈ wsL_law := sr_56 _ (List.mem_of_getElem? (i := 5) rfl)
theorem wm_1326 : (.code yX9_rowOn cX9_rowOn 6 (some .int) : Cond) ∈ wsL_law := sr_56 _ (List.mem_of_getElem? (i := 6) rfl)
theorem wm_1327 : (.methodLink RX9 565 yX8_isGap : Cond) ∈ wsL_law := sr_56 _ (List.mem_of_getElem? (i := 7) rfl)
theorem wm_1328 : (.instanceMethod yX8_isGap : Cond) ∈ wsL_law := sr_56 _ (List.mem_of_getElem? (i := 8) rfl)
theorem wm_1329 : (.selects RX8 yX8_isGap yX8_isGap : Cond) ∈ wsL_law := sr_56 _ (List.mem_of_getElem? (i := 9) rfl)
theorem wm_1330 : (.code yX8_isGap cX8_isGap 3 (some .boolean) : Cond) ∈ wsL_law := sr_56 _ (List.mem_of_getElem? (i := 10) rfl)
theorem wm_1331 : (.fieldLink RX8 130 "TwoTrolleysModel$Flight" "gaps" "I" : Cond) ∈ wsL_law := sr_56 _ (List.mem_of_getElem? (i := 11) rfl)
theorem wm_1332 : (.methodLink RL 163 yX7_on : Cond) ∈ wsL_law := sr_56 _ (List.mem_of_getElem? (i := 12) rfl)
theorem wm_1333 : (.instanceMethod yX7_on : Cond) ∈ wsL_law := sr_56 _ (List.mem_of_getElem? (i := 13) rfl)
theorem wm_1334 : (.selects RX7 yX7_on yX7_on : Cond) ∈ wsL_law := sr_56 _ (List.mem_of_getElem? (i := 14) rfl)
theorem wm_1335 : (.code yX7_on cX7_on 4 (some .int) : Cond) ∈ wsL_law := sr_56 _ (List.mem_of_getElem? (i := 15) rfl)
theorem wm_1336 : (.constant RX7 235 (99999) : Cond) ∈ wsL_law := sr_56 _ (List.mem_of_getElem? (i := 16) rfl)
theorem wm_1337 : (.methodLink RX7 236 yX3_rowOf : Cond) ∈ wsL_law := sr_56 _ (List.mem_of_getElem? (i := 17) rfl)
theorem wm_1338 : (.methodLink RL 166 yX9_on : Cond) ∈ wsL_law := sr_56 _ (List.mem_of_getElem? (i := 18) rfl)
theorem wm_1339 : (.instanceMethod yX9_on : Cond) ∈ wsL_law := sr_56 _ (List.mem_of_getElem? (i := 19) rfl)
theorem wm_1340 : (.selects RX9 yX9_on yX9_on : Cond) ∈ wsL_law := sr_56 _ (List.mem_of_getElem? (i := 20) rfl)
theorem wm_1341 : (.code yX9_on cX9_on 4 (some .int) : Cond) ∈ wsL_law := sr_56 _ (List.mem_of_getElem? (i := 21) rfl)
theorem wm_1342 : (.constant RX9 571 (99999) : Cond) ∈ wsL_law := sr_56 _ (List.mem_of_getElem? (i := 22) rfl)
theorem wm_1343 : (.methodLink RL 167 yX7_clear : Cond) ∈ wsL_law := sr_56 _ (List.mem_of_getElem? (i := 23) rfl)
theorem wm_1344 : (.instanceMethod yX7_clear : Cond) ∈ wsL_law := sr_57 _ (List.mem_of_getElem? (i := 0) rfl)
theorem wm_1345 : (.selects RX7 yX7_clear yX7_clear : Cond) ∈ wsL_law := sr_57 _ (List.mem_of_getElem? (i := 1) rfl)
theorem wm_1346 : (.code yX7_clear cX7_clear 2 (some .int) : Cond) ∈ wsL_law := sr_57 _ (List.mem_of_getElem? (i := 2) rfl)
theorem wm_1347 : (.methodLink RX7 240 yX0_takeBack : Cond) ∈ wsL_law := sr_57 _ (List.mem_of_getElem? (i := 3) rfl)
theorem wm_1348 : (.instanceMethod yX0_takeBack : Cond) ∈ wsL_law := sr_57 _ (List.mem_of_getElem? (i := 4) rfl)
theorem wm_1349 : (.selects RX0 yX0_takeBack yX0_takeBack : Cond) ∈ wsL_law := sr_57 _ (List.mem_of_getElem? (i := 5) rfl)
theorem wm_1350 : (.code yX0_takeBack cX0_takeBack 9 (some .int) : Cond) ∈ wsL_law := sr_57 _ (List.mem_of_getElem? (i := 6) rfl)
theorem wm_1351 : (.methodLink RX0 51 yX1_rows : Cond) ∈ wsL_law := sr_57 _ (List.mem_of_getElem? (i := 7) rfl)
theorem wm_1352 : (.methodLink RX0 55 yX3_fact : Cond) ∈ wsL_law := sr_57 _ (List.mem_of_getElem? (i := 8) rfl)
theorem wm_1353 : (.methodLink RL 170 yX9_clear : Cond) ∈ wsL_law := sr_57 _ (List.mem_of_getElem? (i := 9) rfl)
theorem wm_1354 : (.instanceMethod yX9_clear : Cond) ∈ wsL_law := sr_57 _ (List.mem_of_getElem? (i := 10) rfl)
theorem wm_1355 : (.selects RX9 yX9_clear yX9_clear : Cond) ∈ wsL_law := sr_57 _ (List.mem_of_getElem? (i := 11) rfl)
theorem wm_1356 : (.code yX9_clear cX9_clear 2 (some .int) : Cond) ∈ wsL_law := sr_57 _ (List.mem_of_getElem? (i := 12) rfl)
theorem wm_1357 : (.methodLink RX9 572 yX9_cleared : Cond) ∈ wsL_law := sr_57 _ (List.mem_of_getElem? (i := 13) rfl)
theorem wm_1358 : (.instanceMethod yX9_cleared : Cond) ∈ wsL_law := sr_57 _ (List.mem_of_getElem? (i := 14) rfl)
theorem wm_1359 : (.selects RX9 yX9_cleared yX9_cleared : Cond) ∈ wsL_law := sr_57 _ (List.mem_of_getElem? (i := 15) rfl)
theorem wm_1360 : (.code yX9_cleared cX9_cleared 6 (some .int) : Cond) ∈ wsL_law := sr_57 _ (List.mem_of_getElem? (i := 16) rfl)
theorem wm_1361 : (.methodLink RL 171 yX7_room : Cond) ∈ wsL_law := sr_57 _ (List.mem_of_getElem? (i := 17) rfl)
theorem wm_1362 : (.instanceMethod yX7_room : Cond) ∈ wsL_law := sr_57 _ (List.mem_of_getElem? (i := 18) rfl)
theorem wm_1363 : (.selects RX7 yX7_room yX7_room : Cond) ∈ wsL_law := sr_57 _ (List.mem_of_getElem? (i := 19) rfl)
theorem wm_1364 : (.code yX7_room cX7_room 3 (some .int) : Cond) ∈ wsL_law := sr_57 _ (List.mem_of_getElem? (i := 20) rfl)
theorem wm_1365 : (.methodLink RX7 244 yX0_roomIn : Cond) ∈ wsL_law := sr_57 _ (List.mem_of_getElem? (i := 21) rfl)
theorem wm_1366 : (.instanceMethod yX0_roomIn : Cond) ∈ wsL_law := sr_57 _ (List.mem_of_getElem? (i := 22) rfl)
theorem wm_1367 : (.selects RX0 yX0_roomIn yX0_roomIn : Cond) ∈ wsL_law := sr_57 _ (List.mem_of_getElem? (i := 23) rfl)
theorem wm_1368 : (.code yX0_roomIn cX0_roomIn 2 (some .int) : Cond) ∈ wsL_law := sr_58 _ (List.mem_of_getElem? (i := 0) rfl)
theorem wm_1369 : (.methodLink RL 174 yX9_room : Cond) ∈ wsL_law := sr_58 _ (List.mem_of_getElem? (i := 1) rfl)
theorem wm_1370 : (.instanceMethod yX9_room : Cond) ∈ wsL_law := sr_58 _ (List.mem_of_getElem? (i := 2) rfl)
theorem wm_1371 : (.selects RX9 yX9_room yX9_room : Cond) ∈ wsL_law := sr_58 _ (List.mem_of_getElem? (i := 3) rfl)
theorem wm_1372 : (.code yX9_room cX9_room 3 (some .int) : Cond) ∈ wsL_law := sr_58 _ (List.mem_of_getElem? (i := 4) rfl)
theorem wm_1373 : (.methodLink RL 175 yX7_fewest : Cond) ∈ wsL_law := sr_58 _ (List.mem_of_getElem? (i := 5) rfl)
theorem wm_1374 : (.instanceMethod yX7_fewest : Cond) ∈ wsL_law := sr_58 _ (List.mem_of_getElem? (i := 6) rfl)
theorem wm_1375 : (.selects RX7 yX7_fewest yX7_fewest : Cond) ∈ wsL_law := sr_58 _ (List.mem_of_getElem? (i := 7) rfl)
theorem wm_1376 : (.code yX7_fewest cX7_fewest 6 (some .int) : Cond) ∈ wsL_law := sr_58 _ (List.mem_of_getElem? (i := 8) rfl)
theorem wm_1377 : (.constantLong RX7 250 (24) : Cond) ∈ wsL_law := sr_58 _ (List.mem_of_getElem? (i := 9) rfl)
theorem wm_1378 : (.methodLink RX7 247 yX7_isWanted : Cond) ∈ wsL_law := sr_58 _ (List.mem_of_getElem? (i := 10) rfl)
theorem wm_1379 : (.instanceMethod yX7_isWanted : Cond) ∈ wsL_law := sr_58 _ (List.mem_of_getElem? (i := 11) rfl)
theorem wm_1380 : (.selects RX7 yX7_isWanted yX7_isWanted : Cond) ∈ wsL_law := sr_58 _ (List.mem_of_getElem? (i := 12) rfl)
theorem wm_1381 : (.code yX7_isWanted cX7_isWanted 3 (some .boolean) : Cond) ∈ wsL_law := sr_58 _ (List.mem_of_getElem? (i := 13) rfl)
theorem wm_1382 : (.methodLink RX7 252 yX0_want : Cond) ∈ wsL_law := sr_58 _ (List.mem_of_getElem? (i := 14) rfl)
theorem wm_1383 : (.instanceMethod yX0_want : Cond) ∈ wsL_law := sr_58 _ (List.mem_of_getElem? (i := 15) rfl)
theorem wm_1384 : (.selects RX0 yX0_want yX0_want : Cond) ∈ wsL_law := sr_58 _ (List.mem_of_getElem? (i := 16) rfl)
theorem wm_1385 : (.code yX0_want cX0_want 3 none : Cond) ∈ wsL_law := sr_58 _ (List.mem_of_getElem? (i := 17) rfl)
theorem wm_1386 : (.methodLink RX0 60 Lib.Math.max.name : Cond) ∈ wsL_law := sr_58 _ (List.mem_of_getElem? (i := 18) rfl)
theorem wm_1387 : (.methodLink RX7 255 yX0_fewestOf : Cond) ∈ wsL_law := sr_58 _ (List.mem_of_getElem? (i := 19) rfl)
theorem wm_1388 : (.instanceMethod yX0_fewestOf : Cond) ∈ wsL_law := sr_58 _ (List.mem_of_getElem? (i := 20) rfl)
theorem wm_1389 : (.selects RX0 yX0_fewestOf yX0_fewestOf : Cond) ∈ wsL_law := sr_58 _ (List.mem_of_getElem? (i := 21) rfl)
theorem wm_1390 : (.code yX0_fewestOf cX0_fewestOf 5 (some .int) : Cond) ∈ wsL_law := sr_58 _ (List.mem_of_getElem? (i := 22) rfl)
theorem wm_1391 : (.methodLink RX0 63 yX0_bestFilling : Cond) ∈ wsL_law := sr_58 _ (List.mem_of_getElem? (i := 23) rfl)
theorem wm_1392 : (.instanceMethod yX0_bestFilling : Cond) ∈ wsL_law := sr_59 _ (List.mem_of_getElem? (i := 0) rfl)
theorem wm_1393 : (.selects RX0 yX0_bestFilling yX0_bestFilling : Cond) ∈ wsL_law := sr_59 _ (List.mem_of_getElem? (i := 1) rfl)
theorem wm_1394 : (.code yX0_bestFilling cX0_bestFilling 12 (some .int) : Cond) ∈ wsL_law := sr_59 _ (List.mem_of_getElem? (i := 2) rfl)
theorem wm_1395 : (.constant RX0 67 (1000000) : Cond) ∈ wsL_law := sr_59 _ (List.mem_of_getElem? (i := 3) rfl)
theorem wm_1396 : (.methodLink RL 178 yX9_fewest : Cond) ∈ wsL_law := sr_59 _ (List.mem_of_getElem? (i := 4) rfl)
theorem wm_1397 : (.instanceMethod yX9_fewest : Cond) ∈ wsL_law := sr_59 _ (List.mem_of_getElem? (i := 5) rfl)
theorem wm_1398 : (.selects RX9 yX9_fewest yX9_fewest : Cond) ∈ wsL_law := sr_59 _ (List.mem_of_getElem? (i := 6) rfl)
theorem wm_1399 : (.code yX9_fewest cX9_fewest 12 (some .int) : Cond) ∈ wsL_law := sr_59 _ (List.mem_of_getElem? (i := 7) rfl)
theorem wm_1400 : (.constantLong RX9 582 (24) : Cond) ∈ wsL_law := sr_59 _ (List.mem_of_getElem? (i := 8) rfl)
theorem wm_1401 : (.methodLink RX9 578 yX9_packed : Cond) ∈ wsL_law := sr_59 _ (List.mem_of_getElem? (i := 9) rfl)
theorem wm_1402 : (.instanceMethod yX9_packed : Cond) ∈ wsL_law := sr_59 _ (List.mem_of_getElem? (i := 10) rfl)
theorem wm_1403 : (.selects RX9 yX9_packed yX9_packed : Cond) ∈ wsL_law := sr_59 _ (List.mem_of_getElem? (i := 11) rfl)
theorem wm_1404 : (.code yX9_packed cX9_packed 5 (some .int) : Cond) ∈ wsL_law := sr_59 _ (List.mem_of_getElem? (i := 12) rfl)
theorem wm_1405 : (.methodLink RX9 584 yX9_lastDrawer : Cond) ∈ wsL_law := sr_59 _ (List.mem_of_getElem? (i := 13) rfl)
theorem wm_1406 : (.instanceMethod yX9_lastDrawer : Cond) ∈ wsL_law := sr_59 _ (List.mem_of_getElem? (i := 14) rfl)
theorem wm_1407 : (.selects RX9 yX9_lastDrawer yX9_lastDrawer : Cond) ∈ wsL_law := sr_59 _ (List.mem_of_getElem? (i := 15) rfl)
theorem wm_1408 : (.code yX9_lastDrawer cX9_lastDrawer 13 (some .int) : Cond) ∈ wsL_law := sr_59 _ (List.mem_of_getElem? (i := 16) rfl)
theorem wm_1409 : (.methodLink RX9 575 yX9_shapeOf : Cond) ∈ wsL_law := sr_59 _ (List.mem_of_getElem? (i := 17) rfl)
theorem wm_1410 : (.instanceMethod yX9_shapeOf : Cond) ∈ wsL_law := sr_59 _ (List.mem_of_getElem? (i := 18) rfl)
theorem wm_1411 : (.selects RX9 yX9_shapeOf yX9_shapeOf : Cond) ∈ wsL_law := sr_59 _ (List.mem_of_getElem? (i := 19) rfl)
theorem wm_1412 : (.code yX9_shapeOf cX9_shapeOf 2 (some .int) : Cond) ∈ wsL_law := sr_59 _ (List.mem_of_getElem? (i := 20) rfl)
theorem wm_1413 : (.methodLink RL 179 yX7_till : Cond) ∈ wsL_law := sr_59 _ (List.mem_of_getElem? (i := 21) rfl)
theorem wm_1414 : (.instanceMethod yX7_till : Cond) ∈ wsL_law := sr_59 _ (List.mem_of_getElem? (i := 22) rfl)
theorem wm_1415 : (.selects RX7 yX7_till yX7_till : Cond) ∈ wsL_law := sr_59 _ (List.mem_of_getElem? (i := 23) rfl)
theorem wm_1416 : (.code yX7_till cX7_till 4 (some .boolean) : Cond) ∈ wsL_law := sr_60 _ (List.mem_of_getElem? (i := 0) rfl)
theorem wm_1417 : (.methodLink RX7 258 yX5_coinOf : Cond) ∈ wsL_law := sr_60 _ (List.mem_of_getElem? (i := 1) rfl)
theorem wm_1418 : (.static yX5_coinOf : Cond) ∈ wsL_law := sr_60 _ (List.mem_of_getElem? (i := 2) rfl)
theorem wm_1419 : (.code yX5_coinOf cX5_coinOf 2 (some .int) : Cond) ∈ wsL_law := sr_60 _ (List.mem_of_getElem? (i := 3) rfl)
theorem wm_1420 : (.methodLink RX7 261 yX5_fill : Cond) ∈ wsL_law := sr_60 _ (List.mem_of_getElem? (i := 4) rfl)
theorem wm_1421 : (.instanceMethod yX5_fill : Cond) ∈ wsL_law := sr_60 _ (List.mem_of_getElem? (i := 5) rfl)
theorem wm_1422 : (.selects RX5 yX5_fill yX5_fill : Cond) ∈ wsL_law := sr_60 _ (List.mem_of_getElem? (i := 6) rfl)
theorem wm_1423 : (.code yX5_fill cX5_fill 3 none : Cond) ∈ wsL_law := sr_60 _ (List.mem_of_getElem? (i := 7) rfl)
theorem wm_1424 : (.methodLink RX5 29 yX5_isCoin : Cond) ∈ wsL_law := sr_60 _ (List.mem_of_getElem? (i := 8) rfl)
theorem wm_1425 : (.static yX5_isCoin : Cond) ∈ wsL_law := sr_60 _ (List.mem_of_getElem? (i := 9) rfl)
theorem wm_1426 : (.code yX5_isCoin cX5_isCoin 1 (some .boolean) : Cond) ∈ wsL_law := sr_60 _ (List.mem_of_getElem? (i := 10) rfl)
theorem wm_1427 : (.methodLink RL 183 yX9_till : Cond) ∈ wsL_law := sr_60 _ (List.mem_of_getElem? (i := 11) rfl)
theorem wm_1428 : (.instanceMethod yX9_till : Cond) ∈ wsL_law := sr_60 _ (List.mem_of_getElem? (i := 12) rfl)
theorem wm_1429 : (.selects RX9 yX9_till yX9_till : Cond) ∈ wsL_law := sr_60 _ (List.mem_of_getElem? (i := 13) rfl)
theorem wm_1430 : (.code yX9_till cX9_till 3 (some .boolean) : Cond) ∈ wsL_law := sr_60 _ (List.mem_of_getElem? (i := 14) rfl)
theorem wm_1431 : (.methodLink RX9 591 yX9_coinOf : Cond) ∈ wsL_law := sr_60 _ (List.mem_of_getElem? (i := 15) rfl)
theorem wm_1432 : (.static yX9_coinOf : Cond) ∈ wsL_law := sr_60 _ (List.mem_of_getElem? (i := 16) rfl)
theorem wm_1433 : (.code yX9_coinOf cX9_coinOf 2 (some .int) : Cond) ∈ wsL_law := sr_60 _ (List.mem_of_getElem? (i := 17) rfl)
theorem wm_1434 : (.methodLink RX9 588 yX9_valueOf : Cond) ∈ wsL_law := sr_60 _ (List.mem_of_getElem? (i := 18) rfl)
theorem wm_1435 : (.static yX9_valueOf : Cond) ∈ wsL_law := sr_60 _ (List.mem_of_getElem? (i := 19) rfl)
theorem wm_1436 : (.code yX9_valueOf cX9_valueOf 1 (some .int) : Cond) ∈ wsL_law := sr_60 _ (List.mem_of_getElem? (i := 20) rfl)
theorem wm_1437 : (.methodLink RL 184 yX7_sell : Cond) ∈ wsL_law := sr_60 _ (List.mem_of_getElem? (i := 21) rfl)
theorem wm_1438 : (.instanceMethod yX7_sell : Cond) ∈ wsL_law := sr_60 _ (List.mem_of_getElem? (i := 22) rfl)
theorem wm_1439 : (.selects RX7 yX7_sell yX7_sell : Cond) ∈ wsL_law := sr_60 _ (List.mem_of_getElem? (i := 23) rfl)
theorem wm_1440 : (.code yX7_sell cX7_sell 5 (some .int) : Cond) ∈ wsL_law := sr_61 _ (List.mem_of_getElem? (i := 0) rfl)
theorem wm_1441 : (.methodLink RX7 264 yX5_isFullOf : Cond) ∈ wsL_law := sr_61 _ (List.mem_of_getElem? (i := 1) rfl)
theorem wm_1442 : (.instanceMethod yX5_isFullOf : Cond) ∈ wsL_law := sr_61 _ (List.mem_of_getElem? (i := 2) rfl)
theorem wm_1443 : (.selects RX5 yX5_isFullOf yX5_isFullOf : Cond) ∈ wsL_law := sr_61 _ (List.mem_of_getElem? (i := 3) rfl)
theorem wm_1444 : (.code yX5_isFullOf cX5_isFullOf 2 (some .boolean) : Cond) ∈ wsL_law := sr_61 _ (List.mem_of_getElem? (i := 4) rfl)
theorem wm_1445 : (.methodLink RX7 267 yX5_giveBack : Cond) ∈ wsL_law := sr_61 _ (List.mem_of_getElem? (i := 5) rfl)
theorem wm_1446 : (.instanceMethod yX5_giveBack : Cond) ∈ wsL_law := sr_61 _ (List.mem_of_getElem? (i := 6) rfl)
theorem wm_1447 : (.selects RX5 yX5_giveBack yX5_giveBack : Cond) ∈ wsL_law := sr_61 _ (List.mem_of_getElem? (i := 7) rfl)
theorem wm_1448 : (.code yX5_giveBack cX5_giveBack 5 (some .boolean) : Cond) ∈ wsL_law := sr_61 _ (List.mem_of_getElem? (i := 8) rfl)
theorem wm_1449 : (.methodLink RX5 37 yX5_countFewest : Cond) ∈ wsL_law := sr_61 _ (List.mem_of_getElem? (i := 9) rfl)
theorem wm_1450 : (.instanceMethod yX5_countFewest : Cond) ∈ wsL_law := sr_61 _ (List.mem_of_getElem? (i := 10) rfl)
theorem wm_1451 : (.selects RX5 yX5_countFewest yX5_countFewest : Cond) ∈ wsL_law := sr_61 _ (List.mem_of_getElem? (i := 11) rfl)
theorem wm_1452 : (.code yX5_countFewest cX5_countFewest 6 none : Cond) ∈ wsL_law := sr_61 _ (List.mem_of_getElem? (i := 12) rfl)
theorem wm_1453 : (.methodLink RX5 45 Lib.Math.min.name : Cond) ∈ wsL_law := sr_61 _ (List.mem_of_getElem? (i := 13) rfl)
theorem wm_1454 : (.methodLink RX5 50 yJ7_fill_53178 : Cond) ∈ wsL_law := sr_61 _ (List.mem_of_getElem? (i := 14) rfl)
theorem wm_1455 : (.methodLink RX5 41 yX5_most : Cond) ∈ wsL_law := sr_61 _ (List.mem_of_getElem? (i := 15) rfl)
theorem wm_1456 : (.instanceMethod yX5_most : Cond) ∈ wsL_law := sr_61 _ (List.mem_of_getElem? (i := 16) rfl)
theorem wm_1457 : (.selects RX5 yX5_most yX5_most : Cond) ∈ wsL_law := sr_61 _ (List.mem_of_getElem? (i := 17) rfl)
theorem wm_1458 : (.code yX5_most cX5_most 3 (some .int) : Cond) ∈ wsL_law := sr_61 _ (List.mem_of_getElem? (i := 18) rfl)
theorem wm_1459 : (.methodLink RX7 270 yX5_take : Cond) ∈ wsL_law := sr_61 _ (List.mem_of_getElem? (i := 19) rfl)
theorem wm_1460 : (.instanceMethod yX5_take : Cond) ∈ wsL_law := sr_61 _ (List.mem_of_getElem? (i := 20) rfl)
theorem wm_1461 : (.selects RX5 yX5_take yX5_take : Cond) ∈ wsL_law := sr_61 _ (List.mem_of_getElem? (i := 21) rfl)
theorem wm_1462 : (.code yX5_take cX5_take 2 none : Cond) ∈ wsL_law := sr_61 _ (List.mem_of_getElem? (i := 22) rfl)
theorem wm_1463 : (.fieldLink RX5 33 "TwoTrolleys$Till" "noteCount" "I" : Cond) ∈ wsL_law := sr_61 _ (List.mem_of_getElem? (i := 23) rfl)
theorem wm_1464 : (.methodLink RL 187 yX9_sell : Cond) ∈ wsL_law := sr_62 _ (List.mem_of_getElem? (i := 0) rfl)
theorem wm_1465 : (.instanceMethod yX9_sell : Cond) ∈ wsL_law := sr_62 _ (List.mem_of_getElem? (i := 1) rfl)
theorem wm_1466 : (.selects RX9 yX9_sell yX9_sell : Cond) ∈ wsL_law := sr_62 _ (List.mem_of_getElem? (i := 2) rfl)
theorem wm_1467 : (.code yX9_sell cX9_sell 6 (some .int) : Cond) ∈ wsL_law := sr_62 _ (List.mem_of_getElem? (i := 3) rfl)
theorem wm_1468 : (.fieldLink RX9 603 "TwoTrolleysModel" "notes" "I" : Cond) ∈ wsL_law := sr_62 _ (List.mem_of_getElem? (i := 4) rfl)
theorem wm_1469 : (.methodLink RX9 600 yX9_gives : Cond) ∈ wsL_law := sr_62 _ (List.mem_of_getElem? (i := 5) rfl)
theorem wm_1470 : (.instanceMethod yX9_gives : Cond) ∈ wsL_law := sr_62 _ (List.mem_of_getElem? (i := 6) rfl)
theorem wm_1471 : (.selects RX9 yX9_gives yX9_gives : Cond) ∈ wsL_law := sr_62 _ (List.mem_of_getElem? (i := 7) rfl)
theorem wm_1472 : (.code yX9_gives cX9_gives 6 (some .boolean) : Cond) ∈ wsL_law := sr_62 _ (List.mem_of_getElem? (i := 8) rfl)
theorem wm_1473 : (.methodLink RX9 597 yX9_lays : Cond) ∈ wsL_law := sr_62 _ (List.mem_of_getElem? (i := 9) rfl)
theorem wm_1474 : (.instanceMethod yX9_lays : Cond) ∈ wsL_law := sr_62 _ (List.mem_of_getElem? (i := 10) rfl)
theorem wm_1475 : (.selects RX9 yX9_lays yX9_lays : Cond) ∈ wsL_law := sr_62 _ (List.mem_of_getElem? (i := 11) rfl)
theorem wm_1476 : (.code yX9_lays cX9_lays 7 none : Cond) ∈ wsL_law := sr_62 _ (List.mem_of_getElem? (i := 12) rfl)
theorem wm_1477 : (.methodLink RX9 594 yX9_coinsFor : Cond) ∈ wsL_law := sr_62 _ (List.mem_of_getElem? (i := 13) rfl)
theorem wm_1478 : (.instanceMethod yX9_coinsFor : Cond) ∈ wsL_law := sr_62 _ (List.mem_of_getElem? (i := 14) rfl)
theorem wm_1479 : (.selects RX9 yX9_coinsFor yX9_coinsFor : Cond) ∈ wsL_law := sr_62 _ (List.mem_of_getElem? (i := 15) rfl)
theorem wm_1480 : (.code yX9_coinsFor cX9_coinsFor 3 (some .int) : Cond) ∈ wsL_law := sr_62 _ (List.mem_of_getElem? (i := 16) rfl)
theorem wm_1481 : (.methodLink RL 188 yX7_given : Cond) ∈ wsL_law := sr_62 _ (List.mem_of_getElem? (i := 17) rfl)
theorem wm_1482 : (.instanceMethod yX7_given : Cond) ∈ wsL_law := sr_62 _ (List.mem_of_getElem? (i := 18) rfl)
theorem wm_1483 : (.selects RX7 yX7_given yX7_given : Cond) ∈ wsL_law := sr_62 _ (List.mem_of_getElem? (i := 19) rfl)
theorem wm_1484 : (.code yX7_given cX7_given 3 (some .int) : Cond) ∈ wsL_law := sr_62 _ (List.mem_of_getElem? (i := 20) rfl)
theorem wm_1485 : (.methodLink RX7 274 yX5_givenOf : Cond) ∈ wsL_law := sr_62 _ (List.mem_of_getElem? (i := 21) rfl)
theorem wm_1486 : (.instanceMethod yX5_givenOf : Cond) ∈ wsL_law := sr_62 _ (List.mem_of_getElem? (i := 22) rfl)
theorem wm_1487 : (.selects RX5 yX5_givenOf yX5_givenOf : Cond) ∈ wsL_law := sr_62 _ (List.mem_of_getElem? (i := 23) rfl)
theorem wm_1488 : (.code yX5_givenOf cX5_givenOf 2 (some .int) : Cond) ∈ wsL_law := sr_63 _ (List.mem_of_getElem? (i := 0) rfl)
theorem wm_1489 : (.methodLink RL 191 yX9_given : Cond) ∈ wsL_law := sr_63 _ (List.mem_of_getElem? (i := 1) rfl)
theorem wm_1490 : (.instanceMethod yX9_given : Cond) ∈ wsL_law := sr_63 _ (List.mem_of_getElem? (i := 2) rfl)
theorem wm_1491 : (.selects RX9 yX9_given yX9_given : Cond) ∈ wsL_law := sr_63 _ (List.mem_of_getElem? (i := 3) rfl)
theorem wm_1492 : (.code yX9_given cX9_given 2 (some .int) : Cond) ∈ wsL_law := sr_63 _ (List.mem_of_getElem? (i := 4) rfl)
theorem wm_1493 : (.methodLink RL 192 yX7_coins : Cond) ∈ wsL_law := sr_63 _ (List.mem_of_getElem? (i := 5) rfl)
theorem wm_1494 : (.instanceMethod yX7_coins : Cond) ∈ wsL_law := sr_63 _ (List.mem_of_getElem? (i := 6) rfl)
theorem wm_1495 : (.selects RX7 yX7_coins yX7_coins : Cond) ∈ wsL_law := sr_63 _ (List.mem_of_getElem? (i := 7) rfl)
theorem wm_1496 : (.code yX7_coins cX7_coins 1 (some .int) : Cond) ∈ wsL_law := sr_63 _ (List.mem_of_getElem? (i := 8) rfl)
theorem wm_1497 : (.methodLink RX7 277 yX5_worth : Cond) ∈ wsL_law := sr_63 _ (List.mem_of_getElem? (i := 9) rfl)
theorem wm_1498 : (.instanceMethod yX5_worth : Cond) ∈ wsL_law := sr_63 _ (List.mem_of_getElem? (i := 10) rfl)
theorem wm_1499 : (.selects RX5 yX5_worth yX5_worth : Cond) ∈ wsL_law := sr_63 _ (List.mem_of_getElem? (i := 11) rfl)
theorem wm_1500 : (.code yX5_worth cX5_worth 3 (some .int) : Cond) ∈ wsL_law := sr_63 _ (List.mem_of_getElem? (i := 12) rfl)
theorem wm_1501 : (.methodLink RL 195 yX9_coins : Cond) ∈ wsL_law := sr_63 _ (List.mem_of_getElem? (i := 13) rfl)
theorem wm_1502 : (.instanceMethod yX9_coins : Cond) ∈ wsL_law := sr_63 _ (List.mem_of_getElem? (i := 14) rfl)
theorem wm_1503 : (.selects RX9 yX9_coins yX9_coins : Cond) ∈ wsL_law := sr_63 _ (List.mem_of_getElem? (i := 15) rfl)
theorem wm_1504 : (.code yX9_coins cX9_coins 3 (some .int) : Cond) ∈ wsL_law := sr_63 _ (List.mem_of_getElem? (i := 16) rfl)
theorem wm_1505 : (.methodLink RL 196 yX7_change : Cond) ∈ wsL_law := sr_63 _ (List.mem_of_getElem? (i := 17) rfl)
theorem wm_1506 : (.instanceMethod yX7_change : Cond) ∈ wsL_law := sr_63 _ (List.mem_of_getElem? (i := 18) rfl)
theorem wm_1507 : (.selects RX7 yX7_change yX7_change : Cond) ∈ wsL_law := sr_63 _ (List.mem_of_getElem? (i := 19) rfl)
theorem wm_1508 : (.code yX7_change cX7_change 2 (some .int) : Cond) ∈ wsL_law := sr_63 _ (List.mem_of_getElem? (i := 20) rfl)
theorem wm_1509 : (.methodLink RX7 280 yX5_waysToGive : Cond) ∈ wsL_law := sr_63 _ (List.mem_of_getElem? (i := 21) rfl)
theorem wm_1510 : (.instanceMethod yX5_waysToGive : Cond) ∈ wsL_law := sr_63 _ (List.mem_of_getElem? (i := 22) rfl)
theorem wm_1511 : (.selects RX5 yX5_waysToGive yX5_waysToGive : Cond) ∈ wsL_law := sr_63 _ (List.mem_of_getElem? (i := 23) rfl)
theorem wm_1512 : (.code yX5_waysToGive cX5_waysToGive 6 (some .int) : Cond) ∈ wsL_law := sr_64 _ (List.mem_of_getElem? (i := 0) rfl)
theorem wm_1513 : (.methodLink RL 199 yX9_change : Cond) ∈ wsL_law := sr_64 _ (List.mem_of_getElem? (i := 1) rfl)
theorem wm_1514 : (.instanceMethod yX9_change : Cond) ∈ wsL_law := sr_64 _ (List.mem_of_getElem? (i := 2) rfl)
theorem wm_1515 : (.selects RX9 yX9_change yX9_change : Cond) ∈ wsL_law := sr_64 _ (List.mem_of_getElem? (i := 3) rfl)
theorem wm_1516 : (.code yX9_change cX9_change 5 (some .int) : Cond) ∈ wsL_law := sr_64 _ (List.mem_of_getElem? (i := 4) rfl)
theorem wm_1522 : (.methodLink RL 7 yX7_led : Cond) ∈ wsL_law := sr_64 _ (List.mem_of_getElem? (i := 10) rfl)
theorem wm_1523 : (.instanceMethod yX7_led : Cond) ∈ wsL_law := sr_64 _ (List.mem_of_getElem? (i := 11) rfl)
theorem wm_1524 : (.selects RX7 yX7_led yX7_led : Cond) ∈ wsL_law := sr_64 _ (List.mem_of_getElem? (i := 12) rfl)
theorem wm_1525 : (.code yX7_led cX7_led 4 (some .int) : Cond) ∈ wsL_law := sr_64 _ (List.mem_of_getElem? (i := 13) rfl)
theorem wm_1528 : (.methodLink RL 205 yX9_led : Cond) ∈ wsL_law := sr_64 _ (List.mem_of_getElem? (i := 16) rfl)
theorem wm_1529 : (.instanceMethod yX9_led : Cond) ∈ wsL_law := sr_64 _ (List.mem_of_getElem? (i := 17) rfl)
theorem wm_1530 : (.selects RX9 yX9_led yX9_led : Cond) ∈ wsL_law := sr_64 _ (List.mem_of_getElem? (i := 18) rfl)
theorem wm_1531 : (.code yX9_led cX9_led 4 (some .int) : Cond) ∈ wsL_law := sr_64 _ (List.mem_of_getElem? (i := 19) rfl)
theorem wm_1532 : (.methodLink RL 206 yX9_thrown : Cond) ∈ wsL_law := sr_64 _ (List.mem_of_getElem? (i := 20) rfl)
theorem wm_1533 : (.instanceMethod yX9_thrown : Cond) ∈ wsL_law := sr_64 _ (List.mem_of_getElem? (i := 21) rfl)
theorem wm_1534 : (.selects RX9 yX9_thrown yX9_thrown : Cond) ∈ wsL_law := sr_64 _ (List.mem_of_getElem? (i := 22) rfl)
theorem wm_1535 : (.code yX9_thrown cX9_thrown 1 (some .int) : Cond) ∈ wsL_law := sr_64 _ (List.mem_of_getElem? (i := 23) rfl)
theorem wm_1536 : (.methodLink RL 209 yX7_size : Cond) ∈ wsL_law := sr_65 _ (List.mem_of_getElem? (i := 0) rfl)
theorem wm_1537 : (.instanceMethod yX7_size : Cond) ∈ wsL_law := sr_65 _ (List.mem_of_getElem? (i := 1) rfl)
theorem wm_1538 : (.selects RX7 yX7_size yX7_size : Cond) ∈ wsL_law := sr_65 _ (List.mem_of_getElem? (i := 2) rfl)
theorem wm_1539 : (.code yX7_size cX7_size 2 (some .int) : Cond) ∈ wsL_law := sr_65 _ (List.mem_of_getElem? (i := 3) rfl)
theorem wm_1541 : (.methodLink RX7 290 yX3_seed : Cond) ∈ wsL_law := sr_65 _ (List.mem_of_getElem? (i := 5) rfl)
theorem wm_1542 : (.instanceMethod yX3_seed : Cond) ∈ wsL_law := sr_65 _ (List.mem_of_getElem? (i := 6) rfl)
theorem wm_1543 : (.selects RX3 yX3_seed yX3_seed : Cond) ∈ wsL_law := sr_65 _ (List.mem_of_getElem? (i := 7) rfl)
theorem wm_1544 : (.code yX3_seed cX3_seed 1 (some .int) : Cond) ∈ wsL_law := sr_65 _ (List.mem_of_getElem? (i := 8) rfl)
theorem wm_1545 : (.methodLink RX7 293 yX5_notes : Cond) ∈ wsL_law := sr_65 _ (List.mem_of_getElem? (i := 9) rfl)
theorem wm_1546 : (.instanceMethod yX5_notes : Cond) ∈ wsL_law := sr_65 _ (List.mem_of_getElem? (i := 10) rfl)
theorem wm_1547 : (.selects RX5 yX5_notes yX5_notes : Cond) ∈ wsL_law := sr_65 _ (List.mem_of_getElem? (i := 11) rfl)
theorem wm_1548 : (.code yX5_notes cX5_notes 1 (some .int) : Cond) ∈ wsL_law := sr_65 _ (List.mem_of_getElem? (i := 12) rfl)
theorem wm_1549 : (.methodLink RL 212 yX9_size : Cond) ∈ wsL_law := sr_65 _ (List.mem_of_getElem? (i := 13) rfl)
theorem wm_1550 : (.instanceMethod yX9_size : Cond) ∈ wsL_law := sr_65 _ (List.mem_of_getElem? (i := 14) rfl)
theorem wm_1551 : (.selects RX9 yX9_size yX9_size : Cond) ∈ wsL_law := sr_65 _ (List.mem_of_getElem? (i := 15) rfl)
theorem wm_1552 : (.code yX9_size cX9_size 2 (some .int) : Cond) ∈ wsL_law := sr_65 _ (List.mem_of_getElem? (i := 16) rfl)
theorem wm_1553 : (.methodLink RL 213 yX7_trouble : Cond) ∈ wsL_law := sr_65 _ (List.mem_of_getElem? (i := 17) rfl)
theorem wm_1554 : (.instanceMethod yX7_trouble : Cond) ∈ wsL_law := sr_65 _ (List.mem_of_getElem? (i := 18) rfl)
theorem wm_1555 : (.selects RX7 yX7_trouble yX7_trouble : Cond) ∈ wsL_law := sr_65 _ (List.mem_of_getElem? (i := 19) rfl)
theorem wm_1556 : (.code yX7_trouble cX7_trouble 1 (some .int) : Cond) ∈ wsL_law := sr_65 _ (List.mem_of_getElem? (i := 20) rfl)
theorem wm_1557 : (.methodLink RL 216 yX9_trouble : Cond) ∈ wsL_law := sr_65 _ (List.mem_of_getElem? (i := 21) rfl)
theorem wm_1558 : (.instanceMethod yX9_trouble : Cond) ∈ wsL_law := sr_65 _ (List.mem_of_getElem? (i := 22) rfl)
theorem wm_1559 : (.selects RX9 yX9_trouble yX9_trouble : Cond) ∈ wsL_law := sr_65 _ (List.mem_of_getElem? (i := 23) rfl)
theorem wm_1560 : (.code yX9_trouble cX9_trouble 1 (some .int) : Cond) ∈ wsL_law := sr_66 _ (List.mem_of_getElem? (i := 0) rfl)
abbrev rX0_init : Room := { frames := 1, cells := 3, slots := 2419, locals := 20 }
abbrev rX0_empty : Room := { frames := 1, cells := 0, slots := 0, locals := 23 }
abbrev rX0_takes : Room := { frames := 0, cells := 0, slots := 0, locals := 0 }
abbrev rX0_roomIn : Room := { frames := 0, cells := 0, slots := 0, locals := 0 }
abbrev rX0_holdLoad : Room := { frames := 2, cells := 0, slots := 0, locals := 46 }
abbrev rX0_takeBack : Room := { frames := 2, cells := 0, slots := 0, locals := 46 }
abbrev rX0_want : Room := { frames := 1, cells := 0, slots := 0, locals := 21 }
abbrev rX0_fewestOf : Room := { frames := 2, cells := 0, slots := 0, locals := 54 }
abbrev rX0_bestFilling : Room := { frames := 1, cells := 0, slots := 0, locals := 23 }
abbrev rX1_init : Room := { frames := 1, cells := 5, slots := 1351, locals := 20 }
abbrev rX1_forget : Room := { frames := 1, cells := 0, slots := 0, locals := 23 }
abbrev rX1_lacks : Room := { frames := 0, cells := 0, slots := 0, locals := 0 }
abbrev rX1_count : Room := { frames := 0, cells := 0, slots := 0, locals := 0 }
abbrev rX1_isFull : Room := { frames := 0, cells := 0, slots := 0, locals := 0 }
abbrev rX1_open : Room := { frames := 1, cells := 0, slots := 0, locals := 24 }
abbrev rX1_put : Room := { frames := 0, cells := 0, slots := 0, locals := 0 }
abbrev rX1_close : Room := { frames := 1, cells := 0, slots := 0, locals := 21 }
abbrev rX1_get : Room := { frames := 0, cells := 0, slots := 0, locals := 0 }
abbrev rX1_addLiking : Room := { frames := 1, cells := 0, slots := 0, locals := 24 }
abbrev rX1_weightIn : Room := { frames := 1, cells := 0, slots := 0, locals := 23 }
abbrev rX1_settle : Room := { frames := 2, cells := 0, slots := 0, locals := 46 }
abbrev rX1_latestBlock : Room := { frames := 1, cells := 0, slots := 0, locals := 23 }
abbrev rX1_namedIn : Room := { frames := 1, cells := 0, slots := 0, locals := 23 }
abbrev rX1_rows : Room := { frames := 1, cells := 0, slots := 0, locals := 23 }
abbrev rX1_walk : Room := { frames := 1, cells := 0, slots := 0, locals := 23 }
abbrev rX1_serve : Room := { frames := 1, cells := 0, slots := 0, locals := 23 }
abbrev rX1_blockOf : Room := { frames := 0, cells := 0, slots := 0, locals := 0 }
abbrev rX1_sitting : Room := { frames := 0, cells := 0, slots := 0, locals := 0 }
abbrev rX1_sittingWithin : Room := { frames := 1, cells := 0, slots := 0, locals := 21 }
abbrev rX1_unnamedIn : Room := { frames := 2, cells := 0, slots := 0, locals := 46 }
abbrev rX1_isNamedInside : Room := { frames := 2, cells := 0, slots := 0, locals := 43 }
abbrev rX1_weight : Room := { frames := 2, cells := 0, slots := 0, locals := 47 }
abbrev rX1_weights : Room := { frames := 1, cells := 0, slots := 0, locals := 23 }
abbrev rX1_likedBy : Room := { frames := 1, cells := 0, slots := 0, locals := 23 }
abbrev rX1_isFront : Room := { frames := 1, cells := 0, slots := 0, locals := 23 }
abbrev rX1_hasTrolleyFrom : Room := { frames := 1, cells := 0, slots := 0, locals := 23 }
abbrev rX1_loadOf : Room := { frames := 0, cells := 0, slots := 0, locals := 0 }
abbrev rX1_loadOfKind : Room := { frames := 1, cells := 0, slots := 0, locals := 23 }
abbrev rX1_loadOfTrolley : Room := { frames := 1, cells := 0, slots := 0, locals := 23 }
abbrev rX1_degrees : Room := { frames := 1, cells := 0, slots := 0, locals := 23 }
abbrev rX1_isCold : Room := { frames := 2, cells := 0, slots := 0, locals := 48 }
abbrev rX1_behindBelts : Room := { frames := 1, cells := 0, slots := 0, locals := 23 }
abbrev rX1_beltsBegunWithin : Room := { frames := 1, cells := 0, slots := 0, locals := 23 }
abbrev rX1_isGap : Room := { frames := 1, cells := 0, slots := 0, locals := 23 }
abbrev rX1_secondsMeetingAt : Room := { frames := 3, cells := 0, slots := 0, locals := 68 }
abbrev rX1_secondsFor : Room := { frames := 2, cells := 0, slots := 0, locals := 45 }
abbrev rX1_lackingMeetingAt : Room := { frames := 2, cells := 0, slots := 0, locals := 46 }
abbrev rX1_formerLoad : Room := { frames := 2, cells := 0, slots := 0, locals := 45 }
abbrev rX2_init : Room := { frames := 1, cells := 1, slots := 11, locals := 20 }
abbrev rX2_weigh : Room := { frames := 3, cells := 0, slots := 0, locals := 69 }
abbrev rX2_addOne : Room := { frames := 0, cells := 0, slots := 0, locals := 0 }
abbrev rX2_waysAbove : Room := { frames := 1, cells := 0, slots := 0, locals := 21 }
abbrev rX2_allWays : Room := { frames := 2, cells := 0, slots := 0, locals := 45 }
abbrev rX2_fewestFor : Room := { frames := 3, cells := 0, slots := 0, locals := 65 }
abbrev rX3_init : Room := { frames := 1, cells := 4, slots := 467, locals := 20 }
abbrev rX3_restart : Room := { frames := 2, cells := 0, slots := 0, locals := 43 }
abbrev rX3_copy : Room := { frames := 1, cells := 0, slots := 0, locals := 60 }
abbrev rX3_isOver : Room := { frames := 0, cells := 0, slots := 0, locals := 0 }
abbrev rX3_isServed : Room := { frames := 0, cells := 0, slots := 0, locals := 0 }
abbrev rX3_rowsServed : Room := { frames := 2, cells := 0, slots := 0, locals := 43 }
abbrev rX3_frontRows : Room := { frames := 0, cells := 0, slots := 0, locals := 0 }
abbrev rX3_seed : Room := { frames := 0, cells := 0, slots := 0, locals := 0 }
abbrev rX3_spilt : Room := { frames := 0, cells := 0, slots := 0, locals := 0 }
abbrev rX3_secondsOf : Room := { frames := 0, cells := 0, slots := 0, locals := 0 }
abbrev rX3_leftOf : Room := { frames := 0, cells := 0, slots := 0, locals := 0 }
abbrev rX3_gotOf : Room := { frames := 0, cells := 0, slots := 0, locals := 0 }
abbrev rX3_fact : Room := { frames := 0, cells := 0, slots := 0, locals := 0 }
abbrev rX3_addFact : Room := { frames := 0, cells := 0, slots := 0, locals := 0 }
abbrev rX3_sumOf : Room := { frames := 1, cells := 0, slots := 0, locals := 23 }
abbrev rX3_advance : Room := { frames := 5, cells := 0, slots := 0, locals := 122 }
abbrev rX3_nextTrolley : Room := { frames := 2, cells := 0, slots := 0, locals := 44 }
abbrev rX3_serveNamed : Room := { frames := 4, cells := 0, slots := 0, locals := 94 }
abbrev rX3_serveOthers : Room := { frames := 4, cells := 0, slots := 0, locals := 94 }
abbrev rX3_mostLeft : Room := { frames := 1, cells := 0, slots := 0, locals := 23 }
abbrev rX3_hand : Room := { frames := 3, cells := 0, slots := 0, locals := 70 }
abbrev rX3_rowOf : Room := { frames := 3, cells := 0, slots := 0, locals := 69 }
abbrev rX3_leaves : Room := { frames := 2, cells := 0, slots := 0, locals := 44 }
abbrev rX3_waitOf : Room := { frames := 5, cells := 0, slots := 0, locals := 120 }
abbrev rX3_rowInTheWay : Room := { frames := 4, cells := 0, slots := 0, locals := 93 }
abbrev rX4_init : Room := { frames := 2, cells := 5, slots := 961, locals := 40 }
abbrev rX4_write : Room := { frames := 1, cells := 0, slots := 0, locals := 23 }
abbrev rX4_faultPlace : Room := { frames := 1, cells := 0, slots := 0, locals := 20 }
abbrev rX4_read : Room := { frames := 10, cells := 0, slots := 0, locals := 219 }
abbrev rX4_tellLine : Room := { frames := 9, cells := 0, slots := 0, locals := 197 }
abbrev rX4_tellNumbers : Room := { frames := 8, cells := 0, slots := 0, locals := 172 }
abbrev rX4_tellNamedThing : Room := { frames := 8, cells := 0, slots := 0, locals := 173 }
abbrev rX4_tellOfNames : Room := { frames := 8, cells := 0, slots := 0, locals := 173 }
abbrev rX4_tellBlock : Room := { frames := 8, cells := 0, slots := 0, locals := 174 }
abbrev rX4_tellLiking : Room := { frames := 7, cells := 0, slots := 0, locals := 151 }
abbrev rX4_trolleyEnd : Room := { frames := 6, cells := 0, slots := 0, locals := 128 }
abbrev rX4_labelled : Room := { frames := 7, cells := 0, slots := 0, locals := 149 }
abbrev rX5_init : Room := { frames := 1, cells := 11, slots := 919, locals := 20 }
abbrev rX5_coinOf : Room := { frames := 0, cells := 0, slots := 0, locals := 0 }
abbrev rX5_isCoin : Room := { frames := 0, cells := 0, slots := 0, locals := 0 }
abbrev rX5_fill : Room := { frames := 1, cells := 0, slots := 0, locals := 20 }
abbrev rX5_isFullOf : Room := { frames := 1, cells := 0, slots := 0, locals := 20 }
abbrev rX5_take : Room := { frames := 1, cells := 0, slots := 0, locals := 20 }
abbrev rX5_notes : Room := { frames := 0, cells := 0, slots := 0, locals := 0 }
abbrev rX5_givenOf : Room := { frames := 1, cells := 0, slots := 0, locals := 20 }
abbrev rX5_worth : Room := { frames := 0, cells := 0, slots := 0, locals := 0 }
abbrev rX5_giveBack : Room := { frames := 3, cells := 0, slots := 0, locals := 68 }
abbrev rX5_most : Room := { frames := 1, cells := 0, slots := 0, locals := 21 }
abbrev rX5_countFewest : Room := { frames := 2, cells := 0, slots := 0, locals := 43 }
abbrev rX5_waysToGive : Room := { frames := 1, cells := 0, slots := 0, locals := 23 }
abbrev rX6_init : Room := { frames := 1, cells := 4, slots := 948, locals := 20 }
abbrev rX6_write : Room := { frames := 0, cells := 0, slots := 0, locals := 0 }
abbrev rX6_begin : Room := { frames := 1, cells := 0, slots := 0, locals := 21 }
abbrev rX6_isFine : Room := { frames := 0, cells := 0, slots := 0, locals := 0 }
abbrev rX6_isAtEnd : Room := { frames := 0, cells := 0, slots := 0, locals := 0 }
abbrev rX6_firstFault : Room := { frames := 0, cells := 0, slots := 0, locals := 0 }
abbrev rX6_faultPlace : Room := { frames := 0, cells := 0, slots := 0, locals := 0 }
abbrev rX6_fail : Room := { frames := 0, cells := 0, slots := 0, locals := 0 }
abbrev rX6_next : Room := { frames := 0, cells := 0, slots := 0, locals := 0 }
abbrev rX6_isSign : Room := { frames := 0, cells := 0, slots := 0, locals := 0 }
abbrev rX6_isWord : Room := { frames := 5, cells := 0, slots := 0, locals := 106 }
abbrev rX6_reserved : Room := { frames := 5, cells := 0, slots := 0, locals := 106 }
abbrev rX6_expectSign : Room := { frames := 1, cells := 0, slots := 0, locals := 21 }
abbrev rX6_expectWord : Room := { frames := 6, cells := 0, slots := 0, locals := 128 }
abbrev rX6_expectWhole : Room := { frames := 1, cells := 0, slots := 0, locals := 21 }
abbrev rX6_expectNewName : Room := { frames := 6, cells := 0, slots := 0, locals := 129 }
abbrev rX6_seeName : Room := { frames := 6, cells := 0, slots := 0, locals := 129 }
abbrev rX6_expectName : Room := { frames := 7, cells := 0, slots := 0, locals := 151 }
abbrev rX6_findName : Room := { frames := 0, cells := 0, slots := 0, locals := 0 }
abbrev rX7_init : Room := { frames := 3, cells := 62, slots := 9412, locals := 60 }
abbrev rX7_feed : Room := { frames := 2, cells := 0, slots := 0, locals := 45 }
abbrev rX7_flight : Room := { frames := 11, cells := 0, slots := 0, locals := 242 }
abbrev rX7_fault : Room := { frames := 0, cells := 0, slots := 0, locals := 0 }
abbrev rX7_where : Room := { frames := 0, cells := 0, slots := 0, locals := 0 }
abbrev rX7_sits : Room := { frames := 3, cells := 0, slots := 0, locals := 64 }
abbrev rX7_all : Room := { frames := 3, cells := 0, slots := 0, locals := 63 }
abbrev rX7_likes : Room := { frames := 3, cells := 0, slots := 0, locals := 69 }
abbrev rX7_loaded : Room := { frames := 2, cells := 0, slots := 0, locals := 42 }
abbrev rX7_fitsIn : Room := { frames := 3, cells := 0, slots := 0, locals := 71 }
abbrev rX7_start : Room := { frames := 3, cells := 0, slots := 0, locals := 66 }
abbrev rX7_step : Room := { frames := 6, cells := 0, slots := 0, locals := 148 }
abbrev rX7_finish : Room := { frames := 6, cells := 0, slots := 0, locals := 148 }
abbrev rX7_seconds : Room := { frames := 2, cells := 0, slots := 0, locals := 42 }
abbrev rX7_left : Room := { frames := 2, cells := 0, slots := 0, locals := 42 }
abbrev rX7_served : Room := { frames := 3, cells := 0, slots := 0, locals := 64 }
abbrev rX7_trays : Room := { frames := 3, cells := 0, slots := 0, locals := 64 }
abbrev rX7_got : Room := { frames := 3, cells := 0, slots := 0, locals := 64 }
abbrev rX7_sum : Room := { frames := 3, cells := 0, slots := 0, locals := 64 }
abbrev rX7_heat : Room := { frames := 2, cells := 0, slots := 0, locals := 48 }
abbrev rX7_cold : Room := { frames := 3, cells := 0, slots := 0, locals := 70 }
abbrev rX7_mark : Room := { frames := 3, cells := 0, slots := 0, locals := 81 }
abbrev rX7_back : Room := { frames := 2, cells := 0, slots := 0, locals := 81 }
abbrev rX7_meets : Room := { frames := 4, cells := 0, slots := 0, locals := 89 }
abbrev rX7_soonest : Room := { frames := 4, cells := 0, slots := 0, locals := 89 }
abbrev rX7_lacking : Room := { frames := 3, cells := 0, slots := 0, locals := 72 }
abbrev rX7_fairest : Room := { frames := 3, cells := 0, slots := 0, locals := 72 }
abbrev rX7_met : Room := { frames := 2, cells := 0, slots := 0, locals := 45 }
abbrev rX7_out : Room := { frames := 4, cells := 0, slots := 0, locals := 98 }
abbrev rX7_ways : Room := { frames := 4, cells := 0, slots := 0, locals := 98 }
abbrev rX7_enough : Room := { frames := 4, cells := 0, slots := 0, locals := 98 }
abbrev rX7_load : Room := { frames := 3, cells := 0, slots := 0, locals := 72 }
abbrev rX7_spare : Room := { frames := 3, cells := 0, slots := 0, locals := 72 }
abbrev rX7_unloaded : Room := { frames := 3, cells := 0, slots := 0, locals := 64 }
abbrev rX7_waits : Room := { frames := 6, cells := 0, slots := 0, locals := 146 }
abbrev rX7_on : Room := { frames := 4, cells := 0, slots := 0, locals := 93 }
abbrev rX7_clear : Room := { frames := 3, cells := 0, slots := 0, locals := 74 }
abbrev rX7_room : Room := { frames := 3, cells := 0, slots := 0, locals := 74 }
abbrev rX7_fewest : Room := { frames := 3, cells := 0, slots := 0, locals := 78 }
abbrev rX7_till : Room := { frames := 2, cells := 0, slots := 0, locals := 42 }
abbrev rX7_sell : Room := { frames := 4, cells := 0, slots := 0, locals := 92 }
abbrev rX7_given : Room := { frames := 2, cells := 0, slots := 0, locals := 41 }
abbrev rX7_coins : Room := { frames := 1, cells := 0, slots := 0, locals := 22 }
abbrev rX7_change : Room := { frames := 2, cells := 0, slots := 0, locals := 48 }
abbrev rX7_led : Room := { frames := 2, cells := 0, slots := 0, locals := 43 }
abbrev rX7_size : Room := { frames := 2, cells := 0, slots := 0, locals := 43 }
abbrev rX7_trouble : Room := { frames := 0, cells := 0, slots := 0, locals := 0 }
abbrev rX7_accept : Room := { frames := 0, cells := 0, slots := 0, locals := 0 }
abbrev rX7_refuse : Room := { frames := 0, cells := 0, slots := 0, locals := 0 }
abbrev rX7_refuseFarBelow : Room := { frames := 0, cells := 0, slots := 0, locals := 0 }
abbrev rX7_grant : Room := { frames := 0, cells := 0, slots := 0, locals := 0 }
abbrev rX7_deny : Room := { frames := 0, cells := 0, slots := 0, locals := 0 }
abbrev rX7_hasFlight : Room := { frames := 2, cells := 0, slots := 0, locals := 43 }
abbrev rX7_isRow : Room := { frames := 2, cells := 0, slots := 0, locals := 43 }
abbrev rX7_isKind : Room := { frames := 1, cells := 0, slots := 0, locals := 21 }
abbrev rX7_isTrolley : Room := { frames := 1, cells := 0, slots := 0, locals := 21 }
abbrev rX7_isMeeting : Room := { frames := 2, cells := 0, slots := 0, locals := 43 }
abbrev rX7_isMinute : Room := { frames := 0, cells := 0, slots := 0, locals := 0 }
abbrev rX7_isWanted : Room := { frames := 2, cells := 0, slots := 0, locals := 42 }
abbrev rX8_init : Room := { frames := 1, cells := 30, slots := 203, locals := 20 }
abbrev rX8_find : Room := { frames := 0, cells := 0, slots := 0, locals := 0 }
abbrev rX8_blockOf : Room := { frames := 0, cells := 0, slots := 0, locals := 0 }
abbrev rX8_seatsOf : Room := { frames := 1, cells := 0, slots := 0, locals := 23 }
abbrev rX8_namedIn : Room := { frames := 0, cells := 0, slots := 0, locals := 0 }
abbrev rX8_othersIn : Room := { frames := 2, cells := 0, slots := 0, locals := 44 }
abbrev rX8_sitsIn : Room := { frames := 3, cells := 0, slots := 0, locals := 66 }
abbrev rX8_isGap : Room := { frames := 0, cells := 0, slots := 0, locals := 0 }
abbrev rX8_trolleyAt : Room := { frames := 0, cells := 0, slots := 0, locals := 0 }
abbrev rX9_init : Room := { frames := 1, cells := 12, slots := 6903, locals := 20 }
abbrev rX9_thrown : Room := { frames := 0, cells := 0, slots := 0, locals := 0 }
abbrev rX9_refused : Room := { frames := 0, cells := 0, slots := 0, locals := 0 }
abbrev rX9_lost : Room := { frames := 1, cells := 0, slots := 0, locals := 21 }
abbrev rX9_denied : Room := { frames := 1, cells := 0, slots := 0, locals := 21 }
abbrev rX9_done : Room := { frames := 0, cells := 0, slots := 0, locals := 0 }
abbrev rX9_granted : Room := { frames := 1, cells := 0, slots := 0, locals := 21 }
abbrev rX9_in : Room := { frames := 0, cells := 0, slots := 0, locals := 0 }
abbrev rX9_byteAt : Room := { frames := 0, cells := 0, slots := 0, locals := 0 }
abbrev rX9_isLetter : Room := { frames := 0, cells := 0, slots := 0, locals := 0 }
abbrev rX9_isDigit : Room := { frames := 0, cells := 0, slots := 0, locals := 0 }
abbrev rX9_wordOf : Room := { frames := 5, cells := 0, slots := 0, locals := 106 }
abbrev rX9_goesOn : Room := { frames := 1, cells := 0, slots := 0, locals := 21 }
abbrev rX9_wrong : Room := { frames := 0, cells := 0, slots := 0, locals := 0 }
abbrev rX9_isWord : Room := { frames := 6, cells := 0, slots := 0, locals := 129 }
abbrev rX9_eatsWord : Room := { frames := 7, cells := 0, slots := 0, locals := 150 }
abbrev rX9_eatsSign : Room := { frames := 2, cells := 0, slots := 0, locals := 43 }
abbrev rX9_needs : Room := { frames := 7, cells := 0, slots := 0, locals := 150 }
abbrev rX9_readWhole : Room := { frames := 2, cells := 0, slots := 0, locals := 43 }
abbrev rX9_readPart : Room := { frames := 8, cells := 0, slots := 0, locals := 171 }
abbrev rX9_isName : Room := { frames := 7, cells := 0, slots := 0, locals := 150 }
abbrev rX9_begins : Room := { frames := 2, cells := 0, slots := 0, locals := 43 }
abbrev rX9_readFresh : Room := { frames := 8, cells := 0, slots := 0, locals := 170 }
abbrev rX9_known : Room := { frames := 8, cells := 0, slots := 0, locals := 170 }
abbrev rX9_readKnown : Room := { frames := 9, cells := 0, slots := 0, locals := 192 }
abbrev rX9_readFlight : Room := { frames := 12, cells := 0, slots := 0, locals := 257 }
abbrev rX9_readLine : Room := { frames := 11, cells := 0, slots := 0, locals := 237 }
abbrev rX9_readCabin : Room := { frames := 9, cells := 0, slots := 0, locals := 194 }
abbrev rX9_readHeat : Room := { frames := 9, cells := 0, slots := 0, locals := 194 }
abbrev rX9_readKind : Room := { frames := 9, cells := 0, slots := 0, locals := 194 }
abbrev rX9_readBatch : Room := { frames := 10, cells := 0, slots := 0, locals := 214 }
abbrev rX9_readTook : Room := { frames := 10, cells := 0, slots := 0, locals := 214 }
abbrev rX9_readTrolley : Room := { frames := 9, cells := 0, slots := 0, locals := 194 }
abbrev rX9_readLoad : Room := { frames := 10, cells := 0, slots := 0, locals := 214 }
abbrev rX9_readBlock : Room := { frames := 9, cells := 0, slots := 0, locals := 194 }
abbrev rX9_readNamed : Room := { frames := 10, cells := 0, slots := 0, locals := 214 }
abbrev rX9_readBelts : Room := { frames := 9, cells := 0, slots := 0, locals := 194 }
abbrev rX9_readGap : Room := { frames := 3, cells := 0, slots := 0, locals := 66 }
abbrev rX9_readPast : Room := { frames := 9, cells := 0, slots := 0, locals := 194 }
abbrev rX9_readDrink : Room := { frames := 9, cells := 0, slots := 0, locals := 194 }
abbrev rX9_feed : Room := { frames := 0, cells := 0, slots := 0, locals := 0 }
abbrev rX9_flight : Room := { frames := 13, cells := 31, slots := 250, locals := 278 }
abbrev rX9_fault : Room := { frames := 0, cells := 0, slots := 0, locals := 0 }
abbrev rX9_where : Room := { frames := 0, cells := 0, slots := 0, locals := 0 }
abbrev rX9_isRow : Room := { frames := 0, cells := 0, slots := 0, locals := 0 }
abbrev rX9_isKind : Room := { frames := 0, cells := 0, slots := 0, locals := 0 }
abbrev rX9_isTrolley : Room := { frames := 0, cells := 0, slots := 0, locals := 0 }
abbrev rX9_sits : Room := { frames := 4, cells := 0, slots := 0, locals := 87 }
abbrev rX9_sitsAll : Room := { frames := 4, cells := 0, slots := 0, locals := 87 }
abbrev rX9_all : Room := { frames := 5, cells := 0, slots := 0, locals := 109 }
abbrev rX9_weightOf : Room := { frames := 1, cells := 0, slots := 0, locals := 23 }
abbrev rX9_likes : Room := { frames := 2, cells := 0, slots := 0, locals := 47 }
abbrev rX9_loaded : Room := { frames := 1, cells := 0, slots := 0, locals := 21 }
abbrev rX9_empties : Room := { frames := 0, cells := 0, slots := 0, locals := 0 }
abbrev rX9_goesIn : Room := { frames := 0, cells := 0, slots := 0, locals := 0 }
abbrev rX9_fitsIn : Room := { frames := 1, cells := 0, slots := 0, locals := 23 }
abbrev rX9_startsAnew : Room := { frames := 0, cells := 0, slots := 0, locals := 0 }
abbrev rX9_start : Room := { frames := 2, cells := 0, slots := 0, locals := 42 }
abbrev rX9_isOver : Room := { frames := 0, cells := 0, slots := 0, locals := 0 }
abbrev rX9_isServed : Room := { frames := 0, cells := 0, slots := 0, locals := 0 }
abbrev rX9_nextTrolley : Room := { frames := 0, cells := 0, slots := 0, locals := 0 }
abbrev rX9_nextRow : Room := { frames := 1, cells := 0, slots := 0, locals := 21 }
abbrev rX9_behindBelts : Room := { frames := 1, cells := 0, slots := 0, locals := 22 }
abbrev rX9_drawn : Room := { frames := 0, cells := 0, slots := 0, locals := 0 }
abbrev rX9_heatOf : Room := { frames := 0, cells := 0, slots := 0, locals := 0 }
abbrev rX9_hands : Room := { frames := 1, cells := 0, slots := 0, locals := 24 }
abbrev rX9_leftOf : Room := { frames := 0, cells := 0, slots := 0, locals := 0 }
abbrev rX9_servesNamed : Room := { frames := 2, cells := 0, slots := 0, locals := 47 }
abbrev rX9_likedIn : Room := { frames := 1, cells := 0, slots := 0, locals := 21 }
abbrev rX9_servesOther : Room := { frames := 2, cells := 0, slots := 0, locals := 47 }
abbrev rX9_steps : Room := { frames := 3, cells := 0, slots := 0, locals := 72 }
abbrev rX9_step : Room := { frames := 4, cells := 0, slots := 0, locals := 96 }
abbrev rX9_finish : Room := { frames := 4, cells := 0, slots := 0, locals := 96 }
abbrev rX9_seconds : Room := { frames := 1, cells := 0, slots := 0, locals := 21 }
abbrev rX9_left : Room := { frames := 1, cells := 0, slots := 0, locals := 22 }
abbrev rX9_traysIn : Room := { frames := 0, cells := 0, slots := 0, locals := 0 }
abbrev rX9_served : Room := { frames := 1, cells := 0, slots := 0, locals := 23 }
abbrev rX9_trays : Room := { frames := 1, cells := 0, slots := 0, locals := 21 }
abbrev rX9_got : Room := { frames := 1, cells := 0, slots := 0, locals := 21 }
abbrev rX9_sum : Room := { frames := 1, cells := 0, slots := 0, locals := 23 }
abbrev rX9_heat : Room := { frames := 2, cells := 0, slots := 0, locals := 42 }
abbrev rX9_cold : Room := { frames := 1, cells := 0, slots := 0, locals := 24 }
abbrev rX9_mark : Room := { frames := 1, cells := 0, slots := 0, locals := 21 }
abbrev rX9_back : Room := { frames := 2, cells := 0, slots := 0, locals := 42 }
abbrev rX9_firstRow : Room := { frames := 0, cells := 0, slots := 0, locals := 0 }
abbrev rX9_lastRow : Room := { frames := 0, cells := 0, slots := 0, locals := 0 }
abbrev rX9_sitsBetween : Room := { frames := 4, cells := 0, slots := 0, locals := 87 }
abbrev rX9_meetsAt : Room := { frames := 5, cells := 0, slots := 0, locals := 111 }
abbrev rX9_lackingAt : Room := { frames := 5, cells := 0, slots := 0, locals := 111 }
abbrev rX9_isMeeting : Room := { frames := 1, cells := 0, slots := 0, locals := 22 }
abbrev rX9_meets : Room := { frames := 6, cells := 0, slots := 0, locals := 137 }
abbrev rX9_soonest : Room := { frames := 6, cells := 0, slots := 0, locals := 137 }
abbrev rX9_lacking : Room := { frames := 6, cells := 0, slots := 0, locals := 136 }
abbrev rX9_fairest : Room := { frames := 6, cells := 0, slots := 0, locals := 136 }
abbrev rX9_met : Room := { frames := 1, cells := 0, slots := 0, locals := 22 }
abbrev rX9_aheadOf : Room := { frames := 3, cells := 0, slots := 0, locals := 66 }
abbrev rX9_likings : Room := { frames := 3, cells := 0, slots := 0, locals := 66 }
abbrev rX9_moreThan : Room := { frames := 0, cells := 0, slots := 0, locals := 0 }
abbrev rX9_out : Room := { frames := 4, cells := 0, slots := 0, locals := 95 }
abbrev rX9_ways : Room := { frames := 4, cells := 0, slots := 0, locals := 95 }
abbrev rX9_enough : Room := { frames := 4, cells := 0, slots := 0, locals := 95 }
abbrev rX9_loadBy : Room := { frames := 5, cells := 0, slots := 0, locals := 109 }
abbrev rX9_load : Room := { frames := 6, cells := 0, slots := 0, locals := 134 }
abbrev rX9_loadedInAll : Room := { frames := 0, cells := 0, slots := 0, locals := 0 }
abbrev rX9_spare : Room := { frames := 6, cells := 0, slots := 0, locals := 134 }
abbrev rX9_unloaded : Room := { frames := 1, cells := 0, slots := 0, locals := 23 }
abbrev rX9_rowOn : Room := { frames := 0, cells := 0, slots := 0, locals := 0 }
abbrev rX9_isFree : Room := { frames := 1, cells := 0, slots := 0, locals := 25 }
abbrev rX9_waits : Room := { frames := 2, cells := 0, slots := 0, locals := 49 }
abbrev rX9_on : Room := { frames := 1, cells := 0, slots := 0, locals := 25 }
abbrev rX9_cleared : Room := { frames := 1, cells := 0, slots := 0, locals := 23 }
abbrev rX9_clear : Room := { frames := 2, cells := 0, slots := 0, locals := 48 }
abbrev rX9_room : Room := { frames := 2, cells := 0, slots := 0, locals := 48 }
abbrev rX9_packed : Room := { frames := 0, cells := 0, slots := 0, locals := 0 }
abbrev rX9_shapeOf : Room := { frames := 0, cells := 0, slots := 0, locals := 0 }
abbrev rX9_lastDrawer : Room := { frames := 1, cells := 0, slots := 0, locals := 24 }
abbrev rX9_fewest : Room := { frames := 2, cells := 0, slots := 0, locals := 56 }
abbrev rX9_valueOf : Room := { frames := 0, cells := 0, slots := 0, locals := 0 }
abbrev rX9_coinOf : Room := { frames := 1, cells := 0, slots := 0, locals := 20 }
abbrev rX9_till : Room := { frames := 2, cells := 0, slots := 0, locals := 42 }
abbrev rX9_coinsFor : Room := { frames := 0, cells := 0, slots := 0, locals := 0 }
abbrev rX9_lays : Room := { frames := 1, cells := 0, slots := 0, locals := 22 }
abbrev rX9_gives : Room := { frames := 2, cells := 0, slots := 0, locals := 48 }
abbrev rX9_sell : Room := { frames := 3, cells := 0, slots := 0, locals := 73 }
abbrev rX9_given : Room := { frames := 2, cells := 0, slots := 0, locals := 41 }
abbrev rX9_coins : Room := { frames := 1, cells := 0, slots := 0, locals := 20 }
abbrev rX9_change : Room := { frames := 1, cells := 0, slots := 0, locals := 22 }
abbrev rX9_led : Room := { frames := 0, cells := 0, slots := 0, locals := 0 }
abbrev rX9_size : Room := { frames := 1, cells := 0, slots := 0, locals := 22 }
abbrev rX9_trouble : Room := { frames := 0, cells := 0, slots := 0, locals := 0 }
abbrev rJ9_max_7cf53 : Room := { frames := 0, cells := 0, slots := 0, locals := 0 }
abbrev rJ9_min_7cf53 : Room := { frames := 0, cells := 0, slots := 0, locals := 0 }
abbrev rJ0_length_8abf5 : Room := { frames := 1, cells := 0, slots := 0, locals := 20 }
abbrev rJ0_charAt_5068e : Room := { frames := 4, cells := 0, slots := 0, locals := 85 }
abbrev rJ0_coder_7d493 : Room := { frames := 0, cells := 0, slots := 0, locals := 0 }
abbrev rJ0_isLatin1_aae02 : Room := { frames := 0, cells := 0, slots := 0, locals := 0 }
abbrev rJ0_checkIndex_df160 : Room := { frames := 1, cells := 0, slots := 0, locals := 22 }
abbrev rJ1_charAt_3b067 : Room := { frames := 2, cells := 0, slots := 0, locals := 43 }
abbrev rJ2_getChar_3b067 : Room := { frames := 1, cells := 0, slots := 0, locals := 20 }
abbrev rJ2_length_9d52b : Room := { frames := 0, cells := 0, slots := 0, locals := 0 }
abbrev rJ2_charAt_3b067 : Room := { frames := 3, cells := 0, slots := 0, locals := 64 }
abbrev rJ2_checkIndex_2214a : Room := { frames := 2, cells := 0, slots := 0, locals := 43 }
abbrev rJ7_fill_d0a16 : Room := { frames := 0, cells := 0, slots := 0, locals := 0 }
abbrev rJ7_fill_53178 : Room := { frames := 0, cells := 0, slots := 0, locals := 0 }
abbrev rJ3_checkIndex_8e157 : Room := { frames := 0, cells := 0, slots := 0, locals := 0 }
abbrev rL_led : Room := { frames := 3, cells := 0, slots := 0, locals := 66 }
abbrev rL_law : Room := { frames := 14, cells := 0, slots := 0, locals := 299 }
theorem bp_m2 : (Int8.ofInt (-2)).toInt32 = Int32.ofInt (-2) := by decide +kernel
theorem bp_6 : (Int8.ofInt (6)).toInt32 = Int32.ofInt (6) := by decide +kernel
theorem bp_7 : (Int8.ofInt (7)).toInt32 = Int32.ofInt (7) := by decide +kernel
theorem bp_8 : (Int8.ofInt (8)).toInt32 = Int32.ofInt (8) := by decide +kernel
theorem bp_9 : (Int8.ofInt (9)).toInt32 = Int32.ofInt (9) := by decide +kernel
theorem bp_10 : (Int8.ofInt (10)).toInt32 = Int32.ofInt (10) := by decide +kernel
theorem bp_11 : (Int8.ofInt (11)).toInt32 = Int32.ofInt (11) := by decide +kernel
theorem bp_12 : (Int8.ofInt (12)).toInt32 = Int32.ofInt (12) := by decide +kernel
theorem bp_13 : (Int8.ofInt (13)).toInt32 = Int32.ofInt (13) := by decide +kernel
theorem bp_14 : (Int8.ofInt (14)).toInt32 = Int32.ofInt (14) := by decide +kernel
theorem bp_15 : (Int8.ofInt (15)).toInt32 = Int32.ofInt (15) := by decide +kernel
theorem bp_16 : (Int8.ofInt (16)).toInt32 = Int32.ofInt (16) := by decide +kernel
theorem bp_20 : (Int8.ofInt (20)).toInt32 = Int32.ofInt (20) := by decide +kernel
theorem bp_24 : (Int8.ofInt (24)).toInt32 = Int32.ofInt (24) := by decide +kernel
theorem bp_32 : (Int8.ofInt (32)).toInt32 = Int32.ofInt (32) := by decide +kernel
theorem bp_40 : (Int8.ofInt (40)).toInt32 = Int32.ofInt (40) := by decide +kernel
theorem bp_41 : (Int8.ofInt (41)).toInt32 = Int32.ofInt (41) := by decide +kernel
theorem bp_44 : (Int8.ofInt (44)).toInt32 = Int32.ofInt (44) := by decide +kernel
theorem bp_48 : (Int8.ofInt (48)).toInt32 = Int32.ofInt (48) := by decide +kernel
theorem bp_50 : (Int8.ofInt (50)).toInt32 = Int32.ofInt (50) := by decide +kernel
theorem bp_57 : (Int8.ofInt (57)).toInt32 = Int32.ofInt (57) := by decide +kernel
theorem bp_59 : (Int8.ofInt (59)).toInt32 = Int32.ofInt (59) := by decide +kernel
theorem bp_60 : (Int8.ofInt (60)).toInt32 = Int32.ofInt (60) := by decide +kernel
theorem bp_63 : (Int8.ofInt (63)).toInt32 = Int32.ofInt (63) := by decide +kernel
theorem bp_64 : (Int8.ofInt (64)).toInt32 = Int32.ofInt (64) := by decide +kernel
theorem bp_74 : (Int8.ofInt (74)).toInt32 = Int32.ofInt (74) := by decide +kernel
theorem bp_75 : (Int8.ofInt (75)).toInt32 = Int32.ofInt (75) := by decide +kernel
theorem bp_90 : (Int8.ofInt (90)).toInt32 = Int32.ofInt (90) := by decide +kernel
theorem bp_97 : (Int8.ofInt (97)).toInt32 = Int32.ofInt (97) := by decide +kernel
theorem bp_99 : (Int8.ofInt (99)).toInt32 = Int32.ofInt (99) := by decide +kernel
theorem bp_100 : (Int8.ofInt (100)).toInt32 = Int32.ofInt (100) := by decide +kernel
theorem bp_122 : (Int8.ofInt (122)).toInt32 = Int32.ofInt (122) := by decide +kernel
theorem sp_m1000 : (Int16.ofInt (-1000)).toInt32 = Int32.ofInt (-1000) := by decide +kernel
theorem sp_199 : (Int16.ofInt (199)).toInt32 = Int32.ofInt (199) := by decide +kernel
theorem sp_200 : (Int16.ofInt (200)).toInt32 = Int32.ofInt (200) := by decide +kernel
theorem sp_255 : (Int16.ofInt (255)).toInt32 = Int32.ofInt (255) := by decide +kernel
theorem sp_300 : (Int16.ofInt (300)).toInt32 = Int32.ofInt (300) := by decide +kernel
theorem sp_400 : (Int16.ofInt (400)).toInt32 = Int32.ofInt (400) := by decide +kernel
theorem sp_410 : (Int16.ofInt (410)).toInt32 = Int32.ofInt (410) := by decide +kernel
theorem sp_412 : (Int16.ofInt (412)).toInt32 = Int32.ofInt (412) := by decide +kernel
theorem sp_414 : (Int16.ofInt (414)).toInt32 = Int32.ofInt (414) := by decide +kernel
theorem sp_422 : (Int16.ofInt (422)).toInt32 = Int32.ofInt (422) := by decide +kernel
theorem sp_423 : (Int16.ofInt (423)).toInt32 = Int32.ofInt (423) := by decide +kernel
theorem sp_429 : (Int16.ofInt (429)).toInt32 = Int32.ofInt (429) := by decide +kernel
theorem sp_430 : (Int16.ofInt (430)).toInt32 = Int32.ofInt (430) := by decide +kernel
theorem sp_431 : (Int16.ofInt (431)).toInt32 = Int32.ofInt (431) := by decide +kernel
theorem sp_451 : (Int16.ofInt (451)).toInt32 = Int32.ofInt (451) := by decide +kernel
theorem sp_900 : (Int16.ofInt (900)).toInt32 = Int32.ofInt (900) := by decide +kernel
theorem sp_999 : (Int16.ofInt (999)).toInt32 = Int32.ofInt (999) := by decide +kernel
theorem sp_1000 : (Int16.ofInt (1000)).toInt32 = Int32.ofInt (1000) := by decide +kernel
theorem sp_1200 : (Int16.ofInt (1200)).toInt32 = Int32.ofInt (1200) := by decide +kernel
theorem sp_1248 : (Int16.ofInt (1248)).toInt32 = Int32.ofInt (1248) := by decide +kernel
theorem sp_1724 : (Int16.ofInt (1724)).toInt32 = Int32.ofInt (1724) := by decide +kernel
theorem sp_2401 : (Int16.ofInt (2401)).toInt32 = Int32.ofInt (2401) := by decide +kernel
