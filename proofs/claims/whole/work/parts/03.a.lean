theorem inJ13 : ∀ w ∈ wsJ130, w ∈ lw_tbl := by decide +kernel
theorem inJ9 : ∀ w ∈ wsJ90, w ∈ lw_tbl := by decide +kernel
theorem inJ0 : ∀ w ∈ wsJ00, w ∈ lw_tbl := by decide +kernel
theorem inJ1 : ∀ w ∈ wsJ10, w ∈ lw_tbl := by decide +kernel
theorem inJ2 : ∀ w ∈ wsJ20, w ∈ lw_tbl := by decide +kernel
theorem inJ10 : ∀ w ∈ wsJ100, w ∈ lw_tbl := by decide +kernel
theorem inJxfd54e : ∀ w ∈ wsJxfd54e0, w ∈ lw_tbl := by decide +kernel
theorem inJx3cf43 : ∀ w ∈ wsJx3cf430, w ∈ lw_tbl := by decide +kernel
theorem inJ7 : ∀ w ∈ wsJ70, w ∈ lw_tbl := by decide +kernel
theorem inJ3 : ∀ w ∈ wsJ30, w ∈ lw_tbl := by decide +kernel
theorem dX0_init_0 : decode cX0_init 0 = .ok (.aload_n 0, 1) := by decide +kernel
theorem dX0_init_1 : decode cX0_init 1 = .ok (.invokespecial 3, 3) := by decide +kernel
theorem dX0_init_4 : decode cX0_init 4 = .ok (.aload_n 0, 1) := by decide +kernel
theorem dX0_init_5 : decode cX0_init 5 = .ok (.iconst 4, 1) := by decide +kernel
theorem dX0_init_6 : decode cX0_init 6 = .ok (.newarray .long, 2) := by decide +kernel
theorem dX0_init_8 : decode cX0_init 8 = .ok (.putfield 9, 3) := by decide +kernel
theorem dX0_init_11 : decode cX0_init 11 = .ok (.aload_n 0, 1) := by decide +kernel
theorem dX0_init_12 : decode cX0_init 12 = .ok (.lconst 0, 1) := by decide +kernel
theorem dX0_init_13 : decode cX0_init 13 = .ok (.putfield 15, 3) := by decide +kernel
theorem dX0_init_16 : decode cX0_init 16 = .ok (.return_, 1) := by decide +kernel
set_option maxRecDepth 20000 in
theorem ggX0_clear_J7_fill_d0a16 : GoodIn wsX0_clear wsJ7_fill_d0a16 := goodIn_r _ [6] (by decide +kernel) (by decide +kernel)
set_option maxRecDepth 20000 in
theorem gX0_clear_J7_fill_d0a16 : GoodIn wsX0_clear (va_wsS RX0 19 yJ7_fill_d0a16 wsJ7_fill_d0a16) := goodIn_app (goodIn_of _ (by decide +kernel)) ggX0_clear_J7_fill_d0a16
theorem dX0_clear_0 : decode cX0_clear 0 = .ok (.aload_n 0, 1) := by decide +kernel
theorem dX0_clear_1 : decode cX0_clear 1 = .ok (.getfield 9, 3) := by decide +kernel
theorem dX0_clear_4 : decode cX0_clear 4 = .ok (.lconst 0, 1) := by decide +kernel
theorem dX0_clear_5 : decode cX0_clear 5 = .ok (.invokestatic 19, 3) := by decide +kernel
theorem dX0_clear_8 : decode cX0_clear 8 = .ok (.aload_n 0, 1) := by decide +kernel
theorem dX0_clear_9 : decode cX0_clear 9 = .ok (.lconst 0, 1) := by decide +kernel
theorem dX0_clear_10 : decode cX0_clear 10 = .ok (.putfield 15, 3) := by decide +kernel
theorem dX0_clear_13 : decode cX0_clear 13 = .ok (.return_, 1) := by decide +kernel
theorem dX0_copyFrom_0 : decode cX0_copyFrom 0 = .ok (.aload_n 1, 1) := by decide +kernel
theorem dX0_copyFrom_1 : decode cX0_copyFrom 1 = .ok (.getfield 9, 3) := by decide +kernel
theorem dX0_copyFrom_4 : decode cX0_copyFrom 4 = .ok (.iconst 0, 1) := by decide +kernel
theorem dX0_copyFrom_5 : decode cX0_copyFrom 5 = .ok (.aload_n 0, 1) := by decide +kernel
theorem dX0_copyFrom_6 : decode cX0_copyFrom 6 = .ok (.getfield 9, 3) := by decide +kernel
theorem dX0_copyFrom_9 : decode cX0_copyFrom 9 = .ok (.iconst 0, 1) := by decide +kernel
theorem dX0_copyFrom_10 : decode cX0_copyFrom 10 = .ok (.aload_n 0, 1) := by decide +kernel
theorem dX0_copyFrom_11 : decode cX0_copyFrom 11 = .ok (.getfield 9, 3) := by decide +kernel
theorem dX0_copyFrom_14 : decode cX0_copyFrom 14 = .ok (.arraylength, 1) := by decide +kernel
theorem dX0_copyFrom_15 : decode cX0_copyFrom 15 = .ok (.invokestatic 25, 3) := by decide +kernel
theorem dX0_copyFrom_18 : decode cX0_copyFrom 18 = .ok (.aload_n 0, 1) := by decide +kernel
theorem dX0_copyFrom_19 : decode cX0_copyFrom 19 = .ok (.aload_n 1, 1) := by decide +kernel
theorem dX0_copyFrom_20 : decode cX0_copyFrom 20 = .ok (.getfield 15, 3) := by decide +kernel
theorem dX0_copyFrom_23 : decode cX0_copyFrom 23 = .ok (.putfield 15, 3) := by decide +kernel
theorem dX0_copyFrom_26 : decode cX0_copyFrom 26 = .ok (.return_, 1) := by decide +kernel
theorem dX0_colourOf_0 : decode cX0_colourOf 0 = .ok (.iconst 0, 1) := by decide +kernel
theorem dX0_colourOf_1 : decode cX0_colourOf 1 = .ok (.istore_n 2, 1) := by decide +kernel
theorem dX0_colourOf_2 : decode cX0_colourOf 2 = .ok (.iload_n 2, 1) := by decide +kernel
theorem dX0_colourOf_3 : decode cX0_colourOf 3 = .ok (.aload_n 0, 1) := by decide +kernel
theorem dX0_colourOf_4 : decode cX0_colourOf 4 = .ok (.getfield 9, 3) := by decide +kernel
theorem dX0_colourOf_7 : decode cX0_colourOf 7 = .ok (.arraylength, 1) := by decide +kernel
theorem dX0_colourOf_8 : decode cX0_colourOf 8 = .ok (.if_icmp .ge 26, 3) := by decide +kernel
theorem dX0_colourOf_11 : decode cX0_colourOf 11 = .ok (.aload_n 0, 1) := by decide +kernel
theorem dX0_colourOf_12 : decode cX0_colourOf 12 = .ok (.getfield 9, 3) := by decide +kernel
theorem dX0_colourOf_15 : decode cX0_colourOf 15 = .ok (.iload_n 2, 1) := by decide +kernel
theorem dX0_colourOf_16 : decode cX0_colourOf 16 = .ok (.laload, 1) := by decide +kernel
theorem dX0_colourOf_17 : decode cX0_colourOf 17 = .ok (.lconst 1, 1) := by decide +kernel
theorem dX0_colourOf_18 : decode cX0_colourOf 18 = .ok (.iload_n 1, 1) := by decide +kernel
theorem dX0_colourOf_19 : decode cX0_colourOf 19 = .ok (.lshl, 1) := by decide +kernel
theorem dX0_colourOf_20 : decode cX0_colourOf 20 = .ok (.land, 1) := by decide +kernel
theorem dX0_colourOf_21 : decode cX0_colourOf 21 = .ok (.lconst 0, 1) := by decide +kernel
theorem dX0_colourOf_22 : decode cX0_colourOf 22 = .ok (.lcmp, 1) := by decide +kernel
theorem dX0_colourOf_23 : decode cX0_colourOf 23 = .ok (.ifCond .eq 5, 3) := by decide +kernel
theorem dX0_colourOf_26 : decode cX0_colourOf 26 = .ok (.iload_n 2, 1) := by decide +kernel
theorem dX0_colourOf_27 : decode cX0_colourOf 27 = .ok (.ireturn, 1) := by decide +kernel
theorem dX0_colourOf_28 : decode cX0_colourOf 28 = .ok (.iinc 2 1, 3) := by decide +kernel
theorem dX0_colourOf_31 : decode cX0_colourOf 31 = .ok (.goto (-29), 3) := by decide +kernel
theorem dX0_colourOf_34 : decode cX0_colourOf 34 = .ok (.iconst (-1), 1) := by decide +kernel
theorem dX0_colourOf_35 : decode cX0_colourOf 35 = .ok (.ireturn, 1) := by decide +kernel
theorem dX0_numbersWith_0 : decode cX0_numbersWith 0 = .ok (.iload_n 1, 1) := by decide +kernel
theorem dX0_numbersWith_1 : decode cX0_numbersWith 1 = .ok (.ifCond .lt 21, 3) := by decide +kernel
theorem dX0_numbersWith_4 : decode cX0_numbersWith 4 = .ok (.iload_n 1, 1) := by decide +kernel
theorem dX0_numbersWith_5 : decode cX0_numbersWith 5 = .ok (.aload_n 0, 1) := by decide +kernel
theorem dX0_numbersWith_6 : decode cX0_numbersWith 6 = .ok (.getfield 9, 3) := by decide +kernel
theorem dX0_numbersWith_9 : decode cX0_numbersWith 9 = .ok (.arraylength, 1) := by decide +kernel
theorem dX0_numbersWith_10 : decode cX0_numbersWith 10 = .ok (.if_icmp .ge 12, 3) := by decide +kernel
theorem dX0_numbersWith_13 : decode cX0_numbersWith 13 = .ok (.aload_n 0, 1) := by decide +kernel
theorem dX0_numbersWith_14 : decode cX0_numbersWith 14 = .ok (.getfield 9, 3) := by decide +kernel
theorem dX0_numbersWith_17 : decode cX0_numbersWith 17 = .ok (.iload_n 1, 1) := by decide +kernel
theorem dX0_numbersWith_18 : decode cX0_numbersWith 18 = .ok (.laload, 1) := by decide +kernel
theorem dX0_numbersWith_19 : decode cX0_numbersWith 19 = .ok (.goto 4, 3) := by decide +kernel
theorem dX0_numbersWith_22 : decode cX0_numbersWith 22 = .ok (.lconst 0, 1) := by decide +kernel
theorem dX0_numbersWith_23 : decode cX0_numbersWith 23 = .ok (.lreturn, 1) := by decide +kernel
theorem dX0_paint_0 : decode cX0_paint 0 = .ok (.iconst 0, 1) := by decide +kernel
theorem dX0_paint_1 : decode cX0_paint 1 = .ok (.istore_n 3, 1) := by decide +kernel
theorem dX0_paint_2 : decode cX0_paint 2 = .ok (.iload_n 3, 1) := by decide +kernel
theorem dX0_paint_3 : decode cX0_paint 3 = .ok (.aload_n 0, 1) := by decide +kernel
theorem dX0_paint_4 : decode cX0_paint 4 = .ok (.getfield 9, 3) := by decide +kernel
theorem dX0_paint_7 : decode cX0_paint 7 = .ok (.arraylength, 1) := by decide +kernel
theorem dX0_paint_8 : decode cX0_paint 8 = .ok (.if_icmp .ge 25, 3) := by decide +kernel
theorem dX0_paint_11 : decode cX0_paint 11 = .ok (.aload_n 0, 1) := by decide +kernel
theorem dX0_paint_12 : decode cX0_paint 12 = .ok (.getfield 9, 3) := by decide +kernel
theorem dX0_paint_15 : decode cX0_paint 15 = .ok (.iload_n 3, 1) := by decide +kernel
theorem dX0_paint_16 : decode cX0_paint 16 = .ok (.dup2, 1) := by decide +kernel
theorem dX0_paint_17 : decode cX0_paint 17 = .ok (.laload, 1) := by decide +kernel
theorem dX0_paint_18 : decode cX0_paint 18 = .ok (.lconst 1, 1) := by decide +kernel
theorem dX0_paint_19 : decode cX0_paint 19 = .ok (.iload_n 1, 1) := by decide +kernel
theorem dX0_paint_20 : decode cX0_paint 20 = .ok (.lshl, 1) := by decide +kernel
theorem dX0_paint_21 : decode cX0_paint 21 = .ok (.ldc2_w 31, 3) := by decide +kernel
theorem dX0_paint_24 : decode cX0_paint 24 = .ok (.lxor, 1) := by decide +kernel
theorem dX0_paint_25 : decode cX0_paint 25 = .ok (.land, 1) := by decide +kernel
theorem dX0_paint_26 : decode cX0_paint 26 = .ok (.lastore, 1) := by decide +kernel
theorem dX0_paint_27 : decode cX0_paint 27 = .ok (.iinc 3 1, 3) := by decide +kernel
theorem dX0_paint_30 : decode cX0_paint 30 = .ok (.goto (-28), 3) := by decide +kernel
theorem dX0_paint_33 : decode cX0_paint 33 = .ok (.iload_n 2, 1) := by decide +kernel
theorem dX0_paint_34 : decode cX0_paint 34 = .ok (.ifCond .lt 24, 3) := by decide +kernel
theorem dX0_paint_37 : decode cX0_paint 37 = .ok (.iload_n 2, 1) := by decide +kernel
theorem dX0_paint_38 : decode cX0_paint 38 = .ok (.aload_n 0, 1) := by decide +kernel
theorem dX0_paint_39 : decode cX0_paint 39 = .ok (.getfield 9, 3) := by decide +kernel
theorem dX0_paint_42 : decode cX0_paint 42 = .ok (.arraylength, 1) := by decide +kernel
theorem dX0_paint_43 : decode cX0_paint 43 = .ok (.if_icmp .ge 15, 3) := by decide +kernel
theorem dX0_paint_46 : decode cX0_paint 46 = .ok (.aload_n 0, 1) := by decide +kernel
theorem dX0_paint_47 : decode cX0_paint 47 = .ok (.getfield 9, 3) := by decide +kernel
theorem dX0_paint_50 : decode cX0_paint 50 = .ok (.iload_n 2, 1) := by decide +kernel
theorem dX0_paint_51 : decode cX0_paint 51 = .ok (.dup2, 1) := by decide +kernel
theorem dX0_paint_52 : decode cX0_paint 52 = .ok (.laload, 1) := by decide +kernel
theorem dX0_paint_53 : decode cX0_paint 53 = .ok (.lconst 1, 1) := by decide +kernel
theorem dX0_paint_54 : decode cX0_paint 54 = .ok (.iload_n 1, 1) := by decide +kernel
theorem dX0_paint_55 : decode cX0_paint 55 = .ok (.lshl, 1) := by decide +kernel
theorem dX0_paint_56 : decode cX0_paint 56 = .ok (.lor, 1) := by decide +kernel
theorem dX0_paint_57 : decode cX0_paint 57 = .ok (.lastore, 1) := by decide +kernel
theorem dX0_paint_58 : decode cX0_paint 58 = .ok (.return_, 1) := by decide +kernel
theorem dX0_exchange_0 : decode cX0_exchange 0 = .ok (.iload_n 1, 1) := by decide +kernel
theorem dX0_exchange_1 : decode cX0_exchange 1 = .ok (.ifCond .lt 51, 3) := by decide +kernel
theorem dX0_exchange_4 : decode cX0_exchange 4 = .ok (.iload_n 1, 1) := by decide +kernel
theorem dX0_exchange_5 : decode cX0_exchange 5 = .ok (.aload_n 0, 1) := by decide +kernel
theorem dX0_exchange_6 : decode cX0_exchange 6 = .ok (.getfield 9, 3) := by decide +kernel
theorem dX0_exchange_9 : decode cX0_exchange 9 = .ok (.arraylength, 1) := by decide +kernel
theorem dX0_exchange_10 : decode cX0_exchange 10 = .ok (.if_icmp .ge 42, 3) := by decide +kernel
theorem dX0_exchange_13 : decode cX0_exchange 13 = .ok (.iload_n 2, 1) := by decide +kernel
theorem dX0_exchange_14 : decode cX0_exchange 14 = .ok (.ifCond .lt 38, 3) := by decide +kernel
theorem dX0_exchange_17 : decode cX0_exchange 17 = .ok (.iload_n 2, 1) := by decide +kernel
theorem dX0_exchange_18 : decode cX0_exchange 18 = .ok (.aload_n 0, 1) := by decide +kernel
theorem dX0_exchange_19 : decode cX0_exchange 19 = .ok (.getfield 9, 3) := by decide +kernel
theorem dX0_exchange_22 : decode cX0_exchange 22 = .ok (.arraylength, 1) := by decide +kernel
theorem dX0_exchange_23 : decode cX0_exchange 23 = .ok (.if_icmp .ge 29, 3) := by decide +kernel
theorem dX0_exchange_26 : decode cX0_exchange 26 = .ok (.aload_n 0, 1) := by decide +kernel
theorem dX0_exchange_27 : decode cX0_exchange 27 = .ok (.getfield 9, 3) := by decide +kernel
theorem dX0_exchange_30 : decode cX0_exchange 30 = .ok (.iload_n 1, 1) := by decide +kernel
theorem dX0_exchange_31 : decode cX0_exchange 31 = .ok (.laload, 1) := by decide +kernel
theorem dX0_exchange_32 : decode cX0_exchange 32 = .ok (.lstore_n 3, 1) := by decide +kernel
theorem dX0_exchange_33 : decode cX0_exchange 33 = .ok (.aload_n 0, 1) := by decide +kernel
theorem dX0_exchange_34 : decode cX0_exchange 34 = .ok (.getfield 9, 3) := by decide +kernel
theorem dX0_exchange_37 : decode cX0_exchange 37 = .ok (.iload_n 1, 1) := by decide +kernel
theorem dX0_exchange_38 : decode cX0_exchange 38 = .ok (.aload_n 0, 1) := by decide +kernel
theorem dX0_exchange_39 : decode cX0_exchange 39 = .ok (.getfield 9, 3) := by decide +kernel
theorem dX0_exchange_42 : decode cX0_exchange 42 = .ok (.iload_n 2, 1) := by decide +kernel
theorem dX0_exchange_43 : decode cX0_exchange 43 = .ok (.laload, 1) := by decide +kernel
theorem dX0_exchange_44 : decode cX0_exchange 44 = .ok (.lastore, 1) := by decide +kernel
theorem dX0_exchange_45 : decode cX0_exchange 45 = .ok (.aload_n 0, 1) := by decide +kernel
theorem dX0_exchange_46 : decode cX0_exchange 46 = .ok (.getfield 9, 3) := by decide +kernel
theorem dX0_exchange_49 : decode cX0_exchange 49 = .ok (.iload_n 2, 1) := by decide +kernel
theorem dX0_exchange_50 : decode cX0_exchange 50 = .ok (.lload_n 3, 1) := by decide +kernel
theorem dX0_exchange_51 : decode cX0_exchange 51 = .ok (.lastore, 1) := by decide +kernel
theorem dX0_exchange_52 : decode cX0_exchange 52 = .ok (.return_, 1) := by decide +kernel
theorem dX0_commonColour_0 : decode cX0_commonColour 0 = .ok (.iconst 0, 1) := by decide +kernel
theorem dX0_commonColour_1 : decode cX0_commonColour 1 = .ok (.istore_n 3, 1) := by decide +kernel
theorem dX0_commonColour_2 : decode cX0_commonColour 2 = .ok (.iload_n 3, 1) := by decide +kernel
theorem dX0_commonColour_3 : decode cX0_commonColour 3 = .ok (.aload_n 0, 1) := by decide +kernel
theorem dX0_commonColour_4 : decode cX0_commonColour 4 = .ok (.getfield 9, 3) := by decide +kernel
theorem dX0_commonColour_7 : decode cX0_commonColour 7 = .ok (.arraylength, 1) := by decide +kernel
theorem dX0_commonColour_8 : decode cX0_commonColour 8 = .ok (.if_icmp .ge 28, 3) := by decide +kernel
theorem dX0_commonColour_11 : decode cX0_commonColour 11 = .ok (.lload_n 1, 1) := by decide +kernel
theorem dX0_commonColour_12 : decode cX0_commonColour 12 = .ok (.aload_n 0, 1) := by decide +kernel
theorem dX0_commonColour_13 : decode cX0_commonColour 13 = .ok (.getfield 9, 3) := by decide +kernel
theorem dX0_commonColour_16 : decode cX0_commonColour 16 = .ok (.iload_n 3, 1) := by decide +kernel
theorem dX0_commonColour_17 : decode cX0_commonColour 17 = .ok (.laload, 1) := by decide +kernel
theorem dX0_commonColour_18 : decode cX0_commonColour 18 = .ok (.ldc2_w 31, 3) := by decide +kernel
theorem dX0_commonColour_21 : decode cX0_commonColour 21 = .ok (.lxor, 1) := by decide +kernel
theorem dX0_commonColour_22 : decode cX0_commonColour 22 = .ok (.land, 1) := by decide +kernel
theorem dX0_commonColour_23 : decode cX0_commonColour 23 = .ok (.lconst 0, 1) := by decide +kernel
theorem dX0_commonColour_24 : decode cX0_commonColour 24 = .ok (.lcmp, 1) := by decide +kernel
theorem dX0_commonColour_25 : decode cX0_commonColour 25 = .ok (.ifCond .ne 5, 3) := by decide +kernel
theorem dX0_commonColour_28 : decode cX0_commonColour 28 = .ok (.iload_n 3, 1) := by decide +kernel
theorem dX0_commonColour_29 : decode cX0_commonColour 29 = .ok (.ireturn, 1) := by decide +kernel
theorem dX0_commonColour_30 : decode cX0_commonColour 30 = .ok (.iinc 3 1, 3) := by decide +kernel
theorem dX0_commonColour_33 : decode cX0_commonColour 33 = .ok (.goto (-31), 3) := by decide +kernel
theorem dX0_commonColour_36 : decode cX0_commonColour 36 = .ok (.iconst (-1), 1) := by decide +kernel
theorem dX0_commonColour_37 : decode cX0_commonColour 37 = .ok (.ireturn, 1) := by decide +kernel
theorem dX0_hasFixed_0 : decode cX0_hasFixed 0 = .ok (.aload_n 0, 1) := by decide +kernel
theorem dX0_hasFixed_1 : decode cX0_hasFixed 1 = .ok (.getfield 15, 3) := by decide +kernel
theorem dX0_hasFixed_4 : decode cX0_hasFixed 4 = .ok (.lconst 1, 1) := by decide +kernel
theorem dX0_hasFixed_5 : decode cX0_hasFixed 5 = .ok (.iload_n 1, 1) := by decide +kernel
theorem dX0_hasFixed_6 : decode cX0_hasFixed 6 = .ok (.lshl, 1) := by decide +kernel
theorem dX0_hasFixed_7 : decode cX0_hasFixed 7 = .ok (.land, 1) := by decide +kernel
theorem dX0_hasFixed_8 : decode cX0_hasFixed 8 = .ok (.lconst 0, 1) := by decide +kernel
theorem dX0_hasFixed_9 : decode cX0_hasFixed 9 = .ok (.lcmp, 1) := by decide +kernel
theorem dX0_hasFixed_10 : decode cX0_hasFixed 10 = .ok (.ifCond .eq 7, 3) := by decide +kernel
theorem dX0_hasFixed_13 : decode cX0_hasFixed 13 = .ok (.iconst 1, 1) := by decide +kernel
theorem dX0_hasFixed_14 : decode cX0_hasFixed 14 = .ok (.goto 4, 3) := by decide +kernel
theorem dX0_hasFixed_17 : decode cX0_hasFixed 17 = .ok (.iconst 0, 1) := by decide +kernel
theorem dX0_hasFixed_18 : decode cX0_hasFixed 18 = .ok (.ireturn, 1) := by decide +kernel
theorem dX0_fix_0 : decode cX0_fix 0 = .ok (.aload_n 0, 1) := by decide +kernel
theorem dX0_fix_1 : decode cX0_fix 1 = .ok (.dup, 1) := by decide +kernel
theorem dX0_fix_2 : decode cX0_fix 2 = .ok (.getfield 15, 3) := by decide +kernel
theorem dX0_fix_5 : decode cX0_fix 5 = .ok (.lconst 1, 1) := by decide +kernel
theorem dX0_fix_6 : decode cX0_fix 6 = .ok (.iload_n 1, 1) := by decide +kernel
theorem dX0_fix_7 : decode cX0_fix 7 = .ok (.lshl, 1) := by decide +kernel
theorem dX0_fix_8 : decode cX0_fix 8 = .ok (.ldc2_w 31, 3) := by decide +kernel
theorem dX0_fix_11 : decode cX0_fix 11 = .ok (.lxor, 1) := by decide +kernel
theorem dX0_fix_12 : decode cX0_fix 12 = .ok (.land, 1) := by decide +kernel
theorem dX0_fix_13 : decode cX0_fix 13 = .ok (.putfield 15, 3) := by decide +kernel
theorem dX0_fix_16 : decode cX0_fix 16 = .ok (.iload_n 2, 1) := by decide +kernel
theorem dX0_fix_17 : decode cX0_fix 17 = .ok (.ifCond .eq 15, 3) := by decide +kernel
theorem dX0_fix_20 : decode cX0_fix 20 = .ok (.aload_n 0, 1) := by decide +kernel
theorem dX0_fix_21 : decode cX0_fix 21 = .ok (.dup, 1) := by decide +kernel
theorem dX0_fix_22 : decode cX0_fix 22 = .ok (.getfield 15, 3) := by decide +kernel
theorem dX0_fix_25 : decode cX0_fix 25 = .ok (.lconst 1, 1) := by decide +kernel
theorem dX0_fix_26 : decode cX0_fix 26 = .ok (.iload_n 1, 1) := by decide +kernel
theorem dX0_fix_27 : decode cX0_fix 27 = .ok (.lshl, 1) := by decide +kernel
theorem dX0_fix_28 : decode cX0_fix 28 = .ok (.lor, 1) := by decide +kernel
theorem dX0_fix_29 : decode cX0_fix 29 = .ok (.putfield 15, 3) := by decide +kernel
theorem dX0_fix_32 : decode cX0_fix 32 = .ok (.return_, 1) := by decide +kernel
theorem dX1_init_0 : decode cX1_init 0 = .ok (.aload_n 0, 1) := by decide +kernel
theorem dX1_init_1 : decode cX1_init 1 = .ok (.invokespecial 1, 3) := by decide +kernel
theorem dX1_init_4 : decode cX1_init 4 = .ok (.aload_n 0, 1) := by decide +kernel
theorem dX1_init_5 : decode cX1_init 5 = .ok (.bipush 11, 2) := by decide +kernel
theorem dX1_init_7 : decode cX1_init 7 = .ok (.newarray .int, 2) := by decide +kernel
theorem dX1_init_9 : decode cX1_init 9 = .ok (.putfield 9, 3) := by decide +kernel
theorem dX1_init_12 : decode cX1_init 12 = .ok (.aload_n 0, 1) := by decide +kernel
theorem dX1_init_13 : decode cX1_init 13 = .ok (.aload_n 1, 1) := by decide +kernel
theorem dX1_init_14 : decode cX1_init 14 = .ok (.putfield 13, 3) := by decide +kernel
theorem dX1_init_17 : decode cX1_init 17 = .ok (.return_, 1) := by decide +kernel
set_option maxRecDepth 20000 in
theorem ggX1_weigh_X1_apply : GoodIn wsX1_weigh wsX1_apply := goodIn_r _ [6, 7, 8, 9, 10, 11, 12, 13, 14, 15, 16, 17, 18] (by decide +kernel) (by decide +kernel)
set_option maxRecDepth 20000 in
theorem gX1_weigh_X1_apply : GoodIn wsX1_weigh (va_wsS RX1 16 yX1_apply wsX1_apply) := goodIn_app (goodIn_of _ (by decide +kernel)) ggX1_weigh_X1_apply
set_option maxRecDepth 20000 in
theorem ggX1_weigh_X1_operand : GoodIn wsX1_weigh wsX1_operand := goodIn_r _ [21] (by decide +kernel) (by decide +kernel)
set_option maxRecDepth 20000 in
theorem gX1_weigh_X1_operand : GoodIn wsX1_weigh (va_wsS RX1 20 yX1_operand wsX1_operand) := goodIn_app (goodIn_of _ (by decide +kernel)) ggX1_weigh_X1_operand
set_option maxRecDepth 20000 in
theorem ggX1_weigh_X10_limit : GoodIn wsX1_weigh wsX10_limit := goodIn_r _ [11, 12, 13, 14, 15, 16, 17, 18] (by decide +kernel) (by decide +kernel)
set_option maxRecDepth 20000 in
theorem gX1_weigh_X10_limit_n24 : GoodIn wsX1_weigh (wsX10_limit) := ggX1_weigh_X10_limit
theorem dX1_weigh_0 : decode cX1_weigh 0 = .ok (.aload_n 0, 1) := by decide +kernel
theorem dX1_weigh_1 : decode cX1_weigh 1 = .ok (.getfield 13, 3) := by decide +kernel
theorem dX1_weigh_4 : decode cX1_weigh 4 = .ok (.arraylength, 1) := by decide +kernel
theorem dX1_weigh_5 : decode cX1_weigh 5 = .ok (.ifCond .ne 5, 3) := by decide +kernel
theorem dX1_weigh_8 : decode cX1_weigh 8 = .ok (.iconst 1, 1) := by decide +kernel
theorem dX1_weigh_9 : decode cX1_weigh 9 = .ok (.ireturn, 1) := by decide +kernel
theorem dX1_weigh_10 : decode cX1_weigh 10 = .ok (.iconst 0, 1) := by decide +kernel
theorem dX1_weigh_11 : decode cX1_weigh 11 = .ok (.istore 4, 2) := by decide +kernel
theorem dX1_weigh_13 : decode cX1_weigh 13 = .ok (.iconst 0, 1) := by decide +kernel
theorem dX1_weigh_14 : decode cX1_weigh 14 = .ok (.istore 5, 2) := by decide +kernel
theorem dX1_weigh_16 : decode cX1_weigh 16 = .ok (.iload 5, 2) := by decide +kernel
theorem dX1_weigh_18 : decode cX1_weigh 18 = .ok (.aload_n 0, 1) := by decide +kernel
theorem dX1_weigh_19 : decode cX1_weigh 19 = .ok (.getfield 13, 3) := by decide +kernel
theorem dX1_weigh_22 : decode cX1_weigh 22 = .ok (.arraylength, 1) := by decide +kernel
theorem dX1_weigh_23 : decode cX1_weigh 23 = .ok (.if_icmp .ge 115, 3) := by decide +kernel
theorem dX1_weigh_26 : decode cX1_weigh 26 = .ok (.aload_n 0, 1) := by decide +kernel
theorem dX1_weigh_27 : decode cX1_weigh 27 = .ok (.getfield 13, 3) := by decide +kernel
theorem dX1_weigh_30 : decode cX1_weigh 30 = .ok (.iload 5, 2) := by decide +kernel
theorem dX1_weigh_32 : decode cX1_weigh 32 = .ok (.iaload, 1) := by decide +kernel
theorem dX1_weigh_33 : decode cX1_weigh 33 = .ok (.istore 6, 2) := by decide +kernel
theorem dX1_weigh_35 : decode cX1_weigh 35 = .ok (.iload 6, 2) := by decide +kernel
theorem dX1_weigh_37 : decode cX1_weigh 37 = .ok (.iconst (-1), 1) := by decide +kernel
theorem dX1_weigh_38 : decode cX1_weigh 38 = .ok (.if_icmp .gt 66, 3) := by decide +kernel
theorem dX1_weigh_41 : decode cX1_weigh 41 = .ok (.iload 6, 2) := by decide +kernel
theorem dX1_weigh_43 : decode cX1_weigh 43 = .ok (.bipush (-4), 2) := by decide +kernel
theorem dX1_weigh_45 : decode cX1_weigh 45 = .ok (.if_icmp .lt 59, 3) := by decide +kernel
theorem dX1_weigh_48 : decode cX1_weigh 48 = .ok (.iload 4, 2) := by decide +kernel
theorem dX1_weigh_50 : decode cX1_weigh 50 = .ok (.iconst 2, 1) := by decide +kernel
theorem dX1_weigh_51 : decode cX1_weigh 51 = .ok (.if_icmp .lt 81, 3) := by decide +kernel
theorem dX1_weigh_54 : decode cX1_weigh 54 = .ok (.iload 4, 2) := by decide +kernel
theorem dX1_weigh_56 : decode cX1_weigh 56 = .ok (.aload_n 0, 1) := by decide +kernel
theorem dX1_weigh_57 : decode cX1_weigh 57 = .ok (.getfield 9, 3) := by decide +kernel
theorem dX1_weigh_60 : decode cX1_weigh 60 = .ok (.arraylength, 1) := by decide +kernel
theorem dX1_weigh_61 : decode cX1_weigh 61 = .ok (.if_icmp .gt 71, 3) := by decide +kernel
theorem dX1_weigh_64 : decode cX1_weigh 64 = .ok (.aload_n 0, 1) := by decide +kernel
theorem dX1_weigh_65 : decode cX1_weigh 65 = .ok (.getfield 9, 3) := by decide +kernel
theorem dX1_weigh_68 : decode cX1_weigh 68 = .ok (.iload 4, 2) := by decide +kernel
theorem dX1_weigh_70 : decode cX1_weigh 70 = .ok (.iconst 2, 1) := by decide +kernel
theorem dX1_weigh_71 : decode cX1_weigh 71 = .ok (.isub, 1) := by decide +kernel
theorem dX1_weigh_72 : decode cX1_weigh 72 = .ok (.iload 6, 2) := by decide +kernel
theorem dX1_weigh_74 : decode cX1_weigh 74 = .ok (.aload_n 0, 1) := by decide +kernel
theorem dX1_weigh_75 : decode cX1_weigh 75 = .ok (.getfield 9, 3) := by decide +kernel
theorem dX1_weigh_78 : decode cX1_weigh 78 = .ok (.iload 4, 2) := by decide +kernel
theorem dX1_weigh_80 : decode cX1_weigh 80 = .ok (.iconst 2, 1) := by decide +kernel
theorem dX1_weigh_81 : decode cX1_weigh 81 = .ok (.isub, 1) := by decide +kernel
theorem dX1_weigh_82 : decode cX1_weigh 82 = .ok (.iaload, 1) := by decide +kernel
theorem dX1_weigh_83 : decode cX1_weigh 83 = .ok (.i2l, 1) := by decide +kernel
theorem dX1_weigh_84 : decode cX1_weigh 84 = .ok (.aload_n 0, 1) := by decide +kernel
theorem dX1_weigh_85 : decode cX1_weigh 85 = .ok (.getfield 9, 3) := by decide +kernel
theorem dX1_weigh_88 : decode cX1_weigh 88 = .ok (.iload 4, 2) := by decide +kernel
theorem dX1_weigh_90 : decode cX1_weigh 90 = .ok (.iconst 1, 1) := by decide +kernel
theorem dX1_weigh_91 : decode cX1_weigh 91 = .ok (.isub, 1) := by decide +kernel
theorem dX1_weigh_92 : decode cX1_weigh 92 = .ok (.iaload, 1) := by decide +kernel
theorem dX1_weigh_93 : decode cX1_weigh 93 = .ok (.i2l, 1) := by decide +kernel
theorem dX1_weigh_94 : decode cX1_weigh 94 = .ok (.invokestatic 16, 3) := by decide +kernel
theorem dX1_weigh_97 : decode cX1_weigh 97 = .ok (.iastore, 1) := by decide +kernel
theorem dX1_weigh_98 : decode cX1_weigh 98 = .ok (.iinc 4 (-1), 3) := by decide +kernel
theorem dX1_weigh_101 : decode cX1_weigh 101 = .ok (.goto 31, 3) := by decide +kernel
theorem dX1_weigh_104 : decode cX1_weigh 104 = .ok (.iload 4, 2) := by decide +kernel
theorem dX1_weigh_106 : decode cX1_weigh 106 = .ok (.aload_n 0, 1) := by decide +kernel
theorem dX1_weigh_107 : decode cX1_weigh 107 = .ok (.getfield 9, 3) := by decide +kernel
theorem dX1_weigh_110 : decode cX1_weigh 110 = .ok (.arraylength, 1) := by decide +kernel
theorem dX1_weigh_111 : decode cX1_weigh 111 = .ok (.if_icmp .ge 21, 3) := by decide +kernel
theorem dX1_weigh_114 : decode cX1_weigh 114 = .ok (.aload_n 0, 1) := by decide +kernel
theorem dX1_weigh_115 : decode cX1_weigh 115 = .ok (.getfield 9, 3) := by decide +kernel
theorem dX1_weigh_118 : decode cX1_weigh 118 = .ok (.iload 4, 2) := by decide +kernel
theorem dX1_weigh_120 : decode cX1_weigh 120 = .ok (.iload 6, 2) := by decide +kernel
theorem dX1_weigh_122 : decode cX1_weigh 122 = .ok (.iload_n 1, 1) := by decide +kernel
theorem dX1_weigh_123 : decode cX1_weigh 123 = .ok (.iload_n 2, 1) := by decide +kernel
theorem dX1_weigh_124 : decode cX1_weigh 124 = .ok (.iload_n 3, 1) := by decide +kernel
theorem dX1_weigh_125 : decode cX1_weigh 125 = .ok (.invokestatic 20, 3) := by decide +kernel
theorem dX1_weigh_128 : decode cX1_weigh 128 = .ok (.iastore, 1) := by decide +kernel
theorem dX1_weigh_129 : decode cX1_weigh 129 = .ok (.iinc 4 1, 3) := by decide +kernel
theorem dX1_weigh_132 : decode cX1_weigh 132 = .ok (.iinc 5 1, 3) := by decide +kernel
theorem dX1_weigh_135 : decode cX1_weigh 135 = .ok (.goto (-119), 3) := by decide +kernel
theorem dX1_weigh_138 : decode cX1_weigh 138 = .ok (.aload_n 0, 1) := by decide +kernel
theorem dX1_weigh_139 : decode cX1_weigh 139 = .ok (.getfield 9, 3) := by decide +kernel
theorem dX1_weigh_142 : decode cX1_weigh 142 = .ok (.iconst 0, 1) := by decide +kernel
theorem dX1_weigh_143 : decode cX1_weigh 143 = .ok (.iaload, 1) := by decide +kernel
theorem dX1_weigh_144 : decode cX1_weigh 144 = .ok (.i2l, 1) := by decide +kernel
theorem dX1_weigh_145 : decode cX1_weigh 145 = .ok (.iconst 0, 1) := by decide +kernel
theorem dX1_weigh_146 : decode cX1_weigh 146 = .ok (.sipush 999, 3) := by decide +kernel
theorem dX1_weigh_149 : decode cX1_weigh 149 = .ok (.invokestatic 24, 3) := by decide +kernel
theorem dX1_weigh_152 : decode cX1_weigh 152 = .ok (.ireturn, 1) := by decide +kernel
theorem dX1_operand_0 : decode cX1_operand 0 = .ok (.iload_n 0, 1) := by decide +kernel
theorem dX1_operand_1 : decode cX1_operand 1 = .ok (.tableswitch 33 (-7) (-5) #[31, 29, 27], 27) := by decide +kernel
theorem dX1_operand_28 : decode cX1_operand 28 = .ok (.iload_n 1, 1) := by decide +kernel
theorem dX1_operand_29 : decode cX1_operand 29 = .ok (.ireturn, 1) := by decide +kernel
theorem dX1_operand_30 : decode cX1_operand 30 = .ok (.iload_n 2, 1) := by decide +kernel
theorem dX1_operand_31 : decode cX1_operand 31 = .ok (.ireturn, 1) := by decide +kernel
theorem dX1_operand_32 : decode cX1_operand 32 = .ok (.iload_n 3, 1) := by decide +kernel
theorem dX1_operand_33 : decode cX1_operand 33 = .ok (.ireturn, 1) := by decide +kernel
theorem dX1_operand_34 : decode cX1_operand 34 = .ok (.iload_n 0, 1) := by decide +kernel
theorem dX1_operand_35 : decode cX1_operand 35 = .ok (.ireturn, 1) := by decide +kernel
set_option maxRecDepth 20000 in
theorem ggX1_apply_X10_limit : GoodIn wsX1_apply wsX10_limit := goodIn_r _ [5, 6, 7, 8, 9, 10, 11, 12] (by decide +kernel) (by decide +kernel)
set_option maxRecDepth 20000 in
theorem gX1_apply_X10_limit_n24 : GoodIn wsX1_apply (wsX10_limit) := ggX1_apply_X10_limit
theorem dX1_apply_0 : decode cX1_apply 0 = .ok (.iload_n 0, 1) := by decide +kernel
theorem dX1_apply_1 : decode cX1_apply 1 = .ok (.tableswitch 60 (-3) (-1) #[49, 38, 27], 27) := by decide +kernel
theorem dX1_apply_28 : decode cX1_apply 28 = .ok (.lload_n 1, 1) := by decide +kernel
theorem dX1_apply_29 : decode cX1_apply 29 = .ok (.lload_n 3, 1) := by decide +kernel
theorem dX1_apply_30 : decode cX1_apply 30 = .ok (.ladd, 1) := by decide +kernel
theorem dX1_apply_31 : decode cX1_apply 31 = .ok (.ldc 30, 2) := by decide +kernel
theorem dX1_apply_33 : decode cX1_apply 33 = .ok (.ldc 31, 2) := by decide +kernel
theorem dX1_apply_35 : decode cX1_apply 35 = .ok (.invokestatic 24, 3) := by decide +kernel
theorem dX1_apply_38 : decode cX1_apply 38 = .ok (.ireturn, 1) := by decide +kernel
theorem dX1_apply_39 : decode cX1_apply 39 = .ok (.lload_n 1, 1) := by decide +kernel
theorem dX1_apply_40 : decode cX1_apply 40 = .ok (.lload_n 3, 1) := by decide +kernel
theorem dX1_apply_41 : decode cX1_apply 41 = .ok (.lsub, 1) := by decide +kernel
theorem dX1_apply_42 : decode cX1_apply 42 = .ok (.ldc 30, 2) := by decide +kernel
theorem dX1_apply_44 : decode cX1_apply 44 = .ok (.ldc 31, 2) := by decide +kernel
theorem dX1_apply_46 : decode cX1_apply 46 = .ok (.invokestatic 24, 3) := by decide +kernel
theorem dX1_apply_49 : decode cX1_apply 49 = .ok (.ireturn, 1) := by decide +kernel
theorem dX1_apply_50 : decode cX1_apply 50 = .ok (.lload_n 1, 1) := by decide +kernel
theorem dX1_apply_51 : decode cX1_apply 51 = .ok (.lload_n 3, 1) := by decide +kernel
theorem dX1_apply_52 : decode cX1_apply 52 = .ok (.lmul, 1) := by decide +kernel
theorem dX1_apply_53 : decode cX1_apply 53 = .ok (.ldc 30, 2) := by decide +kernel
theorem dX1_apply_55 : decode cX1_apply 55 = .ok (.ldc 31, 2) := by decide +kernel
theorem dX1_apply_57 : decode cX1_apply 57 = .ok (.invokestatic 24, 3) := by decide +kernel
theorem dX1_apply_60 : decode cX1_apply 60 = .ok (.ireturn, 1) := by decide +kernel
theorem dX1_apply_61 : decode cX1_apply 61 = .ok (.lload_n 3, 1) := by decide +kernel
theorem dX1_apply_62 : decode cX1_apply 62 = .ok (.lconst 0, 1) := by decide +kernel
theorem dX1_apply_63 : decode cX1_apply 63 = .ok (.lcmp, 1) := by decide +kernel
theorem dX1_apply_64 : decode cX1_apply 64 = .ok (.ifCond .ne 7, 3) := by decide +kernel
theorem dX1_apply_67 : decode cX1_apply 67 = .ok (.iconst 0, 1) := by decide +kernel
theorem dX1_apply_68 : decode cX1_apply 68 = .ok (.goto 13, 3) := by decide +kernel
theorem dX1_apply_71 : decode cX1_apply 71 = .ok (.lload_n 1, 1) := by decide +kernel
theorem dX1_apply_72 : decode cX1_apply 72 = .ok (.lload_n 3, 1) := by decide +kernel
theorem dX1_apply_73 : decode cX1_apply 73 = .ok (.ldiv, 1) := by decide +kernel
theorem dX1_apply_74 : decode cX1_apply 74 = .ok (.ldc 30, 2) := by decide +kernel
theorem dX1_apply_76 : decode cX1_apply 76 = .ok (.ldc 31, 2) := by decide +kernel
theorem dX1_apply_78 : decode cX1_apply 78 = .ok (.invokestatic 24, 3) := by decide +kernel
theorem dX1_apply_81 : decode cX1_apply 81 = .ok (.ireturn, 1) := by decide +kernel
set_option maxRecDepth 20000 in
theorem ggX2_init_X0_init : GoodIn wsX2_init wsX0_init := goodIn_r _ [13, 14, 2, 3, 15, 16, 17, 22, 23] (by decide +kernel) (by decide +kernel)
set_option maxRecDepth 20000 in
theorem gX2_init_X0_init_n28 : GoodIn wsX2_init (wsX0_init) := ggX2_init_X0_init
theorem dX2_init_0 : decode cX2_init 0 = .ok (.aload_n 0, 1) := by decide +kernel
theorem dX2_init_1 : decode cX2_init 1 = .ok (.invokespecial 1, 3) := by decide +kernel
theorem dX2_init_4 : decode cX2_init 4 = .ok (.aload_n 0, 1) := by decide +kernel
theorem dX2_init_5 : decode cX2_init 5 = .ok (.bipush 8, 2) := by decide +kernel
theorem dX2_init_7 : decode cX2_init 7 = .ok (.anewarray 9, 3) := by decide +kernel
theorem dX2_init_10 : decode cX2_init 10 = .ok (.putfield 11, 3) := by decide +kernel
theorem dX2_init_13 : decode cX2_init 13 = .ok (.aload_n 0, 1) := by decide +kernel
theorem dX2_init_14 : decode cX2_init 14 = .ok (.bipush 8, 2) := by decide +kernel
theorem dX2_init_16 : decode cX2_init 16 = .ok (.anewarray 15, 3) := by decide +kernel
theorem dX2_init_19 : decode cX2_init 19 = .ok (.putfield 17, 3) := by decide +kernel
theorem dX2_init_22 : decode cX2_init 22 = .ok (.aload_n 0, 1) := by decide +kernel
theorem dX2_init_23 : decode cX2_init 23 = .ok (.iconst 0, 1) := by decide +kernel
theorem dX2_init_24 : decode cX2_init 24 = .ok (.putfield 21, 3) := by decide +kernel
theorem dX2_init_27 : decode cX2_init 27 = .ok (.aload_n 0, 1) := by decide +kernel
theorem dX2_init_28 : decode cX2_init 28 = .ok (.iconst 0, 1) := by decide +kernel
theorem dX2_init_29 : decode cX2_init 29 = .ok (.putfield 25, 3) := by decide +kernel
theorem dX2_init_32 : decode cX2_init 32 = .ok (.iconst 0, 1) := by decide +kernel
theorem dX2_init_33 : decode cX2_init 33 = .ok (.istore_n 1, 1) := by decide +kernel
theorem dX2_init_34 : decode cX2_init 34 = .ok (.iload_n 1, 1) := by decide +kernel
theorem dX2_init_35 : decode cX2_init 35 = .ok (.bipush 8, 2) := by decide +kernel
theorem dX2_init_37 : decode cX2_init 37 = .ok (.if_icmp .ge 22, 3) := by decide +kernel
theorem dX2_init_40 : decode cX2_init 40 = .ok (.aload_n 0, 1) := by decide +kernel
theorem dX2_init_41 : decode cX2_init 41 = .ok (.getfield 17, 3) := by decide +kernel
theorem dX2_init_44 : decode cX2_init 44 = .ok (.iload_n 1, 1) := by decide +kernel
theorem dX2_init_45 : decode cX2_init 45 = .ok (.new 15, 3) := by decide +kernel
theorem dX2_init_48 : decode cX2_init 48 = .ok (.dup, 1) := by decide +kernel
theorem dX2_init_49 : decode cX2_init 49 = .ok (.invokespecial 28, 3) := by decide +kernel
theorem dX2_init_52 : decode cX2_init 52 = .ok (.aastore, 1) := by decide +kernel
theorem dX2_init_53 : decode cX2_init 53 = .ok (.iinc 1 1, 3) := by decide +kernel
theorem dX2_init_56 : decode cX2_init 56 = .ok (.goto (-22), 3) := by decide +kernel
theorem dX2_init_59 : decode cX2_init 59 = .ok (.return_, 1) := by decide +kernel
set_option maxRecDepth 20000 in
theorem ggX2_remember_X0_copyFrom : GoodIn wsX2_remember wsX0_copyFrom := goodIn_r _ [13, 14, 15, 16, 17, 18, 19, 24, 25] (by decide +kernel) (by decide +kernel)
set_option maxRecDepth 20000 in
theorem gX2_remember_X0_copyFrom : GoodIn wsX2_remember (wsV RX2 29 RX0 yX0_copyFrom wsX0_copyFrom) := goodIn_app (goodIn_of _ (by decide +kernel)) ggX2_remember_X0_copyFrom
theorem dX2_remember_0 : decode cX2_remember 0 = .ok (.aload_n 0, 1) := by decide +kernel
theorem dX2_remember_1 : decode cX2_remember 1 = .ok (.getfield 11, 3) := by decide +kernel
theorem dX2_remember_4 : decode cX2_remember 4 = .ok (.aload_n 0, 1) := by decide +kernel
theorem dX2_remember_5 : decode cX2_remember 5 = .ok (.getfield 21, 3) := by decide +kernel
theorem dX2_remember_8 : decode cX2_remember 8 = .ok (.aload_n 1, 1) := by decide +kernel
theorem dX2_remember_9 : decode cX2_remember 9 = .ok (.aastore, 1) := by decide +kernel
theorem dX2_remember_10 : decode cX2_remember 10 = .ok (.aload_n 0, 1) := by decide +kernel
theorem dX2_remember_11 : decode cX2_remember 11 = .ok (.getfield 17, 3) := by decide +kernel
theorem dX2_remember_14 : decode cX2_remember 14 = .ok (.aload_n 0, 1) := by decide +kernel
theorem dX2_remember_15 : decode cX2_remember 15 = .ok (.getfield 21, 3) := by decide +kernel
theorem dX2_remember_18 : decode cX2_remember 18 = .ok (.aaload, 1) := by decide +kernel
theorem dX2_remember_19 : decode cX2_remember 19 = .ok (.aload_n 2, 1) := by decide +kernel
theorem dX2_remember_20 : decode cX2_remember 20 = .ok (.invokevirtual 29, 3) := by decide +kernel
theorem dX2_remember_23 : decode cX2_remember 23 = .ok (.aload_n 0, 1) := by decide +kernel
theorem dX2_remember_24 : decode cX2_remember 24 = .ok (.aload_n 0, 1) := by decide +kernel
theorem dX2_remember_25 : decode cX2_remember 25 = .ok (.getfield 21, 3) := by decide +kernel
theorem dX2_remember_28 : decode cX2_remember 28 = .ok (.iconst 1, 1) := by decide +kernel
theorem dX2_remember_29 : decode cX2_remember 29 = .ok (.iadd, 1) := by decide +kernel
theorem dX2_remember_30 : decode cX2_remember 30 = .ok (.bipush 8, 2) := by decide +kernel
theorem dX2_remember_32 : decode cX2_remember 32 = .ok (.irem, 1) := by decide +kernel
theorem dX2_remember_33 : decode cX2_remember 33 = .ok (.putfield 21, 3) := by decide +kernel
theorem dX2_remember_36 : decode cX2_remember 36 = .ok (.aload_n 0, 1) := by decide +kernel
theorem dX2_remember_37 : decode cX2_remember 37 = .ok (.aload_n 0, 1) := by decide +kernel
theorem dX2_remember_38 : decode cX2_remember 38 = .ok (.getfield 25, 3) := by decide +kernel
theorem dX2_remember_41 : decode cX2_remember 41 = .ok (.iconst 1, 1) := by decide +kernel
theorem dX2_remember_42 : decode cX2_remember 42 = .ok (.iadd, 1) := by decide +kernel
theorem dX2_remember_43 : decode cX2_remember 43 = .ok (.bipush 8, 2) := by decide +kernel
theorem dX2_remember_45 : decode cX2_remember 45 = .ok (.invokestatic 33, 3) := by decide +kernel
theorem dX2_remember_48 : decode cX2_remember 48 = .ok (.putfield 25, 3) := by decide +kernel
theorem dX2_remember_51 : decode cX2_remember 51 = .ok (.return_, 1) := by decide +kernel
set_option maxRecDepth 20000 in
theorem ggX2_latestSetup_X2_latest : GoodIn wsX2_latestSetup wsX2_latest := goodIn_r _ [7, 8, 9, 10, 11, 12] (by decide +kernel) (by decide +kernel)
set_option maxRecDepth 20000 in
theorem gX2_latestSetup_X2_latest : GoodIn wsX2_latestSetup (wsV RX2 39 RX2 yX2_latest wsX2_latest) := goodIn_app (goodIn_of _ (by decide +kernel)) ggX2_latestSetup_X2_latest
theorem dX2_latestSetup_0 : decode cX2_latestSetup 0 = .ok (.aload_n 0, 1) := by decide +kernel
theorem dX2_latestSetup_1 : decode cX2_latestSetup 1 = .ok (.getfield 25, 3) := by decide +kernel
theorem dX2_latestSetup_4 : decode cX2_latestSetup 4 = .ok (.ifCond .le 15, 3) := by decide +kernel
theorem dX2_latestSetup_7 : decode cX2_latestSetup 7 = .ok (.aload_n 0, 1) := by decide +kernel
theorem dX2_latestSetup_8 : decode cX2_latestSetup 8 = .ok (.getfield 11, 3) := by decide +kernel
theorem dX2_latestSetup_11 : decode cX2_latestSetup 11 = .ok (.aload_n 0, 1) := by decide +kernel
theorem dX2_latestSetup_12 : decode cX2_latestSetup 12 = .ok (.invokevirtual 39, 3) := by decide +kernel
theorem dX2_latestSetup_15 : decode cX2_latestSetup 15 = .ok (.aaload, 1) := by decide +kernel
theorem dX2_latestSetup_16 : decode cX2_latestSetup 16 = .ok (.goto 4, 3) := by decide +kernel
theorem dX2_latestSetup_19 : decode cX2_latestSetup 19 = .ok (.aconst_null, 1) := by decide +kernel
theorem dX2_latestSetup_20 : decode cX2_latestSetup 20 = .ok (.areturn, 1) := by decide +kernel
set_option maxRecDepth 20000 in
theorem ggX2_takeBack_X2_latest : GoodIn wsX2_takeBack wsX2_latest := goodIn_r _ [8, 2, 20, 21, 22, 23] (by decide +kernel) (by decide +kernel)
set_option maxRecDepth 20000 in
theorem gX2_takeBack_X2_latest : GoodIn wsX2_takeBack (wsV RX2 39 RX2 yX2_latest wsX2_latest) := goodIn_app (goodIn_of _ (by decide +kernel)) ggX2_takeBack_X2_latest
set_option maxRecDepth 20000 in
theorem ggX2_takeBack_X0_copyFrom : GoodIn wsX2_takeBack wsX0_copyFrom := goodIn_r _ [13, 14, 15, 16, 17, 18, 19, 24, 25] (by decide +kernel) (by decide +kernel)
set_option maxRecDepth 20000 in
theorem gX2_takeBack_X0_copyFrom : GoodIn wsX2_takeBack (wsV RX2 29 RX0 yX0_copyFrom wsX0_copyFrom) := goodIn_app (goodIn_of _ (by decide +kernel)) ggX2_takeBack_X0_copyFrom
theorem dX2_takeBack_0 : decode cX2_takeBack 0 = .ok (.aload_n 0, 1) := by decide +kernel
theorem dX2_takeBack_1 : decode cX2_takeBack 1 = .ok (.getfield 25, 3) := by decide +kernel
theorem dX2_takeBack_4 : decode cX2_takeBack 4 = .ok (.ifCond .le 34, 3) := by decide +kernel
theorem dX2_takeBack_7 : decode cX2_takeBack 7 = .ok (.aload_n 0, 1) := by decide +kernel
theorem dX2_takeBack_8 : decode cX2_takeBack 8 = .ok (.aload_n 0, 1) := by decide +kernel
theorem dX2_takeBack_9 : decode cX2_takeBack 9 = .ok (.invokevirtual 39, 3) := by decide +kernel
theorem dX2_takeBack_12 : decode cX2_takeBack 12 = .ok (.putfield 21, 3) := by decide +kernel
theorem dX2_takeBack_15 : decode cX2_takeBack 15 = .ok (.aload_n 0, 1) := by decide +kernel
theorem dX2_takeBack_16 : decode cX2_takeBack 16 = .ok (.dup, 1) := by decide +kernel
theorem dX2_takeBack_17 : decode cX2_takeBack 17 = .ok (.getfield 25, 3) := by decide +kernel
theorem dX2_takeBack_20 : decode cX2_takeBack 20 = .ok (.iconst 1, 1) := by decide +kernel
theorem dX2_takeBack_21 : decode cX2_takeBack 21 = .ok (.isub, 1) := by decide +kernel
theorem dX2_takeBack_22 : decode cX2_takeBack 22 = .ok (.putfield 25, 3) := by decide +kernel
theorem dX2_takeBack_25 : decode cX2_takeBack 25 = .ok (.aload_n 1, 1) := by decide +kernel
theorem dX2_takeBack_26 : decode cX2_takeBack 26 = .ok (.aload_n 0, 1) := by decide +kernel
theorem dX2_takeBack_27 : decode cX2_takeBack 27 = .ok (.getfield 17, 3) := by decide +kernel
theorem dX2_takeBack_30 : decode cX2_takeBack 30 = .ok (.aload_n 0, 1) := by decide +kernel
theorem dX2_takeBack_31 : decode cX2_takeBack 31 = .ok (.getfield 21, 3) := by decide +kernel
theorem dX2_takeBack_34 : decode cX2_takeBack 34 = .ok (.aaload, 1) := by decide +kernel
theorem dX2_takeBack_35 : decode cX2_takeBack 35 = .ok (.invokevirtual 29, 3) := by decide +kernel
theorem dX2_takeBack_38 : decode cX2_takeBack 38 = .ok (.return_, 1) := by decide +kernel
theorem dX2_size_0 : decode cX2_size 0 = .ok (.aload_n 0, 1) := by decide +kernel
theorem dX2_size_1 : decode cX2_size 1 = .ok (.getfield 25, 3) := by decide +kernel
theorem dX2_size_4 : decode cX2_size 4 = .ok (.ireturn, 1) := by decide +kernel
theorem dX2_latest_0 : decode cX2_latest 0 = .ok (.aload_n 0, 1) := by decide +kernel
theorem dX2_latest_1 : decode cX2_latest 1 = .ok (.getfield 21, 3) := by decide +kernel
theorem dX2_latest_4 : decode cX2_latest 4 = .ok (.bipush 8, 2) := by decide +kernel
theorem dX2_latest_6 : decode cX2_latest 6 = .ok (.iadd, 1) := by decide +kernel
theorem dX2_latest_7 : decode cX2_latest 7 = .ok (.iconst 1, 1) := by decide +kernel
theorem dX2_latest_8 : decode cX2_latest 8 = .ok (.isub, 1) := by decide +kernel
theorem dX2_latest_9 : decode cX2_latest 9 = .ok (.bipush 8, 2) := by decide +kernel
theorem dX2_latest_11 : decode cX2_latest 11 = .ok (.irem, 1) := by decide +kernel
theorem dX2_latest_12 : decode cX2_latest 12 = .ok (.ireturn, 1) := by decide +kernel
theorem dX3_init_0 : decode cX3_init 0 = .ok (.aload_n 0, 1) := by decide +kernel
theorem dX3_init_1 : decode cX3_init 1 = .ok (.invokespecial 3, 3) := by decide +kernel
theorem dX3_init_4 : decode cX3_init 4 = .ok (.aload_n 0, 1) := by decide +kernel
theorem dX3_init_5 : decode cX3_init 5 = .ok (.ldc 11, 2) := by decide +kernel
theorem dX3_init_7 : decode cX3_init 7 = .ok (.putfield 12, 3) := by decide +kernel
theorem dX3_init_10 : decode cX3_init 10 = .ok (.aload_n 0, 1) := by decide +kernel
theorem dX3_init_11 : decode cX3_init 11 = .ok (.iconst 0, 1) := by decide +kernel
theorem dX3_init_12 : decode cX3_init 12 = .ok (.putfield 16, 3) := by decide +kernel
theorem dX3_init_15 : decode cX3_init 15 = .ok (.aload_n 0, 1) := by decide +kernel
theorem dX3_init_16 : decode cX3_init 16 = .ok (.iconst (-1), 1) := by decide +kernel
theorem dX3_init_17 : decode cX3_init 17 = .ok (.putfield 19, 3) := by decide +kernel
theorem dX3_init_20 : decode cX3_init 20 = .ok (.aload_n 0, 1) := by decide +kernel
theorem dX3_init_21 : decode cX3_init 21 = .ok (.sipush 164, 3) := by decide +kernel
theorem dX3_init_24 : decode cX3_init 24 = .ok (.newarray .int, 2) := by decide +kernel
theorem dX3_init_26 : decode cX3_init 26 = .ok (.putfield 22, 3) := by decide +kernel
theorem dX3_init_29 : decode cX3_init 29 = .ok (.return_, 1) := by decide +kernel
set_option maxRecDepth 20000 in
theorem ggX3_find_X3_fillCharges : GoodIn wsX3_find wsX3_fillCharges := goodIn_r _ [11, 12, 4, 13, 14, 15, 16, 17, 18, 19, 20, 21, 22, 23, 24, 25, 26, 27, 28, 29, 30, 31, 32, 33, 34, 35, 36, 37, 38, 39, 40, 41, 42, 43, 10, 44, 45, 46, 47, 48, 49, 50, 51, 52, 53, 54, 68, 69, 70, 71, 72, 73, 74, 75, 76, 77, 78, 79, 80, 81, 82, 83, 84, 85] (by decide +kernel) (by decide +kernel)
set_option maxRecDepth 20000 in
theorem gX3_find_X3_fillCharges : GoodIn wsX3_find (wsV RX3 26 RX3 yX3_fillCharges wsX3_fillCharges) := goodIn_app (goodIn_of _ (by decide +kernel)) ggX3_find_X3_fillCharges
set_option maxRecDepth 20000 in
theorem ggX3_find_X0_colourOf : GoodIn wsX3_find wsX0_colourOf := goodIn_r _ [58, 23, 76, 77] (by decide +kernel) (by decide +kernel)
set_option maxRecDepth 20000 in
theorem gX3_find_X0_colourOf : GoodIn wsX3_find (wsV RX3 35 RX0 yX0_colourOf wsX0_colourOf) := goodIn_app (goodIn_of _ (by decide +kernel)) ggX3_find_X0_colourOf
set_option maxRecDepth 20000 in
theorem ggX3_find_X0_hasFixed : GoodIn wsX3_find wsX0_hasFixed := goodIn_r _ [62, 63, 76, 77] (by decide +kernel) (by decide +kernel)
set_option maxRecDepth 20000 in
theorem gX3_find_X0_hasFixed : GoodIn wsX3_find (wsV RX3 41 RX0 yX0_hasFixed wsX0_hasFixed) := goodIn_app (goodIn_of _ (by decide +kernel)) ggX3_find_X0_hasFixed
set_option maxRecDepth 20000 in
theorem ggX3_find_X3_chargeOf : GoodIn wsX3_find wsX3_chargeOf := goodIn_r _ [67, 12, 68, 69, 70, 71] (by decide +kernel) (by decide +kernel)
set_option maxRecDepth 20000 in
theorem gX3_find_X3_chargeOf : GoodIn wsX3_find (wsV RX3 48 RX3 yX3_chargeOf wsX3_chargeOf) := goodIn_app (goodIn_of _ (by decide +kernel)) ggX3_find_X3_chargeOf
theorem dX3_find_0 : decode cX3_find 0 = .ok (.aload_n 0, 1) := by decide +kernel
theorem dX3_find_1 : decode cX3_find 1 = .ok (.aload_n 1, 1) := by decide +kernel
theorem dX3_find_2 : decode cX3_find 2 = .ok (.aload_n 2, 1) := by decide +kernel
theorem dX3_find_3 : decode cX3_find 3 = .ok (.aload_n 3, 1) := by decide +kernel
theorem dX3_find_4 : decode cX3_find 4 = .ok (.invokevirtual 26, 3) := by decide +kernel
theorem dX3_find_7 : decode cX3_find 7 = .ok (.aload_n 0, 1) := by decide +kernel
theorem dX3_find_8 : decode cX3_find 8 = .ok (.ldc 11, 2) := by decide +kernel
theorem dX3_find_10 : decode cX3_find 10 = .ok (.putfield 12, 3) := by decide +kernel
theorem dX3_find_13 : decode cX3_find 13 = .ok (.iconst 1, 1) := by decide +kernel
theorem dX3_find_14 : decode cX3_find 14 = .ok (.istore 4, 2) := by decide +kernel
theorem dX3_find_16 : decode cX3_find 16 = .ok (.iload 4, 2) := by decide +kernel
theorem dX3_find_18 : decode cX3_find 18 = .ok (.aload_n 1, 1) := by decide +kernel
theorem dX3_find_19 : decode cX3_find 19 = .ok (.getfield 30, 3) := by decide +kernel
theorem dX3_find_22 : decode cX3_find 22 = .ok (.if_icmp .gt 103, 3) := by decide +kernel
theorem dX3_find_25 : decode cX3_find 25 = .ok (.aload_n 3, 1) := by decide +kernel
theorem dX3_find_26 : decode cX3_find 26 = .ok (.iload 4, 2) := by decide +kernel
theorem dX3_find_28 : decode cX3_find 28 = .ok (.invokevirtual 35, 3) := by decide +kernel
theorem dX3_find_31 : decode cX3_find 31 = .ok (.istore 5, 2) := by decide +kernel
theorem dX3_find_33 : decode cX3_find 33 = .ok (.iconst 0, 1) := by decide +kernel
theorem dX3_find_34 : decode cX3_find 34 = .ok (.istore 6, 2) := by decide +kernel
theorem dX3_find_36 : decode cX3_find 36 = .ok (.iload 5, 2) := by decide +kernel
theorem dX3_find_38 : decode cX3_find 38 = .ok (.iconst (-1), 1) := by decide +kernel
theorem dX3_find_39 : decode cX3_find 39 = .ok (.if_icmp .eq 80, 3) := by decide +kernel
theorem dX3_find_42 : decode cX3_find 42 = .ok (.aload_n 3, 1) := by decide +kernel
theorem dX3_find_43 : decode cX3_find 43 = .ok (.iload 4, 2) := by decide +kernel
theorem dX3_find_45 : decode cX3_find 45 = .ok (.invokevirtual 41, 3) := by decide +kernel
theorem dX3_find_48 : decode cX3_find 48 = .ok (.ifCond .ne 71, 3) := by decide +kernel
theorem dX3_find_51 : decode cX3_find 51 = .ok (.iload 6, 2) := by decide +kernel
theorem dX3_find_53 : decode cX3_find 53 = .ok (.aload_n 1, 1) := by decide +kernel
theorem dX3_find_54 : decode cX3_find 54 = .ok (.getfield 45, 3) := by decide +kernel
theorem dX3_find_57 : decode cX3_find 57 = .ok (.if_icmp .ge 62, 3) := by decide +kernel
theorem dX3_find_60 : decode cX3_find 60 = .ok (.aload_n 0, 1) := by decide +kernel
theorem dX3_find_61 : decode cX3_find 61 = .ok (.iload 4, 2) := by decide +kernel
theorem dX3_find_63 : decode cX3_find 63 = .ok (.iload 5, 2) := by decide +kernel
theorem dX3_find_65 : decode cX3_find 65 = .ok (.invokevirtual 48, 3) := by decide +kernel
theorem dX3_find_68 : decode cX3_find 68 = .ok (.aload_n 0, 1) := by decide +kernel
theorem dX3_find_69 : decode cX3_find 69 = .ok (.iload 4, 2) := by decide +kernel
theorem dX3_find_71 : decode cX3_find 71 = .ok (.iload 6, 2) := by decide +kernel
theorem dX3_find_73 : decode cX3_find 73 = .ok (.invokevirtual 48, 3) := by decide +kernel
theorem dX3_find_76 : decode cX3_find 76 = .ok (.isub, 1) := by decide +kernel
theorem dX3_find_77 : decode cX3_find 77 = .ok (.istore 7, 2) := by decide +kernel
theorem dX3_find_79 : decode cX3_find 79 = .ok (.iload 6, 2) := by decide +kernel
theorem dX3_find_81 : decode cX3_find 81 = .ok (.iload 5, 2) := by decide +kernel
theorem dX3_find_83 : decode cX3_find 83 = .ok (.if_icmp .eq 30, 3) := by decide +kernel
theorem dX3_find_86 : decode cX3_find 86 = .ok (.iload 7, 2) := by decide +kernel
theorem dX3_find_88 : decode cX3_find 88 = .ok (.aload_n 0, 1) := by decide +kernel
theorem dX3_find_89 : decode cX3_find 89 = .ok (.getfield 12, 3) := by decide +kernel
theorem dX3_find_92 : decode cX3_find 92 = .ok (.if_icmp .le 21, 3) := by decide +kernel
theorem dX3_find_95 : decode cX3_find 95 = .ok (.aload_n 0, 1) := by decide +kernel
theorem dX3_find_96 : decode cX3_find 96 = .ok (.iload 7, 2) := by decide +kernel
theorem dX3_find_98 : decode cX3_find 98 = .ok (.putfield 12, 3) := by decide +kernel
theorem dX3_find_101 : decode cX3_find 101 = .ok (.aload_n 0, 1) := by decide +kernel
theorem dX3_find_102 : decode cX3_find 102 = .ok (.iload 4, 2) := by decide +kernel
theorem dX3_find_104 : decode cX3_find 104 = .ok (.putfield 16, 3) := by decide +kernel
theorem dX3_find_107 : decode cX3_find 107 = .ok (.aload_n 0, 1) := by decide +kernel
theorem dX3_find_108 : decode cX3_find 108 = .ok (.iload 6, 2) := by decide +kernel
theorem dX3_find_110 : decode cX3_find 110 = .ok (.putfield 19, 3) := by decide +kernel
theorem dX3_find_113 : decode cX3_find 113 = .ok (.iinc 6 1, 3) := by decide +kernel
theorem dX3_find_116 : decode cX3_find 116 = .ok (.goto (-80), 3) := by decide +kernel
theorem dX3_find_119 : decode cX3_find 119 = .ok (.iinc 4 1, 3) := by decide +kernel
theorem dX3_find_122 : decode cX3_find 122 = .ok (.goto (-106), 3) := by decide +kernel
theorem dX3_find_125 : decode cX3_find 125 = .ok (.return_, 1) := by decide +kernel
set_option maxRecDepth 20000 in
theorem ggX3_fillCharges_J7_fill_53178 : GoodIn wsX3_fillCharges wsJ7_fill_53178 := goodIn_r _ [7] (by decide +kernel) (by decide +kernel)
set_option maxRecDepth 20000 in
theorem gX3_fillCharges_J7_fill_53178 : GoodIn wsX3_fillCharges (va_wsS RX3 52 yJ7_fill_53178 wsJ7_fill_53178) := goodIn_app (goodIn_of _ (by decide +kernel)) ggX3_fillCharges_J7_fill_53178
set_option maxRecDepth 20000 in
theorem ggX3_fillCharges_X0_numbersWith : GoodIn wsX3_fillCharges wsX0_numbersWith := goodIn_r _ [12, 13, 54, 55] (by decide +kernel) (by decide +kernel)
set_option maxRecDepth 20000 in
theorem gX3_fillCharges_X0_numbersWith : GoodIn wsX3_fillCharges (wsV RX3 58 RX0 yX0_numbersWith wsX0_numbersWith) := goodIn_app (goodIn_of _ (by decide +kernel)) ggX3_fillCharges_X0_numbersWith
set_option maxRecDepth 20000 in
theorem ggX3_fillCharges_X8_size : GoodIn wsX3_fillCharges wsX8_size := goodIn_r _ [18, 19, 56, 57, 58, 59, 60, 61, 62, 63] (by decide +kernel) (by decide +kernel)
set_option maxRecDepth 20000 in
theorem gX3_fillCharges_X8_size : GoodIn wsX3_fillCharges (wsV RX3 64 RX8 yX8_size wsX8_size) := goodIn_app (goodIn_of _ (by decide +kernel)) ggX3_fillCharges_X8_size
set_option maxRecDepth 20000 in
theorem ggX3_fillCharges_X8_setOf : GoodIn wsX3_fillCharges wsX8_setOf := goodIn_r _ [23, 19, 24, 56, 57, 58, 59, 60, 61, 62, 63] (by decide +kernel) (by decide +kernel)
set_option maxRecDepth 20000 in
theorem gX3_fillCharges_X8_setOf : GoodIn wsX3_fillCharges (wsV RX3 70 RX8 yX8_setOf wsX8_setOf) := goodIn_app (goodIn_of _ (by decide +kernel)) ggX3_fillCharges_X8_setOf
set_option maxRecDepth 20000 in
theorem ggX3_fillCharges_X8_weightOf : GoodIn wsX3_fillCharges wsX8_weightOf := goodIn_r _ [28, 19, 29, 30, 56, 57, 58, 59, 60, 61, 62, 63] (by decide +kernel) (by decide +kernel)
set_option maxRecDepth 20000 in
theorem gX3_fillCharges_X8_weightOf : GoodIn wsX3_fillCharges (wsV RX3 73 RX8 yX8_weightOf wsX8_weightOf) := goodIn_app (goodIn_of _ (by decide +kernel)) ggX3_fillCharges_X8_weightOf
set_option maxRecDepth 20000 in
theorem ggX3_fillCharges_X3_charge : GoodIn wsX3_fillCharges wsX3_charge := goodIn_r _ [35, 1, 36, 37, 17, 38, 39, 40, 41, 42, 43, 44, 45, 46, 47, 48, 49] (by decide +kernel) (by decide +kernel)
set_option maxRecDepth 20000 in
theorem gX3_fillCharges_X3_charge : GoodIn wsX3_fillCharges (wsV RX3 76 RX3 yX3_charge wsX3_charge) := goodIn_app (goodIn_of _ (by decide +kernel)) ggX3_fillCharges_X3_charge
theorem dX3_fillCharges_0 : decode cX3_fillCharges 0 = .ok (.aload_n 0, 1) := by decide +kernel
theorem dX3_fillCharges_1 : decode cX3_fillCharges 1 = .ok (.getfield 22, 3) := by decide +kernel
theorem dX3_fillCharges_4 : decode cX3_fillCharges 4 = .ok (.iconst 0, 1) := by decide +kernel
theorem dX3_fillCharges_5 : decode cX3_fillCharges 5 = .ok (.invokestatic 52, 3) := by decide +kernel
theorem dX3_fillCharges_8 : decode cX3_fillCharges 8 = .ok (.iconst 0, 1) := by decide +kernel
theorem dX3_fillCharges_9 : decode cX3_fillCharges 9 = .ok (.istore 4, 2) := by decide +kernel
theorem dX3_fillCharges_11 : decode cX3_fillCharges 11 = .ok (.iload 4, 2) := by decide +kernel
theorem dX3_fillCharges_13 : decode cX3_fillCharges 13 = .ok (.aload_n 1, 1) := by decide +kernel
theorem dX3_fillCharges_14 : decode cX3_fillCharges 14 = .ok (.getfield 45, 3) := by decide +kernel
theorem dX3_fillCharges_17 : decode cX3_fillCharges 17 = .ok (.if_icmp .ge 108, 3) := by decide +kernel
theorem dX3_fillCharges_20 : decode cX3_fillCharges 20 = .ok (.aload_n 3, 1) := by decide +kernel
theorem dX3_fillCharges_21 : decode cX3_fillCharges 21 = .ok (.iload 4, 2) := by decide +kernel
theorem dX3_fillCharges_23 : decode cX3_fillCharges 23 = .ok (.invokevirtual 58, 3) := by decide +kernel
theorem dX3_fillCharges_26 : decode cX3_fillCharges 26 = .ok (.ldc2_w 62, 3) := by decide +kernel
theorem dX3_fillCharges_29 : decode cX3_fillCharges 29 = .ok (.lxor, 1) := by decide +kernel
theorem dX3_fillCharges_30 : decode cX3_fillCharges 30 = .ok (.lstore 5, 2) := by decide +kernel
theorem dX3_fillCharges_32 : decode cX3_fillCharges 32 = .ok (.iconst 0, 1) := by decide +kernel
theorem dX3_fillCharges_33 : decode cX3_fillCharges 33 = .ok (.istore 7, 2) := by decide +kernel
theorem dX3_fillCharges_35 : decode cX3_fillCharges 35 = .ok (.iload 7, 2) := by decide +kernel
theorem dX3_fillCharges_37 : decode cX3_fillCharges 37 = .ok (.aload_n 2, 1) := by decide +kernel
theorem dX3_fillCharges_38 : decode cX3_fillCharges 38 = .ok (.invokevirtual 64, 3) := by decide +kernel
theorem dX3_fillCharges_41 : decode cX3_fillCharges 41 = .ok (.if_icmp .ge 78, 3) := by decide +kernel
theorem dX3_fillCharges_44 : decode cX3_fillCharges 44 = .ok (.aload_n 2, 1) := by decide +kernel
theorem dX3_fillCharges_45 : decode cX3_fillCharges 45 = .ok (.iload 7, 2) := by decide +kernel
theorem dX3_fillCharges_47 : decode cX3_fillCharges 47 = .ok (.invokevirtual 70, 3) := by decide +kernel
theorem dX3_fillCharges_50 : decode cX3_fillCharges 50 = .ok (.lload 5, 2) := by decide +kernel
theorem dX3_fillCharges_52 : decode cX3_fillCharges 52 = .ok (.land, 1) := by decide +kernel
theorem dX3_fillCharges_53 : decode cX3_fillCharges 53 = .ok (.lstore 8, 2) := by decide +kernel
theorem dX3_fillCharges_55 : decode cX3_fillCharges 55 = .ok (.lload 8, 2) := by decide +kernel
theorem dX3_fillCharges_57 : decode cX3_fillCharges 57 = .ok (.lconst 0, 1) := by decide +kernel
theorem dX3_fillCharges_58 : decode cX3_fillCharges 58 = .ok (.lcmp, 1) := by decide +kernel
theorem dX3_fillCharges_59 : decode cX3_fillCharges 59 = .ok (.ifCond .ne 26, 3) := by decide +kernel
theorem dX3_fillCharges_62 : decode cX3_fillCharges 62 = .ok (.aload_n 0, 1) := by decide +kernel
theorem dX3_fillCharges_63 : decode cX3_fillCharges 63 = .ok (.aload_n 2, 1) := by decide +kernel
theorem dX3_fillCharges_64 : decode cX3_fillCharges 64 = .ok (.iload 7, 2) := by decide +kernel
theorem dX3_fillCharges_66 : decode cX3_fillCharges 66 = .ok (.invokevirtual 70, 3) := by decide +kernel
theorem dX3_fillCharges_69 : decode cX3_fillCharges 69 = .ok (.iload 4, 2) := by decide +kernel
theorem dX3_fillCharges_71 : decode cX3_fillCharges 71 = .ok (.aload_n 2, 1) := by decide +kernel
theorem dX3_fillCharges_72 : decode cX3_fillCharges 72 = .ok (.iload 7, 2) := by decide +kernel
theorem dX3_fillCharges_74 : decode cX3_fillCharges 74 = .ok (.iload 4, 2) := by decide +kernel
theorem dX3_fillCharges_76 : decode cX3_fillCharges 76 = .ok (.invokevirtual 73, 3) := by decide +kernel
theorem dX3_fillCharges_79 : decode cX3_fillCharges 79 = .ok (.invokevirtual 76, 3) := by decide +kernel
theorem dX3_fillCharges_82 : decode cX3_fillCharges 82 = .ok (.goto 31, 3) := by decide +kernel
theorem dX3_fillCharges_85 : decode cX3_fillCharges 85 = .ok (.lload 8, 2) := by decide +kernel
theorem dX3_fillCharges_87 : decode cX3_fillCharges 87 = .ok (.lload 8, 2) := by decide +kernel
theorem dX3_fillCharges_89 : decode cX3_fillCharges 89 = .ok (.lconst 1, 1) := by decide +kernel
theorem dX3_fillCharges_90 : decode cX3_fillCharges 90 = .ok (.lsub, 1) := by decide +kernel
theorem dX3_fillCharges_91 : decode cX3_fillCharges 91 = .ok (.land, 1) := by decide +kernel
theorem dX3_fillCharges_92 : decode cX3_fillCharges 92 = .ok (.lconst 0, 1) := by decide +kernel
theorem dX3_fillCharges_93 : decode cX3_fillCharges 93 = .ok (.lcmp, 1) := by decide +kernel
theorem dX3_fillCharges_94 : decode cX3_fillCharges 94 = .ok (.ifCond .ne 19, 3) := by decide +kernel
theorem dX3_fillCharges_97 : decode cX3_fillCharges 97 = .ok (.aload_n 0, 1) := by decide +kernel
theorem dX3_fillCharges_98 : decode cX3_fillCharges 98 = .ok (.lload 8, 2) := by decide +kernel
theorem dX3_fillCharges_100 : decode cX3_fillCharges 100 = .ok (.iload 4, 2) := by decide +kernel
theorem dX3_fillCharges_102 : decode cX3_fillCharges 102 = .ok (.aload_n 2, 1) := by decide +kernel
theorem dX3_fillCharges_103 : decode cX3_fillCharges 103 = .ok (.iload 7, 2) := by decide +kernel
theorem dX3_fillCharges_105 : decode cX3_fillCharges 105 = .ok (.iload 4, 2) := by decide +kernel
theorem dX3_fillCharges_107 : decode cX3_fillCharges 107 = .ok (.invokevirtual 73, 3) := by decide +kernel
theorem dX3_fillCharges_110 : decode cX3_fillCharges 110 = .ok (.invokevirtual 76, 3) := by decide +kernel
theorem dX3_fillCharges_113 : decode cX3_fillCharges 113 = .ok (.iinc 7 1, 3) := by decide +kernel
theorem dX3_fillCharges_116 : decode cX3_fillCharges 116 = .ok (.goto (-81), 3) := by decide +kernel
theorem dX3_fillCharges_119 : decode cX3_fillCharges 119 = .ok (.iinc 4 1, 3) := by decide +kernel
theorem dX3_fillCharges_122 : decode cX3_fillCharges 122 = .ok (.goto (-111), 3) := by decide +kernel
theorem dX3_fillCharges_125 : decode cX3_fillCharges 125 = .ok (.return_, 1) := by decide +kernel
set_option maxRecDepth 20000 in
theorem ggX3_charge_X8_firstNumber : GoodIn wsX3_charge wsX8_firstNumber := goodIn_r _ [5, 6, 7, 8, 9, 10, 11, 12] (by decide +kernel) (by decide +kernel)
set_option maxRecDepth 20000 in
theorem gX3_charge_X8_firstNumber : GoodIn wsX3_charge (va_wsS RX3 80 yX8_firstNumber wsX8_firstNumber) := goodIn_app (goodIn_of _ (by decide +kernel)) ggX3_charge_X8_firstNumber
theorem dX3_charge_0 : decode cX3_charge 0 = .ok (.lload_n 1, 1) := by decide +kernel
theorem dX3_charge_1 : decode cX3_charge 1 = .ok (.lstore 5, 2) := by decide +kernel
theorem dX3_charge_3 : decode cX3_charge 3 = .ok (.iconst 0, 1) := by decide +kernel
theorem dX3_charge_4 : decode cX3_charge 4 = .ok (.istore 7, 2) := by decide +kernel
theorem dX3_charge_6 : decode cX3_charge 6 = .ok (.iload 7, 2) := by decide +kernel
theorem dX3_charge_8 : decode cX3_charge 8 = .ok (.bipush 6, 2) := by decide +kernel
theorem dX3_charge_10 : decode cX3_charge 10 = .ok (.if_icmp .ge 63, 3) := by decide +kernel
theorem dX3_charge_13 : decode cX3_charge 13 = .ok (.lload 5, 2) := by decide +kernel
theorem dX3_charge_15 : decode cX3_charge 15 = .ok (.lconst 0, 1) := by decide +kernel
theorem dX3_charge_16 : decode cX3_charge 16 = .ok (.lcmp, 1) := by decide +kernel
theorem dX3_charge_17 : decode cX3_charge 17 = .ok (.ifCond .eq 56, 3) := by decide +kernel
theorem dX3_charge_20 : decode cX3_charge 20 = .ok (.lload 5, 2) := by decide +kernel
theorem dX3_charge_22 : decode cX3_charge 22 = .ok (.invokestatic 80, 3) := by decide +kernel
theorem dX3_charge_25 : decode cX3_charge 25 = .ok (.iconst 4, 1) := by decide +kernel
theorem dX3_charge_26 : decode cX3_charge 26 = .ok (.imul, 1) := by decide +kernel
theorem dX3_charge_27 : decode cX3_charge 27 = .ok (.iload_n 3, 1) := by decide +kernel
theorem dX3_charge_28 : decode cX3_charge 28 = .ok (.iadd, 1) := by decide +kernel
theorem dX3_charge_29 : decode cX3_charge 29 = .ok (.istore 8, 2) := by decide +kernel
theorem dX3_charge_31 : decode cX3_charge 31 = .ok (.iload 8, 2) := by decide +kernel
theorem dX3_charge_33 : decode cX3_charge 33 = .ok (.ifCond .lt 25, 3) := by decide +kernel
theorem dX3_charge_36 : decode cX3_charge 36 = .ok (.iload 8, 2) := by decide +kernel
theorem dX3_charge_38 : decode cX3_charge 38 = .ok (.aload_n 0, 1) := by decide +kernel
theorem dX3_charge_39 : decode cX3_charge 39 = .ok (.getfield 22, 3) := by decide +kernel
theorem dX3_charge_42 : decode cX3_charge 42 = .ok (.arraylength, 1) := by decide +kernel
theorem dX3_charge_43 : decode cX3_charge 43 = .ok (.if_icmp .ge 15, 3) := by decide +kernel
theorem dX3_charge_46 : decode cX3_charge 46 = .ok (.aload_n 0, 1) := by decide +kernel
theorem dX3_charge_47 : decode cX3_charge 47 = .ok (.getfield 22, 3) := by decide +kernel
theorem dX3_charge_50 : decode cX3_charge 50 = .ok (.iload 8, 2) := by decide +kernel
theorem dX3_charge_52 : decode cX3_charge 52 = .ok (.dup2, 1) := by decide +kernel
theorem dX3_charge_53 : decode cX3_charge 53 = .ok (.iaload, 1) := by decide +kernel
theorem dX3_charge_54 : decode cX3_charge 54 = .ok (.iload 4, 2) := by decide +kernel
theorem dX3_charge_56 : decode cX3_charge 56 = .ok (.iadd, 1) := by decide +kernel
theorem dX3_charge_57 : decode cX3_charge 57 = .ok (.iastore, 1) := by decide +kernel
theorem dX3_charge_58 : decode cX3_charge 58 = .ok (.lload 5, 2) := by decide +kernel
theorem dX3_charge_60 : decode cX3_charge 60 = .ok (.lload 5, 2) := by decide +kernel
theorem dX3_charge_62 : decode cX3_charge 62 = .ok (.lconst 1, 1) := by decide +kernel
theorem dX3_charge_63 : decode cX3_charge 63 = .ok (.lsub, 1) := by decide +kernel
theorem dX3_charge_64 : decode cX3_charge 64 = .ok (.land, 1) := by decide +kernel
theorem dX3_charge_65 : decode cX3_charge 65 = .ok (.lstore 5, 2) := by decide +kernel
theorem dX3_charge_67 : decode cX3_charge 67 = .ok (.iinc 7 1, 3) := by decide +kernel
theorem dX3_charge_70 : decode cX3_charge 70 = .ok (.goto (-64), 3) := by decide +kernel
theorem dX3_charge_73 : decode cX3_charge 73 = .ok (.return_, 1) := by decide +kernel
theorem dX3_chargeOf_0 : decode cX3_chargeOf 0 = .ok (.iload_n 1, 1) := by decide +kernel
theorem dX3_chargeOf_1 : decode cX3_chargeOf 1 = .ok (.iconst 4, 1) := by decide +kernel
theorem dX3_chargeOf_2 : decode cX3_chargeOf 2 = .ok (.imul, 1) := by decide +kernel
theorem dX3_chargeOf_3 : decode cX3_chargeOf 3 = .ok (.iload_n 2, 1) := by decide +kernel
theorem dX3_chargeOf_4 : decode cX3_chargeOf 4 = .ok (.iadd, 1) := by decide +kernel
theorem dX3_chargeOf_5 : decode cX3_chargeOf 5 = .ok (.istore_n 3, 1) := by decide +kernel
theorem dX3_chargeOf_6 : decode cX3_chargeOf 6 = .ok (.iload_n 3, 1) := by decide +kernel
theorem dX3_chargeOf_7 : decode cX3_chargeOf 7 = .ok (.ifCond .lt 21, 3) := by decide +kernel
theorem dX3_chargeOf_10 : decode cX3_chargeOf 10 = .ok (.iload_n 3, 1) := by decide +kernel
theorem dX3_chargeOf_11 : decode cX3_chargeOf 11 = .ok (.aload_n 0, 1) := by decide +kernel
theorem dX3_chargeOf_12 : decode cX3_chargeOf 12 = .ok (.getfield 22, 3) := by decide +kernel
theorem dX3_chargeOf_15 : decode cX3_chargeOf 15 = .ok (.arraylength, 1) := by decide +kernel
theorem dX3_chargeOf_16 : decode cX3_chargeOf 16 = .ok (.if_icmp .ge 12, 3) := by decide +kernel
theorem dX3_chargeOf_19 : decode cX3_chargeOf 19 = .ok (.aload_n 0, 1) := by decide +kernel
theorem dX3_chargeOf_20 : decode cX3_chargeOf 20 = .ok (.getfield 22, 3) := by decide +kernel
theorem dX3_chargeOf_23 : decode cX3_chargeOf 23 = .ok (.iload_n 3, 1) := by decide +kernel
theorem dX3_chargeOf_24 : decode cX3_chargeOf 24 = .ok (.iaload, 1) := by decide +kernel
theorem dX3_chargeOf_25 : decode cX3_chargeOf 25 = .ok (.goto 4, 3) := by decide +kernel
theorem dX3_chargeOf_28 : decode cX3_chargeOf 28 = .ok (.iconst 0, 1) := by decide +kernel
theorem dX3_chargeOf_29 : decode cX3_chargeOf 29 = .ok (.ireturn, 1) := by decide +kernel
theorem dX4_init_0 : decode cX4_init 0 = .ok (.aload_n 0, 1) := by decide +kernel
theorem dX4_init_1 : decode cX4_init 1 = .ok (.invokespecial 1, 3) := by decide +kernel
theorem dX4_init_4 : decode cX4_init 4 = .ok (.aload_n 0, 1) := by decide +kernel
theorem dX4_init_5 : decode cX4_init 5 = .ok (.iload_n 1, 1) := by decide +kernel
theorem dX4_init_6 : decode cX4_init 6 = .ok (.putfield 7, 3) := by decide +kernel
theorem dX4_init_9 : decode cX4_init 9 = .ok (.aload_n 0, 1) := by decide +kernel
theorem dX4_init_10 : decode cX4_init 10 = .ok (.iconst 0, 1) := by decide +kernel
theorem dX4_init_11 : decode cX4_init 11 = .ok (.putfield 13, 3) := by decide +kernel
theorem dX4_init_14 : decode cX4_init 14 = .ok (.aload_n 0, 1) := by decide +kernel
theorem dX4_init_15 : decode cX4_init 15 = .ok (.iconst 0, 1) := by decide +kernel
theorem dX4_init_16 : decode cX4_init 16 = .ok (.putfield 16, 3) := by decide +kernel
theorem dX4_init_19 : decode cX4_init 19 = .ok (.aload_n 0, 1) := by decide +kernel
theorem dX4_init_20 : decode cX4_init 20 = .ok (.iconst 0, 1) := by decide +kernel
theorem dX4_init_21 : decode cX4_init 21 = .ok (.putfield 19, 3) := by decide +kernel
theorem dX4_init_24 : decode cX4_init 24 = .ok (.aload_n 0, 1) := by decide +kernel
theorem dX4_init_25 : decode cX4_init 25 = .ok (.iconst 0, 1) := by decide +kernel
theorem dX4_init_26 : decode cX4_init 26 = .ok (.putfield 22, 3) := by decide +kernel
theorem dX4_init_29 : decode cX4_init 29 = .ok (.aload_n 0, 1) := by decide +kernel
theorem dX4_init_30 : decode cX4_init 30 = .ok (.iconst 0, 1) := by decide +kernel
theorem dX4_init_31 : decode cX4_init 31 = .ok (.putfield 25, 3) := by decide +kernel
theorem dX4_init_34 : decode cX4_init 34 = .ok (.return_, 1) := by decide +kernel
theorem dX4_init__0 : decode cX4_init_ 0 = .ok (.aload_n 0, 1) := by decide +kernel
theorem dX4_init__1 : decode cX4_init_ 1 = .ok (.invokespecial 1, 3) := by decide +kernel
theorem dX4_init__4 : decode cX4_init_ 4 = .ok (.aload_n 0, 1) := by decide +kernel
theorem dX4_init__5 : decode cX4_init_ 5 = .ok (.iconst 0, 1) := by decide +kernel
theorem dX4_init__6 : decode cX4_init_ 6 = .ok (.putfield 7, 3) := by decide +kernel
theorem dX4_init__9 : decode cX4_init_ 9 = .ok (.aload_n 0, 1) := by decide +kernel
theorem dX4_init__10 : decode cX4_init_ 10 = .ok (.iload_n 1, 1) := by decide +kernel
theorem dX4_init__11 : decode cX4_init_ 11 = .ok (.putfield 13, 3) := by decide +kernel
theorem dX4_init__14 : decode cX4_init_ 14 = .ok (.aload_n 0, 1) := by decide +kernel
theorem dX4_init__15 : decode cX4_init_ 15 = .ok (.iload_n 2, 1) := by decide +kernel
theorem dX4_init__16 : decode cX4_init_ 16 = .ok (.putfield 16, 3) := by decide +kernel
theorem dX4_init__19 : decode cX4_init_ 19 = .ok (.aload_n 0, 1) := by decide +kernel
theorem dX4_init__20 : decode cX4_init_ 20 = .ok (.iload_n 3, 1) := by decide +kernel
theorem dX4_init__21 : decode cX4_init_ 21 = .ok (.putfield 19, 3) := by decide +kernel
theorem dX4_init__24 : decode cX4_init_ 24 = .ok (.aload_n 0, 1) := by decide +kernel
theorem dX4_init__25 : decode cX4_init_ 25 = .ok (.iload 4, 2) := by decide +kernel
theorem dX4_init__27 : decode cX4_init_ 27 = .ok (.putfield 22, 3) := by decide +kernel
theorem dX4_init__30 : decode cX4_init_ 30 = .ok (.aload_n 0, 1) := by decide +kernel
theorem dX4_init__31 : decode cX4_init_ 31 = .ok (.iload 5, 2) := by decide +kernel
theorem dX4_init__33 : decode cX4_init_ 33 = .ok (.putfield 25, 3) := by decide +kernel
theorem dX4_init__36 : decode cX4_init_ 36 = .ok (.return_, 1) := by decide +kernel
set_option maxRecDepth 20000 in
theorem ggX4_addSolutions_X4_addProgressions : GoodIn wsX4_addSolutions wsX4_addProgressions := goodIn_r _ [6, 1, 7, 8, 9, 10, 11, 12, 13, 14, 15, 33, 34, 35, 36, 37, 38, 39, 40, 41, 42, 43, 44, 45, 46] (by decide +kernel) (by decide +kernel)
set_option maxRecDepth 20000 in
theorem gX4_addSolutions_X4_addProgressions : GoodIn wsX4_addSolutions (wsV RX4 29 RX4 yX4_addProgressions wsX4_addProgressions) := goodIn_app (goodIn_of _ (by decide +kernel)) ggX4_addSolutions_X4_addProgressions
set_option maxRecDepth 20000 in
theorem ggX4_addSolutions_X4_addTriples : GoodIn wsX4_addSolutions wsX4_addTriples := goodIn_r _ [19, 20, 21, 22, 23, 24, 25, 26, 27, 28, 29, 30, 5, 31, 32, 7, 8, 9, 10, 11, 12, 13, 14, 15, 33, 34, 35, 36, 37, 38, 39, 40, 41, 42, 43, 44, 45, 46] (by decide +kernel) (by decide +kernel)
set_option maxRecDepth 20000 in
theorem gX4_addSolutions_X4_addTriples : GoodIn wsX4_addSolutions (wsV RX4 33 RX4 yX4_addTriples wsX4_addTriples) := goodIn_app (goodIn_of _ (by decide +kernel)) ggX4_addSolutions_X4_addTriples
theorem dX4_addSolutions_0 : decode cX4_addSolutions 0 = .ok (.aload_n 0, 1) := by decide +kernel
theorem dX4_addSolutions_1 : decode cX4_addSolutions 1 = .ok (.getfield 7, 3) := by decide +kernel
theorem dX4_addSolutions_4 : decode cX4_addSolutions 4 = .ok (.ifCond .le 12, 3) := by decide +kernel
theorem dX4_addSolutions_7 : decode cX4_addSolutions 7 = .ok (.aload_n 0, 1) := by decide +kernel
theorem dX4_addSolutions_8 : decode cX4_addSolutions 8 = .ok (.iload_n 1, 1) := by decide +kernel
theorem dX4_addSolutions_9 : decode cX4_addSolutions 9 = .ok (.aload_n 2, 1) := by decide +kernel
theorem dX4_addSolutions_10 : decode cX4_addSolutions 10 = .ok (.invokevirtual 29, 3) := by decide +kernel
theorem dX4_addSolutions_13 : decode cX4_addSolutions 13 = .ok (.goto 9, 3) := by decide +kernel
theorem dX4_addSolutions_16 : decode cX4_addSolutions 16 = .ok (.aload_n 0, 1) := by decide +kernel
theorem dX4_addSolutions_17 : decode cX4_addSolutions 17 = .ok (.iload_n 1, 1) := by decide +kernel
theorem dX4_addSolutions_18 : decode cX4_addSolutions 18 = .ok (.aload_n 2, 1) := by decide +kernel
theorem dX4_addSolutions_19 : decode cX4_addSolutions 19 = .ok (.invokevirtual 33, 3) := by decide +kernel
theorem dX4_addSolutions_22 : decode cX4_addSolutions 22 = .ok (.return_, 1) := by decide +kernel
set_option maxRecDepth 20000 in
theorem ggX4_addTriples_X4_fits : GoodIn wsX4_addTriples wsX4_fits := goodIn_r _ [13, 14, 24, 25, 26, 27, 28, 29] (by decide +kernel) (by decide +kernel)
set_option maxRecDepth 20000 in
theorem gX4_addTriples_X4_fits : GoodIn wsX4_addTriples (wsV RX4 36 RX4 yX4_fits wsX4_fits) := goodIn_app (goodIn_of _ (by decide +kernel)) ggX4_addTriples_X4_fits
set_option maxRecDepth 20000 in
theorem ggX4_addTriples_X8_add : GoodIn wsX4_addTriples wsX8_add := goodIn_r _ [19, 20, 21, 22, 23, 30, 31, 32, 33, 34, 35, 36, 37] (by decide +kernel) (by decide +kernel)
set_option maxRecDepth 20000 in
theorem gX4_addTriples_X8_add : GoodIn wsX4_addTriples (wsV RX4 46 RX8 yX8_add wsX8_add) := goodIn_app (goodIn_of _ (by decide +kernel)) ggX4_addTriples_X8_add
theorem dX4_addTriples_0 : decode cX4_addTriples 0 = .ok (.aload_n 0, 1) := by decide +kernel
theorem dX4_addTriples_1 : decode cX4_addTriples 1 = .ok (.getfield 19, 3) := by decide +kernel
theorem dX4_addTriples_4 : decode cX4_addTriples 4 = .ok (.iconst 1, 1) := by decide +kernel
theorem dX4_addTriples_5 : decode cX4_addTriples 5 = .ok (.if_icmp .ge 4, 3) := by decide +kernel
theorem dX4_addTriples_8 : decode cX4_addTriples 8 = .ok (.return_, 1) := by decide +kernel
theorem dX4_addTriples_9 : decode cX4_addTriples 9 = .ok (.iconst 1, 1) := by decide +kernel
theorem dX4_addTriples_10 : decode cX4_addTriples 10 = .ok (.istore_n 3, 1) := by decide +kernel
theorem dX4_addTriples_11 : decode cX4_addTriples 11 = .ok (.iload_n 3, 1) := by decide +kernel
theorem dX4_addTriples_12 : decode cX4_addTriples 12 = .ok (.iload_n 1, 1) := by decide +kernel
theorem dX4_addTriples_13 : decode cX4_addTriples 13 = .ok (.if_icmp .gt 116, 3) := by decide +kernel
theorem dX4_addTriples_16 : decode cX4_addTriples 16 = .ok (.iconst 1, 1) := by decide +kernel
theorem dX4_addTriples_17 : decode cX4_addTriples 17 = .ok (.istore 4, 2) := by decide +kernel
theorem dX4_addTriples_19 : decode cX4_addTriples 19 = .ok (.iload 4, 2) := by decide +kernel
theorem dX4_addTriples_21 : decode cX4_addTriples 21 = .ok (.iload_n 1, 1) := by decide +kernel
theorem dX4_addTriples_22 : decode cX4_addTriples 22 = .ok (.if_icmp .gt 101, 3) := by decide +kernel
theorem dX4_addTriples_25 : decode cX4_addTriples 25 = .ok (.aload_n 0, 1) := by decide +kernel
theorem dX4_addTriples_26 : decode cX4_addTriples 26 = .ok (.getfield 13, 3) := by decide +kernel
theorem dX4_addTriples_29 : decode cX4_addTriples 29 = .ok (.iload_n 3, 1) := by decide +kernel
theorem dX4_addTriples_30 : decode cX4_addTriples 30 = .ok (.imul, 1) := by decide +kernel
theorem dX4_addTriples_31 : decode cX4_addTriples 31 = .ok (.aload_n 0, 1) := by decide +kernel
theorem dX4_addTriples_32 : decode cX4_addTriples 32 = .ok (.getfield 16, 3) := by decide +kernel
theorem dX4_addTriples_35 : decode cX4_addTriples 35 = .ok (.iload 4, 2) := by decide +kernel
theorem dX4_addTriples_37 : decode cX4_addTriples 37 = .ok (.imul, 1) := by decide +kernel
theorem dX4_addTriples_38 : decode cX4_addTriples 38 = .ok (.iadd, 1) := by decide +kernel
theorem dX4_addTriples_39 : decode cX4_addTriples 39 = .ok (.aload_n 0, 1) := by decide +kernel
theorem dX4_addTriples_40 : decode cX4_addTriples 40 = .ok (.getfield 22, 3) := by decide +kernel
theorem dX4_addTriples_43 : decode cX4_addTriples 43 = .ok (.isub, 1) := by decide +kernel
theorem dX4_addTriples_44 : decode cX4_addTriples 44 = .ok (.istore 5, 2) := by decide +kernel
theorem dX4_addTriples_46 : decode cX4_addTriples 46 = .ok (.iload 5, 2) := by decide +kernel
theorem dX4_addTriples_48 : decode cX4_addTriples 48 = .ok (.aload_n 0, 1) := by decide +kernel
theorem dX4_addTriples_49 : decode cX4_addTriples 49 = .ok (.getfield 19, 3) := by decide +kernel
theorem dX4_addTriples_52 : decode cX4_addTriples 52 = .ok (.idiv, 1) := by decide +kernel
theorem dX4_addTriples_53 : decode cX4_addTriples 53 = .ok (.istore 6, 2) := by decide +kernel
theorem dX4_addTriples_55 : decode cX4_addTriples 55 = .ok (.iload 5, 2) := by decide +kernel
theorem dX4_addTriples_57 : decode cX4_addTriples 57 = .ok (.aload_n 0, 1) := by decide +kernel
theorem dX4_addTriples_58 : decode cX4_addTriples 58 = .ok (.getfield 19, 3) := by decide +kernel
theorem dX4_addTriples_61 : decode cX4_addTriples 61 = .ok (.irem, 1) := by decide +kernel
theorem dX4_addTriples_62 : decode cX4_addTriples 62 = .ok (.ifCond .ne 55, 3) := by decide +kernel
theorem dX4_addTriples_65 : decode cX4_addTriples 65 = .ok (.iload 6, 2) := by decide +kernel
theorem dX4_addTriples_67 : decode cX4_addTriples 67 = .ok (.iconst 1, 1) := by decide +kernel
theorem dX4_addTriples_68 : decode cX4_addTriples 68 = .ok (.if_icmp .lt 49, 3) := by decide +kernel
theorem dX4_addTriples_71 : decode cX4_addTriples 71 = .ok (.iload 6, 2) := by decide +kernel
theorem dX4_addTriples_73 : decode cX4_addTriples 73 = .ok (.iload_n 1, 1) := by decide +kernel
theorem dX4_addTriples_74 : decode cX4_addTriples 74 = .ok (.if_icmp .gt 43, 3) := by decide +kernel
theorem dX4_addTriples_77 : decode cX4_addTriples 77 = .ok (.aload_n 0, 1) := by decide +kernel
theorem dX4_addTriples_78 : decode cX4_addTriples 78 = .ok (.iload_n 3, 1) := by decide +kernel
theorem dX4_addTriples_79 : decode cX4_addTriples 79 = .ok (.iload 4, 2) := by decide +kernel
theorem dX4_addTriples_81 : decode cX4_addTriples 81 = .ok (.iload 6, 2) := by decide +kernel
theorem dX4_addTriples_83 : decode cX4_addTriples 83 = .ok (.invokevirtual 36, 3) := by decide +kernel
theorem dX4_addTriples_86 : decode cX4_addTriples 86 = .ok (.ifCond .eq 31, 3) := by decide +kernel
theorem dX4_addTriples_89 : decode cX4_addTriples 89 = .ok (.aload_n 2, 1) := by decide +kernel
theorem dX4_addTriples_90 : decode cX4_addTriples 90 = .ok (.lconst 1, 1) := by decide +kernel
theorem dX4_addTriples_91 : decode cX4_addTriples 91 = .ok (.iload_n 3, 1) := by decide +kernel
theorem dX4_addTriples_92 : decode cX4_addTriples 92 = .ok (.lshl, 1) := by decide +kernel
theorem dX4_addTriples_93 : decode cX4_addTriples 93 = .ok (.lconst 1, 1) := by decide +kernel
theorem dX4_addTriples_94 : decode cX4_addTriples 94 = .ok (.iload 4, 2) := by decide +kernel
theorem dX4_addTriples_96 : decode cX4_addTriples 96 = .ok (.lshl, 1) := by decide +kernel
theorem dX4_addTriples_97 : decode cX4_addTriples 97 = .ok (.lor, 1) := by decide +kernel
theorem dX4_addTriples_98 : decode cX4_addTriples 98 = .ok (.lconst 1, 1) := by decide +kernel
theorem dX4_addTriples_99 : decode cX4_addTriples 99 = .ok (.iload 6, 2) := by decide +kernel
theorem dX4_addTriples_101 : decode cX4_addTriples 101 = .ok (.lshl, 1) := by decide +kernel
theorem dX4_addTriples_102 : decode cX4_addTriples 102 = .ok (.lor, 1) := by decide +kernel
theorem dX4_addTriples_103 : decode cX4_addTriples 103 = .ok (.iload_n 3, 1) := by decide +kernel
theorem dX4_addTriples_104 : decode cX4_addTriples 104 = .ok (.iload 4, 2) := by decide +kernel
theorem dX4_addTriples_106 : decode cX4_addTriples 106 = .ok (.iload 6, 2) := by decide +kernel
theorem dX4_addTriples_108 : decode cX4_addTriples 108 = .ok (.invokestatic 40, 3) := by decide +kernel
theorem dX4_addTriples_111 : decode cX4_addTriples 111 = .ok (.invokestatic 40, 3) := by decide +kernel
theorem dX4_addTriples_114 : decode cX4_addTriples 114 = .ok (.invokevirtual 46, 3) := by decide +kernel
theorem dX4_addTriples_117 : decode cX4_addTriples 117 = .ok (.iinc 4 1, 3) := by decide +kernel
theorem dX4_addTriples_120 : decode cX4_addTriples 120 = .ok (.goto (-101), 3) := by decide +kernel
theorem dX4_addTriples_123 : decode cX4_addTriples 123 = .ok (.iinc 3 1, 3) := by decide +kernel
theorem dX4_addTriples_126 : decode cX4_addTriples 126 = .ok (.goto (-115), 3) := by decide +kernel
theorem dX4_addTriples_129 : decode cX4_addTriples 129 = .ok (.return_, 1) := by decide +kernel
theorem dX4_fits_0 : decode cX4_fits 0 = .ok (.aload_n 0, 1) := by decide +kernel
theorem dX4_fits_1 : decode cX4_fits 1 = .ok (.getfield 25, 3) := by decide +kernel
theorem dX4_fits_4 : decode cX4_fits 4 = .ok (.ifCond .eq 18, 3) := by decide +kernel
theorem dX4_fits_7 : decode cX4_fits 7 = .ok (.iload_n 1, 1) := by decide +kernel
theorem dX4_fits_8 : decode cX4_fits 8 = .ok (.iload_n 2, 1) := by decide +kernel
theorem dX4_fits_9 : decode cX4_fits 9 = .ok (.if_icmp .eq 17, 3) := by decide +kernel
theorem dX4_fits_12 : decode cX4_fits 12 = .ok (.iload_n 2, 1) := by decide +kernel
theorem dX4_fits_13 : decode cX4_fits 13 = .ok (.iload_n 3, 1) := by decide +kernel
theorem dX4_fits_14 : decode cX4_fits 14 = .ok (.if_icmp .eq 12, 3) := by decide +kernel
theorem dX4_fits_17 : decode cX4_fits 17 = .ok (.iload_n 1, 1) := by decide +kernel
theorem dX4_fits_18 : decode cX4_fits 18 = .ok (.iload_n 3, 1) := by decide +kernel
theorem dX4_fits_19 : decode cX4_fits 19 = .ok (.if_icmp .eq 7, 3) := by decide +kernel
theorem dX4_fits_22 : decode cX4_fits 22 = .ok (.iconst 1, 1) := by decide +kernel
theorem dX4_fits_23 : decode cX4_fits 23 = .ok (.goto 4, 3) := by decide +kernel
theorem dX4_fits_26 : decode cX4_fits 26 = .ok (.iconst 0, 1) := by decide +kernel
theorem dX4_fits_27 : decode cX4_fits 27 = .ok (.ireturn, 1) := by decide +kernel
set_option maxRecDepth 20000 in
theorem ggX4_addProgressions_X8_add : GoodIn wsX4_addProgressions wsX8_add := goodIn_r _ [6, 7, 8, 9, 10, 17, 18, 19, 20, 21, 22, 23, 24] (by decide +kernel) (by decide +kernel)
set_option maxRecDepth 20000 in
theorem gX4_addProgressions_X8_add : GoodIn wsX4_addProgressions (wsV RX4 46 RX8 yX8_add wsX8_add) := goodIn_app (goodIn_of _ (by decide +kernel)) ggX4_addProgressions_X8_add
theorem dX4_addProgressions_0 : decode cX4_addProgressions 0 = .ok (.iconst 1, 1) := by decide +kernel
theorem dX4_addProgressions_1 : decode cX4_addProgressions 1 = .ok (.istore_n 3, 1) := by decide +kernel
theorem dX4_addProgressions_2 : decode cX4_addProgressions 2 = .ok (.iload_n 3, 1) := by decide +kernel
theorem dX4_addProgressions_3 : decode cX4_addProgressions 3 = .ok (.iload_n 1, 1) := by decide +kernel
theorem dX4_addProgressions_4 : decode cX4_addProgressions 4 = .ok (.if_icmp .gt 91, 3) := by decide +kernel
theorem dX4_addProgressions_7 : decode cX4_addProgressions 7 = .ok (.iconst 1, 1) := by decide +kernel
theorem dX4_addProgressions_8 : decode cX4_addProgressions 8 = .ok (.istore 4, 2) := by decide +kernel
theorem dX4_addProgressions_10 : decode cX4_addProgressions 10 = .ok (.iload_n 3, 1) := by decide +kernel
theorem dX4_addProgressions_11 : decode cX4_addProgressions 11 = .ok (.aload_n 0, 1) := by decide +kernel
theorem dX4_addProgressions_12 : decode cX4_addProgressions 12 = .ok (.getfield 7, 3) := by decide +kernel
theorem dX4_addProgressions_15 : decode cX4_addProgressions 15 = .ok (.iconst 1, 1) := by decide +kernel
theorem dX4_addProgressions_16 : decode cX4_addProgressions 16 = .ok (.isub, 1) := by decide +kernel
theorem dX4_addProgressions_17 : decode cX4_addProgressions 17 = .ok (.iload 4, 2) := by decide +kernel
theorem dX4_addProgressions_19 : decode cX4_addProgressions 19 = .ok (.imul, 1) := by decide +kernel
theorem dX4_addProgressions_20 : decode cX4_addProgressions 20 = .ok (.iadd, 1) := by decide +kernel
theorem dX4_addProgressions_21 : decode cX4_addProgressions 21 = .ok (.iload_n 1, 1) := by decide +kernel
theorem dX4_addProgressions_22 : decode cX4_addProgressions 22 = .ok (.if_icmp .gt 67, 3) := by decide +kernel
theorem dX4_addProgressions_25 : decode cX4_addProgressions 25 = .ok (.iload 4, 2) := by decide +kernel
theorem dX4_addProgressions_27 : decode cX4_addProgressions 27 = .ok (.iload_n 1, 1) := by decide +kernel
theorem dX4_addProgressions_28 : decode cX4_addProgressions 28 = .ok (.if_icmp .gt 61, 3) := by decide +kernel
theorem dX4_addProgressions_31 : decode cX4_addProgressions 31 = .ok (.lconst 0, 1) := by decide +kernel
theorem dX4_addProgressions_32 : decode cX4_addProgressions 32 = .ok (.lstore 5, 2) := by decide +kernel
theorem dX4_addProgressions_34 : decode cX4_addProgressions 34 = .ok (.iconst 0, 1) := by decide +kernel
theorem dX4_addProgressions_35 : decode cX4_addProgressions 35 = .ok (.istore 7, 2) := by decide +kernel
theorem dX4_addProgressions_37 : decode cX4_addProgressions 37 = .ok (.iload 7, 2) := by decide +kernel
theorem dX4_addProgressions_39 : decode cX4_addProgressions 39 = .ok (.aload_n 0, 1) := by decide +kernel
theorem dX4_addProgressions_40 : decode cX4_addProgressions 40 = .ok (.getfield 7, 3) := by decide +kernel
theorem dX4_addProgressions_43 : decode cX4_addProgressions 43 = .ok (.if_icmp .ge 23, 3) := by decide +kernel
theorem dX4_addProgressions_46 : decode cX4_addProgressions 46 = .ok (.lload 5, 2) := by decide +kernel
theorem dX4_addProgressions_48 : decode cX4_addProgressions 48 = .ok (.lconst 1, 1) := by decide +kernel
theorem dX4_addProgressions_49 : decode cX4_addProgressions 49 = .ok (.iload_n 3, 1) := by decide +kernel
theorem dX4_addProgressions_50 : decode cX4_addProgressions 50 = .ok (.iload 7, 2) := by decide +kernel
theorem dX4_addProgressions_52 : decode cX4_addProgressions 52 = .ok (.iload 4, 2) := by decide +kernel
theorem dX4_addProgressions_54 : decode cX4_addProgressions 54 = .ok (.imul, 1) := by decide +kernel
theorem dX4_addProgressions_55 : decode cX4_addProgressions 55 = .ok (.iadd, 1) := by decide +kernel
theorem dX4_addProgressions_56 : decode cX4_addProgressions 56 = .ok (.lshl, 1) := by decide +kernel
theorem dX4_addProgressions_57 : decode cX4_addProgressions 57 = .ok (.lor, 1) := by decide +kernel
theorem dX4_addProgressions_58 : decode cX4_addProgressions 58 = .ok (.lstore 5, 2) := by decide +kernel
theorem dX4_addProgressions_60 : decode cX4_addProgressions 60 = .ok (.iinc 7 1, 3) := by decide +kernel
theorem dX4_addProgressions_63 : decode cX4_addProgressions 63 = .ok (.goto (-26), 3) := by decide +kernel
theorem dX4_addProgressions_66 : decode cX4_addProgressions 66 = .ok (.aload_n 2, 1) := by decide +kernel
theorem dX4_addProgressions_67 : decode cX4_addProgressions 67 = .ok (.lload 5, 2) := by decide +kernel
theorem dX4_addProgressions_69 : decode cX4_addProgressions 69 = .ok (.iload_n 3, 1) := by decide +kernel
theorem dX4_addProgressions_70 : decode cX4_addProgressions 70 = .ok (.aload_n 0, 1) := by decide +kernel
theorem dX4_addProgressions_71 : decode cX4_addProgressions 71 = .ok (.getfield 7, 3) := by decide +kernel
theorem dX4_addProgressions_74 : decode cX4_addProgressions 74 = .ok (.iconst 1, 1) := by decide +kernel
theorem dX4_addProgressions_75 : decode cX4_addProgressions 75 = .ok (.isub, 1) := by decide +kernel
theorem dX4_addProgressions_76 : decode cX4_addProgressions 76 = .ok (.iload 4, 2) := by decide +kernel
theorem dX4_addProgressions_78 : decode cX4_addProgressions 78 = .ok (.imul, 1) := by decide +kernel
theorem dX4_addProgressions_79 : decode cX4_addProgressions 79 = .ok (.iadd, 1) := by decide +kernel
theorem dX4_addProgressions_80 : decode cX4_addProgressions 80 = .ok (.invokevirtual 46, 3) := by decide +kernel
theorem dX4_addProgressions_83 : decode cX4_addProgressions 83 = .ok (.iinc 4 1, 3) := by decide +kernel
theorem dX4_addProgressions_86 : decode cX4_addProgressions 86 = .ok (.goto (-76), 3) := by decide +kernel
theorem dX4_addProgressions_89 : decode cX4_addProgressions 89 = .ok (.iinc 3 1, 3) := by decide +kernel
theorem dX4_addProgressions_92 : decode cX4_addProgressions 92 = .ok (.goto (-90), 3) := by decide +kernel
theorem dX4_addProgressions_95 : decode cX4_addProgressions 95 = .ok (.return_, 1) := by decide +kernel
set_option maxRecDepth 20000 in
theorem ggX5_init_X0_init : GoodIn wsX5_init wsX0_init := goodIn_r _ [15, 16, 2, 3, 17, 18, 19, 20, 21] (by decide +kernel) (by decide +kernel)
set_option maxRecDepth 20000 in
theorem gX5_init_X0_init_n11 : GoodIn wsX5_init (wsX0_init) := ggX5_init_X0_init
theorem dX5_init_0 : decode cX5_init 0 = .ok (.aload_n 0, 1) := by decide +kernel
theorem dX5_init_1 : decode cX5_init 1 = .ok (.invokespecial 3, 3) := by decide +kernel
theorem dX5_init_4 : decode cX5_init 4 = .ok (.aload_n 0, 1) := by decide +kernel
theorem dX5_init_5 : decode cX5_init 5 = .ok (.new 9, 3) := by decide +kernel
theorem dX5_init_8 : decode cX5_init 8 = .ok (.dup, 1) := by decide +kernel
theorem dX5_init_9 : decode cX5_init 9 = .ok (.invokespecial 11, 3) := by decide +kernel
theorem dX5_init_12 : decode cX5_init 12 = .ok (.putfield 12, 3) := by decide +kernel
theorem dX5_init_15 : decode cX5_init 15 = .ok (.aload_n 0, 1) := by decide +kernel
theorem dX5_init_16 : decode cX5_init 16 = .ok (.new 9, 3) := by decide +kernel
theorem dX5_init_19 : decode cX5_init 19 = .ok (.dup, 1) := by decide +kernel
theorem dX5_init_20 : decode cX5_init 20 = .ok (.invokespecial 11, 3) := by decide +kernel
theorem dX5_init_23 : decode cX5_init 23 = .ok (.putfield 18, 3) := by decide +kernel
theorem dX5_init_26 : decode cX5_init 26 = .ok (.aload_n 0, 1) := by decide +kernel
theorem dX5_init_27 : decode cX5_init 27 = .ok (.bipush 40, 2) := by decide +kernel
theorem dX5_init_29 : decode cX5_init 29 = .ok (.newarray .int, 2) := by decide +kernel
theorem dX5_init_31 : decode cX5_init 31 = .ok (.putfield 21, 3) := by decide +kernel
theorem dX5_init_34 : decode cX5_init 34 = .ok (.aload_n 0, 1) := by decide +kernel
theorem dX5_init_35 : decode cX5_init 35 = .ok (.bipush 40, 2) := by decide +kernel
theorem dX5_init_37 : decode cX5_init 37 = .ok (.newarray .int, 2) := by decide +kernel
theorem dX5_init_39 : decode cX5_init 39 = .ok (.putfield 25, 3) := by decide +kernel
theorem dX5_init_42 : decode cX5_init 42 = .ok (.aload_n 0, 1) := by decide +kernel
theorem dX5_init_43 : decode cX5_init 43 = .ok (.iconst 0, 1) := by decide +kernel
theorem dX5_init_44 : decode cX5_init 44 = .ok (.putfield 28, 3) := by decide +kernel
theorem dX5_init_47 : decode cX5_init 47 = .ok (.aload_n 0, 1) := by decide +kernel
theorem dX5_init_48 : decode cX5_init 48 = .ok (.iconst 0, 1) := by decide +kernel
theorem dX5_init_49 : decode cX5_init 49 = .ok (.putfield 32, 3) := by decide +kernel
theorem dX5_init_52 : decode cX5_init 52 = .ok (.return_, 1) := by decide +kernel
set_option maxRecDepth 20000 in
theorem ggX5_run_X0_copyFrom : GoodIn wsX5_run wsX0_copyFrom := goodIn_r _ [14, 15, 16, 17, 18, 19, 20, 65, 66] (by decide +kernel) (by decide +kernel)
set_option maxRecDepth 20000 in
theorem gX5_run_X0_copyFrom : GoodIn wsX5_run (wsV RX5 35 RX0 yX0_copyFrom wsX0_copyFrom) := goodIn_app (goodIn_of _ (by decide +kernel)) ggX5_run_X0_copyFrom
set_option maxRecDepth 20000 in
theorem ggX5_run_X5_listOpen : GoodIn wsX5_run wsX5_listOpen := goodIn_r _ [25, 3, 4, 1, 5, 26, 27, 28, 13, 29, 15, 59, 60, 61, 62, 63, 64, 65, 66] (by decide +kernel) (by decide +kernel)
set_option maxRecDepth 20000 in
theorem gX5_run_X5_listOpen : GoodIn wsX5_run (wsV RX5 39 RX5 yX5_listOpen wsX5_listOpen) := goodIn_app (goodIn_of _ (by decide +kernel)) ggX5_run_X5_listOpen
set_option maxRecDepth 20000 in
theorem ggX5_run_X5_nextColour : GoodIn wsX5_run wsX5_nextColour := goodIn_r _ [33, 1, 34, 35, 36, 13, 37, 15, 59, 60, 61, 62, 63, 64, 65, 66] (by decide +kernel) (by decide +kernel)
set_option maxRecDepth 20000 in
theorem gX5_run_X5_nextColour : GoodIn wsX5_run (wsV RX5 43 RX5 yX5_nextColour wsX5_nextColour) := goodIn_app (goodIn_of _ (by decide +kernel)) ggX5_run_X5_nextColour
set_option maxRecDepth 20000 in
theorem ggX5_run_X5_uncolour : GoodIn wsX5_run wsX5_uncolour := goodIn_r _ [41, 4, 1, 42, 43, 44, 13, 45, 15, 46, 59, 60, 61, 62, 63, 64, 65, 66] (by decide +kernel) (by decide +kernel)
set_option maxRecDepth 20000 in
theorem gX5_run_X5_uncolour : GoodIn wsX5_run (wsV RX5 47 RX5 yX5_uncolour wsX5_uncolour) := goodIn_app (goodIn_of _ (by decide +kernel)) ggX5_run_X5_uncolour
set_option maxRecDepth 20000 in
theorem ggX5_run_X0_numbersWith : GoodIn wsX5_run wsX0_numbersWith := goodIn_r _ [37, 15, 65, 66] (by decide +kernel) (by decide +kernel)
set_option maxRecDepth 20000 in
theorem gX5_run_X0_numbersWith : GoodIn wsX5_run (wsV RX5 50 RX0 yX0_numbersWith wsX0_numbersWith) := goodIn_app (goodIn_of _ (by decide +kernel)) ggX5_run_X0_numbersWith
set_option maxRecDepth 20000 in
theorem ggX5_run_X8_allows : GoodIn wsX5_run wsX8_allows := goodIn_r _ [51, 52, 53, 54, 55, 8, 56, 57, 7, 9, 58, 67, 68, 69, 70, 71, 72, 73, 74] (by decide +kernel) (by decide +kernel)
set_option maxRecDepth 20000 in
theorem gX5_run_X8_allows : GoodIn wsX5_run (wsV RX5 54 RX8 yX8_allows wsX8_allows) := goodIn_app (goodIn_of _ (by decide +kernel)) ggX5_run_X8_allows
set_option maxRecDepth 20000 in
theorem ggX5_run_X0_paint : GoodIn wsX5_run wsX0_paint := goodIn_r _ [45, 15, 46, 65, 66] (by decide +kernel) (by decide +kernel)
set_option maxRecDepth 20000 in
theorem gX5_run_X0_paint : GoodIn wsX5_run (wsV RX5 60 RX0 yX0_paint wsX0_paint) := goodIn_app (goodIn_of _ (by decide +kernel)) ggX5_run_X0_paint
theorem dX5_run_0 : decode cX5_run 0 = .ok (.aload_n 0, 1) := by decide +kernel
theorem dX5_run_1 : decode cX5_run 1 = .ok (.getfield 12, 3) := by decide +kernel
theorem dX5_run_4 : decode cX5_run 4 = .ok (.aload_n 2, 1) := by decide +kernel
theorem dX5_run_5 : decode cX5_run 5 = .ok (.invokevirtual 35, 3) := by decide +kernel
theorem dX5_run_8 : decode cX5_run 8 = .ok (.aload_n 0, 1) := by decide +kernel
theorem dX5_run_9 : decode cX5_run 9 = .ok (.iload_n 3, 1) := by decide +kernel
theorem dX5_run_10 : decode cX5_run 10 = .ok (.invokevirtual 39, 3) := by decide +kernel
theorem dX5_run_13 : decode cX5_run 13 = .ok (.aload_n 0, 1) := by decide +kernel
theorem dX5_run_14 : decode cX5_run 14 = .ok (.iconst 0, 1) := by decide +kernel
theorem dX5_run_15 : decode cX5_run 15 = .ok (.putfield 32, 3) := by decide +kernel
theorem dX5_run_18 : decode cX5_run 18 = .ok (.iconst 0, 1) := by decide +kernel
theorem dX5_run_19 : decode cX5_run 19 = .ok (.istore 6, 2) := by decide +kernel
theorem dX5_run_21 : decode cX5_run 21 = .ok (.iconst 0, 1) := by decide +kernel
theorem dX5_run_22 : decode cX5_run 22 = .ok (.istore 7, 2) := by decide +kernel
theorem dX5_run_24 : decode cX5_run 24 = .ok (.iconst 0, 1) := by decide +kernel
theorem dX5_run_25 : decode cX5_run 25 = .ok (.istore 8, 2) := by decide +kernel
theorem dX5_run_27 : decode cX5_run 27 = .ok (.iload 8, 2) := by decide +kernel
theorem dX5_run_29 : decode cX5_run 29 = .ok (.sipush 6003, 3) := by decide +kernel
theorem dX5_run_32 : decode cX5_run 32 = .ok (.if_icmp .ge 156, 3) := by decide +kernel
theorem dX5_run_35 : decode cX5_run 35 = .ok (.iload 6, 2) := by decide +kernel
theorem dX5_run_37 : decode cX5_run 37 = .ok (.ifCond .ge 5, 3) := by decide +kernel
theorem dX5_run_40 : decode cX5_run 40 = .ok (.iconst (-1), 1) := by decide +kernel
theorem dX5_run_41 : decode cX5_run 41 = .ok (.ireturn, 1) := by decide +kernel
theorem dX5_run_42 : decode cX5_run 42 = .ok (.iload 6, 2) := by decide +kernel
theorem dX5_run_44 : decode cX5_run 44 = .ok (.aload_n 0, 1) := by decide +kernel
theorem dX5_run_45 : decode cX5_run 45 = .ok (.getfield 28, 3) := by decide +kernel
theorem dX5_run_48 : decode cX5_run 48 = .ok (.if_icmp .ge 13, 3) := by decide +kernel
theorem dX5_run_51 : decode cX5_run 51 = .ok (.iload 6, 2) := by decide +kernel
theorem dX5_run_53 : decode cX5_run 53 = .ok (.aload_n 0, 1) := by decide +kernel
theorem dX5_run_54 : decode cX5_run 54 = .ok (.getfield 21, 3) := by decide +kernel
theorem dX5_run_57 : decode cX5_run 57 = .ok (.arraylength, 1) := by decide +kernel
theorem dX5_run_58 : decode cX5_run 58 = .ok (.if_icmp .lt 6, 3) := by decide +kernel
theorem dX5_run_61 : decode cX5_run 61 = .ok (.iload 7, 2) := by decide +kernel
theorem dX5_run_63 : decode cX5_run 63 = .ok (.ireturn, 1) := by decide +kernel
theorem dX5_run_64 : decode cX5_run 64 = .ok (.aload_n 0, 1) := by decide +kernel
theorem dX5_run_65 : decode cX5_run 65 = .ok (.aload_n 0, 1) := by decide +kernel
theorem dX5_run_66 : decode cX5_run 66 = .ok (.getfield 25, 3) := by decide +kernel
theorem dX5_run_69 : decode cX5_run 69 = .ok (.iload 6, 2) := by decide +kernel
theorem dX5_run_71 : decode cX5_run 71 = .ok (.iaload, 1) := by decide +kernel
theorem dX5_run_72 : decode cX5_run 72 = .ok (.iload 4, 2) := by decide +kernel
theorem dX5_run_74 : decode cX5_run 74 = .ok (.invokevirtual 43, 3) := by decide +kernel
theorem dX5_run_77 : decode cX5_run 77 = .ok (.istore 9, 2) := by decide +kernel
theorem dX5_run_79 : decode cX5_run 79 = .ok (.iload 9, 2) := by decide +kernel
theorem dX5_run_81 : decode cX5_run 81 = .ok (.iconst (-1), 1) := by decide +kernel
theorem dX5_run_82 : decode cX5_run 82 = .ok (.if_icmp .ne 23, 3) := by decide +kernel
theorem dX5_run_85 : decode cX5_run 85 = .ok (.aload_n 0, 1) := by decide +kernel
theorem dX5_run_86 : decode cX5_run 86 = .ok (.getfield 25, 3) := by decide +kernel
theorem dX5_run_89 : decode cX5_run 89 = .ok (.iload 6, 2) := by decide +kernel
theorem dX5_run_91 : decode cX5_run 91 = .ok (.iconst (-1), 1) := by decide +kernel
theorem dX5_run_92 : decode cX5_run 92 = .ok (.iastore, 1) := by decide +kernel
theorem dX5_run_93 : decode cX5_run 93 = .ok (.iinc 6 (-1), 3) := by decide +kernel
theorem dX5_run_96 : decode cX5_run 96 = .ok (.aload_n 0, 1) := by decide +kernel
theorem dX5_run_97 : decode cX5_run 97 = .ok (.iload 6, 2) := by decide +kernel
theorem dX5_run_99 : decode cX5_run 99 = .ok (.invokevirtual 47, 3) := by decide +kernel
theorem dX5_run_102 : decode cX5_run 102 = .ok (.goto 80, 3) := by decide +kernel
theorem dX5_run_105 : decode cX5_run 105 = .ok (.iload 7, 2) := by decide +kernel
theorem dX5_run_107 : decode cX5_run 107 = .ok (.iload 5, 2) := by decide +kernel
theorem dX5_run_109 : decode cX5_run 109 = .ok (.if_icmp .lt 6, 3) := by decide +kernel
theorem dX5_run_112 : decode cX5_run 112 = .ok (.bipush (-2), 2) := by decide +kernel
theorem dX5_run_114 : decode cX5_run 114 = .ok (.ireturn, 1) := by decide +kernel
theorem dX5_run_115 : decode cX5_run 115 = .ok (.iinc 7 1, 3) := by decide +kernel
theorem dX5_run_118 : decode cX5_run 118 = .ok (.aload_n 0, 1) := by decide +kernel
theorem dX5_run_119 : decode cX5_run 119 = .ok (.getfield 25, 3) := by decide +kernel
theorem dX5_run_122 : decode cX5_run 122 = .ok (.iload 6, 2) := by decide +kernel
theorem dX5_run_124 : decode cX5_run 124 = .ok (.iload 9, 2) := by decide +kernel
theorem dX5_run_126 : decode cX5_run 126 = .ok (.iastore, 1) := by decide +kernel
theorem dX5_run_127 : decode cX5_run 127 = .ok (.aload_n 1, 1) := by decide +kernel
theorem dX5_run_128 : decode cX5_run 128 = .ok (.aload_n 0, 1) := by decide +kernel
theorem dX5_run_129 : decode cX5_run 129 = .ok (.getfield 21, 3) := by decide +kernel
theorem dX5_run_132 : decode cX5_run 132 = .ok (.iload 6, 2) := by decide +kernel
theorem dX5_run_134 : decode cX5_run 134 = .ok (.iaload, 1) := by decide +kernel
theorem dX5_run_135 : decode cX5_run 135 = .ok (.aload_n 0, 1) := by decide +kernel
theorem dX5_run_136 : decode cX5_run 136 = .ok (.getfield 12, 3) := by decide +kernel
theorem dX5_run_139 : decode cX5_run 139 = .ok (.iload 9, 2) := by decide +kernel
theorem dX5_run_141 : decode cX5_run 141 = .ok (.invokevirtual 50, 3) := by decide +kernel
theorem dX5_run_144 : decode cX5_run 144 = .ok (.invokevirtual 54, 3) := by decide +kernel
theorem dX5_run_147 : decode cX5_run 147 = .ok (.ifCond .eq 35, 3) := by decide +kernel
theorem dX5_run_150 : decode cX5_run 150 = .ok (.aload_n 0, 1) := by decide +kernel
theorem dX5_run_151 : decode cX5_run 151 = .ok (.getfield 12, 3) := by decide +kernel
theorem dX5_run_154 : decode cX5_run 154 = .ok (.aload_n 0, 1) := by decide +kernel
theorem dX5_run_155 : decode cX5_run 155 = .ok (.getfield 21, 3) := by decide +kernel
theorem dX5_run_158 : decode cX5_run 158 = .ok (.iload 6, 2) := by decide +kernel
theorem dX5_run_160 : decode cX5_run 160 = .ok (.iaload, 1) := by decide +kernel
theorem dX5_run_161 : decode cX5_run 161 = .ok (.iload 9, 2) := by decide +kernel
theorem dX5_run_163 : decode cX5_run 163 = .ok (.invokevirtual 60, 3) := by decide +kernel
theorem dX5_run_166 : decode cX5_run 166 = .ok (.iinc 6 1, 3) := by decide +kernel
theorem dX5_run_169 : decode cX5_run 169 = .ok (.aload_n 0, 1) := by decide +kernel
theorem dX5_run_170 : decode cX5_run 170 = .ok (.aload_n 0, 1) := by decide +kernel
theorem dX5_run_171 : decode cX5_run 171 = .ok (.getfield 32, 3) := by decide +kernel
theorem dX5_run_174 : decode cX5_run 174 = .ok (.iload 6, 2) := by decide +kernel
theorem dX5_run_176 : decode cX5_run 176 = .ok (.invokestatic 64, 3) := by decide +kernel
theorem dX5_run_179 : decode cX5_run 179 = .ok (.putfield 32, 3) := by decide +kernel
theorem dX5_run_182 : decode cX5_run 182 = .ok (.iinc 8 1, 3) := by decide +kernel
theorem dX5_run_185 : decode cX5_run 185 = .ok (.goto (-158), 3) := by decide +kernel
theorem dX5_run_188 : decode cX5_run 188 = .ok (.bipush (-2), 2) := by decide +kernel
theorem dX5_run_190 : decode cX5_run 190 = .ok (.ireturn, 1) := by decide +kernel
set_option maxRecDepth 20000 in
theorem ggX5_reach_X5_run : GoodIn wsX5_reach wsX5_run := goodIn_r _ [7, 8, 2, 9, 10, 11, 12, 13, 14, 15, 16, 17, 18, 19, 20, 21, 22, 23, 24, 25, 26, 27, 28, 29, 6, 30, 31, 32, 33, 34, 35, 36, 37, 38, 39, 40, 41, 42, 43, 44, 45, 46, 47, 48, 49, 50, 51, 52, 53, 54, 55, 56, 57, 58, 59, 60, 61, 62, 63, 64, 65, 66, 67, 68, 69, 70, 71, 72, 73, 74, 75, 76, 77, 78, 79] (by decide +kernel) (by decide +kernel)
set_option maxRecDepth 20000 in
theorem gX5_reach_X5_run : GoodIn wsX5_reach (wsV RX5 69 RX5 yX5_run wsX5_run) := goodIn_app (goodIn_of _ (by decide +kernel)) ggX5_reach_X5_run
theorem dX5_reach_0 : decode cX5_reach 0 = .ok (.aload_n 0, 1) := by decide +kernel
theorem dX5_reach_1 : decode cX5_reach 1 = .ok (.aload_n 1, 1) := by decide +kernel
theorem dX5_reach_2 : decode cX5_reach 2 = .ok (.aload_n 0, 1) := by decide +kernel
theorem dX5_reach_3 : decode cX5_reach 3 = .ok (.getfield 18, 3) := by decide +kernel
theorem dX5_reach_6 : decode cX5_reach 6 = .ok (.iload_n 2, 1) := by decide +kernel
theorem dX5_reach_7 : decode cX5_reach 7 = .ok (.iload_n 3, 1) := by decide +kernel
theorem dX5_reach_8 : decode cX5_reach 8 = .ok (.iload 4, 2) := by decide +kernel
theorem dX5_reach_10 : decode cX5_reach 10 = .ok (.invokevirtual 69, 3) := by decide +kernel
theorem dX5_reach_13 : decode cX5_reach 13 = .ok (.pop, 1) := by decide +kernel
theorem dX5_reach_14 : decode cX5_reach 14 = .ok (.aload_n 0, 1) := by decide +kernel
theorem dX5_reach_15 : decode cX5_reach 15 = .ok (.getfield 32, 3) := by decide +kernel
theorem dX5_reach_18 : decode cX5_reach 18 = .ok (.ireturn, 1) := by decide +kernel
set_option maxRecDepth 20000 in
theorem ggX5_listOpen_X0_colourOf : GoodIn wsX5_listOpen wsX0_colourOf := goodIn_r _ [9, 10, 17, 18] (by decide +kernel) (by decide +kernel)
set_option maxRecDepth 20000 in
theorem gX5_listOpen_X0_colourOf : GoodIn wsX5_listOpen (wsV RX5 73 RX0 yX0_colourOf wsX0_colourOf) := goodIn_app (goodIn_of _ (by decide +kernel)) ggX5_listOpen_X0_colourOf
theorem dX5_listOpen_0 : decode cX5_listOpen 0 = .ok (.aload_n 0, 1) := by decide +kernel
theorem dX5_listOpen_1 : decode cX5_listOpen 1 = .ok (.iconst 0, 1) := by decide +kernel
theorem dX5_listOpen_2 : decode cX5_listOpen 2 = .ok (.putfield 28, 3) := by decide +kernel
theorem dX5_listOpen_5 : decode cX5_listOpen 5 = .ok (.iconst 1, 1) := by decide +kernel
theorem dX5_listOpen_6 : decode cX5_listOpen 6 = .ok (.istore_n 2, 1) := by decide +kernel
theorem dX5_listOpen_7 : decode cX5_listOpen 7 = .ok (.iload_n 2, 1) := by decide +kernel
theorem dX5_listOpen_8 : decode cX5_listOpen 8 = .ok (.iload_n 1, 1) := by decide +kernel
theorem dX5_listOpen_9 : decode cX5_listOpen 9 = .ok (.if_icmp .gt 63, 3) := by decide +kernel
theorem dX5_listOpen_12 : decode cX5_listOpen 12 = .ok (.aload_n 0, 1) := by decide +kernel
theorem dX5_listOpen_13 : decode cX5_listOpen 13 = .ok (.getfield 28, 3) := by decide +kernel
theorem dX5_listOpen_16 : decode cX5_listOpen 16 = .ok (.aload_n 0, 1) := by decide +kernel
theorem dX5_listOpen_17 : decode cX5_listOpen 17 = .ok (.getfield 21, 3) := by decide +kernel
theorem dX5_listOpen_20 : decode cX5_listOpen 20 = .ok (.arraylength, 1) := by decide +kernel
theorem dX5_listOpen_21 : decode cX5_listOpen 21 = .ok (.if_icmp .ge 51, 3) := by decide +kernel
theorem dX5_listOpen_24 : decode cX5_listOpen 24 = .ok (.aload_n 0, 1) := by decide +kernel
theorem dX5_listOpen_25 : decode cX5_listOpen 25 = .ok (.getfield 12, 3) := by decide +kernel
theorem dX5_listOpen_28 : decode cX5_listOpen 28 = .ok (.iload_n 2, 1) := by decide +kernel
theorem dX5_listOpen_29 : decode cX5_listOpen 29 = .ok (.invokevirtual 73, 3) := by decide +kernel
theorem dX5_listOpen_32 : decode cX5_listOpen 32 = .ok (.iconst (-1), 1) := by decide +kernel
theorem dX5_listOpen_33 : decode cX5_listOpen 33 = .ok (.if_icmp .ne 33, 3) := by decide +kernel
theorem dX5_listOpen_36 : decode cX5_listOpen 36 = .ok (.aload_n 0, 1) := by decide +kernel
theorem dX5_listOpen_37 : decode cX5_listOpen 37 = .ok (.getfield 21, 3) := by decide +kernel
theorem dX5_listOpen_40 : decode cX5_listOpen 40 = .ok (.aload_n 0, 1) := by decide +kernel
theorem dX5_listOpen_41 : decode cX5_listOpen 41 = .ok (.getfield 28, 3) := by decide +kernel
theorem dX5_listOpen_44 : decode cX5_listOpen 44 = .ok (.iload_n 2, 1) := by decide +kernel
theorem dX5_listOpen_45 : decode cX5_listOpen 45 = .ok (.iastore, 1) := by decide +kernel
theorem dX5_listOpen_46 : decode cX5_listOpen 46 = .ok (.aload_n 0, 1) := by decide +kernel
theorem dX5_listOpen_47 : decode cX5_listOpen 47 = .ok (.getfield 25, 3) := by decide +kernel
theorem dX5_listOpen_50 : decode cX5_listOpen 50 = .ok (.aload_n 0, 1) := by decide +kernel
theorem dX5_listOpen_51 : decode cX5_listOpen 51 = .ok (.getfield 28, 3) := by decide +kernel
theorem dX5_listOpen_54 : decode cX5_listOpen 54 = .ok (.iconst (-1), 1) := by decide +kernel
theorem dX5_listOpen_55 : decode cX5_listOpen 55 = .ok (.iastore, 1) := by decide +kernel
theorem dX5_listOpen_56 : decode cX5_listOpen 56 = .ok (.aload_n 0, 1) := by decide +kernel
theorem dX5_listOpen_57 : decode cX5_listOpen 57 = .ok (.dup, 1) := by decide +kernel
theorem dX5_listOpen_58 : decode cX5_listOpen 58 = .ok (.getfield 28, 3) := by decide +kernel
theorem dX5_listOpen_61 : decode cX5_listOpen 61 = .ok (.iconst 1, 1) := by decide +kernel
theorem dX5_listOpen_62 : decode cX5_listOpen 62 = .ok (.iadd, 1) := by decide +kernel
theorem dX5_listOpen_63 : decode cX5_listOpen 63 = .ok (.putfield 28, 3) := by decide +kernel
theorem dX5_listOpen_66 : decode cX5_listOpen 66 = .ok (.iinc 2 1, 3) := by decide +kernel
theorem dX5_listOpen_69 : decode cX5_listOpen 69 = .ok (.goto (-62), 3) := by decide +kernel
theorem dX5_listOpen_72 : decode cX5_listOpen 72 = .ok (.return_, 1) := by decide +kernel
set_option maxRecDepth 20000 in
theorem ggX5_uncolour_X0_paint : GoodIn wsX5_uncolour wsX0_paint := goodIn_r _ [7, 8, 9, 16, 17] (by decide +kernel) (by decide +kernel)
set_option maxRecDepth 20000 in
theorem gX5_uncolour_X0_paint : GoodIn wsX5_uncolour (wsV RX5 60 RX0 yX0_paint wsX0_paint) := goodIn_app (goodIn_of _ (by decide +kernel)) ggX5_uncolour_X0_paint
theorem dX5_uncolour_0 : decode cX5_uncolour 0 = .ok (.iload_n 1, 1) := by decide +kernel
theorem dX5_uncolour_1 : decode cX5_uncolour 1 = .ok (.ifCond .lt 26, 3) := by decide +kernel
theorem dX5_uncolour_4 : decode cX5_uncolour 4 = .ok (.iload_n 1, 1) := by decide +kernel
theorem dX5_uncolour_5 : decode cX5_uncolour 5 = .ok (.aload_n 0, 1) := by decide +kernel
theorem dX5_uncolour_6 : decode cX5_uncolour 6 = .ok (.getfield 21, 3) := by decide +kernel
theorem dX5_uncolour_9 : decode cX5_uncolour 9 = .ok (.arraylength, 1) := by decide +kernel
theorem dX5_uncolour_10 : decode cX5_uncolour 10 = .ok (.if_icmp .ge 17, 3) := by decide +kernel
theorem dX5_uncolour_13 : decode cX5_uncolour 13 = .ok (.aload_n 0, 1) := by decide +kernel
theorem dX5_uncolour_14 : decode cX5_uncolour 14 = .ok (.getfield 12, 3) := by decide +kernel
theorem dX5_uncolour_17 : decode cX5_uncolour 17 = .ok (.aload_n 0, 1) := by decide +kernel
theorem dX5_uncolour_18 : decode cX5_uncolour 18 = .ok (.getfield 21, 3) := by decide +kernel
theorem dX5_uncolour_21 : decode cX5_uncolour 21 = .ok (.iload_n 1, 1) := by decide +kernel
theorem dX5_uncolour_22 : decode cX5_uncolour 22 = .ok (.iaload, 1) := by decide +kernel
theorem dX5_uncolour_23 : decode cX5_uncolour 23 = .ok (.iconst (-1), 1) := by decide +kernel
theorem dX5_uncolour_24 : decode cX5_uncolour 24 = .ok (.invokevirtual 60, 3) := by decide +kernel
theorem dX5_uncolour_27 : decode cX5_uncolour 27 = .ok (.return_, 1) := by decide +kernel
set_option maxRecDepth 20000 in
theorem ggX5_nextColour_X0_numbersWith : GoodIn wsX5_nextColour wsX0_numbersWith := goodIn_r _ [6, 7, 14, 15] (by decide +kernel) (by decide +kernel)
set_option maxRecDepth 20000 in
theorem gX5_nextColour_X0_numbersWith : GoodIn wsX5_nextColour (wsV RX5 50 RX0 yX0_numbersWith wsX0_numbersWith) := goodIn_app (goodIn_of _ (by decide +kernel)) ggX5_nextColour_X0_numbersWith
theorem dX5_nextColour_0 : decode cX5_nextColour 0 = .ok (.iconst 0, 1) := by decide +kernel
theorem dX5_nextColour_1 : decode cX5_nextColour 1 = .ok (.istore_n 3, 1) := by decide +kernel
theorem dX5_nextColour_2 : decode cX5_nextColour 2 = .ok (.iconst 0, 1) := by decide +kernel
theorem dX5_nextColour_3 : decode cX5_nextColour 3 = .ok (.istore 4, 2) := by decide +kernel
theorem dX5_nextColour_5 : decode cX5_nextColour 5 = .ok (.iload 4, 2) := by decide +kernel
theorem dX5_nextColour_7 : decode cX5_nextColour 7 = .ok (.iload_n 2, 1) := by decide +kernel
theorem dX5_nextColour_8 : decode cX5_nextColour 8 = .ok (.if_icmp .ge 63, 3) := by decide +kernel
theorem dX5_nextColour_11 : decode cX5_nextColour 11 = .ok (.aload_n 0, 1) := by decide +kernel
theorem dX5_nextColour_12 : decode cX5_nextColour 12 = .ok (.getfield 12, 3) := by decide +kernel
theorem dX5_nextColour_15 : decode cX5_nextColour 15 = .ok (.iload 4, 2) := by decide +kernel
theorem dX5_nextColour_17 : decode cX5_nextColour 17 = .ok (.invokevirtual 50, 3) := by decide +kernel
theorem dX5_nextColour_20 : decode cX5_nextColour 20 = .ok (.lconst 0, 1) := by decide +kernel
theorem dX5_nextColour_21 : decode cX5_nextColour 21 = .ok (.lcmp, 1) := by decide +kernel
theorem dX5_nextColour_22 : decode cX5_nextColour 22 = .ok (.ifCond .ne 7, 3) := by decide +kernel
theorem dX5_nextColour_25 : decode cX5_nextColour 25 = .ok (.iconst 1, 1) := by decide +kernel
theorem dX5_nextColour_26 : decode cX5_nextColour 26 = .ok (.goto 4, 3) := by decide +kernel
theorem dX5_nextColour_29 : decode cX5_nextColour 29 = .ok (.iconst 0, 1) := by decide +kernel
theorem dX5_nextColour_30 : decode cX5_nextColour 30 = .ok (.istore 5, 2) := by decide +kernel
theorem dX5_nextColour_32 : decode cX5_nextColour 32 = .ok (.iload 4, 2) := by decide +kernel
theorem dX5_nextColour_34 : decode cX5_nextColour 34 = .ok (.iload_n 1, 1) := by decide +kernel
theorem dX5_nextColour_35 : decode cX5_nextColour 35 = .ok (.if_icmp .le 15, 3) := by decide +kernel
theorem dX5_nextColour_38 : decode cX5_nextColour 38 = .ok (.iload 5, 2) := by decide +kernel
theorem dX5_nextColour_40 : decode cX5_nextColour 40 = .ok (.ifCond .eq 7, 3) := by decide +kernel
theorem dX5_nextColour_43 : decode cX5_nextColour 43 = .ok (.iload_n 3, 1) := by decide +kernel
theorem dX5_nextColour_44 : decode cX5_nextColour 44 = .ok (.ifCond .ne 6, 3) := by decide +kernel
theorem dX5_nextColour_47 : decode cX5_nextColour 47 = .ok (.iload 4, 2) := by decide +kernel
theorem dX5_nextColour_49 : decode cX5_nextColour 49 = .ok (.ireturn, 1) := by decide +kernel
theorem dX5_nextColour_50 : decode cX5_nextColour 50 = .ok (.iload_n 3, 1) := by decide +kernel
theorem dX5_nextColour_51 : decode cX5_nextColour 51 = .ok (.ifCond .ne 8, 3) := by decide +kernel
theorem dX5_nextColour_54 : decode cX5_nextColour 54 = .ok (.iload 5, 2) := by decide +kernel
theorem dX5_nextColour_56 : decode cX5_nextColour 56 = .ok (.ifCond .eq 7, 3) := by decide +kernel
theorem dX5_nextColour_59 : decode cX5_nextColour 59 = .ok (.iconst 1, 1) := by decide +kernel
theorem dX5_nextColour_60 : decode cX5_nextColour 60 = .ok (.goto 4, 3) := by decide +kernel
theorem dX5_nextColour_63 : decode cX5_nextColour 63 = .ok (.iconst 0, 1) := by decide +kernel
theorem dX5_nextColour_64 : decode cX5_nextColour 64 = .ok (.istore_n 3, 1) := by decide +kernel
theorem dX5_nextColour_65 : decode cX5_nextColour 65 = .ok (.iinc 4 1, 3) := by decide +kernel
theorem dX5_nextColour_68 : decode cX5_nextColour 68 = .ok (.goto (-63), 3) := by decide +kernel
theorem dX5_nextColour_71 : decode cX5_nextColour 71 = .ok (.iconst (-1), 1) := by decide +kernel
theorem dX5_nextColour_72 : decode cX5_nextColour 72 = .ok (.ireturn, 1) := by decide +kernel
theorem dX6_init_0 : decode cX6_init 0 = .ok (.aload_n 0, 1) := by decide +kernel
theorem dX6_init_1 : decode cX6_init 1 = .ok (.invokespecial 1, 3) := by decide +kernel
theorem dX6_init_4 : decode cX6_init 4 = .ok (.aload_n 0, 1) := by decide +kernel
theorem dX6_init_5 : decode cX6_init 5 = .ok (.iload_n 1, 1) := by decide +kernel
theorem dX6_init_6 : decode cX6_init 6 = .ok (.putfield 7, 3) := by decide +kernel
theorem dX6_init_9 : decode cX6_init 9 = .ok (.aload_n 0, 1) := by decide +kernel
theorem dX6_init_10 : decode cX6_init 10 = .ok (.iload_n 2, 1) := by decide +kernel
theorem dX6_init_11 : decode cX6_init 11 = .ok (.putfield 13, 3) := by decide +kernel
theorem dX6_init_14 : decode cX6_init 14 = .ok (.aload_n 0, 1) := by decide +kernel
theorem dX6_init_15 : decode cX6_init 15 = .ok (.aload_n 3, 1) := by decide +kernel
theorem dX6_init_16 : decode cX6_init 16 = .ok (.putfield 16, 3) := by decide +kernel
theorem dX6_init_19 : decode cX6_init 19 = .ok (.aload_n 0, 1) := by decide +kernel
theorem dX6_init_20 : decode cX6_init 20 = .ok (.aload 4, 2) := by decide +kernel
theorem dX6_init_22 : decode cX6_init 22 = .ok (.putfield 20, 3) := by decide +kernel
theorem dX6_init_25 : decode cX6_init 25 = .ok (.return_, 1) := by decide +kernel
set_option maxRecDepth 20000 in
theorem ggX7_init_X0_init : GoodIn wsX7_init wsX0_init := goodIn_r _ [23, 24, 2, 3, 25, 26, 27, 48, 49] (by decide +kernel) (by decide +kernel)
set_option maxRecDepth 20000 in
theorem gX7_init_X0_init_n20 : GoodIn wsX7_init (wsX0_init) := ggX7_init_X0_init
set_option maxRecDepth 20000 in
theorem ggX7_init_X9_init : GoodIn wsX7_init wsX9_init := goodIn_r _ [29, 30, 2, 3, 31, 32, 33, 34, 35, 36, 37, 50, 51, 52, 53, 54, 55] (by decide +kernel) (by decide +kernel)
set_option maxRecDepth 20000 in
theorem gX7_init_X9_init_n27 : GoodIn wsX7_init (wsX9_init) := ggX7_init_X9_init
theorem dX7_init_0 : decode cX7_init 0 = .ok (.aload_n 0, 1) := by decide +kernel
theorem dX7_init_1 : decode cX7_init 1 = .ok (.invokespecial 3, 3) := by decide +kernel
theorem dX7_init_4 : decode cX7_init 4 = .ok (.aload_n 0, 1) := by decide +kernel
theorem dX7_init_5 : decode cX7_init 5 = .ok (.iconst 0, 1) := by decide +kernel
theorem dX7_init_6 : decode cX7_init 6 = .ok (.putfield 9, 3) := by decide +kernel
theorem dX7_init_9 : decode cX7_init 9 = .ok (.aload_n 0, 1) := by decide +kernel
theorem dX7_init_10 : decode cX7_init 10 = .ok (.iconst (-1), 1) := by decide +kernel
theorem dX7_init_11 : decode cX7_init 11 = .ok (.putfield 15, 3) := by decide +kernel
theorem dX7_init_14 : decode cX7_init 14 = .ok (.aload_n 0, 1) := by decide +kernel
theorem dX7_init_15 : decode cX7_init 15 = .ok (.new 18, 3) := by decide +kernel
theorem dX7_init_18 : decode cX7_init 18 = .ok (.dup, 1) := by decide +kernel
theorem dX7_init_19 : decode cX7_init 19 = .ok (.invokespecial 20, 3) := by decide +kernel
theorem dX7_init_22 : decode cX7_init 22 = .ok (.putfield 21, 3) := by decide +kernel
theorem dX7_init_25 : decode cX7_init 25 = .ok (.aload_n 0, 1) := by decide +kernel
theorem dX7_init_26 : decode cX7_init 26 = .ok (.new 25, 3) := by decide +kernel
theorem dX7_init_29 : decode cX7_init 29 = .ok (.dup, 1) := by decide +kernel
theorem dX7_init_30 : decode cX7_init 30 = .ok (.invokespecial 27, 3) := by decide +kernel
theorem dX7_init_33 : decode cX7_init 33 = .ok (.putfield 28, 3) := by decide +kernel
theorem dX7_init_36 : decode cX7_init 36 = .ok (.aload_n 0, 1) := by decide +kernel
theorem dX7_init_37 : decode cX7_init 37 = .ok (.iconst 0, 1) := by decide +kernel
theorem dX7_init_38 : decode cX7_init 38 = .ok (.putfield 32, 3) := by decide +kernel
theorem dX7_init_41 : decode cX7_init 41 = .ok (.aload_n 0, 1) := by decide +kernel
theorem dX7_init_42 : decode cX7_init 42 = .ok (.iconst 0, 1) := by decide +kernel
theorem dX7_init_43 : decode cX7_init 43 = .ok (.putfield 35, 3) := by decide +kernel
theorem dX7_init_46 : decode cX7_init 46 = .ok (.aload_n 0, 1) := by decide +kernel
theorem dX7_init_47 : decode cX7_init 47 = .ok (.iconst 4, 1) := by decide +kernel
theorem dX7_init_48 : decode cX7_init 48 = .ok (.anewarray 38, 3) := by decide +kernel
theorem dX7_init_51 : decode cX7_init 51 = .ok (.putfield 40, 3) := by decide +kernel
theorem dX7_init_54 : decode cX7_init 54 = .ok (.aload_n 0, 1) := by decide +kernel
theorem dX7_init_55 : decode cX7_init 55 = .ok (.iconst 0, 1) := by decide +kernel
theorem dX7_init_56 : decode cX7_init 56 = .ok (.putfield 44, 3) := by decide +kernel
theorem dX7_init_59 : decode cX7_init 59 = .ok (.aload_n 0, 1) := by decide +kernel
theorem dX7_init_60 : decode cX7_init 60 = .ok (.sipush 600, 3) := by decide +kernel
theorem dX7_init_63 : decode cX7_init 63 = .ok (.newarray .int, 2) := by decide +kernel
theorem dX7_init_65 : decode cX7_init 65 = .ok (.putfield 47, 3) := by decide +kernel
theorem dX7_init_68 : decode cX7_init 68 = .ok (.aload_n 0, 1) := by decide +kernel
theorem dX7_init_69 : decode cX7_init 69 = .ok (.iconst 0, 1) := by decide +kernel
theorem dX7_init_70 : decode cX7_init 70 = .ok (.putfield 51, 3) := by decide +kernel
theorem dX7_init_73 : decode cX7_init 73 = .ok (.return_, 1) := by decide +kernel
set_option maxRecDepth 20000 in
theorem ggX7_read_X0_clear : GoodIn wsX7_read wsX0_clear := goodIn_r _ [12, 13, 14, 15, 16, 17, 18, 207, 208] (by decide +kernel) (by decide +kernel)
set_option maxRecDepth 20000 in
theorem gX7_read_X0_clear : GoodIn wsX7_read (wsV RX7 54 RX0 yX0_clear wsX0_clear) := goodIn_app (goodIn_of _ (by decide +kernel)) ggX7_read_X0_clear
set_option maxRecDepth 20000 in
theorem ggX7_read_X9_begin : GoodIn wsX7_read wsX9_begin := goodIn_r _ [23, 24, 25, 26, 27, 28, 29, 30, 31, 32, 33, 22, 34, 35, 36, 37, 38, 201, 202, 203, 204, 205, 206] (by decide +kernel) (by decide +kernel)
set_option maxRecDepth 20000 in
theorem gX7_read_X9_begin : GoodIn wsX7_read (wsV RX7 57 RX9 yX9_begin wsX9_begin) := goodIn_app (goodIn_of _ (by decide +kernel)) ggX7_read_X9_begin
set_option maxRecDepth 20000 in
theorem ggX7_read_X7_readHead : GoodIn wsX7_read wsX7_readHead := goodIn_r _ [43, 6, 44, 45, 46, 47, 48, 22, 49, 37, 30, 35, 24, 50, 51, 52, 53, 54, 55, 56, 57, 58, 59, 60, 61, 62, 63, 64, 65, 66, 67, 68, 69, 70, 71, 72, 73, 74, 75, 76, 77, 78, 79, 80, 81, 82, 83, 84, 85, 86, 87, 88, 89, 90, 91, 92, 93, 94, 95, 96, 97, 98, 99, 100, 101, 42, 102, 1, 103, 2, 104, 32, 33, 34, 29, 36, 38, 25, 26, 27, 28, 105, 106, 107, 108, 7, 109, 110, 111, 112, 113, 114, 115, 116, 117, 191, 192, 193, 194, 195, 196, 197, 198, 199, 200, 201, 202, 203, 204, 205, 206] (by decide +kernel) (by decide +kernel)
set_option maxRecDepth 20000 in
theorem gX7_read_X7_readHead : GoodIn wsX7_read (wsV RX7 61 RX7 yX7_readHead wsX7_readHead) := goodIn_app (goodIn_of _ (by decide +kernel)) ggX7_read_X7_readHead
set_option maxRecDepth 20000 in
theorem ggX7_read_X7_readStatement : GoodIn wsX7_read wsX7_readStatement := goodIn_r _ [121, 6, 5, 46, 47, 48, 22, 49, 37, 30, 35, 24, 50, 51, 52, 53, 54, 55, 56, 57, 58, 59, 60, 61, 62, 63, 64, 65, 66, 67, 68, 69, 70, 71, 72, 73, 74, 75, 76, 77, 78, 79, 80, 81, 82, 83, 84, 85, 86, 87, 88, 89, 90, 91, 92, 93, 94, 95, 96, 97, 98, 122, 123, 124, 42, 125, 4, 126, 127, 128, 99, 100, 101, 102, 1, 103, 2, 104, 32, 33, 34, 29, 36, 38, 25, 26, 27, 28, 105, 106, 107, 108, 7, 109, 114, 115, 116, 117, 129, 130, 131, 132, 133, 134, 135, 136, 137, 138, 139, 140, 141, 142, 143, 144, 145, 146, 147, 148, 149, 150, 151, 152, 153, 154, 155, 156, 157, 158, 159, 160, 44, 45, 3, 161, 162, 163, 11, 164, 13, 165, 166, 167, 168, 169, 14, 170, 171, 172, 173, 174, 175, 176, 177, 178, 179, 180, 181, 182, 110, 111, 112, 113, 183, 184, 185, 186, 187, 188, 189, 190, 191, 192, 193, 194, 195, 196, 197, 198, 199, 200, 201, 202, 203, 204, 205, 206, 209, 210, 211, 212, 213, 214, 207, 208] (by decide +kernel) (by decide +kernel)
set_option maxRecDepth 20000 in
theorem gX7_read_X7_readStatement : GoodIn wsX7_read (wsV RX7 68 RX7 yX7_readStatement wsX7_readStatement) := goodIn_app (goodIn_of _ (by decide +kernel)) ggX7_read_X7_readStatement
theorem dX7_read_0 : decode cX7_read 0 = .ok (.aload_n 0, 1) := by decide +kernel
theorem dX7_read_1 : decode cX7_read 1 = .ok (.iconst 0, 1) := by decide +kernel
theorem dX7_read_2 : decode cX7_read 2 = .ok (.putfield 9, 3) := by decide +kernel
theorem dX7_read_5 : decode cX7_read 5 = .ok (.aload_n 0, 1) := by decide +kernel
theorem dX7_read_6 : decode cX7_read 6 = .ok (.iconst (-1), 1) := by decide +kernel
theorem dX7_read_7 : decode cX7_read 7 = .ok (.putfield 15, 3) := by decide +kernel
theorem dX7_read_10 : decode cX7_read 10 = .ok (.aload_n 0, 1) := by decide +kernel
theorem dX7_read_11 : decode cX7_read 11 = .ok (.getfield 21, 3) := by decide +kernel
theorem dX7_read_14 : decode cX7_read 14 = .ok (.invokevirtual 54, 3) := by decide +kernel
theorem dX7_read_17 : decode cX7_read 17 = .ok (.aload_n 0, 1) := by decide +kernel
theorem dX7_read_18 : decode cX7_read 18 = .ok (.iconst 0, 1) := by decide +kernel
theorem dX7_read_19 : decode cX7_read 19 = .ok (.putfield 44, 3) := by decide +kernel
theorem dX7_read_22 : decode cX7_read 22 = .ok (.aload_n 0, 1) := by decide +kernel
theorem dX7_read_23 : decode cX7_read 23 = .ok (.iconst 0, 1) := by decide +kernel
theorem dX7_read_24 : decode cX7_read 24 = .ok (.putfield 51, 3) := by decide +kernel
theorem dX7_read_27 : decode cX7_read 27 = .ok (.aload_n 0, 1) := by decide +kernel
theorem dX7_read_28 : decode cX7_read 28 = .ok (.getfield 28, 3) := by decide +kernel
theorem dX7_read_31 : decode cX7_read 31 = .ok (.aload_n 1, 1) := by decide +kernel
theorem dX7_read_32 : decode cX7_read 32 = .ok (.iload_n 2, 1) := by decide +kernel
theorem dX7_read_33 : decode cX7_read 33 = .ok (.invokevirtual 57, 3) := by decide +kernel
theorem dX7_read_36 : decode cX7_read 36 = .ok (.aload_n 0, 1) := by decide +kernel
theorem dX7_read_37 : decode cX7_read 37 = .ok (.invokevirtual 61, 3) := by decide +kernel
theorem dX7_read_40 : decode cX7_read 40 = .ok (.istore_n 3, 1) := by decide +kernel
theorem dX7_read_41 : decode cX7_read 41 = .ok (.iconst 0, 1) := by decide +kernel
theorem dX7_read_42 : decode cX7_read 42 = .ok (.istore 4, 2) := by decide +kernel
theorem dX7_read_44 : decode cX7_read 44 = .ok (.iload_n 3, 1) := by decide +kernel
theorem dX7_read_45 : decode cX7_read 45 = .ok (.ifCond .eq 32, 3) := by decide +kernel
theorem dX7_read_48 : decode cX7_read 48 = .ok (.aload_n 0, 1) := by decide +kernel
theorem dX7_read_49 : decode cX7_read 49 = .ok (.getfield 28, 3) := by decide +kernel
theorem dX7_read_52 : decode cX7_read 52 = .ok (.getfield 65, 3) := by decide +kernel
theorem dX7_read_55 : decode cX7_read 55 = .ok (.ifCond .eq 22, 3) := by decide +kernel
theorem dX7_read_58 : decode cX7_read 58 = .ok (.iload 4, 2) := by decide +kernel
theorem dX7_read_60 : decode cX7_read 60 = .ok (.sipush 600, 3) := by decide +kernel
theorem dX7_read_63 : decode cX7_read 63 = .ok (.if_icmp .ge 14, 3) := by decide +kernel
theorem dX7_read_66 : decode cX7_read 66 = .ok (.aload_n 0, 1) := by decide +kernel
theorem dX7_read_67 : decode cX7_read 67 = .ok (.invokevirtual 68, 3) := by decide +kernel
theorem dX7_read_70 : decode cX7_read 70 = .ok (.istore_n 3, 1) := by decide +kernel
theorem dX7_read_71 : decode cX7_read 71 = .ok (.iinc 4 1, 3) := by decide +kernel
theorem dX7_read_74 : decode cX7_read 74 = .ok (.goto (-30), 3) := by decide +kernel
theorem dX7_read_77 : decode cX7_read 77 = .ok (.iload_n 3, 1) := by decide +kernel
theorem dX7_read_78 : decode cX7_read 78 = .ok (.ireturn, 1) := by decide +kernel
set_option maxRecDepth 20000 in
theorem ggX7_makeSetup_J7_copyOf_59c91 : GoodIn wsX7_makeSetup wsJ7_copyOf_59c91 := goodIn_r _ [17, 18, 19, 20, 21, 22, 23, 24, 25, 26, 27, 28, 29, 30, 31, 32] (by decide +kernel) (by decide +kernel)
set_option maxRecDepth 20000 in
theorem gX7_makeSetup_J7_copyOf_59c91 : GoodIn wsX7_makeSetup (va_wsS RX7 75 yJ7_copyOf_59c91 wsJ7_copyOf_59c91) := goodIn_app (goodIn_of _ (by decide +kernel)) ggX7_makeSetup_J7_copyOf_59c91
set_option maxRecDepth 20000 in
theorem ggX7_makeSetup_X1_init : GoodIn wsX7_makeSetup wsX1_init := goodIn_r _ [35, 36, 37, 38, 24, 39, 40, 63, 64] (by decide +kernel) (by decide +kernel)
set_option maxRecDepth 20000 in
theorem gX7_makeSetup_X1_init : GoodIn wsX7_makeSetup (wsX1_init) := ggX7_makeSetup_X1_init
set_option maxRecDepth 20000 in
theorem ggX7_makeSetup_X6_init : GoodIn wsX7_makeSetup wsX6_init := goodIn_r _ [43, 44, 37, 38, 45, 46, 47, 48, 59, 60, 61, 62] (by decide +kernel) (by decide +kernel)
set_option maxRecDepth 20000 in
theorem gX7_makeSetup_X6_init : GoodIn wsX7_makeSetup (wsX6_init) := ggX7_makeSetup_X6_init
theorem dX7_makeSetup_0 : decode cX7_makeSetup 0 = .ok (.aload_n 0, 1) := by decide +kernel
theorem dX7_makeSetup_1 : decode cX7_makeSetup 1 = .ok (.getfield 44, 3) := by decide +kernel
theorem dX7_makeSetup_4 : decode cX7_makeSetup 4 = .ok (.anewarray 38, 3) := by decide +kernel
theorem dX7_makeSetup_7 : decode cX7_makeSetup 7 = .ok (.astore_n 1, 1) := by decide +kernel
theorem dX7_makeSetup_8 : decode cX7_makeSetup 8 = .ok (.iconst 0, 1) := by decide +kernel
theorem dX7_makeSetup_9 : decode cX7_makeSetup 9 = .ok (.istore_n 2, 1) := by decide +kernel
theorem dX7_makeSetup_10 : decode cX7_makeSetup 10 = .ok (.iload_n 2, 1) := by decide +kernel
theorem dX7_makeSetup_11 : decode cX7_makeSetup 11 = .ok (.aload_n 0, 1) := by decide +kernel
theorem dX7_makeSetup_12 : decode cX7_makeSetup 12 = .ok (.getfield 44, 3) := by decide +kernel
theorem dX7_makeSetup_15 : decode cX7_makeSetup 15 = .ok (.if_icmp .ge 27, 3) := by decide +kernel
theorem dX7_makeSetup_18 : decode cX7_makeSetup 18 = .ok (.iload_n 2, 1) := by decide +kernel
theorem dX7_makeSetup_19 : decode cX7_makeSetup 19 = .ok (.aload_n 0, 1) := by decide +kernel
theorem dX7_makeSetup_20 : decode cX7_makeSetup 20 = .ok (.getfield 40, 3) := by decide +kernel
theorem dX7_makeSetup_23 : decode cX7_makeSetup 23 = .ok (.arraylength, 1) := by decide +kernel
theorem dX7_makeSetup_24 : decode cX7_makeSetup 24 = .ok (.if_icmp .ge 18, 3) := by decide +kernel
theorem dX7_makeSetup_27 : decode cX7_makeSetup 27 = .ok (.aload_n 1, 1) := by decide +kernel
theorem dX7_makeSetup_28 : decode cX7_makeSetup 28 = .ok (.iload_n 2, 1) := by decide +kernel
theorem dX7_makeSetup_29 : decode cX7_makeSetup 29 = .ok (.aload_n 0, 1) := by decide +kernel
theorem dX7_makeSetup_30 : decode cX7_makeSetup 30 = .ok (.getfield 40, 3) := by decide +kernel
theorem dX7_makeSetup_33 : decode cX7_makeSetup 33 = .ok (.iload_n 2, 1) := by decide +kernel
theorem dX7_makeSetup_34 : decode cX7_makeSetup 34 = .ok (.aaload, 1) := by decide +kernel
theorem dX7_makeSetup_35 : decode cX7_makeSetup 35 = .ok (.aastore, 1) := by decide +kernel
theorem dX7_makeSetup_36 : decode cX7_makeSetup 36 = .ok (.iinc 2 1, 3) := by decide +kernel
theorem dX7_makeSetup_39 : decode cX7_makeSetup 39 = .ok (.goto (-29), 3) := by decide +kernel
theorem dX7_makeSetup_42 : decode cX7_makeSetup 42 = .ok (.new 71, 3) := by decide +kernel
theorem dX7_makeSetup_45 : decode cX7_makeSetup 45 = .ok (.dup, 1) := by decide +kernel
theorem dX7_makeSetup_46 : decode cX7_makeSetup 46 = .ok (.aload_n 0, 1) := by decide +kernel
theorem dX7_makeSetup_47 : decode cX7_makeSetup 47 = .ok (.getfield 32, 3) := by decide +kernel
theorem dX7_makeSetup_50 : decode cX7_makeSetup 50 = .ok (.aload_n 0, 1) := by decide +kernel
theorem dX7_makeSetup_51 : decode cX7_makeSetup 51 = .ok (.getfield 35, 3) := by decide +kernel
theorem dX7_makeSetup_54 : decode cX7_makeSetup 54 = .ok (.aload_n 1, 1) := by decide +kernel
theorem dX7_makeSetup_55 : decode cX7_makeSetup 55 = .ok (.new 73, 3) := by decide +kernel
theorem dX7_makeSetup_58 : decode cX7_makeSetup 58 = .ok (.dup, 1) := by decide +kernel
theorem dX7_makeSetup_59 : decode cX7_makeSetup 59 = .ok (.aload_n 0, 1) := by decide +kernel
theorem dX7_makeSetup_60 : decode cX7_makeSetup 60 = .ok (.getfield 47, 3) := by decide +kernel
theorem dX7_makeSetup_63 : decode cX7_makeSetup 63 = .ok (.aload_n 0, 1) := by decide +kernel
theorem dX7_makeSetup_64 : decode cX7_makeSetup 64 = .ok (.getfield 51, 3) := by decide +kernel
theorem dX7_makeSetup_67 : decode cX7_makeSetup 67 = .ok (.invokestatic 75, 3) := by decide +kernel
theorem dX7_makeSetup_70 : decode cX7_makeSetup 70 = .ok (.invokespecial 81, 3) := by decide +kernel
theorem dX7_makeSetup_73 : decode cX7_makeSetup 73 = .ok (.invokespecial 84, 3) := by decide +kernel
theorem dX7_makeSetup_76 : decode cX7_makeSetup 76 = .ok (.areturn, 1) := by decide +kernel
set_option maxRecDepth 20000 in
theorem ggX7_readHead_X9_isWord : GoodIn wsX7_readHead wsX9_isWord := goodIn_r _ [8, 9, 10, 11, 12, 13, 14, 15, 16, 17, 18, 19, 20, 21, 22, 23, 24, 25, 26, 27, 28, 29, 30, 31, 32, 33, 34, 35, 36, 37, 38, 39, 40, 41, 42, 43, 44, 45, 46, 47, 48, 49, 50, 51, 52, 53, 54, 55, 56, 57, 58, 59, 60, 61, 105, 106, 107, 108, 109, 110] (by decide +kernel) (by decide +kernel)
set_option maxRecDepth 20000 in
theorem gX7_readHead_X9_isWord : GoodIn wsX7_readHead (wsV RX7 88 RX9 yX9_isWord wsX9_isWord) := goodIn_app (goodIn_of _ (by decide +kernel)) ggX7_readHead_X9_isWord
set_option maxRecDepth 20000 in
theorem ggX7_readHead_X7_fail : GoodIn wsX7_readHead wsX7_fail := goodIn_r _ [66, 67, 1, 68, 69, 95, 96, 97, 98, 99, 100, 101, 102, 103, 104, 105, 106, 107, 108, 109, 110] (by decide +kernel) (by decide +kernel)
set_option maxRecDepth 20000 in
theorem gX7_readHead_X7_fail : GoodIn wsX7_readHead (wsV RX7 92 RX7 yX7_fail wsX7_fail) := goodIn_app (goodIn_of _ (by decide +kernel)) ggX7_readHead_X7_fail
set_option maxRecDepth 20000 in
theorem ggX7_readHead_X9_advance : GoodIn wsX7_readHead wsX9_advance := goodIn_r _ [73, 10, 74, 12, 11, 75, 9, 76, 77, 78, 79, 80, 105, 106, 107, 108, 109, 110] (by decide +kernel) (by decide +kernel)
set_option maxRecDepth 20000 in
theorem gX7_readHead_X9_advance : GoodIn wsX7_readHead (wsV RX7 96 RX9 yX9_advance wsX9_advance) := goodIn_app (goodIn_of _ (by decide +kernel)) ggX7_readHead_X9_advance
set_option maxRecDepth 20000 in
theorem ggX7_readHead_X7_takeNumber : GoodIn wsX7_readHead wsX7_takeNumber := goodIn_r _ [84, 1, 85, 86, 62, 63, 64, 65, 66, 67, 68, 69, 70, 71, 72, 7, 73, 10, 74, 12, 11, 75, 9, 76, 77, 78, 79, 80, 95, 96, 97, 98, 99, 100, 101, 102, 103, 104, 105, 106, 107, 108, 109, 110] (by decide +kernel) (by decide +kernel)
set_option maxRecDepth 20000 in
theorem gX7_readHead_X7_takeNumber : GoodIn wsX7_readHead (wsV RX7 99 RX7 yX7_takeNumber wsX7_takeNumber) := goodIn_app (goodIn_of _ (by decide +kernel)) ggX7_readHead_X7_takeNumber
set_option maxRecDepth 20000 in
theorem ggX7_readHead_X7_takeSign : GoodIn wsX7_readHead wsX7_takeSign := goodIn_r _ [90, 1, 91, 92, 93, 7, 94, 9, 75, 62, 63, 64, 65, 66, 67, 68, 69, 70, 71, 72, 73, 10, 74, 12, 11, 76, 77, 78, 79, 80, 95, 96, 97, 98, 99, 100, 101, 102, 103, 104, 105, 106, 107, 108, 109, 110] (by decide +kernel) (by decide +kernel)
set_option maxRecDepth 20000 in
theorem gX7_readHead_X7_takeSign : GoodIn wsX7_readHead (wsV RX7 103 RX7 yX7_takeSign wsX7_takeSign) := goodIn_app (goodIn_of _ (by decide +kernel)) ggX7_readHead_X7_takeSign
theorem dX7_readHead_0 : decode cX7_readHead 0 = .ok (.aload_n 0, 1) := by decide +kernel
theorem dX7_readHead_1 : decode cX7_readHead 1 = .ok (.getfield 28, 3) := by decide +kernel
theorem dX7_readHead_4 : decode cX7_readHead 4 = .ok (.ldc 87, 2) := by decide +kernel
theorem dX7_readHead_6 : decode cX7_readHead 6 = .ok (.invokevirtual 88, 3) := by decide +kernel
theorem dX7_readHead_9 : decode cX7_readHead 9 = .ok (.ifCond .ne 10, 3) := by decide +kernel
theorem dX7_readHead_12 : decode cX7_readHead 12 = .ok (.aload_n 0, 1) := by decide +kernel
theorem dX7_readHead_13 : decode cX7_readHead 13 = .ok (.bipush (-2), 2) := by decide +kernel
theorem dX7_readHead_15 : decode cX7_readHead 15 = .ok (.invokevirtual 92, 3) := by decide +kernel
theorem dX7_readHead_18 : decode cX7_readHead 18 = .ok (.ireturn, 1) := by decide +kernel
theorem dX7_readHead_19 : decode cX7_readHead 19 = .ok (.aload_n 0, 1) := by decide +kernel
theorem dX7_readHead_20 : decode cX7_readHead 20 = .ok (.getfield 28, 3) := by decide +kernel
theorem dX7_readHead_23 : decode cX7_readHead 23 = .ok (.invokevirtual 96, 3) := by decide +kernel
theorem dX7_readHead_26 : decode cX7_readHead 26 = .ok (.aload_n 0, 1) := by decide +kernel
theorem dX7_readHead_27 : decode cX7_readHead 27 = .ok (.aload_n 0, 1) := by decide +kernel
theorem dX7_readHead_28 : decode cX7_readHead 28 = .ok (.iconst 1, 1) := by decide +kernel
theorem dX7_readHead_29 : decode cX7_readHead 29 = .ok (.bipush 40, 2) := by decide +kernel
theorem dX7_readHead_31 : decode cX7_readHead 31 = .ok (.invokevirtual 99, 3) := by decide +kernel
theorem dX7_readHead_34 : decode cX7_readHead 34 = .ok (.putfield 32, 3) := by decide +kernel
theorem dX7_readHead_37 : decode cX7_readHead 37 = .ok (.aload_n 0, 1) := by decide +kernel
theorem dX7_readHead_38 : decode cX7_readHead 38 = .ok (.getfield 32, 3) := by decide +kernel
theorem dX7_readHead_41 : decode cX7_readHead 41 = .ok (.iconst (-1), 1) := by decide +kernel
theorem dX7_readHead_42 : decode cX7_readHead 42 = .ok (.if_icmp .ne 5, 3) := by decide +kernel
theorem dX7_readHead_45 : decode cX7_readHead 45 = .ok (.iconst 0, 1) := by decide +kernel
theorem dX7_readHead_46 : decode cX7_readHead 46 = .ok (.ireturn, 1) := by decide +kernel
theorem dX7_readHead_47 : decode cX7_readHead 47 = .ok (.aload_n 0, 1) := by decide +kernel
theorem dX7_readHead_48 : decode cX7_readHead 48 = .ok (.aload_n 0, 1) := by decide +kernel
theorem dX7_readHead_49 : decode cX7_readHead 49 = .ok (.iconst 1, 1) := by decide +kernel
theorem dX7_readHead_50 : decode cX7_readHead 50 = .ok (.iconst 4, 1) := by decide +kernel
theorem dX7_readHead_51 : decode cX7_readHead 51 = .ok (.invokevirtual 99, 3) := by decide +kernel
theorem dX7_readHead_54 : decode cX7_readHead 54 = .ok (.putfield 35, 3) := by decide +kernel
theorem dX7_readHead_57 : decode cX7_readHead 57 = .ok (.aload_n 0, 1) := by decide +kernel
theorem dX7_readHead_58 : decode cX7_readHead 58 = .ok (.getfield 35, 3) := by decide +kernel
theorem dX7_readHead_61 : decode cX7_readHead 61 = .ok (.iconst (-1), 1) := by decide +kernel
theorem dX7_readHead_62 : decode cX7_readHead 62 = .ok (.if_icmp .eq 16, 3) := by decide +kernel
theorem dX7_readHead_65 : decode cX7_readHead 65 = .ok (.aload_n 0, 1) := by decide +kernel
theorem dX7_readHead_66 : decode cX7_readHead 66 = .ok (.bipush 59, 2) := by decide +kernel
theorem dX7_readHead_68 : decode cX7_readHead 68 = .ok (.invokevirtual 103, 3) := by decide +kernel
theorem dX7_readHead_71 : decode cX7_readHead 71 = .ok (.ifCond .eq 7, 3) := by decide +kernel
theorem dX7_readHead_74 : decode cX7_readHead 74 = .ok (.iconst 1, 1) := by decide +kernel
theorem dX7_readHead_75 : decode cX7_readHead 75 = .ok (.goto 4, 3) := by decide +kernel
theorem dX7_readHead_78 : decode cX7_readHead 78 = .ok (.iconst 0, 1) := by decide +kernel
theorem dX7_readHead_79 : decode cX7_readHead 79 = .ok (.ireturn, 1) := by decide +kernel
set_option maxRecDepth 20000 in
theorem ggX7_readStatement_X9_isWord : GoodIn wsX7_readStatement wsX9_isWord := goodIn_r _ [7, 8, 9, 10, 11, 12, 13, 14, 15, 16, 17, 18, 19, 20, 21, 22, 23, 24, 25, 26, 27, 28, 29, 30, 31, 32, 33, 34, 35, 36, 37, 38, 39, 40, 41, 42, 43, 44, 45, 46, 47, 48, 49, 50, 51, 52, 53, 54, 55, 56, 57, 58, 59, 60, 180, 181, 182, 183, 184, 185] (by decide +kernel) (by decide +kernel)
set_option maxRecDepth 20000 in
theorem gX7_readStatement_X9_isWord : GoodIn wsX7_readStatement (wsV RX7 88 RX9 yX9_isWord wsX9_isWord) := goodIn_app (goodIn_of _ (by decide +kernel)) ggX7_readStatement_X9_isWord
set_option maxRecDepth 20000 in
theorem ggX7_readStatement_X7_readEquation : GoodIn wsX7_readStatement wsX7_readEquation := goodIn_r _ [65, 66, 1, 67, 68, 69, 70, 71, 72, 64, 73, 74, 75, 76, 77, 78, 79, 6, 80, 9, 81, 11, 10, 82, 8, 83, 84, 85, 86, 87, 88, 89, 90, 91, 92, 93, 94, 95, 96, 97, 98, 99, 100, 101, 3, 4, 5, 7, 12, 13, 14, 15, 16, 17, 18, 19, 20, 21, 22, 23, 24, 25, 26, 27, 28, 29, 30, 31, 32, 33, 34, 35, 36, 37, 38, 39, 40, 41, 42, 43, 44, 45, 46, 47, 48, 49, 50, 51, 52, 53, 54, 55, 56, 57, 58, 59, 60, 102, 103, 104, 105, 106, 107, 108, 109, 110, 111, 112, 113, 114, 115, 116, 117, 118, 170, 171, 172, 173, 174, 175, 176, 177, 178, 179, 186, 187, 188, 189, 190, 191, 180, 181, 182, 183, 184, 185] (by decide +kernel) (by decide +kernel)
set_option maxRecDepth 20000 in
theorem gX7_readStatement_X7_readEquation : GoodIn wsX7_readStatement (wsV RX7 109 RX7 yX7_readEquation wsX7_readEquation) := goodIn_app (goodIn_of _ (by decide +kernel)) ggX7_readStatement_X7_readEquation
set_option maxRecDepth 20000 in
theorem ggX7_readStatement_X7_readProgression : GoodIn wsX7_readStatement wsX7_readProgression := goodIn_r _ [122, 66, 1, 67, 68, 69, 70, 71, 72, 64, 73, 74, 75, 76, 77, 78, 79, 6, 80, 9, 81, 11, 10, 82, 8, 83, 84, 85, 86, 87, 88, 89, 90, 91, 92, 93, 123, 124, 125, 105, 106, 107, 108, 109, 110, 111, 112, 113, 114, 115, 116, 117, 118, 170, 171, 172, 173, 174, 175, 176, 177, 178, 179, 186, 187, 188, 189, 190, 191, 180, 181, 182, 183, 184, 185] (by decide +kernel) (by decide +kernel)
set_option maxRecDepth 20000 in
theorem gX7_readStatement_X7_readProgression : GoodIn wsX7_readStatement (wsV RX7 114 RX7 yX7_readProgression wsX7_readProgression) := goodIn_app (goodIn_of _ (by decide +kernel)) ggX7_readStatement_X7_readProgression
set_option maxRecDepth 20000 in
theorem ggX7_readStatement_X7_readColour : GoodIn wsX7_readStatement wsX7_readColour := goodIn_r _ [129, 1, 130, 131, 132, 77, 78, 79, 6, 80, 9, 81, 11, 10, 82, 8, 83, 84, 85, 86, 87, 88, 89, 90, 64, 91, 92, 93, 70, 71, 72, 73, 74, 75, 76, 133, 134, 135, 136, 137, 138, 139, 3, 4, 5, 7, 12, 13, 14, 15, 16, 17, 18, 19, 20, 21, 22, 23, 24, 25, 26, 27, 28, 29, 30, 31, 32, 33, 34, 35, 36, 37, 38, 39, 40, 41, 42, 43, 44, 45, 46, 47, 48, 49, 50, 51, 52, 53, 54, 55, 56, 57, 58, 59, 60, 98, 99, 100, 101, 140, 141, 142, 143, 144, 170, 171, 172, 173, 174, 175, 176, 177, 178, 179, 180, 181, 182, 183, 184, 185, 192, 193] (by decide +kernel) (by decide +kernel)
set_option maxRecDepth 20000 in
theorem gX7_readStatement_X7_readColour : GoodIn wsX7_readStatement (wsV RX7 119 RX7 yX7_readColour wsX7_readColour) := goodIn_app (goodIn_of _ (by decide +kernel)) ggX7_readStatement_X7_readColour
set_option maxRecDepth 20000 in
theorem ggX7_readStatement_X9_advance : GoodIn wsX7_readStatement wsX9_advance := goodIn_r _ [80, 9, 81, 11, 10, 82, 8, 83, 84, 85, 86, 87, 180, 181, 182, 183, 184, 185] (by decide +kernel) (by decide +kernel)
set_option maxRecDepth 20000 in
theorem gX7_readStatement_X9_advance : GoodIn wsX7_readStatement (wsV RX7 96 RX9 yX9_advance wsX9_advance) := goodIn_app (goodIn_of _ (by decide +kernel)) ggX7_readStatement_X9_advance
set_option maxRecDepth 20000 in
theorem ggX7_readStatement_X7_readSum : GoodIn wsX7_readStatement wsX7_readSum := goodIn_r _ [148, 1, 149, 150, 151, 64, 94, 95, 96, 6, 97, 8, 82, 77, 78, 79, 80, 9, 81, 11, 10, 83, 84, 85, 86, 87, 152, 153, 154, 155, 2, 156, 157, 92, 70, 71, 72, 73, 74, 75, 76, 145, 146, 147, 158, 159, 160, 161, 88, 89, 90, 91, 93, 162, 163, 164, 165, 3, 4, 5, 7, 12, 13, 14, 15, 16, 17, 18, 19, 20, 21, 22, 23, 24, 25, 26, 27, 28, 29, 30, 31, 32, 33, 34, 35, 36, 37, 38, 39, 40, 41, 42, 43, 44, 45, 46, 47, 48, 49, 50, 51, 52, 53, 54, 55, 56, 57, 58, 59, 60, 166, 167, 168, 169, 170, 171, 172, 173, 174, 175, 176, 177, 178, 179, 180, 181, 182, 183, 184, 185] (by decide +kernel) (by decide +kernel)
set_option maxRecDepth 20000 in
theorem gX7_readStatement_X7_readSum : GoodIn wsX7_readStatement (wsV RX7 124 RX7 yX7_readSum wsX7_readSum) := goodIn_app (goodIn_of _ (by decide +kernel)) ggX7_readStatement_X7_readSum
