theorem lw_app {a b : List Cond} (h : ∀ w ∈ a, w ∈ lw_tbl) (k : ∀ w ∈ b, w ∈ lw_tbl) : ∀ w ∈ a ++ b, w ∈ lw_tbl := fun w hw => (List.mem_append.mp hw).elim (h w) (k w)
theorem lwx_wsX100 : ∀ w ∈ wsX100, w ∈ lw_tbl := by decide +kernel
theorem lwx_wsX110 : ∀ w ∈ wsX110, w ∈ lw_tbl := by decide +kernel
theorem lwx_wsX70 : ∀ w ∈ wsX70, w ∈ lw_tbl := by decide +kernel
theorem lwx_wsX80 : ∀ w ∈ wsX80, w ∈ lw_tbl := by decide +kernel
theorem lwx_wsX00 : ∀ w ∈ wsX00, w ∈ lw_tbl := by decide +kernel
theorem lwx_wsX50 : ∀ w ∈ wsX50, w ∈ lw_tbl := by decide +kernel
theorem lwx_wsX30 : ∀ w ∈ wsX30, w ∈ lw_tbl := by decide +kernel
theorem lwx_wsX20 : ∀ w ∈ wsX20, w ∈ lw_tbl := by decide +kernel
theorem lwx_wsX60 : ∀ w ∈ wsX60, w ∈ lw_tbl := by decide +kernel
theorem lwx_wsX10 : ∀ w ∈ wsX10, w ∈ lw_tbl := by decide +kernel
theorem lwx_wsX90 : ∀ w ∈ wsX90, w ∈ lw_tbl := by decide +kernel
theorem lwx_wsX40 : ∀ w ∈ wsX40, w ∈ lw_tbl := by decide +kernel
theorem wsL_law_in0 : ∀ w ∈ wsL_law0, w ∈ lw_tbl := lw_app (lw_app (lw_app (lw_app (lw_app (lw_app (lw_app (lw_app (lw_app (lw_app (lw_app (lw_app (lw_app (lw_app lwp_1 (lw_app lwp_2 (lw_app lwp_3 (lw_app lwp_4 (lw_app lwp_5 (lw_app lwp_6 (lw_app lwp_7 (lw_app lwp_8 (lw_app lwp_9 (lw_app lwp_10 (lw_app lwp_11 (lw_app lwp_12 (lw_app lwp_13 (lw_app lwp_14 (lw_app lwp_15 (lw_app lwp_16 (lw_app lwp_17 (lw_app lwp_18 (lw_app lwp_19 (lw_app lwp_20 (lw_app lwp_21 (lw_app lwp_22 (lw_app lwp_23 (lw_app lwp_24 (lw_app lwp_25 (lw_app lwp_26 (lw_app lwp_27 (lw_app lwp_28 (lw_app lwp_29 (lw_app lwp_30 (lw_app lwp_31 (lw_app lwp_32 (lw_app lwp_33 (lw_app lwp_34 (lw_app lwp_35 (lw_app lwp_36 (lw_app lwp_37 (lw_app lwp_38 (lw_app lwp_39 (lw_app lwp_40 (lw_app lwp_41 (lw_app lwp_42 (lw_app lwp_43 (lw_app lwp_44 lwp_45)))))))))))))))))))))))))))))))))))))))))))) lwx_wsX100) lwx_wsX110) lwx_wsX70) lwx_wsX80) lwx_wsX00) lwx_wsX50) lwx_wsX30) lwx_wsX20) lwx_wsX60) lwx_wsX10) lwx_wsX90) lwx_wsX40) (fun _ h => absurd h List.not_mem_nil)
theorem wsL_law_x0 : ∀ w ∈ (vx_atS RX10 86 "java/lang/IllegalArgumentException" ["java/lang/RuntimeException", "java/lang/Exception"]).filter goodWord, w ∈ lw_tbl := by decide +kernel
theorem wsL_law_x1 : ∀ w ∈ (vx_atS RX10 128 "java/lang/IndexOutOfBoundsException" ["java/lang/RuntimeException", "java/lang/Exception"]).filter goodWord, w ∈ lw_tbl := by decide +kernel
theorem wsL_law_x2 : ∀ w ∈ nsF, w ∈ lw_tbl := nsTb
theorem wsL_law_x3 : ∀ w ∈ (vx_atS RX10 223 "java/lang/IllegalStateException" ["java/lang/RuntimeException", "java/lang/Exception"]).filter goodWord, w ∈ lw_tbl := by decide +kernel
theorem wsL_law_in : ∀ w ∈ wsQ_law, w ∈ lw_tbl := fun w h => (List.mem_append.mp h).elim (fun h => (List.mem_append.mp h).elim (fun h => (List.mem_append.mp h).elim (fun h => (List.mem_append.mp h).elim (fun h => wsL_law_in0 w h) (fun h => wsL_law_x0 w h)) (fun h => wsL_law_x1 w h)) (fun h => wsL_law_x2 w h)) (fun h => wsL_law_x3 w h)
theorem inX0 : ∀ w ∈ wsX00, w ∈ lw_tbl := fun w h => wsL_law_in w (inlX0 w h)
theorem inX1 : ∀ w ∈ wsX10, w ∈ lw_tbl := fun w h => wsL_law_in w (inlX1 w h)
theorem inX2 : ∀ w ∈ wsX20, w ∈ lw_tbl := fun w h => wsL_law_in w (inlX2 w h)
theorem inX3 : ∀ w ∈ wsX30, w ∈ lw_tbl := fun w h => wsL_law_in w (inlX3 w h)
theorem inX4 : ∀ w ∈ wsX40, w ∈ lw_tbl := fun w h => wsL_law_in w (inlX4 w h)
theorem inX5 : ∀ w ∈ wsX50, w ∈ lw_tbl := fun w h => wsL_law_in w (inlX5 w h)
theorem inX6 : ∀ w ∈ wsX60, w ∈ lw_tbl := fun w h => wsL_law_in w (inlX6 w h)
theorem inX7 : ∀ w ∈ wsX70, w ∈ lw_tbl := fun w h => wsL_law_in w (inlX7 w h)
theorem inX8 : ∀ w ∈ wsX80, w ∈ lw_tbl := fun w h => wsL_law_in w (inlX8 w h)
theorem inX9 : ∀ w ∈ wsX90, w ∈ lw_tbl := fun w h => wsL_law_in w (inlX9 w h)
theorem inX10 : ∀ w ∈ wsX100, w ∈ lw_tbl := fun w h => wsL_law_in w (inlX10 w h)
theorem inX11 : ∀ w ∈ wsX110, w ∈ lw_tbl := fun w h => wsL_law_in w (inlX11 w h)
theorem inJx145de : ∀ w ∈ wsJx145de0, w ∈ lw_tbl := by decide +kernel
theorem inJx9f9b0 : ∀ w ∈ wsJx9f9b00, w ∈ lw_tbl := by decide +kernel
theorem inJx8e188 : ∀ w ∈ wsJx8e1880, w ∈ lw_tbl := by decide +kernel
theorem inJxb160c : ∀ w ∈ wsJxb160c0, w ∈ lw_tbl := by decide +kernel

