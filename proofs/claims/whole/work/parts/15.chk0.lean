set_option maxRecDepth 100000 in
theorem xk_0 : xm_cm xq_0 = true := by decide +kernel
set_option maxRecDepth 100000 in
theorem xk_2 : xm_cm xq_2 = true := by decide +kernel
set_option maxRecDepth 100000 in
theorem xk_3 : xm_cm xq_3 = true := by decide +kernel
set_option maxRecDepth 100000 in
theorem xk_4 : xm_cm xq_4 = true := by decide +kernel
set_option maxRecDepth 100000 in
theorem xk_5 : xm_cm xq_5 = true := by decide +kernel
set_option maxRecDepth 100000 in
theorem xk_6 : xm_cm xq_6 = true := by decide +kernel
set_option maxRecDepth 100000 in
theorem xk_7 : xm_cm xq_7 = true := by decide +kernel
set_option maxRecDepth 100000 in
theorem xk_8 : xm_cm xq_8 = true := by decide +kernel
set_option maxRecDepth 100000 in
theorem xk_9 : xm_cm xq_9 = true := by decide +kernel
set_option maxRecDepth 100000 in
theorem xk_10 : xm_cm xq_10 = true := by decide +kernel
set_option maxRecDepth 100000 in
theorem xk_11 : xm_cm xq_11 = true := by decide +kernel
set_option maxRecDepth 100000 in
theorem xk_12 : xm_cm xq_12 = true := by decide +kernel
set_option maxRecDepth 100000 in
theorem xk_13 : xm_cm xq_13 = true := by decide +kernel
set_option maxRecDepth 100000 in
theorem xk_14 : xm_cm xq_14 = true := by decide +kernel
set_option maxRecDepth 100000 in
theorem xk_15 : xm_cm xq_15 = true := by decide +kernel
set_option maxRecDepth 100000 in
theorem xk_16 : xm_cm xq_16 = true := by decide +kernel
set_option maxRecDepth 100000 in
theorem xk_17 : xm_cm xq_17 = true := by decide +kernel
set_option maxRecDepth 100000 in
theorem xk_18 : xm_cm xq_18 = true := by decide +kernel
set_option maxRecDepth 100000 in
theorem xk_19 : xm_cm xq_19 = true := by decide +kernel
set_option maxRecDepth 100000 in
theorem xk_20 : xm_cm xq_20 = true := by decide +kernel
set_option maxRecDepth 100000 in
theorem xk_21 : xm_cm xq_21 = true := by decide +kernel
set_option maxRecDepth 100000 in
theorem xk_22 : xm_cm xq_22 = true := by decide +kernel
set_option maxRecDepth 100000 in
theorem xk_23 : xm_cm xq_23 = true := by decide +kernel
set_option maxRecDepth 100000 in
theorem xk_24 : xm_cm xq_24 = true := by decide +kernel
set_option maxRecDepth 100000 in
theorem xk_25 : xm_cm xq_25 = true := by decide +kernel
set_option maxRecDepth 100000 in
theorem xk_28 : xm_cm xq_28 = true := by decide +kernel
set_option maxRecDepth 100000 in
theorem xk_29 : xm_cm xq_29 = true := by decide +kernel
set_option maxRecDepth 100000 in
theorem xk_30 : xm_cm xq_30 = true := by decide +kernel
set_option maxRecDepth 100000 in
theorem xk_31 : xm_cm xq_31 = true := by decide +kernel
set_option maxRecDepth 100000 in
theorem xk_32 : xm_cm xq_32 = true := by decide +kernel
set_option maxRecDepth 100000 in
theorem xk_33 : xm_cm xq_33 = true := by decide +kernel
set_option maxRecDepth 100000 in
theorem xk_35 : xm_cm xq_35 = true := by decide +kernel
set_option maxRecDepth 100000 in
theorem xk_36 : xm_cm xq_36 = true := by decide +kernel
set_option maxRecDepth 100000 in
theorem xk_37 : xm_cm xq_37 = true := by decide +kernel
set_option maxRecDepth 100000 in
theorem xk_38 : xm_cm xq_38 = true := by decide +kernel
set_option maxRecDepth 100000 in
theorem xk_39 : xm_cm xq_39 = true := by decide +kernel
set_option maxRecDepth 100000 in
theorem xk_40 : xm_cm xq_40 = true := by decide +kernel
set_option maxRecDepth 100000 in
theorem xk_41 : xm_cm xq_41 = true := by decide +kernel
set_option maxRecDepth 100000 in
theorem xk_42 : xm_cm xq_42 = true := by decide +kernel
set_option maxRecDepth 100000 in
theorem xk_43 : xm_cm xq_43 = true := by decide +kernel
set_option maxRecDepth 100000 in
theorem xk_44 : xm_cm xq_44 = true := by decide +kernel
set_option maxRecDepth 100000 in
theorem xk_45 : xm_cm xq_45 = true := by decide +kernel
set_option maxRecDepth 100000 in
theorem xk_46 : xm_cm xq_46 = true := by decide +kernel
set_option maxRecDepth 100000 in
theorem xk_47 : xm_cm xq_47 = true := by decide +kernel
set_option maxRecDepth 100000 in
theorem xk_48 : xm_cm xq_48 = true := by decide +kernel
set_option maxRecDepth 100000 in
theorem xk_49 : xm_cm xq_49 = true := by decide +kernel
set_option maxRecDepth 100000 in
theorem xk_50 : xm_cm xq_50 = true := by decide +kernel
set_option maxRecDepth 100000 in
theorem xk_51 : xm_cm xq_51 = true := by decide +kernel
set_option maxRecDepth 100000 in
theorem xk_52 : xm_cm xq_52 = true := by decide +kernel
set_option maxRecDepth 100000 in
theorem xk_53 : xm_cm xq_53 = true := by decide +kernel
set_option maxRecDepth 100000 in
theorem xk_54 : xm_cm xq_54 = true := by decide +kernel
set_option maxRecDepth 100000 in
theorem xk_55 : xm_cm xq_55 = true := by decide +kernel
set_option maxRecDepth 100000 in
theorem xk_56 : xm_cm xq_56 = true := by decide +kernel
set_option maxRecDepth 100000 in
theorem xk_57 : xm_cm xq_57 = true := by decide +kernel
set_option maxRecDepth 100000 in
theorem xk_58 : xm_cm xq_58 = true := by decide +kernel
set_option maxRecDepth 100000 in
theorem xk_59 : xm_cm xq_59 = true := by decide +kernel
