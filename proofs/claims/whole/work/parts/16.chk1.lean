set_option maxRecDepth 100000 in
theorem xk_60 : xm_cm xq_60 = true := by decide +kernel
set_option maxRecDepth 100000 in
theorem xk_61 : xm_cm xq_61 = true := by decide +kernel
set_option maxRecDepth 100000 in
theorem xk_62 : xm_cm xq_62 = true := by decide +kernel
set_option maxRecDepth 100000 in
theorem xk_63 : xm_cm xq_63 = true := by decide +kernel
set_option maxRecDepth 100000 in
theorem xk_64 : xm_cm xq_64 = true := by decide +kernel
set_option maxRecDepth 100000 in
theorem xk_65 : xm_cm xq_65 = true := by decide +kernel
set_option maxRecDepth 100000 in
theorem xk_66 : xm_cm xq_66 = true := by decide +kernel
set_option maxRecDepth 100000 in
theorem xk_67 : xm_cm xq_67 = true := by decide +kernel
set_option maxRecDepth 100000 in
theorem xk_68 : xm_cm xq_68 = true := by decide +kernel
set_option maxRecDepth 100000 in
theorem xk_69 : xm_cm xq_69 = true := by decide +kernel
set_option maxRecDepth 100000 in
theorem xk_70 : xm_cm xq_70 = true := by decide +kernel
set_option maxRecDepth 100000 in
theorem xk_71 : xm_cm xq_71 = true := by decide +kernel
set_option maxRecDepth 100000 in
theorem xk_72 : xm_cm xq_72 = true := by decide +kernel
set_option maxRecDepth 100000 in
theorem xk_73 : xm_cm xq_73 = true := by decide +kernel
set_option maxRecDepth 100000 in
theorem xk_74 : xm_cm xq_74 = true := by decide +kernel
set_option maxRecDepth 100000 in
theorem xk_75 : xm_cm xq_75 = true := by decide +kernel
set_option maxRecDepth 100000 in
theorem xk_76 : xm_cm xq_76 = true := by decide +kernel
set_option maxRecDepth 100000 in
theorem xk_77 : xm_cm xq_77 = true := by decide +kernel
set_option maxRecDepth 100000 in
theorem xk_78 : xm_cm xq_78 = true := by decide +kernel
set_option maxRecDepth 100000 in
theorem xk_79 : xm_cm xq_79 = true := by decide +kernel
set_option maxRecDepth 100000 in
theorem xk_80 : xm_cm xq_80 = true := by decide +kernel
set_option maxRecDepth 100000 in
theorem xk_81 : xm_cm xq_81 = true := by decide +kernel
set_option maxRecDepth 100000 in
theorem xk_82 : xm_cm xq_82 = true := by decide +kernel
set_option maxRecDepth 100000 in
theorem xk_83 : xm_cm xq_83 = true := by decide +kernel
set_option maxRecDepth 100000 in
theorem xk_84 : xm_cm xq_84 = true := by decide +kernel
set_option maxRecDepth 100000 in
theorem xk_85 : xm_cm xq_85 = true := by decide +kernel
set_option maxRecDepth 100000 in
theorem xk_86 : xm_cm xq_86 = true := by decide +kernel
set_option maxRecDepth 100000 in
theorem xk_87 : xm_cm xq_87 = true := by decide +kernel
set_option maxRecDepth 100000 in
theorem xk_88 : xm_cm xq_88 = true := by decide +kernel
set_option maxRecDepth 100000 in
theorem xk_89 : xm_cm xq_89 = true := by decide +kernel
set_option maxRecDepth 100000 in
theorem xk_90 : xm_cm xq_90 = true := by decide +kernel
set_option maxRecDepth 100000 in
theorem xk_91 : xm_cm xq_91 = true := by decide +kernel
set_option maxRecDepth 100000 in
theorem xk_92 : xm_cm xq_92 = true := by decide +kernel
set_option maxRecDepth 100000 in
theorem xk_93 : xm_cm xq_93 = true := by decide +kernel
set_option maxRecDepth 100000 in
theorem xk_94 : xm_cm xq_94 = true := by decide +kernel
set_option maxRecDepth 100000 in
theorem xk_95 : xm_cm xq_95 = true := by decide +kernel
set_option maxRecDepth 100000 in
theorem xk_96 : xm_cm xq_96 = true := by decide +kernel
set_option maxRecDepth 100000 in
theorem xk_97 : xm_cm xq_97 = true := by decide +kernel
set_option maxRecDepth 100000 in
theorem xk_98 : xm_cm xq_98 = true := by decide +kernel
set_option maxRecDepth 100000 in
theorem xk_99 : xm_cm xq_99 = true := by decide +kernel
set_option maxRecDepth 100000 in
theorem xk_100 : xm_cm xq_100 = true := by decide +kernel
set_option maxRecDepth 100000 in
theorem xk_101 : xm_cm xq_101 = true := by decide +kernel
set_option maxRecDepth 100000 in
theorem xk_102 : xm_cm xq_102 = true := by decide +kernel
set_option maxRecDepth 100000 in
theorem xk_103 : xm_cm xq_103 = true := by decide +kernel
set_option maxRecDepth 100000 in
theorem xk_104 : xm_cm xq_104 = true := by decide +kernel
set_option maxRecDepth 100000 in
theorem xk_105 : xm_cm xq_105 = true := by decide +kernel
