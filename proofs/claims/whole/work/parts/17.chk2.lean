set_option maxRecDepth 100000 in
theorem xk_106 : xm_cm xq_106 = true := by decide +kernel
set_option maxRecDepth 100000 in
theorem xk_107 : xm_cm xq_107 = true := by decide +kernel
set_option maxRecDepth 100000 in
theorem xk_108 : xm_cm xq_108 = true := by decide +kernel
set_option maxRecDepth 100000 in
theorem xk_109 : xm_cm xq_109 = true := by decide +kernel
set_option maxRecDepth 100000 in
theorem xk_110 : xm_cm xq_110 = true := by decide +kernel
set_option maxRecDepth 100000 in
theorem xk_111 : xm_cm xq_111 = true := by decide +kernel
set_option maxRecDepth 100000 in
theorem xk_112 : xm_cm xq_112 = true := by decide +kernel
set_option maxRecDepth 100000 in
theorem xk_113 : xm_cm xq_113 = true := by decide +kernel
set_option maxRecDepth 100000 in
theorem xk_114 : xm_cm xq_114 = true := by decide +kernel
set_option maxRecDepth 100000 in
theorem xk_115 : xm_cm xq_115 = true := by decide +kernel
set_option maxRecDepth 100000 in
theorem xk_116 : xm_cm xq_116 = true := by decide +kernel
set_option maxRecDepth 100000 in
theorem xk_117 : xm_cm xq_117 = true := by decide +kernel
set_option maxRecDepth 100000 in
theorem xk_118 : xm_cm xq_118 = true := by decide +kernel
set_option maxRecDepth 100000 in
theorem xk_119 : xm_cm xq_119 = true := by decide +kernel
set_option maxRecDepth 100000 in
theorem xk_120 : xm_cm xq_120 = true := by decide +kernel
set_option maxRecDepth 100000 in
theorem xk_121 : xm_cm xq_121 = true := by decide +kernel
set_option maxRecDepth 100000 in
theorem xk_122 : xm_cm xq_122 = true := by decide +kernel
set_option maxRecDepth 100000 in
theorem xk_123 : xm_cm xq_123 = true := by decide +kernel
set_option maxRecDepth 100000 in
theorem xk_124 : xm_cm xq_124 = true := by decide +kernel
set_option maxRecDepth 100000 in
theorem xk_125 : xm_cm xq_125 = true := by decide +kernel
set_option maxRecDepth 100000 in
theorem xk_126 : xm_cm xq_126 = true := by decide +kernel
set_option maxRecDepth 100000 in
theorem xk_127 : xm_cm xq_127 = true := by decide +kernel
set_option maxRecDepth 100000 in
theorem xk_128 : xm_cm xq_128 = true := by decide +kernel
set_option maxRecDepth 100000 in
theorem xk_129 : xm_cm xq_129 = true := by decide +kernel
set_option maxRecDepth 100000 in
theorem xk_130 : xm_cm xq_130 = true := by decide +kernel
set_option maxRecDepth 100000 in
theorem xk_131 : xm_cm xq_131 = true := by decide +kernel
set_option maxRecDepth 100000 in
theorem xk_132 : xm_cm xq_132 = true := by decide +kernel
set_option maxRecDepth 100000 in
theorem xk_133 : xm_cm xq_133 = true := by decide +kernel
set_option maxRecDepth 100000 in
theorem xk_134 : xm_cm xq_134 = true := by decide +kernel
set_option maxRecDepth 100000 in
theorem xk_135 : xm_cm xq_135 = true := by decide +kernel
set_option maxRecDepth 100000 in
theorem xk_136 : xm_cm xq_136 = true := by decide +kernel
set_option maxRecDepth 100000 in
theorem xk_137 : xm_cm xq_137 = true := by decide +kernel
set_option maxRecDepth 100000 in
theorem xk_138 : xm_cm xq_138 = true := by decide +kernel
set_option maxRecDepth 100000 in
theorem xk_139 : xm_cm xq_139 = true := by decide +kernel
