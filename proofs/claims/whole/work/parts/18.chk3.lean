set_option maxRecDepth 100000 in
theorem xk_140 : xm_cm xq_140 = true := by decide +kernel
set_option maxRecDepth 100000 in
theorem xk_141 : xm_cm xq_141 = true := by decide +kernel
set_option maxRecDepth 100000 in
theorem xk_142 : xm_cm xq_142 = true := by decide +kernel
set_option maxRecDepth 100000 in
theorem xk_143 : xm_cm xq_143 = true := by decide +kernel
set_option maxRecDepth 100000 in
theorem xk_144 : xm_cm xq_144 = true := by decide +kernel
set_option maxRecDepth 100000 in
theorem xk_145 : xm_cm xq_145 = true := by decide +kernel
set_option maxRecDepth 100000 in
theorem xk_146 : xm_cm xq_146 = true := by decide +kernel
set_option maxRecDepth 100000 in
theorem xk_147 : xm_cm xq_147 = true := by decide +kernel
set_option maxRecDepth 100000 in
theorem xk_148 : xm_cm xq_148 = true := by decide +kernel
set_option maxRecDepth 100000 in
theorem xk_149 : xm_cm xq_149 = true := by decide +kernel
set_option maxRecDepth 100000 in
theorem xk_150 : xm_cm xq_150 = true := by decide +kernel
set_option maxRecDepth 100000 in
theorem xk_151 : xm_cm xq_151 = true := by decide +kernel
set_option maxRecDepth 100000 in
theorem xk_152 : xm_cm xq_152 = true := by decide +kernel
set_option maxRecDepth 100000 in
theorem xk_153 : xm_cm xq_153 = true := by decide +kernel
set_option maxRecDepth 100000 in
theorem xk_154 : xm_cm xq_154 = true := by decide +kernel
set_option maxRecDepth 100000 in
theorem xk_155 : xm_cm xq_155 = true := by decide +kernel
set_option maxRecDepth 100000 in
theorem xk_156 : xm_cm xq_156 = true := by decide +kernel
set_option maxRecDepth 100000 in
theorem xk_157 : xm_cm xq_157 = true := by decide +kernel
set_option maxRecDepth 100000 in
theorem xk_158 : xm_cm xq_158 = true := by decide +kernel
set_option maxRecDepth 100000 in
theorem xk_159 : xm_cm xq_159 = true := by decide +kernel
set_option maxRecDepth 100000 in
theorem xk_160 : xm_cm xq_160 = true := by decide +kernel
set_option maxRecDepth 100000 in
theorem xk_161 : xm_cm xq_161 = true := by decide +kernel
set_option maxRecDepth 100000 in
theorem xk_162 : xm_cm xq_162 = true := by decide +kernel
set_option maxRecDepth 100000 in
theorem xk_163 : xm_cm xq_163 = true := by decide +kernel
set_option maxRecDepth 100000 in
theorem xk_164 : xm_cm xq_164 = true := by decide +kernel
set_option maxRecDepth 100000 in
theorem xk_165 : xm_cm xq_165 = true := by decide +kernel
set_option maxRecDepth 100000 in
theorem xk_166 : xm_cm xq_166 = true := by decide +kernel
set_option maxRecDepth 100000 in
theorem xk_167 : xm_cm xq_167 = true := by decide +kernel
set_option maxRecDepth 100000 in
theorem xk_168 : xm_cm xq_168 = true := by decide +kernel
set_option maxRecDepth 100000 in
theorem xk_169 : xm_cm xq_169 = true := by decide +kernel
set_option maxRecDepth 100000 in
theorem xk_170 : xm_cm xq_170 = true := by decide +kernel
set_option maxRecDepth 100000 in
theorem xk_171 : xm_cm xq_171 = true := by decide +kernel
