/-! ===== the law, decoded ===== -/
theorem xr_1162 : xd5 1162 4 := by decide +kernel
theorem xr_1167 : xd5 1167 5 := by decide +kernel
theorem xd_1172 : decode code 1172 = .ok (.invokevirtual 142, 3) := by decide +kernel
theorem xd_1175 : decode code 1175 = .ok (.if_icmp .eq 5, 3) := by decide +kernel
theorem xd_1178 : decode code 1178 = .ok (.iconst 0, 1) := by decide +kernel
theorem xd_1179 : decode code 1179 = .ok (.ireturn, 1) := by decide +kernel
theorem xd_1180 : decode code 1180 = .ok (.iinc 3 7, 3) := by decide +kernel
theorem xd_1183 : decode code 1183 = .ok (.goto (-1165), 3) := by decide +kernel
theorem xd_1186 : decode code 1186 = .ok (.iconst 1, 1) := by decide +kernel
theorem xd_1187 : decode code 1187 = .ok (.ireturn, 1) := by decide +kernel
