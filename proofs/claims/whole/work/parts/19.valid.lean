set_option maxRecDepth 100000 in
theorem xm_all_cm : ∀ M ∈ xm_prog, xm_cm M = true := List.forall_mem_cons.mpr ⟨xk_0, List.forall_mem_cons.mpr ⟨xk_0, List.forall_mem_cons.mpr ⟨xk_2, List.forall_mem_cons.mpr ⟨xk_3, List.forall_mem_cons.mpr ⟨xk_4, List.forall_mem_cons.mpr ⟨xk_5, List.forall_mem_cons.mpr ⟨xk_6, List.forall_mem_cons.mpr ⟨xk_7, List.forall_mem_cons.mpr ⟨xk_8, List.forall_mem_cons.mpr ⟨xk_9, List.forall_mem_cons.mpr ⟨xk_10, List.forall_mem_cons.mpr ⟨xk_11, List.forall_mem_cons.mpr ⟨xk_12, List.forall_mem_cons.mpr ⟨xk_13, List.forall_mem_cons.mpr ⟨xk_14, List.forall_mem_cons.mpr ⟨xk_15, List.forall_mem_cons.mpr ⟨xk_16, List.forall_mem_cons.mpr ⟨xk_17, List.forall_mem_cons.mpr ⟨xk_18, List.forall_mem_cons.mpr ⟨xk_19, List.forall_mem_cons.mpr ⟨xk_20, List.forall_mem_cons.mpr ⟨xk_21, List.forall_mem_cons.mpr ⟨xk_22, List.forall_mem_cons.mpr ⟨xk_23, List.forall_mem_cons.mpr ⟨xk_24, List.forall_mem_cons.mpr ⟨xk_25, List.forall_mem_cons.mpr ⟨xk_0, List.forall_mem_cons.mpr ⟨xk_0, List.forall_mem_cons.mpr ⟨xk_28, List.forall_mem_cons.mpr ⟨xk_29, List.forall_mem_cons.mpr ⟨xk_30, List.forall_mem_cons.mpr ⟨xk_31, List.forall_mem_cons.mpr ⟨xk_32, List.forall_mem_cons.mpr ⟨xk_33, List.forall_mem_cons.mpr ⟨xk_0, List.forall_mem_cons.mpr ⟨xk_35, List.forall_mem_cons.mpr ⟨xk_36, List.forall_mem_cons.mpr ⟨xk_37, List.forall_mem_cons.mpr ⟨xk_38, List.forall_mem_cons.mpr ⟨xk_39, List.forall_mem_cons.mpr ⟨xk_40, List.forall_mem_cons.mpr ⟨xk_41, List.forall_mem_cons.mpr ⟨xk_42, List.forall_mem_cons.mpr ⟨xk_43, List.forall_mem_cons.mpr ⟨xk_44, List.forall_mem_cons.mpr ⟨xk_45, List.forall_mem_cons.mpr ⟨xk_46, List.forall_mem_cons.mpr ⟨xk_47, List.forall_mem_cons.mpr ⟨xk_48, List.forall_mem_cons.mpr ⟨xk_49, List.forall_mem_cons.mpr ⟨xk_50, List.forall_mem_cons.mpr ⟨xk_51, List.forall_mem_cons.mpr ⟨xk_52, List.forall_mem_cons.mpr ⟨xk_53, List.forall_mem_cons.mpr ⟨xk_54, List.forall_mem_cons.mpr ⟨xk_55, List.forall_mem_cons.mpr ⟨xk_56, List.forall_mem_cons.mpr ⟨xk_57, List.forall_mem_cons.mpr ⟨xk_58, List.forall_mem_cons.mpr ⟨xk_59, List.forall_mem_cons.mpr ⟨xk_60, List.forall_mem_cons.mpr ⟨xk_61, List.forall_mem_cons.mpr ⟨xk_62, List.forall_mem_cons.mpr ⟨xk_63, List.forall_mem_cons.mpr ⟨xk_64, List.forall_mem_cons.mpr ⟨xk_65, List.forall_mem_cons.mpr ⟨xk_66, List.forall_mem_cons.mpr ⟨xk_67, List.forall_mem_cons.mpr ⟨xk_68, List.forall_mem_cons.mpr ⟨xk_69, List.forall_mem_cons.mpr ⟨xk_70, List.forall_mem_cons.mpr ⟨xk_71, List.forall_mem_cons.mpr ⟨xk_72, List.forall_mem_cons.mpr ⟨xk_73, List.forall_mem_cons.mpr ⟨xk_74, List.forall_mem_cons.mpr ⟨xk_75, List.forall_mem_cons.mpr ⟨xk_76, List.forall_mem_cons.mpr ⟨xk_77, List.forall_mem_cons.mpr ⟨xk_78, List.forall_mem_cons.mpr ⟨xk_79, List.forall_mem_cons.mpr ⟨xk_80, List.forall_mem_cons.mpr ⟨xk_81, List.forall_mem_cons.mpr ⟨xk_82, List.forall_mem_cons.mpr ⟨xk_83, List.forall_mem_cons.mpr ⟨xk_84, List.forall_mem_cons.mpr ⟨xk_85, List.forall_mem_cons.mpr ⟨xk_86, List.forall_mem_cons.mpr ⟨xk_87, List.forall_mem_cons.mpr ⟨xk_88, List.forall_mem_cons.mpr ⟨xk_89, List.forall_mem_cons.mpr ⟨xk_90, List.forall_mem_cons.mpr ⟨xk_91, List.forall_mem_cons.mpr ⟨xk_92, List.forall_mem_cons.mpr ⟨xk_93, List.forall_mem_cons.mpr ⟨xk_94, List.forall_mem_cons.mpr ⟨xk_95, List.forall_mem_cons.mpr ⟨xk_96, List.forall_mem_cons.mpr ⟨xk_97, List.forall_mem_cons.mpr ⟨xk_98, List.forall_mem_cons.mpr ⟨xk_99, List.forall_mem_cons.mpr ⟨xk_100, List.forall_mem_cons.mpr ⟨xk_101, List.forall_mem_cons.mpr ⟨xk_102, List.forall_mem_cons.mpr ⟨xk_103, List.forall_mem_cons.mpr ⟨xk_104, List.forall_mem_cons.mpr ⟨xk_105, List.forall_mem_cons.mpr ⟨xk_106, List.forall_mem_cons.mpr ⟨xk_107, List.forall_mem_cons.mpr ⟨xk_108, List.forall_mem_cons.mpr ⟨xk_109, List.forall_mem_cons.mpr ⟨xk_110, List.forall_mem_cons.mpr ⟨xk_111, List.forall_mem_cons.mpr ⟨xk_112, List.forall_mem_cons.mpr ⟨xk_113, List.forall_mem_cons.mpr ⟨xk_114, List.forall_mem_cons.mpr ⟨xk_115, List.forall_mem_cons.mpr ⟨xk_116, List.forall_mem_cons.mpr ⟨xk_117, List.forall_mem_cons.mpr ⟨xk_118, List.forall_mem_cons.mpr ⟨xk_119, List.forall_mem_cons.mpr ⟨xk_120, List.forall_mem_cons.mpr ⟨xk_121, List.forall_mem_cons.mpr ⟨xk_122, List.forall_mem_cons.mpr ⟨xk_123, List.forall_mem_cons.mpr ⟨xk_124, List.forall_mem_cons.mpr ⟨xk_125, List.forall_mem_cons.mpr ⟨xk_126, List.forall_mem_cons.mpr ⟨xk_127, List.forall_mem_cons.mpr ⟨xk_128, List.forall_mem_cons.mpr ⟨xk_129, List.forall_mem_cons.mpr ⟨xk_130, List.forall_mem_cons.mpr ⟨xk_131, List.forall_mem_cons.mpr ⟨xk_132, List.forall_mem_cons.mpr ⟨xk_133, List.forall_mem_cons.mpr ⟨xk_134, List.forall_mem_cons.mpr ⟨xk_135, List.forall_mem_cons.mpr ⟨xk_136, List.forall_mem_cons.mpr ⟨xk_137, List.forall_mem_cons.mpr ⟨xk_138, List.forall_mem_cons.mpr ⟨xk_139, List.forall_mem_cons.mpr ⟨xk_140, List.forall_mem_cons.mpr ⟨xk_141, List.forall_mem_cons.mpr ⟨xk_142, List.forall_mem_cons.mpr ⟨xk_143, List.forall_mem_cons.mpr ⟨xk_144, List.forall_mem_cons.mpr ⟨xk_145, List.forall_mem_cons.mpr ⟨xk_146, List.forall_mem_cons.mpr ⟨xk_147, List.forall_mem_cons.mpr ⟨xk_148, List.forall_mem_cons.mpr ⟨xk_149, List.forall_mem_cons.mpr ⟨xk_150, List.forall_mem_cons.mpr ⟨xk_151, List.forall_mem_cons.mpr ⟨xk_152, List.forall_mem_cons.mpr ⟨xk_153, List.forall_mem_cons.mpr ⟨xk_154, List.forall_mem_cons.mpr ⟨xk_155, List.forall_mem_cons.mpr ⟨xk_156, List.forall_mem_cons.mpr ⟨xk_157, List.forall_mem_cons.mpr ⟨xk_158, List.forall_mem_cons.mpr ⟨xk_159, List.forall_mem_cons.mpr ⟨xk_160, List.forall_mem_cons.mpr ⟨xk_161, List.forall_mem_cons.mpr ⟨xk_162, List.forall_mem_cons.mpr ⟨xk_163, List.forall_mem_cons.mpr ⟨xk_164, List.forall_mem_cons.mpr ⟨xk_165, List.forall_mem_cons.mpr ⟨xk_166, List.forall_mem_cons.mpr ⟨xk_167, List.forall_mem_cons.mpr ⟨xk_168, List.forall_mem_cons.mpr ⟨xk_169, List.forall_mem_cons.mpr ⟨xk_170, List.forall_mem_cons.mpr ⟨xk_171, fun _ h => absurd h List.not_mem_nil⟩⟩⟩⟩⟩⟩⟩⟩⟩⟩⟩⟩⟩⟩⟩⟩⟩⟩⟩⟩⟩⟩⟩⟩⟩⟩⟩⟩⟩⟩⟩⟩⟩⟩⟩⟩⟩⟩⟩⟩⟩⟩⟩⟩⟩⟩⟩⟩⟩⟩⟩⟩⟩⟩⟩⟩⟩⟩⟩⟩⟩⟩⟩⟩⟩⟩⟩⟩⟩⟩⟩⟩⟩⟩⟩⟩⟩⟩⟩⟩⟩⟩⟩⟩⟩⟩⟩⟩⟩⟩⟩⟩⟩⟩⟩⟩⟩⟩⟩⟩⟩⟩⟩⟩⟩⟩⟩⟩⟩⟩⟩⟩⟩⟩⟩⟩⟩⟩⟩⟩⟩⟩⟩⟩⟩⟩⟩⟩⟩⟩⟩⟩⟩⟩⟩⟩⟩⟩⟩⟩⟩⟩⟩⟩⟩⟩⟩⟩⟩⟩⟩⟩⟩⟩⟩⟩⟩⟩⟩⟩⟩⟩⟩⟩⟩⟩⟩⟩⟩⟩⟩⟩
theorem xm_pr_mem (i : Nat) : xm_pr i ∈ xm_prog := by
  unfold xm_pr
  rcases Nat.lt_or_ge i xm_prog.length with h | h
  · rw [List.getD_eq_getElem?_getD, List.getElem?_eq_getElem h]
    exact List.getElem_mem h
  · rw [List.getD_eq_getElem?_getD, List.getElem?_eq_none h]
    exact List.mem_cons_self
theorem xm_pr_out {i : Nat} (h : 172 ≤ i) : xm_pr i = xq_0 := by
  unfold xm_pr
  rw [List.getD_eq_getElem?_getD, List.getElem?_eq_none (show xm_prog.length ≤ i from h)]
  rfl
theorem xm_pr_lists : ∀ i, i < 172 → i ∈ xl_CD0 ∨ i ∈ xl_CD1 ∨ i ∈ xl_CD2 ∨ i ∈ xl_CD3 ∨ i ∈ xl_CD4 ∨ i ∈ xl_CD5 ∨ i ∈ xl_CD6 ∨ i ∈ xl_CD7 ∨ i ∈ xl_CD8 ∨ i ∈ ([1, 26, 27, 34] : List Nat) := by decide +kernel
theorem xm_pr_code (i : Nat) : xw_CD i ∈ xm_tb := by
  have h0 : xw_CD 0 ∈ xm_tb := xm_mem_map (a := 0) xo_CD0 (by decide)
  rcases Nat.lt_or_ge i 172 with h | h
  · rcases xm_pr_lists i h with q | q | q | q | q | q | q | q | q | q
    · exact xm_mem_map xo_CD0 q
    · exact xm_mem_map xo_CD1 q
    · exact xm_mem_map xo_CD2 q
    · exact xm_mem_map xo_CD3 q
    · exact xm_mem_map xo_CD4 q
    · exact xm_mem_map xo_CD5 q
    · exact xm_mem_map xo_CD6 q
    · exact xm_mem_map xo_CD7 q
    · exact xm_mem_map xo_CD8 q
    · simp only [List.mem_cons, List.not_mem_nil, or_false] at q
      rcases q with rfl | rfl | rfl | rfl <;> exact h0
  · have e : xw_CD i = xw_CD 0 := by
      unfold xw_CD
      rw [xm_pr_out h]
      rfl
    rw [e]
    exact h0
theorem xm_V : xm_valid xm_pr := by
  refine ⟨fun i => ?_, fun i pc e he => xm_cm_lk (xm_all_cm _ (xm_pr_mem i)) he⟩
  have h := xm_all_cm _ (xm_pr_mem i)
  simp only [xm_cm, Bool.and_eq_true, decide_eq_true_eq] at h
  obtain ⟨⟨⟨⟨⟨h1, h2⟩, h3⟩, h4⟩, h5⟩, h6⟩ := h
  refine ⟨xm_pr_code i, ?_, h4, h6, h3⟩
  rw [← h2]
  have hz : ∀ k, k < 12 → k ∈ xl_IZ := by decide
  exact xm_mem_map xo_IZ (hz _ h5)
