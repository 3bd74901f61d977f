/-! ===== the tables hold: by a program that the kernel runs ===== -/
def xl_IN : List Nat := [0, 2, 3, 4, 5, 6, 7, 8, 106]
def xm_swk (pc : Nat) (lo : Int) : List (Int32 × Nat) → List Int → Bool
  | [], [] => true
  | (k, t) :: r, o :: os => decide (k.toInt = lo) && decide ((pc : Int) + o = (t : Int)) && xm_swk pc (lo + 1) r os
  | _, _ => false
def xm_lwk (pc : Nat) : List (Int32 × Nat) → List (Int × Int) → Bool
  | [], [] => true
  | (k, t) :: r, (m, o) :: os => decide (k.toInt = m) && decide ((pc : Int) + o = (t : Int)) && xm_lwk pc r os
  | _, _ => false
def xm_ce (own : Nat) (nm : String) (cc : ByteArray) (pc : Nat) : xm_E → Bool
  | (ins, len, (a, b, c), k, j, sw) => decide (decode cc pc = .ok (ins, len)) && match ins with
    | .iconst n => decide (len = 1) && decide (Int32.ofInt n = k)
    | .bipush n => decide (len = 2) && decide ((Int8.ofInt n).toInt32 = k)
    | .sipush n => decide (len = 3) && decide ((Int16.ofInt n).toInt32 = k)
    | .ldc i => decide (len = 2) && decide ((own, i, k) ∈ xl_KI)
    | .ldc_w i => decide (len = 3) && decide ((own, i, k) ∈ xl_KI)
    | .lconst n => decide (len = 1) && decide (Int64.ofNat (n : Nat) = j)
    | .ldc2_w i => decide (len = 3) && decide ((own, i, j) ∈ xl_KL)
    | .iload _ => decide (len = 2)
    | .lload _ => decide (len = 2)
    | .aload _ => decide (len = 2)
    | .istore _ => decide (len = 2)
    | .lstore _ => decide (len = 2)
    | .astore _ => decide (len = 2)
    | .iinc _ n => decide (len = 3) && decide (Int32.ofInt n = k)
    | .goto off => decide (len = 3) && decide ((pc : Int) + off = (a : Int))
    | .if_icmp _ off => decide (len = 3) && decide ((pc : Int) + off = (a : Int))
    | .ifCond _ off => decide (len = 3) && decide ((pc : Int) + off = (a : Int))
    | .ifnonnull off => decide (len = 3) && decide ((pc : Int) + off = (a : Int))
    | .tableswitch d lo hi offs => decide ((pc : Int) + d = (a : Int)) && decide (hi + 1 = lo + sw.length) && xm_swk pc lo sw offs.toList
    | .lookupswitch d ps => decide ((pc : Int) + d = (a : Int)) && (ps.toList.zip (ps.toList.drop 1)).all (fun (a, next) => a.1 < next.1) && xm_lwk pc sw ps.toList
    | .getfield i => decide (len = 3) && decide (b < 9) && decide (a < xm_N b) && decide ((own, i, b, a) ∈ xl_FL) && decide ((c = 0 ∧ ¬ xm_kd (xm_ty b a) = 2) ∨ (¬ c = 0 ∧ xm_kd (xm_ty b a) = 2))
    | .putfield i => decide (len = 3) && decide (b < 9) && decide (a < xm_N b) && decide ((own, i, b, a) ∈ xl_FL) && decide (xm_kd (xm_ty b a) = c) && decide (c = 2 → (xm_ty b a).isReference = true) && decide ((xm_TX b a).2.2.2 = false ∨ (xm_TX b a).2.2.2 = true ∧ nm = "<init>" ∧ (xm_TX b a).1 = xm_cn own)
    | .new i => decide (len = 3) && decide (a < 9) && decide ((own, i, a) ∈ xl_CN) && decide (a ∈ xl_IB)
    | .newarray t => decide (len = 2) && decide ((a = 0 ∧ t = .int) ∨ (a = 1 ∧ t = .long))
    | .anewarray i => decide (len = 3) && decide ((a = 2 ∧ (own, i, 20) ∈ xl_CO) ∨ (a = 3 ∧ (own, i, 21) ∈ xl_CO))
    | .multianewarray i dm => decide (len = 4) && decide (dm = 2) && decide ((own, i, 22) ∈ xl_CO)
    | .invokevirtual i => decide (len = 3) && decide (b = 0) && decide ((own, i, a) ∈ xl_ML) && decide (a ∈ xl_IM) && decide (a ∈ xl_VI) && decide ((a, c - 1) ∈ xl_NP)
    | .invokestatic i => decide (len = 3) && (decide (b = 11 ∧ (own, i, 11) ∈ xl_MA) || decide (b = 12 ∧ (own, i, 12) ∈ xl_MA) || decide (b = 13 ∧ (own, i, 13) ∈ xl_MA) || decide ((b = 9 ∨ b = 10) ∧ (own, i) ∈ xl_AC) || decide ((b = 0 ∨ b = 1) ∧ (b = 0 → (own, i, a) ∈ xl_ML) ∧ (b = 1 → (own, i, a) ∈ xl_MN) ∧ a ∈ xl_ST ∧ (a, c) ∈ xl_NP))
    | .invokespecial i => decide (len = 3) && (decide (b = 9 ∧ (own, i) ∈ xl_OI) || decide ((b = 0 ∨ b = 1) ∧ (b = 0 → (own, i, a) ∈ xl_ML) ∧ (b = 1 → (own, i, a) ∈ xl_MN) ∧ a ∈ xl_IM ∧ a ∈ xl_IN ∧ (a, c - 1) ∈ xl_NP))
    | _ => decide (len = 1)
theorem xm_sw_out {d : Nat} {pc : Nat} : ∀ (sw : List (Int32 × Nat)) (os : List Int) (lo : Int) (x : Int32), xm_swk pc lo sw os = true → (x.toInt < lo ∨ lo + sw.length ≤ x.toInt) → xm_sw sw d x = d
  | [], _, _, _, _, _ => rfl
  | (k, t) :: r, [], _, _, h, _ => by cases h
  | (k, t) :: r, o :: os, lo, x, h, hx => by
    simp only [xm_swk, Bool.and_eq_true, decide_eq_true_eq] at h
    have hne : ¬ x = k := by
      intro q
      subst q
      simp only [List.length_cons] at hx
      omega
    rw [xm_sw, if_neg hne]
    exact xm_sw_out r os (lo + 1) x h.2 (by simp only [List.length_cons] at hx; omega)
theorem xm_sw_in {d : Nat} {pc : Nat} : ∀ (sw : List (Int32 × Nat)) (os : List Int) (lo : Int) (x : Int32) (i : Nat), xm_swk pc lo sw os = true → x.toInt = lo + i → i < sw.length → ∃ off, os[i]? = some off ∧ (pc : Int) + off = (xm_sw sw d x : Int)
  | [], _, _, _, _, _, _, hi => by simp at hi
  | (k, t) :: r, [], _, _, _, h, _, _ => by cases h
  | (k, t) :: r, o :: os, lo, x, i, h, hx, hi => by
    simp only [xm_swk, Bool.and_eq_true, decide_eq_true_eq] at h
    cases i with
    | zero =>
      have he : x = k := Int32.toInt_inj.mp (by rw [h.1.1]; simpa using hx)
      refine ⟨o, rfl, ?_⟩
      rw [xm_sw, if_pos he]
      exact h.1.2
    | succ i =>
      have hne : ¬ x = k := by
        intro q
        subst q
        rw [h.1.1] at hx
        omega
      obtain ⟨off, h1, h2⟩ := xm_sw_in (d := d) r os (lo + 1) x i h.2 (by rw [hx]; omega) (by simpa using hi)
      refine ⟨off, by simpa using h1, ?_⟩
      rw [xm_sw, if_neg hne]
      exact h2
theorem xm_tsw_of {pc d : Nat} {dflt lo hi : Int} {offs : Array Int} {sw : List (Int32 × Nat)} (h1 : (pc : Int) + dflt = (d : Int)) (h2 : hi + 1 = lo + sw.length) (h3 : xm_swk pc lo sw offs.toList = true) : xm_tsw pc dflt lo hi offs sw d := by
  intro x
  by_cases hx : x.toInt < lo ∨ hi < x.toInt
  · left
    refine ⟨hx, ?_⟩
    rw [xm_sw_out sw offs.toList lo x h3 (by omega)]
    exact h1
  · right
    have q1 : ¬ x.toInt < lo := fun q => hx (Or.inl q)
    have q2 : ¬ hi < x.toInt := fun q => hx (Or.inr q)
    obtain ⟨off, e1, e2⟩ := xm_sw_in (d := d) sw offs.toList lo x (x.toInt - lo).toNat h3 (by omega) (by omega)
    exact ⟨q1, q2, off, by simpa using e1, e2⟩
theorem xm_lsw_of {pc d : Nat} {dflt : Int} (h1 : (pc : Int) + dflt = (d : Int)) : ∀ (ps : List (Int × Int)) (sw : List (Int32 × Nat)), xm_lwk pc sw ps = true → ∀ x : Int32, (pc : Int) + Op.lookupswitch.offset ps dflt x.toInt = (xm_sw sw d x : Int)
  | [], [], _, x => by
    show (pc : Int) + dflt = _
    rw [h1]
    rfl
  | [], _ :: _, h, _ => by cases h
  | _ :: _, [], h, _ => by cases h
  | (m, o) :: ps, (k, t) :: sw, h, x => by
    simp only [xm_lwk, Bool.and_eq_true, decide_eq_true_eq] at h
    by_cases he : x = k
    · subst he
      rw [Op.lookupswitch.offset_cons, if_pos (by rw [h.1.1]), xm_sw, if_pos rfl]
      exact h.1.2
    · rw [lv_osw he h.1.1, xm_sw, if_neg he]
      exact xm_lsw_of h1 ps sw h.2 x
set_option maxHeartbeats 4000000 in
theorem xm_ce_ok {own : Nat} {nm : String} {cc : ByteArray} {pc : Nat} {e : xm_E} (h : xm_ce own nm cc pc e = true) : xm_lk xm_pr (xm_cn own) nm cc pc e := by
  obtain ⟨ins, len, ⟨a, b, c⟩, k, j, sw⟩ := e
  simp only [xm_ce, Bool.and_eq_true, decide_eq_true_eq] at h
  obtain ⟨hd, h⟩ := h
  refine ⟨hd, ?_⟩
  have one : ∀ w ∈ xl_one, w ∈ xm_tb := xo_one
  cases ins
  case ldc i => simp only [Bool.and_eq_true, decide_eq_true_eq] at h; exact ⟨h.1, xm_mem_map xo_KI h.2⟩
  case ldc_w i => simp only [Bool.and_eq_true, decide_eq_true_eq] at h; exact ⟨h.1, xm_mem_map xo_KI h.2⟩
  case ldc2_w i => simp only [Bool.and_eq_true, decide_eq_true_eq] at h; exact ⟨h.1, xm_mem_map xo_KL h.2⟩
  case tableswitch d lo hi offs => simp only [Bool.and_eq_true, decide_eq_true_eq] at h; exact xm_tsw_of h.1.1 h.1.2 h.2
  case lookupswitch d ps => simp only [Bool.and_eq_true, decide_eq_true_eq] at h; exact ⟨h.1.2, xm_lsw_of h.1.1 _ _ h.2⟩
  case getfield i => simp only [Bool.and_eq_true, decide_eq_true_eq] at h; exact ⟨h.1.1.1.1, h.1.1.1.2, h.1.1.2, xm_mem_map xo_FL h.1.2, h.2⟩
  case putfield i => simp only [Bool.and_eq_true, decide_eq_true_eq] at h; exact ⟨h.1.1.1.1.1.1, h.1.1.1.1.1.2, h.1.1.1.1.2, xm_mem_map xo_FL h.1.1.1.2, h.1.1.2, h.1.2, h.2⟩
  case new i => simp only [Bool.and_eq_true, decide_eq_true_eq] at h; exact ⟨h.1.1.1, h.1.1.2, xm_mem_map xo_CN h.1.2, xm_mem_map xo_IB h.2, by
      have h9 := h.1.1.2
      match a, h9 with
      | 0, _ => exact xm_mem_map (a := 0) xo_IZ (by decide)
      | 1, _ => exact xm_mem_map (a := 1) xo_IZ (by decide)
      | 2, _ => exact xm_mem_map (a := 2) xo_IZ (by decide)
      | 3, _ => exact xm_mem_map (a := 3) xo_IZ (by decide)
      | 4, _ => exact xm_mem_map (a := 4) xo_IZ (by decide)
      | 5, _ => exact xm_mem_map (a := 5) xo_IZ (by decide)
      | 6, _ => exact xm_mem_map (a := 6) xo_IZ (by decide)
      | 7, _ => exact xm_mem_map (a := 7) xo_IZ (by decide)
      | 8, _ => exact xm_mem_map (a := 8) xo_IZ (by decide)⟩
  case newarray t =>
    simp only [Bool.and_eq_true, decide_eq_true_eq] at h
    refine ⟨h.1, h.2, ?_⟩
    rcases h.2 with ⟨-, rfl⟩ | ⟨-, rfl⟩ <;> exact one _ (by simp [xl_one, newarray.typeOf])
  case anewarray i =>
    simp only [Bool.and_eq_true, decide_eq_true_eq] at h
    refine ⟨h.1, ?_⟩
    rcases h.2 with ⟨q, z⟩ | ⟨q, z⟩
    · exact Or.inl ⟨q, xm_mem_map (a := (own, i, 20)) xo_CO z, one _ (by simp [xl_one])⟩
    · exact Or.inr ⟨q, xm_mem_map (a := (own, i, 21)) xo_CO z, one _ (by simp [xl_one])⟩
  case multianewarray i dm =>
    simp only [Bool.and_eq_true, decide_eq_true_eq] at h
    exact ⟨h.1.1, h.1.2, xm_mem_map (a := (own, i, 22)) xo_CO h.2, one _ (by simp [xl_one]), one _ (by simp [xl_one])⟩
  case invokevirtual i =>
    simp only [Bool.and_eq_true, decide_eq_true_eq] at h
    exact ⟨h.1.1.1.1.1, h.1.1.1.1.2, xm_mem_map (a := (own, i, a)) xo_ML h.1.1.1.2, xm_mem_map xo_IM h.1.1.2, xm_mem_map xo_VI h.1.2, xo_NP _ h.2, (xo_VC _ h.1.2).1, (xo_VC _ h.1.2).2⟩
  case invokestatic i =>
    simp only [Bool.and_eq_true, Bool.or_eq_true, decide_eq_true_eq] at h
    refine ⟨h.1, ?_⟩
    rcases h.2 with (((⟨q, z⟩ | ⟨q, z⟩) | ⟨q, z⟩) | ⟨q, z⟩) | ⟨q, z1, z2, z3, z4⟩
    · exact Or.inl ⟨q, xm_mem_map (a := (own, i, 11)) xo_MA z, one _ (by simp [xl_one]), one _ (by simp [xl_one]), one _ (by simp [xl_one])⟩
    · exact Or.inr (Or.inl ⟨q, xm_mem_map (a := (own, i, 12)) xo_MA z, one _ (by simp [xl_one]), one _ (by simp [xl_one]), one _ (by simp [xl_one])⟩)
    · exact Or.inr (Or.inr (Or.inl ⟨q, xm_mem_map (a := (own, i, 13)) xo_MA z, one _ (by simp [xl_one]), one _ (by simp [xl_one]), one _ (by simp [xl_one])⟩))
    · exact Or.inr (Or.inr (Or.inr (Or.inl ⟨q, xm_mem_map (a := (own, i)) xo_AC z, one _ (by simp [xl_one]), one _ (by simp [xl_one]), one _ (by simp [xl_one])⟩)))
    · exact Or.inr <| Or.inr <| Or.inr <| Or.inr ⟨q, fun y => xm_mem_map (a := (own, i, a)) xo_ML (z1 y), fun y => xm_mem_map (a := (own, i, a)) xo_MN (z2 y), xm_mem_map xo_ST z3, xo_NP _ z4⟩
  case invokespecial i =>
    simp only [Bool.and_eq_true, Bool.or_eq_true, decide_eq_true_eq] at h
    refine ⟨h.1, ?_⟩
    rcases h.2 with ⟨q, z⟩ | ⟨q, z1, z2, z3, z4, z5⟩
    · exact Or.inl ⟨q, xm_mem_map (a := (own, i)) xo_OI z, one _ (by simp [xl_one]), one _ (by simp [xl_one])⟩
    · exact Or.inr ⟨q, fun y => xm_mem_map (a := (own, i, a)) xo_ML (z1 y), fun y => xm_mem_map (a := (own, i, a)) xo_MN (z2 y), xm_mem_map xo_IM z3, (xo_IN _ z4).1, (xo_IN _ z4).2, xo_NP _ z5⟩
  all_goals (simpa only [Bool.and_eq_true, decide_eq_true_eq] using h)
theorem xm_f1_mem : ∀ (l : List (Nat × xm_E)) (pc : Nat) (e : xm_E), xm_f1 l pc = some e → (pc, e) ∈ l
  | [], _, _, h => by cases h
  | (k, e0) :: t, pc, e, h => by
    unfold xm_f1 at h
    split at h
    · rename_i q
      cases h
      rw [Nat.eq_of_beq_eq_true q]
      exact List.mem_cons_self
    · exact List.mem_cons_of_mem _ (xm_f1_mem t pc e h)
theorem xm_f_mem : ∀ (l : List (Nat × List (Nat × xm_E))) (pc : Nat) (e : xm_E), xm_f l pc = some e → ∃ q ∈ l, (pc, e) ∈ q.2
  | [], _, _, h => by cases h
  | (k, l0) :: t, pc, e, h => by
    unfold xm_f at h
    split at h
    · exact ⟨_, List.mem_cons_self, xm_f1_mem _ _ _ h⟩
    · obtain ⟨q, h1, h2⟩ := xm_f_mem t pc e h
      exact ⟨q, List.mem_cons_of_mem _ h1, h2⟩
def xm_cm (M : xm_M) : Bool := M.2.2.2.2.2.all (fun q => q.2.all (fun z => xm_ce M.2.2.2.2.1 M.1.name M.2.1 z.1 z.2)) && decide (xm_cn M.2.2.2.2.1 = M.1.cls) && decide (M.2.2.1 ≤ 60) && plainName M.1.cls && decide (M.2.2.2.2.1 < 12) && decide (M.1.cls ≠ "java/lang/invoke/MethodHandle" ∧ M.1.cls ≠ "java/lang/invoke/VarHandle")
theorem xm_cm_lk {M : xm_M} (h : xm_cm M = true) {pc : Nat} {e : xm_E} (he : xm_f M.2.2.2.2.2 pc = some e) : xm_lk xm_pr M.1.cls M.1.name M.2.1 pc e := by
  simp only [xm_cm, Bool.and_eq_true, decide_eq_true_eq] at h
  obtain ⟨q, h1, h2⟩ := xm_f_mem _ _ _ he
  have h3 := List.all_eq_true.mp h.1.1.1.1.1 q h1
  have h4 := List.all_eq_true.mp h3 _ h2
  have h5 := xm_ce_ok h4
  rw [h.1.1.1.1.2] at h5
  exact h5
