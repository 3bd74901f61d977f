/-! ===== the abstract machine's state and the machine's ===== -/
def xm_isNA : Cond → Bool
  | .methodLinkNest .. => true
  | .arrayOver _ => true
  | _ => false
/-- the words that a callee may have -/
def xm_tb : List Cond := lw_tbl.filter (fun w => goodWord w || xm_isNA w)
theorem xm_tb_lw : ∀ w ∈ xm_tb, w ∈ lw_tbl := fun _ h => (List.mem_filter.mp h).1
def xm_r (B : Nat) : Value → Value
  | .ref a => .ref (B + a)
  | v => v
theorem xm_r_cat (B : Nat) (v : Value) : (xm_r B v).category = v.category := by cases v <;> rfl
abbrev xm_cl : List vw_C := [(RX0, TX0, 4), (RX1, TX1, 12), (RX2, TX2, 3), (RX3, TX3, 15), (RX4, TX4, 9), (RX5, TX5, 4), (RX6, TX6, 4), (RX7, TX7, 8), (RX8, TX8, 19)]
abbrev xm_T : Type := ClassId × ClassId × ClassId × ClassId × ClassId
abbrev xm_tys (T : xm_T) : List (ClassId × FieldType) := [(T.1, .int), (T.2.1, .long), (T.2.2.1, .object RX6), (T.2.2.2.1, .object RX5), (T.2.2.2.2, .array .int)]
def xm_ty : Nat → Nat → FieldType
  | 0 => tyX0 | 1 => tyX1 | 2 => tyX2 | 3 => tyX3 | 4 => tyX4 | 5 => tyX5 | 6 => tyX6 | 7 => tyX7 | _ => tyX8
def xm_TX : Nat → u_T
  | 0 => TX0 | 1 => TX1 | 2 => TX2 | 3 => TX3 | 4 => TX4 | 5 => TX5 | 6 => TX6 | 7 => TX7 | _ => TX8
def xm_RX : Nat → String
  | 0 => RX0 | 1 => RX1 | 2 => RX2 | 3 => RX3 | 4 => RX4 | 5 => RX5 | 6 => RX6 | 7 => RX7 | _ => RX8
def xm_kd : FieldType → Nat
  | .int => 0
  | .boolean => 1
  | _ => 2
theorem xm_cl_at {ci : Nat} (h : ci < 9) : xm_cl[ci]? = some (xm_RX ci, xm_TX ci, xm_N ci) := by
  match ci, h with
  | 0, _ => rfl
  | 1, _ => rfl
  | 2, _ => rfl
  | 3, _ => rfl
  | 4, _ => rfl
  | 5, _ => rfl
  | 6, _ => rfl
  | 7, _ => rfl
  | 8, _ => rfl
theorem xm_ty_ok {ci : Nat} (h : ci < 9) : ∀ k, k < xm_N ci → parseFieldDescriptor (xm_TX ci k).2.2.1 = some (xm_ty ci k) := by
  match ci, h with
  | 0, _ => exact tyX0_ok
  | 1, _ => exact tyX1_ok
  | 2, _ => exact tyX2_ok
  | 3, _ => exact tyX3_ok
  | 4, _ => exact tyX4_ok
  | 5, _ => exact tyX5_ok
  | 6, _ => exact tyX6_ok
  | 7, _ => exact tyX7_ok
  | 8, _ => exact tyX8_ok
theorem xm_nm_ok {ci : Nat} (h : ci < 9) : ∀ a, a < xm_N ci → ∀ b, b < xm_N ci → a ≠ b → (xm_TX ci a).2.1 ≠ (xm_TX ci b).2.1 := by
  match ci, h with
  | 0, _ => exact nmX0
  | 1, _ => exact nmX1
  | 2, _ => exact nmX2
  | 3, _ => exact nmX3
  | 4, _ => exact nmX4
  | 5, _ => exact nmX5
  | 6, _ => exact nmX6
  | 7, _ => exact nmX7
  | 8, _ => exact nmX8
theorem xm_in0 : ∀ w ∈ u_ws RX0 TX0 4, w ∈ xm_tb := by decide +kernel
theorem xm_in1 : ∀ w ∈ u_ws RX1 TX1 12, w ∈ xm_tb := by decide +kernel
theorem xm_in2 : ∀ w ∈ u_ws RX2 TX2 3, w ∈ xm_tb := by decide +kernel
theorem xm_in3 : ∀ w ∈ u_ws RX3 TX3 15, w ∈ xm_tb := by decide +kernel
theorem xm_in4 : ∀ w ∈ u_ws RX4 TX4 9, w ∈ xm_tb := by decide +kernel
theorem xm_in5 : ∀ w ∈ u_ws RX5 TX5 4, w ∈ xm_tb := by decide +kernel
theorem xm_in6 : ∀ w ∈ u_ws RX6 TX6 4, w ∈ xm_tb := by decide +kernel
theorem xm_in7 : ∀ w ∈ u_ws RX7 TX7 8, w ∈ xm_tb := by decide +kernel
theorem xm_in8 : ∀ w ∈ u_ws RX8 TX8 19, w ∈ xm_tb := by decide +kernel
theorem xm_in {ci : Nat} (h : ci < 9) : ∀ w ∈ u_ws (xm_RX ci) (xm_TX ci) (xm_N ci), w ∈ xm_tb := by
  match ci, h with
  | 0, _ => exact xm_in0
  | 1, _ => exact xm_in1
  | 2, _ => exact xm_in2
  | 3, _ => exact xm_in3
  | 4, _ => exact xm_in4
  | 5, _ => exact xm_in5
  | 6, _ => exact xm_in6
  | 7, _ => exact xm_in7
  | 8, _ => exact xm_in8
/-- a field's value -/
def xm_fv (B : Nat) (h : xm_H) (a ci k : Nat) : Value := if xm_kd (xm_ty ci k) = 2 then va_rf ((h.2.2.2 a k).map (B + ·)) else .int (h.2.1 a k)
/-- what a cell of a kind and a length holds -/
def xm_en (B : Nat) (T : xm_T) (h : xm_H) (a : Nat) : Nat × Nat → va_E
  | (0, n) => .inl (T.1, n, .inl (h.2.1 a))
  | (1, n) => .inl (T.2.1, n, .inr (.inl (h.2.2.1 a)))
  | (2, n) => .inl (T.2.2.1, n, .inr (.inr (.inr (.inr fun j => (h.2.2.2 a j).map (B + ·)))))
  | (3, n) => .inl (T.2.2.2.1, n, .inr (.inr (.inr (.inr fun j => (h.2.2.2 a j).map (B + ·)))))
  | (4, n) => .inl (T.2.2.2.2, n, .inr (.inr (.inr (.inr fun j => (h.2.2.2 a j).map (B + ·)))))
  | (ci + 5, n) => .inr (ci, (List.range n).map (xm_fv B h a ci))
def xm_w (B : Nat) (T : xm_T) (h : xm_H) : va_W := (List.range h.1.length).map fun a => (B + a, xm_en B T h a (h.1.getD a (0, 0)))
theorem xm_w_at {B : Nat} {T : xm_T} {h : xm_H} {a : Nat} {s : Nat × Nat} (e : h.1[a]? = some s) : (xm_w B T h)[a]? = some (B + a, xm_en B T h a s) := by
  have hl : a < h.1.length := (List.getElem?_eq_some_iff.mp e).1
  unfold xm_w
  rw [List.getElem?_map, List.getElem?_range hl]
  simp [List.getD_eq_getElem?_getD, e]
theorem xm_w_len (B : Nat) (T : xm_T) (h : xm_H) : (xm_w B T h).length = h.1.length := by simp [xm_w]
theorem xm_w_inv {B : Nat} {T : xm_T} {h : xm_H} {k : Nat} {q : Nat × va_E} (e : (xm_w B T h)[k]? = some q) : k < h.1.length ∧ q.1 = B + k := by
  have hl : k < (xm_w B T h).length := (List.getElem?_eq_some_iff.mp e).1
  rw [xm_w_len] at hl
  refine ⟨hl, ?_⟩
  unfold xm_w at e
  rw [List.getElem?_map, List.getElem?_range hl] at e
  simp at e
  rw [← e]
theorem xm_D (B : Nat) (T : xm_T) (h : xm_H) : va_D (fun q => B ≤ q) (xm_w B T h) := by
  refine ⟨fun i j x y hi hj hxy => ?_, fun k q hk => ?_⟩
  · have h1 := (xm_w_inv hi).2
    have h2 := (xm_w_inv hj).2
    omega
  · have h1 := (xm_w_inv hk).2
    show B ≤ q.1
    omega
/-- one cell of the world is another -/
theorem xm_w_set {B : Nat} {T : xm_T} {h h' : xm_H} {a : Nat} {s : Nat × Nat} {E : va_E} (hs : h'.1 = h.1) (e : h.1[a]? = some s) (ha : xm_en B T h' a s = E) (ho : ∀ b, b ≠ a → ∀ z, xm_en B T h' b z = xm_en B T h b z) :
    (xm_w B T h).set a (B + a, E) = xm_w B T h' := by
  have hl : a < h.1.length := (List.getElem?_eq_some_iff.mp e).1
  apply List.ext_getElem?
  intro k
  by_cases hk : k = a
  · subst hk
    rw [List.getElem?_set_self (by rw [xm_w_len]; exact hl), xm_w_at (h := h') (s := s) (by rw [hs]; exact e), ha]
  · rw [List.getElem?_set_ne (Ne.symm hk)]
    unfold xm_w
    rw [hs, List.getElem?_map, List.getElem?_map]
    by_cases hk2 : k < h.1.length
    · rw [List.getElem?_range hk2]
      simp [ho k hk]
    · rw [List.getElem?_eq_none (by simp; omega)]
      rfl
/-- one cell more -/
theorem xm_w_push {B : Nat} {T : xm_T} {h h' : xm_H} {s : Nat × Nat} (hs : h'.1 = h.1 ++ [s]) (ho : ∀ b, b < h.1.length → ∀ z, xm_en B T h' b z = xm_en B T h b z) :
    xm_w B T h' = xm_w B T h ++ [(B + h.1.length, xm_en B T h' h.1.length s)] := by
  apply List.ext_getElem?
  intro k
  by_cases hk : k < h.1.length
  · rw [List.getElem?_append_left (by rw [xm_w_len]; exact hk)]
    obtain ⟨z, hz⟩ : ∃ z, h.1[k]? = some z := ⟨_, List.getElem?_eq_getElem hk⟩
    rw [xm_w_at hz, xm_w_at (h := h') (s := z) (by rw [hs, List.getElem?_append_left hk]; exact hz), ho k hk]
  · by_cases hk2 : k = h.1.length
    · subst hk2
      rw [xm_w_at (h := h') (s := s) (by rw [hs]; simp), List.getElem?_append_right (by rw [xm_w_len]; omega), xm_w_len]
      simp
    · rw [List.getElem?_eq_none (by rw [xm_w_len, hs]; simp; omega), List.getElem?_eq_none (by simp [xm_w_len]; omega)]
theorem xm_en_I {B : Nat} {T : xm_T} {h h' : xm_H} {b : Nat} (h1 : h'.2.1 b = h.2.1 b) (h2 : h'.2.2.1 b = h.2.2.1 b) (h3 : h'.2.2.2 b = h.2.2.2 b) (z : Nat × Nat) : xm_en B T h' b z = xm_en B T h b z := by
  obtain ⟨k, n⟩ := z
  match k with
  | 0 => simp [xm_en, h1]
  | 1 => simp [xm_en, h2]
  | 2 => simp [xm_en, h3]
  | 3 => simp [xm_en, h3]
  | 4 => simp [xm_en, h3]
  | ci + 5 =>
    simp only [xm_en]
    congr 2
    apply List.map_congr_left
    intro k _
    simp [xm_fv, h1, h3]
/-- the listed locals -/
def xm_ps (B : Nat) (l : List Value) : List (Nat × Value) := (List.range l.length).filterMap fun i => match (l[i]? : Option Value) with
  | some (Value.float _) => none
  | some v => some (i, xm_r B v)
  | none => none
theorem xm_g_at {l : List Value} {i : Nat} : i < l.length → l[i]? = some (xm_g l i) := by
  intro h
  induction l generalizing i with
  | nil => simp at h
  | cons a t ih =>
    cases i with
    | zero => rfl
    | succ i => simpa [xm_g] using ih (by simpa using h)
theorem xm_g_out {l : List Value} {i : Nat} (h : l.length ≤ i) : xm_g l i = .float 0 := by
  induction l generalizing i with
  | nil => rfl
  | cons a t ih =>
    cases i with
    | zero => simp at h
    | succ i => simpa [xm_g] using ih (by simpa using h)
theorem xm_ps_mem {B : Nat} {l : List Value} {i : Nat} {w : Value} : (i, w) ∈ xm_ps B l ↔ i < l.length ∧ (∀ x, xm_g l i ≠ .float x) ∧ w = xm_r B (xm_g l i) := by
  unfold xm_ps
  rw [List.mem_filterMap]
  constructor
  · rintro ⟨j, hj, hm⟩
    have hj' := List.mem_range.mp hj
    rw [xm_g_at hj'] at hm
    split at hm
    · cases hm
    · rename_i v hv hne
      cases hne
      cases hm
      refine ⟨hj', fun x hx => hv x (by rw [hx]), rfl⟩
    · cases hm
  · rintro ⟨hi, hne, rfl⟩
    refine ⟨i, List.mem_range.mpr hi, ?_⟩
    rw [xm_g_at hi]
    split
    · rename_i x hx
      exact absurd (Option.some.inj hx) (hne x)
    · rename_i v hv hx
      cases hx
      rfl
    · rename_i hx
      cases hx
theorem xm_p_len (l : List Value) (i : Nat) (v : Value) : (xm_p l i v).length = l.length := by
  induction l generalizing i with
  | nil => rfl
  | cons a t ih =>
    cases i with
    | zero => rfl
    | succ i => simp [xm_p, ih]
theorem xm_p_at (l : List Value) (i : Nat) (v : Value) (j : Nat) : xm_g (xm_p l i v) j = if j = i ∧ i < l.length then v else xm_g l j := by
  induction l generalizing i j with
  | nil => simp [xm_p, xm_g]
  | cons a t ih =>
    cases i with
    | zero =>
      cases j with
      | zero => simp [xm_p, xm_g]
      | succ j => simp [xm_p, xm_g]
    | succ i =>
      cases j with
      | zero => simp [xm_p, xm_g]
      | succ j => simp [xm_p, xm_g, ih]
theorem xm_is2_cat {v : Value} (h : xm_is2 v = false) : ¬ v.category = 2 := by
  cases v <;> simp_all [xm_is2, Value.category]
theorem xm_ld {ls : Array Slot} {nL B : Nat} {l : List Value} (h : lv_has ls nL (xm_ps B l)) {i : Nat} {v : Value} (hg : xm_g l i = v) (hf : ∀ x, v ≠ .float x) : ls[i]? = some (.val (xm_r B v)) := by
  refine h.2.2 (i, xm_r B v) (xm_ps_mem.mpr ⟨?_, by rw [hg]; exact hf, by rw [hg]⟩)
  rcases Nat.lt_or_ge i l.length with q | q
  · exact q
  · exact absurd ((xm_g_out q).symm.trans hg).symm (hf 0)
theorem xm_has_mono {ls : Array Slot} {nL : Nat} {a b : List (Nat × Value)} (h : lv_has ls nL a) (hs : ∀ q ∈ b, q ∈ a) : lv_has ls nL b := ⟨h.1, h.2.1, fun q hq => h.2.2 q (hs q hq)⟩
/-- a store of one slot -/
theorem xm_sto {ls' : Array Slot} {nL B : Nat} {l : List Value} {i : Nat} {v : Value} (hk : xm_is2 (xm_g l (i - 1)) = false) (hi : i < l.length)
    (h : lv_has ls' nL ((i, xm_r B v) :: (xm_ps B l).filter (fun q => !(q.1 == i) && !(q.1 + 1 == i && q.2.category == 2)))) : lv_has ls' nL (xm_ps B (xm_p l i v)) := by
  refine xm_has_mono h fun q hq => ?_
  obtain ⟨j, w⟩ := q
  obtain ⟨h1, h2, h3⟩ := xm_ps_mem.mp hq
  rw [xm_p_len] at h1
  rw [xm_p_at] at h2 h3
  by_cases hj : j = i
  · subst hj
    rw [if_pos ⟨rfl, hi⟩] at h3
    rw [h3]
    exact List.mem_cons_self
  · rw [if_neg (fun q => hj q.1)] at h2 h3
    refine List.mem_cons_of_mem _ (List.mem_filter.mpr ⟨xm_ps_mem.mpr ⟨h1, h2, h3⟩, ?_⟩)
    simp only [Bool.and_eq_true, Bool.not_eq_true', beq_eq_false_iff_ne, ne_eq, Bool.and_eq_false_iff]
    refine ⟨hj, ?_⟩
    by_cases hj2 : j + 1 = i
    · right
      subst hj2
      simp only [Nat.add_sub_cancel] at hk
      rw [h3, xm_r_cat]
      exact xm_is2_cat hk
    · exact Or.inl hj2
theorem xm_sto2 {ls' : Array Slot} {nL B : Nat} {l : List Value} {i : Nat} {v : Value} (hk : xm_is2 (xm_g l (i - 1)) = false) (hi : i + 1 < l.length)
    (h : lv_has ls' nL ((i, xm_r B v) :: (xm_ps B l).filter (fun q => !(q.1 == i) && (!(q.1 == i + 1) && !(q.1 + 1 == i && q.2.category == 2))))) : lv_has ls' nL (xm_ps B (xm_p (xm_p l (i + 1) (.float 0)) i v)) := by
  refine xm_has_mono h fun q hq => ?_
  obtain ⟨j, w⟩ := q
  obtain ⟨h1, h2, h3⟩ := xm_ps_mem.mp hq
  rw [xm_p_len, xm_p_len] at h1
  rw [xm_p_at, xm_p_len] at h2 h3
  by_cases hj : j = i
  · subst hj
    rw [if_pos ⟨rfl, by omega⟩] at h3
    rw [h3]
    exact List.mem_cons_self
  · rw [if_neg (fun q => hj q.1), xm_p_at] at h2 h3
    by_cases hj1 : j = i + 1
    · rw [if_pos ⟨hj1, hi⟩] at h2
      exact absurd rfl (h2 0)
    · rw [if_neg (fun q => hj1 q.1)] at h2 h3
      refine List.mem_cons_of_mem _ (List.mem_filter.mpr ⟨xm_ps_mem.mpr ⟨h1, h2, h3⟩, ?_⟩)
      simp only [Bool.and_eq_true, Bool.not_eq_true', beq_eq_false_iff_ne, ne_eq, Bool.and_eq_false_iff]
      refine ⟨hj, hj1, ?_⟩
      by_cases hj2 : j + 1 = i
      · right
        subst hj2
        simp only [Nat.add_sub_cancel] at hk
        rw [h3, xm_r_cat]
        exact xm_is2_cat hk
      · exact Or.inl hj2
