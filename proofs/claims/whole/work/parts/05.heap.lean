/-! ===== fields, arrays ===== -/
theorem xm_ro (B : Nat) (o : Option Nat) : xm_r B (xm_o o) = va_rf (o.map (B + ·)) := by cases o <;> rfl
theorem xm_up_o {α : Type} {f : Nat → Nat → α} {a k b : Nat} {v : α} (h : b ≠ a) : xm_up f a k v b = f b := by simp [xm_up, va_up, h]
theorem xm_up_s {α : Type} {f : Nat → Nat → α} {a k : Nat} {v : α} : xm_up f a k v a = va_up (f a) k v := by simp [xm_up, va_up]
theorem xm_en_uI {B : Nat} {T : xm_T} {h : xm_H} {a k b : Nat} {v : Int32} (hb : b ≠ a) (z : Nat × Nat) : xm_en B T (h.1, xm_up h.2.1 a k v, h.2.2.1, h.2.2.2) b z = xm_en B T h b z := xm_en_I (h := h) (h' := (h.1, xm_up h.2.1 a k v, h.2.2.1, h.2.2.2)) (xm_up_o hb) rfl rfl z
theorem xm_en_uL {B : Nat} {T : xm_T} {h : xm_H} {a k b : Nat} {v : Int64} (hb : b ≠ a) (z : Nat × Nat) : xm_en B T (h.1, h.2.1, xm_up h.2.2.1 a k v, h.2.2.2) b z = xm_en B T h b z := xm_en_I (h := h) (h' := (h.1, h.2.1, xm_up h.2.2.1 a k v, h.2.2.2)) rfl (xm_up_o hb) rfl z
theorem xm_en_uP {B : Nat} {T : xm_T} {h : xm_H} {a k b : Nat} {v : Option Nat} (hb : b ≠ a) (z : Nat × Nat) : xm_en B T (h.1, h.2.1, h.2.2.1, xm_up h.2.2.2 a k v) b z = xm_en B T h b z := xm_en_I (h := h) (h' := (h.1, h.2.1, h.2.2.1, xm_up h.2.2.2 a k v)) rfl rfl (xm_up_o hb) z
theorem xm_map_set {N k : Nat} (hk : k < N) (f : Nat → Value) (v : Value) : ((List.range N).map f).set k v = (List.range N).map (va_up f k v) := by
  apply List.ext_getElem?
  intro j
  by_cases hj : j = k
  · subst hj
    rw [List.getElem?_set_self (by simpa using hk), List.getElem?_map, List.getElem?_range hk]
    simp [va_up]
  · rw [List.getElem?_set_ne (Ne.symm hj), List.getElem?_map, List.getElem?_map]
    by_cases hj2 : j < N
    · rw [List.getElem?_range hj2]
      simp [va_up, hj]
    · rw [List.getElem?_eq_none (by simp; omega)]
      rfl
theorem xm_ob_at {B : Nat} {T : xm_T} {a ci : Nat} {h : xm_H} (ho : xm_ob h a ci) : (xm_w B T h)[a]? = some (B + a, .inr (ci, (List.range (xm_N ci)).map (xm_fv B h a ci))) := xm_w_at ho
section XH
variable {p : Program} {l : Launch} {e : Env} {R : Room} {s : State} {m : MethodId} {args : Array Value} {below : List Frame} {meth : Method} {c : Code} {B : Nat} {D : va_G} {T : xm_T} {h0 : xm_H} {nL : Nat} {Q : State → Prop} {cc : ByteArray} {own : String}
variable {pc : Nat} {lo st r : List Value} {h : xm_H}
theorem xs_getv {i a ci k : Nat} (hci : ci < 9) (hk : k < xm_N ci) (hl : Cond.fieldLink own i (xm_TX ci k).1 (xm_TX ci k).2.1 (xm_TX ci k).2.2.1 ∈ xm_tb) (ho : xm_ob h a ci) {v : Value} (hv : xm_fv B h a ci k = xm_r B v) (hd : decode cc pc = .ok (.getfield i, 3)) (X : xm_Cx p s m args c cc own B D T h0 nL) (kk : xm_G p l e R s m args below meth c B D T h0 nL Q (pc + 3, lo, v :: st) h) : xm_G p l e R s m args below meth c B D T h0 nL Q (pc, lo, .ref a :: st) h := fun H locs ls a1 a2 a3 a4 a5 => by
  refine va_get X.1 X.2.1 X.2.2.2.2.1 (xm_in hci) X.2.2.2.1 X.2.2.2.2.2.1 a4 a (xm_ob_at ho) (xm_cl_at hci) k hk (X.2.2.2.2.1 _ hl) (fun _ q => q) (v := xm_r B v) ?_ hd (kk H locs ls a1 a2 a3 a4 a5)
  rw [List.getElem?_map, List.getElem?_range hk]
  simp [hv]
theorem xs_getI {i a ci k : Nat} (hci : ci < 9) (hk : k < xm_N ci) (hl : Cond.fieldLink own i (xm_TX ci k).1 (xm_TX ci k).2.1 (xm_TX ci k).2.2.1 ∈ xm_tb) (hq : ¬ xm_kd (xm_ty ci k) = 2) (ho : xm_ob h a ci) (hd : decode cc pc = .ok (.getfield i, 3)) (X : xm_Cx p s m args c cc own B D T h0 nL) (kk : xm_G p l e R s m args below meth c B D T h0 nL Q (pc + 3, lo, .int (h.2.1 a k) :: st) h) : xm_G p l e R s m args below meth c B D T h0 nL Q (pc, lo, .ref a :: st) h :=
  xs_getv hci hk hl ho (by unfold xm_fv; rw [if_neg hq]; rfl) hd X kk
theorem xs_getR {i a ci k : Nat} (hci : ci < 9) (hk : k < xm_N ci) (hl : Cond.fieldLink own i (xm_TX ci k).1 (xm_TX ci k).2.1 (xm_TX ci k).2.2.1 ∈ xm_tb) (hq : xm_kd (xm_ty ci k) = 2) (ho : xm_ob h a ci) (hd : decode cc pc = .ok (.getfield i, 3)) (X : xm_Cx p s m args c cc own B D T h0 nL) (kk : xm_G p l e R s m args below meth c B D T h0 nL Q (pc + 3, lo, xm_o (h.2.2.2 a k) :: st) h) : xm_G p l e R s m args below meth c B D T h0 nL Q (pc, lo, .ref a :: st) h :=
  xs_getv hci hk hl ho (by unfold xm_fv; rw [if_pos hq, xm_ro]) hd X kk
/-- a store to a field, final in its own constructor alone -/
theorem xs_putv {i a ci k : Nat} {h' : xm_H} {v : Value} (hci : ci < 9) (hk : k < xm_N ci) (hl : Cond.fieldLink own i (xm_TX ci k).1 (xm_TX ci k).2.1 (xm_TX ci k).2.2.1 ∈ xm_tb) (hf : (xm_TX ci k).2.2.2 = false ∨ (xm_TX ci k).2.2.2 = true ∧ meth.name = "<init>" ∧ (xm_TX ci k).1 = own) (hn : narrow (xm_ty ci k) (xm_r B v) = xm_r B v) (hfit : fits (xm_ty ci k) (xm_r B v) = true)
    (ho : xm_ob h a ci) (hs : h'.1 = h.1) (he : ∀ j, j < xm_N ci → xm_fv B h' a ci j = va_up (xm_fv B h a ci) k (xm_r B v) j) (hq : ∀ b, b ≠ a → ∀ z, xm_en B T h' b z = xm_en B T h b z) (hd : decode cc pc = .ok (.putfield i, 3)) (X : xm_Cx p s m args c cc own B D T h0 nL) (kk : xm_G p l e R s m args below meth c B D T h0 nL Q (pc + 3, lo, st) h') : xm_G p l e R s m args below meth c B D T h0 nL Q (pc, lo, v :: .ref a :: st) h := fun H locs ls a1 a2 a3 a4 a5 => by
  have hts := X.2.2.2.2.1
  have hK := X.2.2.2.2.2.1
  have hin := xm_in hci
  have hty := xm_ty_ok hci
  have hnm := xm_nm_ok hci
  have hc := xm_cl_at hci
  have he0 := xm_ob_at (B := B) (T := T) ho
  have hap := va_apart (own := own) hts hin (xm_ty ci) hty hnm hK hc
  obtain ⟨r, h1, cell, q1, q2, q3, q4⟩ := a4 a _ he0
  have hr : r = (xm_RX ci, xm_TX ci, xm_N ci) := Option.some.inj (h1.symm.trans hc)
  subst hr
  obtain ⟨hS, hfc, kC, hkC, hkind⟩ := hK.1 ci _ hc
  obtain ⟨cf, kf, fi, f, hi, hsl⟩ := hS k hk
  have hlay := hts _ (hin _ (u_in_lay hk))
  have hst := (u_facts hfc hkC (u_lays hts hin hk) hi).1
  have hset : (xm_w B T h).set a (B + a, .inr (ci, ((List.range (xm_N ci)).map (xm_fv B h a ci)).set k (xm_r B v))) = xm_w B T h' := by
    refine xm_w_set hs ho ?_ hq
    simp only [xm_en]
    rw [xm_map_set hk]
    congr 2
    apply List.map_congr_left
    intro j hj
    exact he j (List.mem_range.mp hj)
  have fin : ∀ H' : Heap, H'[B + a]? = some (cell.setSlot f.slot (xm_r B v)) → H'.size = H.size → (∀ q, q ≠ B + a → H'[q]? = H[q]?) → W p l e R s m args below meth c H' (locs ++ [⟨B + a, f.slot⟩]) (h.1.length - h0.1.length) (xm_sl h - xm_sl h0) Q (F0 m (pc + 3) ls (st.map (xm_r B))) := by
    intro H' e1 e2 e3
    rw [hsl] at e1
    have hP' := a4.set (xm_D B T h) he0 (e := .inr (ci, ((List.range (xm_N ci)).map (xm_fv B h a ci)).set k (xm_r B v))) (H1 := H') ⟨_, hc, t_OB.to (V := updV (vp_V ((List.range (xm_N ci)).map (xm_fv B h a ci))) k (xm_r B v)) ⟨_, e1, q2, q3, t_set q4 hap hk (xm_r B v)⟩ (fun j _ => vp_updV_set (by simpa using hk) (xm_r B v) j)⟩ e3
    rw [hset] at hP'
    have := kk H' (locs ++ [⟨B + a, f.slot⟩]) ls a1 a2 (by rw [e2, hs]; exact a3) hP' (a5.put e2 e3 (Nat.le_add_right B a))
    have hss : xm_sl h' = xm_sl h := by unfold xm_sl; rw [hs]
    rw [hs, hss] at this
    exact this
  rcases hf with hfin | ⟨hfin, hnm1, hdecl⟩
  · unfold u_lay at hlay
    rw [if_neg (by rw [hfin]; decide)] at hlay
    have h6 := u_store hfc hkC hkind hlay hi (hty k hk) hn hfit
    exact W.putK X.1 X.2.1 (f := f) ⟨X.2.2.2.1, hts _ hl, ⟨_, _, _, hi⟩, hst⟩ (by rw [q2]; exact h6) q1 q3 (by rw [hsl]; exact k2_hasslot (q4 k hk)) rfl rfl hd fin
  · unfold u_lay at hlay
    rw [if_pos hfin] at hlay
    have hcf : m.cls = cf := by
      obtain ⟨_, _, c', _, _, _, -, -, hf', -, -, -, hown2, -⟩ := Cond.laysFinal_spec hlay
      have e1 : c' = cf := by have := hi.symm.trans hf'; simp at this; exact this.1.symm
      rw [hdecl] at hown2
      rw [← e1]; exact Option.some.inj (X.2.2.2.1.symm.trans hown2)
    have h6 := u_fits hfc hkC hkind (Or.inr hlay) hi (hty k hk) hn hfit
    exact W.putFinK X.1 X.2.1 X.2.2.2.1 (hts _ hl) hi hst hcf hnm1 (by rw [q2]; exact h6) q1 q3 (by rw [hsl]; exact k2_hasslot (q4 k hk)) rfl rfl hd fin
theorem xs_putI {i a ci k : Nat} {v : Int32} (hci : ci < 9) (hk : k < xm_N ci) (hl : Cond.fieldLink own i (xm_TX ci k).1 (xm_TX ci k).2.1 (xm_TX ci k).2.2.1 ∈ xm_tb) (hf : (xm_TX ci k).2.2.2 = false ∨ (xm_TX ci k).2.2.2 = true ∧ meth.name = "<init>" ∧ (xm_TX ci k).1 = own) (hkd : xm_kd (xm_ty ci k) = 0 ∨ xm_kd (xm_ty ci k) = 1 ∧ (v = 0 ∨ v = 1))
    (ho : xm_ob h a ci) (hd : decode cc pc = .ok (.putfield i, 3)) (X : xm_Cx p s m args c cc own B D T h0 nL) (kk : xm_G p l e R s m args below meth c B D T h0 nL Q (pc + 3, lo, st) (h.1, xm_up h.2.1 a k v, h.2.2.1, h.2.2.2)) : xm_G p l e R s m args below meth c B D T h0 nL Q (pc, lo, .int v :: .ref a :: st) h := by
  refine xs_putv (h' := (h.1, xm_up h.2.1 a k v, h.2.2.1, h.2.2.2)) hci hk hl hf ?_ ?_ ho rfl (fun j hj => ?_) (fun b hb z => xm_en_uI hb z) hd X kk
  · rcases hkd with q | ⟨q, rfl | rfl⟩ <;> (generalize xm_ty ci k = t at q ⊢; cases t <;> simp_all [xm_kd, narrow, xm_r] <;> rfl)
  · rcases hkd with q | ⟨q, rfl | rfl⟩ <;> (generalize xm_ty ci k = t at q ⊢; cases t <;> simp_all [xm_kd, fits, xm_r])
  · by_cases hj2 : j = k
    · subst hj2
      have hn2 : ¬ xm_kd (xm_ty ci j) = 2 := by omega
      simp [xm_fv, hn2, xm_up_s, va_up, xm_r]
    · simp [xm_fv, xm_up_s, va_up, hj2]
theorem xs_putR {i a ci k v : Nat} (hci : ci < 9) (hk : k < xm_N ci) (hl : Cond.fieldLink own i (xm_TX ci k).1 (xm_TX ci k).2.1 (xm_TX ci k).2.2.1 ∈ xm_tb) (hf : (xm_TX ci k).2.2.2 = false ∨ (xm_TX ci k).2.2.2 = true ∧ meth.name = "<init>" ∧ (xm_TX ci k).1 = own) (hkd : xm_kd (xm_ty ci k) = 2) (hr : (xm_ty ci k).isReference = true)
    (ho : xm_ob h a ci) (hd : decode cc pc = .ok (.putfield i, 3)) (X : xm_Cx p s m args c cc own B D T h0 nL) (kk : xm_G p l e R s m args below meth c B D T h0 nL Q (pc + 3, lo, st) (h.1, h.2.1, h.2.2.1, xm_up h.2.2.2 a k (some v))) : xm_G p l e R s m args below meth c B D T h0 nL Q (pc, lo, .ref v :: .ref a :: st) h := by
  refine xs_putv (h' := (h.1, h.2.1, h.2.2.1, xm_up h.2.2.2 a k (some v))) hci hk hl hf ?_ ?_ ho rfl (fun j hj => ?_) (fun b hb z => xm_en_uP hb z) hd X kk
  · generalize xm_ty ci k = t at hr ⊢; cases t <;> simp_all [FieldType.isReference, narrow, xm_r]
  · generalize xm_ty ci k = t at hr ⊢; cases t <;> simp_all [FieldType.isReference, fits, xm_r]
  · by_cases hj2 : j = k
    · subst hj2
      simp [xm_fv, hkd, xm_up_s, va_up, xm_r, va_rf]
    · simp [xm_fv, xm_up_s, va_up, hj2]
theorem xs_iald {a : Nat} {i : Int32} (ha : xm_ar h a 0 i) (hd : decode cc pc = .ok (.iaload, 1)) (X : xm_Cx p s m args c cc own B D T h0 nL) (kk : xm_G p l e R s m args below meth c B D T h0 nL Q (pc + 1, lo, .int (h.2.1 a i.toNatClampNeg) :: st) h) : xm_G p l e R s m args below meth c B D T h0 nL Q (pc, lo, .int i :: .ref a :: st) h := fun H locs ls a1 a2 a3 a4 a5 => by
  obtain ⟨n, hn, hin⟩ := ha
  exact va_iald X.1 X.2.1 X.2.2.2.2.2.1 a4 a 0 (xm_w_at hn) rfl hin hd (kk H locs ls a1 a2 a3 a4 a5)
theorem xs_lald {a : Nat} {i : Int32} (ha : xm_ar h a 1 i) (hd : decode cc pc = .ok (.laload, 1)) (X : xm_Cx p s m args c cc own B D T h0 nL) (kk : xm_G p l e R s m args below meth c B D T h0 nL Q (pc + 1, lo, .long (h.2.2.1 a i.toNatClampNeg) :: st) h) : xm_G p l e R s m args below meth c B D T h0 nL Q (pc, lo, .int i :: .ref a :: st) h := fun H locs ls a1 a2 a3 a4 a5 => by
  obtain ⟨n, hn, hin⟩ := ha
  exact va_lald X.1 X.2.1 X.2.2.2.2.2.1 a4 a 1 (xm_w_at hn) rfl hin hd (kk H locs ls a1 a2 a3 a4 a5)
theorem xs_aald {a k : Nat} {i : Int32} (ha : xm_ar h a k i) (hk : 2 ≤ k ∧ k < 5) (hd : decode cc pc = .ok (.aaload, 1)) (X : xm_Cx p s m args c cc own B D T h0 nL) (kk : xm_G p l e R s m args below meth c B D T h0 nL Q (pc + 1, lo, xm_o (h.2.2.2 a i.toNatClampNeg) :: st) h) : xm_G p l e R s m args below meth c B D T h0 nL Q (pc, lo, .int i :: .ref a :: st) h := fun H locs ls a1 a2 a3 a4 a5 => by
  obtain ⟨n, hn, hin⟩ := ha
  have hlt : i.toNatClampNeg < n := Nat.not_le.mp fun q => hin (Or.inr q)
  have k1 := kk H locs ls a1 a2 a3 a4 a5
  have e1 : (xm_o (h.2.2.2 a i.toNatClampNeg) :: st).map (xm_r B) = va_rf ((h.2.2.2 a i.toNatClampNeg).map (B + ·)) :: st.map (xm_r B) := by rw [List.map_cons, xm_ro]
  simp only [e1] at k1
  have hK := X.2.2.2.2.2.1
  have gen : ∀ (cA : ClassId) (ty : FieldType) (t0 : Nat), (xm_w B T h)[a]? = some (B + a, .inl (cA, n, .inr (.inr (.inr (.inr fun j => (h.2.2.2 a j).map (B + ·)))))) → (xm_tys T)[t0]? = some (cA, ty) → ty.isReference = true → W p l e R s m args below meth c H locs (h.1.length - h0.1.length) (xm_sl h - xm_sl h0) Q (F0 m pc ls ((.int i :: .ref a :: st).map (xm_r B))) := by
    intro cA ty t0 hw ht hty
    exact W.aald (v := va_rf ((h.2.2.2 a i.toNatClampNeg).map (B + ·))) (ty := ty) X.1 X.2.1 (a4 a _ hw) ((hK.2 t0 _ ht).1 n (fun j => va_rf ((h.2.2.2 a j).map (B + ·)))) hty (fun q => by cases q) (by show ¬ (i < 0 ∨ (arrV _ _ _).slots.size ≤ _); rw [arrV_size]; exact hin) (by show (arrV _ _ _).slots[_]? = _; rw [arrV_read _ _ hlt]) rfl rfl hd k1
  rcases (show k = 2 ∨ k = 3 ∨ k = 4 by omega) with rfl | rfl | rfl
  · exact gen T.2.2.1 _ 2 (xm_w_at hn) rfl rfl
  · exact gen T.2.2.2.1 _ 3 (xm_w_at hn) rfl rfl
  · exact gen T.2.2.2.2 _ 4 (xm_w_at hn) rfl rfl
/-- behind a store into one cell -/
theorem xs_cell {H H1 : Heap} {locs : List Loc} {ls : Array Slot} {a k : Nat} {h' : xm_H} {z : Nat × Nat} {E : va_E} {pc2 : Nat} (a1 : lv_has ls nL (xm_ps B lo)) (a2 : lo.length = nL) (a3 : H.size = B + h.1.length) (a4 : va_P D xm_cl (xm_w B T h) H) (a5 : va_S (fun q => B ≤ q) s.heap H locs)
    (hz : h.1[a]? = some z) (hs : h'.1 = h.1) (he : xm_en B T h' a z = E) (hq : ∀ b, b ≠ a → ∀ z, xm_en B T h' b z = xm_en B T h b z) (hat : va_at D xm_cl (B + a, E) H1) (e2 : H1.size = H.size) (e3 : ∀ q, q ≠ B + a → H1[q]? = H[q]?) (kk : xm_G p l e R s m args below meth c B D T h0 nL Q (pc2, lo, st) h') : W p l e R s m args below meth c H1 (locs ++ [⟨B + a, k⟩]) (h.1.length - h0.1.length) (xm_sl h - xm_sl h0) Q (F0 m pc2 ls (st.map (xm_r B))) := by
  have hP' := a4.set (xm_D B T h) (xm_w_at hz) hat e3
  rw [xm_w_set hs hz he hq] at hP'
  have := kk H1 (locs ++ [⟨B + a, k⟩]) ls a1 a2 (by rw [e2, hs]; exact a3) hP' (a5.put e2 e3 (Nat.le_add_right B a))
  have hss : xm_sl h' = xm_sl h := by unfold xm_sl; rw [hs]
  rw [hs, hss] at this
  exact this
theorem xs_iast {a : Nat} {i v : Int32} (ha : xm_ar h a 0 i) (hd : decode cc pc = .ok (.iastore, 1)) (X : xm_Cx p s m args c cc own B D T h0 nL) (kk : xm_G p l e R s m args below meth c B D T h0 nL Q (pc + 1, lo, st) (h.1, xm_up h.2.1 a i.toNatClampNeg v, h.2.2.1, h.2.2.2)) : xm_G p l e R s m args below meth c B D T h0 nL Q (pc, lo, .int v :: .int i :: .ref a :: st) h := fun H locs ls a1 a2 a3 a4 a5 => by
  obtain ⟨n, hn, hin⟩ := ha
  have hK := X.2.2.2.2.2.1
  refine W.iast X.1 X.2.1 (a4 a _ (xm_w_at hn)) ((hK.2 0 _ rfl).1 n (fun j => .int (h.2.1 a j))) (fun q => by cases q) (by show ¬ (i < 0 ∨ (arrV _ _ _).slots.size ≤ _); rw [arrV_size]; exact hin) rfl rfl hd fun H1 e z oq => ?_
  refine xs_cell (h' := (h.1, xm_up h.2.1 a i.toNatClampNeg v, h.2.2.1, h.2.2.2)) a1 a2 a3 a4 a5 hn rfl rfl (fun b hb z => xm_en_uI hb z) ?_ z oq kk
  show H1[B + a]? = some (vp_cell _ _)
  rw [e]
  show some ((vp_cell _ _).setSlot _ _) = _
  rw [vp_cell_i, vp_cell_i, arrV_store]
  congr 2
  funext q
  by_cases hq : q = i.toNatClampNeg
  · subst hq
    simp [updV, xm_up, va_up]
  · simp [updV, xm_up, va_up, hq]
theorem xs_last {a : Nat} {i : Int32} {v : Int64} (ha : xm_ar h a 1 i) (hd : decode cc pc = .ok (.lastore, 1)) (X : xm_Cx p s m args c cc own B D T h0 nL) (kk : xm_G p l e R s m args below meth c B D T h0 nL Q (pc + 1, lo, st) (h.1, h.2.1, xm_up h.2.2.1 a i.toNatClampNeg v, h.2.2.2)) : xm_G p l e R s m args below meth c B D T h0 nL Q (pc, lo, .long v :: .int i :: .ref a :: st) h := fun H locs ls a1 a2 a3 a4 a5 => by
  obtain ⟨n, hn, hin⟩ := ha
  have hK := X.2.2.2.2.2.1
  refine W.last X.1 X.2.1 (a4 a _ (xm_w_at hn)) ((hK.2 1 _ rfl).1 n (fun j => .long (h.2.2.1 a j))) (fun q => by cases q) (by show ¬ (i < 0 ∨ (arrV _ _ _).slots.size ≤ _); rw [arrV_size]; exact hin) rfl rfl hd fun H1 e z oq => ?_
  refine xs_cell (h' := (h.1, h.2.1, xm_up h.2.2.1 a i.toNatClampNeg v, h.2.2.2)) a1 a2 a3 a4 a5 hn rfl rfl (fun b hb z => xm_en_uL hb z) ?_ z oq kk
  show H1[B + a]? = some (vp_cell _ _)
  rw [e]
  show some ((vp_cell _ _).setSlot _ _) = _
  rw [vp_cell_l, vp_cell_l, arrV_store]
  congr 2
  funext q
  by_cases hq : q = i.toNatClampNeg
  · subst hq
    simp [updV, xm_up, va_up]
  · simp [updV, xm_up, va_up, hq]
theorem xs_aast {a k v : Nat} {i : Int32} (ha : xm_ar h a k i) (hv : (k = 2 ∧ xm_ob h v 6) ∨ (k = 3 ∧ xm_ob h v 5)) (hd : decode cc pc = .ok (.aastore, 1)) (X : xm_Cx p s m args c cc own B D T h0 nL) (kk : xm_G p l e R s m args below meth c B D T h0 nL Q (pc + 1, lo, st) (h.1, h.2.1, h.2.2.1, xm_up h.2.2.2 a i.toNatClampNeg (some v))) : xm_G p l e R s m args below meth c B D T h0 nL Q (pc, lo, .ref v :: .int i :: .ref a :: st) h := fun H locs ls a1 a2 a3 a4 a5 => by
  obtain ⟨n, hn, hin⟩ := ha
  have hlt : i.toNatClampNeg < n := Nat.not_le.mp fun q => hin (Or.inr q)
  have h00 : ¬ i < 0 := fun q => hin (Or.inl q)
  have hK := X.2.2.2.2.2.1
  have gen : ∀ (cA : ClassId) (t0 ci : Nat) (r : vw_C) (E : va_E), (xm_w B T h)[a]? = some (B + a, .inl (cA, n, .inr (.inr (.inr (.inr fun j => (h.2.2.2 a j).map (B + ·)))))) → (xm_tys T)[t0]? = some (cA, .object r.1) → xm_cl[ci]? = some r → xm_ob h v ci →
      xm_en B T (h.1, h.2.1, h.2.2.1, xm_up h.2.2.2 a i.toNatClampNeg (some v)) a (k, n) = .inl (cA, n, .inr (.inr (.inr (.inr fun j => (xm_up h.2.2.2 a i.toNatClampNeg (some v) a j).map (B + ·))))) →
      W p l e R s m args below meth c H locs (h.1.length - h0.1.length) (xm_sl h - xm_sl h0) Q (F0 m pc ls ((.ref v :: .int i :: .ref a :: st).map (xm_r B))) := by
    intro cA t0 ci r E hw ht hc hov hen
    obtain ⟨r', hr', cellV, g1, g2, g3, -⟩ := a4 v _ (xm_ob_at hov)
    have hcls := (hK.1 ci r hc).2
    obtain ⟨kA, comp, k1, k2, k3, -⟩ := (hK.2 t0 _ ht).2
    have hcomp : comp = D.1 ci := Option.some.inj (k3.symm.trans hcls.1)
    subst hcomp
    obtain ⟨kC, hkC, -⟩ := hcls.2
    refine W.aast X.1 X.2.1 (a4 a _ hw) (fun q h => by cases h) (fun h => by cases h) k1 k2 rfl hkC ⟨h00, by show _ < (arrV _ _ _).slots.size; rw [arrV_size]; exact hlt⟩ g1 (fun q h => by rw [g3] at h; cases h) (by rw [g2]; exact hkC) (by rw [g2]; exact va_assign hcls) rfl rfl hd fun H1 e z oq => ?_
    refine xs_cell (h' := (h.1, h.2.1, h.2.2.1, xm_up h.2.2.2 a i.toNatClampNeg (some v))) a1 a2 a3 a4 a5 hn rfl hen (fun b hb z => xm_en_uP hb z) ?_ z oq kk
    show H1[B + a]? = some (vp_cell _ _)
    rw [e]
    show some ((vp_cell _ _).setSlot _ _) = _
    rw [vp_cell_q, vp_cell_q, arrV_store]
    congr 2
    funext q
    by_cases hq : q = i.toNatClampNeg
    · subst hq
      simp [updV, xm_up, va_up, va_rf]
    · simp [updV, xm_up, va_up, hq]
  rcases hv with ⟨rfl, hv⟩ | ⟨rfl, hv⟩
  · exact gen T.2.2.1 2 6 _ (.inr (0, [])) (xm_w_at hn) rfl rfl hv rfl
  · exact gen T.2.2.2.1 3 5 _ (.inr (0, [])) (xm_w_at hn) rfl rfl hv rfl
theorem xs_alen {a n : Nat} (ha : xm_isA h a n) (hd : decode cc pc = .ok (.arraylength, 1)) (X : xm_Cx p s m args c cc own B D T h0 nL) (kk : xm_G p l e R s m args below meth c B D T h0 nL Q (pc + 1, lo, .int (Int32.ofNat n) :: st) h) : xm_G p l e R s m args below meth c B D T h0 nL Q (pc, lo, .ref a :: st) h := fun H locs ls a1 a2 a3 a4 a5 => by
  obtain ⟨k, hk, hn⟩ := ha
  have hK := X.2.2.2.2.2.1
  rcases (show k = 0 ∨ k = 1 ∨ k = 2 ∨ k = 3 ∨ k = 4 by omega) with rfl | rfl | rfl | rfl | rfl
  · exact va_alen X.1 X.2.1 hK a4 a 0 (xm_w_at hn) rfl rfl hd (kk H locs ls a1 a2 a3 a4 a5)
  · exact va_alen X.1 X.2.1 hK a4 a 1 (xm_w_at hn) rfl rfl hd (kk H locs ls a1 a2 a3 a4 a5)
  · exact va_alen X.1 X.2.1 hK a4 a 2 (xm_w_at hn) rfl rfl hd (kk H locs ls a1 a2 a3 a4 a5)
  · exact va_alen X.1 X.2.1 hK a4 a 3 (xm_w_at hn) rfl rfl hd (kk H locs ls a1 a2 a3 a4 a5)
  · exact va_alen X.1 X.2.1 hK a4 a 4 (xm_w_at hn) rfl rfl hd (kk H locs ls a1 a2 a3 a4 a5)
end XH
