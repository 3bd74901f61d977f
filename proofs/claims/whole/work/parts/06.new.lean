/-! ===== new cells, copies of rows ===== -/
theorem xm_P_of {B : Nat} {D : va_G} {T : xm_T} {h : xm_H} {H : Heap} (hp : ∀ a z, h.1[a]? = some z → va_at D xm_cl (B + a, xm_en B T h a z) H) : va_P D xm_cl (xm_w B T h) H := by
  intro k q hk
  obtain ⟨h1, h2⟩ := xm_w_inv hk
  obtain ⟨z, hz⟩ : ∃ z, h.1[k]? = some z := ⟨_, List.getElem?_eq_getElem h1⟩
  have := xm_w_at (B := B) (T := T) hz
  rw [this] at hk
  cases hk
  exact hp k z hz
theorem xm_P_at {B : Nat} {D : va_G} {T : xm_T} {h : xm_H} {H : Heap} (hP : va_P D xm_cl (xm_w B T h) H) {a : Nat} {z : Nat × Nat} (hz : h.1[a]? = some z) : va_at D xm_cl (B + a, xm_en B T h a z) H := hP a _ (xm_w_at hz)
theorem xm_dflt {ci : Nat} (h : ci < 9) : ∀ k, k < xm_N ci → defaultValue (xm_ty ci k) = if xm_kd (xm_ty ci k) = 2 then .null else .int 0 := by
  match ci, h with
  | 0, _ => decide +kernel
  | 1, _ => decide +kernel
  | 2, _ => decide +kernel
  | 3, _ => decide +kernel
  | 4, _ => decide +kernel
  | 5, _ => decide +kernel
  | 6, _ => decide +kernel
  | 7, _ => decide +kernel
  | 8, _ => decide +kernel
theorem xm_sl_mk (h : xm_H) (k n : Nat) : xm_sl (xm_mk h k n) = xm_sl h + n := by simp [xm_sl, xm_mk]
theorem xm_ln_mk (h : xm_H) (k n : Nat) : (xm_mk h k n).1.length = h.1.length + 1 := by simp [xm_mk]
theorem xm_mk_o {h : xm_H} {k n b : Nat} (hb : b < h.1.length) {B : Nat} {T : xm_T} (z : Nat × Nat) : xm_en B T (xm_mk h k n) b z = xm_en B T h b z := by
  have hn : b ≠ h.1.length := by omega
  exact xm_en_I (by simp [xm_mk, va_up, hn]) (by simp [xm_mk, va_up, hn]) (by simp [xm_mk, va_up, hn]) z
/-- the world with one cell more -/
theorem xm_P_mk {B : Nat} {D : va_G} {T : xm_T} {h : xm_H} {H H1 : Heap} {k n : Nat} (hP : va_P D xm_cl (xm_w B T h) H) (hs : H.size = B + h.1.length) (ho : ∀ q, q < H.size → H1[q]? = H[q]?) (hat : va_at D xm_cl (B + h.1.length, xm_en B T (xm_mk h k n) h.1.length (k, n)) H1) : va_P D xm_cl (xm_w B T (xm_mk h k n)) H1 := by
  refine xm_P_of fun a z hz => ?_
  have hz' : (h.1 ++ [(k, n)])[a]? = some z := hz
  by_cases ha : a < h.1.length
  · rw [List.getElem?_append_left ha] at hz'
    rw [xm_mk_o ha]
    exact (xm_P_at hP hz').kept (ho _ (by show B + a < _; omega))
  · have hl : a < (h.1 ++ [(k, n)]).length := (List.getElem?_eq_some_iff.mp hz').1
    have : a = h.1.length := by simp at hl; omega
    subst this
    simp at hz'
    subst hz'
    exact hat
theorem xm_outer (c : ClassId) (N h0 : Nat) : ∀ i : Nat, Jvm.Free.Multi.outerC c N h0 i = arrV c N (fun j => va_rf (if j < i then some (h0 + 1 + j) else none))
  | 0 => by
    show ({ cls := c, slots := Array.replicate N .null, vm := .none } : Cell) = _
    rw [arrV_new]
    refine congrArg (arrV c N) (funext fun j => ?_)
    simp [va_rf]
  | i + 1 => by
    show (Jvm.Free.Multi.outerC c N h0 i).setSlot i (.ref (h0 + 1 + i)) = _
    rw [xm_outer c N h0 i, arrV_store]
    refine congrArg (arrV c N) (funext fun j => ?_)
    by_cases e : j = i
    · subst e
      simp [updV, va_rf]
    · by_cases h : j < i
      · simp [updV, e, h, Nat.lt_succ_of_lt h]
      · simp [updV, e, h, show ¬ j < i + 1 by omega]
section XN
variable {p : Program} {l : Launch} {e : Env} {R : Room} {s : State} {m : MethodId} {args : Array Value} {below : List Frame} {meth : Method} {c : Code} {B : Nat} {D : va_G} {T : xm_T} {h0 : xm_H} {nL : Nat} {Q : State → Prop} {cc : ByteArray} {own : String}
variable {pc : Nat} {lo st r : List Value} {h : xm_H}
theorem xs_new {i ci : Nat} (hci : ci < 9) (h1 : Cond.classLink own i (xm_RX ci) ∈ xm_tb) (h2 : Cond.instantiable (xm_RX ci) (xm_N ci) ∈ xm_tb) (h3 : Cond.initialized (xm_RX ci) ∈ xm_tb) (hr0 : h0.1.length ≤ h.1.length) (hr1 : xm_sl h0 ≤ xm_sl h) (hc : h.1.length + 1 - h0.1.length ≤ R.cells) (hsl : xm_sl h + xm_N ci - xm_sl h0 ≤ R.slots) (hd : decode cc pc = .ok (.new i, 3)) (X : xm_Cx p s m args c cc own B D T h0 nL) (kk : xm_G p l e R s m args below meth c B D T h0 nL Q (pc + 3, lo, .ref h.1.length :: st) (xm_mk h (ci + 5) (xm_N ci))) : xm_G p l e R s m args below meth c B D T h0 nL Q (pc, lo, st) h := fun H locs ls a1 a2 a3 a4 a5 => by
  have hts := X.2.2.2.2.1
  have hKn := X.2.2.2.2.2.1.1 ci _ (xm_cl_at hci)
  refine W.newcK X.1 X.2.1 X.2.2.2.1 (hts _ h1) (hts _ h2) (hts _ h3) rfl hd (by omega) (by omega) hKn.2.1 a3 fun H1 kC hkC e1 z1 o1 => ?_
  have k1 := kk H1 locs ls a1 a2 (by rw [z1, xm_ln_mk]; omega) (xm_P_mk a4 a3 (fun q hq => o1 q (by omega)) ?_) ⟨by have := a5.1; omega, fun q g1 g2 => (o1 q (by have := a5.1; omega)).trans (a5.2.1 q g1 g2), a5.2.2⟩
  · rw [xm_ln_mk, xm_sl_mk] at k1
    rw [show h.1.length - h0.1.length + 1 = h.1.length + 1 - h0.1.length by omega, show xm_sl h - xm_sl h0 + xm_N ci = xm_sl h + xm_N ci - xm_sl h0 by omega]
    exact k1
  · refine ⟨_, xm_cl_at hci, (u_born (xm_ty ci) hts (xm_in hci) hKn hkC e1 (xm_ty_ok hci)).to fun k hk => ?_⟩
    have hk : k < xm_N ci := hk
    rw [xm_dflt hci k hk]
    simp only [vp_V, List.getD_eq_getElem?_getD, List.getElem?_map, List.getElem?_range hk]
    simp [xm_fv, xm_mk, va_up, va_rf]
theorem xs_newa {k : Nat} {t : ArrayType} {n : Int32} (hk : (k = 0 ∧ t = .int) ∨ (k = 1 ∧ t = .long)) (hw : Cond.arrayClass (newarray.typeOf t) ∈ xm_tb) (hn : ¬ n < 0) (hn2 : n.toNatClampNeg ≤ 1000) (hr0 : h0.1.length ≤ h.1.length) (hr1 : xm_sl h0 ≤ xm_sl h) (hc : h.1.length + 1 - h0.1.length ≤ R.cells) (hsl : xm_sl h + n.toNatClampNeg - xm_sl h0 ≤ R.slots) (hd : decode cc pc = .ok (.newarray t, 2)) (X : xm_Cx p s m args c cc own B D T h0 nL) (kk : xm_G p l e R s m args below meth c B D T h0 nL Q (pc + 2, lo, .ref h.1.length :: st) (xm_mk h k n.toNatClampNeg)) : xm_G p l e R s m args below meth c B D T h0 nL Q (pc, lo, .int n :: st) h := fun H locs ls a1 a2 a3 a4 a5 => by
  have hts := X.2.2.2.2.1
  have hK := X.2.2.2.2.2.1
  have hby : n.toNatClampNeg * componentBytes (newarray.typeOf t) ≤ 536870912 := by
    have : componentBytes (newarray.typeOf t) ≤ 8 := by rcases hk with ⟨-, rfl⟩ | ⟨-, rfl⟩ <;> decide
    exact Nat.le_trans (Nat.mul_le_mul hn2 this) (by decide)
  refine va_newaK X.1 X.2.1 (hts _ hw) rfl hd rfl hn rfl hby (by omega) (by omega) a3 fun H1 cA e1 z1 o1 hAr hNm => ?_
  have k1 := kk H1 locs ls a1 a2 (by rw [z1, xm_ln_mk]; omega) (xm_P_mk a4 a3 (fun q hq => o1 q (by omega)) ?_) ⟨by have := a5.1; omega, fun q g1 g2 => (o1 q (by have := a5.1; omega)).trans (a5.2.1 q g1 g2), a5.2.2⟩
  · rw [xm_ln_mk, xm_sl_mk] at k1
    rw [show h.1.length - h0.1.length + 1 = h.1.length + 1 - h0.1.length by omega, show xm_sl h - xm_sl h0 + n.toNatClampNeg = xm_sl h + n.toNatClampNeg - xm_sl h0 by omega]
    exact k1
  · rcases hk with ⟨rfl, rfl⟩ | ⟨rfl, rfl⟩
    · have hf : s.vm.findClass ("[" ++ (FieldType.int).toString) = some T.1 := (hK.2 0 _ rfl).2
      have hc9 : cA = T.1 := Option.some.inj (hNm.symm.trans hf)
      subst hc9
      show H1[B + h.1.length]? = some (vp_cell _ _)
      rw [e1]
      simp [vp_cell, xm_mk, va_up, newarray.typeOf, defaultValue]
    · have hf : s.vm.findClass ("[" ++ (FieldType.long).toString) = some T.2.1 := (hK.2 1 _ rfl).2
      have hc9 : cA = T.2.1 := Option.some.inj (hNm.symm.trans hf)
      subst hc9
      show H1[B + h.1.length]? = some (vp_cell _ _)
      rw [e1]
      simp [vp_cell, xm_mk, va_up, newarray.typeOf, defaultValue]
theorem xs_anew {k i : Nat} {n : Int32} (hk : (k = 2 ∧ Cond.classLink own i RX6 ∈ xm_tb ∧ Cond.arrayOver (.object RX6) ∈ xm_tb) ∨ (k = 3 ∧ Cond.classLink own i RX5 ∈ xm_tb ∧ Cond.arrayOver (.object RX5) ∈ xm_tb)) (hn : ¬ n < 0) (hn2 : n.toNatClampNeg ≤ 1000) (hr0 : h0.1.length ≤ h.1.length) (hr1 : xm_sl h0 ≤ xm_sl h) (hc : h.1.length + 1 - h0.1.length ≤ R.cells) (hsl : xm_sl h + n.toNatClampNeg - xm_sl h0 ≤ R.slots) (hd : decode cc pc = .ok (.anewarray i, 3)) (X : xm_Cx p s m args c cc own B D T h0 nL) (kk : xm_G p l e R s m args below meth c B D T h0 nL Q (pc + 3, lo, .ref h.1.length :: st) (xm_mk h k n.toNatClampNeg)) : xm_G p l e R s m args below meth c B D T h0 nL Q (pc, lo, .int n :: st) h := fun H locs ls a1 a2 a3 a4 a5 => by
  have hts := X.2.2.2.2.1
  have hK := X.2.2.2.2.2.1
  have gen : ∀ (C : String) (cT : ClassId), Cond.classLink own i C ∈ xm_tb → Cond.arrayOver (.object C) ∈ xm_tb → s.vm.findClass ("[" ++ (FieldType.object C).toString) = some cT → xm_en B T (xm_mk h k n.toNatClampNeg) h.1.length (k, n.toNatClampNeg) = .inl (cT, n.toNatClampNeg, .inr (.inr (.inr (.inr fun j => ((xm_mk h k n.toNatClampNeg).2.2.2 h.1.length j).map (B + ·))))) →
      W p l e R s m args below meth c H locs (h.1.length - h0.1.length) (xm_sl h - xm_sl h0) Q (F0 m pc ls ((.int n :: st).map (xm_r B))) := by
    intro C cT g1 g2 g3 g4
    refine W.anew X.1 X.2.1 X.2.2.2.1 (hts _ g1) (hts _ g2) rfl hd rfl hn (by omega) (by omega) (by omega) fun cA kA comp f1 f2 f3 f4 => ?_
    have hc9 : cA = cT := Option.some.inj (f1.symm.trans g3)
    subst hc9
    generalize hH1 : H.push ({ cls := cA, slots := Array.replicate n.toNatClampNeg .null, vm := .none } : Cell) = H1
    have z1 : H1.size = H.size + 1 := by rw [← hH1, Array.size_push]
    have e1 : H1[H.size]? = some (arrV cA n.toNatClampNeg (fun _ => .null)) := by rw [← hH1, Array.getElem?_push_size, ← arrV_new]
    have o1 : ∀ q, q < H.size → H1[q]? = H[q]? := fun q hq => by rw [← hH1, Array.getElem?_push, if_neg (Nat.ne_of_lt hq)]
    have k1 := kk H1 locs ls a1 a2 (by rw [z1, xm_ln_mk]; omega) (xm_P_mk a4 a3 o1 ?_) ⟨by have := a5.1; omega, fun q g1 g2 => (o1 q (by have := a5.1; omega)).trans (a5.2.1 q g1 g2), a5.2.2⟩
    · rw [xm_ln_mk, xm_sl_mk] at k1
      rw [show h.1.length - h0.1.length + 1 = h.1.length + 1 - h0.1.length by omega, show xm_sl h - xm_sl h0 + n.toNatClampNeg = xm_sl h + n.toNatClampNeg - xm_sl h0 by omega, a3]
      exact k1
    · rw [g4]
      show H1[B + h.1.length]? = some (vp_cell _ _)
      rw [← a3, e1]
      simp [vp_cell, xm_mk, va_up, va_rf]
  rcases hk with ⟨rfl, g1, g2⟩ | ⟨rfl, g1, g2⟩
  · obtain ⟨_, _, -, -, -, hf⟩ := (hK.2 2 _ rfl).2
    exact gen RX6 T.2.2.1 g1 g2 hf rfl
  · obtain ⟨_, _, -, -, -, hf⟩ := (hK.2 3 _ rfl).2
    exact gen RX5 T.2.2.2.1 g1 g2 hf rfl
theorem xm_mkN_1 (h : xm_H) (k n : Nat) : ∀ m, (xm_mkN h k n m).1 = h.1 ++ List.replicate m (k, n)
  | 0 => by simp [xm_mkN]
  | m + 1 => by simp [xm_mkN, xm_mk, xm_mkN_1 h k n m, List.replicate_succ']
theorem xm_mkN_o (h : xm_H) (k n : Nat) {b : Nat} (hb : b < h.1.length) : ∀ m, (xm_mkN h k n m).2.1 b = h.2.1 b ∧ (xm_mkN h k n m).2.2.1 b = h.2.2.1 b ∧ (xm_mkN h k n m).2.2.2 b = h.2.2.2 b
  | 0 => ⟨rfl, rfl, rfl⟩
  | m + 1 => by
    obtain ⟨h1, h2, h3⟩ := xm_mkN_o h k n hb m
    have hl : b ≠ (xm_mkN h k n m).1.length := by rw [xm_mkN_1]; simp; omega
    simp [xm_mkN, xm_mk, va_up, hl, h1, h2, h3]
theorem xm_mkN_n (h : xm_H) (k n : Nat) {j : Nat} : ∀ m, j < m → (xm_mkN h k n m).2.1 (h.1.length + j) = fun _ => 0
  | m + 1, hj => by
    by_cases e : j = m
    · subst e
      have hl : h.1.length + j = (xm_mkN h k n j).1.length := by rw [xm_mkN_1]; simp
      simp [xm_mkN, xm_mk, va_up, ← hl]
    · have hl : h.1.length + j ≠ (xm_mkN h k n m).1.length := by rw [xm_mkN_1]; simp; omega
      have ih := xm_mkN_n h k n (j := j) m (by omega)
      simp [xm_mkN, xm_mk, va_up, hl, ih]
theorem xm_mkN_sl (h : xm_H) (k n : Nat) : ∀ m, xm_sl (xm_mkN h k n m) = xm_sl h + m * n
  | 0 => by simp [xm_mkN]
  | m + 1 => by rw [xm_mkN, xm_sl_mk, xm_mkN_sl h k n m, Nat.succ_mul]; omega
theorem xs_multi {i : Nat} {n k : Int32} (h1 : Cond.classLink own i "[[I" ∈ xm_tb) (h2 : Cond.arrayOver (.array .int) ∈ xm_tb) (h3 : Cond.arrayClass .int ∈ xm_tb) (hn : ¬ n < 0) (hn2 : n.toNatClampNeg ≤ 1000) (hk : ¬ k < 0) (hk2 : k.toNatClampNeg ≤ 1000) (hr0 : h0.1.length ≤ h.1.length) (hr1 : xm_sl h0 ≤ xm_sl h) (hc : h.1.length + 1 + n.toNatClampNeg - h0.1.length ≤ R.cells) (hsl : xm_sl h + n.toNatClampNeg + n.toNatClampNeg * k.toNatClampNeg - xm_sl h0 ≤ R.slots) (hd : decode cc pc = .ok (.multianewarray i 2, 4)) (X : xm_Cx p s m args c cc own B D T h0 nL) (kk : xm_G p l e R s m args below meth c B D T h0 nL Q (pc + 4, lo, .ref h.1.length :: st) ((xm_mkN (xm_mk h 4 n.toNatClampNeg) 0 k.toNatClampNeg n.toNatClampNeg).1, (xm_mkN (xm_mk h 4 n.toNatClampNeg) 0 k.toNatClampNeg n.toNatClampNeg).2.1, (xm_mkN (xm_mk h 4 n.toNatClampNeg) 0 k.toNatClampNeg n.toNatClampNeg).2.2.1, va_up (xm_mkN (xm_mk h 4 n.toNatClampNeg) 0 k.toNatClampNeg n.toNatClampNeg).2.2.2 h.1.length (fun i => if i < n.toNatClampNeg then some (h.1.length + 1 + i) else none))) : xm_G p l e R s m args below meth c B D T h0 nL Q (pc, lo, .int k :: .int n :: st) h := fun H locs ls a1 a2 a3 a4 a5 => by
  have hts := X.2.2.2.2.1
  have hK := X.2.2.2.2.2.1
  intro U hU Xs
  obtain ⟨vm₁, cA, comp, -, fA, fC, hO, -, X', step⟩ := Xs.multianewarray2F (ty := .int) X.1 X.2.2.2.1 (hts _ h1) (hts _ h2) (hts _ h3) (g := F0 m pc ls (.int k :: .int n :: st.map (xm_r B))) rfl (by rw [X.2.1]; exact hd) rfl hn hk (by omega) (by show _ * 4 ≤ _; omega) (by omega) rfl rfl (by omega) (by omega)
  have hcomp : comp = T.1 := by
    have hf : s.vm.findClass ("[" ++ (FieldType.int).toString) = some T.1 := (hK.2 0 _ rfl).2
    exact Option.some.inj (fC.symm.trans hf)
  have hcA : cA = T.2.2.2.2 := by
    have hf : s.vm.findClass ("[" ++ (FieldType.array .int).toString) = some T.2.2.2.2 := (hK.2 4 _ rfl).2
    exact Option.some.inj (fA.symm.trans hf)
  subst hcomp
  subst hcA
  generalize hF : Jvm.Free.Multi.fill (U.setVm vm₁) T.2.2.2.2 T.1 n.toNatClampNeg k.toNatClampNeg (defaultValue .int) n.toNatClampNeg = F at X' step
  have hTh : (U.setVm vm₁).heap = H := hU
  obtain ⟨f1, f2, -, -⟩ := Jvm.Free.Multi.fill_facts (U.setVm vm₁) T.2.2.2.2 T.1 n.toNatClampNeg k.toNatClampNeg (defaultValue .int) n.toNatClampNeg
  rw [hF, hTh] at f1 f2
  have hold : ∀ x : Nat, x < H.size → F.heap[x]? = H[x]? := fun x hx => by
    have := Jvm.Free.Multi.fill_old (U.setVm vm₁) T.2.2.2.2 T.1 n.toNatClampNeg k.toNatClampNeg (defaultValue .int) (a := x) (by rw [hTh]; exact hx) n.toNatClampNeg
    rw [hF, hTh] at this
    exact this
  have hrow : ∀ j : Nat, j < n.toNatClampNeg → F.heap[H.size + 1 + j]? = some (Jvm.Free.Multi.innerC T.1 k.toNatClampNeg (defaultValue .int)) := fun j hj => by
    have := Jvm.Free.Multi.fill_inner (U.setVm vm₁) T.2.2.2.2 T.1 n.toNatClampNeg k.toNatClampNeg (defaultValue .int) n.toNatClampNeg j hj
    rw [hF, hTh] at this
    exact this
  have hin : Jvm.Free.Multi.innerC T.1 k.toNatClampNeg (defaultValue .int) = vp_cell T.1 (k.toNatClampNeg, .inl (fun _ => 0)) := by
    show ({ cls := T.1, slots := Array.replicate _ _, vm := .none } : Cell) = _
    rw [vp_cell_i, arrV_new]
    rfl
  have hout : Jvm.Free.Multi.outerC T.2.2.2.2 n.toNatClampNeg H.size n.toNatClampNeg = vp_cell T.2.2.2.2 (n.toNatClampNeg, .inr (.inr (.inr (.inr (fun i => (if i < n.toNatClampNeg then some (h.1.length + 1 + i) else none).map (B + ·)))))) := by
    rw [vp_cell_q, xm_outer]
    refine congrArg (arrV T.2.2.2.2 n.toNatClampNeg) (funext fun j => ?_)
    by_cases hj : j < n.toNatClampNeg
    · rw [if_pos hj, if_pos hj, a3]
      have e9 : B + h.1.length + 1 + j = B + (h.1.length + 1 + j) := by omega
      exact congrArg Value.ref e9
    · rw [if_neg hj, if_neg hj]
      rfl
  rw [hout] at f2
  have k1 := kk F.heap locs ls a1 a2 ?_ (xm_P_of fun a z hz => ?_) ⟨by have := a5.1; omega, fun q g1 g2 => (hold q (by have := a5.1; omega)).trans (a5.2.1 q g1 g2), a5.2.2⟩
  · simp only at k1
    have e1 : (xm_mkN (xm_mk h 4 n.toNatClampNeg) 0 k.toNatClampNeg n.toNatClampNeg).1.length = h.1.length + 1 + n.toNatClampNeg := by rw [xm_mkN_1]; simp [xm_mk]; omega
    have e2 : xm_sl (xm_mkN (xm_mk h 4 n.toNatClampNeg) 0 k.toNatClampNeg n.toNatClampNeg) = xm_sl h + n.toNatClampNeg + n.toNatClampNeg * k.toNatClampNeg := by rw [xm_mkN_sl, xm_sl_mk]
    have e3 : ∀ a b c, xm_sl ((xm_mkN (xm_mk h 4 n.toNatClampNeg) 0 k.toNatClampNeg n.toNatClampNeg).1, a, b, c) = xm_sl h + n.toNatClampNeg + n.toNatClampNeg * k.toNatClampNeg := fun _ _ _ => e2
    rw [e1, e3] at k1
    have hk9 := k1 F rfl (by
      have e4 : h.1.length + 1 + n.toNatClampNeg - h0.1.length = h.1.length - h0.1.length + 1 + n.toNatClampNeg := by omega
      have e5 : xm_sl h + n.toNatClampNeg + n.toNatClampNeg * k.toNatClampNeg - xm_sl h0 = xm_sl h - xm_sl h0 + n.toNatClampNeg + n.toNatClampNeg * k.toNatClampNeg := by omega
      rw [e4, e5]
      exact X')
    obtain ⟨t, b1, b2⟩ := hk9
    refine ⟨t, step t ?_, b2⟩
    have e : U.heap.size = B + h.1.length := by rw [hU]; exact a3
    simp only [List.map_cons, xm_r] at b1
    rw [e]
    exact b1
  · show F.heap.size = B + (xm_mkN (xm_mk h 4 n.toNatClampNeg) 0 k.toNatClampNeg n.toNatClampNeg).1.length
    rw [xm_mkN_1]
    simp [xm_mk]
    omega
  · have hz' : (xm_mkN (xm_mk h 4 n.toNatClampNeg) 0 k.toNatClampNeg n.toNatClampNeg).1[a]? = some z := hz
    rw [xm_mkN_1] at hz'
    have hl1 : (xm_mk h 4 n.toNatClampNeg).1.length = h.1.length + 1 := by simp [xm_mk]
    by_cases ha : a < h.1.length
    · rw [List.getElem?_append_left (by omega)] at hz'
      have hz2 : h.1[a]? = some z := by
        have : (h.1 ++ [(4, n.toNatClampNeg)])[a]? = some z := hz'
        rwa [List.getElem?_append_left ha] at this
      have hne : a ≠ h.1.length := by omega
      obtain ⟨g1, g2, g3⟩ := xm_mkN_o (xm_mk h 4 n.toNatClampNeg) 0 k.toNatClampNeg (b := a) (by omega) n.toNatClampNeg
      have ee : xm_en B T ((xm_mkN (xm_mk h 4 n.toNatClampNeg) 0 k.toNatClampNeg n.toNatClampNeg).1, (xm_mkN (xm_mk h 4 n.toNatClampNeg) 0 k.toNatClampNeg n.toNatClampNeg).2.1, (xm_mkN (xm_mk h 4 n.toNatClampNeg) 0 k.toNatClampNeg n.toNatClampNeg).2.2.1, va_up (xm_mkN (xm_mk h 4 n.toNatClampNeg) 0 k.toNatClampNeg n.toNatClampNeg).2.2.2 h.1.length (fun i => if i < n.toNatClampNeg then some (h.1.length + 1 + i) else none)) a z = xm_en B T h a z := xm_en_I (by show (xm_mkN _ _ _ _).2.1 a = _; rw [g1]; simp [xm_mk, va_up, hne]) (by show (xm_mkN _ _ _ _).2.2.1 a = _; rw [g2]; simp [xm_mk, va_up, hne]) (by show va_up _ _ _ a = _; rw [show ∀ f g, va_up f h.1.length g a = f a from fun f g => by simp [va_up, hne], g3]; simp [xm_mk, va_up, hne]) z
      rw [ee]
      exact (xm_P_at a4 hz2).kept (hold _ (by show B + a < _; omega))
    · by_cases ha2 : a = h.1.length
      · subst ha2
        rw [List.getElem?_append_left (by omega)] at hz'
        have hz2 : z = (4, n.toNatClampNeg) := by
          have : (h.1 ++ [(4, n.toNatClampNeg)])[h.1.length]? = some z := hz'
          simp at this
          exact this.symm
        subst hz2
        show F.heap[B + h.1.length]? = some (vp_cell _ _)
        rw [← a3, f2]
        simp [va_up]
      · rw [List.getElem?_append_right (by omega), hl1] at hz'
        obtain ⟨j, rfl⟩ : ∃ j, a = h.1.length + 1 + j := ⟨a - (h.1.length + 1), by omega⟩
        rw [show h.1.length + 1 + j - (h.1.length + 1) = j by omega] at hz'
        obtain ⟨hj, hz2⟩ := List.getElem?_eq_some_iff.mp hz'
        simp at hj hz2
        subst hz2
        have g1 := xm_mkN_n (xm_mk h 4 n.toNatClampNeg) 0 k.toNatClampNeg (j := j) n.toNatClampNeg hj
        rw [hl1] at g1
        show F.heap[B + (h.1.length + 1 + j)]? = some (vp_cell T.1 (k.toNatClampNeg, .inl ((xm_mkN _ _ _ _).2.1 (h.1.length + 1 + j))))
        rw [g1, ← hin, ← hrow j hj, a3]
        congr 1
        omega
end XN
