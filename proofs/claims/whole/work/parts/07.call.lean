/-! ===== copies of rows, calls ===== -/
theorem xm_clamp (z : Int32) (hz : ¬ z < 0) : z.toInt = (z.toNatClampNeg : Int) := by
  have hz0 : (0 : Int) ≤ z.toInt := by
    have := Int32.not_lt.mp hz
    simpa using Int32.le_iff_toInt_le.mp this
  show z.toInt = ((z.toInt.toNat : Nat) : Int)
  omega
theorem xm_csr (B : Nat) (st : List Value) : ((st.map (xm_r B)).map fun v => v.category).sum = xm_cs st := by
  unfold xm_cs
  rw [List.map_map]
  congr 1
  apply List.map_congr_left
  intro v _
  exact xm_r_cat B v
theorem xm_vu_o {α : Type} {f : Nat → α} {a b : Nat} {v : α} (h : b ≠ a) : va_up f a v b = f b := by simp [va_up, h]
section XC
variable {p : Program} {l : Launch} {e : Env} {R : Room} {s : State} {m : MethodId} {args : Array Value} {below : List Frame} {meth : Method} {c : Code} {B : Nat} {D : va_G} {T : xm_T} {h0 : xm_H} {nL : Nat} {Q : State → Prop} {cc : ByteArray} {own : String}
variable {pc : Nat} {lo st r : List Value} {h : xm_H}
theorem xs_cpI {i a b : Nat} {sp dp n : Int32} (hl : Cond.methodLink own i arraycopyName ∈ xm_tb) (w1 : Cond.native arraycopyName ∈ xm_tb) (w2 : Cond.static arraycopyName ∈ xm_tb) (w3 : Cond.initialized "java/lang/System" ∈ xm_tb) (hcp : xm_cpR h a b 0 sp dp n) (hfr : 1 ≤ R.frames) (hlc : 100 ≤ R.locals) (hcs : xm_cs st ≤ 8) (hd : decode cc pc = .ok (.invokestatic i, 3)) (X : xm_Cx p s m args c cc own B D T h0 nL) (kk : xm_G p l e R s m args below meth c B D T h0 nL Q (pc + 3, lo, st) (h.1, va_up h.2.1 b (va_cpy (h.2.1 a) (h.2.1 b) sp.toNatClampNeg dp.toNatClampNeg n.toNatClampNeg), h.2.2.1, h.2.2.2)) : xm_G p l e R s m args below meth c B D T h0 nL Q (pc, lo, .int n :: .int dp :: .ref b :: .int sp :: .ref a :: st) h := fun H locs ls a1 a2 a3 a4 a5 => by
  obtain ⟨n0, n1, hn0, hn1, g1, g2, g3, g4, g5⟩ := hcp
  have hts := X.2.2.2.2.1
  have hK := X.2.2.2.2.2.1
  intro U hU XX
  have hc0 : H[B + a]? = some (vp_cell T.1 (n0, .inl (h.2.1 a))) := xm_P_at a4 hn0
  have hc1 : H[B + b]? = some (vp_cell T.1 (n1, .inl (h.2.1 b))) := xm_P_at a4 hn1
  obtain ⟨-, k0, hk0, cm0, hkk0⟩ := (hK.2 0 _ rfl).1 n0 (fun j => .int (h.2.1 a j))
  obtain ⟨-, k1, hk1, cm1, hkk1⟩ := (hK.2 0 _ rfl).1 n1 (fun j => .int (h.2.1 b j))
  obtain ⟨vm', X', step⟩ := XX.arraycopy X.1 X.2.2.2.1 (hts _ hl) (hts _ w1) (hts _ w2) (hts _ w3) (src := B + a) (dst := B + b) (cs := vp_cell T.1 (n0, .inl (h.2.1 a))) (cd := vp_cell T.1 (n1, .inl (h.2.1 b))) (srcPos := sp) (destPos := dp) (n := n) (by rw [hU]; exact hc0) (by rw [hU]; exact hc1)
    (fun _ h => by cases h) (fun _ h => by cases h) (fun h => by cases h) (fun h => by cases h) hk0 hk1 hkk0 hkk1 (by simp [refKind]) g1 g2 g3
    (by rw [xm_clamp sp g1, xm_clamp n g3]; show ¬ _ > ((arrV T.1 n0 (fun j => .int (h.2.1 a j))).slots.size : Int); rw [arrV_size]; omega)
    (by rw [xm_clamp dp g2, xm_clamp n g3]; show ¬ _ > ((arrV T.1 n1 (fun j => .int (h.2.1 b j))).slots.size : Int); rw [arrV_size]; omega)
    (fun vm₁ _ i hi => by
      have e : (vp_cell T.1 (n0, .inl (h.2.1 a))).slots.getD (sp.toNatClampNeg + i) .null = .int (h.2.1 a (sp.toNatClampNeg + i)) := by
        show (arrV T.1 n0 (fun j => .int (h.2.1 a j))).slots.getD _ _ = _
        rw [Array.getD_eq_getD_getElem?, arrV_read _ _ (by omega)]
        rfl
      refine ⟨?_, ?_⟩
      · rw [e]
        rfl
      · rw [e]
        exact trivial)
    (g := F0 m pc ls (.int n :: .int dp :: .ref (B + b) :: .int sp :: .ref (B + a) :: st.map (xm_r B))) rfl (by rw [X.2.2.1]; exact a1.1) (rest := st.map (xm_r B)) rfl (by rw [X.2.1]; exact hd) hfr (by
      have q1 := xm_csr B st
      have q2 : nativeFrameWords "java/lang/System" "arraycopy" 5 + 11 ≤ 90 := by decide +kernel
      show 2 * 0 + _ + _ ≤ _
      omega)
  have e1 : copied (vp_cell T.1 (n0, .inl (h.2.1 a))) (vp_cell T.1 (n1, .inl (h.2.1 b))) sp dp n = vp_cell T.1 (n1, .inl (va_cpy (h.2.1 a) (h.2.1 b) sp.toNatClampNeg dp.toNatClampNeg n.toNatClampNeg)) := va_copied (fun z => .int z) T.1 T.1 (h.2.1 a) (h.2.1 b) g4
  rw [e1] at X' step
  generalize hcell : vp_cell T.1 (n1, .inl (va_cpy (h.2.1 a) (h.2.1 b) sp.toNatClampNeg dp.toNatClampNeg n.toNatClampNeg)) = nc at X' step
  have hlt : B + b < H.size := (Array.getElem?_eq_some_iff.mp hc1).1
  have hheap : ((U.setVm vm').setCell (B + b) nc).heap = H.setIfInBounds (B + b) nc := by rw [← hU]; rfl
  have oq : ∀ q : Nat, q ≠ B + b → (H.setIfInBounds (B + b) nc)[q]? = H[q]? := fun q hq => by simp [Array.getElem?_setIfInBounds, Ne.symm hq]
  have hP' := a4.set (xm_D B T h) (xm_w_at hn1) (e := .inl (T.1, n1, .inl (va_cpy (h.2.1 a) (h.2.1 b) sp.toNatClampNeg dp.toNatClampNeg n.toNatClampNeg))) (H1 := H.setIfInBounds (B + b) nc) (show (H.setIfInBounds (B + b) _)[B + b]? = some _ by rw [← hcell]; simp [Array.getElem?_setIfInBounds, hlt]) oq
  rw [xm_w_set (B := B) (T := T) (h := h) (h' := (h.1, va_up h.2.1 b (va_cpy (h.2.1 a) (h.2.1 b) sp.toNatClampNeg dp.toNatClampNeg n.toNatClampNeg), h.2.2.1, h.2.2.2)) rfl hn1 (by simp [xm_en, va_up]) (fun b9 hb9 z => xm_en_I (h := h) (h' := (h.1, va_up h.2.1 b (va_cpy (h.2.1 a) (h.2.1 b) sp.toNatClampNeg dp.toNatClampNeg n.toNatClampNeg), h.2.2.1, h.2.2.2)) (xm_vu_o hb9) rfl rfl z)] at hP'
  obtain ⟨t, b1, b2⟩ := kk _ _ ls a1 a2 (by simp; exact a3) hP' ⟨by simp; exact a5.1, fun q g1 g2 => by
      rw [oq q (fun e => g2 (by rw [e]; exact Nat.le_add_right B b))]
      exact a5.2.1 q g1 g2, fun q hq => by
      rcases List.mem_append.mp hq with h | h
      · exact a5.2.2 q h
      · obtain ⟨z, -, hz⟩ := List.mem_map.mp h
        rw [← hz]
        exact Nat.le_add_right B b⟩ _ hheap X'
  exact ⟨t, step t b1, b2⟩
theorem xs_cpL {i a b : Nat} {sp dp n : Int32} (hl : Cond.methodLink own i arraycopyName ∈ xm_tb) (w1 : Cond.native arraycopyName ∈ xm_tb) (w2 : Cond.static arraycopyName ∈ xm_tb) (w3 : Cond.initialized "java/lang/System" ∈ xm_tb) (hcp : xm_cpR h a b 1 sp dp n) (hfr : 1 ≤ R.frames) (hlc : 100 ≤ R.locals) (hcs : xm_cs st ≤ 8) (hd : decode cc pc = .ok (.invokestatic i, 3)) (X : xm_Cx p s m args c cc own B D T h0 nL) (kk : xm_G p l e R s m args below meth c B D T h0 nL Q (pc + 3, lo, st) (h.1, h.2.1, va_up h.2.2.1 b (va_cpy (h.2.2.1 a) (h.2.2.1 b) sp.toNatClampNeg dp.toNatClampNeg n.toNatClampNeg), h.2.2.2)) : xm_G p l e R s m args below meth c B D T h0 nL Q (pc, lo, .int n :: .int dp :: .ref b :: .int sp :: .ref a :: st) h := fun H locs ls a1 a2 a3 a4 a5 => by
  obtain ⟨n0, n1, hn0, hn1, g1, g2, g3, g4, g5⟩ := hcp
  have hts := X.2.2.2.2.1
  have hK := X.2.2.2.2.2.1
  intro U hU XX
  have hc0 : H[B + a]? = some (vp_cell T.2.1 (n0, .inr (.inl (h.2.2.1 a)))) := xm_P_at a4 hn0
  have hc1 : H[B + b]? = some (vp_cell T.2.1 (n1, .inr (.inl (h.2.2.1 b)))) := xm_P_at a4 hn1
  obtain ⟨-, k0, hk0, cm0, hkk0⟩ := (hK.2 1 _ rfl).1 n0 (fun j => .long (h.2.2.1 a j))
  obtain ⟨-, k1, hk1, cm1, hkk1⟩ := (hK.2 1 _ rfl).1 n1 (fun j => .long (h.2.2.1 b j))
  obtain ⟨vm', X', step⟩ := XX.arraycopy X.1 X.2.2.2.1 (hts _ hl) (hts _ w1) (hts _ w2) (hts _ w3) (src := B + a) (dst := B + b) (cs := vp_cell T.2.1 (n0, .inr (.inl (h.2.2.1 a)))) (cd := vp_cell T.2.1 (n1, .inr (.inl (h.2.2.1 b)))) (srcPos := sp) (destPos := dp) (n := n) (by rw [hU]; exact hc0) (by rw [hU]; exact hc1)
    (fun _ h => by cases h) (fun _ h => by cases h) (fun h => by cases h) (fun h => by cases h) hk0 hk1 hkk0 hkk1 (by simp [refKind]) g1 g2 g3
    (by rw [xm_clamp sp g1, xm_clamp n g3]; show ¬ _ > ((arrV T.2.1 n0 (fun j => .long (h.2.2.1 a j))).slots.size : Int); rw [arrV_size]; omega)
    (by rw [xm_clamp dp g2, xm_clamp n g3]; show ¬ _ > ((arrV T.2.1 n1 (fun j => .long (h.2.2.1 b j))).slots.size : Int); rw [arrV_size]; omega)
    (fun vm₁ _ i hi => by
      have e : (vp_cell T.2.1 (n0, .inr (.inl (h.2.2.1 a)))).slots.getD (sp.toNatClampNeg + i) .null = .long (h.2.2.1 a (sp.toNatClampNeg + i)) := by
        show (arrV T.2.1 n0 (fun j => .long (h.2.2.1 a j))).slots.getD _ _ = _
        rw [Array.getD_eq_getD_getElem?, arrV_read _ _ (by omega)]
        rfl
      refine ⟨?_, ?_⟩
      · rw [e]
        rfl
      · rw [e]
        exact trivial)
    (g := F0 m pc ls (.int n :: .int dp :: .ref (B + b) :: .int sp :: .ref (B + a) :: st.map (xm_r B))) rfl (by rw [X.2.2.1]; exact a1.1) (rest := st.map (xm_r B)) rfl (by rw [X.2.1]; exact hd) hfr (by
      have q1 := xm_csr B st
      have q2 : nativeFrameWords "java/lang/System" "arraycopy" 5 + 11 ≤ 90 := by decide +kernel
      show 2 * 0 + _ + _ ≤ _
      omega)
  have e1 : copied (vp_cell T.2.1 (n0, .inr (.inl (h.2.2.1 a)))) (vp_cell T.2.1 (n1, .inr (.inl (h.2.2.1 b)))) sp dp n = vp_cell T.2.1 (n1, .inr (.inl (va_cpy (h.2.2.1 a) (h.2.2.1 b) sp.toNatClampNeg dp.toNatClampNeg n.toNatClampNeg))) := va_copied (fun z => .long z) T.2.1 T.2.1 (h.2.2.1 a) (h.2.2.1 b) g4
  rw [e1] at X' step
  generalize hcell : vp_cell T.2.1 (n1, .inr (.inl (va_cpy (h.2.2.1 a) (h.2.2.1 b) sp.toNatClampNeg dp.toNatClampNeg n.toNatClampNeg))) = nc at X' step
  have hlt : B + b < H.size := (Array.getElem?_eq_some_iff.mp hc1).1
  have hheap : ((U.setVm vm').setCell (B + b) nc).heap = H.setIfInBounds (B + b) nc := by rw [← hU]; rfl
  have oq : ∀ q : Nat, q ≠ B + b → (H.setIfInBounds (B + b) nc)[q]? = H[q]? := fun q hq => by simp [Array.getElem?_setIfInBounds, Ne.symm hq]
  have hP' := a4.set (xm_D B T h) (xm_w_at hn1) (e := .inl (T.2.1, n1, .inr (.inl (va_cpy (h.2.2.1 a) (h.2.2.1 b) sp.toNatClampNeg dp.toNatClampNeg n.toNatClampNeg)))) (H1 := H.setIfInBounds (B + b) nc) (show (H.setIfInBounds (B + b) _)[B + b]? = some _ by rw [← hcell]; simp [Array.getElem?_setIfInBounds, hlt]) oq
  rw [xm_w_set (B := B) (T := T) (h := h) (h' := (h.1, h.2.1, va_up h.2.2.1 b (va_cpy (h.2.2.1 a) (h.2.2.1 b) sp.toNatClampNeg dp.toNatClampNeg n.toNatClampNeg), h.2.2.2)) rfl hn1 (by simp [xm_en, va_up]) (fun b9 hb9 z => xm_en_I (h := h) (h' := (h.1, h.2.1, va_up h.2.2.1 b (va_cpy (h.2.2.1 a) (h.2.2.1 b) sp.toNatClampNeg dp.toNatClampNeg n.toNatClampNeg), h.2.2.2)) rfl (xm_vu_o hb9) rfl z)] at hP'
  obtain ⟨t, b1, b2⟩ := kk _ _ ls a1 a2 (by simp; exact a3) hP' ⟨by simp; exact a5.1, fun q g1 g2 => by
      rw [oq q (fun e => g2 (by rw [e]; exact Nat.le_add_right B b))]
      exact a5.2.1 q g1 g2, fun q hq => by
      rcases List.mem_append.mp hq with h | h
      · exact a5.2.2 q h
      · obtain ⟨z, -, hz⟩ := List.mem_map.mp h
        rw [← hz]
        exact Nat.le_add_right B b⟩ _ hheap X'
  exact ⟨t, step t b1, b2⟩
/-! a method's contract out of its abstract run -/
def xm_Pc (B : Nat) (D : va_G) (T : xm_T) (as : List Value) (h : xm_H) : Array Value → State → Prop := fun v U => v = (as.map (xm_r B)).toArray ∧ U.heap.size = B + h.1.length ∧ va_P D xm_cl (xm_w B T h) U.heap ∧ va_K D xm_cl (xm_tys T) U ∧ ∀ w ∈ xm_tb, goodWord w = false → va_Nw w U
def xm_Qc (B : Nat) (D : va_G) (T : xm_T) (r : Option Value) (h : xm_H) : Array Value → State → Outcome → State → Prop := fun _ U o t => o = .returned (r.map (xm_r B)) ∧ t.heap.size = B + h.1.length ∧ va_P D xm_cl (xm_w B T h) t.heap ∧ va_K D xm_cl (xm_tys T) t ∧ va_F (fun q => B ≤ q) U t
def xm_rm (d mc ms : Nat) : Room := { frames := d, cells := mc, slots := ms, locals := 100 * d }
def xm_ws (M : xm_M) : List Cond := .code M.1 M.2.1 M.2.2.1 M.2.2.2.1 :: xm_tb.filter goodWord
theorem xm_bad {w : Cond} (h : w ∈ xm_tb) (hg : goodWord w = false) : xm_isNA w = true := by
  have := (List.mem_filter.mp h).2
  rw [hg] at this
  simpa using this
theorem xm_bad_vm {w : Cond} (h : xm_isNA w = true) {A A' : Array Value} {u U : State} (hv : u.vm = U.vm) (hz : w.before A u = true) : w.before A' U = true := by
  cases w with
  | methodLinkNest a i x host => exact va_tabs rfl hv hz
  | arrayOver ty =>
    simp only [Cond.before, Cond.holds, Cond.value] at hz ⊢
    rw [← hv]
    exact hz
  | _ => cases h
theorem xm_bad_warm {w : Cond} (h : xm_isNA w = true) {s U : State} (hW : s.WarmedH U.vm) (hz : va_Nw w s) : va_Nw w U := by
  cases w with
  | methodLinkNest a i x host => exact va_Nw.warmM hW hz
  | arrayOver ty =>
    refine xm_bad_vm (A := #[]) rfl (rfl : (s.setVm U.vm).vm = U.vm) ?_
    rw [Cond.arrayOver_setVmC hW.alike]
    exact hz
  | _ => cases h
theorem xm_blind (B : Nat) (D : va_G) (T : xm_T) (as : List Value) (h : xm_H) : FrameBlind (xm_Pc B D T as h) := fun a U g mk q => by
  obtain ⟨q0, q1, qP, qK, qN⟩ := q
  exact ⟨q0, q1, qP, va_K.moved (u := U) (U := U.calling g mk a) (Vm.Alike.refl U.vm) qK, fun w hw hg => xm_bad_vm (A := #[]) (u := U) (U := U.calling g mk a) (xm_bad hw hg) rfl (qN w hw hg)⟩
/-- behind a call -/
theorem xs_back {H : Heap} {locs : List Loc} {ls : Array Slot} {h1 : xm_H} {r1 : Option Value} {a : Array Value} {st0 : List Value} (a1 : lv_has ls nL (xm_ps B lo)) (a2 : lo.length = nL) (a5 : va_S (fun q => B ≤ q) s.heap H locs) (hr0 : h0.1.length ≤ h.1.length) (hr1 : xm_sl h0 ≤ xm_sl h) (hg0 : h.1.length ≤ h1.1.length) (hg1 : xm_sl h ≤ xm_sl h1)
    (hr : va_Run p l e R s m args below meth c H locs (h.1.length - h0.1.length) (xm_sl h - xm_sl h0) (h1.1.length - h.1.length) (xm_sl h1 - xm_sl h) (F0 m pc ls st0) (st.map (xm_r B)) (xm_Qc B D T r1 h1 a) (fun q => B ≤ q)) (kk : xm_G p l e R s m args below meth c B D T h0 nL Q (pc + 3, lo, r1.toList ++ st) h1) : W p l e R s m args below meth c H locs (h.1.length - h0.1.length) (xm_sl h - xm_sl h0) Q (F0 m pc ls st0) := by
  intro U hU XX
  obtain ⟨v, st₀, t, T', L, q0, X', hL, e1, e2, ⟨hv, hz, hp, hk, hF⟩, go⟩ := hr U hU XX
  cases hv
  rw [q0.symm] at a5
  have k1 := kk T'.heap (locs ++ L) ls a1 a2 (by rw [e1]; exact hz) (by rw [e1]; exact hp) ⟨Nat.le_trans a5.1 (by rw [e1]; exact hF.1), fun q g1 g2 => by rw [e1, hF.2 q (Nat.lt_of_lt_of_le g1 a5.1) g2]; exact a5.2.1 q g1 g2, fun q hq => by
      rcases List.mem_append.mp hq with h | h
      · exact a5.2.2 q h
      · exact hL q h⟩
  rw [show h.1.length - h0.1.length + (h1.1.length - h.1.length) = h1.1.length - h0.1.length by omega, show xm_sl h - xm_sl h0 + (xm_sl h1 - xm_sl h) = xm_sl h1 - xm_sl h0 by omega] at X'
  obtain ⟨t2, b1, b2⟩ := k1 T' rfl X'
  refine ⟨t2, go t2 ?_, b2⟩
  have es : (r1.toList ++ st).map (xm_r B) = (r1.map (xm_r B)).toList ++ st.map (xm_r B) := by cases r1 <;> simp
  simp only [es] at b1
  exact b1
end XC
