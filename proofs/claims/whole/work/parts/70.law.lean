/-! ===== the law over the machine: its words (pasted from the kit: skeleton), calls, reads ===== -/
def R_law : String := "LawnRingsLaw"
def lw_P (b : Addr) (xs : List Int32) (args : Array Value) (s : State) : Prop := args = #[.ref b] ∧ s.IntsAt b xs ∧ xs.length ≤ 3584 ∧ (Jvm.Cond.and given_1 narrow_1).before args s = true
def lw_Q (_ : Array Value) (s : State) (o : Outcome) (t : State) : Prop := o = .returned (some (.int 1)) ∧ Framed s o t [] 600000 7302250
def lw_Z (below : List Frame) (a : Array Value) (s : State) : State → Prop := fun t => ∃ o, t.status = .running ∧ Ended t below o ∧ lw_Q a s o t
/-- the law's own end, with 1 on the stack, nothing written that was there before, its room as the claim has it -/
theorem lw_ret {p : Program} {l : Launch} {e : Env} {s : State} {m : MethodId} {below : List Frame} {meth : Method} {c : Code} {b : Nat} (hx : p.tables.exec = Jvm.exec) (hb : c.code = code) (hr : meth.sig.returnType = ret) (hlocks : meth.locks = false) {pc : Nat} {H : Heap} {ls : Array Slot} (hdg : decode code pc = .ok (.ireturn, 1)) : W p l e room_1 s m #[Value.ref b] below meth c H [] 600000 7302250 (lw_Z below #[Value.ref b] s) (F0 m pc ls [.int 1]) := by
  intro T hT X
  obtain ⟨fs, hret, hrun, hended, hW, hframe⟩ := X.leave (v := some (.int 1)) (hlocks := hlocks) (fun h => by rw [hr] at h; cases h)
  have hmeth' : T.vm.method? m = some meth := X.method'
  refine ⟨T.setFrames fs, ?_, .returned (some (.int 1)), hrun, hended, rfl, ⟨_, rfl⟩, hW, hframe⟩
  jvm_step X.here [X.here.top, hx, hb, hdg, hmeth', hr, ret, narrow_b1]
  (try refine ⟨rfl, ?_⟩); (try refine ⟨rfl, ?_⟩)
  first | (intro acts; rw [hret _ acts rfl rfl rfl]) | rw [hret _ _ rfl rfl rfl]
  exact Steps.refl _
/-- what holds at the law's entry: the machine, the code, the tables' words (any of lw_tbl by 'hts w (by decide +kernel)'), the script of L ints xs at the cell b, what the Statement gives of the start (any of its parts by flat_of_before) -/
def lw_At (p : Program) (s : State) (m : MethodId) (meth : Method) (c : Code) (b L : Nat) (xs : Nat → Int32) : Prop :=
  p.tables.exec = Jvm.exec ∧ c.code = code ∧ meth.sig.returnType = ret ∧ c.maxLocals = 4 ∧ s.vm.findClass R_law = some m.cls ∧ (∀ w ∈ lw_tbl, w.before #[Value.ref b] s = true) ∧ va_X b L xs s s.heap ∧ b < s.heap.size ∧ meth.locks = false ∧ (Jvm.Cond.and given_1 narrow_1).before #[Value.ref b] s = true
/-- what holds all along the law -/
def xLC (p : Program) (s : State) (m : MethodId) (c : Code) (b L : Nat) (xs : Nat → Int32) (D : va_G) (T : xm_T) : Prop :=
  p.tables.exec = Jvm.exec ∧ c.code = code ∧ c.maxLocals = 4 ∧ s.vm.findClass R_law = some m.cls ∧ (∀ w ∈ xm_tb, w.before #[Value.ref b] s = true) ∧ va_K D xm_cl (xm_tys T) s ∧ va_X b L xs s s.heap ∧ b < s.heap.size ∧ L ≤ 3584
def xLS (s : State) (D : va_G) (T : xm_T) (h : xm_H) (H : Heap) (locs : List Loc) : Prop := H.size = s.heap.size + h.1.length ∧ va_P D xm_cl (xm_w s.heap.size T h) H ∧ va_S (fun q => s.heap.size ≤ q) s.heap H locs
abbrev xLW (p : Program) (l : Launch) (e : Env) (s : State) (m : MethodId) (b : Nat) (below : List Frame) (meth : Method) (c : Code) (Q : State → Prop) (h : xm_H) (H : Heap) (locs : List Loc) (g : JFrame) : Prop := W p l e room_1 s m #[Value.ref b] below meth c H locs h.1.length (xm_sl h) Q g
section XL
variable {p : Program} {l : Launch} {e : Env} {s : State} {m : MethodId} {below : List Frame} {meth : Method} {c : Code} {b L : Nat} {xs : Nat → Int32} {D : va_G} {T : xm_T} {Q : State → Prop}
theorem xl_back {pc : Nat} {ls : Array Slot} {st0 st : List Value} {h h1 : xm_H} {r1 : Option Value} {a : Array Value} {H : Heap} {locs : List Loc} (S : xLS s D T h H locs) (hg0 : h.1.length ≤ h1.1.length) (hg1 : xm_sl h ≤ xm_sl h1)
    (hr : va_Run p l e room_1 s m #[Value.ref b] below meth c H locs h.1.length (xm_sl h) (h1.1.length - h.1.length) (xm_sl h1 - xm_sl h) (F0 m pc ls st0) st (xm_Qc s.heap.size D T r1 h1 a) (fun q => s.heap.size ≤ q))
    (kk : ∀ H' locs', xLS s D T h1 H' locs' → xLW p l e s m b below meth c Q h1 H' locs' (F0 m (pc + 3) ls ((r1.map (xm_r s.heap.size)).toList ++ st))) : xLW p l e s m b below meth c Q h H locs (F0 m pc ls st0) := by
  obtain ⟨a3, a4, a5⟩ := S
  intro U hU XX
  obtain ⟨v, st₀, t, T', L', q0, X', hL, e1, e2, ⟨hv, hz, hp, hk, hF⟩, go⟩ := hr U hU XX
  cases hv
  rw [q0.symm] at a5
  have k1 := kk T'.heap (locs ++ L') ⟨by rw [e1]; exact hz, by rw [e1]; exact hp, Nat.le_trans a5.1 (by rw [e1]; exact hF.1), fun q g1 g2 => by rw [e1, hF.2 q (Nat.lt_of_lt_of_le g1 a5.1) g2]; exact a5.2.1 q g1 g2, fun q hq => by
      rcases List.mem_append.mp hq with h | h
      · exact a5.2.2 q h
      · exact hL q h⟩
  rw [show h.1.length + (h1.1.length - h.1.length) = h1.1.length by omega, show xm_sl h + (xm_sl h1 - xm_sl h) = xm_sl h1 by omega] at X'
  obtain ⟨t2, b1, b2⟩ := k1 T' rfl X'
  exact ⟨t2, go t2 b1, b2⟩
theorem xl_N (X : xLC p s m c b L xs D T) : ∀ w ∈ xm_tb, goodWord w = false → va_Nw w s := fun w hw hg => xm_bad_vm (A := #[Value.ref b]) (A' := #[]) (xm_bad hw hg) rfl (X.2.2.2.2.1 w hw)
theorem xl_rm (d mi mc ms : Nat) (hd : d = 20) : (xm_rm d mc ms).frames + 1 ≤ room_1.frames ∧ 8 + ((xm_pr mi).2.2.1 + 11) + (xm_rm d mc ms).locals ≤ room_1.locals := by
  have h := (xm_V.1 mi).2.2.2.2
  subst hd
  refine ⟨by show 20 + 1 ≤ 2048; decide, ?_⟩
  show 8 + ((xm_pr mi).2.2.1 + 11) + 100 * 20 ≤ 84000
  omega
theorem xl_call {pc i mi n a0 : Nat} {ls : Array Slot} {as rest : List Value} {h h1 : xm_H} {v : Int32} {H : Heap} {locs : List Loc} (X : xLC p s m c b L xs D T) (hd : decode code pc = .ok (.invokevirtual i, 3)) (q1 : Cond.methodLink R_law i (xm_pr mi).1 ∈ xm_tb) (hv : mi ∈ xl_VI) (hi : mi ∈ xl_IM) (q4 : (parseMethodDescriptor (xm_pr mi).1.desc).map (fun d => d.parameters.length) = some n) (hn : as.length = n) (hob : xm_ob h a0 (xm_pr mi).2.2.2.2.1) (hC : xm_C xm_pr 20 mi (.ref a0 :: as) h (some (.int v)) h1) (hcs : xm_cs rest ≤ 8) (hc : h1.1.length ≤ 600000 ∧ xm_sl h1 ≤ 7302250) (S : xLS s D T h H locs) (hsz : ls.size = 4)
    (kk : ∀ H' locs', xLS s D T h1 H' locs' → xLW p l e s m b below meth c Q h1 H' locs' (F0 m (pc + 3) ls (.int v :: rest.map (xm_r s.heap.size)))) : xLW p l e s m b below meth c Q h H locs (F0 m pc ls ((as.map (xm_r s.heap.size)).reverse ++ .ref (s.heap.size + a0) :: rest.map (xm_r s.heap.size))) := by
  have hM := xm_sound (l := l) (B := s.heap.size) (D := D) (T := T) xm_V 20 mi (.ref a0 :: as) h (some (.int v)) h1 hC
  have hg := xm_C_gr 20 _ _ _ _ _ hC
  have hts := X.2.2.2.2.1
  have hK := X.2.2.2.2.2.1
  obtain ⟨a3, a4, a5⟩ := id S
  obtain ⟨hV1, hV2, hV3, hV4, hV5⟩ := xm_V.1 mi
  obtain ⟨q5, q6⟩ := xo_VC mi hv
  have hf : h.1.length + (h1.1.length - h.1.length) ≤ room_1.cells ∧ xm_sl h + (xm_sl h1 - xm_sl h) ≤ room_1.slots := by
    have := hg.len; have := hg.sl
    exact ⟨by show _ ≤ 600000; omega, by show _ ≤ 7302250; omega⟩
  have SF : CallFix p m c code 4 s #[Value.ref b] xm_tb R_law := ⟨X.1, X.2.1, X.2.2.1, X.2.2.2.1, hts⟩
  have hW8 : 2 * (F0 m pc ls ((as.map (xm_r s.heap.size)).reverse ++ .ref (s.heap.size + a0) :: rest.map (xm_r s.heap.size))).monitorRoom + ((rest.map (xm_r s.heap.size)).map fun v => v.category).sum ≤ 8 := lv_room (by rw [xm_csr]; exact hcs)
  have hpc : ∀ U : State, U.heap = H → s.WarmedH U.vm → xm_Pc s.heap.size D T (.ref a0 :: as) h ((Value.ref a0 :: as).map (xm_r s.heap.size)).toArray U := fun U hU hW => ⟨rfl, by rw [hU]; exact a3, by rw [hU]; exact a4, va_K.moved hW.alike hK, fun w hw hg => xm_bad_warm (xm_bad hw hg) hW (xl_N X w hw hg)⟩
  have cw : CallW room_1 s #[Value.ref b] R_law (xm_pr mi).1.cls i (xm_pr mi).1 (xm_pr mi).2.1 (xm_pr mi).2.2.1 (xm_pr mi).2.2.2.1 (xm_ws (xm_pr mi)) (xm_rm 20 (h1.1.length - h.1.length) (xm_sl h1 - xm_sl h)) (h1.1.length - h.1.length) (xm_sl h1 - xm_sl h) n := ⟨callB_of n hts (xm_goodIn (xm_V.1 mi)) rfl rfl rfl (hts _ hV2) (hts _ q1) ⟨hV4.1, hV4.2, q4⟩ (xl_rm 20 mi _ _ rfl), hts _ (xm_mem_map xo_IM hi), hts _ (xm_mem_map xo_VI hv)⟩
  refine xl_back S hg.len hg.sl (va_runV (As := as.map (xm_r s.heap.size)) (b := s.heap.size + a0) SF hM cw ⟨xm_blind s.heap.size D T _ h, ?_, hpc⟩ rfl ?_ hsz rfl hW8 hd hf) kk
  · rw [← q6]
    exact va_recv hK a4 (ci := (xm_pr mi).2.2.2.2.1) (q := (xm_RX (xm_pr mi).2.2.2.2.1, xm_TX (xm_pr mi).2.2.2.2.1, xm_N (xm_pr mi).2.2.2.2.1)) (xm_cl_at q5) (xm_ob_at hob)
  · rw [List.length_map]
    exact hn
theorem xl_init {pc i mi a0 : Nat} {ls : Array Slot} {rest : List Value} {h h1 : xm_H} {H : Heap} {locs : List Loc} (X : xLC p s m c b L xs D T) (hd : decode code pc = .ok (.invokespecial i, 3)) (q1 : Cond.methodLink R_law i (xm_pr mi).1 ∈ xm_tb) (hi : mi ∈ xl_IM) (q3 : (xm_pr mi).1.name = "<init>") (q2 : (xm_pr mi).2.2.2.1 = none) (q4 : (parseMethodDescriptor (xm_pr mi).1.desc).map (fun d => d.parameters.length) = some 0) (hC : xm_C xm_pr 20 mi [.ref a0] h none h1) (hcs : xm_cs rest ≤ 8) (hc : h1.1.length ≤ 600000 ∧ xm_sl h1 ≤ 7302250) (S : xLS s D T h H locs) (hsz : ls.size = 4)
    (kk : ∀ H' locs', xLS s D T h1 H' locs' → xLW p l e s m b below meth c Q h1 H' locs' (F0 m (pc + 3) ls (rest.map (xm_r s.heap.size)))) : xLW p l e s m b below meth c Q h H locs (F0 m pc ls (.ref (s.heap.size + a0) :: rest.map (xm_r s.heap.size))) := by
  have hM := xm_sound (l := l) (B := s.heap.size) (D := D) (T := T) xm_V 20 mi [.ref a0] h none h1 hC
  have hg := xm_C_gr 20 _ _ _ _ _ hC
  have hts := X.2.2.2.2.1
  have hK := X.2.2.2.2.2.1
  obtain ⟨a3, a4, a5⟩ := id S
  obtain ⟨hV1, hV2, hV3, hV4, hV5⟩ := xm_V.1 mi
  have hf : h.1.length + (h1.1.length - h.1.length) ≤ room_1.cells ∧ xm_sl h + (xm_sl h1 - xm_sl h) ≤ room_1.slots := by
    have := hg.len; have := hg.sl
    exact ⟨by show _ ≤ 600000; omega, by show _ ≤ 7302250; omega⟩
  have SF : CallFix p m c code 4 s #[Value.ref b] xm_tb R_law := ⟨X.1, X.2.1, X.2.2.1, X.2.2.2.1, hts⟩
  have hW8 : 2 * (F0 m pc ls (.ref (s.heap.size + a0) :: rest.map (xm_r s.heap.size))).monitorRoom + ((rest.map (xm_r s.heap.size)).map fun v => v.category).sum ≤ 8 := lv_room (by rw [xm_csr]; exact hcs)
  have hpc : ∀ U : State, U.heap = H → s.WarmedH U.vm → xm_Pc s.heap.size D T [.ref a0] h ([Value.ref a0].map (xm_r s.heap.size)).toArray U := fun U hU hW => ⟨rfl, by rw [hU]; exact a3, by rw [hU]; exact a4, va_K.moved hW.alike hK, fun w hw hg => xm_bad_warm (xm_bad hw hg) hW (xl_N X w hw hg)⟩
  have hwd : xm_ws (xm_pr mi) = Cond.code (xm_pr mi).1 (xm_pr mi).2.1 (xm_pr mi).2.2.1 none :: xm_tb.filter goodWord := by rw [← q2]; rfl
  refine xl_back S hg.len hg.sl (va_runI (As := []) (b := s.heap.size + a0) SF hM ⟨callB_of 0 hts (xm_goodIn (xm_V.1 mi)) hwd rfl rfl (hts _ hV2) (hts _ q1) ⟨hV4.1, hV4.2, q4⟩ (xl_rm 20 mi _ _ rfl), q3, hts _ (xm_mem_map xo_IM hi)⟩ ⟨xm_blind s.heap.size D T _ h, hpc⟩ rfl rfl hsz rfl hW8 hd hf) kk
theorem xl_new {pc i ci : Nat} {ls : Array Slot} {st : List Value} {h : xm_H} {H : Heap} {locs : List Loc} (X : xLC p s m c b L xs D T) (hci : ci < 9) (h1 : Cond.classLink R_law i (xm_RX ci) ∈ xm_tb) (h2 : Cond.instantiable (xm_RX ci) (xm_N ci) ∈ xm_tb) (h3 : Cond.initialized (xm_RX ci) ∈ xm_tb) (hc : h.1.length + 1 ≤ 600000) (hsl : xm_sl h + xm_N ci ≤ 7302250) (hd : decode code pc = .ok (.new i, 3)) (S : xLS s D T h H locs)
    (kk : ∀ H', xLS s D T (xm_mk h (ci + 5) (xm_N ci)) H' locs → xLW p l e s m b below meth c Q (xm_mk h (ci + 5) (xm_N ci)) H' locs (F0 m (pc + 3) ls (.ref (s.heap.size + h.1.length) :: st))) : xLW p l e s m b below meth c Q h H locs (F0 m pc ls st) := by
  have hts := X.2.2.2.2.1
  have hKn := X.2.2.2.2.2.1.1 ci _ (xm_cl_at hci)
  obtain ⟨a3, a4, a5⟩ := S
  refine W.newcK X.1 X.2.1 X.2.2.2.1 (hts _ h1) (hts _ h2) (hts _ h3) rfl hd hc hsl hKn.2.1 a3 fun H1 kC hkC e1 z1 o1 => ?_
  have k1 := kk H1 ⟨by rw [z1, xm_ln_mk]; omega, xm_P_mk a4 a3 (fun q hq => o1 q (by omega)) ?_, by have := a5.1; omega, fun q g1 g2 => (o1 q (by have := a5.1; omega)).trans (a5.2.1 q g1 g2), a5.2.2⟩
  · unfold xLW at k1
    rw [xm_ln_mk, xm_sl_mk] at k1
    exact k1
  · refine ⟨_, xm_cl_at hci, (u_born (xm_ty ci) hts (xm_in hci) hKn hkC e1 (xm_ty_ok hci)).to fun k hk => ?_⟩
    have hk : k < xm_N ci := hk
    rw [xm_dflt hci k hk]
    simp only [vp_V, List.getD_eq_getElem?_getD, List.getElem?_map, List.getElem?_range hk]
    simp [xm_fv, xm_mk, va_up, va_rf]
/-- five bytes: a number of the script -/
abbrev xd5 (pc k : Nat) : Prop := decode code pc = .ok (.aload_n 0, 1) ∧ decode code (pc + 1) = .ok (.iload_n 3, 1) ∧ decode code (pc + 2) = .ok (.iconst k, 1) ∧ decode code (pc + 3) = .ok (.iadd, 1) ∧ decode code (pc + 4) = .ok (.iaload, 1)
abbrev xd6 (pc k : Nat) : Prop := decode code pc = .ok (.aload_n 0, 1) ∧ decode code (pc + 1) = .ok (.iload_n 3, 1) ∧ decode code (pc + 2) = .ok (.bipush k, 2) ∧ decode code (pc + 4) = .ok (.iadd, 1) ∧ decode code (pc + 5) = .ok (.iaload, 1)
theorem xl_rd {pc k i : Nat} {ls : Array Slot} {st : List Value} {h : xm_H} {H : Heap} {locs : List Loc} (X : xLC p s m c b L xs D T) (S : xLS s D T h H locs) (h0 : ls[0]? = some (.val (.ref b))) (h3 : ls[3]? = some (.val (.int (nI i)))) (hk : i + k < L) (hv : Int32.ofInt (k : Int) = nI k) (d : xd5 pc k) (kk : xLW p l e s m b below meth c Q h H locs (F0 m (pc + 5) ls (.int (xs (i + k)) :: st))) : xLW p l e s m b below meth c Q h H locs (F0 m pc ls st) := by
  obtain ⟨d0, d1, d2, d3, d4⟩ := d
  have hL := X.2.2.2.2.2.2.2.2
  refine lv_aload_n X.1 X.2.1 d0 rfl h0 ?_
  refine lv_iload_n X.1 X.2.1 d1 rfl h3 ?_
  refine lv_iconst X.1 X.2.1 d2 hv ?_
  refine lv_iadd X.1 X.2.1 d3 ?_
  rw [nI_add]
  refine va_sld X.1 X.2.1 X.2.2.2.2.2.2.1 X.2.2.2.2.2.2.2.1 (Nat.not_le.mpr X.2.2.2.2.2.2.2.1) S.2.2 (vp_in_nI hk (by omega)) d4 ?_
  rw [xn_cl (by omega)]
  exact kk
theorem xl_rd6 {pc k i : Nat} {ls : Array Slot} {st : List Value} {h : xm_H} {H : Heap} {locs : List Loc} (X : xLC p s m c b L xs D T) (S : xLS s D T h H locs) (h0 : ls[0]? = some (.val (.ref b))) (h3 : ls[3]? = some (.val (.int (nI i)))) (hk : i + k < L) (hv : (Int8.ofInt (k : Int)).toInt32 = nI k) (d : xd6 pc k) (kk : xLW p l e s m b below meth c Q h H locs (F0 m (pc + 6) ls (.int (xs (i + k)) :: st))) : xLW p l e s m b below meth c Q h H locs (F0 m pc ls st) := by
  obtain ⟨d0, d1, d2, d3, d4⟩ := d
  have hL := X.2.2.2.2.2.2.2.2
  refine lv_aload_n X.1 X.2.1 d0 rfl h0 ?_
  refine lv_iload_n X.1 X.2.1 d1 rfl h3 ?_
  refine lv_bipush X.1 X.2.1 d2 hv ?_
  refine lv_iadd X.1 X.2.1 d3 ?_
  rw [nI_add]
  refine va_sld X.1 X.2.1 X.2.2.2.2.2.2.1 X.2.2.2.2.2.2.2.1 (Nat.not_le.mpr X.2.2.2.2.2.2.2.1) S.2.2 (vp_in_nI hk (by omega)) d4 ?_
  rw [xn_cl (by omega)]
  exact kk
theorem xl_bd (b : Bool) (I : Nat → Nat → Int32) (L : Nat → Nat → Int64) (P : Nat → Nat → Option Nat) : ((xS b, I, L, P) : xm_H).1.length ≤ 600000 ∧ xm_sl (xS b, I, L, P) ≤ 7302250 := by
  cases b
  · exact ⟨show (xS false).length ≤ 600000 by decide, show ((xS false).map (fun q => q.2)).sum ≤ 7302250 by decide⟩
  · exact ⟨show (xS true).length ≤ 600000 by decide, show ((xS true).map (fun q => q.2)).sum ≤ 7302250 by decide⟩
end XL
