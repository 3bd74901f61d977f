/-! ===== a method's run: cells only grow; its contract ===== -/
def xm_gr (h h' : xm_H) : Prop := ∃ t, h'.1 = h.1 ++ t
theorem xm_gr.rf (h : xm_H) : xm_gr h h := ⟨[], by simp⟩
theorem xm_gr.of {h h' : xm_H} (e : h'.1 = h.1) : xm_gr h h' := ⟨[], by simp [e]⟩
theorem xm_gr.tr {h h1 h2 : xm_H} (a : xm_gr h h1) (b : xm_gr h1 h2) : xm_gr h h2 := by
  obtain ⟨t, e⟩ := a
  obtain ⟨u, q⟩ := b
  exact ⟨t ++ u, by rw [q, e, List.append_assoc]⟩
theorem xm_gr.len {h h' : xm_H} (a : xm_gr h h') : h.1.length ≤ h'.1.length := by
  obtain ⟨t, e⟩ := a
  rw [e]
  simp
theorem xm_gr.sl {h h' : xm_H} (a : xm_gr h h') : xm_sl h ≤ xm_sl h' := by
  obtain ⟨t, e⟩ := a
  unfold xm_sl
  rw [e]
  simp
theorem xm_gr.mk (h : xm_H) (k n : Nat) : xm_gr h (xm_mk h k n) := ⟨[(k, n)], rfl⟩
theorem xm_gr.mkN (h : xm_H) (k n m : Nat) : xm_gr h (xm_mkN h k n m) := ⟨_, xm_mkN_1 h k n m⟩
set_option maxHeartbeats 4000000 in
theorem xm_st_gr {en : xm_E} {f f1 : xm_F} {h h1 : xm_H} {ps : List Prop} (hst : xm_st en f h = some (ps, f1, h1)) : xm_gr h h1 := by
  obtain ⟨ins, len, ⟨a, b, cN⟩, kc, jc, sw⟩ := en
  obtain ⟨pc, lo, st⟩ := f
  cases ins
  case if_icmp cd off => cases cd <;> (obtain ⟨x, y, r, e1, rfl, rfl⟩ := xi_bi hst; exact xm_gr.rf _)
  case ifCond cd off => cases cd <;> (obtain ⟨x, r, e1, rfl, rfl⟩ := xi_bz hst; exact xm_gr.rf _)
  case multianewarray i dm =>
    simp only [xm_st] at hst
    split at hst
    · cases hst
      exact xm_gr.tr (xm_gr.mk h 4 _) (xm_gr.tr (xm_gr.mkN _ 0 _ _) (xm_gr.of rfl))
    · cases hst
  all_goals (simp only [xm_st, xm_ii, xm_ll, xm_i1, xm_l1, xm_lo, xm_so, xm_so2] at hst)
  all_goals (first | (cases hst; exact xm_gr.rf _) | (cases hst; exact xm_gr.mk _ _ _) | cases hst | skip)
  all_goals (repeat' split at hst)
  all_goals (cases hst <;> first | exact xm_gr.rf _ | exact xm_gr.of rfl | exact xm_gr.mk _ _ _)
theorem xm_R_gr {pr : Nat → xm_M} {call : Nat → List Value → xm_H → Option Value → xm_H → Prop} (hcall : ∀ mi as h r h', call mi as h r h' → xm_gr h h') {mi : Nat} : ∀ n f h r h', xm_R pr call mi n f h r h' → xm_gr h h'
  | 0, _, _, _, _, q => q.elim
  | n + 1, f, h, r, h', q => by
    rcases q with ⟨l0, -, q⟩ | ⟨e, -, q⟩
    · exact xm_R_gr hcall n _ _ _ _ q
    · rcases q with ⟨ps, f1, h1, q1, -, q2⟩ | ⟨p, -, -, rfl⟩ | ⟨k, as, rest, r1, h1, -, -, -, -, -, q1, q2⟩ | ⟨a, rest, -, -, -, q⟩ | ⟨c, dp, b, sp, a, rest, -, -, -, -, q⟩ | ⟨c, dp, b, sp, a, rest, -, -, -, -, q⟩
      · exact (xm_st_gr q1).tr (xm_R_gr hcall n _ _ _ _ q2)
      · exact xm_gr.rf _
      · exact (hcall _ _ _ _ _ q1).tr (xm_R_gr hcall n _ _ _ _ q2)
      · exact xm_R_gr hcall n _ _ _ _ q
      · obtain ⟨t, ht⟩ := xm_R_gr hcall n _ _ _ _ q
        exact ⟨t, ht⟩
      · obtain ⟨t, ht⟩ := xm_R_gr hcall n _ _ _ _ q
        exact ⟨t, ht⟩
theorem xm_C_gr {pr : Nat → xm_M} : ∀ d mi as h r h', xm_C pr d mi as h r h' → xm_gr h h'
  | 0, _, _, _, _, _, q => q.elim
  | d + 1, _, _, _, _, _, ⟨_, n, q⟩ => xm_R_gr (xm_C_gr d) n _ _ _ _ q
theorem xm_tk_of : ∀ (n : Nat) (acc st as rest : List Value), xm_tk n acc st = some (as, rest) → ∃ pre, st = pre ++ rest ∧ pre.length = n ∧ as = pre.reverse ++ acc
  | 0, acc, st, as, rest, e => by
    cases e
    exact ⟨[], rfl, rfl, rfl⟩
  | n + 1, acc, v :: st, as, rest, e => by
    obtain ⟨pre, h1, h2, h3⟩ := xm_tk_of n (v :: acc) st as rest e
    exact ⟨v :: pre, by rw [h1]; rfl, by simp [h2], by simp [h3]⟩
  | n + 1, acc, [], as, rest, e => by cases e
section XB
variable {p : Program} {l : Launch} {e : Env} {R : Room} {s : State} {m : MethodId} {args : Array Value} {below : List Frame} {meth : Method} {c : Code} {B : Nat} {D : va_G} {T : xm_T} {h0 : xm_H} {nL : Nat}
/-- the end of a method -/
theorem xm_retn {h : xm_H} {f : xm_F} {en : xm_E} {cc : ByteArray} {own : String} {ret : Option FieldType} {pp : Prop} {r : Option Value} (X : xm_Cx p s m args c cc own B D T h0 nL) (hret : meth.sig.returnType = ret) (hlocks : meth.locks = false) (hd : decode cc f.1 = .ok (en.1, en.2.1)) (hlen : ∀ x, en.1 = x → (x = .ireturn ∨ x = .lreturn ∨ x = .areturn ∨ x = .return_) → en.2.1 = 1) (hrt : xm_rt en f ret = some (pp, r)) (hpp : pp) :
    xm_G p l e R s m args below meth c B D T h0 nL (MQ below (xm_Qc B D T r h) args s (h.1.length - h0.1.length) (xm_sl h - xm_sl h0) (fun q => B ≤ q)) f h := fun H locs ls a1 a2 a3 a4 a5 => by
  have fin : ∀ (v : Option Value) (t : State), t.heap = H → s.WarmedH t.vm → xm_Qc B D T v h args s (.returned (v.map (xm_r B))) t := fun v t ht hW => ⟨rfl, by rw [ht]; exact a3, by rw [ht]; exact a4, va_K.moved hW.alike X.2.2.2.2.2.1, a5.F ht⟩
  have hfr : ∀ q ∈ locs, (fun q => B ≤ q) q.base := a5.2.2
  obtain ⟨ins, len, abc, kc, jc, sw⟩ := en
  obtain ⟨pc, lo, st⟩ := f
  unfold xm_rt at hrt
  simp only at hrt hd hlen
  split at hrt
  · cases hrt
    have := hlen _ rfl (Or.inl rfl)
    subst this
    exact W.iret X.1 X.2.1 hret (fun t ht hW => fin (some (.int _)) t ht hW) hfr hd hlocks
  · cases hrt
    have := hlen _ rfl (Or.inl rfl)
    subst this
    exact W.zret X.1 X.2.1 hret (by rcases hpp with rfl | rfl <;> rfl) (fun t ht hW => fin (some (.int _)) t ht hW) hfr hd hlocks
  · cases hrt
    have := hlen _ rfl (Or.inr (Or.inl rfl))
    subst this
    exact W.lret X.1 X.2.1 hret (fun t ht hW => fin (some (.long _)) t ht hW) hfr hd hlocks
  · cases hrt
    have := hlen _ rfl (Or.inr (Or.inr (Or.inl rfl)))
    subst this
    exact W.aret X.1 X.2.1 hret (Or.inr ⟨_, rfl⟩) (Or.inr ⟨_, rfl⟩) (fun t ht hW => fin (some (.ref _)) t ht hW) hfr hd hlocks
  · cases hrt
    have := hlen _ rfl (Or.inr (Or.inr (Or.inr rfl)))
    subst this
    exact W.vret X.1 X.2.1 hret (fun t ht hW => fin none t ht hW) hfr hd hlocks
  · cases hrt
abbrev xm_Mt (l : Launch) (pr : Nat → xm_M) (B : Nat) (D : va_G) (T : xm_T) (d mi : Nat) (as : List Value) (h : xm_H) (r : Option Value) (h' : xm_H) : Prop :=
  Met l (pr mi).1 (xm_ws (pr mi)) (xm_rm d (h'.1.length - h.1.length) (xm_sl h' - xm_sl h)) (xm_Pc B D T as h) (xm_Qc B D T r h') (h'.1.length - h.1.length) (xm_sl h' - xm_sl h) (fun q => B ≤ q)
/-- a call of a method by its contract -/
theorem xm_call {pr : Nat → xm_M} (V : xm_valid pr) {Q : State → Prop} {cc : ByteArray} {own nm : String} {d : Nat} {en : xm_E} {pc : Nat} {lo st as rest : List Value} {h h1 hE : xm_H} {r1 : Option Value} {k : Nat} (X : xm_Cx p s m args c cc own B D T h0 nL) (hN : ∀ w ∈ xm_tb, goodWord w = false → va_Nw w s) (hR : R = xm_rm (d + 1) (hE.1.length - h0.1.length) (xm_sl hE - xm_sl h0))
    (hlk : xm_lk pr own nm cc pc en) (hr0 : xm_gr h0 h) (hg : xm_gr h h1) (hE1 : xm_gr h1 hE) (hk : xm_ck en.1 en.2.2.1.2.1 = some k) (hk3 : k < 3) (htk : xm_tk en.2.2.1.2.2 [] st = some (as, rest)) (hcs : xm_cs rest ≤ 8) (hrc : k = 1 ∨ xm_rc h as (pr en.2.2.1.1).2.2.2.2.1) (hM : xm_Mt l pr B D T d en.2.2.1.1 as h r1 h1)
    (kk : xm_G p l e R s m args below meth c B D T h0 nL Q (pc + 3, lo, r1.toList ++ rest) h1) : xm_G p l e R s m args below meth c B D T h0 nL Q (pc, lo, st) h := fun H locs ls a1 a2 a3 a4 a5 => by
  obtain ⟨ins, len, ⟨a, b, cN⟩, kc, jc, sw⟩ := en
  simp only at hk htk hrc hM
  obtain ⟨hd, hlk⟩ := hlk
  have hts := X.2.2.2.2.1
  have hK := X.2.2.2.2.2.1
  obtain ⟨hV1, hV2, hV3, hV4, hV5⟩ := V.1 a
  obtain ⟨pre, e1, e2, e3⟩ := xm_tk_of _ _ _ _ _ htk
  rw [List.append_nil] at e3
  have epre : pre = as.reverse := by rw [e3, List.reverse_reverse]
  subst epre
  subst e1
  have hrm : (xm_rm d (h1.1.length - h.1.length) (xm_sl h1 - xm_sl h)).frames + 1 ≤ R.frames ∧ 8 + ((pr a).2.2.1 + 11) + (xm_rm d (h1.1.length - h.1.length) (xm_sl h1 - xm_sl h)).locals ≤ R.locals := by
    rw [hR]
    refine ⟨Nat.le_refl _, ?_⟩
    show 8 + ((pr a).2.2.1 + 11) + 100 * d ≤ 100 * (d + 1)
    omega
  have hrc0 : (xm_rm d (h1.1.length - h.1.length) (xm_sl h1 - xm_sl h)).cells = h1.1.length - h.1.length := rfl
  have hrs0 : (xm_rm d (h1.1.length - h.1.length) (xm_sl h1 - xm_sl h)).slots = xm_sl h1 - xm_sl h := rfl
  have hf : (h.1.length - h0.1.length) + (h1.1.length - h.1.length) ≤ R.cells ∧ (xm_sl h - xm_sl h0) + (xm_sl h1 - xm_sl h) ≤ R.slots := by
    rw [hR]
    have := hr0.len; have := hg.len; have := hE1.len; have := hr0.sl; have := hg.sl; have := hE1.sl
    exact ⟨by show _ ≤ hE.1.length - h0.1.length; omega, by show _ ≤ xm_sl hE - xm_sl h0; omega⟩
  have S : CallFix p m c cc nL s args xm_tb own := ⟨X.1, X.2.1, X.2.2.1, X.2.2.2.1, hts⟩
  have hW8 : 2 * (F0 m pc ls ((as.reverse ++ rest).map (xm_r B))).monitorRoom + ((rest.map (xm_r B)).map fun v => v.category).sum ≤ 8 := lv_room (by rw [xm_csr]; exact hcs)
  have hpc : ∀ U : State, U.heap = H → s.WarmedH U.vm → xm_Pc B D T as h (as.map (xm_r B)).toArray U := fun U hU hW => ⟨rfl, by rw [hU]; exact a3, by rw [hU]; exact a4, va_K.moved hW.alike hK, fun w hw hg => xm_bad_warm (xm_bad hw hg) hW (hN w hw hg)⟩
  have hG := xm_goodIn (V.1 a)
  have hwd : xm_ws (pr a) = Cond.code (pr a).1 (pr a).2.1 (pr a).2.2.1 (pr a).2.2.2.1 :: xm_tb.filter goodWord := rfl
  have hini := hts _ hV2
  have esS : (as.reverse ++ rest).map (xm_r B) = (as.map (xm_r B)).reverse ++ rest.map (xm_r B) := by simp
  have fin := fun a9 hr => xs_back (a := a9) (st0 := (as.reverse ++ rest).map (xm_r B)) a1 a2 a5 hr0.len hr0.sl hg.len hg.sl hr kk
  have hlA : as.length = cN := by rw [← e2]; simp
  cases ins
  case invokevirtual i =>
    cases hk
    obtain ⟨rfl, rfl, q1, q2, q3, q4, q5, q6⟩ := hlk
    rcases hrc with q | ⟨a0, t, rfl, hob⟩
    · cases q
    · have es : ((Value.ref a0 :: t).reverse ++ rest).map (xm_r B) = (t.map (xm_r B)).reverse ++ .ref (B + a0) :: rest.map (xm_r B) := by simp [xm_r]
      have cw : CallW R s args own (pr a).1.cls i (pr a).1 (pr a).2.1 (pr a).2.2.1 (pr a).2.2.2.1 (xm_ws (pr a)) (xm_rm d (h1.1.length - h.1.length) (xm_sl h1 - xm_sl h)) (h1.1.length - h.1.length) (xm_sl h1 - xm_sl h) (cN - 1) := ⟨callB_of (cN - 1) hts hG hwd hrc0 hrs0 hini (hts _ q1) ⟨hV4.1, hV4.2, q4⟩ hrm, hts _ q2, hts _ q3⟩
      refine fin _ (va_runV (As := t.map (xm_r B)) (b := B + a0) S hM cw ⟨xm_blind B D T _ h, ?_, hpc⟩ rfl ?_ a1.1 es hW8 hd hf)
      · rw [← q6]
        exact va_recv hK a4 (ci := (pr a).2.2.2.2.1) (q := (xm_RX (pr a).2.2.2.2.1, xm_TX (pr a).2.2.2.2.1, xm_N (pr a).2.2.2.2.1)) (xm_cl_at q5) (xm_ob_at hob)
      · rw [List.length_map, ← hlA]
        simp
  case invokestatic i =>
    obtain ⟨rfl, hz⟩ := hlk
    rcases hz with ⟨rfl, -⟩ | ⟨rfl, -⟩ | ⟨rfl, -⟩ | ⟨q, -⟩ | ⟨hb, z0, z1, z2, z3⟩
    · cases hk
    · cases hk
    · cases hk
    · exfalso
      rcases q with rfl | rfl <;> cases hk <;> omega
    · rcases hb with rfl | rfl
      · exact fin _ (va_runS (As := as.map (xm_r B)) S hM ⟨callB_of cN hts hG hwd hrc0 hrs0 hini (hts _ (z0 rfl)) ⟨hV4.1, hV4.2, z3⟩ hrm, hts _ z2⟩ ⟨xm_blind B D T _ h, hpc⟩ rfl (by rw [List.length_map]; exact hlA) a1.1 esS hW8 hd hf)
      · exact fin _ (va_runSN (As := as.map (xm_r B)) (host := "LawnRings") S hM ⟨va_cnB cN hts hG hwd hrc0 hrs0 (hN _ (z1 rfl) rfl) hini ⟨hV4.1, hV4.2, z3⟩ hrm, hts _ z2, trivial⟩ ⟨xm_blind B D T _ h, hpc⟩ rfl (by rw [List.length_map]; exact hlA) a1.1 esS hW8 hd hf)
  case invokespecial i =>
    obtain ⟨rfl, hz⟩ := hlk
    rcases hz with ⟨rfl, -⟩ | ⟨hb, z0, z1, z2, z3, z4, z5⟩
    · exfalso
      cases hk
      omega
    · have hwd2 : xm_ws (pr a) = Cond.code (pr a).1 (pr a).2.1 (pr a).2.2.1 none :: xm_tb.filter goodWord := by rw [← z4]; rfl
      rcases hrc with q | ⟨a0, t, rfl, hob⟩
      · exfalso
        subst q
        rcases hb with rfl | rfl <;> cases hk
      · have es : ((Value.ref a0 :: t).reverse ++ rest).map (xm_r B) = (t.map (xm_r B)).reverse ++ .ref (B + a0) :: rest.map (xm_r B) := by simp [xm_r]
        have hl9 : (t.map (xm_r B)).length = cN - 1 := by
          rw [List.length_map, ← hlA]
          simp
        rcases hb with rfl | rfl
        · exact fin _ (va_runI (As := t.map (xm_r B)) (b := B + a0) S hM ⟨callB_of (cN - 1) hts hG hwd2 hrc0 hrs0 hini (hts _ (z0 rfl)) ⟨hV4.1, hV4.2, z5⟩ hrm, z3, hts _ z2⟩ ⟨xm_blind B D T _ h, hpc⟩ rfl hl9 a1.1 es hW8 hd hf)
        · exact fin _ (va_runIN (As := t.map (xm_r B)) (b := B + a0) (host := "LawnRings") S hM ⟨va_cnB (cN - 1) hts hG hwd2 hrc0 hrs0 (hN _ (z1 rfl) rfl) hini ⟨hV4.1, hV4.2, z5⟩ hrm, z3, hts _ z2⟩ ⟨xm_blind B D T _ h, hpc⟩ rfl hl9 a1.1 es hW8 hd hf)
  all_goals (cases hk)
end XB
section XM
variable {l : Launch} {B : Nat} {D : va_G} {T : xm_T}
theorem xm_body {pr : Nat → xm_M} (V : xm_valid pr) {d mi : Nat} (hcall : ∀ mi2 as h1 r1 h2, xm_C pr d mi2 as h1 r1 h2 → xm_Mt l pr B D T d mi2 as h1 r1 h2)
    {p : Program} {e : Env} {R : Room} {s : State} {m : MethodId} {args : Array Value} {below : List Frame} {meth : Method} {c : Code} {h0 hE : xm_H} {nL : Nat} {r : Option Value} (X : xm_Cx p s m args c (pr mi).2.1 (pr mi).1.cls B D T h0 nL) (hmn : meth.name = (pr mi).1.name) (hret : meth.sig.returnType = (pr mi).2.2.2.1) (hlocks : meth.locks = false) (hN : ∀ w ∈ xm_tb, goodWord w = false → va_Nw w s)
    (hR : R = xm_rm (d + 1) (hE.1.length - h0.1.length) (xm_sl hE - xm_sl h0)) :
    ∀ n f h, xm_R pr (xm_C pr d) mi n f h r hE → xm_gr h0 h → xm_G p l e R s m args below meth c B D T h0 nL (MQ below (xm_Qc B D T r hE) args s (hE.1.length - h0.1.length) (xm_sl hE - xm_sl h0) (fun q => B ≤ q)) f h
  | 0, _, _, q, _ => q.elim
  | n + 1, (pc, lo, st), h, q, hg => by
    have ih := xm_body V hcall X hmn hret hlocks hN hR (below := below) (e := e) (r := r) n
    rcases q with ⟨l0, q0, q⟩ | ⟨en, hen, q⟩
    · exact xs_forget q0 (ih _ _ q hg)
    · have hlk := V.2 mi pc en hen
      have hts := X.2.2.2.2.1
      rcases q with ⟨ps, f1, h1, q1, q2, q3⟩ | ⟨pp, q1, q2, rfl⟩ | ⟨k, as, rest, r1, h1, q1, q2, q3, q4, q5, q6, q7⟩ | ⟨a, rest, q1, q2, q3, q4⟩ | ⟨n9, dp, b, sp, a, rest, q1, q2, q3, q4, q5⟩ | ⟨n9, dp, b, sp, a, rest, q1, q2, q3, q4, q5⟩
      · have hgE := xm_R_gr (xm_C_gr d) n _ _ _ _ q3
        have hg1 := hg.tr (xm_st_gr q1)
        refine xm_step X hmn hlk hg.len hg.sl ?_ ?_ (by rw [hR]; exact Nat.le_add_left 1 d) (by rw [hR]; show 100 ≤ 100 * (d + 1); omega) q1 q2 (ih _ _ q3 hg1)
        · rw [hR]
          have := hgE.len
          show _ ≤ hE.1.length - h0.1.length
          omega
        · rw [hR]
          have := hgE.sl
          show _ ≤ xm_sl hE - xm_sl h0
          omega
      · refine xm_retn X hret hlocks (en := en) ?_ ?_ q1 q2
        · obtain ⟨ins, len, ⟨a, b, cN⟩, kc, jc, sw⟩ := en
          exact hlk.1
        · intro x hx hx2
          obtain ⟨ins, len, ⟨a, b, cN⟩, kc, jc, sw⟩ := en
          simp only at hx
          subst hx
          have h2 := hlk.2
          rcases hx2 with rfl | rfl | rfl | rfl <;> exact h2
      · have hg1 := xm_C_gr d _ _ _ _ _ q6
        exact xm_call V X hN hR hlk hg hg1 (xm_R_gr (xm_C_gr d) n _ _ _ _ q7) q1 q2 q3 q4 q5 (hcall _ _ _ _ _ q6) (ih _ _ q7 (hg.tr hg1))
      · simp only at q2
        subst q2
        obtain ⟨ins, len, ⟨a9, b9, cN⟩, kc, jc, sw⟩ := en
        obtain ⟨hd, hlk⟩ := hlk
        cases ins
        case invokespecial i =>
          obtain ⟨rfl, hz⟩ := hlk
          rcases hz with ⟨rfl, z1, z2, z3⟩ | ⟨hb, -⟩
          · refine fun H locs ls a1 a2 a3 a4 a5 => W.objInit (a := B + a) X.1 X.2.1 X.2.2.2.1 (hts _ z1) (hts _ z2) (hts _ z3) rfl (by rw [X.2.2.1]; exact a1.1) rfl hd (by rw [hR]; exact Nat.le_add_left 1 d) ?_ (ih _ _ q4 hg H locs ls a1 a2 a3 a4 a5)
            have e8 : 2 * (F0 m pc ls ((Value.ref a :: rest).map (xm_r B))).monitorRoom + ((rest.map (xm_r B)).map fun v => v.category).sum ≤ 8 := lv_room (by rw [xm_csr]; exact q3)
            rw [hR]
            exact Nat.le_trans (Nat.add_le_add_right e8 12) (by show 20 ≤ 100 * (d + 1); omega)
          · exfalso
            rcases hb with rfl | rfl <;> cases q1
        case invokestatic i =>
          exfalso
          obtain ⟨rfl, hz⟩ := hlk
          rcases hz with ⟨rfl, -⟩ | ⟨rfl, -⟩ | ⟨rfl, -⟩ | ⟨rfl | rfl, -⟩ | ⟨rfl | rfl, -⟩ <;> cases q1
        all_goals (cases q1)
      · simp only at q2
        subst q2
        obtain ⟨ins, len, ⟨a9, b9, cN⟩, kc, jc, sw⟩ := en
        obtain ⟨hd, hlk⟩ := hlk
        cases ins
        case invokestatic i =>
          obtain ⟨rfl, hz⟩ := hlk
          rcases hz with ⟨rfl, -⟩ | ⟨rfl, -⟩ | ⟨rfl, -⟩ | ⟨-, z1, z2, z3, z4⟩ | ⟨hb, -⟩
          · cases q1
          · cases q1
          · cases q1
          · exact xs_cpI z1 z2 z3 z4 q4 (by rw [hR]; exact Nat.le_add_left 1 d) (by rw [hR]; show 100 ≤ 100 * (d + 1); omega) q3 hd X (ih _ _ q5 hg)
          · exfalso
            rcases hb with rfl | rfl <;> cases q1
        case invokespecial i =>
          exfalso
          obtain ⟨rfl, hz⟩ := hlk
          rcases hz with ⟨rfl, -⟩ | ⟨rfl | rfl, -⟩ <;> cases q1
        all_goals (cases q1)
      · simp only at q2
        subst q2
        obtain ⟨ins, len, ⟨a9, b9, cN⟩, kc, jc, sw⟩ := en
        obtain ⟨hd, hlk⟩ := hlk
        cases ins
        case invokestatic i =>
          obtain ⟨rfl, hz⟩ := hlk
          rcases hz with ⟨rfl, -⟩ | ⟨rfl, -⟩ | ⟨rfl, -⟩ | ⟨-, z1, z2, z3, z4⟩ | ⟨hb, -⟩
          · cases q1
          · cases q1
          · cases q1
          · exact xs_cpL z1 z2 z3 z4 q4 (by rw [hR]; exact Nat.le_add_left 1 d) (by rw [hR]; show 100 ≤ 100 * (d + 1); omega) q3 hd X (ih _ _ q5 hg)
          · exfalso
            rcases hb with rfl | rfl <;> cases q1
        case invokespecial i =>
          exfalso
          obtain ⟨rfl, hz⟩ := hlk
          rcases hz with ⟨rfl, -⟩ | ⟨rfl | rfl, -⟩ <;> cases q1
        all_goals (cases q1)
theorem xm_ent_len (B : Nat) : ∀ as : List Value, (lg_sl (as.map (xm_r B))).length = (xm_ent as).length
  | [] => rfl
  | v :: t => by
    have ih := xm_ent_len B t
    unfold lg_sl at ih ⊢
    rw [List.map_cons, List.flatMap_cons, List.length_append, ih]
    cases v <;> simp [xm_ent, xm_r, Value.category] <;> omega
theorem xm_ent_at (B : Nat) : ∀ (as : List Value) (i0 i : Nat), (∀ x, xm_g (xm_ent as) i ≠ .float x) → (i0 + i, xm_r B (xm_g (xm_ent as) i)) ∈ lv_args i0 (as.map (xm_r B))
  | [], i0, i, h => absurd rfl (h 0)
  | v :: t, i0, i, h => by
    have ih := xm_ent_at B t
    have one : xm_ent (v :: t) = v :: xm_ent t → v.category = 1 → (i0 + i, xm_r B (xm_g (xm_ent (v :: t)) i)) ∈ lv_args i0 ((v :: t).map (xm_r B)) := by
      intro he hc
      rw [he] at h ⊢
      simp only [List.map_cons, lv_args, xm_r_cat, hc]
      cases i with
      | zero => exact List.mem_cons_self
      | succ i =>
        refine List.mem_cons_of_mem _ ?_
        have := ih (i0 + 1) i h
        rw [show i0 + 1 + i = i0 + (i + 1) by omega] at this
        exact this
    have two : xm_ent (v :: t) = v :: .float 0 :: xm_ent t → v.category = 2 → (i0 + i, xm_r B (xm_g (xm_ent (v :: t)) i)) ∈ lv_args i0 ((v :: t).map (xm_r B)) := by
      intro he hc
      rw [he] at h ⊢
      simp only [List.map_cons, lv_args, xm_r_cat, hc]
      match i, h with
      | 0, _ => exact List.mem_cons_self
      | 1, h => exact absurd rfl (h 0)
      | i + 2, h =>
        refine List.mem_cons_of_mem _ ?_
        have := ih (i0 + 2) i h
        rw [show i0 + 2 + i = i0 + (i + 2) by omega] at this
        exact this
    cases v
    case long x => exact two rfl rfl
    case double x => exact two rfl rfl
    all_goals (exact one rfl rfl)
theorem xm_pad_len : ∀ (n : Nat) (l : List Value), (xm_pad n l).length = n
  | 0, _ => rfl
  | n + 1, [] => by simp [xm_pad, xm_pad_len n]
  | n + 1, _ :: t => by simp [xm_pad, xm_pad_len n]
theorem xm_pad_at : ∀ (n : Nat) (l : List Value) (i : Nat), (∀ x, xm_g (xm_pad n l) i ≠ .float x) → xm_g (xm_pad n l) i = xm_g l i
  | 0, _, i, h => absurd rfl (h 0)
  | n + 1, [], 0, h => absurd rfl (h 0)
  | n + 1, [], i + 1, h => by
    have := xm_pad_at n [] i h
    exact this
  | n + 1, v :: t, 0, h => rfl
  | n + 1, v :: t, i + 1, h => xm_pad_at n t i h
/-- every abstract run is a contract -/
theorem xm_sound {pr : Nat → xm_M} (V : xm_valid pr) : ∀ d mi as h r h', xm_C pr d mi as h r h' → xm_Mt l pr B D T d mi as h r h'
  | 0, _, _, _, _, _, q => q.elim
  | d + 1, mi, as, h, r, h', ⟨hfit, n, q⟩ => by
    have hcall := xm_sound V d
    obtain ⟨hV1, hV2, hV3, hV4, hV5⟩ := V.1 mi
    refine Met.ofW (cc := (pr mi).2.1) (maxL := (pr mi).2.2.1) (ret := (pr mi).2.2.2.1) (ws' := xm_tb.filter goodWord) hV3 rfl ?_
    intro p e s m args below meth c s₁ Bd hml hv
    obtain ⟨rfl, hsz, hP, hK, hN⟩ := hv
    have hts0 := atoms_spec (ws := xm_ws (pr mi)) Bd.pre
    have hts : ∀ w ∈ xm_tb, w.before (as.map (xm_r B)).toArray s = true := fun w hw => by
      by_cases hg : goodWord w = true
      · exact hts0 w (List.mem_cons_of_mem _ (List.mem_filter.mpr ⟨hw, hg⟩))
      · have hg' : goodWord w = false := by simpa using hg
        exact xm_bad_vm (A := #[]) (xm_bad hw hg') rfl (hN w hw hg')
    have hown : s.vm.findClass (pr mi).1.cls = some m.cls := findClass_of_methodNamed Bd.named
    have X : xm_Cx p s m (as.map (xm_r B)).toArray c (pr mi).2.1 (pr mi).1.cls B D T h (pr mi).2.2.1 := ⟨Bd.exec, Bd.bytes, hml, hown, hts, hK, hsz⟩
    have hmn : meth.name = (pr mi).1.name := (name_of_methodNamed Bd.named Bd.method).1
    have hlen : (lg_sl (as.map (xm_r B))).length ≤ (pr mi).2.2.1 := by rw [xm_ent_len]; exact hfit
    have hl := lv_entry (as.map (xm_r B)) hlen
    rw [lg_entry_eq]
    generalize (lg_sl (as.map (xm_r B)) ++ List.replicate ((pr mi).2.2.1 - (lg_sl (as.map (xm_r B))).length) Slot.unset).toArray = ls at hl ⊢
    have hG := xm_body V hcall X hmn Bd.returns Bd.notSynchronized hN rfl (below := below) (e := e) n _ _ q (xm_gr.rf h) s.heap [] ls (xm_has_mono hl fun w hw => ?_) (xm_pad_len _ _) hsz hP va_S.rf
    · rw [Nat.sub_self, Nat.sub_self] at hG
      exact hG
    · obtain ⟨i, w⟩ := w
      obtain ⟨g1, g2, g3⟩ := xm_ps_mem.mp hw
      simp only at g1 g2 g3
      have g4 := xm_pad_at _ _ _ g2
      rw [g4] at g2 g3
      have := xm_ent_at B as 0 i g2
      rw [Nat.zero_add] at this
      rw [g3]
      exact this
end XM
