/-! ===== every step ===== -/
theorem xm_all1 {p : Prop} (h : xm_all [p]) : p := h.1
section XS
variable {p : Program} {l : Launch} {e : Env} {R : Room} {s : State} {m : MethodId} {args : Array Value} {below : List Frame} {meth : Method} {c : Code} {B : Nat} {D : va_G} {T : xm_T} {h0 : xm_H} {nL : Nat} {Q : State → Prop} {cc : ByteArray} {own nm : String}
set_option maxHeartbeats 4000000 in
theorem xm_step {pr : Nat → xm_M} {en : xm_E} {f f1 : xm_F} {h h1 : xm_H} {ps : List Prop} (X : xm_Cx p s m args c cc own B D T h0 nL) (hmn : meth.name = nm) (hlk : xm_lk pr own nm cc f.1 en) (hr0 : h0.1.length ≤ h.1.length) (hr1 : xm_sl h0 ≤ xm_sl h) (hc : h1.1.length - h0.1.length ≤ R.cells) (hsl : xm_sl h1 - xm_sl h0 ≤ R.slots) (hfr : 1 ≤ R.frames) (hlc : 100 ≤ R.locals)
    (hst : xm_st en f h = some (ps, f1, h1)) (hps : xm_all ps) (k : xm_G p l e R s m args below meth c B D T h0 nL Q f1 h1) : xm_G p l e R s m args below meth c B D T h0 nL Q f h := by
  obtain ⟨ins, len, ⟨a, b, cN⟩, kc, jc, sw⟩ := en
  obtain ⟨pc, lo, st⟩ := f
  obtain ⟨hd, hlk⟩ := hlk
  cases ins
  case iconst n =>
    obtain ⟨rfl, hv⟩ := hlk
    cases hst
    exact xs_iconst hd hv X k
  case bipush n =>
    obtain ⟨rfl, hv⟩ := hlk
    cases hst
    exact xs_bipush hd hv X k
  case sipush n =>
    obtain ⟨rfl, hv⟩ := hlk
    cases hst
    exact xs_sipush hd hv X k
  case ldc i =>
    obtain ⟨rfl, hv⟩ := hlk
    cases hst
    exact xs_ldc hd hv X k
  case ldc_w i =>
    obtain ⟨rfl, hv⟩ := hlk
    cases hst
    exact xs_ldcw hd hv X k
  case lconst n =>
    obtain ⟨rfl, hv⟩ := hlk
    cases hst
    exact xs_lconst hd hv X k
  case ldc2_w i =>
    obtain ⟨rfl, hv⟩ := hlk
    cases hst
    exact xs_ldc2 hd hv X k
  case iload i =>
    have hlen := hlk
    simp only at hlen
    subst hlen
    obtain ⟨q1, rfl, rfl⟩ := xi_lo hst
    obtain ⟨x, hx⟩ := xm_isI_of q1
    simp only [hx] at k
    exact xs_iload hx hd X k
  case iload_n i =>
    have hlen := hlk
    simp only at hlen
    subst hlen
    obtain ⟨q1, rfl, rfl⟩ := xi_lo hst
    obtain ⟨x, hx⟩ := xm_isI_of q1
    simp only [hx] at k
    exact xs_iload_n hx hd X k
  case lload i =>
    have hlen := hlk
    simp only at hlen
    subst hlen
    obtain ⟨q1, rfl, rfl⟩ := xi_lo hst
    obtain ⟨x, hx⟩ := xm_isL_of q1
    simp only [hx] at k
    exact xs_lload hx hd X k
  case lload_n i =>
    have hlen := hlk
    simp only at hlen
    subst hlen
    obtain ⟨q1, rfl, rfl⟩ := xi_lo hst
    obtain ⟨x, hx⟩ := xm_isL_of q1
    simp only [hx] at k
    exact xs_lload_n hx hd X k
  case aload i =>
    have hlen := hlk
    simp only at hlen
    subst hlen
    obtain ⟨q1, rfl, rfl⟩ := xi_lo hst
    obtain ⟨x, hx⟩ := xm_isR_of q1
    simp only [hx] at k
    exact xs_aload hx hd X k
  case aload_n i =>
    have hlen := hlk
    simp only at hlen
    subst hlen
    obtain ⟨q1, rfl, rfl⟩ := xi_lo hst
    obtain ⟨x, hx⟩ := xm_isR_of q1
    simp only [hx] at k
    exact xs_aload_n hx hd X k
  case istore i =>
    have hlen := hlk
    simp only at hlen
    subst hlen
    obtain ⟨v, r, e1, q1, q2, q3, rfl, rfl⟩ := xi_so hst
    obtain ⟨x, rfl⟩ := xm_isI_of q1
    simp only at e1
    subst e1
    exact xs_istore q2 q3 hd X k
  case istore_n i =>
    have hlen := hlk
    simp only at hlen
    subst hlen
    obtain ⟨v, r, e1, q1, q2, q3, rfl, rfl⟩ := xi_so hst
    obtain ⟨x, rfl⟩ := xm_isI_of q1
    simp only at e1
    subst e1
    exact xs_istore_n q2 q3 hd X k
  case astore i =>
    have hlen := hlk
    simp only at hlen
    subst hlen
    obtain ⟨v, r, e1, q1, q2, q3, rfl, rfl⟩ := xi_so hst
    obtain ⟨x, rfl⟩ := xm_isR_of q1
    simp only at e1
    subst e1
    exact xs_astore q2 q3 hd X k
  case astore_n i =>
    have hlen := hlk
    simp only at hlen
    subst hlen
    obtain ⟨v, r, e1, q1, q2, q3, rfl, rfl⟩ := xi_so hst
    obtain ⟨x, rfl⟩ := xm_isR_of q1
    simp only at e1
    subst e1
    exact xs_astore_n q2 q3 hd X k
  case lstore i =>
    have hlen := hlk
    simp only at hlen
    subst hlen
    obtain ⟨x, r, e1, q2, q3, rfl, rfl⟩ := xi_so2 hst
    simp only at e1
    subst e1
    exact xs_lstore q2 q3 hd X k
  case lstore_n i =>
    have hlen := hlk
    simp only at hlen
    subst hlen
    obtain ⟨x, r, e1, q2, q3, rfl, rfl⟩ := xi_so2 hst
    simp only at e1
    subst e1
    exact xs_lstore_n q2 q3 hd X k
  case iinc i n =>
    obtain ⟨rfl, hv⟩ := hlk
    simp only [xm_st] at hst
    split at hst
    · rename_i x hx
      split at hst
      · rename_i q
        cases hst
        simp only [Bool.and_eq_true, Bool.not_eq_true'] at q
        exact xs_iinc hx q.1 (by have := q.2; simp [Nat.blt] at this; omega) hv hd X k
      · cases hst
    · cases hst
  case iadd =>
    have hlen := hlk
    simp only at hlen
    subst hlen
    obtain ⟨x, y, r, e1, rfl, rfl⟩ := xi_ii hst
    simp only at e1
    subst e1
    exact xs_iadd hd X k
  case isub =>
    have hlen := hlk
    simp only at hlen
    subst hlen
    obtain ⟨x, y, r, e1, rfl, rfl⟩ := xi_ii hst
    simp only at e1
    subst e1
    exact xs_isub hd X k
  case imul =>
    have hlen := hlk
    simp only at hlen
    subst hlen
    obtain ⟨x, y, r, e1, rfl, rfl⟩ := xi_ii hst
    simp only at e1
    subst e1
    exact xs_imul hd X k
  case iand =>
    have hlen := hlk
    simp only at hlen
    subst hlen
    obtain ⟨x, y, r, e1, rfl, rfl⟩ := xi_ii hst
    simp only at e1
    subst e1
    exact xs_iand hd X k
  case ior =>
    have hlen := hlk
    simp only at hlen
    subst hlen
    obtain ⟨x, y, r, e1, rfl, rfl⟩ := xi_ii hst
    simp only at e1
    subst e1
    exact xs_ior hd X k
  case ixor =>
    have hlen := hlk
    simp only at hlen
    subst hlen
    obtain ⟨x, y, r, e1, rfl, rfl⟩ := xi_ii hst
    simp only at e1
    subst e1
    exact xs_ixor hd X k
  case ishl =>
    have hlen := hlk
    simp only at hlen
    subst hlen
    obtain ⟨x, y, r, e1, rfl, rfl⟩ := xi_ii hst
    simp only at e1
    subst e1
    exact xs_ishl hd X k
  case ishr =>
    have hlen := hlk
    simp only at hlen
    subst hlen
    obtain ⟨x, y, r, e1, rfl, rfl⟩ := xi_ii hst
    simp only at e1
    subst e1
    exact xs_ishr hd X k
  case iushr =>
    have hlen := hlk
    simp only at hlen
    subst hlen
    obtain ⟨x, y, r, e1, rfl, rfl⟩ := xi_ii hst
    simp only at e1
    subst e1
    exact xs_iushr hd X k
  case idiv =>
    have hlen := hlk
    simp only at hlen
    subst hlen
    simp only [xm_st] at hst
    split at hst
    · rename_i y x r
      cases hst
      exact xs_idiv (xm_all1 hps) hd X k
    · cases hst
  case irem =>
    have hlen := hlk
    simp only at hlen
    subst hlen
    simp only [xm_st] at hst
    split at hst
    · rename_i y x r
      cases hst
      exact xs_irem (xm_all1 hps) hd X k
    · cases hst
  case ineg =>
    have hlen := hlk
    simp only at hlen
    subst hlen
    obtain ⟨x, r, e1, rfl, rfl⟩ := xi_i1 hst
    simp only at e1
    subst e1
    exact xs_ineg hd X k
  case i2l =>
    have hlen := hlk
    simp only at hlen
    subst hlen
    obtain ⟨x, r, e1, rfl, rfl⟩ := xi_i1 hst
    simp only at e1
    subst e1
    exact xs_i2l hd X k
  case i2b =>
    have hlen := hlk
    simp only at hlen
    subst hlen
    obtain ⟨x, r, e1, rfl, rfl⟩ := xi_i1 hst
    simp only at e1
    subst e1
    exact xs_i2b hd X k
  case i2s =>
    have hlen := hlk
    simp only at hlen
    subst hlen
    obtain ⟨x, r, e1, rfl, rfl⟩ := xi_i1 hst
    simp only at e1
    subst e1
    exact xs_i2s hd X k
  case l2i =>
    have hlen := hlk
    simp only at hlen
    subst hlen
    obtain ⟨x, r, e1, rfl, rfl⟩ := xi_l1 hst
    simp only at e1
    subst e1
    exact xs_l2i hd X k
  case ladd =>
    have hlen := hlk
    simp only at hlen
    subst hlen
    obtain ⟨x, y, r, e1, rfl, rfl⟩ := xi_ll hst
    simp only at e1
    subst e1
    exact xs_ladd hd X k
  case lmul =>
    have hlen := hlk
    simp only at hlen
    subst hlen
    obtain ⟨x, y, r, e1, rfl, rfl⟩ := xi_ll hst
    simp only at e1
    subst e1
    exact xs_lmul hd X k
  case land =>
    have hlen := hlk
    simp only at hlen
    subst hlen
    obtain ⟨x, y, r, e1, rfl, rfl⟩ := xi_ll hst
    simp only at e1
    subst e1
    exact xs_land hd X k
  case lcmp =>
    have hlen := hlk
    simp only at hlen
    subst hlen
    simp only [xm_st] at hst
    split at hst
    · cases hst
      exact xs_lcmp hd X k
    · cases hst
  case dup =>
    have hlen := hlk
    simp only at hlen
    subst hlen
    simp only [xm_st] at hst
    split at hst
    · split at hst
      · rename_i q
        cases hst
        exact xs_dup (by simpa using q) hd X k
      · cases hst
    · cases hst
  case dup2 =>
    have hlen := hlk
    simp only at hlen
    subst hlen
    simp only [xm_st] at hst
    split at hst
    · split at hst
      · rename_i q
        cases hst
        simp only [Bool.and_eq_true, beq_iff_eq] at q
        exact xs_dup2 q.1 q.2 hd X k
      · cases hst
    · cases hst
  case pop =>
    have hlen := hlk
    simp only at hlen
    subst hlen
    simp only [xm_st] at hst
    split at hst
    · split at hst
      · rename_i q
        cases hst
        exact xs_pop (by simpa using q) hd X k
      · cases hst
    · cases hst
  case goto off =>
    obtain ⟨rfl, ht⟩ := hlk
    cases hst
    exact xs_goto ht hd X k
  case if_icmp cd off =>
    obtain ⟨rfl, ht⟩ := hlk
    cases cd
    case eq =>
      obtain ⟨x, y, r, e1, rfl, rfl⟩ := xi_bi hst
      simp only at e1
      subst e1
      exact xs_icmp_eq ht hd X k
    case ne =>
      obtain ⟨x, y, r, e1, rfl, rfl⟩ := xi_bi hst
      simp only at e1
      subst e1
      exact xs_icmp_ne ht hd X k
    case lt =>
      obtain ⟨x, y, r, e1, rfl, rfl⟩ := xi_bi hst
      simp only at e1
      subst e1
      exact xs_icmp_lt ht hd X k
    case ge =>
      obtain ⟨x, y, r, e1, rfl, rfl⟩ := xi_bi hst
      simp only at e1
      subst e1
      exact xs_icmp_ge ht hd X k
    case gt =>
      obtain ⟨x, y, r, e1, rfl, rfl⟩ := xi_bi hst
      simp only at e1
      subst e1
      exact xs_icmp_gt ht hd X k
    case le =>
      obtain ⟨x, y, r, e1, rfl, rfl⟩ := xi_bi hst
      simp only at e1
      subst e1
      exact xs_icmp_le ht hd X k
  case ifCond cd off =>
    obtain ⟨rfl, ht⟩ := hlk
    cases cd
    case eq =>
      obtain ⟨x, r, e1, rfl, rfl⟩ := xi_bz hst
      simp only at e1
      subst e1
      exact xs_if_eq ht hd X k
    case ne =>
      obtain ⟨x, r, e1, rfl, rfl⟩ := xi_bz hst
      simp only at e1
      subst e1
      exact xs_if_ne ht hd X k
    case lt =>
      obtain ⟨x, r, e1, rfl, rfl⟩ := xi_bz hst
      simp only at e1
      subst e1
      exact xs_if_lt ht hd X k
    case ge =>
      obtain ⟨x, r, e1, rfl, rfl⟩ := xi_bz hst
      simp only at e1
      subst e1
      exact xs_if_ge ht hd X k
    case gt =>
      obtain ⟨x, r, e1, rfl, rfl⟩ := xi_bz hst
      simp only at e1
      subst e1
      exact xs_if_gt ht hd X k
    case le =>
      obtain ⟨x, r, e1, rfl, rfl⟩ := xi_bz hst
      simp only at e1
      subst e1
      exact xs_if_le ht hd X k
  case ifnonnull off =>
    obtain ⟨rfl, ht⟩ := hlk
    simp only [xm_st] at hst
    split at hst
    · cases hst
      exact xs_ifnnN hd X k
    · cases hst
      exact xs_ifnn ht hd X k
    · cases hst
  case tableswitch d lo2 hi offs =>
    simp only [xm_st] at hst
    split at hst
    · cases hst
      exact xs_tsw hlk hd X k
    · cases hst
  case lookupswitch d prs =>
    simp only [xm_st] at hst
    split at hst
    · cases hst
      exact xs_lsw hlk hd X k
    · cases hst
  case getfield i =>
    obtain ⟨rfl, q1, q2, q3, q4⟩ := hlk
    simp only [xm_st] at hst
    split at hst
    · split at hst
      · cases hst
        exact xs_getI q1 q2 q3 (by rcases q4 with q | q; exact q.2; exact absurd rfl q.1) (xm_all1 hps) hd X k
      · rename_i hne
        cases hst
        exact xs_getR q1 q2 q3 (by rcases q4 with q | q; exact absurd q.1 hne; exact q.2) (xm_all1 hps) hd X k
    · cases hst
  case putfield i =>
    obtain ⟨rfl, q1, q2, q3, q4, q5, q6⟩ := hlk
    have q6b : (xm_TX b a).2.2.2 = false ∨ (xm_TX b a).2.2.2 = true ∧ meth.name = "<init>" ∧ (xm_TX b a).1 = own := by
      rcases q6 with q | ⟨q, z, y⟩
      · exact Or.inl q
      · exact Or.inr ⟨q, hmn.trans z, y⟩
    simp only [xm_st] at hst
    split at hst
    · cases hst
      exact xs_putI q1 q2 q3 q6b (Or.inl q4) (xm_all1 hps) hd X k
    · cases hst
      exact xs_putI q1 q2 q3 q6b (Or.inr ⟨q4, hps.2.1⟩) hps.1 hd X k
    · cases hst
      have h2 := hps.2.1
      exact xs_putR q1 q2 q3 q6b (q4.trans h2) (q5 h2) hps.1 hd X k
    · cases hst
  case iaload =>
    have hlen := hlk
    simp only at hlen
    subst hlen
    simp only [xm_st] at hst
    split at hst
    · cases hst
      exact xs_iald (xm_all1 hps) hd X k
    · cases hst
  case laload =>
    have hlen := hlk
    simp only at hlen
    subst hlen
    simp only [xm_st] at hst
    split at hst
    · cases hst
      exact xs_lald (xm_all1 hps) hd X k
    · cases hst
  case aaload =>
    have hlen := hlk
    simp only at hlen
    subst hlen
    simp only [xm_st] at hst
    split at hst
    · cases hst
      exact xs_aald hps.1 hps.2.1 hd X k
    · cases hst
  case iastore =>
    have hlen := hlk
    simp only at hlen
    subst hlen
    simp only [xm_st] at hst
    split at hst
    · cases hst
      exact xs_iast (xm_all1 hps) hd X k
    · cases hst
  case lastore =>
    have hlen := hlk
    simp only at hlen
    subst hlen
    simp only [xm_st] at hst
    split at hst
    · cases hst
      exact xs_last (xm_all1 hps) hd X k
    · cases hst
  case aastore =>
    have hlen := hlk
    simp only at hlen
    subst hlen
    simp only [xm_st] at hst
    split at hst
    · cases hst
      exact xs_aast hps.1 hps.2.1 hd X k
    · cases hst
  case arraylength =>
    have hlen := hlk
    simp only at hlen
    subst hlen
    simp only [xm_st] at hst
    split at hst
    · cases hst
      exact xs_alen (xm_all1 hps) hd X k
    · cases hst
  case new i =>
    obtain ⟨rfl, q1, q2, q3, q4⟩ := hlk
    cases hst
    simp only [xm_ln_mk, xm_sl_mk] at hc hsl
    exact xs_new q1 q2 q3 q4 hr0 hr1 hc hsl hd X k
  case newarray t =>
    obtain ⟨rfl, q1, q2⟩ := hlk
    simp only [xm_st] at hst
    split at hst
    · cases hst
      simp only [xm_ln_mk, xm_sl_mk] at hc hsl
      exact xs_newa q1 q2 hps.1 hps.2.1 hr0 hr1 hc hsl hd X k
    · cases hst
  case anewarray i =>
    obtain ⟨rfl, q1⟩ := hlk
    simp only [xm_st] at hst
    split at hst
    · cases hst
      simp only [xm_ln_mk, xm_sl_mk] at hc hsl
      exact xs_anew q1 hps.1 hps.2.1 hr0 hr1 hc hsl hd X k
    · cases hst
  case multianewarray i dm =>
    obtain ⟨rfl, rfl, q1, q2, q3⟩ := hlk
    simp only [xm_st] at hst
    split at hst
    · rename_i k9 n9 r9
      cases hst
      have e2 : xm_sl (xm_mkN (xm_mk h 4 n9.toNatClampNeg) 0 k9.toNatClampNeg n9.toNatClampNeg) = xm_sl h + n9.toNatClampNeg + n9.toNatClampNeg * k9.toNatClampNeg := by rw [xm_mkN_sl, xm_sl_mk]
      have e3 : ∀ a b c, xm_sl ((xm_mkN (xm_mk h 4 n9.toNatClampNeg) 0 k9.toNatClampNeg n9.toNatClampNeg).1, a, b, c) = xm_sl h + n9.toNatClampNeg + n9.toNatClampNeg * k9.toNatClampNeg := fun _ _ _ => e2
      have e1 : (xm_mkN (xm_mk h 4 n9.toNatClampNeg) 0 k9.toNatClampNeg n9.toNatClampNeg).1.length = h.1.length + 1 + n9.toNatClampNeg := by rw [xm_mkN_1]; simp [xm_mk]; omega
      rw [e3] at hsl
      simp only [e1] at hc
      exact xs_multi q1 q2 q3 hps.1 hps.2.1 hps.2.2.1 hps.2.2.2.1 hr0 hr1 hc hsl hd X k
    · cases hst
  case invokestatic i =>
    obtain ⟨rfl, hz⟩ := hlk
    rcases hz with ⟨rfl, z1, z2, z3, z4⟩ | ⟨rfl, z1, z2, z3, z4⟩ | ⟨rfl, z1, z2, z3, z4⟩ | ⟨hb, -⟩ | ⟨hb, -⟩
    · simp only [xm_st] at hst
      split at hst
      · rename_i q
        cases hst
        refine fun H locs ls a1 a2 a3 a4 a5 => va_mmax X.1 X.2.1 (X.2.2.1.trans a1.1.symm) X.2.2.2.1 (X.2.2.2.2.1 _ z1) (X.2.2.2.2.1 _ z2) (X.2.2.2.2.1 _ z3) (X.2.2.2.2.1 _ z4) hfr ?_ hc hsl hd (k H locs ls a1 a2 a3 a4 a5)
        have q8 := xm_all1 hps
        rw [xm_csr]
        omega
      · exfalso; omega
      · exfalso; omega
      · cases hst
    · simp only [xm_st] at hst
      split at hst
      · exfalso; omega
      · rename_i q
        cases hst
        refine fun H locs ls a1 a2 a3 a4 a5 => va_mmin X.1 X.2.1 (X.2.2.1.trans a1.1.symm) X.2.2.2.1 (X.2.2.2.2.1 _ z1) (X.2.2.2.2.1 _ z2) (X.2.2.2.2.1 _ z3) (X.2.2.2.2.1 _ z4) hfr ?_ hc hsl hd (k H locs ls a1 a2 a3 a4 a5)
        have q8 := xm_all1 hps
        rw [xm_csr]
        omega
      · exfalso; omega
      · cases hst
    · simp only [xm_st] at hst
      split at hst
      · exfalso; omega
      · exfalso; omega
      · rename_i q
        cases hst
        refine fun H locs ls a1 a2 a3 a4 a5 => va_mabs X.1 X.2.1 (X.2.2.1.trans a1.1.symm) X.2.2.2.1 (X.2.2.2.2.1 _ z1) (X.2.2.2.2.1 _ z2) (X.2.2.2.2.1 _ z3) (X.2.2.2.2.1 _ z4) hfr ?_ hc hsl hd (k H locs ls a1 a2 a3 a4 a5)
        have q8 := xm_all1 hps
        rw [xm_csr]
        omega
      · cases hst
    · exfalso
      rcases hb with rfl | rfl <;> simp [xm_st] at hst
    · exfalso
      rcases hb with rfl | rfl <;> simp [xm_st] at hst
  all_goals (exact absurd hst (by simp [xm_st]))
end XS
