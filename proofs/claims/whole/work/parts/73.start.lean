/-! ===== the law: its loop, its beginning ===== -/
section XL
variable {p : Program} {l : Launch} {e : Env} {s : State} {m : MethodId} {below : List Frame} {meth : Method} {c : Code} {b L : Nat} {xs : Nat → Int32} {D : va_G} {T : xm_T} {Q : State → Prop}
theorem xl_sw {i : Nat} {x : Int32} {ls : Array Slot} {b' : Bool} {I : Nat → Nat → Int32} {L' : Nat → Nat → Int64} {H : Heap} {locs : List Loc} (X : xLC p s m c b L xs D T) (S : xLS s D T (xS b', I, L', xP b') H locs) (hE : xE b' I L') (hl : xLs s b ls i) (hi : i + 7 ≤ L) (kk : xKK p l e s m b below meth c Q D T ls) : xLW p l e s m b below meth c Q (xS b', I, L', xP b') H locs (F0 m 33 ls [.int x]) := by
  by_cases hx : x.toInt < 0 ∨ 29 < x.toInt
  · exact lv_tableOut (tgt := 1180) X.1 X.2.1 xd_33 hx (by decide) (kk _ _ _ _ _ hE S)
  · rcases (show x.toInt = 0 ∨ x.toInt = 1 ∨ x.toInt = 2 ∨ x.toInt = 3 ∨ x.toInt = 4 ∨ x.toInt = 5 ∨ x.toInt = 6 ∨ x.toInt = 7 ∨ x.toInt = 8 ∨ x.toInt = 9 ∨ x.toInt = 10 ∨ x.toInt = 11 ∨ x.toInt = 12 ∨ x.toInt = 13 ∨ x.toInt = 14 ∨ x.toInt = 15 ∨ x.toInt = 16 ∨ x.toInt = 17 ∨ x.toInt = 18 ∨ x.toInt = 19 ∨ x.toInt = 20 ∨ x.toInt = 21 ∨ x.toInt = 22 ∨ x.toInt = 23 ∨ x.toInt = 24 ∨ x.toInt = 25 ∨ x.toInt = 26 ∨ x.toInt = 27 ∨ x.toInt = 28 ∨ x.toInt = 29 by omega) with q | q | q | q | q | q | q | q | q | q | q | q | q | q | q | q | q | q | q | q | q | q | q | q | q | q | q | q | q | q
    · exact lv_tableIn (off := 135) (tgt := 168) X.1 X.2.1 xd_33 (by omega) (by omega) (by rw [q]; rfl) (by decide) (xW_lawn X S hE hl hi kk)
    · exact lv_tableIn (off := 168) (tgt := 201) X.1 X.2.1 xd_33 (by omega) (by omega) (by rw [q]; rfl) (by decide) (xW_soil X S hE hl hi kk)
    · exact lv_tableIn (off := 201) (tgt := 234) X.1 X.2.1 xd_33 (by omega) (by omega) (by rw [q]; rfl) (by decide) (xW_sprinkler X S hE hl hi kk)
    · exact lv_tableIn (off := 254) (tgt := 287) X.1 X.2.1 xd_33 (by omega) (by omega) (by rw [q]; rfl) (by decide) (xW_of X S hE hl hi kk)
    · exact lv_tableIn (off := 287) (tgt := 320) X.1 X.2.1 xd_33 (by omega) (by omega) (by rw [q]; rfl) (by decide) (xW_cell X S hE hl hi kk)
    · exact lv_tableIn (off := 320) (tgt := 353) X.1 X.2.1 xd_33 (by omega) (by omega) (by rw [q]; rfl) (by decide) (xW_turn X S hE hl hi kk)
    · exact lv_tableIn (off := 353) (tgt := 386) X.1 X.2.1 xd_33 (by omega) (by omega) (by rw [q]; rfl) (by decide) (xW_rule X S hE hl hi kk)
    · exact lv_tableIn (off := 386) (tgt := 419) X.1 X.2.1 xd_33 (by omega) (by omega) (by rw [q]; rfl) (by decide) (xW_type X S hE hl hi kk)
    · exact lv_tableIn (off := 409) (tgt := 442) X.1 X.2.1 xd_33 (by omega) (by omega) (by rw [q]; rfl) (by decide) (xW_garden X S hE hl hi kk)
    · exact lv_tableIn (off := 422) (tgt := 455) X.1 X.2.1 xd_33 (by omega) (by omega) (by rw [q]; rfl) (by decide) (xW_count X S hE hl hi kk)
    · exact lv_tableIn (off := 445) (tgt := 478) X.1 X.2.1 xd_33 (by omega) (by omega) (by rw [q]; rfl) (by decide) (xW_minutes X S hE hl hi kk)
    · exact lv_tableIn (off := 468) (tgt := 501) X.1 X.2.1 xd_33 (by omega) (by omega) (by rw [q]; rfl) (by decide) (xW_sun X S hE hl hi kk)
    · exact lv_tableIn (off := 491) (tgt := 524) X.1 X.2.1 xd_33 (by omega) (by omega) (by rw [q]; rfl) (by decide) (xW_move X S hE hl hi kk)
    · exact lv_tableIn (off := 524) (tgt := 557) X.1 X.2.1 xd_33 (by omega) (by omega) (by rw [q]; rfl) (by decide) (xW_drift X S hE hl hi kk)
    · exact lv_tableIn (off := 547) (tgt := 580) X.1 X.2.1 xd_33 (by omega) (by omega) (by rw [q]; rfl) (by decide) (xW_undo X S hE hl hi kk)
    · exact lv_tableIn (off := 560) (tgt := 593) X.1 X.2.1 xd_33 (by omega) (by omega) (by rw [q]; rfl) (by decide) (xW_seed X S hE hl hi kk)
    · exact lv_tableIn (off := 583) (tgt := 616) X.1 X.2.1 xd_33 (by omega) (by omega) (by rw [q]; rfl) (by decide) (xW_ahead X S hE hl hi kk)
    · exact lv_tableIn (off := 616) (tgt := 649) X.1 X.2.1 xd_33 (by omega) (by omega) (by rw [q]; rfl) (by decide) (xW_wrongs X S hE hl hi kk)
    · exact lv_tableIn (off := 649) (tgt := 682) X.1 X.2.1 xd_33 (by omega) (by omega) (by rw [q]; rfl) (by decide) (xW_enough X S hE hl hi kk)
    · exact lv_tableIn (off := 662) (tgt := 695) X.1 X.2.1 xd_33 (by omega) (by omega) (by rw [q]; rfl) (by decide) (xW_stand X S hE hl hi kk)
    · exact lv_tableIn (off := 705) (tgt := 738) X.1 X.2.1 xd_33 (by omega) (by omega) (by rw [q]; rfl) (by decide) (xW_set X S hE hl hi kk)
    · exact lv_tableIn (off := 738) (tgt := 771) X.1 X.2.1 xd_33 (by omega) (by omega) (by rw [q]; rfl) (by decide) (xW_turns X S hE hl hi kk)
    · exact lv_tableIn (off := 771) (tgt := 804) X.1 X.2.1 xd_33 (by omega) (by omega) (by rw [q]; rfl) (by decide) (xW_image X S hE hl hi kk)
    · exact lv_tableIn (off := 784) (tgt := 817) X.1 X.2.1 xd_33 (by omega) (by omega) (by rw [q]; rfl) (by decide) (xW_restore X S hE hl hi kk)
    · exact lv_tableIn (off := 797) (tgt := 830) X.1 X.2.1 xd_33 (by omega) (by omega) (by rw [q]; rfl) (by decide) (xW_tins X S hE hl hi kk)
    · exact lv_tableIn (off := 872) (tgt := 905) X.1 X.2.1 xd_33 (by omega) (by omega) (by rw [q]; rfl) (by decide) (xW_film X S hE hl hi kk)
    · exact lv_tableIn (off := 935) (tgt := 968) X.1 X.2.1 xd_33 (by omega) (by omega) (by rw [q]; rfl) (by decide) (xW_sheet X S hE hl hi kk)
    · exact lv_tableIn (off := 978) (tgt := 1011) X.1 X.2.1 xd_33 (by omega) (by omega) (by rw [q]; rfl) (by decide) (xW_drop X S hE hl hi kk)
    · exact lv_tableIn (off := 1001) (tgt := 1034) X.1 X.2.1 xd_33 (by omega) (by omega) (by rw [q]; rfl) (by decide) (xW_item X S hE hl hi kk)
    · exact lv_tableIn (off := 1084) (tgt := 1117) X.1 X.2.1 xd_33 (by omega) (by omega) (by rw [q]; rfl) (by decide) (xW_copy X S hE hl hi kk)
theorem xl_loop (X : xLC p s m c b L xs D T) (hr : meth.sig.returnType = ret) (hlocks : meth.locks = false) : ∀ n i, i ≤ L → L - i < n → ∀ b' I L' H locs ls, xE b' I L' → xLS s D T (xS b', I, L', xP b') H locs → lv_has ls 4 [(3, .int (nI i)), (2, .ref (s.heap.size + 60)), (1, .ref (s.heap.size + 0)), (0, .ref b)] → xLW p l e s m b below meth c (lw_Z below #[Value.ref b] s) (xS b', I, L', xP b') H locs (F0 m 18 ls [])
  | 0, _, _, h, _, _, _, _, _, _, _, _, _ => absurd h (Nat.not_lt_zero _)
  | n + 1, i, hiL, hn, b', I, L', H, locs, ls, hE, S, hl => by
    have hL := X.2.2.2.2.2.2.2.2
    have hbA := Nat.not_le.mpr X.2.2.2.2.2.2.2.1
    refine lv_iload_n X.1 X.2.1 xd_18 rfl (lv_at hl 0 rfl) ?_
    refine lv_aload_n X.1 X.2.1 xd_19 rfl (lv_at hl 3 rfl) ?_
    refine va_slen X.1 X.2.1 X.2.2.2.2.2.2.1 X.2.2.2.2.2.2.2.1 hbA S.2.2 xd_20 ?_
    refine lv_bipush (v := 7) X.1 X.2.1 xd_21 (by decide) ?_
    refine lv_isub X.1 X.2.1 xd_23 ?_
    refine lv_icmp_gt (tgt := 1186) X.1 X.2.1 xd_24 (by decide) (fun _ => ?_) (fun q => ?_)
    · refine lv_iconst (v := 1) X.1 X.2.1 xd_1186 (by decide) ?_
      refine va_forget S.2.2.2.2 ?_
      refine W.widen (k := 600000) (n := 7302250) (xl_bd b' I L' (xP b')).1 (xl_bd b' I L' (xP b')).2 ?_
      exact lw_ret X.1 X.2.1 hr hlocks xd_1187
    · have hi : i + 7 ≤ L := by
        have q2 : ¬ (nI L - 7 < nI i) := q
        rw [xt_lt, xl_7, xt_sub (by omega) (by omega), xt_n (by omega)] at q2
        omega
      refine lv_aload_n X.1 X.2.1 xd_27 rfl (lv_at hl 3 rfl) ?_
      refine lv_iload_n X.1 X.2.1 xd_28 rfl (lv_at hl 0 rfl) ?_
      refine va_sld X.1 X.2.1 X.2.2.2.2.2.2.1 X.2.2.2.2.2.2.2.1 hbA S.2.2 (vp_in_nI (show i < L by omega) (by omega)) xd_29 ?_
      refine lv_bipush (v := 31) X.1 X.2.1 xd_30 (by decide) ?_
      refine lv_iand X.1 X.2.1 xd_32 ?_
      refine xl_sw X S hE ⟨hl.1, lv_at hl 3 rfl, lv_at hl 2 rfl, lv_at hl 1 rfl, lv_at hl 0 rfl⟩ hi (fun b2 I2 L2 H2 locs2 hE2 S2 => ?_)
      refine lv_iinc (v := nI (i + 7)) (lv' := [(3, .int (nI (i + 7))), (2, .ref (s.heap.size + 60)), (1, .ref (s.heap.size + 0)), (0, .ref b)]) X.1 X.2.1 xd_1180 hl (k := 0) rfl (by rw [show Int32.ofInt 7 = nI 7 by decide, nI_add]) (by decide) rfl (fun ls hl => ?_)
      refine lv_goto (tgt := 18) X.1 X.2.1 xd_1183 (by decide) ?_
      exact xl_loop X hr hlocks n (i + 7) hi (by omega) _ _ _ _ _ _ hE2 S2 hl
end XL
theorem xo_c7 : Cond.classLink R_law 7 (xm_RX 7) ∈ xm_tb := xm_mem_of (ws := [Cond.classLink R_law 7 (xm_RX 7)]) [55] (by decide +kernel) (by decide +kernel) _ List.mem_cons_self
theorem xo_c10 : Cond.classLink R_law 10 (xm_RX 8) ∈ xm_tb := xm_mem_of (ws := [Cond.classLink R_law 10 (xm_RX 8)]) [774] (by decide +kernel) (by decide +kernel) _ List.mem_cons_self
theorem xl_K {s : State} {b : Nat} (hts : ∀ w ∈ xm_tb, w.before #[Value.ref b] s = true) : ∃ D T, va_K D xm_cl (xm_tys T) s := by
  have h9 : ∀ ci, ci < 9 → ∃ (cC : ClassId) (iS : Nat → Nat), u_Kn s (xm_RX ci) (xm_TX ci) (xm_N ci) cC iS := fun ci h => by
    have hm : ci ∈ xl_IB := by
      have : ∀ k, k < 9 → k ∈ xl_IB := by decide
      exact this ci h
    exact u_known (ws := xm_tb) hts (xm_in h) (hts _ (xm_mem_map xo_IB hm))
  have h8 : ∀ ci, ∃ y : ClassId × (Nat → Nat), ci < 9 → u_Kn s (xm_RX ci) (xm_TX ci) (xm_N ci) y.1 y.2 := fun ci => by
    by_cases h : ci < 9
    · obtain ⟨cC, iS, k⟩ := h9 ci h
      exact ⟨(cC, iS), fun _ => k⟩
    · obtain ⟨cC, iS, k⟩ := h9 0 (by decide)
      exact ⟨(cC, iS), fun q => absurd q h⟩
  obtain ⟨f, hf⟩ : ∃ f : Nat → ClassId × (Nat → Nat), ∀ ci, ci < 9 → u_Kn s (xm_RX ci) (xm_TX ci) (xm_N ci) (f ci).1 (f ci).2 := ⟨fun ci => Classical.choose (h8 ci), fun ci => Classical.choose_spec (h8 ci)⟩
  obtain ⟨cI, kI, pI, i1, i2, i3⟩ := Cond.arrayClass_spec (hts _ (xo_one (.arrayClass .int) (by decide +kernel)))
  obtain ⟨cJ, kJ, pJ, j1, j2, j3⟩ := Cond.arrayClass_spec (hts _ (xo_one (.arrayClass .long) (by decide +kernel)))
  obtain ⟨p6, c6, k6, a1, a2, a3, a4, a5⟩ := Cond.arrayOver_spec (hts _ (xo_one (.arrayOver (.object RX6)) (by decide +kernel)))
  obtain ⟨p5, c5, k5, b1, b2, b3, b4, b5⟩ := Cond.arrayOver_spec (hts _ (xo_one (.arrayOver (.object RX5)) (by decide +kernel)))
  obtain ⟨pA, cA, kA, d1, d2, d3, d4⟩ := Cond.arrayOver_specA (hts _ (xo_one (.arrayOver (.array .int)) (by decide +kernel)))
  refine ⟨(fun k => (f k).1, fun k => (f k).2), (cI, cJ, c6, c5, cA), fun k q hq => ?_, fun k q hq => ?_⟩
  · have hk : k < 9 := (List.getElem?_eq_some_iff.mp hq).1
    rw [xm_cl_at hk] at hq
    cases hq
    exact hf k hk
  · match k, hq with
    | 0, hq =>
      cases hq
      exact ⟨fun n z => ⟨fun k h => (by cases h), kI, i2, pI, i3⟩, i1⟩
    | 1, hq =>
      cases hq
      exact ⟨fun n z => ⟨fun k h => (by cases h), kJ, j2, pJ, j3⟩, j1⟩
    | 2, hq =>
      cases hq
      exact ⟨fun n z => ⟨fun k h => (by cases h), k6, a3, p6, a4⟩, k6, p6, a3, a4, a1, a5⟩
    | 3, hq =>
      cases hq
      exact ⟨fun n z => ⟨fun k h => (by cases h), k5, b3, p5, b4⟩, k5, p5, b3, b4, b1, b5⟩
    | 4, hq =>
      cases hq
      exact ⟨fun n z => ⟨fun k h => (by cases h), kA, d2, pA, d3⟩, d4⟩
    | k + 5, hq => simp at hq
theorem xl_b60 (I : Nat → Nat → Int32) (L : Nat → Nat → Int64) (P : Nat → Nat → Option Nat) : ((xS0.take 60, I, L, P) : xm_H).1.length ≤ 600000 ∧ xm_sl (xS0.take 60, I, L, P) ≤ 7302250 := ⟨show (xS0.take 60).length ≤ 600000 by decide, show ((xS0.take 60).map (fun q => q.2)).sum ≤ 7302250 by decide⟩
/-- THE LAW, from its entry -/
theorem whole_start {p : Program} {e : Env} {s : State} {m : MethodId} {below : List Frame} {meth : Method} {c : Code} (l : Launch) {b L : Nat} {xs : Nat → Int32} (hL : L ≤ 3584) (C0 : lw_At p s m meth c b L xs) : W p l e room_1 s m #[Value.ref b] below meth c s.heap [] 0 0 (lw_Z below #[Value.ref b] s) (entryFrame m ([Value.ref b] : List Value).toArray 4) := by
  obtain ⟨hx, hb, hr, hml, hown, hts0, hX, hbl, hlocks, hgv⟩ := C0
  have hts : ∀ w ∈ xm_tb, w.before #[Value.ref b] s = true := fun w hw => hts0 w (xm_tb_lw w hw)
  obtain ⟨D, T, hK⟩ := xl_K hts
  have X : xLC p s m c b L xs D T := ⟨hx, hb, hml, hown, hts, hK, hX, hbl, hL⟩
  have S0 : xLS s D T xH0 s.heap [] := ⟨rfl, fun k q h => absurd (xm_w_inv h).1 (Nat.not_lt_zero k), va_S.rf⟩
  have hl := lv_entry ([.ref b]) (n := 4) (Nat.le_of_ble_eq_true rfl)
  rw [lg_entry_eq]
  generalize (lg_sl ([.ref b]) ++ List.replicate (4 - (lg_sl ([.ref b])).length) Slot.unset).toArray = ls at hl ⊢
  have hl : lv_has ls 4 [(0, .ref b)] := hl
  obtain ⟨I, L', P, cA, cB⟩ := xH_LR
  show xLW p l e s m b below meth c (lw_Z below #[Value.ref b] s) xH0 s.heap [] (F0 m 0 ls [])
  refine xl_new (ci := 7) X (by decide) xo_c7 (xm_mem_map xo_IB (a := 7) (by decide)) (xm_mem_map xo_IZ (a := 7) (by decide)) (Nat.le_of_ble_eq_true rfl) (Nat.le_of_ble_eq_true rfl) xd_0 S0 (fun H1 S1 => ?_)
  refine lv_dup X.1 X.2.1 xd_3 rfl ?_
  refine xl_init (mi := 0) (a0 := 0) (rest := [.ref 0]) X xd_4 (xm_mem_map xo_LL (a := (9, 0)) (by decide)) (by decide) (xo_IN 0 (by decide)).1 (xo_IN 0 (by decide)).2 (xo_LP (0, 0) (by decide)) cA (Nat.le_of_ble_eq_true rfl) (xl_b60 I L' P) S1 hl.1 (fun H2 locs2 S2 => ?_)
  refine lv_astore_n (x := s.heap.size + 0) (lv' := [(1, .ref (s.heap.size + 0)), (0, .ref b)]) X.1 X.2.1 xd_7 rfl hl (by decide) rfl (fun ls hl => ?_)
  refine xl_new (ci := 8) X (by decide) xo_c10 (xm_mem_map xo_IB (a := 8) (by decide)) (xm_mem_map xo_IZ (a := 8) (by decide)) (Nat.le_of_ble_eq_true rfl) (Nat.le_of_ble_eq_true rfl) xd_8 S2 (fun H3 S3 => ?_)
  refine lv_dup X.1 X.2.1 xd_11 rfl ?_
  refine xl_init (mi := 106) (a0 := 60) (rest := [.ref 60]) X xd_12 (xm_mem_map xo_LL (a := (12, 106)) (by decide)) (by decide) (xo_IN 106 (by decide)).1 (xo_IN 106 (by decide)).2 (xo_LP (106, 0) (by decide)) cB (Nat.le_of_ble_eq_true rfl) (xl_bd false xI0 xL0 (xP false)) S3 hl.1 (fun H4 locs4 S4 => ?_)
  refine lv_astore_n (x := s.heap.size + 60) (lv' := [(2, .ref (s.heap.size + 60)), (1, .ref (s.heap.size + 0)), (0, .ref b)]) X.1 X.2.1 xd_15 rfl hl (by decide) rfl (fun ls hl => ?_)
  refine lv_iconst (v := nI 0) X.1 X.2.1 xd_16 (by decide) ?_
  refine lv_istore_n (lv' := [(3, .int (nI 0)), (2, .ref (s.heap.size + 60)), (1, .ref (s.heap.size + 0)), (0, .ref b)]) X.1 X.2.1 xd_17 rfl hl (by decide) rfl (fun ls hl => ?_)
  exact xl_loop X hr hlocks (L + 1) 0 (Nat.zero_le L) (by omega) _ _ _ _ _ _ xE_new S4 hl
