/-! ===== calls: of, cell, turn ===== -/
theorem c_bitCount {d : Nat} {S : List (Nat × Nat)} {I : Nat → Nat → Int32} {L : Nat → Nat → Int64} {P : Nat → Nat → Option Nat} {v : Nat} (bv : v < 32) {x1 : Int32} (e_x1 : x1 = nI v) : xm_Z (d + 1) 37 [.int x1] (S, I, L, P) (fun rz hz => rz = some (.int (nI (xpc v))) ∧ hz = (S, I, L, P)) := by
  subst e_x1
  refine xw_S xb_37 (l := [.int (nI v)]) (Nat.le_of_ble_eq_true rfl) rfl ?_
  refine xw_go xb_37 41 (f1 := (52, [.int ((((((((nI v) - ((((nI v).toUInt32 >>> ((1 : Int32).toUInt32 &&& Int32.toUInt32 31)).toInt32) &&& 1431655765)) &&& 858993459) + (((((nI v) - ((((nI v).toUInt32 >>> ((1 : Int32).toUInt32 &&& Int32.toUInt32 31)).toInt32) &&& 1431655765)).toUInt32 >>> ((2 : Int32).toUInt32 &&& Int32.toUInt32 31)).toInt32) &&& 858993459)) + ((((((nI v) - ((((nI v).toUInt32 >>> ((1 : Int32).toUInt32 &&& Int32.toUInt32 31)).toInt32) &&& 1431655765)) &&& 858993459) + (((((nI v) - ((((nI v).toUInt32 >>> ((1 : Int32).toUInt32 &&& Int32.toUInt32 31)).toInt32) &&& 1431655765)).toUInt32 >>> ((2 : Int32).toUInt32 &&& Int32.toUInt32 31)).toInt32) &&& 858993459)).toUInt32 >>> ((4 : Int32).toUInt32 &&& Int32.toUInt32 31)).toInt32)) &&& 252645135) + ((((((((nI v) - ((((nI v).toUInt32 >>> ((1 : Int32).toUInt32 &&& Int32.toUInt32 31)).toInt32) &&& 1431655765)) &&& 858993459) + (((((nI v) - ((((nI v).toUInt32 >>> ((1 : Int32).toUInt32 &&& Int32.toUInt32 31)).toInt32) &&& 1431655765)).toUInt32 >>> ((2 : Int32).toUInt32 &&& Int32.toUInt32 31)).toInt32) &&& 858993459)) + ((((((nI v) - ((((nI v).toUInt32 >>> ((1 : Int32).toUInt32 &&& Int32.toUInt32 31)).toInt32) &&& 1431655765)) &&& 858993459) + (((((nI v) - ((((nI v).toUInt32 >>> ((1 : Int32).toUInt32 &&& Int32.toUInt32 31)).toInt32) &&& 1431655765)).toUInt32 >>> ((2 : Int32).toUInt32 &&& Int32.toUInt32 31)).toInt32) &&& 858993459)).toUInt32 >>> ((4 : Int32).toUInt32 &&& Int32.toUInt32 31)).toInt32)) &&& 252645135).toUInt32 >>> ((8 : Int32).toUInt32 &&& Int32.toUInt32 31)).toInt32)) + (((((((((nI v) - ((((nI v).toUInt32 >>> ((1 : Int32).toUInt32 &&& Int32.toUInt32 31)).toInt32) &&& 1431655765)) &&& 858993459) + (((((nI v) - ((((nI v).toUInt32 >>> ((1 : Int32).toUInt32 &&& Int32.toUInt32 31)).toInt32) &&& 1431655765)).toUInt32 >>> ((2 : Int32).toUInt32 &&& Int32.toUInt32 31)).toInt32) &&& 858993459)) + ((((((nI v) - ((((nI v).toUInt32 >>> ((1 : Int32).toUInt32 &&& Int32.toUInt32 31)).toInt32) &&& 1431655765)) &&& 858993459) + (((((nI v) - ((((nI v).toUInt32 >>> ((1 : Int32).toUInt32 &&& Int32.toUInt32 31)).toInt32) &&& 1431655765)).toUInt32 >>> ((2 : Int32).toUInt32 &&& Int32.toUInt32 31)).toInt32) &&& 858993459)).toUInt32 >>> ((4 : Int32).toUInt32 &&& Int32.toUInt32 31)).toInt32)) &&& 252645135) + ((((((((nI v) - ((((nI v).toUInt32 >>> ((1 : Int32).toUInt32 &&& Int32.toUInt32 31)).toInt32) &&& 1431655765)) &&& 858993459) + (((((nI v) - ((((nI v).toUInt32 >>> ((1 : Int32).toUInt32 &&& Int32.toUInt32 31)).toInt32) &&& 1431655765)).toUInt32 >>> ((2 : Int32).toUInt32 &&& Int32.toUInt32 31)).toInt32) &&& 858993459)) + ((((((nI v) - ((((nI v).toUInt32 >>> ((1 : Int32).toUInt32 &&& Int32.toUInt32 31)).toInt32) &&& 1431655765)) &&& 858993459) + (((((nI v) - ((((nI v).toUInt32 >>> ((1 : Int32).toUInt32 &&& Int32.toUInt32 31)).toInt32) &&& 1431655765)).toUInt32 >>> ((2 : Int32).toUInt32 &&& Int32.toUInt32 31)).toInt32) &&& 858993459)).toUInt32 >>> ((4 : Int32).toUInt32 &&& Int32.toUInt32 31)).toInt32)) &&& 252645135).toUInt32 >>> ((8 : Int32).toUInt32 &&& Int32.toUInt32 31)).toInt32)).toUInt32 >>> ((16 : Int32).toUInt32 &&& Int32.toUInt32 31)).toInt32))], [.int (((((((((nI v) - ((((nI v).toUInt32 >>> ((1 : Int32).toUInt32 &&& Int32.toUInt32 31)).toInt32) &&& 1431655765)) &&& 858993459) + (((((nI v) - ((((nI v).toUInt32 >>> ((1 : Int32).toUInt32 &&& Int32.toUInt32 31)).toInt32) &&& 1431655765)).toUInt32 >>> ((2 : Int32).toUInt32 &&& Int32.toUInt32 31)).toInt32) &&& 858993459)) + ((((((nI v) - ((((nI v).toUInt32 >>> ((1 : Int32).toUInt32 &&& Int32.toUInt32 31)).toInt32) &&& 1431655765)) &&& 858993459) + (((((nI v) - ((((nI v).toUInt32 >>> ((1 : Int32).toUInt32 &&& Int32.toUInt32 31)).toInt32) &&& 1431655765)).toUInt32 >>> ((2 : Int32).toUInt32 &&& Int32.toUInt32 31)).toInt32) &&& 858993459)).toUInt32 >>> ((4 : Int32).toUInt32 &&& Int32.toUInt32 31)).toInt32)) &&& 252645135) + ((((((((nI v) - ((((nI v).toUInt32 >>> ((1 : Int32).toUInt32 &&& Int32.toUInt32 31)).toInt32) &&& 1431655765)) &&& 858993459) + (((((nI v) - ((((nI v).toUInt32 >>> ((1 : Int32).toUInt32 &&& Int32.toUInt32 31)).toInt32) &&& 1431655765)).toUInt32 >>> ((2 : Int32).toUInt32 &&& Int32.toUInt32 31)).toInt32) &&& 858993459)) + ((((((nI v) - ((((nI v).toUInt32 >>> ((1 : Int32).toUInt32 &&& Int32.toUInt32 31)).toInt32) &&& 1431655765)) &&& 858993459) + (((((nI v) - ((((nI v).toUInt32 >>> ((1 : Int32).toUInt32 &&& Int32.toUInt32 31)).toInt32) &&& 1431655765)).toUInt32 >>> ((2 : Int32).toUInt32 &&& Int32.toUInt32 31)).toInt32) &&& 858993459)).toUInt32 >>> ((4 : Int32).toUInt32 &&& Int32.toUInt32 31)).toInt32)) &&& 252645135).toUInt32 >>> ((8 : Int32).toUInt32 &&& Int32.toUInt32 31)).toInt32)) + (((((((((nI v) - ((((nI v).toUInt32 >>> ((1 : Int32).toUInt32 &&& Int32.toUInt32 31)).toInt32) &&& 1431655765)) &&& 858993459) + (((((nI v) - ((((nI v).toUInt32 >>> ((1 : Int32).toUInt32 &&& Int32.toUInt32 31)).toInt32) &&& 1431655765)).toUInt32 >>> ((2 : Int32).toUInt32 &&& Int32.toUInt32 31)).toInt32) &&& 858993459)) + ((((((nI v) - ((((nI v).toUInt32 >>> ((1 : Int32).toUInt32 &&& Int32.toUInt32 31)).toInt32) &&& 1431655765)) &&& 858993459) + (((((nI v) - ((((nI v).toUInt32 >>> ((1 : Int32).toUInt32 &&& Int32.toUInt32 31)).toInt32) &&& 1431655765)).toUInt32 >>> ((2 : Int32).toUInt32 &&& Int32.toUInt32 31)).toInt32) &&& 858993459)).toUInt32 >>> ((4 : Int32).toUInt32 &&& Int32.toUInt32 31)).toInt32)) &&& 252645135) + ((((((((nI v) - ((((nI v).toUInt32 >>> ((1 : Int32).toUInt32 &&& Int32.toUInt32 31)).toInt32) &&& 1431655765)) &&& 858993459) + (((((nI v) - ((((nI v).toUInt32 >>> ((1 : Int32).toUInt32 &&& Int32.toUInt32 31)).toInt32) &&& 1431655765)).toUInt32 >>> ((2 : Int32).toUInt32 &&& Int32.toUInt32 31)).toInt32) &&& 858993459)) + ((((((nI v) - ((((nI v).toUInt32 >>> ((1 : Int32).toUInt32 &&& Int32.toUInt32 31)).toInt32) &&& 1431655765)) &&& 858993459) + (((((nI v) - ((((nI v).toUInt32 >>> ((1 : Int32).toUInt32 &&& Int32.toUInt32 31)).toInt32) &&& 1431655765)).toUInt32 >>> ((2 : Int32).toUInt32 &&& Int32.toUInt32 31)).toInt32) &&& 858993459)).toUInt32 >>> ((4 : Int32).toUInt32 &&& Int32.toUInt32 31)).toInt32)) &&& 252645135).toUInt32 >>> ((8 : Int32).toUInt32 &&& Int32.toUInt32 31)).toInt32)).toUInt32 >>> ((16 : Int32).toUInt32 &&& Int32.toUInt32 31)).toInt32)) &&& 63)])) (h1 := (S, I, L, P)) rfl trivial ?_
  refine xw_ret xb_37 rfl rfl trivial ?_
  refine ⟨xm_some (congrArg Value.int ?_), rfl⟩
  exact (by decide +kernel : ∀ v, v < 32 → ((((((((nI v) - ((((nI v).toUInt32 >>> ((1 : Int32).toUInt32 &&& Int32.toUInt32 31)).toInt32) &&& 1431655765)) &&& 858993459) + (((((nI v) - ((((nI v).toUInt32 >>> ((1 : Int32).toUInt32 &&& Int32.toUInt32 31)).toInt32) &&& 1431655765)).toUInt32 >>> ((2 : Int32).toUInt32 &&& Int32.toUInt32 31)).toInt32) &&& 858993459)) + ((((((nI v) - ((((nI v).toUInt32 >>> ((1 : Int32).toUInt32 &&& Int32.toUInt32 31)).toInt32) &&& 1431655765)) &&& 858993459) + (((((nI v) - ((((nI v).toUInt32 >>> ((1 : Int32).toUInt32 &&& Int32.toUInt32 31)).toInt32) &&& 1431655765)).toUInt32 >>> ((2 : Int32).toUInt32 &&& Int32.toUInt32 31)).toInt32) &&& 858993459)).toUInt32 >>> ((4 : Int32).toUInt32 &&& Int32.toUInt32 31)).toInt32)) &&& 252645135) + ((((((((nI v) - ((((nI v).toUInt32 >>> ((1 : Int32).toUInt32 &&& Int32.toUInt32 31)).toInt32) &&& 1431655765)) &&& 858993459) + (((((nI v) - ((((nI v).toUInt32 >>> ((1 : Int32).toUInt32 &&& Int32.toUInt32 31)).toInt32) &&& 1431655765)).toUInt32 >>> ((2 : Int32).toUInt32 &&& Int32.toUInt32 31)).toInt32) &&& 858993459)) + ((((((nI v) - ((((nI v).toUInt32 >>> ((1 : Int32).toUInt32 &&& Int32.toUInt32 31)).toInt32) &&& 1431655765)) &&& 858993459) + (((((nI v) - ((((nI v).toUInt32 >>> ((1 : Int32).toUInt32 &&& Int32.toUInt32 31)).toInt32) &&& 1431655765)).toUInt32 >>> ((2 : Int32).toUInt32 &&& Int32.toUInt32 31)).toInt32) &&& 858993459)).toUInt32 >>> ((4 : Int32).toUInt32 &&& Int32.toUInt32 31)).toInt32)) &&& 252645135).toUInt32 >>> ((8 : Int32).toUInt32 &&& Int32.toUInt32 31)).toInt32)) + (((((((((nI v) - ((((nI v).toUInt32 >>> ((1 : Int32).toUInt32 &&& Int32.toUInt32 31)).toInt32) &&& 1431655765)) &&& 858993459) + (((((nI v) - ((((nI v).toUInt32 >>> ((1 : Int32).toUInt32 &&& Int32.toUInt32 31)).toInt32) &&& 1431655765)).toUInt32 >>> ((2 : Int32).toUInt32 &&& Int32.toUInt32 31)).toInt32) &&& 858993459)) + ((((((nI v) - ((((nI v).toUInt32 >>> ((1 : Int32).toUInt32 &&& Int32.toUInt32 31)).toInt32) &&& 1431655765)) &&& 858993459) + (((((nI v) - ((((nI v).toUInt32 >>> ((1 : Int32).toUInt32 &&& Int32.toUInt32 31)).toInt32) &&& 1431655765)).toUInt32 >>> ((2 : Int32).toUInt32 &&& Int32.toUInt32 31)).toInt32) &&& 858993459)).toUInt32 >>> ((4 : Int32).toUInt32 &&& Int32.toUInt32 31)).toInt32)) &&& 252645135) + ((((((((nI v) - ((((nI v).toUInt32 >>> ((1 : Int32).toUInt32 &&& Int32.toUInt32 31)).toInt32) &&& 1431655765)) &&& 858993459) + (((((nI v) - ((((nI v).toUInt32 >>> ((1 : Int32).toUInt32 &&& Int32.toUInt32 31)).toInt32) &&& 1431655765)).toUInt32 >>> ((2 : Int32).toUInt32 &&& Int32.toUInt32 31)).toInt32) &&& 858993459)) + ((((((nI v) - ((((nI v).toUInt32 >>> ((1 : Int32).toUInt32 &&& Int32.toUInt32 31)).toInt32) &&& 1431655765)) &&& 858993459) + (((((nI v) - ((((nI v).toUInt32 >>> ((1 : Int32).toUInt32 &&& Int32.toUInt32 31)).toInt32) &&& 1431655765)).toUInt32 >>> ((2 : Int32).toUInt32 &&& Int32.toUInt32 31)).toInt32) &&& 858993459)).toUInt32 >>> ((4 : Int32).toUInt32 &&& Int32.toUInt32 31)).toInt32)) &&& 252645135).toUInt32 >>> ((8 : Int32).toUInt32 &&& Int32.toUInt32 31)).toInt32)).toUInt32 >>> ((16 : Int32).toUInt32 &&& Int32.toUInt32 31)).toInt32)) &&& 63 = nI (xpc v)) v bv

theorem xbit5' : ∀ o, o < 32 → ∀ i, i < 5 → (nI o >>> (nI i &&& 31)) &&& 1 = nI (xB (o.testBit i)) := by decide +kernel
theorem xtog : ∀ o, o < 32 → ∀ i, i < 5 → nI o ^^^ (1 <<< (nI i &&& 31)) = nI (o ^^^ (1 <<< i)) ∧ o ^^^ (1 <<< i) < 32 := by decide +kernel
theorem xtog_lt {o n i : Nat} (ho : o < 2 ^ n) (hi : i < n) : o ^^^ (1 <<< i) < 2 ^ n := by
  apply Nat.xor_lt_two_pow ho
  rw [Nat.one_shiftLeft]
  exact Nat.pow_lt_pow_right (by decide) hi
set_option maxHeartbeats 4000000 in
theorem c_allFrom {d : Nat} {b : Bool} {I : Nat → Nat → Int32} {L : Nat → Nat → Int64} {N : Nat → Nat} (hN : xPN N 1 I) (hO : xOK N) {i : Nat} (hi : i < N 2) : xm_Z (d + 4) 22 [.ref 20, .ref 1, .ref (15 + i)] (xS b, I, L, xP b) (fun rz hz => rz = some (.int (nI (xsum (fun c => xth N i (c / N 1) (c % N 1)) (N 0 * N 1)))) ∧ ∃ X, hz = (xS b, va_up I 21 X, L, xP b)) := by
  have hb := hO.1
  have c64 : N 0 * N 1 ≤ 64 := xce_le hO
  obtain ⟨⟨hN0, hN1, hN2, hN3, hN4, hN5, hN6, hN7, hN8, hN9, hN10⟩, hNs, hNw, hNp⟩ := hN
  obtain ⟨k0, k1, k2, k3, k4⟩ := hO.2.2.2 i hi
  have s5 : (xS b)[15 + i]? = some (11, 4) := xS_15 (by omega)
  refine xw_S xb_22 (l := [.ref 20, .ref 1, .ref (15 + i), .float 0, .float 0, .float 0]) (Nat.le_of_ble_eq_true rfl) rfl ?_
  refine xw_go xb_22 3 (f1 := (5, [.ref 20, .ref 1, .ref (15 + i), .float 0, .float 0, .float 0], [.int 0, .ref 21])) (h1 := (xS b, I, L, xP b)) rfl ⟨rfl, trivial⟩ ?_
  refine xw_call xb_22 rfl rfl rfl rfl rfl (Or.inl rfl) (c_fill (n := 64) rfl (by decide)) ?_
  rintro _ _ ⟨rfl, rfl⟩
  refine xw_at (f' := (8, [.ref 20, .ref 1, .ref (15 + i), .float 0, .float 0, .float 0], [])) (h' := (xS b, va_up I 21 (xfil 64 (fun _ => 0) (I 21)), L, xP b)) rfl rfl ?_
  refine xw_go xb_22 6 (f1 := (16, [.ref 20, .ref 1, .ref (15 + i), .float 0, .float 0, .float 0], [.int 0, .int ((va_up I 21 (xfil 64 (fun _ => 0) (I 21))) (15 + i) 1), .ref (15 + i), .ref 1, .ref 20])) (h1 := (xS b, va_up I 21 (xfil 64 (fun _ => 0) (I 21)), L, xP b)) rfl ⟨s5, trivial⟩ ?_
  refine xw_call xb_22 rfl rfl rfl rfl rfl (Or.inr ⟨_, _, rfl, rfl⟩) (c_addFrom (I := (va_up I 21 (xfil 64 (fun _ => 0) (I 21)))) hN0 hN1 (by omega) (by omega) (by omega) (a := 15 + i) (k := N (11 + 4 * i)) (re := N (13 + 4 * i)) (w := N (14 + 4 * i)) s5 (by rw [xm_vu_o (by omega)]; exact hNp i hi 0 (by decide)) (by rw [xm_vu_o (by omega)]; have h := hNp i hi 2 (by decide); rw [show 11 + 4 * i + 2 = 13 + 4 * i by omega] at h; exact h) (by rw [xm_vu_o (by omega)]; have h := hNp i hi 3 (by decide); rw [show 11 + 4 * i + 3 = 14 + 4 * i by omega] at h; exact h) k0 k2 k4 (pl := N (12 + 4 * i)) (wi := 0) k1 (by decide) (fv := fun _ => 0) (fun j hj => by show xfil 64 (fun _ => 0) (I 21) j = _; simp only [xfil]; rw [if_pos (by omega)]; rfl) (by rw [xm_vu_o (by omega)]; have h := hNp i hi 1 (by decide); rw [show 11 + 4 * i + 1 = 12 + 4 * i by omega] at h; exact h) rfl) ?_
  rintro _ _ ⟨rfl, rfl⟩
  refine xw_at (f' := (19, [.ref 20, .ref 1, .ref (15 + i), .float 0, .float 0, .float 0], [])) (h' := (xS b, va_up (va_up I 21 (xfil 64 (fun _ => 0) (I 21))) 21 (xdn 0 (N 1) (N 0 * N 1) (fun j => nI (0 + xs_thr (N (11 + 4 * i)) (N (13 + 4 * i)) (N (14 + 4 * i)) (j / N 1) (N (12 + 4 * i) / N 1) (j % N 1 - 0) (N (12 + 4 * i) % N 1))) ((va_up I 21 (xfil 64 (fun _ => 0) (I 21))) 21)), L, xP b)) rfl rfl ?_
  refine xw_go xb_22 5 (f1 := (25, [.ref 20, .ref 1, .ref (15 + i), .int 0, .int 0, .float 0], [.ref 1])) (h1 := (xS b, va_up (va_up I 21 (xfil 64 (fun _ => 0) (I 21))) 21 (xdn 0 (N 1) (N 0 * N 1) (fun j => nI (0 + xs_thr (N (11 + 4 * i)) (N (13 + 4 * i)) (N (14 + 4 * i)) (j / N 1) (N (12 + 4 * i) / N 1) (j % N 1 - 0) (N (12 + 4 * i) % N 1))) ((va_up I 21 (xfil 64 (fun _ => 0) (I 21))) 21)), L, xP b)) rfl trivial ?_
  refine xw_call xb_22 rfl rfl rfl rfl rfl (Or.inr ⟨_, _, rfl, rfl⟩) (c_cells (I := va_up (va_up I 21 (xfil 64 (fun _ => 0) (I 21))) 21 (xdn 0 (N 1) (N 0 * N 1) (fun j => nI (0 + xs_thr (N (11 + 4 * i)) (N (13 + 4 * i)) (N (14 + 4 * i)) (j / N 1) (N (12 + 4 * i) / N 1) (j % N 1 - 0) (N (12 + 4 * i) % N 1))) ((va_up I 21 (xfil 64 (fun _ => 0) (I 21))) 21))) (R := N 0) (C := N 1) hN0 hN1) ?_
  rintro _ _ ⟨rfl, rfl⟩
  refine xw_at (f' := (28, [.ref 20, .ref 1, .ref (15 + i), .int 0, .int 0, .float 0], [.int (nI (N 0 * N 1))])) (h' := (xS b, va_up (va_up I 21 (xfil 64 (fun _ => 0) (I 21))) 21 (xdn 0 (N 1) (N 0 * N 1) (fun j => nI (0 + xs_thr (N (11 + 4 * i)) (N (13 + 4 * i)) (N (14 + 4 * i)) (j / N 1) (N (12 + 4 * i) / N 1) (j % N 1 - 0) (N (12 + 4 * i) % N 1))) ((va_up I 21 (xfil 64 (fun _ => 0) (I 21))) 21)), L, xP b)) rfl rfl ?_
  refine xw_go xb_22 1 (f1 := (30, [.ref 20, .ref 1, .ref (15 + i), .int 0, .int 0, .int (nI (N 0 * N 1))], [])) (h1 := (xS b, va_up (va_up I 21 (xfil 64 (fun _ => 0) (I 21))) 21 (xdn 0 (N 1) (N 0 * N 1) (fun j => nI (0 + xs_thr (N (11 + 4 * i)) (N (13 + 4 * i)) (N (14 + 4 * i)) (j / N 1) (N (12 + 4 * i) / N 1) (j % N 1 - 0) (N (12 + 4 * i) % N 1))) ((va_up I 21 (xfil 64 (fun _ => 0) (I 21))) 21)), L, xP b)) rfl trivial ?_
  refine xw_loop (N 0 * N 1) (fun c => (30, [.ref 20, .ref 1, .ref (15 + i), .int (nI (xsum (fun c => xth N i (c / N 1) (c % N 1)) c)), .int (nI c), .int (nI (N 0 * N 1))], [])) (fun c => (xS b, va_up (va_up I 21 (xfil 64 (fun _ => 0) (I 21))) 21 (xdn 0 (N 1) (N 0 * N 1) (fun j => nI (0 + xs_thr (N (11 + 4 * i)) (N (13 + 4 * i)) (N (14 + 4 * i)) (j / N 1) (N (12 + 4 * i) / N 1) (j % N 1 - 0) (N (12 + 4 * i) % N 1))) ((va_up I 21 (xfil 64 (fun _ => 0) (I 21))) 21)), L, xP b)) (fun c hc ih => ?_) ?_ 0 (Nat.zero_le _)
  · skip
    refine xw_go xb_22 3 (f1 := (if (nI (N 0 * N 1)) ≤ (nI c) then 53 else 37, [.ref 20, .ref 1, .ref (15 + i), .int (nI (xsum (fun c => xth N i (c / N 1) (c % N 1)) c)), .int (nI c), .int (nI (N 0 * N 1))], [])) (h1 := (xS b, va_up (va_up I 21 (xfil 64 (fun _ => 0) (I 21))) 21 (xdn 0 (N 1) (N 0 * N 1) (fun j => nI (0 + xs_thr (N (11 + 4 * i)) (N (13 + 4 * i)) (N (14 + 4 * i)) (j / N 1) (N (12 + 4 * i) / N 1) (j % N 1 - 0) (N (12 + 4 * i) % N 1))) ((va_up I 21 (xfil 64 (fun _ => 0) (I 21))) 21)), L, xP b)) rfl trivial ?_
    refine xw_if (fun c_34 => ?_) (fun c_34 => ?_)
    · skip
      exfalso
      simp (disch := omega) only [nI_leI] at c_34
      omega
    · skip
      refine xw_go xb_22 9 (f1 := (30, [.ref 20, .ref 1, .ref (15 + i), .int ((nI (xsum (fun c => xth N i (c / N 1) (c % N 1)) c)) + ((va_up (va_up I 21 (xfil 64 (fun _ => 0) (I 21))) 21 (xdn 0 (N 1) (N 0 * N 1) (fun j => nI (0 + xs_thr (N (11 + 4 * i)) (N (13 + 4 * i)) (N (14 + 4 * i)) (j / N 1) (N (12 + 4 * i) / N 1) (j % N 1 - 0) (N (12 + 4 * i) % N 1))) ((va_up I 21 (xfil 64 (fun _ => 0) (I 21))) 21))) 21 (nI c).toNatClampNeg)), .int ((nI c) + 1), .int (nI (N 0 * N 1))], [])) (h1 := (xS b, va_up (va_up I 21 (xfil 64 (fun _ => 0) (I 21))) 21 (xdn 0 (N 1) (N 0 * N 1) (fun j => nI (0 + xs_thr (N (11 + 4 * i)) (N (13 + 4 * i)) (N (14 + 4 * i)) (j / N 1) (N (12 + 4 * i) / N 1) (j % N 1 - 0) (N (12 + 4 * i) % N 1))) ((va_up I 21 (xfil 64 (fun _ => 0) (I 21))) 21)), L, xP b)) rfl ⟨rfl, (xn_ar (n := c) (N := 64) rfl (by omega) (by decide)), trivial⟩ ?_
      refine xw_cong ?_ rfl rfl ih
      have e1 : va_up (va_up I 21 (xfil 64 (fun _ => 0) (I 21))) 21 (xdn 0 (N 1) (N 0 * N 1) (fun j => nI (0 + xs_thr (N (11 + 4 * i)) (N (13 + 4 * i)) (N (14 + 4 * i)) (j / N 1) (N (12 + 4 * i) / N 1) (j % N 1 - 0) (N (12 + 4 * i) % N 1))) ((va_up I 21 (xfil 64 (fun _ => 0) (I 21))) 21)) 21 c = nI ((fun c => xth N i (c / N 1) (c % N 1)) c) := by
        simp only [va_up, if_true, xdn]
        rw [if_pos ⟨Nat.zero_le _, hc⟩, Nat.zero_add, Nat.sub_zero]
        rfl
      rw [xn_cl (by omega), e1, nI_1, nI_add]
      rfl
  · skip
    refine xw_go xb_22 3 (f1 := (if (nI (N 0 * N 1)) ≤ (nI (N 0 * N 1)) then 53 else 37, [.ref 20, .ref 1, .ref (15 + i), .int (nI (xsum (fun c => xth N i (c / N 1) (c % N 1)) (N 0 * N 1))), .int (nI (N 0 * N 1)), .int (nI (N 0 * N 1))], [])) (h1 := (xS b, va_up (va_up I 21 (xfil 64 (fun _ => 0) (I 21))) 21 (xdn 0 (N 1) (N 0 * N 1) (fun j => nI (0 + xs_thr (N (11 + 4 * i)) (N (13 + 4 * i)) (N (14 + 4 * i)) (j / N 1) (N (12 + 4 * i) / N 1) (j % N 1 - 0) (N (12 + 4 * i) % N 1))) ((va_up I 21 (xfil 64 (fun _ => 0) (I 21))) 21)), L, xP b)) rfl trivial ?_
    refine xw_if (fun c_34 => ?_) (fun c_34 => ?_)
    · skip
      refine xw_go xb_22 1 (f1 := (54, [.ref 20, .ref 1, .ref (15 + i), .int (nI (xsum (fun c => xth N i (c / N 1) (c % N 1)) (N 0 * N 1))), .int (nI (N 0 * N 1)), .int (nI (N 0 * N 1))], [.int (nI (xsum (fun c => xth N i (c / N 1) (c % N 1)) (N 0 * N 1)))])) (h1 := (xS b, va_up (va_up I 21 (xfil 64 (fun _ => 0) (I 21))) 21 (xdn 0 (N 1) (N 0 * N 1) (fun j => nI (0 + xs_thr (N (11 + 4 * i)) (N (13 + 4 * i)) (N (14 + 4 * i)) (j / N 1) (N (12 + 4 * i) / N 1) (j % N 1 - 0) (N (12 + 4 * i) % N 1))) ((va_up I 21 (xfil 64 (fun _ => 0) (I 21))) 21)), L, xP b)) rfl trivial ?_
      refine xw_ret xb_22 rfl rfl trivial ?_
      exact ⟨rfl, _, by rw [xvv_s]⟩
    · skip
      exfalso
      simp (disch := omega) only [nI_leI] at c_34
      omega

theorem c_of0 {d : Nat} {b : Bool} {I : Nat → Nat → Int32} {L : Nat → Nat → Int64} {N : Nat → Nat} {u : Nat} {U : Nat → Nat → Nat} (hP : xPL N u U 1 I) (hK : xUK N u U) {x y : Int32} (hx : ¬ (0 ≤ x.toInt ∧ x.toInt < (N 2 : Int) ∧ 0 ≤ y.toInt ∧ y.toInt ≤ 5)) : xm_Z (d + 5) 19 [.ref 0, .int x, .int y] (xS b, I, L, xP b) (fun rz hz => xQC b I L (-1) N u U rz hz) := by
  have hO := hK.1
  have hb := hK.1.1
  have c64 : N 0 * N 1 ≤ 64 := xce_le hO
  have c4 : 4 ≤ N 0 * N 1 := xce_ge hO
  obtain ⟨⟨hN0, hN1, hN2, hN3, hN4, hN5, hN6, hN7, hN8, hN9, hN10⟩, hNs, hNw, hNp⟩ := hP.1
  have h31 : (N 2 : Int) ≤ 5 := by omega
  refine xw_S xb_19 (l := [.ref 0, .int x, .int y, .float 0]) (Nat.le_of_ble_eq_true rfl) rfl ?_
  refine xw_go xb_19 3 (f1 := (5, [.ref 0, .int x, .int y, .float 0], [.int x, .ref 1])) (h1 := (xS b, I, L, xP b)) rfl ⟨rfl, trivial⟩ ?_
  refine xw_call xb_19 rfl rfl rfl rfl rfl (Or.inr ⟨_, _, rfl, rfl⟩) (c_hasSprinkler (I := I) hN2 (by omega)) ?_
  rintro _ _ ⟨rfl, rfl⟩
  refine xw_at (f' := (8, [.ref 0, .int x, .int y, .float 0], [.int (nI (xB (decide (0 ≤ x.toInt ∧ x.toInt < (N 2 : Int)))))])) (h' := (xS b, I, L, xP b)) rfl rfl ?_
  refine xw_go xb_19 1 (f1 := (if ¬ (nI (xB (decide (0 ≤ x.toInt ∧ x.toInt < (N 2 : Int))))) = 0 then 13 else 11, [.ref 0, .int x, .int y, .float 0], [])) (h1 := (xS b, I, L, xP b)) rfl trivial ?_
  refine xw_if (fun c_8 => ?_) (fun c_8 => ?_)
  · skip
    have hx2 : 0 ≤ x.toInt ∧ x.toInt < (N 2 : Int) := by
      try simp only [xB_dec, Classical.not_not] at c_8
      try simp (disch := omega) only [xt_eq, xt_lt, xt_le, xkt_0, xkt_1, xkt_2, xkt_3, xkt_4, xkt_5, xkt_6, xkt_7, xkt_8, xkt_9, xkt_10, xkt_11, xkt_12, xkt_13, xkt_14, xkt_16, xkt_20, xkt_24, xkt_31, xkt_32, xkt_40, xkt_44, xkt_47, xkt_48, xkt_57, xkt_59, xkt_60, xkt_63, xkt_64, xkt_65, xkt_72, xkt_95, xkt_99, xkt_100, xkt_101, xkt_103, xkt_110, xkt_112, xkt_113, xkt_114, xkt_119, xkt_126, xkt_159, xkt_576, xkt_999, xkt_9999, xkt_65536, xkt_999999, xkt_m1, xkt_m2, xkt_m3, xkt_m4, xkt_m11, xkt_m12, xkt_m13, xkt_m14, xkt_m20, xjt_0, xjt_1, xjt_2, xjt_3, xjt_4, xjt_5, xjt_6, xjt_7, xjt_8, xjt_9, xjt_10, xjt_11, xjt_12, xjt_13, xjt_14, xjt_16, xjt_20, xjt_24, xjt_31, xjt_32, xjt_40, xjt_44, xjt_47, xjt_48, xjt_57, xjt_59, xjt_60, xjt_63, xjt_64, xjt_65, xjt_72, xjt_95, xjt_99, xjt_100, xjt_101, xjt_103, xjt_110, xjt_112, xjt_113, xjt_114, xjt_119, xjt_126, xjt_159, xjt_576, xjt_999, xjt_9999, xjt_65536, xjt_999999, xt64, xt_n, not_true_eq_false, not_false_eq_true, Classical.not_not] at c_8
      all_goals omega
    obtain ⟨i, hi, rfl⟩ := xa_ge (x := x) (n := N 2) (by omega) hx2.1 hx2.2
    refine xw_go xb_19 5 (f1 := (22, [.ref 0, .int (nI i), .int y, .float 0], [xm_o (xP b 4 (nI i).toNatClampNeg)])) (h1 := (xS b, I, L, xP b)) rfl ⟨rfl, rfl, (xn_ar (n := i) (N := 5) rfl (by omega) (by decide)), ⟨Nat.le_of_ble_eq_true rfl, Nat.le_of_ble_eq_true rfl⟩, trivial⟩ ?_
    refine xw_cong (l' := [.ref 0, .int (nI i), .int y, .float 0]) (st' := [.ref (15 + i)]) (h' := (xS b, I, L, xP b)) rfl (show ([xm_o (xP b 4 (nI i).toNatClampNeg)] : List Value) = [.ref (15 + i)] from ?_) rfl ?_
    · rw [xn_cl (by omega), xP_4 (by omega)]
      rfl
    refine xw_go xb_19 3 (f1 := (xm_sw [(0, 64), (1, 69), (2, 74), (3, 79), (4, 84), (5, 101)] 114 y, [.ref 0, .int (nI i), .int y, .ref (15 + i)], [])) (h1 := (xS b, I, L, xP b)) rfl trivial ?_
    refine xw_if (fun c_24_0 => ?_) (fun c_24_0 => ?_)
    · skip
      exfalso
      try simp only [xB_dec, Classical.not_not] at c_24_0
      try simp (disch := omega) only [xt_eq, xt_lt, xt_le, xkt_0, xkt_1, xkt_2, xkt_3, xkt_4, xkt_5, xkt_6, xkt_7, xkt_8, xkt_9, xkt_10, xkt_11, xkt_12, xkt_13, xkt_14, xkt_16, xkt_20, xkt_24, xkt_31, xkt_32, xkt_40, xkt_44, xkt_47, xkt_48, xkt_57, xkt_59, xkt_60, xkt_63, xkt_64, xkt_65, xkt_72, xkt_95, xkt_99, xkt_100, xkt_101, xkt_103, xkt_110, xkt_112, xkt_113, xkt_114, xkt_119, xkt_126, xkt_159, xkt_576, xkt_999, xkt_9999, xkt_65536, xkt_999999, xkt_m1, xkt_m2, xkt_m3, xkt_m4, xkt_m11, xkt_m12, xkt_m13, xkt_m14, xkt_m20, xjt_0, xjt_1, xjt_2, xjt_3, xjt_4, xjt_5, xjt_6, xjt_7, xjt_8, xjt_9, xjt_10, xjt_11, xjt_12, xjt_13, xjt_14, xjt_16, xjt_20, xjt_24, xjt_31, xjt_32, xjt_40, xjt_44, xjt_47, xjt_48, xjt_57, xjt_59, xjt_60, xjt_63, xjt_64, xjt_65, xjt_72, xjt_95, xjt_99, xjt_100, xjt_101, xjt_103, xjt_110, xjt_112, xjt_113, xjt_114, xjt_119, xjt_126, xjt_159, xjt_576, xjt_999, xjt_9999, xjt_65536, xjt_999999, xt64, xt_n, not_true_eq_false, not_false_eq_true, Classical.not_not] at c_24_0
      all_goals omega
    refine xw_if (fun c_24_1 => ?_) (fun c_24_1 => ?_)
    · skip
      exfalso
      try simp only [xB_dec, Classical.not_not] at c_24_0 c_24_1
      try simp (disch := omega) only [xt_eq, xt_lt, xt_le, xkt_0, xkt_1, xkt_2, xkt_3, xkt_4, xkt_5, xkt_6, xkt_7, xkt_8, xkt_9, xkt_10, xkt_11, xkt_12, xkt_13, xkt_14, xkt_16, xkt_20, xkt_24, xkt_31, xkt_32, xkt_40, xkt_44, xkt_47, xkt_48, xkt_57, xkt_59, xkt_60, xkt_63, xkt_64, xkt_65, xkt_72, xkt_95, xkt_99, xkt_100, xkt_101, xkt_103, xkt_110, xkt_112, xkt_113, xkt_114, xkt_119, xkt_126, xkt_159, xkt_576, xkt_999, xkt_9999, xkt_65536, xkt_999999, xkt_m1, xkt_m2, xkt_m3, xkt_m4, xkt_m11, xkt_m12, xkt_m13, xkt_m14, xkt_m20, xjt_0, xjt_1, xjt_2, xjt_3, xjt_4, xjt_5, xjt_6, xjt_7, xjt_8, xjt_9, xjt_10, xjt_11, xjt_12, xjt_13, xjt_14, xjt_16, xjt_20, xjt_24, xjt_31, xjt_32, xjt_40, xjt_44, xjt_47, xjt_48, xjt_57, xjt_59, xjt_60, xjt_63, xjt_64, xjt_65, xjt_72, xjt_95, xjt_99, xjt_100, xjt_101, xjt_103, xjt_110, xjt_112, xjt_113, xjt_114, xjt_119, xjt_126, xjt_159, xjt_576, xjt_999, xjt_9999, xjt_65536, xjt_999999, xt64, xt_n, not_true_eq_false, not_false_eq_true, Classical.not_not] at c_24_0 c_24_1
      all_goals omega
    refine xw_if (fun c_24_2 => ?_) (fun c_24_2 => ?_)
    · skip
      exfalso
      try simp only [xB_dec, Classical.not_not] at c_24_0 c_24_1 c_24_2
      try simp (disch := omega) only [xt_eq, xt_lt, xt_le, xkt_0, xkt_1, xkt_2, xkt_3, xkt_4, xkt_5, xkt_6, xkt_7, xkt_8, xkt_9, xkt_10, xkt_11, xkt_12, xkt_13, xkt_14, xkt_16, xkt_20, xkt_24, xkt_31, xkt_32, xkt_40, xkt_44, xkt_47, xkt_48, xkt_57, xkt_59, xkt_60, xkt_63, xkt_64, xkt_65, xkt_72, xkt_95, xkt_99, xkt_100, xkt_101, xkt_103, xkt_110, xkt_112, xkt_113, xkt_114, xkt_119, xkt_126, xkt_159, xkt_576, xkt_999, xkt_9999, xkt_65536, xkt_999999, xkt_m1, xkt_m2, xkt_m3, xkt_m4, xkt_m11, xkt_m12, xkt_m13, xkt_m14, xkt_m20, xjt_0, xjt_1, xjt_2, xjt_3, xjt_4, xjt_5, xjt_6, xjt_7, xjt_8, xjt_9, xjt_10, xjt_11, xjt_12, xjt_13, xjt_14, xjt_16, xjt_20, xjt_24, xjt_31, xjt_32, xjt_40, xjt_44, xjt_47, xjt_48, xjt_57, xjt_59, xjt_60, xjt_63, xjt_64, xjt_65, xjt_72, xjt_95, xjt_99, xjt_100, xjt_101, xjt_103, xjt_110, xjt_112, xjt_113, xjt_114, xjt_119, xjt_126, xjt_159, xjt_576, xjt_999, xjt_9999, xjt_65536, xjt_999999, xt64, xt_n, not_true_eq_false, not_false_eq_true, Classical.not_not] at c_24_0 c_24_1 c_24_2
      all_goals omega
    refine xw_if (fun c_24_3 => ?_) (fun c_24_3 => ?_)
    · skip
      exfalso
      try simp only [xB_dec, Classical.not_not] at c_24_0 c_24_1 c_24_2 c_24_3
      try simp (disch := omega) only [xt_eq, xt_lt, xt_le, xkt_0, xkt_1, xkt_2, xkt_3, xkt_4, xkt_5, xkt_6, xkt_7, xkt_8, xkt_9, xkt_10, xkt_11, xkt_12, xkt_13, xkt_14, xkt_16, xkt_20, xkt_24, xkt_31, xkt_32, xkt_40, xkt_44, xkt_47, xkt_48, xkt_57, xkt_59, xkt_60, xkt_63, xkt_64, xkt_65, xkt_72, xkt_95, xkt_99, xkt_100, xkt_101, xkt_103, xkt_110, xkt_112, xkt_113, xkt_114, xkt_119, xkt_126, xkt_159, xkt_576, xkt_999, xkt_9999, xkt_65536, xkt_999999, xkt_m1, xkt_m2, xkt_m3, xkt_m4, xkt_m11, xkt_m12, xkt_m13, xkt_m14, xkt_m20, xjt_0, xjt_1, xjt_2, xjt_3, xjt_4, xjt_5, xjt_6, xjt_7, xjt_8, xjt_9, xjt_10, xjt_11, xjt_12, xjt_13, xjt_14, xjt_16, xjt_20, xjt_24, xjt_31, xjt_32, xjt_40, xjt_44, xjt_47, xjt_48, xjt_57, xjt_59, xjt_60, xjt_63, xjt_64, xjt_65, xjt_72, xjt_95, xjt_99, xjt_100, xjt_101, xjt_103, xjt_110, xjt_112, xjt_113, xjt_114, xjt_119, xjt_126, xjt_159, xjt_576, xjt_999, xjt_9999, xjt_65536, xjt_999999, xt64, xt_n, not_true_eq_false, not_false_eq_true, Classical.not_not] at c_24_0 c_24_1 c_24_2 c_24_3
      all_goals omega
    refine xw_if (fun c_24_4 => ?_) (fun c_24_4 => ?_)
    · skip
      exfalso
      try simp only [xB_dec, Classical.not_not] at c_24_0 c_24_1 c_24_2 c_24_3 c_24_4
      try simp (disch := omega) only [xt_eq, xt_lt, xt_le, xkt_0, xkt_1, xkt_2, xkt_3, xkt_4, xkt_5, xkt_6, xkt_7, xkt_8, xkt_9, xkt_10, xkt_11, xkt_12, xkt_13, xkt_14, xkt_16, xkt_20, xkt_24, xkt_31, xkt_32, xkt_40, xkt_44, xkt_47, xkt_48, xkt_57, xkt_59, xkt_60, xkt_63, xkt_64, xkt_65, xkt_72, xkt_95, xkt_99, xkt_100, xkt_101, xkt_103, xkt_110, xkt_112, xkt_113, xkt_114, xkt_119, xkt_126, xkt_159, xkt_576, xkt_999, xkt_9999, xkt_65536, xkt_999999, xkt_m1, xkt_m2, xkt_m3, xkt_m4, xkt_m11, xkt_m12, xkt_m13, xkt_m14, xkt_m20, xjt_0, xjt_1, xjt_2, xjt_3, xjt_4, xjt_5, xjt_6, xjt_7, xjt_8, xjt_9, xjt_10, xjt_11, xjt_12, xjt_13, xjt_14, xjt_16, xjt_20, xjt_24, xjt_31, xjt_32, xjt_40, xjt_44, xjt_47, xjt_48, xjt_57, xjt_59, xjt_60, xjt_63, xjt_64, xjt_65, xjt_72, xjt_95, xjt_99, xjt_100, xjt_101, xjt_103, xjt_110, xjt_112, xjt_113, xjt_114, xjt_119, xjt_126, xjt_159, xjt_576, xjt_999, xjt_9999, xjt_65536, xjt_999999, xt64, xt_n, not_true_eq_false, not_false_eq_true, Classical.not_not] at c_24_0 c_24_1 c_24_2 c_24_3 c_24_4
      all_goals omega
    refine xw_if (fun c_24_5 => ?_) (fun c_24_5 => ?_)
    · skip
      exfalso
      try simp only [xB_dec, Classical.not_not] at c_24_0 c_24_1 c_24_2 c_24_3 c_24_4 c_24_5
      try simp (disch := omega) only [xt_eq, xt_lt, xt_le, xkt_0, xkt_1, xkt_2, xkt_3, xkt_4, xkt_5, xkt_6, xkt_7, xkt_8, xkt_9, xkt_10, xkt_11, xkt_12, xkt_13, xkt_14, xkt_16, xkt_20, xkt_24, xkt_31, xkt_32, xkt_40, xkt_44, xkt_47, xkt_48, xkt_57, xkt_59, xkt_60, xkt_63, xkt_64, xkt_65, xkt_72, xkt_95, xkt_99, xkt_100, xkt_101, xkt_103, xkt_110, xkt_112, xkt_113, xkt_114, xkt_119, xkt_126, xkt_159, xkt_576, xkt_999, xkt_9999, xkt_65536, xkt_999999, xkt_m1, xkt_m2, xkt_m3, xkt_m4, xkt_m11, xkt_m12, xkt_m13, xkt_m14, xkt_m20, xjt_0, xjt_1, xjt_2, xjt_3, xjt_4, xjt_5, xjt_6, xjt_7, xjt_8, xjt_9, xjt_10, xjt_11, xjt_12, xjt_13, xjt_14, xjt_16, xjt_20, xjt_24, xjt_31, xjt_32, xjt_40, xjt_44, xjt_47, xjt_48, xjt_57, xjt_59, xjt_60, xjt_63, xjt_64, xjt_65, xjt_72, xjt_95, xjt_99, xjt_100, xjt_101, xjt_103, xjt_110, xjt_112, xjt_113, xjt_114, xjt_119, xjt_126, xjt_159, xjt_576, xjt_999, xjt_9999, xjt_65536, xjt_999999, xt64, xt_n, not_true_eq_false, not_false_eq_true, Classical.not_not] at c_24_0 c_24_1 c_24_2 c_24_3 c_24_4 c_24_5
      all_goals omega
    refine xw_at (f' := (114, [.ref 0, .int (nI i), .int y, .ref (15 + i)], [])) (h' := (xS b, I, L, xP b)) rfl rfl ?_
    refine xw_go xb_19 1 (f1 := (115, [.ref 0, .int (nI i), .int y, .ref (15 + i)], [.int (-1)])) (h1 := (xS b, I, L, xP b)) rfl trivial ?_
    refine xw_ret xb_19 rfl rfl trivial ?_
    exact xQC_same hP
  · skip
    refine xw_go xb_19 1 (f1 := (12, [.ref 0, .int x, .int y, .float 0], [.int (-1)])) (h1 := (xS b, I, L, xP b)) rfl trivial ?_
    refine xw_ret xb_19 rfl rfl trivial ?_
    exact xQC_same hP

theorem c_of1 {d : Nat} {b : Bool} {I : Nat → Nat → Int32} {L : Nat → Nat → Int64} {N : Nat → Nat} {u : Nat} {U : Nat → Nat → Nat} (hP : xPL N u U 1 I) (hK : xUK N u U) {i f : Nat} (hi : i < N 2) (hf : f < 4) {x : Int32} (e_x : x = nI i) {y : Int32} (e_y : y = nI f) : xm_Z (d + 5) 19 [.ref 0, .int x, .int y] (xS b, I, L, xP b) (fun rz hz => xQC b I L (nI (N (11 + 4 * i + f))) N u U rz hz) := by
  subst e_x
  subst e_y
  have hO := hK.1
  have hb := hK.1.1
  have c64 : N 0 * N 1 ≤ 64 := xce_le hO
  have c4 : 4 ≤ N 0 * N 1 := xce_ge hO
  obtain ⟨⟨hN0, hN1, hN2, hN3, hN4, hN5, hN6, hN7, hN8, hN9, hN10⟩, hNs, hNw, hNp⟩ := hP.1
  have s5 : (xS b)[15 + i]? = some (11, 4) := xS_15 (by omega)
  refine xw_S xb_19 (l := [.ref 0, .int (nI i), .int (nI f), .float 0]) (Nat.le_of_ble_eq_true rfl) rfl ?_
  refine xw_go xb_19 3 (f1 := (5, [.ref 0, .int (nI i), .int (nI f), .float 0], [.int (nI i), .ref 1])) (h1 := (xS b, I, L, xP b)) rfl ⟨rfl, trivial⟩ ?_
  refine xw_call xb_19 rfl rfl rfl rfl rfl (Or.inr ⟨_, _, rfl, rfl⟩) (c_hasSprinkler (I := I) hN2 (by omega)) ?_
  rintro _ _ ⟨rfl, rfl⟩
  refine xw_at (f' := (8, [.ref 0, .int (nI i), .int (nI f), .float 0], [.int (nI (xB (decide (0 ≤ (nI i).toInt ∧ (nI i).toInt < (N 2 : Int)))))])) (h' := (xS b, I, L, xP b)) rfl rfl ?_
  refine xw_go xb_19 1 (f1 := (if ¬ (nI (xB (decide (0 ≤ (nI i).toInt ∧ (nI i).toInt < (N 2 : Int))))) = 0 then 13 else 11, [.ref 0, .int (nI i), .int (nI f), .float 0], [])) (h1 := (xS b, I, L, xP b)) rfl trivial ?_
  refine xw_if (fun c_8 => ?_) (fun c_8 => ?_)
  · skip
    refine xw_go xb_19 5 (f1 := (22, [.ref 0, .int (nI i), .int (nI f), .float 0], [xm_o (xP b 4 (nI i).toNatClampNeg)])) (h1 := (xS b, I, L, xP b)) rfl ⟨rfl, rfl, (xn_ar (n := i) (N := 5) rfl (by omega) (by decide)), ⟨Nat.le_of_ble_eq_true rfl, Nat.le_of_ble_eq_true rfl⟩, trivial⟩ ?_
    refine xw_cong (l' := [.ref 0, .int (nI i), .int (nI f), .float 0]) (st' := [.ref (15 + i)]) (h' := (xS b, I, L, xP b)) rfl (show ([xm_o (xP b 4 (nI i).toNatClampNeg)] : List Value) = [.ref (15 + i)] from ?_) rfl ?_
    · rw [xn_cl (by omega), xP_4 (by omega)]
      rfl
    refine xw_go xb_19 3 (f1 := (xm_sw [(0, 64), (1, 69), (2, 74), (3, 79), (4, 84), (5, 101)] 114 (nI f), [.ref 0, .int (nI i), .int (nI f), .ref (15 + i)], [])) (h1 := (xS b, I, L, xP b)) rfl trivial ?_
    refine xw_if (fun c_24_0 => ?_) (fun c_24_0 => ?_)
    · skip
      refine xw_go xb_19 2 (f1 := (68, [.ref 0, .int (nI i), .int (nI f), .ref (15 + i)], [.int (I (15 + i) 0)])) (h1 := (xS b, I, L, xP b)) rfl ⟨s5, trivial⟩ ?_
      refine xw_ret xb_19 rfl rfl trivial ?_
      have ef : f = 0 := by
        try simp only [xB_dec, Classical.not_not] at c_24_0
        try simp (disch := omega) only [xt_eq, xt_lt, xt_le, xkt_0, xkt_1, xkt_2, xkt_3, xkt_4, xkt_5, xkt_6, xkt_7, xkt_8, xkt_9, xkt_10, xkt_11, xkt_12, xkt_13, xkt_14, xkt_16, xkt_20, xkt_24, xkt_31, xkt_32, xkt_40, xkt_44, xkt_47, xkt_48, xkt_57, xkt_59, xkt_60, xkt_63, xkt_64, xkt_65, xkt_72, xkt_95, xkt_99, xkt_100, xkt_101, xkt_103, xkt_110, xkt_112, xkt_113, xkt_114, xkt_119, xkt_126, xkt_159, xkt_576, xkt_999, xkt_9999, xkt_65536, xkt_999999, xkt_m1, xkt_m2, xkt_m3, xkt_m4, xkt_m11, xkt_m12, xkt_m13, xkt_m14, xkt_m20, xjt_0, xjt_1, xjt_2, xjt_3, xjt_4, xjt_5, xjt_6, xjt_7, xjt_8, xjt_9, xjt_10, xjt_11, xjt_12, xjt_13, xjt_14, xjt_16, xjt_20, xjt_24, xjt_31, xjt_32, xjt_40, xjt_44, xjt_47, xjt_48, xjt_57, xjt_59, xjt_60, xjt_63, xjt_64, xjt_65, xjt_72, xjt_95, xjt_99, xjt_100, xjt_101, xjt_103, xjt_110, xjt_112, xjt_113, xjt_114, xjt_119, xjt_126, xjt_159, xjt_576, xjt_999, xjt_9999, xjt_65536, xjt_999999, xt64, xt_n, not_true_eq_false, not_false_eq_true, Classical.not_not] at c_24_0
        all_goals omega
      subst ef
      exact ⟨xm_some (congrArg Value.int (hNp i hi 0 (by decide))), I, rfl, xPF_r I, hP⟩
    refine xw_if (fun c_24_1 => ?_) (fun c_24_1 => ?_)
    · skip
      refine xw_go xb_19 2 (f1 := (73, [.ref 0, .int (nI i), .int (nI f), .ref (15 + i)], [.int (I (15 + i) 1)])) (h1 := (xS b, I, L, xP b)) rfl ⟨s5, trivial⟩ ?_
      refine xw_ret xb_19 rfl rfl trivial ?_
      have ef : f = 1 := by
        try simp only [xB_dec, Classical.not_not] at c_24_1
        try simp (disch := omega) only [xt_eq, xt_lt, xt_le, xkt_0, xkt_1, xkt_2, xkt_3, xkt_4, xkt_5, xkt_6, xkt_7, xkt_8, xkt_9, xkt_10, xkt_11, xkt_12, xkt_13, xkt_14, xkt_16, xkt_20, xkt_24, xkt_31, xkt_32, xkt_40, xkt_44, xkt_47, xkt_48, xkt_57, xkt_59, xkt_60, xkt_63, xkt_64, xkt_65, xkt_72, xkt_95, xkt_99, xkt_100, xkt_101, xkt_103, xkt_110, xkt_112, xkt_113, xkt_114, xkt_119, xkt_126, xkt_159, xkt_576, xkt_999, xkt_9999, xkt_65536, xkt_999999, xkt_m1, xkt_m2, xkt_m3, xkt_m4, xkt_m11, xkt_m12, xkt_m13, xkt_m14, xkt_m20, xjt_0, xjt_1, xjt_2, xjt_3, xjt_4, xjt_5, xjt_6, xjt_7, xjt_8, xjt_9, xjt_10, xjt_11, xjt_12, xjt_13, xjt_14, xjt_16, xjt_20, xjt_24, xjt_31, xjt_32, xjt_40, xjt_44, xjt_47, xjt_48, xjt_57, xjt_59, xjt_60, xjt_63, xjt_64, xjt_65, xjt_72, xjt_95, xjt_99, xjt_100, xjt_101, xjt_103, xjt_110, xjt_112, xjt_113, xjt_114, xjt_119, xjt_126, xjt_159, xjt_576, xjt_999, xjt_9999, xjt_65536, xjt_999999, xt64, xt_n, not_true_eq_false, not_false_eq_true, Classical.not_not] at c_24_1
        all_goals omega
      subst ef
      exact ⟨xm_some (congrArg Value.int (hNp i hi 1 (by decide))), I, rfl, xPF_r I, hP⟩
    refine xw_if (fun c_24_2 => ?_) (fun c_24_2 => ?_)
    · skip
      refine xw_go xb_19 2 (f1 := (78, [.ref 0, .int (nI i), .int (nI f), .ref (15 + i)], [.int (I (15 + i) 2)])) (h1 := (xS b, I, L, xP b)) rfl ⟨s5, trivial⟩ ?_
      refine xw_ret xb_19 rfl rfl trivial ?_
      have ef : f = 2 := by
        try simp only [xB_dec, Classical.not_not] at c_24_2
        try simp (disch := omega) only [xt_eq, xt_lt, xt_le, xkt_0, xkt_1, xkt_2, xkt_3, xkt_4, xkt_5, xkt_6, xkt_7, xkt_8, xkt_9, xkt_10, xkt_11, xkt_12, xkt_13, xkt_14, xkt_16, xkt_20, xkt_24, xkt_31, xkt_32, xkt_40, xkt_44, xkt_47, xkt_48, xkt_57, xkt_59, xkt_60, xkt_63, xkt_64, xkt_65, xkt_72, xkt_95, xkt_99, xkt_100, xkt_101, xkt_103, xkt_110, xkt_112, xkt_113, xkt_114, xkt_119, xkt_126, xkt_159, xkt_576, xkt_999, xkt_9999, xkt_65536, xkt_999999, xkt_m1, xkt_m2, xkt_m3, xkt_m4, xkt_m11, xkt_m12, xkt_m13, xkt_m14, xkt_m20, xjt_0, xjt_1, xjt_2, xjt_3, xjt_4, xjt_5, xjt_6, xjt_7, xjt_8, xjt_9, xjt_10, xjt_11, xjt_12, xjt_13, xjt_14, xjt_16, xjt_20, xjt_24, xjt_31, xjt_32, xjt_40, xjt_44, xjt_47, xjt_48, xjt_57, xjt_59, xjt_60, xjt_63, xjt_64, xjt_65, xjt_72, xjt_95, xjt_99, xjt_100, xjt_101, xjt_103, xjt_110, xjt_112, xjt_113, xjt_114, xjt_119, xjt_126, xjt_159, xjt_576, xjt_999, xjt_9999, xjt_65536, xjt_999999, xt64, xt_n, not_true_eq_false, not_false_eq_true, Classical.not_not] at c_24_2
        all_goals omega
      subst ef
      exact ⟨xm_some (congrArg Value.int (hNp i hi 2 (by decide))), I, rfl, xPF_r I, hP⟩
    refine xw_if (fun c_24_3 => ?_) (fun c_24_3 => ?_)
    · skip
      refine xw_go xb_19 2 (f1 := (83, [.ref 0, .int (nI i), .int (nI f), .ref (15 + i)], [.int (I (15 + i) 3)])) (h1 := (xS b, I, L, xP b)) rfl ⟨s5, trivial⟩ ?_
      refine xw_ret xb_19 rfl rfl trivial ?_
      have ef : f = 3 := by
        try simp only [xB_dec, Classical.not_not] at c_24_3
        try simp (disch := omega) only [xt_eq, xt_lt, xt_le, xkt_0, xkt_1, xkt_2, xkt_3, xkt_4, xkt_5, xkt_6, xkt_7, xkt_8, xkt_9, xkt_10, xkt_11, xkt_12, xkt_13, xkt_14, xkt_16, xkt_20, xkt_24, xkt_31, xkt_32, xkt_40, xkt_44, xkt_47, xkt_48, xkt_57, xkt_59, xkt_60, xkt_63, xkt_64, xkt_65, xkt_72, xkt_95, xkt_99, xkt_100, xkt_101, xkt_103, xkt_110, xkt_112, xkt_113, xkt_114, xkt_119, xkt_126, xkt_159, xkt_576, xkt_999, xkt_9999, xkt_65536, xkt_999999, xkt_m1, xkt_m2, xkt_m3, xkt_m4, xkt_m11, xkt_m12, xkt_m13, xkt_m14, xkt_m20, xjt_0, xjt_1, xjt_2, xjt_3, xjt_4, xjt_5, xjt_6, xjt_7, xjt_8, xjt_9, xjt_10, xjt_11, xjt_12, xjt_13, xjt_14, xjt_16, xjt_20, xjt_24, xjt_31, xjt_32, xjt_40, xjt_44, xjt_47, xjt_48, xjt_57, xjt_59, xjt_60, xjt_63, xjt_64, xjt_65, xjt_72, xjt_95, xjt_99, xjt_100, xjt_101, xjt_103, xjt_110, xjt_112, xjt_113, xjt_114, xjt_119, xjt_126, xjt_159, xjt_576, xjt_999, xjt_9999, xjt_65536, xjt_999999, xt64, xt_n, not_true_eq_false, not_false_eq_true, Classical.not_not] at c_24_3
        all_goals omega
      subst ef
      exact ⟨xm_some (congrArg Value.int (hNp i hi 3 (by decide))), I, rfl, xPF_r I, hP⟩
    refine xw_if (fun c_24_4 => ?_) (fun c_24_4 => ?_)
    · skip
      exfalso
      try simp only [xB_dec, Classical.not_not] at c_8 c_24_0 c_24_1 c_24_2 c_24_3 c_24_4
      try simp (disch := omega) only [xt_eq, xt_lt, xt_le, xkt_0, xkt_1, xkt_2, xkt_3, xkt_4, xkt_5, xkt_6, xkt_7, xkt_8, xkt_9, xkt_10, xkt_11, xkt_12, xkt_13, xkt_14, xkt_16, xkt_20, xkt_24, xkt_31, xkt_32, xkt_40, xkt_44, xkt_47, xkt_48, xkt_57, xkt_59, xkt_60, xkt_63, xkt_64, xkt_65, xkt_72, xkt_95, xkt_99, xkt_100, xkt_101, xkt_103, xkt_110, xkt_112, xkt_113, xkt_114, xkt_119, xkt_126, xkt_159, xkt_576, xkt_999, xkt_9999, xkt_65536, xkt_999999, xkt_m1, xkt_m2, xkt_m3, xkt_m4, xkt_m11, xkt_m12, xkt_m13, xkt_m14, xkt_m20, xjt_0, xjt_1, xjt_2, xjt_3, xjt_4, xjt_5, xjt_6, xjt_7, xjt_8, xjt_9, xjt_10, xjt_11, xjt_12, xjt_13, xjt_14, xjt_16, xjt_20, xjt_24, xjt_31, xjt_32, xjt_40, xjt_44, xjt_47, xjt_48, xjt_57, xjt_59, xjt_60, xjt_63, xjt_64, xjt_65, xjt_72, xjt_95, xjt_99, xjt_100, xjt_101, xjt_103, xjt_110, xjt_112, xjt_113, xjt_114, xjt_119, xjt_126, xjt_159, xjt_576, xjt_999, xjt_9999, xjt_65536, xjt_999999, xt64, xt_n, not_true_eq_false, not_false_eq_true, Classical.not_not] at c_8 c_24_0 c_24_1 c_24_2 c_24_3 c_24_4
      all_goals omega
    refine xw_if (fun c_24_5 => ?_) (fun c_24_5 => ?_)
    · skip
      exfalso
      try simp only [xB_dec, Classical.not_not] at c_8 c_24_0 c_24_1 c_24_2 c_24_3 c_24_4 c_24_5
      try simp (disch := omega) only [xt_eq, xt_lt, xt_le, xkt_0, xkt_1, xkt_2, xkt_3, xkt_4, xkt_5, xkt_6, xkt_7, xkt_8, xkt_9, xkt_10, xkt_11, xkt_12, xkt_13, xkt_14, xkt_16, xkt_20, xkt_24, xkt_31, xkt_32, xkt_40, xkt_44, xkt_47, xkt_48, xkt_57, xkt_59, xkt_60, xkt_63, xkt_64, xkt_65, xkt_72, xkt_95, xkt_99, xkt_100, xkt_101, xkt_103, xkt_110, xkt_112, xkt_113, xkt_114, xkt_119, xkt_126, xkt_159, xkt_576, xkt_999, xkt_9999, xkt_65536, xkt_999999, xkt_m1, xkt_m2, xkt_m3, xkt_m4, xkt_m11, xkt_m12, xkt_m13, xkt_m14, xkt_m20, xjt_0, xjt_1, xjt_2, xjt_3, xjt_4, xjt_5, xjt_6, xjt_7, xjt_8, xjt_9, xjt_10, xjt_11, xjt_12, xjt_13, xjt_14, xjt_16, xjt_20, xjt_24, xjt_31, xjt_32, xjt_40, xjt_44, xjt_47, xjt_48, xjt_57, xjt_59, xjt_60, xjt_63, xjt_64, xjt_65, xjt_72, xjt_95, xjt_99, xjt_100, xjt_101, xjt_103, xjt_110, xjt_112, xjt_113, xjt_114, xjt_119, xjt_126, xjt_159, xjt_576, xjt_999, xjt_9999, xjt_65536, xjt_999999, xt64, xt_n, not_true_eq_false, not_false_eq_true, Classical.not_not] at c_8 c_24_0 c_24_1 c_24_2 c_24_3 c_24_4 c_24_5
      all_goals omega
    refine xw_at (f' := (114, [.ref 0, .int (nI i), .int (nI f), .ref (15 + i)], [])) (h' := (xS b, I, L, xP b)) rfl rfl ?_
    exfalso
    try simp only [xB_dec, Classical.not_not] at c_8 c_24_0 c_24_1 c_24_2 c_24_3 c_24_4 c_24_5
    try simp (disch := omega) only [xt_eq, xt_lt, xt_le, xkt_0, xkt_1, xkt_2, xkt_3, xkt_4, xkt_5, xkt_6, xkt_7, xkt_8, xkt_9, xkt_10, xkt_11, xkt_12, xkt_13, xkt_14, xkt_16, xkt_20, xkt_24, xkt_31, xkt_32, xkt_40, xkt_44, xkt_47, xkt_48, xkt_57, xkt_59, xkt_60, xkt_63, xkt_64, xkt_65, xkt_72, xkt_95, xkt_99, xkt_100, xkt_101, xkt_103, xkt_110, xkt_112, xkt_113, xkt_114, xkt_119, xkt_126, xkt_159, xkt_576, xkt_999, xkt_9999, xkt_65536, xkt_999999, xkt_m1, xkt_m2, xkt_m3, xkt_m4, xkt_m11, xkt_m12, xkt_m13, xkt_m14, xkt_m20, xjt_0, xjt_1, xjt_2, xjt_3, xjt_4, xjt_5, xjt_6, xjt_7, xjt_8, xjt_9, xjt_10, xjt_11, xjt_12, xjt_13, xjt_14, xjt_16, xjt_20, xjt_24, xjt_31, xjt_32, xjt_40, xjt_44, xjt_47, xjt_48, xjt_57, xjt_59, xjt_60, xjt_63, xjt_64, xjt_65, xjt_72, xjt_95, xjt_99, xjt_100, xjt_101, xjt_103, xjt_110, xjt_112, xjt_113, xjt_114, xjt_119, xjt_126, xjt_159, xjt_576, xjt_999, xjt_9999, xjt_65536, xjt_999999, xt64, xt_n, not_true_eq_false, not_false_eq_true, Classical.not_not] at c_8 c_24_0 c_24_1 c_24_2 c_24_3 c_24_4 c_24_5
    all_goals omega
  · skip
    exfalso
    try simp only [xB_dec, Classical.not_not] at c_8
    try simp (disch := omega) only [xt_eq, xt_lt, xt_le, xkt_0, xkt_1, xkt_2, xkt_3, xkt_4, xkt_5, xkt_6, xkt_7, xkt_8, xkt_9, xkt_10, xkt_11, xkt_12, xkt_13, xkt_14, xkt_16, xkt_20, xkt_24, xkt_31, xkt_32, xkt_40, xkt_44, xkt_47, xkt_48, xkt_57, xkt_59, xkt_60, xkt_63, xkt_64, xkt_65, xkt_72, xkt_95, xkt_99, xkt_100, xkt_101, xkt_103, xkt_110, xkt_112, xkt_113, xkt_114, xkt_119, xkt_126, xkt_159, xkt_576, xkt_999, xkt_9999, xkt_65536, xkt_999999, xkt_m1, xkt_m2, xkt_m3, xkt_m4, xkt_m11, xkt_m12, xkt_m13, xkt_m14, xkt_m20, xjt_0, xjt_1, xjt_2, xjt_3, xjt_4, xjt_5, xjt_6, xjt_7, xjt_8, xjt_9, xjt_10, xjt_11, xjt_12, xjt_13, xjt_14, xjt_16, xjt_20, xjt_24, xjt_31, xjt_32, xjt_40, xjt_44, xjt_47, xjt_48, xjt_57, xjt_59, xjt_60, xjt_63, xjt_64, xjt_65, xjt_72, xjt_95, xjt_99, xjt_100, xjt_101, xjt_103, xjt_110, xjt_112, xjt_113, xjt_114, xjt_119, xjt_126, xjt_159, xjt_576, xjt_999, xjt_9999, xjt_65536, xjt_999999, xt64, xt_n, not_true_eq_false, not_false_eq_true, Classical.not_not] at c_8
    all_goals omega

theorem c_of4 {d : Nat} {b : Bool} {I : Nat → Nat → Int32} {L : Nat → Nat → Int64} {N : Nat → Nat} {u : Nat} {U : Nat → Nat → Nat} (hP : xPL N u U 1 I) (hK : xUK N u U) {i : Nat} (hi : i < N 2) {x : Int32} (e_x : x = nI i) {y : Int32} (e_y : y = nI 4) : xm_Z (d + 5) 19 [.ref 0, .int x, .int y] (xS b, I, L, xP b) (fun rz hz => xQC b I L (nI (xB ((N 3).testBit i))) N u U rz hz) := by
  subst e_x
  subst e_y
  have hO := hK.1
  have hb := hK.1.1
  have c64 : N 0 * N 1 ≤ 64 := xce_le hO
  have c4 : 4 ≤ N 0 * N 1 := xce_ge hO
  obtain ⟨⟨hN0, hN1, hN2, hN3, hN4, hN5, hN6, hN7, hN8, hN9, hN10⟩, hNs, hNw, hNp⟩ := hP.1
  refine xw_S xb_19 (l := [.ref 0, .int (nI i), .int (nI 4), .float 0]) (Nat.le_of_ble_eq_true rfl) rfl ?_
  refine xw_go xb_19 3 (f1 := (5, [.ref 0, .int (nI i), .int (nI 4), .float 0], [.int (nI i), .ref 1])) (h1 := (xS b, I, L, xP b)) rfl ⟨rfl, trivial⟩ ?_
  refine xw_call xb_19 rfl rfl rfl rfl rfl (Or.inr ⟨_, _, rfl, rfl⟩) (c_hasSprinkler (I := I) hN2 (by omega)) ?_
  rintro _ _ ⟨rfl, rfl⟩
  refine xw_at (f' := (8, [.ref 0, .int (nI i), .int (nI 4), .float 0], [.int (nI (xB (decide (0 ≤ (nI i).toInt ∧ (nI i).toInt < (N 2 : Int)))))])) (h' := (xS b, I, L, xP b)) rfl rfl ?_
  refine xw_go xb_19 1 (f1 := (if ¬ (nI (xB (decide (0 ≤ (nI i).toInt ∧ (nI i).toInt < (N 2 : Int))))) = 0 then 13 else 11, [.ref 0, .int (nI i), .int (nI 4), .float 0], [])) (h1 := (xS b, I, L, xP b)) rfl trivial ?_
  refine xw_if (fun c_8 => ?_) (fun c_8 => ?_)
  · skip
    refine xw_go xb_19 5 (f1 := (22, [.ref 0, .int (nI i), .int (nI 4), .float 0], [xm_o (xP b 4 (nI i).toNatClampNeg)])) (h1 := (xS b, I, L, xP b)) rfl ⟨rfl, rfl, (xn_ar (n := i) (N := 5) rfl (by omega) (by decide)), ⟨Nat.le_of_ble_eq_true rfl, Nat.le_of_ble_eq_true rfl⟩, trivial⟩ ?_
    refine xw_cong (l' := [.ref 0, .int (nI i), .int (nI 4), .float 0]) (st' := [.ref (15 + i)]) (h' := (xS b, I, L, xP b)) rfl (show ([xm_o (xP b 4 (nI i).toNatClampNeg)] : List Value) = [.ref (15 + i)] from ?_) rfl ?_
    · rw [xn_cl (by omega), xP_4 (by omega)]
      rfl
    refine xw_go xb_19 3 (f1 := (xm_sw [(0, 64), (1, 69), (2, 74), (3, 79), (4, 84), (5, 101)] 114 (nI 4), [.ref 0, .int (nI i), .int (nI 4), .ref (15 + i)], [])) (h1 := (xS b, I, L, xP b)) rfl trivial ?_
    refine xw_if (fun c_24_0 => ?_) (fun c_24_0 => ?_)
    · skip
      exfalso
      try simp only [xB_dec, Classical.not_not] at c_8 c_24_0
      try simp (disch := omega) only [xt_eq, xt_lt, xt_le, xkt_0, xkt_1, xkt_2, xkt_3, xkt_4, xkt_5, xkt_6, xkt_7, xkt_8, xkt_9, xkt_10, xkt_11, xkt_12, xkt_13, xkt_14, xkt_16, xkt_20, xkt_24, xkt_31, xkt_32, xkt_40, xkt_44, xkt_47, xkt_48, xkt_57, xkt_59, xkt_60, xkt_63, xkt_64, xkt_65, xkt_72, xkt_95, xkt_99, xkt_100, xkt_101, xkt_103, xkt_110, xkt_112, xkt_113, xkt_114, xkt_119, xkt_126, xkt_159, xkt_576, xkt_999, xkt_9999, xkt_65536, xkt_999999, xkt_m1, xkt_m2, xkt_m3, xkt_m4, xkt_m11, xkt_m12, xkt_m13, xkt_m14, xkt_m20, xjt_0, xjt_1, xjt_2, xjt_3, xjt_4, xjt_5, xjt_6, xjt_7, xjt_8, xjt_9, xjt_10, xjt_11, xjt_12, xjt_13, xjt_14, xjt_16, xjt_20, xjt_24, xjt_31, xjt_32, xjt_40, xjt_44, xjt_47, xjt_48, xjt_57, xjt_59, xjt_60, xjt_63, xjt_64, xjt_65, xjt_72, xjt_95, xjt_99, xjt_100, xjt_101, xjt_103, xjt_110, xjt_112, xjt_113, xjt_114, xjt_119, xjt_126, xjt_159, xjt_576, xjt_999, xjt_9999, xjt_65536, xjt_999999, xt64, xt_n, not_true_eq_false, not_false_eq_true, Classical.not_not] at c_8 c_24_0
      all_goals omega
    refine xw_if (fun c_24_1 => ?_) (fun c_24_1 => ?_)
    · skip
      exfalso
      try simp only [xB_dec, Classical.not_not] at c_8 c_24_0 c_24_1
      try simp (disch := omega) only [xt_eq, xt_lt, xt_le, xkt_0, xkt_1, xkt_2, xkt_3, xkt_4, xkt_5, xkt_6, xkt_7, xkt_8, xkt_9, xkt_10, xkt_11, xkt_12, xkt_13, xkt_14, xkt_16, xkt_20, xkt_24, xkt_31, xkt_32, xkt_40, xkt_44, xkt_47, xkt_48, xkt_57, xkt_59, xkt_60, xkt_63, xkt_64, xkt_65, xkt_72, xkt_95, xkt_99, xkt_100, xkt_101, xkt_103, xkt_110, xkt_112, xkt_113, xkt_114, xkt_119, xkt_126, xkt_159, xkt_576, xkt_999, xkt_9999, xkt_65536, xkt_999999, xkt_m1, xkt_m2, xkt_m3, xkt_m4, xkt_m11, xkt_m12, xkt_m13, xkt_m14, xkt_m20, xjt_0, xjt_1, xjt_2, xjt_3, xjt_4, xjt_5, xjt_6, xjt_7, xjt_8, xjt_9, xjt_10, xjt_11, xjt_12, xjt_13, xjt_14, xjt_16, xjt_20, xjt_24, xjt_31, xjt_32, xjt_40, xjt_44, xjt_47, xjt_48, xjt_57, xjt_59, xjt_60, xjt_63, xjt_64, xjt_65, xjt_72, xjt_95, xjt_99, xjt_100, xjt_101, xjt_103, xjt_110, xjt_112, xjt_113, xjt_114, xjt_119, xjt_126, xjt_159, xjt_576, xjt_999, xjt_9999, xjt_65536, xjt_999999, xt64, xt_n, not_true_eq_false, not_false_eq_true, Classical.not_not] at c_8 c_24_0 c_24_1
      all_goals omega
    refine xw_if (fun c_24_2 => ?_) (fun c_24_2 => ?_)
    · skip
      exfalso
      try simp only [xB_dec, Classical.not_not] at c_8 c_24_0 c_24_1 c_24_2
      try simp (disch := omega) only [xt_eq, xt_lt, xt_le, xkt_0, xkt_1, xkt_2, xkt_3, xkt_4, xkt_5, xkt_6, xkt_7, xkt_8, xkt_9, xkt_10, xkt_11, xkt_12, xkt_13, xkt_14, xkt_16, xkt_20, xkt_24, xkt_31, xkt_32, xkt_40, xkt_44, xkt_47, xkt_48, xkt_57, xkt_59, xkt_60, xkt_63, xkt_64, xkt_65, xkt_72, xkt_95, xkt_99, xkt_100, xkt_101, xkt_103, xkt_110, xkt_112, xkt_113, xkt_114, xkt_119, xkt_126, xkt_159, xkt_576, xkt_999, xkt_9999, xkt_65536, xkt_999999, xkt_m1, xkt_m2, xkt_m3, xkt_m4, xkt_m11, xkt_m12, xkt_m13, xkt_m14, xkt_m20, xjt_0, xjt_1, xjt_2, xjt_3, xjt_4, xjt_5, xjt_6, xjt_7, xjt_8, xjt_9, xjt_10, xjt_11, xjt_12, xjt_13, xjt_14, xjt_16, xjt_20, xjt_24, xjt_31, xjt_32, xjt_40, xjt_44, xjt_47, xjt_48, xjt_57, xjt_59, xjt_60, xjt_63, xjt_64, xjt_65, xjt_72, xjt_95, xjt_99, xjt_100, xjt_101, xjt_103, xjt_110, xjt_112, xjt_113, xjt_114, xjt_119, xjt_126, xjt_159, xjt_576, xjt_999, xjt_9999, xjt_65536, xjt_999999, xt64, xt_n, not_true_eq_false, not_false_eq_true, Classical.not_not] at c_8 c_24_0 c_24_1 c_24_2
      all_goals omega
    refine xw_if (fun c_24_3 => ?_) (fun c_24_3 => ?_)
    · skip
      exfalso
      try simp only [xB_dec, Classical.not_not] at c_8 c_24_0 c_24_1 c_24_2 c_24_3
      try simp (disch := omega) only [xt_eq, xt_lt, xt_le, xkt_0, xkt_1, xkt_2, xkt_3, xkt_4, xkt_5, xkt_6, xkt_7, xkt_8, xkt_9, xkt_10, xkt_11, xkt_12, xkt_13, xkt_14, xkt_16, xkt_20, xkt_24, xkt_31, xkt_32, xkt_40, xkt_44, xkt_47, xkt_48, xkt_57, xkt_59, xkt_60, xkt_63, xkt_64, xkt_65, xkt_72, xkt_95, xkt_99, xkt_100, xkt_101, xkt_103, xkt_110, xkt_112, xkt_113, xkt_114, xkt_119, xkt_126, xkt_159, xkt_576, xkt_999, xkt_9999, xkt_65536, xkt_999999, xkt_m1, xkt_m2, xkt_m3, xkt_m4, xkt_m11, xkt_m12, xkt_m13, xkt_m14, xkt_m20, xjt_0, xjt_1, xjt_2, xjt_3, xjt_4, xjt_5, xjt_6, xjt_7, xjt_8, xjt_9, xjt_10, xjt_11, xjt_12, xjt_13, xjt_14, xjt_16, xjt_20, xjt_24, xjt_31, xjt_32, xjt_40, xjt_44, xjt_47, xjt_48, xjt_57, xjt_59, xjt_60, xjt_63, xjt_64, xjt_65, xjt_72, xjt_95, xjt_99, xjt_100, xjt_101, xjt_103, xjt_110, xjt_112, xjt_113, xjt_114, xjt_119, xjt_126, xjt_159, xjt_576, xjt_999, xjt_9999, xjt_65536, xjt_999999, xt64, xt_n, not_true_eq_false, not_false_eq_true, Classical.not_not] at c_8 c_24_0 c_24_1 c_24_2 c_24_3
      all_goals omega
    refine xw_if (fun c_24_4 => ?_) (fun c_24_4 => ?_)
    · skip
      refine xw_go xb_19 3 (f1 := (89, [.ref 0, .int (nI i), .int (nI 4), .ref (15 + i)], [.int (nI i), .ref 1])) (h1 := (xS b, I, L, xP b)) rfl ⟨rfl, trivial⟩ ?_
      refine xw_call xb_19 rfl rfl rfl rfl rfl (Or.inr ⟨_, _, rfl, rfl⟩) (c_isOn (I := I) hN3 (xOn32 hO) (i := i) (by omega) rfl) ?_
      rintro _ _ ⟨rfl, rfl⟩
      refine xw_at (f' := (92, [.ref 0, .int (nI i), .int (nI 4), .ref (15 + i)], [.int (nI (xB ((N 3).testBit i)))])) (h' := (xS b, I, L, xP b)) rfl rfl ?_
      refine xw_go xb_19 1 (f1 := (if (nI (xB ((N 3).testBit i))) = 0 then 99 else 95, [.ref 0, .int (nI i), .int (nI 4), .ref (15 + i)], [])) (h1 := (xS b, I, L, xP b)) rfl trivial ?_
      refine xw_if (fun c_92 => ?_) (fun c_92 => ?_)
      · skip
        refine xw_go xb_19 1 (f1 := (100, [.ref 0, .int (nI i), .int (nI 4), .ref (15 + i)], [.int 0])) (h1 := (xS b, I, L, xP b)) rfl trivial ?_
        refine xw_ret xb_19 rfl rfl trivial ?_
        simp only [xB_eq0] at c_92
        first | (rw [c_92]; exact xQC_same hP) | (rw [show (N 3).testBit i = true by simpa using c_92]; exact xQC_same hP)
      · skip
        refine xw_go xb_19 2 (f1 := (100, [.ref 0, .int (nI i), .int (nI 4), .ref (15 + i)], [.int 1])) (h1 := (xS b, I, L, xP b)) rfl trivial ?_
        refine xw_ret xb_19 rfl rfl trivial ?_
        simp only [xB_eq0] at c_92
        first | (rw [c_92]; exact xQC_same hP) | (rw [show (N 3).testBit i = true by simpa using c_92]; exact xQC_same hP)
    refine xw_if (fun c_24_5 => ?_) (fun c_24_5 => ?_)
    · skip
      exfalso
      try simp only [xB_dec, Classical.not_not] at c_8 c_24_0 c_24_1 c_24_2 c_24_3 c_24_4 c_24_5
      try simp (disch := omega) only [xt_eq, xt_lt, xt_le, xkt_0, xkt_1, xkt_2, xkt_3, xkt_4, xkt_5, xkt_6, xkt_7, xkt_8, xkt_9, xkt_10, xkt_11, xkt_12, xkt_13, xkt_14, xkt_16, xkt_20, xkt_24, xkt_31, xkt_32, xkt_40, xkt_44, xkt_47, xkt_48, xkt_57, xkt_59, xkt_60, xkt_63, xkt_64, xkt_65, xkt_72, xkt_95, xkt_99, xkt_100, xkt_101, xkt_103, xkt_110, xkt_112, xkt_113, xkt_114, xkt_119, xkt_126, xkt_159, xkt_576, xkt_999, xkt_9999, xkt_65536, xkt_999999, xkt_m1, xkt_m2, xkt_m3, xkt_m4, xkt_m11, xkt_m12, xkt_m13, xkt_m14, xkt_m20, xjt_0, xjt_1, xjt_2, xjt_3, xjt_4, xjt_5, xjt_6, xjt_7, xjt_8, xjt_9, xjt_10, xjt_11, xjt_12, xjt_13, xjt_14, xjt_16, xjt_20, xjt_24, xjt_31, xjt_32, xjt_40, xjt_44, xjt_47, xjt_48, xjt_57, xjt_59, xjt_60, xjt_63, xjt_64, xjt_65, xjt_72, xjt_95, xjt_99, xjt_100, xjt_101, xjt_103, xjt_110, xjt_112, xjt_113, xjt_114, xjt_119, xjt_126, xjt_159, xjt_576, xjt_999, xjt_9999, xjt_65536, xjt_999999, xt64, xt_n, not_true_eq_false, not_false_eq_true, Classical.not_not] at c_8 c_24_0 c_24_1 c_24_2 c_24_3 c_24_4 c_24_5
      all_goals omega
    refine xw_at (f' := (114, [.ref 0, .int (nI i), .int (nI 4), .ref (15 + i)], [])) (h' := (xS b, I, L, xP b)) rfl rfl ?_
    exfalso
    try simp only [xB_dec, Classical.not_not] at c_8 c_24_0 c_24_1 c_24_2 c_24_3 c_24_4 c_24_5
    try simp (disch := omega) only [xt_eq, xt_lt, xt_le, xkt_0, xkt_1, xkt_2, xkt_3, xkt_4, xkt_5, xkt_6, xkt_7, xkt_8, xkt_9, xkt_10, xkt_11, xkt_12, xkt_13, xkt_14, xkt_16, xkt_20, xkt_24, xkt_31, xkt_32, xkt_40, xkt_44, xkt_47, xkt_48, xkt_57, xkt_59, xkt_60, xkt_63, xkt_64, xkt_65, xkt_72, xkt_95, xkt_99, xkt_100, xkt_101, xkt_103, xkt_110, xkt_112, xkt_113, xkt_114, xkt_119, xkt_126, xkt_159, xkt_576, xkt_999, xkt_9999, xkt_65536, xkt_999999, xkt_m1, xkt_m2, xkt_m3, xkt_m4, xkt_m11, xkt_m12, xkt_m13, xkt_m14, xkt_m20, xjt_0, xjt_1, xjt_2, xjt_3, xjt_4, xjt_5, xjt_6, xjt_7, xjt_8, xjt_9, xjt_10, xjt_11, xjt_12, xjt_13, xjt_14, xjt_16, xjt_20, xjt_24, xjt_31, xjt_32, xjt_40, xjt_44, xjt_47, xjt_48, xjt_57, xjt_59, xjt_60, xjt_63, xjt_64, xjt_65, xjt_72, xjt_95, xjt_99, xjt_100, xjt_101, xjt_103, xjt_110, xjt_112, xjt_113, xjt_114, xjt_119, xjt_126, xjt_159, xjt_576, xjt_999, xjt_9999, xjt_65536, xjt_999999, xt64, xt_n, not_true_eq_false, not_false_eq_true, Classical.not_not] at c_8 c_24_0 c_24_1 c_24_2 c_24_3 c_24_4 c_24_5
    all_goals omega
  · skip
    exfalso
    try simp only [xB_dec, Classical.not_not] at c_8
    try simp (disch := omega) only [xt_eq, xt_lt, xt_le, xkt_0, xkt_1, xkt_2, xkt_3, xkt_4, xkt_5, xkt_6, xkt_7, xkt_8, xkt_9, xkt_10, xkt_11, xkt_12, xkt_13, xkt_14, xkt_16, xkt_20, xkt_24, xkt_31, xkt_32, xkt_40, xkt_44, xkt_47, xkt_48, xkt_57, xkt_59, xkt_60, xkt_63, xkt_64, xkt_65, xkt_72, xkt_95, xkt_99, xkt_100, xkt_101, xkt_103, xkt_110, xkt_112, xkt_113, xkt_114, xkt_119, xkt_126, xkt_159, xkt_576, xkt_999, xkt_9999, xkt_65536, xkt_999999, xkt_m1, xkt_m2, xkt_m3, xkt_m4, xkt_m11, xkt_m12, xkt_m13, xkt_m14, xkt_m20, xjt_0, xjt_1, xjt_2, xjt_3, xjt_4, xjt_5, xjt_6, xjt_7, xjt_8, xjt_9, xjt_10, xjt_11, xjt_12, xjt_13, xjt_14, xjt_16, xjt_20, xjt_24, xjt_31, xjt_32, xjt_40, xjt_44, xjt_47, xjt_48, xjt_57, xjt_59, xjt_60, xjt_63, xjt_64, xjt_65, xjt_72, xjt_95, xjt_99, xjt_100, xjt_101, xjt_103, xjt_110, xjt_112, xjt_113, xjt_114, xjt_119, xjt_126, xjt_159, xjt_576, xjt_999, xjt_9999, xjt_65536, xjt_999999, xt64, xt_n, not_true_eq_false, not_false_eq_true, Classical.not_not] at c_8
    all_goals omega

theorem c_of5 {d : Nat} {b : Bool} {I : Nat → Nat → Int32} {L : Nat → Nat → Int64} {N : Nat → Nat} {u : Nat} {U : Nat → Nat → Nat} (hP : xPL N u U 1 I) (hK : xUK N u U) {i : Nat} (hi : i < N 2) {x : Int32} (e_x : x = nI i) {y : Int32} (e_y : y = nI 5) : xm_Z (d + 5) 19 [.ref 0, .int x, .int y] (xS b, I, L, xP b) (fun rz hz => xQC b I L (nI (xsum (fun c => xth N i (c / N 1) (c % N 1)) (N 0 * N 1))) N u U rz hz) := by
  subst e_x
  subst e_y
  have hO := hK.1
  have hb := hK.1.1
  have c64 : N 0 * N 1 ≤ 64 := xce_le hO
  have c4 : 4 ≤ N 0 * N 1 := xce_ge hO
  obtain ⟨⟨hN0, hN1, hN2, hN3, hN4, hN5, hN6, hN7, hN8, hN9, hN10⟩, hNs, hNw, hNp⟩ := hP.1
  refine xw_S xb_19 (l := [.ref 0, .int (nI i), .int (nI 5), .float 0]) (Nat.le_of_ble_eq_true rfl) rfl ?_
  refine xw_go xb_19 3 (f1 := (5, [.ref 0, .int (nI i), .int (nI 5), .float 0], [.int (nI i), .ref 1])) (h1 := (xS b, I, L, xP b)) rfl ⟨rfl, trivial⟩ ?_
  refine xw_call xb_19 rfl rfl rfl rfl rfl (Or.inr ⟨_, _, rfl, rfl⟩) (c_hasSprinkler (I := I) hN2 (by omega)) ?_
  rintro _ _ ⟨rfl, rfl⟩
  refine xw_at (f' := (8, [.ref 0, .int (nI i), .int (nI 5), .float 0], [.int (nI (xB (decide (0 ≤ (nI i).toInt ∧ (nI i).toInt < (N 2 : Int)))))])) (h' := (xS b, I, L, xP b)) rfl rfl ?_
  refine xw_go xb_19 1 (f1 := (if ¬ (nI (xB (decide (0 ≤ (nI i).toInt ∧ (nI i).toInt < (N 2 : Int))))) = 0 then 13 else 11, [.ref 0, .int (nI i), .int (nI 5), .float 0], [])) (h1 := (xS b, I, L, xP b)) rfl trivial ?_
  refine xw_if (fun c_8 => ?_) (fun c_8 => ?_)
  · skip
    refine xw_go xb_19 5 (f1 := (22, [.ref 0, .int (nI i), .int (nI 5), .float 0], [xm_o (xP b 4 (nI i).toNatClampNeg)])) (h1 := (xS b, I, L, xP b)) rfl ⟨rfl, rfl, (xn_ar (n := i) (N := 5) rfl (by omega) (by decide)), ⟨Nat.le_of_ble_eq_true rfl, Nat.le_of_ble_eq_true rfl⟩, trivial⟩ ?_
    refine xw_cong (l' := [.ref 0, .int (nI i), .int (nI 5), .float 0]) (st' := [.ref (15 + i)]) (h' := (xS b, I, L, xP b)) rfl (show ([xm_o (xP b 4 (nI i).toNatClampNeg)] : List Value) = [.ref (15 + i)] from ?_) rfl ?_
    · rw [xn_cl (by omega), xP_4 (by omega)]
      rfl
    refine xw_go xb_19 3 (f1 := (xm_sw [(0, 64), (1, 69), (2, 74), (3, 79), (4, 84), (5, 101)] 114 (nI 5), [.ref 0, .int (nI i), .int (nI 5), .ref (15 + i)], [])) (h1 := (xS b, I, L, xP b)) rfl trivial ?_
    refine xw_if (fun c_24_0 => ?_) (fun c_24_0 => ?_)
    · skip
      exfalso
      try simp only [xB_dec, Classical.not_not] at c_8 c_24_0
      try simp (disch := omega) only [xt_eq, xt_lt, xt_le, xkt_0, xkt_1, xkt_2, xkt_3, xkt_4, xkt_5, xkt_6, xkt_7, xkt_8, xkt_9, xkt_10, xkt_11, xkt_12, xkt_13, xkt_14, xkt_16, xkt_20, xkt_24, xkt_31, xkt_32, xkt_40, xkt_44, xkt_47, xkt_48, xkt_57, xkt_59, xkt_60, xkt_63, xkt_64, xkt_65, xkt_72, xkt_95, xkt_99, xkt_100, xkt_101, xkt_103, xkt_110, xkt_112, xkt_113, xkt_114, xkt_119, xkt_126, xkt_159, xkt_576, xkt_999, xkt_9999, xkt_65536, xkt_999999, xkt_m1, xkt_m2, xkt_m3, xkt_m4, xkt_m11, xkt_m12, xkt_m13, xkt_m14, xkt_m20, xjt_0, xjt_1, xjt_2, xjt_3, xjt_4, xjt_5, xjt_6, xjt_7, xjt_8, xjt_9, xjt_10, xjt_11, xjt_12, xjt_13, xjt_14, xjt_16, xjt_20, xjt_24, xjt_31, xjt_32, xjt_40, xjt_44, xjt_47, xjt_48, xjt_57, xjt_59, xjt_60, xjt_63, xjt_64, xjt_65, xjt_72, xjt_95, xjt_99, xjt_100, xjt_101, xjt_103, xjt_110, xjt_112, xjt_113, xjt_114, xjt_119, xjt_126, xjt_159, xjt_576, xjt_999, xjt_9999, xjt_65536, xjt_999999, xt64, xt_n, not_true_eq_false, not_false_eq_true, Classical.not_not] at c_8 c_24_0
      all_goals omega
    refine xw_if (fun c_24_1 => ?_) (fun c_24_1 => ?_)
    · skip
      exfalso
      try simp only [xB_dec, Classical.not_not] at c_8 c_24_0 c_24_1
      try simp (disch := omega) only [xt_eq, xt_lt, xt_le, xkt_0, xkt_1, xkt_2, xkt_3, xkt_4, xkt_5, xkt_6, xkt_7, xkt_8, xkt_9, xkt_10, xkt_11, xkt_12, xkt_13, xkt_14, xkt_16, xkt_20, xkt_24, xkt_31, xkt_32, xkt_40, xkt_44, xkt_47, xkt_48, xkt_57, xkt_59, xkt_60, xkt_63, xkt_64, xkt_65, xkt_72, xkt_95, xkt_99, xkt_100, xkt_101, xkt_103, xkt_110, xkt_112, xkt_113, xkt_114, xkt_119, xkt_126, xkt_159, xkt_576, xkt_999, xkt_9999, xkt_65536, xkt_999999, xkt_m1, xkt_m2, xkt_m3, xkt_m4, xkt_m11, xkt_m12, xkt_m13, xkt_m14, xkt_m20, xjt_0, xjt_1, xjt_2, xjt_3, xjt_4, xjt_5, xjt_6, xjt_7, xjt_8, xjt_9, xjt_10, xjt_11, xjt_12, xjt_13, xjt_14, xjt_16, xjt_20, xjt_24, xjt_31, xjt_32, xjt_40, xjt_44, xjt_47, xjt_48, xjt_57, xjt_59, xjt_60, xjt_63, xjt_64, xjt_65, xjt_72, xjt_95, xjt_99, xjt_100, xjt_101, xjt_103, xjt_110, xjt_112, xjt_113, xjt_114, xjt_119, xjt_126, xjt_159, xjt_576, xjt_999, xjt_9999, xjt_65536, xjt_999999, xt64, xt_n, not_true_eq_false, not_false_eq_true, Classical.not_not] at c_8 c_24_0 c_24_1
      all_goals omega
    refine xw_if (fun c_24_2 => ?_) (fun c_24_2 => ?_)
    · skip
      exfalso
      try simp only [xB_dec, Classical.not_not] at c_8 c_24_0 c_24_1 c_24_2
      try simp (disch := omega) only [xt_eq, xt_lt, xt_le, xkt_0, xkt_1, xkt_2, xkt_3, xkt_4, xkt_5, xkt_6, xkt_7, xkt_8, xkt_9, xkt_10, xkt_11, xkt_12, xkt_13, xkt_14, xkt_16, xkt_20, xkt_24, xkt_31, xkt_32, xkt_40, xkt_44, xkt_47, xkt_48, xkt_57, xkt_59, xkt_60, xkt_63, xkt_64, xkt_65, xkt_72, xkt_95, xkt_99, xkt_100, xkt_101, xkt_103, xkt_110, xkt_112, xkt_113, xkt_114, xkt_119, xkt_126, xkt_159, xkt_576, xkt_999, xkt_9999, xkt_65536, xkt_999999, xkt_m1, xkt_m2, xkt_m3, xkt_m4, xkt_m11, xkt_m12, xkt_m13, xkt_m14, xkt_m20, xjt_0, xjt_1, xjt_2, xjt_3, xjt_4, xjt_5, xjt_6, xjt_7, xjt_8, xjt_9, xjt_10, xjt_11, xjt_12, xjt_13, xjt_14, xjt_16, xjt_20, xjt_24, xjt_31, xjt_32, xjt_40, xjt_44, xjt_47, xjt_48, xjt_57, xjt_59, xjt_60, xjt_63, xjt_64, xjt_65, xjt_72, xjt_95, xjt_99, xjt_100, xjt_101, xjt_103, xjt_110, xjt_112, xjt_113, xjt_114, xjt_119, xjt_126, xjt_159, xjt_576, xjt_999, xjt_9999, xjt_65536, xjt_999999, xt64, xt_n, not_true_eq_false, not_false_eq_true, Classical.not_not] at c_8 c_24_0 c_24_1 c_24_2
      all_goals omega
    refine xw_if (fun c_24_3 => ?_) (fun c_24_3 => ?_)
    · skip
      exfalso
      try simp only [xB_dec, Classical.not_not] at c_8 c_24_0 c_24_1 c_24_2 c_24_3
      try simp (disch := omega) only [xt_eq, xt_lt, xt_le, xkt_0, xkt_1, xkt_2, xkt_3, xkt_4, xkt_5, xkt_6, xkt_7, xkt_8, xkt_9, xkt_10, xkt_11, xkt_12, xkt_13, xkt_14, xkt_16, xkt_20, xkt_24, xkt_31, xkt_32, xkt_40, xkt_44, xkt_47, xkt_48, xkt_57, xkt_59, xkt_60, xkt_63, xkt_64, xkt_65, xkt_72, xkt_95, xkt_99, xkt_100, xkt_101, xkt_103, xkt_110, xkt_112, xkt_113, xkt_114, xkt_119, xkt_126, xkt_159, xkt_576, xkt_999, xkt_9999, xkt_65536, xkt_999999, xkt_m1, xkt_m2, xkt_m3, xkt_m4, xkt_m11, xkt_m12, xkt_m13, xkt_m14, xkt_m20, xjt_0, xjt_1, xjt_2, xjt_3, xjt_4, xjt_5, xjt_6, xjt_7, xjt_8, xjt_9, xjt_10, xjt_11, xjt_12, xjt_13, xjt_14, xjt_16, xjt_20, xjt_24, xjt_31, xjt_32, xjt_40, xjt_44, xjt_47, xjt_48, xjt_57, xjt_59, xjt_60, xjt_63, xjt_64, xjt_65, xjt_72, xjt_95, xjt_99, xjt_100, xjt_101, xjt_103, xjt_110, xjt_112, xjt_113, xjt_114, xjt_119, xjt_126, xjt_159, xjt_576, xjt_999, xjt_9999, xjt_65536, xjt_999999, xt64, xt_n, not_true_eq_false, not_false_eq_true, Classical.not_not] at c_8 c_24_0 c_24_1 c_24_2 c_24_3
      all_goals omega
    refine xw_if (fun c_24_4 => ?_) (fun c_24_4 => ?_)
    · skip
      exfalso
      try simp only [xB_dec, Classical.not_not] at c_8 c_24_0 c_24_1 c_24_2 c_24_3 c_24_4
      try simp (disch := omega) only [xt_eq, xt_lt, xt_le, xkt_0, xkt_1, xkt_2, xkt_3, xkt_4, xkt_5, xkt_6, xkt_7, xkt_8, xkt_9, xkt_10, xkt_11, xkt_12, xkt_13, xkt_14, xkt_16, xkt_20, xkt_24, xkt_31, xkt_32, xkt_40, xkt_44, xkt_47, xkt_48, xkt_57, xkt_59, xkt_60, xkt_63, xkt_64, xkt_65, xkt_72, xkt_95, xkt_99, xkt_100, xkt_101, xkt_103, xkt_110, xkt_112, xkt_113, xkt_114, xkt_119, xkt_126, xkt_159, xkt_576, xkt_999, xkt_9999, xkt_65536, xkt_999999, xkt_m1, xkt_m2, xkt_m3, xkt_m4, xkt_m11, xkt_m12, xkt_m13, xkt_m14, xkt_m20, xjt_0, xjt_1, xjt_2, xjt_3, xjt_4, xjt_5, xjt_6, xjt_7, xjt_8, xjt_9, xjt_10, xjt_11, xjt_12, xjt_13, xjt_14, xjt_16, xjt_20, xjt_24, xjt_31, xjt_32, xjt_40, xjt_44, xjt_47, xjt_48, xjt_57, xjt_59, xjt_60, xjt_63, xjt_64, xjt_65, xjt_72, xjt_95, xjt_99, xjt_100, xjt_101, xjt_103, xjt_110, xjt_112, xjt_113, xjt_114, xjt_119, xjt_126, xjt_159, xjt_576, xjt_999, xjt_9999, xjt_65536, xjt_999999, xt64, xt_n, not_true_eq_false, not_false_eq_true, Classical.not_not] at c_8 c_24_0 c_24_1 c_24_2 c_24_3 c_24_4
      all_goals omega
    refine xw_if (fun c_24_5 => ?_) (fun c_24_5 => ?_)
    · skip
      refine xw_go xb_19 5 (f1 := (110, [.ref 0, .int (nI i), .int (nI 5), .ref (15 + i)], [.ref (15 + i), .ref 1, .ref 20])) (h1 := (xS b, I, L, xP b)) rfl ⟨rfl, rfl, trivial⟩ ?_
      refine xw_call xb_19 rfl rfl rfl rfl rfl (Or.inr ⟨_, _, rfl, rfl⟩) (c_allFrom (I := I) hP.1 hO hi) ?_
      rintro _ _ ⟨rfl, X, rfl⟩
      refine xw_at (f' := (113, [.ref 0, .int (nI i), .int (nI 5), .ref (15 + i)], [.int (nI (xsum (fun c => xth N i (c / N 1) (c % N 1)) (N 0 * N 1)))])) (h' := (xS b, va_up I 21 X, L, xP b)) rfl rfl ?_
      refine xw_ret xb_19 rfl rfl trivial ?_
      exact ⟨rfl, _, rfl, xPF_v (xPF_r I) (by decide), xPL_fr (by omega) hP fun a h1 h2 => xm_vu_o (by omega)⟩
    refine xw_at (f' := (114, [.ref 0, .int (nI i), .int (nI 5), .ref (15 + i)], [])) (h' := (xS b, I, L, xP b)) rfl rfl ?_
    exfalso
    try simp only [xB_dec, Classical.not_not] at c_8 c_24_0 c_24_1 c_24_2 c_24_3 c_24_4 c_24_5
    try simp (disch := omega) only [xt_eq, xt_lt, xt_le, xkt_0, xkt_1, xkt_2, xkt_3, xkt_4, xkt_5, xkt_6, xkt_7, xkt_8, xkt_9, xkt_10, xkt_11, xkt_12, xkt_13, xkt_14, xkt_16, xkt_20, xkt_24, xkt_31, xkt_32, xkt_40, xkt_44, xkt_47, xkt_48, xkt_57, xkt_59, xkt_60, xkt_63, xkt_64, xkt_65, xkt_72, xkt_95, xkt_99, xkt_100, xkt_101, xkt_103, xkt_110, xkt_112, xkt_113, xkt_114, xkt_119, xkt_126, xkt_159, xkt_576, xkt_999, xkt_9999, xkt_65536, xkt_999999, xkt_m1, xkt_m2, xkt_m3, xkt_m4, xkt_m11, xkt_m12, xkt_m13, xkt_m14, xkt_m20, xjt_0, xjt_1, xjt_2, xjt_3, xjt_4, xjt_5, xjt_6, xjt_7, xjt_8, xjt_9, xjt_10, xjt_11, xjt_12, xjt_13, xjt_14, xjt_16, xjt_20, xjt_24, xjt_31, xjt_32, xjt_40, xjt_44, xjt_47, xjt_48, xjt_57, xjt_59, xjt_60, xjt_63, xjt_64, xjt_65, xjt_72, xjt_95, xjt_99, xjt_100, xjt_101, xjt_103, xjt_110, xjt_112, xjt_113, xjt_114, xjt_119, xjt_126, xjt_159, xjt_576, xjt_999, xjt_9999, xjt_65536, xjt_999999, xt64, xt_n, not_true_eq_false, not_false_eq_true, Classical.not_not] at c_8 c_24_0 c_24_1 c_24_2 c_24_3 c_24_4 c_24_5
    all_goals omega
  · skip
    exfalso
    try simp only [xB_dec, Classical.not_not] at c_8
    try simp (disch := omega) only [xt_eq, xt_lt, xt_le, xkt_0, xkt_1, xkt_2, xkt_3, xkt_4, xkt_5, xkt_6, xkt_7, xkt_8, xkt_9, xkt_10, xkt_11, xkt_12, xkt_13, xkt_14, xkt_16, xkt_20, xkt_24, xkt_31, xkt_32, xkt_40, xkt_44, xkt_47, xkt_48, xkt_57, xkt_59, xkt_60, xkt_63, xkt_64, xkt_65, xkt_72, xkt_95, xkt_99, xkt_100, xkt_101, xkt_103, xkt_110, xkt_112, xkt_113, xkt_114, xkt_119, xkt_126, xkt_159, xkt_576, xkt_999, xkt_9999, xkt_65536, xkt_999999, xkt_m1, xkt_m2, xkt_m3, xkt_m4, xkt_m11, xkt_m12, xkt_m13, xkt_m14, xkt_m20, xjt_0, xjt_1, xjt_2, xjt_3, xjt_4, xjt_5, xjt_6, xjt_7, xjt_8, xjt_9, xjt_10, xjt_11, xjt_12, xjt_13, xjt_14, xjt_16, xjt_20, xjt_24, xjt_31, xjt_32, xjt_40, xjt_44, xjt_47, xjt_48, xjt_57, xjt_59, xjt_60, xjt_63, xjt_64, xjt_65, xjt_72, xjt_95, xjt_99, xjt_100, xjt_101, xjt_103, xjt_110, xjt_112, xjt_113, xjt_114, xjt_119, xjt_126, xjt_159, xjt_576, xjt_999, xjt_9999, xjt_65536, xjt_999999, xt64, xt_n, not_true_eq_false, not_false_eq_true, Classical.not_not] at c_8
    all_goals omega

theorem m_of0 {d : Nat} {b : Bool} {I : Nat → Nat → Int32} {L : Nat → Nat → Int64} {N : Nat → Nat} {u : Nat} {U : Nat → Nat → Nat} (hM : xML N u U I) (hK : xUK N u U) {x y : Int32} (hx : ¬ (0 ≤ x.toInt ∧ x.toInt < (N 2 : Int) ∧ 0 ≤ y.toInt ∧ y.toInt ≤ 5)) : xm_Z (d + 4) 115 [.ref 60, .int x, .int y] (xS b, I, L, xP b) (fun rz hz => xQM b I L (-1) N u U rz hz) := by
  have hO := hK.1
  have hb := hK.1.1
  have c64 : N 0 * N 1 ≤ 64 := xce_le hO
  have c4 : 4 ≤ N 0 * N 1 := xce_ge hO
  refine xw_S xb_115 (l := [.ref 60, .int x, .int y, .float 0, .float 0]) (Nat.le_of_ble_eq_true rfl) rfl ?_
  refine xw_go xb_115 2 (f1 := (2, [.ref 60, .int x, .int y, .float 0, .float 0], [.int x, .ref 60])) (h1 := (xS b, I, L, xP b)) rfl trivial ?_
  refine xw_call xb_115 rfl rfl rfl rfl rfl (Or.inr ⟨_, _, rfl, rfl⟩) (m_isSprinkler (I := I) hM.1 hO) ?_
  rintro _ _ ⟨rfl, rfl⟩
  refine xw_at (f' := (5, [.ref 60, .int x, .int y, .float 0, .float 0], [.int (nI (xB (decide (0 ≤ x.toInt ∧ x.toInt < (N 2 : Int)))))])) (h' := (xS b, I, L, xP b)) rfl rfl ?_
  refine xw_go xb_115 1 (f1 := (if (nI (xB (decide (0 ≤ x.toInt ∧ x.toInt < (N 2 : Int))))) = 0 then 20 else 8, [.ref 60, .int x, .int y, .float 0, .float 0], [])) (h1 := (xS b, I, L, xP b)) rfl trivial ?_
  refine xw_if (fun c_5 => ?_) (fun c_5 => ?_)
  · skip
    refine xw_go xb_115 1 (f1 := (21, [.ref 60, .int x, .int y, .float 0, .float 0], [.int (-1)])) (h1 := (xS b, I, L, xP b)) rfl trivial ?_
    refine xw_ret xb_115 rfl rfl trivial ?_
    exact xQM_same hM
  · skip
    refine xw_go xb_115 4 (f1 := (14, [.ref 60, .int x, .int y, .float 0, .float 0], [.long 5, .long 0, .long y.toInt64])) (h1 := (xS b, I, L, xP b)) rfl trivial ?_
    refine xw_call xb_115 rfl rfl rfl rfl rfl (Or.inl rfl) m_in ?_
    rintro _ _ ⟨rfl, rfl⟩
    refine xw_at (f' := (17, [.ref 60, .int x, .int y, .float 0, .float 0], [.int (nI (xB (decide ((0 : Int64).toInt ≤ y.toInt64.toInt ∧ y.toInt64.toInt ≤ (5 : Int64).toInt))))])) (h' := (xS b, I, L, xP b)) rfl rfl ?_
    refine xw_go xb_115 1 (f1 := (if ¬ (nI (xB (decide ((0 : Int64).toInt ≤ y.toInt64.toInt ∧ y.toInt64.toInt ≤ (5 : Int64).toInt)))) = 0 then 22 else 20, [.ref 60, .int x, .int y, .float 0, .float 0], [])) (h1 := (xS b, I, L, xP b)) rfl trivial ?_
    refine xw_if (fun c_17 => ?_) (fun c_17 => ?_)
    · skip
      exfalso
      try simp only [xB_dec, Classical.not_not] at c_5 c_17
      try simp (disch := omega) only [xt_eq, xt_lt, xt_le, xkt_0, xkt_1, xkt_2, xkt_3, xkt_4, xkt_5, xkt_6, xkt_7, xkt_8, xkt_9, xkt_10, xkt_11, xkt_12, xkt_13, xkt_14, xkt_16, xkt_20, xkt_24, xkt_31, xkt_32, xkt_40, xkt_44, xkt_47, xkt_48, xkt_57, xkt_59, xkt_60, xkt_63, xkt_64, xkt_65, xkt_72, xkt_95, xkt_99, xkt_100, xkt_101, xkt_103, xkt_110, xkt_112, xkt_113, xkt_114, xkt_119, xkt_126, xkt_159, xkt_576, xkt_999, xkt_9999, xkt_65536, xkt_999999, xkt_m1, xkt_m2, xkt_m3, xkt_m4, xkt_m11, xkt_m12, xkt_m13, xkt_m14, xkt_m20, xjt_0, xjt_1, xjt_2, xjt_3, xjt_4, xjt_5, xjt_6, xjt_7, xjt_8, xjt_9, xjt_10, xjt_11, xjt_12, xjt_13, xjt_14, xjt_16, xjt_20, xjt_24, xjt_31, xjt_32, xjt_40, xjt_44, xjt_47, xjt_48, xjt_57, xjt_59, xjt_60, xjt_63, xjt_64, xjt_65, xjt_72, xjt_95, xjt_99, xjt_100, xjt_101, xjt_103, xjt_110, xjt_112, xjt_113, xjt_114, xjt_119, xjt_126, xjt_159, xjt_576, xjt_999, xjt_9999, xjt_65536, xjt_999999, xt64, xt_n, not_true_eq_false, not_false_eq_true, Classical.not_not] at c_5 c_17
      all_goals omega
    · skip
      refine xw_go xb_115 1 (f1 := (21, [.ref 60, .int x, .int y, .float 0, .float 0], [.int (-1)])) (h1 := (xS b, I, L, xP b)) rfl trivial ?_
      refine xw_ret xb_115 rfl rfl trivial ?_
      exact xQM_same hM

theorem m_of1 {d : Nat} {b : Bool} {I : Nat → Nat → Int32} {L : Nat → Nat → Int64} {N : Nat → Nat} {u : Nat} {U : Nat → Nat → Nat} (hM : xML N u U I) (hK : xUK N u U) {i f : Nat} (hi : i < N 2) (hf : f < 4) {x : Int32} (e_x : x = nI i) {y : Int32} (e_y : y = nI f) : xm_Z (d + 4) 115 [.ref 60, .int x, .int y] (xS b, I, L, xP b) (fun rz hz => xQM b I L (nI (N (11 + 4 * i + f))) N u U rz hz) := by
  subst e_x
  subst e_y
  have hO := hK.1
  have hb := hK.1.1
  have c64 : N 0 * N 1 ≤ 64 := xce_le hO
  have c4 : 4 ≤ N 0 * N 1 := xce_ge hO
  refine xw_S xb_115 (l := [.ref 60, .int (nI i), .int (nI f), .float 0, .float 0]) (Nat.le_of_ble_eq_true rfl) rfl ?_
  refine xw_go xb_115 2 (f1 := (2, [.ref 60, .int (nI i), .int (nI f), .float 0, .float 0], [.int (nI i), .ref 60])) (h1 := (xS b, I, L, xP b)) rfl trivial ?_
  refine xw_call xb_115 rfl rfl rfl rfl rfl (Or.inr ⟨_, _, rfl, rfl⟩) (m_isSprinkler (I := I) hM.1 hO) ?_
  rintro _ _ ⟨rfl, rfl⟩
  refine xw_at (f' := (5, [.ref 60, .int (nI i), .int (nI f), .float 0, .float 0], [.int (nI (xB (decide (0 ≤ (nI i).toInt ∧ (nI i).toInt < (N 2 : Int)))))])) (h' := (xS b, I, L, xP b)) rfl rfl ?_
  refine xw_go xb_115 1 (f1 := (if (nI (xB (decide (0 ≤ (nI i).toInt ∧ (nI i).toInt < (N 2 : Int))))) = 0 then 20 else 8, [.ref 60, .int (nI i), .int (nI f), .float 0, .float 0], [])) (h1 := (xS b, I, L, xP b)) rfl trivial ?_
  refine xw_if (fun c_5 => ?_) (fun c_5 => ?_)
  · skip
    exfalso
    try simp only [xB_dec, Classical.not_not] at c_5
    try simp (disch := omega) only [xt_eq, xt_lt, xt_le, xkt_0, xkt_1, xkt_2, xkt_3, xkt_4, xkt_5, xkt_6, xkt_7, xkt_8, xkt_9, xkt_10, xkt_11, xkt_12, xkt_13, xkt_14, xkt_16, xkt_20, xkt_24, xkt_31, xkt_32, xkt_40, xkt_44, xkt_47, xkt_48, xkt_57, xkt_59, xkt_60, xkt_63, xkt_64, xkt_65, xkt_72, xkt_95, xkt_99, xkt_100, xkt_101, xkt_103, xkt_110, xkt_112, xkt_113, xkt_114, xkt_119, xkt_126, xkt_159, xkt_576, xkt_999, xkt_9999, xkt_65536, xkt_999999, xkt_m1, xkt_m2, xkt_m3, xkt_m4, xkt_m11, xkt_m12, xkt_m13, xkt_m14, xkt_m20, xjt_0, xjt_1, xjt_2, xjt_3, xjt_4, xjt_5, xjt_6, xjt_7, xjt_8, xjt_9, xjt_10, xjt_11, xjt_12, xjt_13, xjt_14, xjt_16, xjt_20, xjt_24, xjt_31, xjt_32, xjt_40, xjt_44, xjt_47, xjt_48, xjt_57, xjt_59, xjt_60, xjt_63, xjt_64, xjt_65, xjt_72, xjt_95, xjt_99, xjt_100, xjt_101, xjt_103, xjt_110, xjt_112, xjt_113, xjt_114, xjt_119, xjt_126, xjt_159, xjt_576, xjt_999, xjt_9999, xjt_65536, xjt_999999, xt64, xt_n, not_true_eq_false, not_false_eq_true, Classical.not_not] at c_5
    all_goals omega
  · skip
    refine xw_go xb_115 4 (f1 := (14, [.ref 60, .int (nI i), .int (nI f), .float 0, .float 0], [.long 5, .long 0, .long ((nI f).toInt64)])) (h1 := (xS b, I, L, xP b)) rfl trivial ?_
    refine xw_call xb_115 rfl rfl rfl rfl rfl (Or.inl rfl) m_in ?_
    rintro _ _ ⟨rfl, rfl⟩
    refine xw_at (f' := (17, [.ref 60, .int (nI i), .int (nI f), .float 0, .float 0], [.int (nI (xB (decide ((0 : Int64).toInt ≤ (nI f).toInt64.toInt ∧ (nI f).toInt64.toInt ≤ (5 : Int64).toInt))))])) (h' := (xS b, I, L, xP b)) rfl rfl ?_
    refine xw_go xb_115 1 (f1 := (if ¬ (nI (xB (decide ((0 : Int64).toInt ≤ (nI f).toInt64.toInt ∧ (nI f).toInt64.toInt ≤ (5 : Int64).toInt)))) = 0 then 22 else 20, [.ref 60, .int (nI i), .int (nI f), .float 0, .float 0], [])) (h1 := (xS b, I, L, xP b)) rfl trivial ?_
    refine xw_if (fun c_17 => ?_) (fun c_17 => ?_)
    · skip
      refine xw_go xb_115 3 (f1 := (if 4 ≤ (nI f) then 34 else 27, [.ref 60, .int (nI i), .int (nI f), .float 0, .float 0], [])) (h1 := (xS b, I, L, xP b)) rfl trivial ?_
      refine xw_if (fun c_24 => ?_) (fun c_24 => ?_)
      · skip
        exfalso
        try simp only [xB_dec, Classical.not_not] at c_5 c_17 c_24
        try simp (disch := omega) only [xt_eq, xt_lt, xt_le, xkt_0, xkt_1, xkt_2, xkt_3, xkt_4, xkt_5, xkt_6, xkt_7, xkt_8, xkt_9, xkt_10, xkt_11, xkt_12, xkt_13, xkt_14, xkt_16, xkt_20, xkt_24, xkt_31, xkt_32, xkt_40, xkt_44, xkt_47, xkt_48, xkt_57, xkt_59, xkt_60, xkt_63, xkt_64, xkt_65, xkt_72, xkt_95, xkt_99, xkt_100, xkt_101, xkt_103, xkt_110, xkt_112, xkt_113, xkt_114, xkt_119, xkt_126, xkt_159, xkt_576, xkt_999, xkt_9999, xkt_65536, xkt_999999, xkt_m1, xkt_m2, xkt_m3, xkt_m4, xkt_m11, xkt_m12, xkt_m13, xkt_m14, xkt_m20, xjt_0, xjt_1, xjt_2, xjt_3, xjt_4, xjt_5, xjt_6, xjt_7, xjt_8, xjt_9, xjt_10, xjt_11, xjt_12, xjt_13, xjt_14, xjt_16, xjt_20, xjt_24, xjt_31, xjt_32, xjt_40, xjt_44, xjt_47, xjt_48, xjt_57, xjt_59, xjt_60, xjt_63, xjt_64, xjt_65, xjt_72, xjt_95, xjt_99, xjt_100, xjt_101, xjt_103, xjt_110, xjt_112, xjt_113, xjt_114, xjt_119, xjt_126, xjt_159, xjt_576, xjt_999, xjt_9999, xjt_65536, xjt_999999, xt64, xt_n, not_true_eq_false, not_false_eq_true, Classical.not_not] at c_5 c_17 c_24
        all_goals omega
      · skip
        refine xw_go xb_115 3 (f1 := (30, [.ref 60, .int (nI i), .int (nI f), .float 0, .float 0], [.int (nI f), .int (nI i), .ref 60])) (h1 := (xS b, I, L, xP b)) rfl trivial ?_
        refine xw_call xb_115 rfl rfl rfl rfl rfl (Or.inr ⟨_, _, rfl, rfl⟩) (m_told (I := I) hM.1 (p := i) (w := f) (by omega) hf rfl rfl) ?_
        rintro _ _ ⟨rfl, rfl⟩
        refine xw_at (f' := (33, [.ref 60, .int (nI i), .int (nI f), .float 0, .float 0], [.int (nI (N (11 + 4 * i + f)))])) (h' := (xS b, I, L, xP b)) rfl rfl ?_
        refine xw_ret xb_115 rfl rfl trivial ?_
        exact xQM_same hM
    · skip
      exfalso
      try simp only [xB_dec, Classical.not_not] at c_5 c_17
      try simp (disch := omega) only [xt_eq, xt_lt, xt_le, xkt_0, xkt_1, xkt_2, xkt_3, xkt_4, xkt_5, xkt_6, xkt_7, xkt_8, xkt_9, xkt_10, xkt_11, xkt_12, xkt_13, xkt_14, xkt_16, xkt_20, xkt_24, xkt_31, xkt_32, xkt_40, xkt_44, xkt_47, xkt_48, xkt_57, xkt_59, xkt_60, xkt_63, xkt_64, xkt_65, xkt_72, xkt_95, xkt_99, xkt_100, xkt_101, xkt_103, xkt_110, xkt_112, xkt_113, xkt_114, xkt_119, xkt_126, xkt_159, xkt_576, xkt_999, xkt_9999, xkt_65536, xkt_999999, xkt_m1, xkt_m2, xkt_m3, xkt_m4, xkt_m11, xkt_m12, xkt_m13, xkt_m14, xkt_m20, xjt_0, xjt_1, xjt_2, xjt_3, xjt_4, xjt_5, xjt_6, xjt_7, xjt_8, xjt_9, xjt_10, xjt_11, xjt_12, xjt_13, xjt_14, xjt_16, xjt_20, xjt_24, xjt_31, xjt_32, xjt_40, xjt_44, xjt_47, xjt_48, xjt_57, xjt_59, xjt_60, xjt_63, xjt_64, xjt_65, xjt_72, xjt_95, xjt_99, xjt_100, xjt_101, xjt_103, xjt_110, xjt_112, xjt_113, xjt_114, xjt_119, xjt_126, xjt_159, xjt_576, xjt_999, xjt_9999, xjt_65536, xjt_999999, xt64, xt_n, not_true_eq_false, not_false_eq_true, Classical.not_not] at c_5 c_17
      all_goals omega

theorem m_of4 {d : Nat} {b : Bool} {I : Nat → Nat → Int32} {L : Nat → Nat → Int64} {N : Nat → Nat} {u : Nat} {U : Nat → Nat → Nat} (hM : xML N u U I) (hK : xUK N u U) {i f : Nat} (hi : i < N 2) (hf : f = 4) {x : Int32} (e_x : x = nI i) {y : Int32} (e_y : y = nI f) : xm_Z (d + 4) 115 [.ref 60, .int x, .int y] (xS b, I, L, xP b) (fun rz hz => xQM b I L (nI (xB ((N 3).testBit i))) N u U rz hz) := by
  subst e_x
  subst e_y
  have hO := hK.1
  have hb := hK.1.1
  have c64 : N 0 * N 1 ≤ 64 := xce_le hO
  have c4 : 4 ≤ N 0 * N 1 := xce_ge hO
  refine xw_S xb_115 (l := [.ref 60, .int (nI i), .int (nI f), .float 0, .float 0]) (Nat.le_of_ble_eq_true rfl) rfl ?_
  refine xw_go xb_115 2 (f1 := (2, [.ref 60, .int (nI i), .int (nI f), .float 0, .float 0], [.int (nI i), .ref 60])) (h1 := (xS b, I, L, xP b)) rfl trivial ?_
  refine xw_call xb_115 rfl rfl rfl rfl rfl (Or.inr ⟨_, _, rfl, rfl⟩) (m_isSprinkler (I := I) hM.1 hO) ?_
  rintro _ _ ⟨rfl, rfl⟩
  refine xw_at (f' := (5, [.ref 60, .int (nI i), .int (nI f), .float 0, .float 0], [.int (nI (xB (decide (0 ≤ (nI i).toInt ∧ (nI i).toInt < (N 2 : Int)))))])) (h' := (xS b, I, L, xP b)) rfl rfl ?_
  refine xw_go xb_115 1 (f1 := (if (nI (xB (decide (0 ≤ (nI i).toInt ∧ (nI i).toInt < (N 2 : Int))))) = 0 then 20 else 8, [.ref 60, .int (nI i), .int (nI f), .float 0, .float 0], [])) (h1 := (xS b, I, L, xP b)) rfl trivial ?_
  refine xw_if (fun c_5 => ?_) (fun c_5 => ?_)
  · skip
    exfalso
    try simp only [xB_dec, Classical.not_not] at c_5
    try simp (disch := omega) only [xt_eq, xt_lt, xt_le, xkt_0, xkt_1, xkt_2, xkt_3, xkt_4, xkt_5, xkt_6, xkt_7, xkt_8, xkt_9, xkt_10, xkt_11, xkt_12, xkt_13, xkt_14, xkt_16, xkt_20, xkt_24, xkt_31, xkt_32, xkt_40, xkt_44, xkt_47, xkt_48, xkt_57, xkt_59, xkt_60, xkt_63, xkt_64, xkt_65, xkt_72, xkt_95, xkt_99, xkt_100, xkt_101, xkt_103, xkt_110, xkt_112, xkt_113, xkt_114, xkt_119, xkt_126, xkt_159, xkt_576, xkt_999, xkt_9999, xkt_65536, xkt_999999, xkt_m1, xkt_m2, xkt_m3, xkt_m4, xkt_m11, xkt_m12, xkt_m13, xkt_m14, xkt_m20, xjt_0, xjt_1, xjt_2, xjt_3, xjt_4, xjt_5, xjt_6, xjt_7, xjt_8, xjt_9, xjt_10, xjt_11, xjt_12, xjt_13, xjt_14, xjt_16, xjt_20, xjt_24, xjt_31, xjt_32, xjt_40, xjt_44, xjt_47, xjt_48, xjt_57, xjt_59, xjt_60, xjt_63, xjt_64, xjt_65, xjt_72, xjt_95, xjt_99, xjt_100, xjt_101, xjt_103, xjt_110, xjt_112, xjt_113, xjt_114, xjt_119, xjt_126, xjt_159, xjt_576, xjt_999, xjt_9999, xjt_65536, xjt_999999, xt64, xt_n, not_true_eq_false, not_false_eq_true, Classical.not_not] at c_5
    all_goals omega
  · skip
    refine xw_go xb_115 4 (f1 := (14, [.ref 60, .int (nI i), .int (nI f), .float 0, .float 0], [.long 5, .long 0, .long ((nI f).toInt64)])) (h1 := (xS b, I, L, xP b)) rfl trivial ?_
    refine xw_call xb_115 rfl rfl rfl rfl rfl (Or.inl rfl) m_in ?_
    rintro _ _ ⟨rfl, rfl⟩
    refine xw_at (f' := (17, [.ref 60, .int (nI i), .int (nI f), .float 0, .float 0], [.int (nI (xB (decide ((0 : Int64).toInt ≤ (nI f).toInt64.toInt ∧ (nI f).toInt64.toInt ≤ (5 : Int64).toInt))))])) (h' := (xS b, I, L, xP b)) rfl rfl ?_
    refine xw_go xb_115 1 (f1 := (if ¬ (nI (xB (decide ((0 : Int64).toInt ≤ (nI f).toInt64.toInt ∧ (nI f).toInt64.toInt ≤ (5 : Int64).toInt)))) = 0 then 22 else 20, [.ref 60, .int (nI i), .int (nI f), .float 0, .float 0], [])) (h1 := (xS b, I, L, xP b)) rfl trivial ?_
    refine xw_if (fun c_17 => ?_) (fun c_17 => ?_)
    · skip
      refine xw_go xb_115 3 (f1 := (if 4 ≤ (nI f) then 34 else 27, [.ref 60, .int (nI i), .int (nI f), .float 0, .float 0], [])) (h1 := (xS b, I, L, xP b)) rfl trivial ?_
      refine xw_if (fun c_24 => ?_) (fun c_24 => ?_)
      · skip
        refine xw_go xb_115 4 (f1 := (39, [.ref 60, .int (nI i), .int (nI f), .int 0, .int 0], [])) (h1 := (xS b, I, L, xP b)) rfl trivial ?_
        refine xw_loop (N 0 * N 1) (fun c => (39, [.ref 60, .int (nI i), .int (nI f), .int (nI (xsum (fun c => xth N i (c / N 1) (c % N 1)) c)), .int (nI c)], [])) (fun c => (xS b, I, L, xP b)) (fun c hc ih => ?_) ?_ 0 (Nat.zero_le _)
        · skip
          refine xw_go xb_115 2 (f1 := (42, [.ref 60, .int (nI i), .int (nI f), .int (nI (xsum (fun c => xth N i (c / N 1) (c % N 1)) c)), .int (nI c)], [.ref 60, .int (nI c)])) (h1 := (xS b, I, L, xP b)) rfl trivial ?_
          refine xw_call xb_115 rfl rfl rfl rfl rfl (Or.inr ⟨_, _, rfl, rfl⟩) (m_cells (I := I) hM.1) ?_
          rintro _ _ ⟨rfl, rfl⟩
          refine xw_at (f' := (45, [.ref 60, .int (nI i), .int (nI f), .int (nI (xsum (fun c => xth N i (c / N 1) (c % N 1)) c)), .int (nI c)], [.int (nI (N 0 * N 1)), .int (nI c)])) (h' := (xS b, I, L, xP b)) rfl rfl ?_
          refine xw_go xb_115 1 (f1 := (if (nI (N 0 * N 1)) ≤ (nI c) then 64 else 48, [.ref 60, .int (nI i), .int (nI f), .int (nI (xsum (fun c => xth N i (c / N 1) (c % N 1)) c)), .int (nI c)], [])) (h1 := (xS b, I, L, xP b)) rfl trivial ?_
          refine xw_if (fun c_45 => ?_) (fun c_45 => ?_)
          · skip
            exfalso
            simp (disch := omega) only [nI_leI] at c_45
            omega
          · skip
            refine xw_go xb_115 4 (f1 := (53, [.ref 60, .int (nI i), .int (nI f), .int (nI (xsum (fun c => xth N i (c / N 1) (c % N 1)) c)), .int (nI c)], [.int (nI c), .int (nI i), .ref 60, .int (nI (xsum (fun c => xth N i (c / N 1) (c % N 1)) c))])) (h1 := (xS b, I, L, xP b)) rfl trivial ?_
            refine xw_call xb_115 rfl rfl rfl rfl rfl (Or.inr ⟨_, _, rfl, rfl⟩) (m_throwsOn (I := I) hM.1 hO (p := i) (c := c) hi hc rfl rfl) ?_
            rintro _ _ ⟨rfl, rfl⟩
            refine xw_at (f' := (56, [.ref 60, .int (nI i), .int (nI f), .int (nI (xsum (fun c => xth N i (c / N 1) (c % N 1)) c)), .int (nI c)], [.int (nI (xth N i (c / N 1) (c % N 1))), .int (nI (xsum (fun c => xth N i (c / N 1) (c % N 1)) c))])) (h' := (xS b, I, L, xP b)) rfl rfl ?_
            refine xw_go xb_115 4 (f1 := (39, [.ref 60, .int (nI i), .int (nI f), .int ((nI (xsum (fun c => xth N i (c / N 1) (c % N 1)) c)) + (nI (xth N i (c / N 1) (c % N 1)))), .int ((nI c) + 1)], [])) (h1 := (xS b, I, L, xP b)) rfl trivial ?_
            refine xw_cong ?_ rfl rfl ih
            rw [nI_1, nI_add]
            rfl
        · skip
          refine xw_go xb_115 2 (f1 := (42, [.ref 60, .int (nI i), .int (nI f), .int (nI (xsum (fun c => xth N i (c / N 1) (c % N 1)) (N 0 * N 1))), .int (nI (N 0 * N 1))], [.ref 60, .int (nI (N 0 * N 1))])) (h1 := (xS b, I, L, xP b)) rfl trivial ?_
          refine xw_call xb_115 rfl rfl rfl rfl rfl (Or.inr ⟨_, _, rfl, rfl⟩) (m_cells (I := I) hM.1) ?_
          rintro _ _ ⟨rfl, rfl⟩
          refine xw_at (f' := (45, [.ref 60, .int (nI i), .int (nI f), .int (nI (xsum (fun c => xth N i (c / N 1) (c % N 1)) (N 0 * N 1))), .int (nI (N 0 * N 1))], [.int (nI (N 0 * N 1)), .int (nI (N 0 * N 1))])) (h' := (xS b, I, L, xP b)) rfl rfl ?_
          refine xw_go xb_115 1 (f1 := (if (nI (N 0 * N 1)) ≤ (nI (N 0 * N 1)) then 64 else 48, [.ref 60, .int (nI i), .int (nI f), .int (nI (xsum (fun c => xth N i (c / N 1) (c % N 1)) (N 0 * N 1))), .int (nI (N 0 * N 1))], [])) (h1 := (xS b, I, L, xP b)) rfl trivial ?_
          refine xw_if (fun c_45 => ?_) (fun c_45 => ?_)
          · skip
            refine xw_go xb_115 3 (f1 := (if ¬ (nI f) = 4 then 82 else 69, [.ref 60, .int (nI i), .int (nI f), .int (nI (xsum (fun c => xth N i (c / N 1) (c % N 1)) (N 0 * N 1))), .int (nI (N 0 * N 1))], [])) (h1 := (xS b, I, L, xP b)) rfl trivial ?_
            refine xw_if (fun c_66 => ?_) (fun c_66 => ?_)
            · skip
              refine xw_go xb_115 1 (f1 := (83, [.ref 60, .int (nI i), .int (nI f), .int (nI (xsum (fun c => xth N i (c / N 1) (c % N 1)) (N 0 * N 1))), .int (nI (N 0 * N 1))], [.int (nI (xsum (fun c => xth N i (c / N 1) (c % N 1)) (N 0 * N 1)))])) (h1 := (xS b, I, L, xP b)) rfl trivial ?_
              refine xw_ret xb_115 rfl rfl trivial ?_
              first
                | (exfalso; (try simp (disch := omega) only [xt_eq, xt_n, xkt_4, Classical.not_not] at c_66); omega)
                | (rw [show (3 : Int32).toNatClampNeg = 3 from rfl, hM.1 3 (by decide), xbit5' _ (xOn32 hO) i (by omega)]; exact xQM_same hM)
                | exact xQM_same hM
            · skip
              refine xw_go xb_115 9 (f1 := (83, [.ref 60, .int (nI i), .int (nI f), .int (nI (xsum (fun c => xth N i (c / N 1) (c % N 1)) (N 0 * N 1))), .int (nI (N 0 * N 1))], [.int (((I 61 (3 : Int32).toNatClampNeg) >>> ((nI i) &&& 31)) &&& 1)])) (h1 := (xS b, I, L, xP b)) rfl ⟨rfl, (xn_ar (n := 3) (N := 159) rfl (by decide) (by decide)), trivial⟩ ?_
              refine xw_ret xb_115 rfl rfl trivial ?_
              first
                | (exfalso; (try simp (disch := omega) only [xt_eq, xt_n, xkt_4, Classical.not_not] at c_66); omega)
                | (rw [show (3 : Int32).toNatClampNeg = 3 from rfl, hM.1 3 (by decide), xbit5' _ (xOn32 hO) i (by omega)]; exact xQM_same hM)
                | exact xQM_same hM
          · skip
            exfalso
            simp (disch := omega) only [nI_leI] at c_45
            omega
      · skip
        exfalso
        try simp only [xB_dec, Classical.not_not] at c_5 c_17 c_24
        try simp (disch := omega) only [xt_eq, xt_lt, xt_le, xkt_0, xkt_1, xkt_2, xkt_3, xkt_4, xkt_5, xkt_6, xkt_7, xkt_8, xkt_9, xkt_10, xkt_11, xkt_12, xkt_13, xkt_14, xkt_16, xkt_20, xkt_24, xkt_31, xkt_32, xkt_40, xkt_44, xkt_47, xkt_48, xkt_57, xkt_59, xkt_60, xkt_63, xkt_64, xkt_65, xkt_72, xkt_95, xkt_99, xkt_100, xkt_101, xkt_103, xkt_110, xkt_112, xkt_113, xkt_114, xkt_119, xkt_126, xkt_159, xkt_576, xkt_999, xkt_9999, xkt_65536, xkt_999999, xkt_m1, xkt_m2, xkt_m3, xkt_m4, xkt_m11, xkt_m12, xkt_m13, xkt_m14, xkt_m20, xjt_0, xjt_1, xjt_2, xjt_3, xjt_4, xjt_5, xjt_6, xjt_7, xjt_8, xjt_9, xjt_10, xjt_11, xjt_12, xjt_13, xjt_14, xjt_16, xjt_20, xjt_24, xjt_31, xjt_32, xjt_40, xjt_44, xjt_47, xjt_48, xjt_57, xjt_59, xjt_60, xjt_63, xjt_64, xjt_65, xjt_72, xjt_95, xjt_99, xjt_100, xjt_101, xjt_103, xjt_110, xjt_112, xjt_113, xjt_114, xjt_119, xjt_126, xjt_159, xjt_576, xjt_999, xjt_9999, xjt_65536, xjt_999999, xt64, xt_n, not_true_eq_false, not_false_eq_true, Classical.not_not] at c_5 c_17 c_24
        all_goals omega
    · skip
      exfalso
      try simp only [xB_dec, Classical.not_not] at c_5 c_17
      try simp (disch := omega) only [xt_eq, xt_lt, xt_le, xkt_0, xkt_1, xkt_2, xkt_3, xkt_4, xkt_5, xkt_6, xkt_7, xkt_8, xkt_9, xkt_10, xkt_11, xkt_12, xkt_13, xkt_14, xkt_16, xkt_20, xkt_24, xkt_31, xkt_32, xkt_40, xkt_44, xkt_47, xkt_48, xkt_57, xkt_59, xkt_60, xkt_63, xkt_64, xkt_65, xkt_72, xkt_95, xkt_99, xkt_100, xkt_101, xkt_103, xkt_110, xkt_112, xkt_113, xkt_114, xkt_119, xkt_126, xkt_159, xkt_576, xkt_999, xkt_9999, xkt_65536, xkt_999999, xkt_m1, xkt_m2, xkt_m3, xkt_m4, xkt_m11, xkt_m12, xkt_m13, xkt_m14, xkt_m20, xjt_0, xjt_1, xjt_2, xjt_3, xjt_4, xjt_5, xjt_6, xjt_7, xjt_8, xjt_9, xjt_10, xjt_11, xjt_12, xjt_13, xjt_14, xjt_16, xjt_20, xjt_24, xjt_31, xjt_32, xjt_40, xjt_44, xjt_47, xjt_48, xjt_57, xjt_59, xjt_60, xjt_63, xjt_64, xjt_65, xjt_72, xjt_95, xjt_99, xjt_100, xjt_101, xjt_103, xjt_110, xjt_112, xjt_113, xjt_114, xjt_119, xjt_126, xjt_159, xjt_576, xjt_999, xjt_9999, xjt_65536, xjt_999999, xt64, xt_n, not_true_eq_false, not_false_eq_true, Classical.not_not] at c_5 c_17
      all_goals omega

theorem m_of5 {d : Nat} {b : Bool} {I : Nat → Nat → Int32} {L : Nat → Nat → Int64} {N : Nat → Nat} {u : Nat} {U : Nat → Nat → Nat} (hM : xML N u U I) (hK : xUK N u U) {i f : Nat} (hi : i < N 2) (hf : f = 5) {x : Int32} (e_x : x = nI i) {y : Int32} (e_y : y = nI f) : xm_Z (d + 4) 115 [.ref 60, .int x, .int y] (xS b, I, L, xP b) (fun rz hz => xQM b I L (nI (xsum (fun c => xth N i (c / N 1) (c % N 1)) (N 0 * N 1))) N u U rz hz) := by
  subst e_x
  subst e_y
  have hO := hK.1
  have hb := hK.1.1
  have c64 : N 0 * N 1 ≤ 64 := xce_le hO
  have c4 : 4 ≤ N 0 * N 1 := xce_ge hO
  refine xw_S xb_115 (l := [.ref 60, .int (nI i), .int (nI f), .float 0, .float 0]) (Nat.le_of_ble_eq_true rfl) rfl ?_
  refine xw_go xb_115 2 (f1 := (2, [.ref 60, .int (nI i), .int (nI f), .float 0, .float 0], [.int (nI i), .ref 60])) (h1 := (xS b, I, L, xP b)) rfl trivial ?_
  refine xw_call xb_115 rfl rfl rfl rfl rfl (Or.inr ⟨_, _, rfl, rfl⟩) (m_isSprinkler (I := I) hM.1 hO) ?_
  rintro _ _ ⟨rfl, rfl⟩
  refine xw_at (f' := (5, [.ref 60, .int (nI i), .int (nI f), .float 0, .float 0], [.int (nI (xB (decide (0 ≤ (nI i).toInt ∧ (nI i).toInt < (N 2 : Int)))))])) (h' := (xS b, I, L, xP b)) rfl rfl ?_
  refine xw_go xb_115 1 (f1 := (if (nI (xB (decide (0 ≤ (nI i).toInt ∧ (nI i).toInt < (N 2 : Int))))) = 0 then 20 else 8, [.ref 60, .int (nI i), .int (nI f), .float 0, .float 0], [])) (h1 := (xS b, I, L, xP b)) rfl trivial ?_
  refine xw_if (fun c_5 => ?_) (fun c_5 => ?_)
  · skip
    exfalso
    try simp only [xB_dec, Classical.not_not] at c_5
    try simp (disch := omega) only [xt_eq, xt_lt, xt_le, xkt_0, xkt_1, xkt_2, xkt_3, xkt_4, xkt_5, xkt_6, xkt_7, xkt_8, xkt_9, xkt_10, xkt_11, xkt_12, xkt_13, xkt_14, xkt_16, xkt_20, xkt_24, xkt_31, xkt_32, xkt_40, xkt_44, xkt_47, xkt_48, xkt_57, xkt_59, xkt_60, xkt_63, xkt_64, xkt_65, xkt_72, xkt_95, xkt_99, xkt_100, xkt_101, xkt_103, xkt_110, xkt_112, xkt_113, xkt_114, xkt_119, xkt_126, xkt_159, xkt_576, xkt_999, xkt_9999, xkt_65536, xkt_999999, xkt_m1, xkt_m2, xkt_m3, xkt_m4, xkt_m11, xkt_m12, xkt_m13, xkt_m14, xkt_m20, xjt_0, xjt_1, xjt_2, xjt_3, xjt_4, xjt_5, xjt_6, xjt_7, xjt_8, xjt_9, xjt_10, xjt_11, xjt_12, xjt_13, xjt_14, xjt_16, xjt_20, xjt_24, xjt_31, xjt_32, xjt_40, xjt_44, xjt_47, xjt_48, xjt_57, xjt_59, xjt_60, xjt_63, xjt_64, xjt_65, xjt_72, xjt_95, xjt_99, xjt_100, xjt_101, xjt_103, xjt_110, xjt_112, xjt_113, xjt_114, xjt_119, xjt_126, xjt_159, xjt_576, xjt_999, xjt_9999, xjt_65536, xjt_999999, xt64, xt_n, not_true_eq_false, not_false_eq_true, Classical.not_not] at c_5
    all_goals omega
  · skip
    refine xw_go xb_115 4 (f1 := (14, [.ref 60, .int (nI i), .int (nI f), .float 0, .float 0], [.long 5, .long 0, .long ((nI f).toInt64)])) (h1 := (xS b, I, L, xP b)) rfl trivial ?_
    refine xw_call xb_115 rfl rfl rfl rfl rfl (Or.inl rfl) m_in ?_
    rintro _ _ ⟨rfl, rfl⟩
    refine xw_at (f' := (17, [.ref 60, .int (nI i), .int (nI f), .float 0, .float 0], [.int (nI (xB (decide ((0 : Int64).toInt ≤ (nI f).toInt64.toInt ∧ (nI f).toInt64.toInt ≤ (5 : Int64).toInt))))])) (h' := (xS b, I, L, xP b)) rfl rfl ?_
    refine xw_go xb_115 1 (f1 := (if ¬ (nI (xB (decide ((0 : Int64).toInt ≤ (nI f).toInt64.toInt ∧ (nI f).toInt64.toInt ≤ (5 : Int64).toInt)))) = 0 then 22 else 20, [.ref 60, .int (nI i), .int (nI f), .float 0, .float 0], [])) (h1 := (xS b, I, L, xP b)) rfl trivial ?_
    refine xw_if (fun c_17 => ?_) (fun c_17 => ?_)
    · skip
      refine xw_go xb_115 3 (f1 := (if 4 ≤ (nI f) then 34 else 27, [.ref 60, .int (nI i), .int (nI f), .float 0, .float 0], [])) (h1 := (xS b, I, L, xP b)) rfl trivial ?_
      refine xw_if (fun c_24 => ?_) (fun c_24 => ?_)
      · skip
        refine xw_go xb_115 4 (f1 := (39, [.ref 60, .int (nI i), .int (nI f), .int 0, .int 0], [])) (h1 := (xS b, I, L, xP b)) rfl trivial ?_
        refine xw_loop (N 0 * N 1) (fun c => (39, [.ref 60, .int (nI i), .int (nI f), .int (nI (xsum (fun c => xth N i (c / N 1) (c % N 1)) c)), .int (nI c)], [])) (fun c => (xS b, I, L, xP b)) (fun c hc ih => ?_) ?_ 0 (Nat.zero_le _)
        · skip
          refine xw_go xb_115 2 (f1 := (42, [.ref 60, .int (nI i), .int (nI f), .int (nI (xsum (fun c => xth N i (c / N 1) (c % N 1)) c)), .int (nI c)], [.ref 60, .int (nI c)])) (h1 := (xS b, I, L, xP b)) rfl trivial ?_
          refine xw_call xb_115 rfl rfl rfl rfl rfl (Or.inr ⟨_, _, rfl, rfl⟩) (m_cells (I := I) hM.1) ?_
          rintro _ _ ⟨rfl, rfl⟩
          refine xw_at (f' := (45, [.ref 60, .int (nI i), .int (nI f), .int (nI (xsum (fun c => xth N i (c / N 1) (c % N 1)) c)), .int (nI c)], [.int (nI (N 0 * N 1)), .int (nI c)])) (h' := (xS b, I, L, xP b)) rfl rfl ?_
          refine xw_go xb_115 1 (f1 := (if (nI (N 0 * N 1)) ≤ (nI c) then 64 else 48, [.ref 60, .int (nI i), .int (nI f), .int (nI (xsum (fun c => xth N i (c / N 1) (c % N 1)) c)), .int (nI c)], [])) (h1 := (xS b, I, L, xP b)) rfl trivial ?_
          refine xw_if (fun c_45 => ?_) (fun c_45 => ?_)
          · skip
            exfalso
            simp (disch := omega) only [nI_leI] at c_45
            omega
          · skip
            refine xw_go xb_115 4 (f1 := (53, [.ref 60, .int (nI i), .int (nI f), .int (nI (xsum (fun c => xth N i (c / N 1) (c % N 1)) c)), .int (nI c)], [.int (nI c), .int (nI i), .ref 60, .int (nI (xsum (fun c => xth N i (c / N 1) (c % N 1)) c))])) (h1 := (xS b, I, L, xP b)) rfl trivial ?_
            refine xw_call xb_115 rfl rfl rfl rfl rfl (Or.inr ⟨_, _, rfl, rfl⟩) (m_throwsOn (I := I) hM.1 hO (p := i) (c := c) hi hc rfl rfl) ?_
            rintro _ _ ⟨rfl, rfl⟩
            refine xw_at (f' := (56, [.ref 60, .int (nI i), .int (nI f), .int (nI (xsum (fun c => xth N i (c / N 1) (c % N 1)) c)), .int (nI c)], [.int (nI (xth N i (c / N 1) (c % N 1))), .int (nI (xsum (fun c => xth N i (c / N 1) (c % N 1)) c))])) (h' := (xS b, I, L, xP b)) rfl rfl ?_
            refine xw_go xb_115 4 (f1 := (39, [.ref 60, .int (nI i), .int (nI f), .int ((nI (xsum (fun c => xth N i (c / N 1) (c % N 1)) c)) + (nI (xth N i (c / N 1) (c % N 1)))), .int ((nI c) + 1)], [])) (h1 := (xS b, I, L, xP b)) rfl trivial ?_
            refine xw_cong ?_ rfl rfl ih
            rw [nI_1, nI_add]
            rfl
        · skip
          refine xw_go xb_115 2 (f1 := (42, [.ref 60, .int (nI i), .int (nI f), .int (nI (xsum (fun c => xth N i (c / N 1) (c % N 1)) (N 0 * N 1))), .int (nI (N 0 * N 1))], [.ref 60, .int (nI (N 0 * N 1))])) (h1 := (xS b, I, L, xP b)) rfl trivial ?_
          refine xw_call xb_115 rfl rfl rfl rfl rfl (Or.inr ⟨_, _, rfl, rfl⟩) (m_cells (I := I) hM.1) ?_
          rintro _ _ ⟨rfl, rfl⟩
          refine xw_at (f' := (45, [.ref 60, .int (nI i), .int (nI f), .int (nI (xsum (fun c => xth N i (c / N 1) (c % N 1)) (N 0 * N 1))), .int (nI (N 0 * N 1))], [.int (nI (N 0 * N 1)), .int (nI (N 0 * N 1))])) (h' := (xS b, I, L, xP b)) rfl rfl ?_
          refine xw_go xb_115 1 (f1 := (if (nI (N 0 * N 1)) ≤ (nI (N 0 * N 1)) then 64 else 48, [.ref 60, .int (nI i), .int (nI f), .int (nI (xsum (fun c => xth N i (c / N 1) (c % N 1)) (N 0 * N 1))), .int (nI (N 0 * N 1))], [])) (h1 := (xS b, I, L, xP b)) rfl trivial ?_
          refine xw_if (fun c_45 => ?_) (fun c_45 => ?_)
          · skip
            refine xw_go xb_115 3 (f1 := (if ¬ (nI f) = 4 then 82 else 69, [.ref 60, .int (nI i), .int (nI f), .int (nI (xsum (fun c => xth N i (c / N 1) (c % N 1)) (N 0 * N 1))), .int (nI (N 0 * N 1))], [])) (h1 := (xS b, I, L, xP b)) rfl trivial ?_
            refine xw_if (fun c_66 => ?_) (fun c_66 => ?_)
            · skip
              refine xw_go xb_115 1 (f1 := (83, [.ref 60, .int (nI i), .int (nI f), .int (nI (xsum (fun c => xth N i (c / N 1) (c % N 1)) (N 0 * N 1))), .int (nI (N 0 * N 1))], [.int (nI (xsum (fun c => xth N i (c / N 1) (c % N 1)) (N 0 * N 1)))])) (h1 := (xS b, I, L, xP b)) rfl trivial ?_
              refine xw_ret xb_115 rfl rfl trivial ?_
              first
                | (exfalso; (try simp (disch := omega) only [xt_eq, xt_n, xkt_4, Classical.not_not] at c_66); omega)
                | exact xQM_same hM
            · skip
              refine xw_go xb_115 9 (f1 := (83, [.ref 60, .int (nI i), .int (nI f), .int (nI (xsum (fun c => xth N i (c / N 1) (c % N 1)) (N 0 * N 1))), .int (nI (N 0 * N 1))], [.int (((I 61 (3 : Int32).toNatClampNeg) >>> ((nI i) &&& 31)) &&& 1)])) (h1 := (xS b, I, L, xP b)) rfl ⟨rfl, (xn_ar (n := 3) (N := 159) rfl (by decide) (by decide)), trivial⟩ ?_
              refine xw_ret xb_115 rfl rfl trivial ?_
              first
                | (exfalso; (try simp (disch := omega) only [xt_eq, xt_n, xkt_4, Classical.not_not] at c_66); omega)
                | exact xQM_same hM
          · skip
            exfalso
            simp (disch := omega) only [nI_leI] at c_45
            omega
      · skip
        exfalso
        try simp only [xB_dec, Classical.not_not] at c_5 c_17 c_24
        try simp (disch := omega) only [xt_eq, xt_lt, xt_le, xkt_0, xkt_1, xkt_2, xkt_3, xkt_4, xkt_5, xkt_6, xkt_7, xkt_8, xkt_9, xkt_10, xkt_11, xkt_12, xkt_13, xkt_14, xkt_16, xkt_20, xkt_24, xkt_31, xkt_32, xkt_40, xkt_44, xkt_47, xkt_48, xkt_57, xkt_59, xkt_60, xkt_63, xkt_64, xkt_65, xkt_72, xkt_95, xkt_99, xkt_100, xkt_101, xkt_103, xkt_110, xkt_112, xkt_113, xkt_114, xkt_119, xkt_126, xkt_159, xkt_576, xkt_999, xkt_9999, xkt_65536, xkt_999999, xkt_m1, xkt_m2, xkt_m3, xkt_m4, xkt_m11, xkt_m12, xkt_m13, xkt_m14, xkt_m20, xjt_0, xjt_1, xjt_2, xjt_3, xjt_4, xjt_5, xjt_6, xjt_7, xjt_8, xjt_9, xjt_10, xjt_11, xjt_12, xjt_13, xjt_14, xjt_16, xjt_20, xjt_24, xjt_31, xjt_32, xjt_40, xjt_44, xjt_47, xjt_48, xjt_57, xjt_59, xjt_60, xjt_63, xjt_64, xjt_65, xjt_72, xjt_95, xjt_99, xjt_100, xjt_101, xjt_103, xjt_110, xjt_112, xjt_113, xjt_114, xjt_119, xjt_126, xjt_159, xjt_576, xjt_999, xjt_9999, xjt_65536, xjt_999999, xt64, xt_n, not_true_eq_false, not_false_eq_true, Classical.not_not] at c_5 c_17 c_24
        all_goals omega
    · skip
      exfalso
      try simp only [xB_dec, Classical.not_not] at c_5 c_17
      try simp (disch := omega) only [xt_eq, xt_lt, xt_le, xkt_0, xkt_1, xkt_2, xkt_3, xkt_4, xkt_5, xkt_6, xkt_7, xkt_8, xkt_9, xkt_10, xkt_11, xkt_12, xkt_13, xkt_14, xkt_16, xkt_20, xkt_24, xkt_31, xkt_32, xkt_40, xkt_44, xkt_47, xkt_48, xkt_57, xkt_59, xkt_60, xkt_63, xkt_64, xkt_65, xkt_72, xkt_95, xkt_99, xkt_100, xkt_101, xkt_103, xkt_110, xkt_112, xkt_113, xkt_114, xkt_119, xkt_126, xkt_159, xkt_576, xkt_999, xkt_9999, xkt_65536, xkt_999999, xkt_m1, xkt_m2, xkt_m3, xkt_m4, xkt_m11, xkt_m12, xkt_m13, xkt_m14, xkt_m20, xjt_0, xjt_1, xjt_2, xjt_3, xjt_4, xjt_5, xjt_6, xjt_7, xjt_8, xjt_9, xjt_10, xjt_11, xjt_12, xjt_13, xjt_14, xjt_16, xjt_20, xjt_24, xjt_31, xjt_32, xjt_40, xjt_44, xjt_47, xjt_48, xjt_57, xjt_59, xjt_60, xjt_63, xjt_64, xjt_65, xjt_72, xjt_95, xjt_99, xjt_100, xjt_101, xjt_103, xjt_110, xjt_112, xjt_113, xjt_114, xjt_119, xjt_126, xjt_159, xjt_576, xjt_999, xjt_9999, xjt_65536, xjt_999999, xt64, xt_n, not_true_eq_false, not_false_eq_true, Classical.not_not] at c_5 c_17
      all_goals omega

theorem c_cell0 {d : Nat} {b : Bool} {I : Nat → Nat → Int32} {L : Nat → Nat → Int64} {N : Nat → Nat} {u : Nat} {U : Nat → Nat → Nat} (hP : xPL N u U 1 I) (hK : xUK N u U) {x y : Int32} (hx : ¬ (0 ≤ x.toInt ∧ x.toInt < ((N 0 * N 1 : Nat) : Int) ∧ 0 ≤ y.toInt ∧ y.toInt ≤ 4)) : xm_Z (d + 5) 30 [.ref 0, .int x, .int y] (xS b, I, L, xP b) (fun rz hz => xQC b I L (-1) N u U rz hz) := by
  have hO := hK.1
  have hb := hK.1.1
  have c64 : N 0 * N 1 ≤ 64 := xce_le hO
  have c4 : 4 ≤ N 0 * N 1 := xce_ge hO
  obtain ⟨⟨hN0, hN1, hN2, hN3, hN4, hN5, hN6, hN7, hN8, hN9, hN10⟩, hNs, hNw, hNp⟩ := hP.1
  refine xw_S xb_30 (l := [.ref 0, .int x, .int y]) (Nat.le_of_ble_eq_true rfl) rfl ?_
  refine xw_go xb_30 3 (f1 := (5, [.ref 0, .int x, .int y], [.int x, .ref 1])) (h1 := (xS b, I, L, xP b)) rfl ⟨rfl, trivial⟩ ?_
  refine xw_call xb_30 rfl rfl rfl rfl rfl (Or.inr ⟨_, _, rfl, rfl⟩) (c_hasCell (I := I) hN0 hN1 (by omega) (by omega) (by omega)) ?_
  rintro _ _ ⟨rfl, rfl⟩
  refine xw_at (f' := (8, [.ref 0, .int x, .int y], [.int (nI (xB (decide (0 ≤ x.toInt ∧ x.toInt < ((N 0 * N 1 : Nat) : Int)))))])) (h' := (xS b, I, L, xP b)) rfl rfl ?_
  refine xw_go xb_30 1 (f1 := (if ¬ (nI (xB (decide (0 ≤ x.toInt ∧ x.toInt < ((N 0 * N 1 : Nat) : Int))))) = 0 then 13 else 11, [.ref 0, .int x, .int y], [])) (h1 := (xS b, I, L, xP b)) rfl trivial ?_
  refine xw_if (fun c_8 => ?_) (fun c_8 => ?_)
  · skip
    refine xw_go xb_30 2 (f1 := (xm_sw [(0, 48), (1, 58), (2, 68), (3, 103), (4, 138)] 164 y, [.ref 0, .int x, .int y], [])) (h1 := (xS b, I, L, xP b)) rfl trivial ?_
    refine xw_if (fun c_14_0 => ?_) (fun c_14_0 => ?_)
    · skip
      exfalso
      try simp only [xB_dec, Classical.not_not] at c_8 c_14_0
      try simp (disch := omega) only [xt_eq, xt_lt, xt_le, xkt_0, xkt_1, xkt_2, xkt_3, xkt_4, xkt_5, xkt_6, xkt_7, xkt_8, xkt_9, xkt_10, xkt_11, xkt_12, xkt_13, xkt_14, xkt_16, xkt_20, xkt_24, xkt_31, xkt_32, xkt_40, xkt_44, xkt_47, xkt_48, xkt_57, xkt_59, xkt_60, xkt_63, xkt_64, xkt_65, xkt_72, xkt_95, xkt_99, xkt_100, xkt_101, xkt_103, xkt_110, xkt_112, xkt_113, xkt_114, xkt_119, xkt_126, xkt_159, xkt_576, xkt_999, xkt_9999, xkt_65536, xkt_999999, xkt_m1, xkt_m2, xkt_m3, xkt_m4, xkt_m11, xkt_m12, xkt_m13, xkt_m14, xkt_m20, xjt_0, xjt_1, xjt_2, xjt_3, xjt_4, xjt_5, xjt_6, xjt_7, xjt_8, xjt_9, xjt_10, xjt_11, xjt_12, xjt_13, xjt_14, xjt_16, xjt_20, xjt_24, xjt_31, xjt_32, xjt_40, xjt_44, xjt_47, xjt_48, xjt_57, xjt_59, xjt_60, xjt_63, xjt_64, xjt_65, xjt_72, xjt_95, xjt_99, xjt_100, xjt_101, xjt_103, xjt_110, xjt_112, xjt_113, xjt_114, xjt_119, xjt_126, xjt_159, xjt_576, xjt_999, xjt_9999, xjt_65536, xjt_999999, xt64, xt_n, not_true_eq_false, not_false_eq_true, Classical.not_not] at c_8 c_14_0
      all_goals omega
    refine xw_if (fun c_14_1 => ?_) (fun c_14_1 => ?_)
    · skip
      exfalso
      try simp only [xB_dec, Classical.not_not] at c_8 c_14_0 c_14_1
      try simp (disch := omega) only [xt_eq, xt_lt, xt_le, xkt_0, xkt_1, xkt_2, xkt_3, xkt_4, xkt_5, xkt_6, xkt_7, xkt_8, xkt_9, xkt_10, xkt_11, xkt_12, xkt_13, xkt_14, xkt_16, xkt_20, xkt_24, xkt_31, xkt_32, xkt_40, xkt_44, xkt_47, xkt_48, xkt_57, xkt_59, xkt_60, xkt_63, xkt_64, xkt_65, xkt_72, xkt_95, xkt_99, xkt_100, xkt_101, xkt_103, xkt_110, xkt_112, xkt_113, xkt_114, xkt_119, xkt_126, xkt_159, xkt_576, xkt_999, xkt_9999, xkt_65536, xkt_999999, xkt_m1, xkt_m2, xkt_m3, xkt_m4, xkt_m11, xkt_m12, xkt_m13, xkt_m14, xkt_m20, xjt_0, xjt_1, xjt_2, xjt_3, xjt_4, xjt_5, xjt_6, xjt_7, xjt_8, xjt_9, xjt_10, xjt_11, xjt_12, xjt_13, xjt_14, xjt_16, xjt_20, xjt_24, xjt_31, xjt_32, xjt_40, xjt_44, xjt_47, xjt_48, xjt_57, xjt_59, xjt_60, xjt_63, xjt_64, xjt_65, xjt_72, xjt_95, xjt_99, xjt_100, xjt_101, xjt_103, xjt_110, xjt_112, xjt_113, xjt_114, xjt_119, xjt_126, xjt_159, xjt_576, xjt_999, xjt_9999, xjt_65536, xjt_999999, xt64, xt_n, not_true_eq_false, not_false_eq_true, Classical.not_not] at c_8 c_14_0 c_14_1
      all_goals omega
    refine xw_if (fun c_14_2 => ?_) (fun c_14_2 => ?_)
    · skip
      exfalso
      try simp only [xB_dec, Classical.not_not] at c_8 c_14_0 c_14_1 c_14_2
      try simp (disch := omega) only [xt_eq, xt_lt, xt_le, xkt_0, xkt_1, xkt_2, xkt_3, xkt_4, xkt_5, xkt_6, xkt_7, xkt_8, xkt_9, xkt_10, xkt_11, xkt_12, xkt_13, xkt_14, xkt_16, xkt_20, xkt_24, xkt_31, xkt_32, xkt_40, xkt_44, xkt_47, xkt_48, xkt_57, xkt_59, xkt_60, xkt_63, xkt_64, xkt_65, xkt_72, xkt_95, xkt_99, xkt_100, xkt_101, xkt_103, xkt_110, xkt_112, xkt_113, xkt_114, xkt_119, xkt_126, xkt_159, xkt_576, xkt_999, xkt_9999, xkt_65536, xkt_999999, xkt_m1, xkt_m2, xkt_m3, xkt_m4, xkt_m11, xkt_m12, xkt_m13, xkt_m14, xkt_m20, xjt_0, xjt_1, xjt_2, xjt_3, xjt_4, xjt_5, xjt_6, xjt_7, xjt_8, xjt_9, xjt_10, xjt_11, xjt_12, xjt_13, xjt_14, xjt_16, xjt_20, xjt_24, xjt_31, xjt_32, xjt_40, xjt_44, xjt_47, xjt_48, xjt_57, xjt_59, xjt_60, xjt_63, xjt_64, xjt_65, xjt_72, xjt_95, xjt_99, xjt_100, xjt_101, xjt_103, xjt_110, xjt_112, xjt_113, xjt_114, xjt_119, xjt_126, xjt_159, xjt_576, xjt_999, xjt_9999, xjt_65536, xjt_999999, xt64, xt_n, not_true_eq_false, not_false_eq_true, Classical.not_not] at c_8 c_14_0 c_14_1 c_14_2
      all_goals omega
    refine xw_if (fun c_14_3 => ?_) (fun c_14_3 => ?_)
    · skip
      exfalso
      try simp only [xB_dec, Classical.not_not] at c_8 c_14_0 c_14_1 c_14_2 c_14_3
      try simp (disch := omega) only [xt_eq, xt_lt, xt_le, xkt_0, xkt_1, xkt_2, xkt_3, xkt_4, xkt_5, xkt_6, xkt_7, xkt_8, xkt_9, xkt_10, xkt_11, xkt_12, xkt_13, xkt_14, xkt_16, xkt_20, xkt_24, xkt_31, xkt_32, xkt_40, xkt_44, xkt_47, xkt_48, xkt_57, xkt_59, xkt_60, xkt_63, xkt_64, xkt_65, xkt_72, xkt_95, xkt_99, xkt_100, xkt_101, xkt_103, xkt_110, xkt_112, xkt_113, xkt_114, xkt_119, xkt_126, xkt_159, xkt_576, xkt_999, xkt_9999, xkt_65536, xkt_999999, xkt_m1, xkt_m2, xkt_m3, xkt_m4, xkt_m11, xkt_m12, xkt_m13, xkt_m14, xkt_m20, xjt_0, xjt_1, xjt_2, xjt_3, xjt_4, xjt_5, xjt_6, xjt_7, xjt_8, xjt_9, xjt_10, xjt_11, xjt_12, xjt_13, xjt_14, xjt_16, xjt_20, xjt_24, xjt_31, xjt_32, xjt_40, xjt_44, xjt_47, xjt_48, xjt_57, xjt_59, xjt_60, xjt_63, xjt_64, xjt_65, xjt_72, xjt_95, xjt_99, xjt_100, xjt_101, xjt_103, xjt_110, xjt_112, xjt_113, xjt_114, xjt_119, xjt_126, xjt_159, xjt_576, xjt_999, xjt_9999, xjt_65536, xjt_999999, xt64, xt_n, not_true_eq_false, not_false_eq_true, Classical.not_not] at c_8 c_14_0 c_14_1 c_14_2 c_14_3
      all_goals omega
    refine xw_if (fun c_14_4 => ?_) (fun c_14_4 => ?_)
    · skip
      exfalso
      try simp only [xB_dec, Classical.not_not] at c_8 c_14_0 c_14_1 c_14_2 c_14_3 c_14_4
      try simp (disch := omega) only [xt_eq, xt_lt, xt_le, xkt_0, xkt_1, xkt_2, xkt_3, xkt_4, xkt_5, xkt_6, xkt_7, xkt_8, xkt_9, xkt_10, xkt_11, xkt_12, xkt_13, xkt_14, xkt_16, xkt_20, xkt_24, xkt_31, xkt_32, xkt_40, xkt_44, xkt_47, xkt_48, xkt_57, xkt_59, xkt_60, xkt_63, xkt_64, xkt_65, xkt_72, xkt_95, xkt_99, xkt_100, xkt_101, xkt_103, xkt_110, xkt_112, xkt_113, xkt_114, xkt_119, xkt_126, xkt_159, xkt_576, xkt_999, xkt_9999, xkt_65536, xkt_999999, xkt_m1, xkt_m2, xkt_m3, xkt_m4, xkt_m11, xkt_m12, xkt_m13, xkt_m14, xkt_m20, xjt_0, xjt_1, xjt_2, xjt_3, xjt_4, xjt_5, xjt_6, xjt_7, xjt_8, xjt_9, xjt_10, xjt_11, xjt_12, xjt_13, xjt_14, xjt_16, xjt_20, xjt_24, xjt_31, xjt_32, xjt_40, xjt_44, xjt_47, xjt_48, xjt_57, xjt_59, xjt_60, xjt_63, xjt_64, xjt_65, xjt_72, xjt_95, xjt_99, xjt_100, xjt_101, xjt_103, xjt_110, xjt_112, xjt_113, xjt_114, xjt_119, xjt_126, xjt_159, xjt_576, xjt_999, xjt_9999, xjt_65536, xjt_999999, xt64, xt_n, not_true_eq_false, not_false_eq_true, Classical.not_not] at c_8 c_14_0 c_14_1 c_14_2 c_14_3 c_14_4
      all_goals omega
    refine xw_at (f' := (164, [.ref 0, .int x, .int y], [])) (h' := (xS b, I, L, xP b)) rfl rfl ?_
    refine xw_go xb_30 1 (f1 := (165, [.ref 0, .int x, .int y], [.int (-1)])) (h1 := (xS b, I, L, xP b)) rfl trivial ?_
    refine xw_ret xb_30 rfl rfl trivial ?_
    exact xQC_same hP
  · skip
    refine xw_go xb_30 1 (f1 := (12, [.ref 0, .int x, .int y], [.int (-1)])) (h1 := (xS b, I, L, xP b)) rfl trivial ?_
    refine xw_ret xb_30 rfl rfl trivial ?_
    exact xQC_same hP

theorem c_cell10 {d : Nat} {b : Bool} {I : Nat → Nat → Int32} {L : Nat → Nat → Int64} {N : Nat → Nat} {u : Nat} {U : Nat → Nat → Nat} (hP : xPL N u U 1 I) (hK : xUK N u U) {c : Nat} (hc : c < N 0 * N 1) {x : Int32} (e_x : x = nI c) {y : Int32} (e_y : y = nI 0) : xm_Z (d + 5) 30 [.ref 0, .int x, .int y] (xS b, I, L, xP b) (fun rz hz => xQC b I L (nI (N (31 + c))) N u U rz hz) := by
  subst e_x
  subst e_y
  have hO := hK.1
  have hb := hK.1.1
  have c64 : N 0 * N 1 ≤ 64 := xce_le hO
  have c4 : 4 ≤ N 0 * N 1 := xce_ge hO
  obtain ⟨⟨hN0, hN1, hN2, hN3, hN4, hN5, hN6, hN7, hN8, hN9, hN10⟩, hNs, hNw, hNp⟩ := hP.1
  refine xw_S xb_30 (l := [.ref 0, .int (nI c), .int (nI 0)]) (Nat.le_of_ble_eq_true rfl) rfl ?_
  refine xw_go xb_30 3 (f1 := (5, [.ref 0, .int (nI c), .int (nI 0)], [.int (nI c), .ref 1])) (h1 := (xS b, I, L, xP b)) rfl ⟨rfl, trivial⟩ ?_
  refine xw_call xb_30 rfl rfl rfl rfl rfl (Or.inr ⟨_, _, rfl, rfl⟩) (c_hasCell (I := I) hN0 hN1 (by omega) (by omega) (by omega)) ?_
  rintro _ _ ⟨rfl, rfl⟩
  refine xw_at (f' := (8, [.ref 0, .int (nI c), .int (nI 0)], [.int (nI (xB (decide (0 ≤ (nI c).toInt ∧ (nI c).toInt < ((N 0 * N 1 : Nat) : Int)))))])) (h' := (xS b, I, L, xP b)) rfl rfl ?_
  refine xw_go xb_30 1 (f1 := (if ¬ (nI (xB (decide (0 ≤ (nI c).toInt ∧ (nI c).toInt < ((N 0 * N 1 : Nat) : Int))))) = 0 then 13 else 11, [.ref 0, .int (nI c), .int (nI 0)], [])) (h1 := (xS b, I, L, xP b)) rfl trivial ?_
  refine xw_if (fun c_8 => ?_) (fun c_8 => ?_)
  · skip
    refine xw_go xb_30 2 (f1 := (xm_sw [(0, 48), (1, 58), (2, 68), (3, 103), (4, 138)] 164 (nI 0), [.ref 0, .int (nI c), .int (nI 0)], [])) (h1 := (xS b, I, L, xP b)) rfl trivial ?_
    refine xw_if (fun c_14_0 => ?_) (fun c_14_0 => ?_)
    · skip
      refine xw_go xb_30 5 (f1 := (57, [.ref 0, .int (nI c), .int (nI 0)], [.int (I 2 (nI c).toNatClampNeg)])) (h1 := (xS b, I, L, xP b)) rfl ⟨rfl, rfl, (xn_ar (n := c) (N := 64) rfl (by omega) (by decide)), trivial⟩ ?_
      refine xw_ret xb_30 rfl rfl trivial ?_
      rw [xn_cl (by omega), hNs c (by omega)]
      exact xQC_same hP
    refine xw_if (fun c_14_1 => ?_) (fun c_14_1 => ?_)
    · skip
      exfalso
      try simp only [xB_dec, Classical.not_not] at c_8 c_14_0 c_14_1
      try simp (disch := omega) only [xt_eq, xt_lt, xt_le, xkt_0, xkt_1, xkt_2, xkt_3, xkt_4, xkt_5, xkt_6, xkt_7, xkt_8, xkt_9, xkt_10, xkt_11, xkt_12, xkt_13, xkt_14, xkt_16, xkt_20, xkt_24, xkt_31, xkt_32, xkt_40, xkt_44, xkt_47, xkt_48, xkt_57, xkt_59, xkt_60, xkt_63, xkt_64, xkt_65, xkt_72, xkt_95, xkt_99, xkt_100, xkt_101, xkt_103, xkt_110, xkt_112, xkt_113, xkt_114, xkt_119, xkt_126, xkt_159, xkt_576, xkt_999, xkt_9999, xkt_65536, xkt_999999, xkt_m1, xkt_m2, xkt_m3, xkt_m4, xkt_m11, xkt_m12, xkt_m13, xkt_m14, xkt_m20, xjt_0, xjt_1, xjt_2, xjt_3, xjt_4, xjt_5, xjt_6, xjt_7, xjt_8, xjt_9, xjt_10, xjt_11, xjt_12, xjt_13, xjt_14, xjt_16, xjt_20, xjt_24, xjt_31, xjt_32, xjt_40, xjt_44, xjt_47, xjt_48, xjt_57, xjt_59, xjt_60, xjt_63, xjt_64, xjt_65, xjt_72, xjt_95, xjt_99, xjt_100, xjt_101, xjt_103, xjt_110, xjt_112, xjt_113, xjt_114, xjt_119, xjt_126, xjt_159, xjt_576, xjt_999, xjt_9999, xjt_65536, xjt_999999, xt64, xt_n, not_true_eq_false, not_false_eq_true, Classical.not_not] at c_8 c_14_0 c_14_1
      all_goals omega
    refine xw_if (fun c_14_2 => ?_) (fun c_14_2 => ?_)
    · skip
      exfalso
      try simp only [xB_dec, Classical.not_not] at c_8 c_14_0 c_14_1 c_14_2
      try simp (disch := omega) only [xt_eq, xt_lt, xt_le, xkt_0, xkt_1, xkt_2, xkt_3, xkt_4, xkt_5, xkt_6, xkt_7, xkt_8, xkt_9, xkt_10, xkt_11, xkt_12, xkt_13, xkt_14, xkt_16, xkt_20, xkt_24, xkt_31, xkt_32, xkt_40, xkt_44, xkt_47, xkt_48, xkt_57, xkt_59, xkt_60, xkt_63, xkt_64, xkt_65, xkt_72, xkt_95, xkt_99, xkt_100, xkt_101, xkt_103, xkt_110, xkt_112, xkt_113, xkt_114, xkt_119, xkt_126, xkt_159, xkt_576, xkt_999, xkt_9999, xkt_65536, xkt_999999, xkt_m1, xkt_m2, xkt_m3, xkt_m4, xkt_m11, xkt_m12, xkt_m13, xkt_m14, xkt_m20, xjt_0, xjt_1, xjt_2, xjt_3, xjt_4, xjt_5, xjt_6, xjt_7, xjt_8, xjt_9, xjt_10, xjt_11, xjt_12, xjt_13, xjt_14, xjt_16, xjt_20, xjt_24, xjt_31, xjt_32, xjt_40, xjt_44, xjt_47, xjt_48, xjt_57, xjt_59, xjt_60, xjt_63, xjt_64, xjt_65, xjt_72, xjt_95, xjt_99, xjt_100, xjt_101, xjt_103, xjt_110, xjt_112, xjt_113, xjt_114, xjt_119, xjt_126, xjt_159, xjt_576, xjt_999, xjt_9999, xjt_65536, xjt_999999, xt64, xt_n, not_true_eq_false, not_false_eq_true, Classical.not_not] at c_8 c_14_0 c_14_1 c_14_2
      all_goals omega
    refine xw_if (fun c_14_3 => ?_) (fun c_14_3 => ?_)
    · skip
      exfalso
      try simp only [xB_dec, Classical.not_not] at c_8 c_14_0 c_14_1 c_14_2 c_14_3
      try simp (disch := omega) only [xt_eq, xt_lt, xt_le, xkt_0, xkt_1, xkt_2, xkt_3, xkt_4, xkt_5, xkt_6, xkt_7, xkt_8, xkt_9, xkt_10, xkt_11, xkt_12, xkt_13, xkt_14, xkt_16, xkt_20, xkt_24, xkt_31, xkt_32, xkt_40, xkt_44, xkt_47, xkt_48, xkt_57, xkt_59, xkt_60, xkt_63, xkt_64, xkt_65, xkt_72, xkt_95, xkt_99, xkt_100, xkt_101, xkt_103, xkt_110, xkt_112, xkt_113, xkt_114, xkt_119, xkt_126, xkt_159, xkt_576, xkt_999, xkt_9999, xkt_65536, xkt_999999, xkt_m1, xkt_m2, xkt_m3, xkt_m4, xkt_m11, xkt_m12, xkt_m13, xkt_m14, xkt_m20, xjt_0, xjt_1, xjt_2, xjt_3, xjt_4, xjt_5, xjt_6, xjt_7, xjt_8, xjt_9, xjt_10, xjt_11, xjt_12, xjt_13, xjt_14, xjt_16, xjt_20, xjt_24, xjt_31, xjt_32, xjt_40, xjt_44, xjt_47, xjt_48, xjt_57, xjt_59, xjt_60, xjt_63, xjt_64, xjt_65, xjt_72, xjt_95, xjt_99, xjt_100, xjt_101, xjt_103, xjt_110, xjt_112, xjt_113, xjt_114, xjt_119, xjt_126, xjt_159, xjt_576, xjt_999, xjt_9999, xjt_65536, xjt_999999, xt64, xt_n, not_true_eq_false, not_false_eq_true, Classical.not_not] at c_8 c_14_0 c_14_1 c_14_2 c_14_3
      all_goals omega
    refine xw_if (fun c_14_4 => ?_) (fun c_14_4 => ?_)
    · skip
      exfalso
      try simp only [xB_dec, Classical.not_not] at c_8 c_14_0 c_14_1 c_14_2 c_14_3 c_14_4
      try simp (disch := omega) only [xt_eq, xt_lt, xt_le, xkt_0, xkt_1, xkt_2, xkt_3, xkt_4, xkt_5, xkt_6, xkt_7, xkt_8, xkt_9, xkt_10, xkt_11, xkt_12, xkt_13, xkt_14, xkt_16, xkt_20, xkt_24, xkt_31, xkt_32, xkt_40, xkt_44, xkt_47, xkt_48, xkt_57, xkt_59, xkt_60, xkt_63, xkt_64, xkt_65, xkt_72, xkt_95, xkt_99, xkt_100, xkt_101, xkt_103, xkt_110, xkt_112, xkt_113, xkt_114, xkt_119, xkt_126, xkt_159, xkt_576, xkt_999, xkt_9999, xkt_65536, xkt_999999, xkt_m1, xkt_m2, xkt_m3, xkt_m4, xkt_m11, xkt_m12, xkt_m13, xkt_m14, xkt_m20, xjt_0, xjt_1, xjt_2, xjt_3, xjt_4, xjt_5, xjt_6, xjt_7, xjt_8, xjt_9, xjt_10, xjt_11, xjt_12, xjt_13, xjt_14, xjt_16, xjt_20, xjt_24, xjt_31, xjt_32, xjt_40, xjt_44, xjt_47, xjt_48, xjt_57, xjt_59, xjt_60, xjt_63, xjt_64, xjt_65, xjt_72, xjt_95, xjt_99, xjt_100, xjt_101, xjt_103, xjt_110, xjt_112, xjt_113, xjt_114, xjt_119, xjt_126, xjt_159, xjt_576, xjt_999, xjt_9999, xjt_65536, xjt_999999, xt64, xt_n, not_true_eq_false, not_false_eq_true, Classical.not_not] at c_8 c_14_0 c_14_1 c_14_2 c_14_3 c_14_4
      all_goals omega
    refine xw_at (f' := (164, [.ref 0, .int (nI c), .int (nI 0)], [])) (h' := (xS b, I, L, xP b)) rfl rfl ?_
    exfalso
    try simp only [xB_dec, Classical.not_not] at c_8 c_14_0 c_14_1 c_14_2 c_14_3 c_14_4
    try simp (disch := omega) only [xt_eq, xt_lt, xt_le, xkt_0, xkt_1, xkt_2, xkt_3, xkt_4, xkt_5, xkt_6, xkt_7, xkt_8, xkt_9, xkt_10, xkt_11, xkt_12, xkt_13, xkt_14, xkt_16, xkt_20, xkt_24, xkt_31, xkt_32, xkt_40, xkt_44, xkt_47, xkt_48, xkt_57, xkt_59, xkt_60, xkt_63, xkt_64, xkt_65, xkt_72, xkt_95, xkt_99, xkt_100, xkt_101, xkt_103, xkt_110, xkt_112, xkt_113, xkt_114, xkt_119, xkt_126, xkt_159, xkt_576, xkt_999, xkt_9999, xkt_65536, xkt_999999, xkt_m1, xkt_m2, xkt_m3, xkt_m4, xkt_m11, xkt_m12, xkt_m13, xkt_m14, xkt_m20, xjt_0, xjt_1, xjt_2, xjt_3, xjt_4, xjt_5, xjt_6, xjt_7, xjt_8, xjt_9, xjt_10, xjt_11, xjt_12, xjt_13, xjt_14, xjt_16, xjt_20, xjt_24, xjt_31, xjt_32, xjt_40, xjt_44, xjt_47, xjt_48, xjt_57, xjt_59, xjt_60, xjt_63, xjt_64, xjt_65, xjt_72, xjt_95, xjt_99, xjt_100, xjt_101, xjt_103, xjt_110, xjt_112, xjt_113, xjt_114, xjt_119, xjt_126, xjt_159, xjt_576, xjt_999, xjt_9999, xjt_65536, xjt_999999, xt64, xt_n, not_true_eq_false, not_false_eq_true, Classical.not_not] at c_8 c_14_0 c_14_1 c_14_2 c_14_3 c_14_4
    all_goals omega
  · skip
    exfalso
    try simp only [xB_dec, Classical.not_not] at c_8
    try simp (disch := omega) only [xt_eq, xt_lt, xt_le, xkt_0, xkt_1, xkt_2, xkt_3, xkt_4, xkt_5, xkt_6, xkt_7, xkt_8, xkt_9, xkt_10, xkt_11, xkt_12, xkt_13, xkt_14, xkt_16, xkt_20, xkt_24, xkt_31, xkt_32, xkt_40, xkt_44, xkt_47, xkt_48, xkt_57, xkt_59, xkt_60, xkt_63, xkt_64, xkt_65, xkt_72, xkt_95, xkt_99, xkt_100, xkt_101, xkt_103, xkt_110, xkt_112, xkt_113, xkt_114, xkt_119, xkt_126, xkt_159, xkt_576, xkt_999, xkt_9999, xkt_65536, xkt_999999, xkt_m1, xkt_m2, xkt_m3, xkt_m4, xkt_m11, xkt_m12, xkt_m13, xkt_m14, xkt_m20, xjt_0, xjt_1, xjt_2, xjt_3, xjt_4, xjt_5, xjt_6, xjt_7, xjt_8, xjt_9, xjt_10, xjt_11, xjt_12, xjt_13, xjt_14, xjt_16, xjt_20, xjt_24, xjt_31, xjt_32, xjt_40, xjt_44, xjt_47, xjt_48, xjt_57, xjt_59, xjt_60, xjt_63, xjt_64, xjt_65, xjt_72, xjt_95, xjt_99, xjt_100, xjt_101, xjt_103, xjt_110, xjt_112, xjt_113, xjt_114, xjt_119, xjt_126, xjt_159, xjt_576, xjt_999, xjt_9999, xjt_65536, xjt_999999, xt64, xt_n, not_true_eq_false, not_false_eq_true, Classical.not_not] at c_8
    all_goals omega

theorem c_cell11 {d : Nat} {b : Bool} {I : Nat → Nat → Int32} {L : Nat → Nat → Int64} {N : Nat → Nat} {u : Nat} {U : Nat → Nat → Nat} (hP : xPL N u U 1 I) (hK : xUK N u U) {c : Nat} (hc : c < N 0 * N 1) {x : Int32} (e_x : x = nI c) {y : Int32} (e_y : y = nI 1) : xm_Z (d + 5) 30 [.ref 0, .int x, .int y] (xS b, I, L, xP b) (fun rz hz => xQC b I L (nI (N (95 + c))) N u U rz hz) := by
  subst e_x
  subst e_y
  have hO := hK.1
  have hb := hK.1.1
  have c64 : N 0 * N 1 ≤ 64 := xce_le hO
  have c4 : 4 ≤ N 0 * N 1 := xce_ge hO
  obtain ⟨⟨hN0, hN1, hN2, hN3, hN4, hN5, hN6, hN7, hN8, hN9, hN10⟩, hNs, hNw, hNp⟩ := hP.1
  refine xw_S xb_30 (l := [.ref 0, .int (nI c), .int (nI 1)]) (Nat.le_of_ble_eq_true rfl) rfl ?_
  refine xw_go xb_30 3 (f1 := (5, [.ref 0, .int (nI c), .int (nI 1)], [.int (nI c), .ref 1])) (h1 := (xS b, I, L, xP b)) rfl ⟨rfl, trivial⟩ ?_
  refine xw_call xb_30 rfl rfl rfl rfl rfl (Or.inr ⟨_, _, rfl, rfl⟩) (c_hasCell (I := I) hN0 hN1 (by omega) (by omega) (by omega)) ?_
  rintro _ _ ⟨rfl, rfl⟩
  refine xw_at (f' := (8, [.ref 0, .int (nI c), .int (nI 1)], [.int (nI (xB (decide (0 ≤ (nI c).toInt ∧ (nI c).toInt < ((N 0 * N 1 : Nat) : Int)))))])) (h' := (xS b, I, L, xP b)) rfl rfl ?_
  refine xw_go xb_30 1 (f1 := (if ¬ (nI (xB (decide (0 ≤ (nI c).toInt ∧ (nI c).toInt < ((N 0 * N 1 : Nat) : Int))))) = 0 then 13 else 11, [.ref 0, .int (nI c), .int (nI 1)], [])) (h1 := (xS b, I, L, xP b)) rfl trivial ?_
  refine xw_if (fun c_8 => ?_) (fun c_8 => ?_)
  · skip
    refine xw_go xb_30 2 (f1 := (xm_sw [(0, 48), (1, 58), (2, 68), (3, 103), (4, 138)] 164 (nI 1), [.ref 0, .int (nI c), .int (nI 1)], [])) (h1 := (xS b, I, L, xP b)) rfl trivial ?_
    refine xw_if (fun c_14_0 => ?_) (fun c_14_0 => ?_)
    · skip
      exfalso
      try simp only [xB_dec, Classical.not_not] at c_8 c_14_0
      try simp (disch := omega) only [xt_eq, xt_lt, xt_le, xkt_0, xkt_1, xkt_2, xkt_3, xkt_4, xkt_5, xkt_6, xkt_7, xkt_8, xkt_9, xkt_10, xkt_11, xkt_12, xkt_13, xkt_14, xkt_16, xkt_20, xkt_24, xkt_31, xkt_32, xkt_40, xkt_44, xkt_47, xkt_48, xkt_57, xkt_59, xkt_60, xkt_63, xkt_64, xkt_65, xkt_72, xkt_95, xkt_99, xkt_100, xkt_101, xkt_103, xkt_110, xkt_112, xkt_113, xkt_114, xkt_119, xkt_126, xkt_159, xkt_576, xkt_999, xkt_9999, xkt_65536, xkt_999999, xkt_m1, xkt_m2, xkt_m3, xkt_m4, xkt_m11, xkt_m12, xkt_m13, xkt_m14, xkt_m20, xjt_0, xjt_1, xjt_2, xjt_3, xjt_4, xjt_5, xjt_6, xjt_7, xjt_8, xjt_9, xjt_10, xjt_11, xjt_12, xjt_13, xjt_14, xjt_16, xjt_20, xjt_24, xjt_31, xjt_32, xjt_40, xjt_44, xjt_47, xjt_48, xjt_57, xjt_59, xjt_60, xjt_63, xjt_64, xjt_65, xjt_72, xjt_95, xjt_99, xjt_100, xjt_101, xjt_103, xjt_110, xjt_112, xjt_113, xjt_114, xjt_119, xjt_126, xjt_159, xjt_576, xjt_999, xjt_9999, xjt_65536, xjt_999999, xt64, xt_n, not_true_eq_false, not_false_eq_true, Classical.not_not] at c_8 c_14_0
      all_goals omega
    refine xw_if (fun c_14_1 => ?_) (fun c_14_1 => ?_)
    · skip
      refine xw_go xb_30 5 (f1 := (67, [.ref 0, .int (nI c), .int (nI 1)], [.int (I 3 (nI c).toNatClampNeg)])) (h1 := (xS b, I, L, xP b)) rfl ⟨rfl, rfl, (xn_ar (n := c) (N := 64) rfl (by omega) (by decide)), trivial⟩ ?_
      refine xw_ret xb_30 rfl rfl trivial ?_
      rw [xn_cl (by omega), hNw c (by omega)]
      exact xQC_same hP
    refine xw_if (fun c_14_2 => ?_) (fun c_14_2 => ?_)
    · skip
      exfalso
      try simp only [xB_dec, Classical.not_not] at c_8 c_14_0 c_14_1 c_14_2
      try simp (disch := omega) only [xt_eq, xt_lt, xt_le, xkt_0, xkt_1, xkt_2, xkt_3, xkt_4, xkt_5, xkt_6, xkt_7, xkt_8, xkt_9, xkt_10, xkt_11, xkt_12, xkt_13, xkt_14, xkt_16, xkt_20, xkt_24, xkt_31, xkt_32, xkt_40, xkt_44, xkt_47, xkt_48, xkt_57, xkt_59, xkt_60, xkt_63, xkt_64, xkt_65, xkt_72, xkt_95, xkt_99, xkt_100, xkt_101, xkt_103, xkt_110, xkt_112, xkt_113, xkt_114, xkt_119, xkt_126, xkt_159, xkt_576, xkt_999, xkt_9999, xkt_65536, xkt_999999, xkt_m1, xkt_m2, xkt_m3, xkt_m4, xkt_m11, xkt_m12, xkt_m13, xkt_m14, xkt_m20, xjt_0, xjt_1, xjt_2, xjt_3, xjt_4, xjt_5, xjt_6, xjt_7, xjt_8, xjt_9, xjt_10, xjt_11, xjt_12, xjt_13, xjt_14, xjt_16, xjt_20, xjt_24, xjt_31, xjt_32, xjt_40, xjt_44, xjt_47, xjt_48, xjt_57, xjt_59, xjt_60, xjt_63, xjt_64, xjt_65, xjt_72, xjt_95, xjt_99, xjt_100, xjt_101, xjt_103, xjt_110, xjt_112, xjt_113, xjt_114, xjt_119, xjt_126, xjt_159, xjt_576, xjt_999, xjt_9999, xjt_65536, xjt_999999, xt64, xt_n, not_true_eq_false, not_false_eq_true, Classical.not_not] at c_8 c_14_0 c_14_1 c_14_2
      all_goals omega
    refine xw_if (fun c_14_3 => ?_) (fun c_14_3 => ?_)
    · skip
      exfalso
      try simp only [xB_dec, Classical.not_not] at c_8 c_14_0 c_14_1 c_14_2 c_14_3
      try simp (disch := omega) only [xt_eq, xt_lt, xt_le, xkt_0, xkt_1, xkt_2, xkt_3, xkt_4, xkt_5, xkt_6, xkt_7, xkt_8, xkt_9, xkt_10, xkt_11, xkt_12, xkt_13, xkt_14, xkt_16, xkt_20, xkt_24, xkt_31, xkt_32, xkt_40, xkt_44, xkt_47, xkt_48, xkt_57, xkt_59, xkt_60, xkt_63, xkt_64, xkt_65, xkt_72, xkt_95, xkt_99, xkt_100, xkt_101, xkt_103, xkt_110, xkt_112, xkt_113, xkt_114, xkt_119, xkt_126, xkt_159, xkt_576, xkt_999, xkt_9999, xkt_65536, xkt_999999, xkt_m1, xkt_m2, xkt_m3, xkt_m4, xkt_m11, xkt_m12, xkt_m13, xkt_m14, xkt_m20, xjt_0, xjt_1, xjt_2, xjt_3, xjt_4, xjt_5, xjt_6, xjt_7, xjt_8, xjt_9, xjt_10, xjt_11, xjt_12, xjt_13, xjt_14, xjt_16, xjt_20, xjt_24, xjt_31, xjt_32, xjt_40, xjt_44, xjt_47, xjt_48, xjt_57, xjt_59, xjt_60, xjt_63, xjt_64, xjt_65, xjt_72, xjt_95, xjt_99, xjt_100, xjt_101, xjt_103, xjt_110, xjt_112, xjt_113, xjt_114, xjt_119, xjt_126, xjt_159, xjt_576, xjt_999, xjt_9999, xjt_65536, xjt_999999, xt64, xt_n, not_true_eq_false, not_false_eq_true, Classical.not_not] at c_8 c_14_0 c_14_1 c_14_2 c_14_3
      all_goals omega
    refine xw_if (fun c_14_4 => ?_) (fun c_14_4 => ?_)
    · skip
      exfalso
      try simp only [xB_dec, Classical.not_not] at c_8 c_14_0 c_14_1 c_14_2 c_14_3 c_14_4
      try simp (disch := omega) only [xt_eq, xt_lt, xt_le, xkt_0, xkt_1, xkt_2, xkt_3, xkt_4, xkt_5, xkt_6, xkt_7, xkt_8, xkt_9, xkt_10, xkt_11, xkt_12, xkt_13, xkt_14, xkt_16, xkt_20, xkt_24, xkt_31, xkt_32, xkt_40, xkt_44, xkt_47, xkt_48, xkt_57, xkt_59, xkt_60, xkt_63, xkt_64, xkt_65, xkt_72, xkt_95, xkt_99, xkt_100, xkt_101, xkt_103, xkt_110, xkt_112, xkt_113, xkt_114, xkt_119, xkt_126, xkt_159, xkt_576, xkt_999, xkt_9999, xkt_65536, xkt_999999, xkt_m1, xkt_m2, xkt_m3, xkt_m4, xkt_m11, xkt_m12, xkt_m13, xkt_m14, xkt_m20, xjt_0, xjt_1, xjt_2, xjt_3, xjt_4, xjt_5, xjt_6, xjt_7, xjt_8, xjt_9, xjt_10, xjt_11, xjt_12, xjt_13, xjt_14, xjt_16, xjt_20, xjt_24, xjt_31, xjt_32, xjt_40, xjt_44, xjt_47, xjt_48, xjt_57, xjt_59, xjt_60, xjt_63, xjt_64, xjt_65, xjt_72, xjt_95, xjt_99, xjt_100, xjt_101, xjt_103, xjt_110, xjt_112, xjt_113, xjt_114, xjt_119, xjt_126, xjt_159, xjt_576, xjt_999, xjt_9999, xjt_65536, xjt_999999, xt64, xt_n, not_true_eq_false, not_false_eq_true, Classical.not_not] at c_8 c_14_0 c_14_1 c_14_2 c_14_3 c_14_4
      all_goals omega
    refine xw_at (f' := (164, [.ref 0, .int (nI c), .int (nI 1)], [])) (h' := (xS b, I, L, xP b)) rfl rfl ?_
    exfalso
    try simp only [xB_dec, Classical.not_not] at c_8 c_14_0 c_14_1 c_14_2 c_14_3 c_14_4
    try simp (disch := omega) only [xt_eq, xt_lt, xt_le, xkt_0, xkt_1, xkt_2, xkt_3, xkt_4, xkt_5, xkt_6, xkt_7, xkt_8, xkt_9, xkt_10, xkt_11, xkt_12, xkt_13, xkt_14, xkt_16, xkt_20, xkt_24, xkt_31, xkt_32, xkt_40, xkt_44, xkt_47, xkt_48, xkt_57, xkt_59, xkt_60, xkt_63, xkt_64, xkt_65, xkt_72, xkt_95, xkt_99, xkt_100, xkt_101, xkt_103, xkt_110, xkt_112, xkt_113, xkt_114, xkt_119, xkt_126, xkt_159, xkt_576, xkt_999, xkt_9999, xkt_65536, xkt_999999, xkt_m1, xkt_m2, xkt_m3, xkt_m4, xkt_m11, xkt_m12, xkt_m13, xkt_m14, xkt_m20, xjt_0, xjt_1, xjt_2, xjt_3, xjt_4, xjt_5, xjt_6, xjt_7, xjt_8, xjt_9, xjt_10, xjt_11, xjt_12, xjt_13, xjt_14, xjt_16, xjt_20, xjt_24, xjt_31, xjt_32, xjt_40, xjt_44, xjt_47, xjt_48, xjt_57, xjt_59, xjt_60, xjt_63, xjt_64, xjt_65, xjt_72, xjt_95, xjt_99, xjt_100, xjt_101, xjt_103, xjt_110, xjt_112, xjt_113, xjt_114, xjt_119, xjt_126, xjt_159, xjt_576, xjt_999, xjt_9999, xjt_65536, xjt_999999, xt64, xt_n, not_true_eq_false, not_false_eq_true, Classical.not_not] at c_8 c_14_0 c_14_1 c_14_2 c_14_3 c_14_4
    all_goals omega
  · skip
    exfalso
    try simp only [xB_dec, Classical.not_not] at c_8
    try simp (disch := omega) only [xt_eq, xt_lt, xt_le, xkt_0, xkt_1, xkt_2, xkt_3, xkt_4, xkt_5, xkt_6, xkt_7, xkt_8, xkt_9, xkt_10, xkt_11, xkt_12, xkt_13, xkt_14, xkt_16, xkt_20, xkt_24, xkt_31, xkt_32, xkt_40, xkt_44, xkt_47, xkt_48, xkt_57, xkt_59, xkt_60, xkt_63, xkt_64, xkt_65, xkt_72, xkt_95, xkt_99, xkt_100, xkt_101, xkt_103, xkt_110, xkt_112, xkt_113, xkt_114, xkt_119, xkt_126, xkt_159, xkt_576, xkt_999, xkt_9999, xkt_65536, xkt_999999, xkt_m1, xkt_m2, xkt_m3, xkt_m4, xkt_m11, xkt_m12, xkt_m13, xkt_m14, xkt_m20, xjt_0, xjt_1, xjt_2, xjt_3, xjt_4, xjt_5, xjt_6, xjt_7, xjt_8, xjt_9, xjt_10, xjt_11, xjt_12, xjt_13, xjt_14, xjt_16, xjt_20, xjt_24, xjt_31, xjt_32, xjt_40, xjt_44, xjt_47, xjt_48, xjt_57, xjt_59, xjt_60, xjt_63, xjt_64, xjt_65, xjt_72, xjt_95, xjt_99, xjt_100, xjt_101, xjt_103, xjt_110, xjt_112, xjt_113, xjt_114, xjt_119, xjt_126, xjt_159, xjt_576, xjt_999, xjt_9999, xjt_65536, xjt_999999, xt64, xt_n, not_true_eq_false, not_false_eq_true, Classical.not_not] at c_8
    all_goals omega

theorem c_cell12 {d : Nat} {b : Bool} {I : Nat → Nat → Int32} {L : Nat → Nat → Int64} {N : Nat → Nat} {u : Nat} {U : Nat → Nat → Nat} (hP : xPL N u U 1 I) (hK : xUK N u U) {c : Nat} (hc : c < N 0 * N 1) {x : Int32} (e_x : x = nI c) {y : Int32} (e_y : y = nI 2) : xm_Z (d + 5) 30 [.ref 0, .int x, .int y] (xS b, I, L, xP b) (fun rz hz => xQC b I L (nI (xfa N (N 3) (N 5) c)) N u U rz hz) := by
  subst e_x
  subst e_y
  have hO := hK.1
  have hb := hK.1.1
  have c64 : N 0 * N 1 ≤ 64 := xce_le hO
  have c4 : 4 ≤ N 0 * N 1 := xce_ge hO
  obtain ⟨⟨hN0, hN1, hN2, hN3, hN4, hN5, hN6, hN7, hN8, hN9, hN10⟩, hNs, hNw, hNp⟩ := hP.1
  refine xw_S xb_30 (l := [.ref 0, .int (nI c), .int (nI 2)]) (Nat.le_of_ble_eq_true rfl) rfl ?_
  refine xw_go xb_30 3 (f1 := (5, [.ref 0, .int (nI c), .int (nI 2)], [.int (nI c), .ref 1])) (h1 := (xS b, I, L, xP b)) rfl ⟨rfl, trivial⟩ ?_
  refine xw_call xb_30 rfl rfl rfl rfl rfl (Or.inr ⟨_, _, rfl, rfl⟩) (c_hasCell (I := I) hN0 hN1 (by omega) (by omega) (by omega)) ?_
  rintro _ _ ⟨rfl, rfl⟩
  refine xw_at (f' := (8, [.ref 0, .int (nI c), .int (nI 2)], [.int (nI (xB (decide (0 ≤ (nI c).toInt ∧ (nI c).toInt < ((N 0 * N 1 : Nat) : Int)))))])) (h' := (xS b, I, L, xP b)) rfl rfl ?_
  refine xw_go xb_30 1 (f1 := (if ¬ (nI (xB (decide (0 ≤ (nI c).toInt ∧ (nI c).toInt < ((N 0 * N 1 : Nat) : Int))))) = 0 then 13 else 11, [.ref 0, .int (nI c), .int (nI 2)], [])) (h1 := (xS b, I, L, xP b)) rfl trivial ?_
  refine xw_if (fun c_8 => ?_) (fun c_8 => ?_)
  · skip
    refine xw_go xb_30 2 (f1 := (xm_sw [(0, 48), (1, 58), (2, 68), (3, 103), (4, 138)] 164 (nI 2), [.ref 0, .int (nI c), .int (nI 2)], [])) (h1 := (xS b, I, L, xP b)) rfl trivial ?_
    refine xw_if (fun c_14_0 => ?_) (fun c_14_0 => ?_)
    · skip
      exfalso
      try simp only [xB_dec, Classical.not_not] at c_8 c_14_0
      try simp (disch := omega) only [xt_eq, xt_lt, xt_le, xkt_0, xkt_1, xkt_2, xkt_3, xkt_4, xkt_5, xkt_6, xkt_7, xkt_8, xkt_9, xkt_10, xkt_11, xkt_12, xkt_13, xkt_14, xkt_16, xkt_20, xkt_24, xkt_31, xkt_32, xkt_40, xkt_44, xkt_47, xkt_48, xkt_57, xkt_59, xkt_60, xkt_63, xkt_64, xkt_65, xkt_72, xkt_95, xkt_99, xkt_100, xkt_101, xkt_103, xkt_110, xkt_112, xkt_113, xkt_114, xkt_119, xkt_126, xkt_159, xkt_576, xkt_999, xkt_9999, xkt_65536, xkt_999999, xkt_m1, xkt_m2, xkt_m3, xkt_m4, xkt_m11, xkt_m12, xkt_m13, xkt_m14, xkt_m20, xjt_0, xjt_1, xjt_2, xjt_3, xjt_4, xjt_5, xjt_6, xjt_7, xjt_8, xjt_9, xjt_10, xjt_11, xjt_12, xjt_13, xjt_14, xjt_16, xjt_20, xjt_24, xjt_31, xjt_32, xjt_40, xjt_44, xjt_47, xjt_48, xjt_57, xjt_59, xjt_60, xjt_63, xjt_64, xjt_65, xjt_72, xjt_95, xjt_99, xjt_100, xjt_101, xjt_103, xjt_110, xjt_112, xjt_113, xjt_114, xjt_119, xjt_126, xjt_159, xjt_576, xjt_999, xjt_9999, xjt_65536, xjt_999999, xt64, xt_n, not_true_eq_false, not_false_eq_true, Classical.not_not] at c_8 c_14_0
      all_goals omega
    refine xw_if (fun c_14_1 => ?_) (fun c_14_1 => ?_)
    · skip
      exfalso
      try simp only [xB_dec, Classical.not_not] at c_8 c_14_0 c_14_1
      try simp (disch := omega) only [xt_eq, xt_lt, xt_le, xkt_0, xkt_1, xkt_2, xkt_3, xkt_4, xkt_5, xkt_6, xkt_7, xkt_8, xkt_9, xkt_10, xkt_11, xkt_12, xkt_13, xkt_14, xkt_16, xkt_20, xkt_24, xkt_31, xkt_32, xkt_40, xkt_44, xkt_47, xkt_48, xkt_57, xkt_59, xkt_60, xkt_63, xkt_64, xkt_65, xkt_72, xkt_95, xkt_99, xkt_100, xkt_101, xkt_103, xkt_110, xkt_112, xkt_113, xkt_114, xkt_119, xkt_126, xkt_159, xkt_576, xkt_999, xkt_9999, xkt_65536, xkt_999999, xkt_m1, xkt_m2, xkt_m3, xkt_m4, xkt_m11, xkt_m12, xkt_m13, xkt_m14, xkt_m20, xjt_0, xjt_1, xjt_2, xjt_3, xjt_4, xjt_5, xjt_6, xjt_7, xjt_8, xjt_9, xjt_10, xjt_11, xjt_12, xjt_13, xjt_14, xjt_16, xjt_20, xjt_24, xjt_31, xjt_32, xjt_40, xjt_44, xjt_47, xjt_48, xjt_57, xjt_59, xjt_60, xjt_63, xjt_64, xjt_65, xjt_72, xjt_95, xjt_99, xjt_100, xjt_101, xjt_103, xjt_110, xjt_112, xjt_113, xjt_114, xjt_119, xjt_126, xjt_159, xjt_576, xjt_999, xjt_9999, xjt_65536, xjt_999999, xt64, xt_n, not_true_eq_false, not_false_eq_true, Classical.not_not] at c_8 c_14_0 c_14_1
      all_goals omega
    refine xw_if (fun c_14_2 => ?_) (fun c_14_2 => ?_)
    · skip
      refine xw_go xb_30 10 (f1 := (90, [.ref 0, .int (nI c), .int (nI 2)], [.int (I 1 7), .int (I 1 6), .ref 1, .ref 20])) (h1 := (xS b, I, L, xP b)) rfl ⟨rfl, rfl, rfl, rfl, rfl, rfl, trivial⟩ ?_
      refine xw_call xb_30 rfl rfl rfl rfl rfl (Or.inr ⟨_, _, rfl, rfl⟩) (c_run (I := I) hP.1 hO (o := N 3) (wi := N 5) (xOn32 hO) (by omega) hN3 hN5) ?_
      rintro _ _ ⟨rfl, F, X, T, hF, hT, rfl⟩
      refine xw_at (f' := (93, [.ref 0, .int (nI c), .int (nI 2)], [])) (h' := (xS b, xm_up (va_up (va_up (va_up I 21 F) 23 X) 22 T) 20 3 (nI (xlo N (N 3) (N 5))), L, xP b)) rfl rfl ?_
      refine xw_go xb_30 5 (f1 := (102, [.ref 0, .int (nI c), .int (nI 2)], [.int ((xm_up (va_up (va_up (va_up I 21 F) 23 X) 22 T) 20 3 (nI (xlo N (N 3) (N 5)))) 21 (nI c).toNatClampNeg)])) (h1 := (xS b, xm_up (va_up (va_up (va_up I 21 F) 23 X) 22 T) 20 3 (nI (xlo N (N 3) (N 5))), L, xP b)) rfl ⟨rfl, rfl, (xn_ar (n := c) (N := 64) rfl (by omega) (by decide)), trivial⟩ ?_
      refine xw_ret xb_30 rfl rfl trivial ?_
      refine ⟨xm_some (congrArg Value.int ?_), _, rfl, xPF_u (xPF_v (xPF_v (xPF_v (xPF_r I) (by decide)) (by decide)) (by decide)) (by decide), xPL_fr (by omega) hP fun a h1 h2 => by rw [xm_up_o (by omega), xm_vu_o (by omega), xm_vu_o (by omega), xm_vu_o (by omega)]⟩
      rw [xn_cl (by omega)]
      exact hF c hc
    refine xw_if (fun c_14_3 => ?_) (fun c_14_3 => ?_)
    · skip
      exfalso
      try simp only [xB_dec, Classical.not_not] at c_8 c_14_0 c_14_1 c_14_2 c_14_3
      try simp (disch := omega) only [xt_eq, xt_lt, xt_le, xkt_0, xkt_1, xkt_2, xkt_3, xkt_4, xkt_5, xkt_6, xkt_7, xkt_8, xkt_9, xkt_10, xkt_11, xkt_12, xkt_13, xkt_14, xkt_16, xkt_20, xkt_24, xkt_31, xkt_32, xkt_40, xkt_44, xkt_47, xkt_48, xkt_57, xkt_59, xkt_60, xkt_63, xkt_64, xkt_65, xkt_72, xkt_95, xkt_99, xkt_100, xkt_101, xkt_103, xkt_110, xkt_112, xkt_113, xkt_114, xkt_119, xkt_126, xkt_159, xkt_576, xkt_999, xkt_9999, xkt_65536, xkt_999999, xkt_m1, xkt_m2, xkt_m3, xkt_m4, xkt_m11, xkt_m12, xkt_m13, xkt_m14, xkt_m20, xjt_0, xjt_1, xjt_2, xjt_3, xjt_4, xjt_5, xjt_6, xjt_7, xjt_8, xjt_9, xjt_10, xjt_11, xjt_12, xjt_13, xjt_14, xjt_16, xjt_20, xjt_24, xjt_31, xjt_32, xjt_40, xjt_44, xjt_47, xjt_48, xjt_57, xjt_59, xjt_60, xjt_63, xjt_64, xjt_65, xjt_72, xjt_95, xjt_99, xjt_100, xjt_101, xjt_103, xjt_110, xjt_112, xjt_113, xjt_114, xjt_119, xjt_126, xjt_159, xjt_576, xjt_999, xjt_9999, xjt_65536, xjt_999999, xt64, xt_n, not_true_eq_false, not_false_eq_true, Classical.not_not] at c_8 c_14_0 c_14_1 c_14_2 c_14_3
      all_goals omega
    refine xw_if (fun c_14_4 => ?_) (fun c_14_4 => ?_)
    · skip
      exfalso
      try simp only [xB_dec, Classical.not_not] at c_8 c_14_0 c_14_1 c_14_2 c_14_3 c_14_4
      try simp (disch := omega) only [xt_eq, xt_lt, xt_le, xkt_0, xkt_1, xkt_2, xkt_3, xkt_4, xkt_5, xkt_6, xkt_7, xkt_8, xkt_9, xkt_10, xkt_11, xkt_12, xkt_13, xkt_14, xkt_16, xkt_20, xkt_24, xkt_31, xkt_32, xkt_40, xkt_44, xkt_47, xkt_48, xkt_57, xkt_59, xkt_60, xkt_63, xkt_64, xkt_65, xkt_72, xkt_95, xkt_99, xkt_100, xkt_101, xkt_103, xkt_110, xkt_112, xkt_113, xkt_114, xkt_119, xkt_126, xkt_159, xkt_576, xkt_999, xkt_9999, xkt_65536, xkt_999999, xkt_m1, xkt_m2, xkt_m3, xkt_m4, xkt_m11, xkt_m12, xkt_m13, xkt_m14, xkt_m20, xjt_0, xjt_1, xjt_2, xjt_3, xjt_4, xjt_5, xjt_6, xjt_7, xjt_8, xjt_9, xjt_10, xjt_11, xjt_12, xjt_13, xjt_14, xjt_16, xjt_20, xjt_24, xjt_31, xjt_32, xjt_40, xjt_44, xjt_47, xjt_48, xjt_57, xjt_59, xjt_60, xjt_63, xjt_64, xjt_65, xjt_72, xjt_95, xjt_99, xjt_100, xjt_101, xjt_103, xjt_110, xjt_112, xjt_113, xjt_114, xjt_119, xjt_126, xjt_159, xjt_576, xjt_999, xjt_9999, xjt_65536, xjt_999999, xt64, xt_n, not_true_eq_false, not_false_eq_true, Classical.not_not] at c_8 c_14_0 c_14_1 c_14_2 c_14_3 c_14_4
      all_goals omega
    refine xw_at (f' := (164, [.ref 0, .int (nI c), .int (nI 2)], [])) (h' := (xS b, I, L, xP b)) rfl rfl ?_
    exfalso
    try simp only [xB_dec, Classical.not_not] at c_8 c_14_0 c_14_1 c_14_2 c_14_3 c_14_4
    try simp (disch := omega) only [xt_eq, xt_lt, xt_le, xkt_0, xkt_1, xkt_2, xkt_3, xkt_4, xkt_5, xkt_6, xkt_7, xkt_8, xkt_9, xkt_10, xkt_11, xkt_12, xkt_13, xkt_14, xkt_16, xkt_20, xkt_24, xkt_31, xkt_32, xkt_40, xkt_44, xkt_47, xkt_48, xkt_57, xkt_59, xkt_60, xkt_63, xkt_64, xkt_65, xkt_72, xkt_95, xkt_99, xkt_100, xkt_101, xkt_103, xkt_110, xkt_112, xkt_113, xkt_114, xkt_119, xkt_126, xkt_159, xkt_576, xkt_999, xkt_9999, xkt_65536, xkt_999999, xkt_m1, xkt_m2, xkt_m3, xkt_m4, xkt_m11, xkt_m12, xkt_m13, xkt_m14, xkt_m20, xjt_0, xjt_1, xjt_2, xjt_3, xjt_4, xjt_5, xjt_6, xjt_7, xjt_8, xjt_9, xjt_10, xjt_11, xjt_12, xjt_13, xjt_14, xjt_16, xjt_20, xjt_24, xjt_31, xjt_32, xjt_40, xjt_44, xjt_47, xjt_48, xjt_57, xjt_59, xjt_60, xjt_63, xjt_64, xjt_65, xjt_72, xjt_95, xjt_99, xjt_100, xjt_101, xjt_103, xjt_110, xjt_112, xjt_113, xjt_114, xjt_119, xjt_126, xjt_159, xjt_576, xjt_999, xjt_9999, xjt_65536, xjt_999999, xt64, xt_n, not_true_eq_false, not_false_eq_true, Classical.not_not] at c_8 c_14_0 c_14_1 c_14_2 c_14_3 c_14_4
    all_goals omega
  · skip
    exfalso
    try simp only [xB_dec, Classical.not_not] at c_8
    try simp (disch := omega) only [xt_eq, xt_lt, xt_le, xkt_0, xkt_1, xkt_2, xkt_3, xkt_4, xkt_5, xkt_6, xkt_7, xkt_8, xkt_9, xkt_10, xkt_11, xkt_12, xkt_13, xkt_14, xkt_16, xkt_20, xkt_24, xkt_31, xkt_32, xkt_40, xkt_44, xkt_47, xkt_48, xkt_57, xkt_59, xkt_60, xkt_63, xkt_64, xkt_65, xkt_72, xkt_95, xkt_99, xkt_100, xkt_101, xkt_103, xkt_110, xkt_112, xkt_113, xkt_114, xkt_119, xkt_126, xkt_159, xkt_576, xkt_999, xkt_9999, xkt_65536, xkt_999999, xkt_m1, xkt_m2, xkt_m3, xkt_m4, xkt_m11, xkt_m12, xkt_m13, xkt_m14, xkt_m20, xjt_0, xjt_1, xjt_2, xjt_3, xjt_4, xjt_5, xjt_6, xjt_7, xjt_8, xjt_9, xjt_10, xjt_11, xjt_12, xjt_13, xjt_14, xjt_16, xjt_20, xjt_24, xjt_31, xjt_32, xjt_40, xjt_44, xjt_47, xjt_48, xjt_57, xjt_59, xjt_60, xjt_63, xjt_64, xjt_65, xjt_72, xjt_95, xjt_99, xjt_100, xjt_101, xjt_103, xjt_110, xjt_112, xjt_113, xjt_114, xjt_119, xjt_126, xjt_159, xjt_576, xjt_999, xjt_9999, xjt_65536, xjt_999999, xt64, xt_n, not_true_eq_false, not_false_eq_true, Classical.not_not] at c_8
    all_goals omega

theorem c_cell13 {d : Nat} {b : Bool} {I : Nat → Nat → Int32} {L : Nat → Nat → Int64} {N : Nat → Nat} {u : Nat} {U : Nat → Nat → Nat} (hP : xPL N u U 1 I) (hK : xUK N u U) {c : Nat} (hc : c < N 0 * N 1) {x : Int32} (e_x : x = nI c) {y : Int32} (e_y : y = nI 3) : xm_Z (d + 5) 30 [.ref 0, .int x, .int y] (xS b, I, L, xP b) (fun rz hz => xQC b I L (nI (xta N (N 3) (N 5) c)) N u U rz hz) := by
  subst e_x
  subst e_y
  have hO := hK.1
  have hb := hK.1.1
  have c64 : N 0 * N 1 ≤ 64 := xce_le hO
  have c4 : 4 ≤ N 0 * N 1 := xce_ge hO
  obtain ⟨⟨hN0, hN1, hN2, hN3, hN4, hN5, hN6, hN7, hN8, hN9, hN10⟩, hNs, hNw, hNp⟩ := hP.1
  refine xw_S xb_30 (l := [.ref 0, .int (nI c), .int (nI 3)]) (Nat.le_of_ble_eq_true rfl) rfl ?_
  refine xw_go xb_30 3 (f1 := (5, [.ref 0, .int (nI c), .int (nI 3)], [.int (nI c), .ref 1])) (h1 := (xS b, I, L, xP b)) rfl ⟨rfl, trivial⟩ ?_
  refine xw_call xb_30 rfl rfl rfl rfl rfl (Or.inr ⟨_, _, rfl, rfl⟩) (c_hasCell (I := I) hN0 hN1 (by omega) (by omega) (by omega)) ?_
  rintro _ _ ⟨rfl, rfl⟩
  refine xw_at (f' := (8, [.ref 0, .int (nI c), .int (nI 3)], [.int (nI (xB (decide (0 ≤ (nI c).toInt ∧ (nI c).toInt < ((N 0 * N 1 : Nat) : Int)))))])) (h' := (xS b, I, L, xP b)) rfl rfl ?_
  refine xw_go xb_30 1 (f1 := (if ¬ (nI (xB (decide (0 ≤ (nI c).toInt ∧ (nI c).toInt < ((N 0 * N 1 : Nat) : Int))))) = 0 then 13 else 11, [.ref 0, .int (nI c), .int (nI 3)], [])) (h1 := (xS b, I, L, xP b)) rfl trivial ?_
  refine xw_if (fun c_8 => ?_) (fun c_8 => ?_)
  · skip
    refine xw_go xb_30 2 (f1 := (xm_sw [(0, 48), (1, 58), (2, 68), (3, 103), (4, 138)] 164 (nI 3), [.ref 0, .int (nI c), .int (nI 3)], [])) (h1 := (xS b, I, L, xP b)) rfl trivial ?_
    refine xw_if (fun c_14_0 => ?_) (fun c_14_0 => ?_)
    · skip
      exfalso
      try simp only [xB_dec, Classical.not_not] at c_8 c_14_0
      try simp (disch := omega) only [xt_eq, xt_lt, xt_le, xkt_0, xkt_1, xkt_2, xkt_3, xkt_4, xkt_5, xkt_6, xkt_7, xkt_8, xkt_9, xkt_10, xkt_11, xkt_12, xkt_13, xkt_14, xkt_16, xkt_20, xkt_24, xkt_31, xkt_32, xkt_40, xkt_44, xkt_47, xkt_48, xkt_57, xkt_59, xkt_60, xkt_63, xkt_64, xkt_65, xkt_72, xkt_95, xkt_99, xkt_100, xkt_101, xkt_103, xkt_110, xkt_112, xkt_113, xkt_114, xkt_119, xkt_126, xkt_159, xkt_576, xkt_999, xkt_9999, xkt_65536, xkt_999999, xkt_m1, xkt_m2, xkt_m3, xkt_m4, xkt_m11, xkt_m12, xkt_m13, xkt_m14, xkt_m20, xjt_0, xjt_1, xjt_2, xjt_3, xjt_4, xjt_5, xjt_6, xjt_7, xjt_8, xjt_9, xjt_10, xjt_11, xjt_12, xjt_13, xjt_14, xjt_16, xjt_20, xjt_24, xjt_31, xjt_32, xjt_40, xjt_44, xjt_47, xjt_48, xjt_57, xjt_59, xjt_60, xjt_63, xjt_64, xjt_65, xjt_72, xjt_95, xjt_99, xjt_100, xjt_101, xjt_103, xjt_110, xjt_112, xjt_113, xjt_114, xjt_119, xjt_126, xjt_159, xjt_576, xjt_999, xjt_9999, xjt_65536, xjt_999999, xt64, xt_n, not_true_eq_false, not_false_eq_true, Classical.not_not] at c_8 c_14_0
      all_goals omega
    refine xw_if (fun c_14_1 => ?_) (fun c_14_1 => ?_)
    · skip
      exfalso
      try simp only [xB_dec, Classical.not_not] at c_8 c_14_0 c_14_1
      try simp (disch := omega) only [xt_eq, xt_lt, xt_le, xkt_0, xkt_1, xkt_2, xkt_3, xkt_4, xkt_5, xkt_6, xkt_7, xkt_8, xkt_9, xkt_10, xkt_11, xkt_12, xkt_13, xkt_14, xkt_16, xkt_20, xkt_24, xkt_31, xkt_32, xkt_40, xkt_44, xkt_47, xkt_48, xkt_57, xkt_59, xkt_60, xkt_63, xkt_64, xkt_65, xkt_72, xkt_95, xkt_99, xkt_100, xkt_101, xkt_103, xkt_110, xkt_112, xkt_113, xkt_114, xkt_119, xkt_126, xkt_159, xkt_576, xkt_999, xkt_9999, xkt_65536, xkt_999999, xkt_m1, xkt_m2, xkt_m3, xkt_m4, xkt_m11, xkt_m12, xkt_m13, xkt_m14, xkt_m20, xjt_0, xjt_1, xjt_2, xjt_3, xjt_4, xjt_5, xjt_6, xjt_7, xjt_8, xjt_9, xjt_10, xjt_11, xjt_12, xjt_13, xjt_14, xjt_16, xjt_20, xjt_24, xjt_31, xjt_32, xjt_40, xjt_44, xjt_47, xjt_48, xjt_57, xjt_59, xjt_60, xjt_63, xjt_64, xjt_65, xjt_72, xjt_95, xjt_99, xjt_100, xjt_101, xjt_103, xjt_110, xjt_112, xjt_113, xjt_114, xjt_119, xjt_126, xjt_159, xjt_576, xjt_999, xjt_9999, xjt_65536, xjt_999999, xt64, xt_n, not_true_eq_false, not_false_eq_true, Classical.not_not] at c_8 c_14_0 c_14_1
      all_goals omega
    refine xw_if (fun c_14_2 => ?_) (fun c_14_2 => ?_)
    · skip
      exfalso
      try simp only [xB_dec, Classical.not_not] at c_8 c_14_0 c_14_1 c_14_2
      try simp (disch := omega) only [xt_eq, xt_lt, xt_le, xkt_0, xkt_1, xkt_2, xkt_3, xkt_4, xkt_5, xkt_6, xkt_7, xkt_8, xkt_9, xkt_10, xkt_11, xkt_12, xkt_13, xkt_14, xkt_16, xkt_20, xkt_24, xkt_31, xkt_32, xkt_40, xkt_44, xkt_47, xkt_48, xkt_57, xkt_59, xkt_60, xkt_63, xkt_64, xkt_65, xkt_72, xkt_95, xkt_99, xkt_100, xkt_101, xkt_103, xkt_110, xkt_112, xkt_113, xkt_114, xkt_119, xkt_126, xkt_159, xkt_576, xkt_999, xkt_9999, xkt_65536, xkt_999999, xkt_m1, xkt_m2, xkt_m3, xkt_m4, xkt_m11, xkt_m12, xkt_m13, xkt_m14, xkt_m20, xjt_0, xjt_1, xjt_2, xjt_3, xjt_4, xjt_5, xjt_6, xjt_7, xjt_8, xjt_9, xjt_10, xjt_11, xjt_12, xjt_13, xjt_14, xjt_16, xjt_20, xjt_24, xjt_31, xjt_32, xjt_40, xjt_44, xjt_47, xjt_48, xjt_57, xjt_59, xjt_60, xjt_63, xjt_64, xjt_65, xjt_72, xjt_95, xjt_99, xjt_100, xjt_101, xjt_103, xjt_110, xjt_112, xjt_113, xjt_114, xjt_119, xjt_126, xjt_159, xjt_576, xjt_999, xjt_9999, xjt_65536, xjt_999999, xt64, xt_n, not_true_eq_false, not_false_eq_true, Classical.not_not] at c_8 c_14_0 c_14_1 c_14_2
      all_goals omega
    refine xw_if (fun c_14_3 => ?_) (fun c_14_3 => ?_)
    · skip
      refine xw_go xb_30 10 (f1 := (125, [.ref 0, .int (nI c), .int (nI 3)], [.int (I 1 7), .int (I 1 6), .ref 1, .ref 20])) (h1 := (xS b, I, L, xP b)) rfl ⟨rfl, rfl, rfl, rfl, rfl, rfl, trivial⟩ ?_
      refine xw_call xb_30 rfl rfl rfl rfl rfl (Or.inr ⟨_, _, rfl, rfl⟩) (c_run (I := I) hP.1 hO (o := N 3) (wi := N 5) (xOn32 hO) (by omega) hN3 hN5) ?_
      rintro _ _ ⟨rfl, F, X, T, hF, hT, rfl⟩
      refine xw_at (f' := (128, [.ref 0, .int (nI c), .int (nI 3)], [])) (h' := (xS b, xm_up (va_up (va_up (va_up I 21 F) 23 X) 22 T) 20 3 (nI (xlo N (N 3) (N 5))), L, xP b)) rfl rfl ?_
      refine xw_go xb_30 5 (f1 := (137, [.ref 0, .int (nI c), .int (nI 3)], [.int ((xm_up (va_up (va_up (va_up I 21 F) 23 X) 22 T) 20 3 (nI (xlo N (N 3) (N 5)))) 22 (nI c).toNatClampNeg)])) (h1 := (xS b, xm_up (va_up (va_up (va_up I 21 F) 23 X) 22 T) 20 3 (nI (xlo N (N 3) (N 5))), L, xP b)) rfl ⟨rfl, rfl, (xn_ar (n := c) (N := 64) rfl (by omega) (by decide)), trivial⟩ ?_
      refine xw_ret xb_30 rfl rfl trivial ?_
      refine ⟨xm_some (congrArg Value.int ?_), _, rfl, xPF_u (xPF_v (xPF_v (xPF_v (xPF_r I) (by decide)) (by decide)) (by decide)) (by decide), xPL_fr (by omega) hP fun a h1 h2 => by rw [xm_up_o (by omega), xm_vu_o (by omega), xm_vu_o (by omega), xm_vu_o (by omega)]⟩
      rw [xn_cl (by omega)]
      exact hT c hc
    refine xw_if (fun c_14_4 => ?_) (fun c_14_4 => ?_)
    · skip
      exfalso
      try simp only [xB_dec, Classical.not_not] at c_8 c_14_0 c_14_1 c_14_2 c_14_3 c_14_4
      try simp (disch := omega) only [xt_eq, xt_lt, xt_le, xkt_0, xkt_1, xkt_2, xkt_3, xkt_4, xkt_5, xkt_6, xkt_7, xkt_8, xkt_9, xkt_10, xkt_11, xkt_12, xkt_13, xkt_14, xkt_16, xkt_20, xkt_24, xkt_31, xkt_32, xkt_40, xkt_44, xkt_47, xkt_48, xkt_57, xkt_59, xkt_60, xkt_63, xkt_64, xkt_65, xkt_72, xkt_95, xkt_99, xkt_100, xkt_101, xkt_103, xkt_110, xkt_112, xkt_113, xkt_114, xkt_119, xkt_126, xkt_159, xkt_576, xkt_999, xkt_9999, xkt_65536, xkt_999999, xkt_m1, xkt_m2, xkt_m3, xkt_m4, xkt_m11, xkt_m12, xkt_m13, xkt_m14, xkt_m20, xjt_0, xjt_1, xjt_2, xjt_3, xjt_4, xjt_5, xjt_6, xjt_7, xjt_8, xjt_9, xjt_10, xjt_11, xjt_12, xjt_13, xjt_14, xjt_16, xjt_20, xjt_24, xjt_31, xjt_32, xjt_40, xjt_44, xjt_47, xjt_48, xjt_57, xjt_59, xjt_60, xjt_63, xjt_64, xjt_65, xjt_72, xjt_95, xjt_99, xjt_100, xjt_101, xjt_103, xjt_110, xjt_112, xjt_113, xjt_114, xjt_119, xjt_126, xjt_159, xjt_576, xjt_999, xjt_9999, xjt_65536, xjt_999999, xt64, xt_n, not_true_eq_false, not_false_eq_true, Classical.not_not] at c_8 c_14_0 c_14_1 c_14_2 c_14_3 c_14_4
      all_goals omega
    refine xw_at (f' := (164, [.ref 0, .int (nI c), .int (nI 3)], [])) (h' := (xS b, I, L, xP b)) rfl rfl ?_
    exfalso
    try simp only [xB_dec, Classical.not_not] at c_8 c_14_0 c_14_1 c_14_2 c_14_3 c_14_4
    try simp (disch := omega) only [xt_eq, xt_lt, xt_le, xkt_0, xkt_1, xkt_2, xkt_3, xkt_4, xkt_5, xkt_6, xkt_7, xkt_8, xkt_9, xkt_10, xkt_11, xkt_12, xkt_13, xkt_14, xkt_16, xkt_20, xkt_24, xkt_31, xkt_32, xkt_40, xkt_44, xkt_47, xkt_48, xkt_57, xkt_59, xkt_60, xkt_63, xkt_64, xkt_65, xkt_72, xkt_95, xkt_99, xkt_100, xkt_101, xkt_103, xkt_110, xkt_112, xkt_113, xkt_114, xkt_119, xkt_126, xkt_159, xkt_576, xkt_999, xkt_9999, xkt_65536, xkt_999999, xkt_m1, xkt_m2, xkt_m3, xkt_m4, xkt_m11, xkt_m12, xkt_m13, xkt_m14, xkt_m20, xjt_0, xjt_1, xjt_2, xjt_3, xjt_4, xjt_5, xjt_6, xjt_7, xjt_8, xjt_9, xjt_10, xjt_11, xjt_12, xjt_13, xjt_14, xjt_16, xjt_20, xjt_24, xjt_31, xjt_32, xjt_40, xjt_44, xjt_47, xjt_48, xjt_57, xjt_59, xjt_60, xjt_63, xjt_64, xjt_65, xjt_72, xjt_95, xjt_99, xjt_100, xjt_101, xjt_103, xjt_110, xjt_112, xjt_113, xjt_114, xjt_119, xjt_126, xjt_159, xjt_576, xjt_999, xjt_9999, xjt_65536, xjt_999999, xt64, xt_n, not_true_eq_false, not_false_eq_true, Classical.not_not] at c_8 c_14_0 c_14_1 c_14_2 c_14_3 c_14_4
    all_goals omega
  · skip
    exfalso
    try simp only [xB_dec, Classical.not_not] at c_8
    try simp (disch := omega) only [xt_eq, xt_lt, xt_le, xkt_0, xkt_1, xkt_2, xkt_3, xkt_4, xkt_5, xkt_6, xkt_7, xkt_8, xkt_9, xkt_10, xkt_11, xkt_12, xkt_13, xkt_14, xkt_16, xkt_20, xkt_24, xkt_31, xkt_32, xkt_40, xkt_44, xkt_47, xkt_48, xkt_57, xkt_59, xkt_60, xkt_63, xkt_64, xkt_65, xkt_72, xkt_95, xkt_99, xkt_100, xkt_101, xkt_103, xkt_110, xkt_112, xkt_113, xkt_114, xkt_119, xkt_126, xkt_159, xkt_576, xkt_999, xkt_9999, xkt_65536, xkt_999999, xkt_m1, xkt_m2, xkt_m3, xkt_m4, xkt_m11, xkt_m12, xkt_m13, xkt_m14, xkt_m20, xjt_0, xjt_1, xjt_2, xjt_3, xjt_4, xjt_5, xjt_6, xjt_7, xjt_8, xjt_9, xjt_10, xjt_11, xjt_12, xjt_13, xjt_14, xjt_16, xjt_20, xjt_24, xjt_31, xjt_32, xjt_40, xjt_44, xjt_47, xjt_48, xjt_57, xjt_59, xjt_60, xjt_63, xjt_64, xjt_65, xjt_72, xjt_95, xjt_99, xjt_100, xjt_101, xjt_103, xjt_110, xjt_112, xjt_113, xjt_114, xjt_119, xjt_126, xjt_159, xjt_576, xjt_999, xjt_9999, xjt_65536, xjt_999999, xt64, xt_n, not_true_eq_false, not_false_eq_true, Classical.not_not] at c_8
    all_goals omega

theorem c_cell14 {d : Nat} {b : Bool} {I : Nat → Nat → Int32} {L : Nat → Nat → Int64} {N : Nat → Nat} {u : Nat} {U : Nat → Nat → Nat} (hP : xPL N u U 1 I) (hK : xUK N u U) {c : Nat} (hc : c < N 0 * N 1) {x : Int32} (e_x : x = nI c) {y : Int32} (e_y : y = nI 4) : xm_Z (d + 5) 30 [.ref 0, .int x, .int y] (xS b, I, L, xP b) (fun rz hz => xQC b I L (nI (xB (xs_wrong (N (31 + c)) (N (95 + c)) (N 7) (N 8)))) N u U rz hz) := by
  subst e_x
  subst e_y
  have hO := hK.1
  have hb := hK.1.1
  have c64 : N 0 * N 1 ≤ 64 := xce_le hO
  have c4 : 4 ≤ N 0 * N 1 := xce_ge hO
  obtain ⟨⟨hN0, hN1, hN2, hN3, hN4, hN5, hN6, hN7, hN8, hN9, hN10⟩, hNs, hNw, hNp⟩ := hP.1
  refine xw_S xb_30 (l := [.ref 0, .int (nI c), .int (nI 4)]) (Nat.le_of_ble_eq_true rfl) rfl ?_
  refine xw_go xb_30 3 (f1 := (5, [.ref 0, .int (nI c), .int (nI 4)], [.int (nI c), .ref 1])) (h1 := (xS b, I, L, xP b)) rfl ⟨rfl, trivial⟩ ?_
  refine xw_call xb_30 rfl rfl rfl rfl rfl (Or.inr ⟨_, _, rfl, rfl⟩) (c_hasCell (I := I) hN0 hN1 (by omega) (by omega) (by omega)) ?_
  rintro _ _ ⟨rfl, rfl⟩
  refine xw_at (f' := (8, [.ref 0, .int (nI c), .int (nI 4)], [.int (nI (xB (decide (0 ≤ (nI c).toInt ∧ (nI c).toInt < ((N 0 * N 1 : Nat) : Int)))))])) (h' := (xS b, I, L, xP b)) rfl rfl ?_
  refine xw_go xb_30 1 (f1 := (if ¬ (nI (xB (decide (0 ≤ (nI c).toInt ∧ (nI c).toInt < ((N 0 * N 1 : Nat) : Int))))) = 0 then 13 else 11, [.ref 0, .int (nI c), .int (nI 4)], [])) (h1 := (xS b, I, L, xP b)) rfl trivial ?_
  refine xw_if (fun c_8 => ?_) (fun c_8 => ?_)
  · skip
    refine xw_go xb_30 2 (f1 := (xm_sw [(0, 48), (1, 58), (2, 68), (3, 103), (4, 138)] 164 (nI 4), [.ref 0, .int (nI c), .int (nI 4)], [])) (h1 := (xS b, I, L, xP b)) rfl trivial ?_
    refine xw_if (fun c_14_0 => ?_) (fun c_14_0 => ?_)
    · skip
      exfalso
      try simp only [xB_dec, Classical.not_not] at c_8 c_14_0
      try simp (disch := omega) only [xt_eq, xt_lt, xt_le, xkt_0, xkt_1, xkt_2, xkt_3, xkt_4, xkt_5, xkt_6, xkt_7, xkt_8, xkt_9, xkt_10, xkt_11, xkt_12, xkt_13, xkt_14, xkt_16, xkt_20, xkt_24, xkt_31, xkt_32, xkt_40, xkt_44, xkt_47, xkt_48, xkt_57, xkt_59, xkt_60, xkt_63, xkt_64, xkt_65, xkt_72, xkt_95, xkt_99, xkt_100, xkt_101, xkt_103, xkt_110, xkt_112, xkt_113, xkt_114, xkt_119, xkt_126, xkt_159, xkt_576, xkt_999, xkt_9999, xkt_65536, xkt_999999, xkt_m1, xkt_m2, xkt_m3, xkt_m4, xkt_m11, xkt_m12, xkt_m13, xkt_m14, xkt_m20, xjt_0, xjt_1, xjt_2, xjt_3, xjt_4, xjt_5, xjt_6, xjt_7, xjt_8, xjt_9, xjt_10, xjt_11, xjt_12, xjt_13, xjt_14, xjt_16, xjt_20, xjt_24, xjt_31, xjt_32, xjt_40, xjt_44, xjt_47, xjt_48, xjt_57, xjt_59, xjt_60, xjt_63, xjt_64, xjt_65, xjt_72, xjt_95, xjt_99, xjt_100, xjt_101, xjt_103, xjt_110, xjt_112, xjt_113, xjt_114, xjt_119, xjt_126, xjt_159, xjt_576, xjt_999, xjt_9999, xjt_65536, xjt_999999, xt64, xt_n, not_true_eq_false, not_false_eq_true, Classical.not_not] at c_8 c_14_0
      all_goals omega
    refine xw_if (fun c_14_1 => ?_) (fun c_14_1 => ?_)
    · skip
      exfalso
      try simp only [xB_dec, Classical.not_not] at c_8 c_14_0 c_14_1
      try simp (disch := omega) only [xt_eq, xt_lt, xt_le, xkt_0, xkt_1, xkt_2, xkt_3, xkt_4, xkt_5, xkt_6, xkt_7, xkt_8, xkt_9, xkt_10, xkt_11, xkt_12, xkt_13, xkt_14, xkt_16, xkt_20, xkt_24, xkt_31, xkt_32, xkt_40, xkt_44, xkt_47, xkt_48, xkt_57, xkt_59, xkt_60, xkt_63, xkt_64, xkt_65, xkt_72, xkt_95, xkt_99, xkt_100, xkt_101, xkt_103, xkt_110, xkt_112, xkt_113, xkt_114, xkt_119, xkt_126, xkt_159, xkt_576, xkt_999, xkt_9999, xkt_65536, xkt_999999, xkt_m1, xkt_m2, xkt_m3, xkt_m4, xkt_m11, xkt_m12, xkt_m13, xkt_m14, xkt_m20, xjt_0, xjt_1, xjt_2, xjt_3, xjt_4, xjt_5, xjt_6, xjt_7, xjt_8, xjt_9, xjt_10, xjt_11, xjt_12, xjt_13, xjt_14, xjt_16, xjt_20, xjt_24, xjt_31, xjt_32, xjt_40, xjt_44, xjt_47, xjt_48, xjt_57, xjt_59, xjt_60, xjt_63, xjt_64, xjt_65, xjt_72, xjt_95, xjt_99, xjt_100, xjt_101, xjt_103, xjt_110, xjt_112, xjt_113, xjt_114, xjt_119, xjt_126, xjt_159, xjt_576, xjt_999, xjt_9999, xjt_65536, xjt_999999, xt64, xt_n, not_true_eq_false, not_false_eq_true, Classical.not_not] at c_8 c_14_0 c_14_1
      all_goals omega
    refine xw_if (fun c_14_2 => ?_) (fun c_14_2 => ?_)
    · skip
      exfalso
      try simp only [xB_dec, Classical.not_not] at c_8 c_14_0 c_14_1 c_14_2
      try simp (disch := omega) only [xt_eq, xt_lt, xt_le, xkt_0, xkt_1, xkt_2, xkt_3, xkt_4, xkt_5, xkt_6, xkt_7, xkt_8, xkt_9, xkt_10, xkt_11, xkt_12, xkt_13, xkt_14, xkt_16, xkt_20, xkt_24, xkt_31, xkt_32, xkt_40, xkt_44, xkt_47, xkt_48, xkt_57, xkt_59, xkt_60, xkt_63, xkt_64, xkt_65, xkt_72, xkt_95, xkt_99, xkt_100, xkt_101, xkt_103, xkt_110, xkt_112, xkt_113, xkt_114, xkt_119, xkt_126, xkt_159, xkt_576, xkt_999, xkt_9999, xkt_65536, xkt_999999, xkt_m1, xkt_m2, xkt_m3, xkt_m4, xkt_m11, xkt_m12, xkt_m13, xkt_m14, xkt_m20, xjt_0, xjt_1, xjt_2, xjt_3, xjt_4, xjt_5, xjt_6, xjt_7, xjt_8, xjt_9, xjt_10, xjt_11, xjt_12, xjt_13, xjt_14, xjt_16, xjt_20, xjt_24, xjt_31, xjt_32, xjt_40, xjt_44, xjt_47, xjt_48, xjt_57, xjt_59, xjt_60, xjt_63, xjt_64, xjt_65, xjt_72, xjt_95, xjt_99, xjt_100, xjt_101, xjt_103, xjt_110, xjt_112, xjt_113, xjt_114, xjt_119, xjt_126, xjt_159, xjt_576, xjt_999, xjt_9999, xjt_65536, xjt_999999, xt64, xt_n, not_true_eq_false, not_false_eq_true, Classical.not_not] at c_8 c_14_0 c_14_1 c_14_2
      all_goals omega
    refine xw_if (fun c_14_3 => ?_) (fun c_14_3 => ?_)
    · skip
      exfalso
      try simp only [xB_dec, Classical.not_not] at c_8 c_14_0 c_14_1 c_14_2 c_14_3
      try simp (disch := omega) only [xt_eq, xt_lt, xt_le, xkt_0, xkt_1, xkt_2, xkt_3, xkt_4, xkt_5, xkt_6, xkt_7, xkt_8, xkt_9, xkt_10, xkt_11, xkt_12, xkt_13, xkt_14, xkt_16, xkt_20, xkt_24, xkt_31, xkt_32, xkt_40, xkt_44, xkt_47, xkt_48, xkt_57, xkt_59, xkt_60, xkt_63, xkt_64, xkt_65, xkt_72, xkt_95, xkt_99, xkt_100, xkt_101, xkt_103, xkt_110, xkt_112, xkt_113, xkt_114, xkt_119, xkt_126, xkt_159, xkt_576, xkt_999, xkt_9999, xkt_65536, xkt_999999, xkt_m1, xkt_m2, xkt_m3, xkt_m4, xkt_m11, xkt_m12, xkt_m13, xkt_m14, xkt_m20, xjt_0, xjt_1, xjt_2, xjt_3, xjt_4, xjt_5, xjt_6, xjt_7, xjt_8, xjt_9, xjt_10, xjt_11, xjt_12, xjt_13, xjt_14, xjt_16, xjt_20, xjt_24, xjt_31, xjt_32, xjt_40, xjt_44, xjt_47, xjt_48, xjt_57, xjt_59, xjt_60, xjt_63, xjt_64, xjt_65, xjt_72, xjt_95, xjt_99, xjt_100, xjt_101, xjt_103, xjt_110, xjt_112, xjt_113, xjt_114, xjt_119, xjt_126, xjt_159, xjt_576, xjt_999, xjt_9999, xjt_65536, xjt_999999, xt64, xt_n, not_true_eq_false, not_false_eq_true, Classical.not_not] at c_8 c_14_0 c_14_1 c_14_2 c_14_3
      all_goals omega
    refine xw_if (fun c_14_4 => ?_) (fun c_14_4 => ?_)
    · skip
      refine xw_go xb_30 8 (f1 := (152, [.ref 0, .int (nI c), .int (nI 4)], [.int (I 3 (nI c).toNatClampNeg), .int (nI c), .ref 1])) (h1 := (xS b, I, L, xP b)) rfl ⟨rfl, rfl, rfl, (xn_ar (n := c) (N := 64) rfl (by omega) (by decide)), trivial⟩ ?_
      refine xw_call xb_30 rfl rfl rfl rfl rfl (Or.inr ⟨_, _, rfl, rfl⟩) (c_isWrong (I := I) (c := c) (so := N (31 + c)) (wt := N (95 + c)) (hNs c (by omega)) (by omega) (hO.2.1 c (by omega)) hN7 hN8 (by have := hO.2.2.1 c (by omega); omega) (by omega) (by omega) rfl (by show I 3 (nI c).toNatClampNeg = _; rw [xn_cl (by omega)]; exact hNw c (by omega))) ?_
      rintro _ _ ⟨rfl, rfl⟩
      refine xw_at (f' := (155, [.ref 0, .int (nI c), .int (nI 4)], [.int (nI (xB (xs_wrong (N (31 + c)) (N (95 + c)) (N 7) (N 8))))])) (h' := (xS b, I, L, xP b)) rfl rfl ?_
      refine xw_go xb_30 1 (f1 := (if (nI (xB (xs_wrong (N (31 + c)) (N (95 + c)) (N 7) (N 8)))) = 0 then 162 else 158, [.ref 0, .int (nI c), .int (nI 4)], [])) (h1 := (xS b, I, L, xP b)) rfl trivial ?_
      refine xw_if (fun c_155 => ?_) (fun c_155 => ?_)
      · skip
        refine xw_go xb_30 1 (f1 := (163, [.ref 0, .int (nI c), .int (nI 4)], [.int 0])) (h1 := (xS b, I, L, xP b)) rfl trivial ?_
        refine xw_ret xb_30 rfl rfl trivial ?_
        simp only [xB_eq0] at c_155
        first | (rw [c_155]; exact xQC_same hP) | (rw [show xs_wrong (N (31 + c)) (N (95 + c)) (N 7) (N 8) = true by simpa using c_155]; exact xQC_same hP)
      · skip
        refine xw_go xb_30 2 (f1 := (163, [.ref 0, .int (nI c), .int (nI 4)], [.int 1])) (h1 := (xS b, I, L, xP b)) rfl trivial ?_
        refine xw_ret xb_30 rfl rfl trivial ?_
        simp only [xB_eq0] at c_155
        first | (rw [c_155]; exact xQC_same hP) | (rw [show xs_wrong (N (31 + c)) (N (95 + c)) (N 7) (N 8) = true by simpa using c_155]; exact xQC_same hP)
    refine xw_at (f' := (164, [.ref 0, .int (nI c), .int (nI 4)], [])) (h' := (xS b, I, L, xP b)) rfl rfl ?_
    exfalso
    try simp only [xB_dec, Classical.not_not] at c_8 c_14_0 c_14_1 c_14_2 c_14_3 c_14_4
    try simp (disch := omega) only [xt_eq, xt_lt, xt_le, xkt_0, xkt_1, xkt_2, xkt_3, xkt_4, xkt_5, xkt_6, xkt_7, xkt_8, xkt_9, xkt_10, xkt_11, xkt_12, xkt_13, xkt_14, xkt_16, xkt_20, xkt_24, xkt_31, xkt_32, xkt_40, xkt_44, xkt_47, xkt_48, xkt_57, xkt_59, xkt_60, xkt_63, xkt_64, xkt_65, xkt_72, xkt_95, xkt_99, xkt_100, xkt_101, xkt_103, xkt_110, xkt_112, xkt_113, xkt_114, xkt_119, xkt_126, xkt_159, xkt_576, xkt_999, xkt_9999, xkt_65536, xkt_999999, xkt_m1, xkt_m2, xkt_m3, xkt_m4, xkt_m11, xkt_m12, xkt_m13, xkt_m14, xkt_m20, xjt_0, xjt_1, xjt_2, xjt_3, xjt_4, xjt_5, xjt_6, xjt_7, xjt_8, xjt_9, xjt_10, xjt_11, xjt_12, xjt_13, xjt_14, xjt_16, xjt_20, xjt_24, xjt_31, xjt_32, xjt_40, xjt_44, xjt_47, xjt_48, xjt_57, xjt_59, xjt_60, xjt_63, xjt_64, xjt_65, xjt_72, xjt_95, xjt_99, xjt_100, xjt_101, xjt_103, xjt_110, xjt_112, xjt_113, xjt_114, xjt_119, xjt_126, xjt_159, xjt_576, xjt_999, xjt_9999, xjt_65536, xjt_999999, xt64, xt_n, not_true_eq_false, not_false_eq_true, Classical.not_not] at c_8 c_14_0 c_14_1 c_14_2 c_14_3 c_14_4
    all_goals omega
  · skip
    exfalso
    try simp only [xB_dec, Classical.not_not] at c_8
    try simp (disch := omega) only [xt_eq, xt_lt, xt_le, xkt_0, xkt_1, xkt_2, xkt_3, xkt_4, xkt_5, xkt_6, xkt_7, xkt_8, xkt_9, xkt_10, xkt_11, xkt_12, xkt_13, xkt_14, xkt_16, xkt_20, xkt_24, xkt_31, xkt_32, xkt_40, xkt_44, xkt_47, xkt_48, xkt_57, xkt_59, xkt_60, xkt_63, xkt_64, xkt_65, xkt_72, xkt_95, xkt_99, xkt_100, xkt_101, xkt_103, xkt_110, xkt_112, xkt_113, xkt_114, xkt_119, xkt_126, xkt_159, xkt_576, xkt_999, xkt_9999, xkt_65536, xkt_999999, xkt_m1, xkt_m2, xkt_m3, xkt_m4, xkt_m11, xkt_m12, xkt_m13, xkt_m14, xkt_m20, xjt_0, xjt_1, xjt_2, xjt_3, xjt_4, xjt_5, xjt_6, xjt_7, xjt_8, xjt_9, xjt_10, xjt_11, xjt_12, xjt_13, xjt_14, xjt_16, xjt_20, xjt_24, xjt_31, xjt_32, xjt_40, xjt_44, xjt_47, xjt_48, xjt_57, xjt_59, xjt_60, xjt_63, xjt_64, xjt_65, xjt_72, xjt_95, xjt_99, xjt_100, xjt_101, xjt_103, xjt_110, xjt_112, xjt_113, xjt_114, xjt_119, xjt_126, xjt_159, xjt_576, xjt_999, xjt_9999, xjt_65536, xjt_999999, xt64, xt_n, not_true_eq_false, not_false_eq_true, Classical.not_not] at c_8
    all_goals omega

def xtl (fv so : Nat → Nat) (C q : Nat) : Nat → Nat
  | 0 => 0
  | r + 1 => xtk fv so C (r * C + q)
set_option maxHeartbeats 4000000 in
theorem m_takesNow {d : Nat} {b : Bool} {I : Nat → Nat → Int32} {L : Nat → Nat → Int64} {N : Nat → Nat} (hM : xMN N I) (hO : xOK N) {c : Nat} (hc : c < N 0 * N 1) {x1 : Int32} (e_x1 : x1 = nI c) : xm_Z (d + 4) 123 [.ref 60, .int x1] (xS b, I, L, xP b) (fun rz hz => rz = some (.int (nI (xta N (N 3) (N 5) c))) ∧ ∃ X, hz = (xS b, va_up I 62 X, L, xP b)) := by
  subst e_x1
  have hb := hO.1
  have c64 : N 0 * N 1 ≤ 64 := xce_le hO
  refine xw_S xb_123 (l := [.ref 60, .int (nI c), .float 0, .float 0, .float 0, .float 0]) (Nat.le_of_ble_eq_true rfl) rfl ?_
  refine xw_go xb_123 9 (f1 := (13, [.ref 60, .int (nI c), .float 0, .float 0, .float 0, .float 0], [.int (I 61 (5 : Int32).toNatClampNeg), .int (I 61 (3 : Int32).toNatClampNeg), .ref 60])) (h1 := (xS b, I, L, xP b)) rfl ⟨rfl, (xn_ar (n := 3) (N := 159) rfl (by decide) (by decide)), rfl, (xn_ar (n := 5) (N := 159) rfl (by decide) (by decide)), trivial⟩ ?_
  refine xw_call xb_123 rfl rfl rfl rfl rfl (Or.inr ⟨_, _, rfl, rfl⟩) (m_rains (I := I) hM hO (o := N 3) (wi := N 5) (xOn32 hO) (by omega) (hM 3 (by decide)) (hM 5 (by decide))) ?_
  rintro _ _ ⟨rfl, X, rfl, hX⟩
  refine xw_at (f' := (16, [.ref 60, .int (nI c), .float 0, .float 0, .float 0, .float 0], [])) (h' := (xS b, va_up I 62 X, L, xP b)) rfl rfl ?_
  refine xw_go xb_123 11 (f1 := (30, [.ref 60, .int (nI c), .int 0, .int 0, .int ((nI c) - (nI c) / ((va_up I 62 X) 61 (1 : Int32).toNatClampNeg) * ((va_up I 62 X) 61 (1 : Int32).toNatClampNeg)), .float 0], [])) (h1 := (xS b, va_up I 62 X, L, xP b)) rfl ⟨rfl, (xn_ar (n := 1) (N := 159) rfl (by decide) (by decide)), (by show ¬ I 61 1 = 0; rw [hM 1 (by decide)]; exact xn_ne (by omega) (by omega)), trivial⟩ ?_
  refine xw_at (f' := (30, [.ref 60, .int (nI c), .int (nI (xro (xfa N (N 3) (N 5)) (xso N) (N 1) 0 (c % N 1))), .int (nI (xtl (xfa N (N 3) (N 5)) (xso N) (N 1) (c % N 1) 0)), .int (nI (0 * N 1 + c % N 1)), .float 0], [])) (h' := (xS b, va_up I 62 X, L, xP b)) ?_ rfl ?_
  · have e1 : (va_up I 62 X) 61 (1 : Int32).toNatClampNeg = nI (N 1) := hM 1 (by decide)
    rw [e1, xn_rem (by omega) (by omega) (by omega), Nat.zero_mul, Nat.zero_add]
    rfl
  refine xw_loop (c / N 1 + 1) (fun r => (30, [.ref 60, .int (nI c), .int (nI (xro (xfa N (N 3) (N 5)) (xso N) (N 1) r (c % N 1))), .int (nI (xtl (xfa N (N 3) (N 5)) (xso N) (N 1) (c % N 1) r)), .int (nI (r * N 1 + c % N 1)), .float 0], [])) (fun r => (xS b, va_up I 62 X, L, xP b)) (fun r hr ih => ?_) ?_ 0 (Nat.zero_le _)
  · have hd0 : r * N 1 ≤ c / N 1 * N 1 := Nat.mul_le_mul_right _ (by omega)
    have hd1 : c / N 1 * N 1 + c % N 1 = c := by rw [Nat.mul_comm]; exact Nat.div_add_mod c (N 1)
    have hq : c % N 1 < N 1 := Nat.mod_lt _ (by omega)
    have hr0 : c / N 1 < N 0 := (Nat.div_lt_iff_lt_mul (by omega)).mpr hc
    obtain ⟨e1, e2⟩ := xrow_div (C := N 1) (r := r) (q := c % N 1) hq
    have hj : r * N 1 + c % N 1 < xce N := by show _ < N 0 * N 1; omega
    have f1 := xfa_le hO (N 3) (N 5) (r * N 1 + c % N 1)
    have f2 := xro_le (so := xso N) (R := N 0) (C := N 1) (M := 180) (fun j _ => xfa_le hO (N 3) (N 5) j) r (c % N 1) (by omega) hq
    have f3 : r * 180 ≤ 8 * 180 := Nat.mul_le_mul_right 180 (by omega)
    have f4 := xs_tk_le (N (31 + (r * N 1 + c % N 1))) (xfa N (N 3) (N 5) (r * N 1 + c % N 1) + xro (xfa N (N 3) (N 5)) (xso N) (N 1) r (c % N 1))
    refine xw_go xb_123 3 (f1 := (if (nI c) < (nI (r * N 1 + c % N 1)) then 75 else 36, [.ref 60, .int (nI c), .int (nI (xro (xfa N (N 3) (N 5)) (xso N) (N 1) r (c % N 1))), .int (nI (xtl (xfa N (N 3) (N 5)) (xso N) (N 1) (c % N 1) r)), .int (nI (r * N 1 + c % N 1)), .float 0], [])) (h1 := (xS b, va_up I 62 X, L, xP b)) rfl trivial ?_
    refine xw_if (fun c_33 => ?_) (fun c_33 => ?_)
    · skip
      exfalso
      simp (disch := omega) only [nI_ltI] at c_33
      omega
    · skip
      refine xw_go xb_123 7 (f1 := (47, [.ref 60, .int (nI c), .int (nI (xro (xfa N (N 3) (N 5)) (xso N) (N 1) r (c % N 1))), .int (nI (xtl (xfa N (N 3) (N 5)) (xso N) (N 1) (c % N 1) r)), .int (nI (r * N 1 + c % N 1)), .int (((va_up I 62 X) 62 (nI (r * N 1 + c % N 1)).toNatClampNeg) + (nI (xro (xfa N (N 3) (N 5)) (xso N) (N 1) r (c % N 1))))], [])) (h1 := (xS b, va_up I 62 X, L, xP b)) rfl ⟨rfl, (xn_ar (n := r * N 1 + c % N 1) (N := 64) rfl (by show _ < 64; have : r * N 1 + c % N 1 < N 0 * N 1 := hj; omega) (by decide)), trivial⟩ ?_
      refine xw_cong (l' := [.ref 60, .int (nI c), .int (nI (xro (xfa N (N 3) (N 5)) (xso N) (N 1) r (c % N 1))), .int (nI (xtl (xfa N (N 3) (N 5)) (xso N) (N 1) (c % N 1) r)), .int (nI (r * N 1 + c % N 1)), .int (nI (xfa N (N 3) (N 5) (r * N 1 + c % N 1) + xro (xfa N (N 3) (N 5)) (xso N) (N 1) r (c % N 1)))]) (st' := []) (h' := (xS b, va_up I 62 X, L, xP b)) (show ([.ref 60, .int (nI c), .int (nI (xro (xfa N (N 3) (N 5)) (xso N) (N 1) r (c % N 1))), .int (nI (xtl (xfa N (N 3) (N 5)) (xso N) (N 1) (c % N 1) r)), .int (nI (r * N 1 + c % N 1)), .int (((va_up I 62 X) 62 (nI (r * N 1 + c % N 1)).toNatClampNeg) + (nI (xro (xfa N (N 3) (N 5)) (xso N) (N 1) r (c % N 1))))] : List Value) = [.ref 60, .int (nI c), .int (nI (xro (xfa N (N 3) (N 5)) (xso N) (N 1) r (c % N 1))), .int (nI (xtl (xfa N (N 3) (N 5)) (xso N) (N 1) (c % N 1) r)), .int (nI (r * N 1 + c % N 1)), .int (nI (xfa N (N 3) (N 5) (r * N 1 + c % N 1) + xro (xfa N (N 3) (N 5)) (xso N) (N 1) r (c % N 1)))] from ?_) rfl rfl ?_
      · have e0 : (va_up I 62 X) 62 (nI (r * N 1 + c % N 1)).toNatClampNeg = nI (xfa N (N 3) (N 5) (r * N 1 + c % N 1)) := by
          rw [xn_cl (by omega)]
          exact hX _ hj
        rw [e0, nI_add]
      refine xw_go xb_123 3 (f1 := (52, [.ref 60, .int (nI c), .int (nI (xro (xfa N (N 3) (N 5)) (xso N) (N 1) r (c % N 1))), .int (nI (xtl (xfa N (N 3) (N 5)) (xso N) (N 1) (c % N 1) r)), .int (nI (r * N 1 + c % N 1)), .int (nI (xfa N (N 3) (N 5) (r * N 1 + c % N 1) + xro (xfa N (N 3) (N 5)) (xso N) (N 1) r (c % N 1)))], [.int (nI (xfa N (N 3) (N 5) (r * N 1 + c % N 1) + xro (xfa N (N 3) (N 5)) (xso N) (N 1) r (c % N 1))), .int (nI (r * N 1 + c % N 1)), .ref 60])) (h1 := (xS b, va_up I 62 X, L, xP b)) rfl trivial ?_
      refine xw_call xb_123 rfl rfl rfl rfl rfl (Or.inr ⟨_, _, rfl, rfl⟩) (m_takes (I := (va_up I 62 X)) hM (c := r * N 1 + c % N 1) (w := xfa N (N 3) (N 5) (r * N 1 + c % N 1) + xro (xfa N (N 3) (N 5)) (xso N) (N 1) r (c % N 1)) (by have : r * N 1 + c % N 1 < N 0 * N 1 := hj; omega) (hO.2.1 _ (by have : r * N 1 + c % N 1 < N 0 * N 1 := hj; omega)) (by omega) rfl rfl) ?_
      rintro _ _ ⟨rfl, rfl⟩
      refine xw_at (f' := (55, [.ref 60, .int (nI c), .int (nI (xro (xfa N (N 3) (N 5)) (xso N) (N 1) r (c % N 1))), .int (nI (xtl (xfa N (N 3) (N 5)) (xso N) (N 1) (c % N 1) r)), .int (nI (r * N 1 + c % N 1)), .int (nI (xfa N (N 3) (N 5) (r * N 1 + c % N 1) + xro (xfa N (N 3) (N 5)) (xso N) (N 1) r (c % N 1)))], [.int (nI (xs_tk (N (31 + (r * N 1 + c % N 1))) (xfa N (N 3) (N 5) (r * N 1 + c % N 1) + xro (xfa N (N 3) (N 5)) (xso N) (N 1) r (c % N 1))))])) (h' := (xS b, va_up I 62 X, L, xP b)) rfl rfl ?_
      refine xw_go xb_123 13 (f1 := (30, [.ref 60, .int (nI c), .int ((nI (xfa N (N 3) (N 5) (r * N 1 + c % N 1) + xro (xfa N (N 3) (N 5)) (xso N) (N 1) r (c % N 1))) - (nI (xs_tk (N (31 + (r * N 1 + c % N 1))) (xfa N (N 3) (N 5) (r * N 1 + c % N 1) + xro (xfa N (N 3) (N 5)) (xso N) (N 1) r (c % N 1))))), .int (nI (xs_tk (N (31 + (r * N 1 + c % N 1))) (xfa N (N 3) (N 5) (r * N 1 + c % N 1) + xro (xfa N (N 3) (N 5)) (xso N) (N 1) r (c % N 1)))), .int ((nI (r * N 1 + c % N 1)) + ((va_up I 62 X) 61 (1 : Int32).toNatClampNeg)), .int (nI (xfa N (N 3) (N 5) (r * N 1 + c % N 1) + xro (xfa N (N 3) (N 5)) (xso N) (N 1) r (c % N 1)))], [])) (h1 := (xS b, va_up I 62 X, L, xP b)) rfl ⟨rfl, (xn_ar (n := 1) (N := 159) rfl (by decide) (by decide)), trivial⟩ ?_
      refine xw_fg (l0 := [.ref 60, .int (nI c), .int ((nI (xfa N (N 3) (N 5) (r * N 1 + c % N 1) + xro (xfa N (N 3) (N 5)) (xso N) (N 1) r (c % N 1))) - (nI (xs_tk (N (31 + (r * N 1 + c % N 1))) (xfa N (N 3) (N 5) (r * N 1 + c % N 1) + xro (xfa N (N 3) (N 5)) (xso N) (N 1) r (c % N 1))))), .int (nI (xs_tk (N (31 + (r * N 1 + c % N 1))) (xfa N (N 3) (N 5) (r * N 1 + c % N 1) + xro (xfa N (N 3) (N 5)) (xso N) (N 1) r (c % N 1)))), .int ((nI (r * N 1 + c % N 1)) + ((va_up I 62 X) 61 (1 : Int32).toNatClampNeg)), .float 0]) ⟨Or.inr rfl, Or.inr rfl, Or.inr rfl, Or.inr rfl, Or.inr rfl, Or.inl rfl, trivial⟩ ?_
      refine xw_cong ?_ rfl rfl ih
      have e3 : (va_up I 62 X) 61 (1 : Int32).toNatClampNeg = nI (N 1) := hM 1 (by decide)
      rw [e3, xn_sub f4, nI_add]
      have e4 : r * N 1 + c % N 1 + N 1 = (r + 1) * N 1 + c % N 1 := by rw [Nat.succ_mul]; omega
      have e5 : xtl (xfa N (N 3) (N 5)) (xso N) (N 1) (c % N 1) (r + 1) = xs_tk (N (31 + (r * N 1 + c % N 1))) (xfa N (N 3) (N 5) (r * N 1 + c % N 1) + xro (xfa N (N 3) (N 5)) (xso N) (N 1) r (c % N 1)) := by
        show xtk (xfa N (N 3) (N 5)) (xso N) (N 1) (r * N 1 + c % N 1) = _
        unfold xtk
        rw [e1, e2]
        rfl
      rw [e4, e5]
      rfl
  · have hd1 : c / N 1 * N 1 + c % N 1 = c := by rw [Nat.mul_comm]; exact Nat.div_add_mod c (N 1)
    have hd2 : (c / N 1 + 1) * N 1 = c / N 1 * N 1 + N 1 := Nat.succ_mul _ _
    refine xw_go xb_123 3 (f1 := (if (nI c) < (nI ((c / N 1 + 1) * N 1 + c % N 1)) then 75 else 36, [.ref 60, .int (nI c), .int (nI (xro (xfa N (N 3) (N 5)) (xso N) (N 1) (c / N 1 + 1) (c % N 1))), .int (nI (xtl (xfa N (N 3) (N 5)) (xso N) (N 1) (c % N 1) (c / N 1 + 1))), .int (nI ((c / N 1 + 1) * N 1 + c % N 1)), .float 0], [])) (h1 := (xS b, va_up I 62 X, L, xP b)) rfl trivial ?_
    refine xw_if (fun c_33 => ?_) (fun c_33 => ?_)
    · skip
      refine xw_go xb_123 1 (f1 := (76, [.ref 60, .int (nI c), .int (nI (xro (xfa N (N 3) (N 5)) (xso N) (N 1) (c / N 1 + 1) (c % N 1))), .int (nI (xtl (xfa N (N 3) (N 5)) (xso N) (N 1) (c % N 1) (c / N 1 + 1))), .int (nI ((c / N 1 + 1) * N 1 + c % N 1)), .float 0], [.int (nI (xtl (xfa N (N 3) (N 5)) (xso N) (N 1) (c % N 1) (c / N 1 + 1)))])) (h1 := (xS b, va_up I 62 X, L, xP b)) rfl trivial ?_
      refine xw_ret xb_123 rfl rfl trivial ?_
      refine ⟨xm_some (congrArg Value.int (congrArg nI ?_)), X, rfl⟩
      show xtk (xfa N (N 3) (N 5)) (xso N) (N 1) (c / N 1 * N 1 + c % N 1) = _
      rw [hd1]
      rfl
    · skip
      exfalso
      simp (disch := omega) only [nI_ltI] at c_33
      omega

theorem m_cell0 {d : Nat} {b : Bool} {I : Nat → Nat → Int32} {L : Nat → Nat → Int64} {N : Nat → Nat} {u : Nat} {U : Nat → Nat → Nat} (hM : xML N u U I) (hK : xUK N u U) {x y : Int32} (hx : ¬ (0 ≤ x.toInt ∧ x.toInt < ((N 0 * N 1 : Nat) : Int) ∧ 0 ≤ y.toInt ∧ y.toInt ≤ 4)) : xm_Z (d + 5) 121 [.ref 60, .int x, .int y] (xS b, I, L, xP b) (fun rz hz => xQM b I L (-1) N u U rz hz) := by
  have hO := hK.1
  have hb := hK.1.1
  have c64 : N 0 * N 1 ≤ 64 := xce_le hO
  have c4 : 4 ≤ N 0 * N 1 := xce_ge hO
  refine xw_S xb_121 (l := [.ref 60, .int x, .int y]) (Nat.le_of_ble_eq_true rfl) rfl ?_
  refine xw_go xb_121 2 (f1 := (2, [.ref 60, .int x, .int y], [.int x, .ref 60])) (h1 := (xS b, I, L, xP b)) rfl trivial ?_
  refine xw_call xb_121 rfl rfl rfl rfl rfl (Or.inr ⟨_, _, rfl, rfl⟩) (m_isCell (I := I) hM.1 hO) ?_
  rintro _ _ ⟨rfl, rfl⟩
  refine xw_at (f' := (5, [.ref 60, .int x, .int y], [.int (nI (xB (decide (0 ≤ x.toInt ∧ x.toInt < ((N 0 * N 1 : Nat) : Int)))))])) (h' := (xS b, I, L, xP b)) rfl rfl ?_
  refine xw_go xb_121 1 (f1 := (if (nI (xB (decide (0 ≤ x.toInt ∧ x.toInt < ((N 0 * N 1 : Nat) : Int))))) = 0 then 20 else 8, [.ref 60, .int x, .int y], [])) (h1 := (xS b, I, L, xP b)) rfl trivial ?_
  refine xw_if (fun c_5 => ?_) (fun c_5 => ?_)
  · skip
    refine xw_go xb_121 1 (f1 := (21, [.ref 60, .int x, .int y], [.int (-1)])) (h1 := (xS b, I, L, xP b)) rfl trivial ?_
    refine xw_ret xb_121 rfl rfl trivial ?_
    exact xQM_same hM
  · skip
    refine xw_go xb_121 4 (f1 := (14, [.ref 60, .int x, .int y], [.long 4, .long 0, .long y.toInt64])) (h1 := (xS b, I, L, xP b)) rfl trivial ?_
    refine xw_call xb_121 rfl rfl rfl rfl rfl (Or.inl rfl) m_in ?_
    rintro _ _ ⟨rfl, rfl⟩
    refine xw_at (f' := (17, [.ref 60, .int x, .int y], [.int (nI (xB (decide ((0 : Int64).toInt ≤ y.toInt64.toInt ∧ y.toInt64.toInt ≤ (4 : Int64).toInt))))])) (h' := (xS b, I, L, xP b)) rfl rfl ?_
    refine xw_go xb_121 1 (f1 := (if ¬ (nI (xB (decide ((0 : Int64).toInt ≤ y.toInt64.toInt ∧ y.toInt64.toInt ≤ (4 : Int64).toInt)))) = 0 then 22 else 20, [.ref 60, .int x, .int y], [])) (h1 := (xS b, I, L, xP b)) rfl trivial ?_
    refine xw_if (fun c_17 => ?_) (fun c_17 => ?_)
    · skip
      exfalso
      try simp only [xB_dec, Classical.not_not] at c_5 c_17
      try simp (disch := omega) only [xt_eq, xt_lt, xt_le, xkt_0, xkt_1, xkt_2, xkt_3, xkt_4, xkt_5, xkt_6, xkt_7, xkt_8, xkt_9, xkt_10, xkt_11, xkt_12, xkt_13, xkt_14, xkt_16, xkt_20, xkt_24, xkt_31, xkt_32, xkt_40, xkt_44, xkt_47, xkt_48, xkt_57, xkt_59, xkt_60, xkt_63, xkt_64, xkt_65, xkt_72, xkt_95, xkt_99, xkt_100, xkt_101, xkt_103, xkt_110, xkt_112, xkt_113, xkt_114, xkt_119, xkt_126, xkt_159, xkt_576, xkt_999, xkt_9999, xkt_65536, xkt_999999, xkt_m1, xkt_m2, xkt_m3, xkt_m4, xkt_m11, xkt_m12, xkt_m13, xkt_m14, xkt_m20, xjt_0, xjt_1, xjt_2, xjt_3, xjt_4, xjt_5, xjt_6, xjt_7, xjt_8, xjt_9, xjt_10, xjt_11, xjt_12, xjt_13, xjt_14, xjt_16, xjt_20, xjt_24, xjt_31, xjt_32, xjt_40, xjt_44, xjt_47, xjt_48, xjt_57, xjt_59, xjt_60, xjt_63, xjt_64, xjt_65, xjt_72, xjt_95, xjt_99, xjt_100, xjt_101, xjt_103, xjt_110, xjt_112, xjt_113, xjt_114, xjt_119, xjt_126, xjt_159, xjt_576, xjt_999, xjt_9999, xjt_65536, xjt_999999, xt64, xt_n, not_true_eq_false, not_false_eq_true, Classical.not_not] at c_5 c_17
      all_goals omega
    · skip
      refine xw_go xb_121 1 (f1 := (21, [.ref 60, .int x, .int y], [.int (-1)])) (h1 := (xS b, I, L, xP b)) rfl trivial ?_
      refine xw_ret xb_121 rfl rfl trivial ?_
      exact xQM_same hM

theorem m_cell10 {d : Nat} {b : Bool} {I : Nat → Nat → Int32} {L : Nat → Nat → Int64} {N : Nat → Nat} {u : Nat} {U : Nat → Nat → Nat} (hM : xML N u U I) (hK : xUK N u U) {c : Nat} (hc : c < N 0 * N 1) {x : Int32} (e_x : x = nI c) {y : Int32} (e_y : y = nI 0) : xm_Z (d + 5) 121 [.ref 60, .int x, .int y] (xS b, I, L, xP b) (fun rz hz => xQM b I L (nI (N (31 + c))) N u U rz hz) := by
  subst e_x
  subst e_y
  have hO := hK.1
  have hb := hK.1.1
  have c64 : N 0 * N 1 ≤ 64 := xce_le hO
  have c4 : 4 ≤ N 0 * N 1 := xce_ge hO
  refine xw_S xb_121 (l := [.ref 60, .int (nI c), .int (nI 0)]) (Nat.le_of_ble_eq_true rfl) rfl ?_
  refine xw_go xb_121 2 (f1 := (2, [.ref 60, .int (nI c), .int (nI 0)], [.int (nI c), .ref 60])) (h1 := (xS b, I, L, xP b)) rfl trivial ?_
  refine xw_call xb_121 rfl rfl rfl rfl rfl (Or.inr ⟨_, _, rfl, rfl⟩) (m_isCell (I := I) hM.1 hO) ?_
  rintro _ _ ⟨rfl, rfl⟩
  refine xw_at (f' := (5, [.ref 60, .int (nI c), .int (nI 0)], [.int (nI (xB (decide (0 ≤ (nI c).toInt ∧ (nI c).toInt < ((N 0 * N 1 : Nat) : Int)))))])) (h' := (xS b, I, L, xP b)) rfl rfl ?_
  refine xw_go xb_121 1 (f1 := (if (nI (xB (decide (0 ≤ (nI c).toInt ∧ (nI c).toInt < ((N 0 * N 1 : Nat) : Int))))) = 0 then 20 else 8, [.ref 60, .int (nI c), .int (nI 0)], [])) (h1 := (xS b, I, L, xP b)) rfl trivial ?_
  refine xw_if (fun c_5 => ?_) (fun c_5 => ?_)
  · skip
    exfalso
    try simp only [xB_dec, Classical.not_not] at c_5
    try simp (disch := omega) only [xt_eq, xt_lt, xt_le, xkt_0, xkt_1, xkt_2, xkt_3, xkt_4, xkt_5, xkt_6, xkt_7, xkt_8, xkt_9, xkt_10, xkt_11, xkt_12, xkt_13, xkt_14, xkt_16, xkt_20, xkt_24, xkt_31, xkt_32, xkt_40, xkt_44, xkt_47, xkt_48, xkt_57, xkt_59, xkt_60, xkt_63, xkt_64, xkt_65, xkt_72, xkt_95, xkt_99, xkt_100, xkt_101, xkt_103, xkt_110, xkt_112, xkt_113, xkt_114, xkt_119, xkt_126, xkt_159, xkt_576, xkt_999, xkt_9999, xkt_65536, xkt_999999, xkt_m1, xkt_m2, xkt_m3, xkt_m4, xkt_m11, xkt_m12, xkt_m13, xkt_m14, xkt_m20, xjt_0, xjt_1, xjt_2, xjt_3, xjt_4, xjt_5, xjt_6, xjt_7, xjt_8, xjt_9, xjt_10, xjt_11, xjt_12, xjt_13, xjt_14, xjt_16, xjt_20, xjt_24, xjt_31, xjt_32, xjt_40, xjt_44, xjt_47, xjt_48, xjt_57, xjt_59, xjt_60, xjt_63, xjt_64, xjt_65, xjt_72, xjt_95, xjt_99, xjt_100, xjt_101, xjt_103, xjt_110, xjt_112, xjt_113, xjt_114, xjt_119, xjt_126, xjt_159, xjt_576, xjt_999, xjt_9999, xjt_65536, xjt_999999, xt64, xt_n, not_true_eq_false, not_false_eq_true, Classical.not_not] at c_5
    all_goals omega
  · skip
    refine xw_go xb_121 4 (f1 := (14, [.ref 60, .int (nI c), .int (nI 0)], [.long 4, .long 0, .long ((nI 0).toInt64)])) (h1 := (xS b, I, L, xP b)) rfl trivial ?_
    refine xw_call xb_121 rfl rfl rfl rfl rfl (Or.inl rfl) m_in ?_
    rintro _ _ ⟨rfl, rfl⟩
    refine xw_at (f' := (17, [.ref 60, .int (nI c), .int (nI 0)], [.int (nI (xB (decide ((0 : Int64).toInt ≤ (nI 0).toInt64.toInt ∧ (nI 0).toInt64.toInt ≤ (4 : Int64).toInt))))])) (h' := (xS b, I, L, xP b)) rfl rfl ?_
    refine xw_go xb_121 1 (f1 := (if ¬ (nI (xB (decide ((0 : Int64).toInt ≤ (nI 0).toInt64.toInt ∧ (nI 0).toInt64.toInt ≤ (4 : Int64).toInt)))) = 0 then 22 else 20, [.ref 60, .int (nI c), .int (nI 0)], [])) (h1 := (xS b, I, L, xP b)) rfl trivial ?_
    refine xw_if (fun c_17 => ?_) (fun c_17 => ?_)
    · skip
      refine xw_go xb_121 2 (f1 := (xm_sw [(0, 52), (1, 62), (2, 72), (3, 95)] 101 (nI 0), [.ref 60, .int (nI c), .int (nI 0)], [])) (h1 := (xS b, I, L, xP b)) rfl trivial ?_
      refine xw_if (fun c_23_0 => ?_) (fun c_23_0 => ?_)
      · skip
        refine xw_go xb_121 6 (f1 := (61, [.ref 60, .int (nI c), .int (nI 0)], [.int (I 61 (31 + (nI c)).toNatClampNeg)])) (h1 := (xS b, I, L, xP b)) rfl ⟨rfl, (xn_ar' (n := 31 + c) (N := 159) rfl (show 31 + nI c = _ by rw [xl_31, nI_add]) (by omega) (by decide)), trivial⟩ ?_
        refine xw_ret xb_121 rfl rfl trivial ?_
        rw [xl_31, nI_add, xn_cl (by omega), hM.1 _ (by omega)]
        exact xQM_same hM
      refine xw_if (fun c_23_1 => ?_) (fun c_23_1 => ?_)
      · skip
        exfalso
        try simp only [xB_dec, Classical.not_not] at c_5 c_17 c_23_0 c_23_1
        try simp (disch := omega) only [xt_eq, xt_lt, xt_le, xkt_0, xkt_1, xkt_2, xkt_3, xkt_4, xkt_5, xkt_6, xkt_7, xkt_8, xkt_9, xkt_10, xkt_11, xkt_12, xkt_13, xkt_14, xkt_16, xkt_20, xkt_24, xkt_31, xkt_32, xkt_40, xkt_44, xkt_47, xkt_48, xkt_57, xkt_59, xkt_60, xkt_63, xkt_64, xkt_65, xkt_72, xkt_95, xkt_99, xkt_100, xkt_101, xkt_103, xkt_110, xkt_112, xkt_113, xkt_114, xkt_119, xkt_126, xkt_159, xkt_576, xkt_999, xkt_9999, xkt_65536, xkt_999999, xkt_m1, xkt_m2, xkt_m3, xkt_m4, xkt_m11, xkt_m12, xkt_m13, xkt_m14, xkt_m20, xjt_0, xjt_1, xjt_2, xjt_3, xjt_4, xjt_5, xjt_6, xjt_7, xjt_8, xjt_9, xjt_10, xjt_11, xjt_12, xjt_13, xjt_14, xjt_16, xjt_20, xjt_24, xjt_31, xjt_32, xjt_40, xjt_44, xjt_47, xjt_48, xjt_57, xjt_59, xjt_60, xjt_63, xjt_64, xjt_65, xjt_72, xjt_95, xjt_99, xjt_100, xjt_101, xjt_103, xjt_110, xjt_112, xjt_113, xjt_114, xjt_119, xjt_126, xjt_159, xjt_576, xjt_999, xjt_9999, xjt_65536, xjt_999999, xt64, xt_n, not_true_eq_false, not_false_eq_true, Classical.not_not] at c_5 c_17 c_23_0 c_23_1
        all_goals omega
      refine xw_if (fun c_23_2 => ?_) (fun c_23_2 => ?_)
      · skip
        exfalso
        try simp only [xB_dec, Classical.not_not] at c_5 c_17 c_23_0 c_23_1 c_23_2
        try simp (disch := omega) only [xt_eq, xt_lt, xt_le, xkt_0, xkt_1, xkt_2, xkt_3, xkt_4, xkt_5, xkt_6, xkt_7, xkt_8, xkt_9, xkt_10, xkt_11, xkt_12, xkt_13, xkt_14, xkt_16, xkt_20, xkt_24, xkt_31, xkt_32, xkt_40, xkt_44, xkt_47, xkt_48, xkt_57, xkt_59, xkt_60, xkt_63, xkt_64, xkt_65, xkt_72, xkt_95, xkt_99, xkt_100, xkt_101, xkt_103, xkt_110, xkt_112, xkt_113, xkt_114, xkt_119, xkt_126, xkt_159, xkt_576, xkt_999, xkt_9999, xkt_65536, xkt_999999, xkt_m1, xkt_m2, xkt_m3, xkt_m4, xkt_m11, xkt_m12, xkt_m13, xkt_m14, xkt_m20, xjt_0, xjt_1, xjt_2, xjt_3, xjt_4, xjt_5, xjt_6, xjt_7, xjt_8, xjt_9, xjt_10, xjt_11, xjt_12, xjt_13, xjt_14, xjt_16, xjt_20, xjt_24, xjt_31, xjt_32, xjt_40, xjt_44, xjt_47, xjt_48, xjt_57, xjt_59, xjt_60, xjt_63, xjt_64, xjt_65, xjt_72, xjt_95, xjt_99, xjt_100, xjt_101, xjt_103, xjt_110, xjt_112, xjt_113, xjt_114, xjt_119, xjt_126, xjt_159, xjt_576, xjt_999, xjt_9999, xjt_65536, xjt_999999, xt64, xt_n, not_true_eq_false, not_false_eq_true, Classical.not_not] at c_5 c_17 c_23_0 c_23_1 c_23_2
        all_goals omega
      refine xw_if (fun c_23_3 => ?_) (fun c_23_3 => ?_)
      · skip
        exfalso
        try simp only [xB_dec, Classical.not_not] at c_5 c_17 c_23_0 c_23_1 c_23_2 c_23_3
        try simp (disch := omega) only [xt_eq, xt_lt, xt_le, xkt_0, xkt_1, xkt_2, xkt_3, xkt_4, xkt_5, xkt_6, xkt_7, xkt_8, xkt_9, xkt_10, xkt_11, xkt_12, xkt_13, xkt_14, xkt_16, xkt_20, xkt_24, xkt_31, xkt_32, xkt_40, xkt_44, xkt_47, xkt_48, xkt_57, xkt_59, xkt_60, xkt_63, xkt_64, xkt_65, xkt_72, xkt_95, xkt_99, xkt_100, xkt_101, xkt_103, xkt_110, xkt_112, xkt_113, xkt_114, xkt_119, xkt_126, xkt_159, xkt_576, xkt_999, xkt_9999, xkt_65536, xkt_999999, xkt_m1, xkt_m2, xkt_m3, xkt_m4, xkt_m11, xkt_m12, xkt_m13, xkt_m14, xkt_m20, xjt_0, xjt_1, xjt_2, xjt_3, xjt_4, xjt_5, xjt_6, xjt_7, xjt_8, xjt_9, xjt_10, xjt_11, xjt_12, xjt_13, xjt_14, xjt_16, xjt_20, xjt_24, xjt_31, xjt_32, xjt_40, xjt_44, xjt_47, xjt_48, xjt_57, xjt_59, xjt_60, xjt_63, xjt_64, xjt_65, xjt_72, xjt_95, xjt_99, xjt_100, xjt_101, xjt_103, xjt_110, xjt_112, xjt_113, xjt_114, xjt_119, xjt_126, xjt_159, xjt_576, xjt_999, xjt_9999, xjt_65536, xjt_999999, xt64, xt_n, not_true_eq_false, not_false_eq_true, Classical.not_not] at c_5 c_17 c_23_0 c_23_1 c_23_2 c_23_3
        all_goals omega
      refine xw_at (f' := (101, [.ref 60, .int (nI c), .int (nI 0)], [])) (h' := (xS b, I, L, xP b)) rfl rfl ?_
      exfalso
      try simp only [xB_dec, Classical.not_not] at c_5 c_17 c_23_0 c_23_1 c_23_2 c_23_3
      try simp (disch := omega) only [xt_eq, xt_lt, xt_le, xkt_0, xkt_1, xkt_2, xkt_3, xkt_4, xkt_5, xkt_6, xkt_7, xkt_8, xkt_9, xkt_10, xkt_11, xkt_12, xkt_13, xkt_14, xkt_16, xkt_20, xkt_24, xkt_31, xkt_32, xkt_40, xkt_44, xkt_47, xkt_48, xkt_57, xkt_59, xkt_60, xkt_63, xkt_64, xkt_65, xkt_72, xkt_95, xkt_99, xkt_100, xkt_101, xkt_103, xkt_110, xkt_112, xkt_113, xkt_114, xkt_119, xkt_126, xkt_159, xkt_576, xkt_999, xkt_9999, xkt_65536, xkt_999999, xkt_m1, xkt_m2, xkt_m3, xkt_m4, xkt_m11, xkt_m12, xkt_m13, xkt_m14, xkt_m20, xjt_0, xjt_1, xjt_2, xjt_3, xjt_4, xjt_5, xjt_6, xjt_7, xjt_8, xjt_9, xjt_10, xjt_11, xjt_12, xjt_13, xjt_14, xjt_16, xjt_20, xjt_24, xjt_31, xjt_32, xjt_40, xjt_44, xjt_47, xjt_48, xjt_57, xjt_59, xjt_60, xjt_63, xjt_64, xjt_65, xjt_72, xjt_95, xjt_99, xjt_100, xjt_101, xjt_103, xjt_110, xjt_112, xjt_113, xjt_114, xjt_119, xjt_126, xjt_159, xjt_576, xjt_999, xjt_9999, xjt_65536, xjt_999999, xt64, xt_n, not_true_eq_false, not_false_eq_true, Classical.not_not] at c_5 c_17 c_23_0 c_23_1 c_23_2 c_23_3
      all_goals omega
    · skip
      exfalso
      try simp only [xB_dec, Classical.not_not] at c_5 c_17
      try simp (disch := omega) only [xt_eq, xt_lt, xt_le, xkt_0, xkt_1, xkt_2, xkt_3, xkt_4, xkt_5, xkt_6, xkt_7, xkt_8, xkt_9, xkt_10, xkt_11, xkt_12, xkt_13, xkt_14, xkt_16, xkt_20, xkt_24, xkt_31, xkt_32, xkt_40, xkt_44, xkt_47, xkt_48, xkt_57, xkt_59, xkt_60, xkt_63, xkt_64, xkt_65, xkt_72, xkt_95, xkt_99, xkt_100, xkt_101, xkt_103, xkt_110, xkt_112, xkt_113, xkt_114, xkt_119, xkt_126, xkt_159, xkt_576, xkt_999, xkt_9999, xkt_65536, xkt_999999, xkt_m1, xkt_m2, xkt_m3, xkt_m4, xkt_m11, xkt_m12, xkt_m13, xkt_m14, xkt_m20, xjt_0, xjt_1, xjt_2, xjt_3, xjt_4, xjt_5, xjt_6, xjt_7, xjt_8, xjt_9, xjt_10, xjt_11, xjt_12, xjt_13, xjt_14, xjt_16, xjt_20, xjt_24, xjt_31, xjt_32, xjt_40, xjt_44, xjt_47, xjt_48, xjt_57, xjt_59, xjt_60, xjt_63, xjt_64, xjt_65, xjt_72, xjt_95, xjt_99, xjt_100, xjt_101, xjt_103, xjt_110, xjt_112, xjt_113, xjt_114, xjt_119, xjt_126, xjt_159, xjt_576, xjt_999, xjt_9999, xjt_65536, xjt_999999, xt64, xt_n, not_true_eq_false, not_false_eq_true, Classical.not_not] at c_5 c_17
      all_goals omega

theorem m_cell11 {d : Nat} {b : Bool} {I : Nat → Nat → Int32} {L : Nat → Nat → Int64} {N : Nat → Nat} {u : Nat} {U : Nat → Nat → Nat} (hM : xML N u U I) (hK : xUK N u U) {c : Nat} (hc : c < N 0 * N 1) {x : Int32} (e_x : x = nI c) {y : Int32} (e_y : y = nI 1) : xm_Z (d + 5) 121 [.ref 60, .int x, .int y] (xS b, I, L, xP b) (fun rz hz => xQM b I L (nI (N (95 + c))) N u U rz hz) := by
  subst e_x
  subst e_y
  have hO := hK.1
  have hb := hK.1.1
  have c64 : N 0 * N 1 ≤ 64 := xce_le hO
  have c4 : 4 ≤ N 0 * N 1 := xce_ge hO
  refine xw_S xb_121 (l := [.ref 60, .int (nI c), .int (nI 1)]) (Nat.le_of_ble_eq_true rfl) rfl ?_
  refine xw_go xb_121 2 (f1 := (2, [.ref 60, .int (nI c), .int (nI 1)], [.int (nI c), .ref 60])) (h1 := (xS b, I, L, xP b)) rfl trivial ?_
  refine xw_call xb_121 rfl rfl rfl rfl rfl (Or.inr ⟨_, _, rfl, rfl⟩) (m_isCell (I := I) hM.1 hO) ?_
  rintro _ _ ⟨rfl, rfl⟩
  refine xw_at (f' := (5, [.ref 60, .int (nI c), .int (nI 1)], [.int (nI (xB (decide (0 ≤ (nI c).toInt ∧ (nI c).toInt < ((N 0 * N 1 : Nat) : Int)))))])) (h' := (xS b, I, L, xP b)) rfl rfl ?_
  refine xw_go xb_121 1 (f1 := (if (nI (xB (decide (0 ≤ (nI c).toInt ∧ (nI c).toInt < ((N 0 * N 1 : Nat) : Int))))) = 0 then 20 else 8, [.ref 60, .int (nI c), .int (nI 1)], [])) (h1 := (xS b, I, L, xP b)) rfl trivial ?_
  refine xw_if (fun c_5 => ?_) (fun c_5 => ?_)
  · skip
    exfalso
    try simp only [xB_dec, Classical.not_not] at c_5
    try simp (disch := omega) only [xt_eq, xt_lt, xt_le, xkt_0, xkt_1, xkt_2, xkt_3, xkt_4, xkt_5, xkt_6, xkt_7, xkt_8, xkt_9, xkt_10, xkt_11, xkt_12, xkt_13, xkt_14, xkt_16, xkt_20, xkt_24, xkt_31, xkt_32, xkt_40, xkt_44, xkt_47, xkt_48, xkt_57, xkt_59, xkt_60, xkt_63, xkt_64, xkt_65, xkt_72, xkt_95, xkt_99, xkt_100, xkt_101, xkt_103, xkt_110, xkt_112, xkt_113, xkt_114, xkt_119, xkt_126, xkt_159, xkt_576, xkt_999, xkt_9999, xkt_65536, xkt_999999, xkt_m1, xkt_m2, xkt_m3, xkt_m4, xkt_m11, xkt_m12, xkt_m13, xkt_m14, xkt_m20, xjt_0, xjt_1, xjt_2, xjt_3, xjt_4, xjt_5, xjt_6, xjt_7, xjt_8, xjt_9, xjt_10, xjt_11, xjt_12, xjt_13, xjt_14, xjt_16, xjt_20, xjt_24, xjt_31, xjt_32, xjt_40, xjt_44, xjt_47, xjt_48, xjt_57, xjt_59, xjt_60, xjt_63, xjt_64, xjt_65, xjt_72, xjt_95, xjt_99, xjt_100, xjt_101, xjt_103, xjt_110, xjt_112, xjt_113, xjt_114, xjt_119, xjt_126, xjt_159, xjt_576, xjt_999, xjt_9999, xjt_65536, xjt_999999, xt64, xt_n, not_true_eq_false, not_false_eq_true, Classical.not_not] at c_5
    all_goals omega
  · skip
    refine xw_go xb_121 4 (f1 := (14, [.ref 60, .int (nI c), .int (nI 1)], [.long 4, .long 0, .long ((nI 1).toInt64)])) (h1 := (xS b, I, L, xP b)) rfl trivial ?_
    refine xw_call xb_121 rfl rfl rfl rfl rfl (Or.inl rfl) m_in ?_
    rintro _ _ ⟨rfl, rfl⟩
    refine xw_at (f' := (17, [.ref 60, .int (nI c), .int (nI 1)], [.int (nI (xB (decide ((0 : Int64).toInt ≤ (nI 1).toInt64.toInt ∧ (nI 1).toInt64.toInt ≤ (4 : Int64).toInt))))])) (h' := (xS b, I, L, xP b)) rfl rfl ?_
    refine xw_go xb_121 1 (f1 := (if ¬ (nI (xB (decide ((0 : Int64).toInt ≤ (nI 1).toInt64.toInt ∧ (nI 1).toInt64.toInt ≤ (4 : Int64).toInt)))) = 0 then 22 else 20, [.ref 60, .int (nI c), .int (nI 1)], [])) (h1 := (xS b, I, L, xP b)) rfl trivial ?_
    refine xw_if (fun c_17 => ?_) (fun c_17 => ?_)
    · skip
      refine xw_go xb_121 2 (f1 := (xm_sw [(0, 52), (1, 62), (2, 72), (3, 95)] 101 (nI 1), [.ref 60, .int (nI c), .int (nI 1)], [])) (h1 := (xS b, I, L, xP b)) rfl trivial ?_
      refine xw_if (fun c_23_0 => ?_) (fun c_23_0 => ?_)
      · skip
        exfalso
        try simp only [xB_dec, Classical.not_not] at c_5 c_17 c_23_0
        try simp (disch := omega) only [xt_eq, xt_lt, xt_le, xkt_0, xkt_1, xkt_2, xkt_3, xkt_4, xkt_5, xkt_6, xkt_7, xkt_8, xkt_9, xkt_10, xkt_11, xkt_12, xkt_13, xkt_14, xkt_16, xkt_20, xkt_24, xkt_31, xkt_32, xkt_40, xkt_44, xkt_47, xkt_48, xkt_57, xkt_59, xkt_60, xkt_63, xkt_64, xkt_65, xkt_72, xkt_95, xkt_99, xkt_100, xkt_101, xkt_103, xkt_110, xkt_112, xkt_113, xkt_114, xkt_119, xkt_126, xkt_159, xkt_576, xkt_999, xkt_9999, xkt_65536, xkt_999999, xkt_m1, xkt_m2, xkt_m3, xkt_m4, xkt_m11, xkt_m12, xkt_m13, xkt_m14, xkt_m20, xjt_0, xjt_1, xjt_2, xjt_3, xjt_4, xjt_5, xjt_6, xjt_7, xjt_8, xjt_9, xjt_10, xjt_11, xjt_12, xjt_13, xjt_14, xjt_16, xjt_20, xjt_24, xjt_31, xjt_32, xjt_40, xjt_44, xjt_47, xjt_48, xjt_57, xjt_59, xjt_60, xjt_63, xjt_64, xjt_65, xjt_72, xjt_95, xjt_99, xjt_100, xjt_101, xjt_103, xjt_110, xjt_112, xjt_113, xjt_114, xjt_119, xjt_126, xjt_159, xjt_576, xjt_999, xjt_9999, xjt_65536, xjt_999999, xt64, xt_n, not_true_eq_false, not_false_eq_true, Classical.not_not] at c_5 c_17 c_23_0
        all_goals omega
      refine xw_if (fun c_23_1 => ?_) (fun c_23_1 => ?_)
      · skip
        refine xw_go xb_121 6 (f1 := (71, [.ref 60, .int (nI c), .int (nI 1)], [.int (I 61 (95 + (nI c)).toNatClampNeg)])) (h1 := (xS b, I, L, xP b)) rfl ⟨rfl, (xn_ar' (n := 95 + c) (N := 159) rfl (show 95 + nI c = _ by rw [xl_95, nI_add]) (by omega) (by decide)), trivial⟩ ?_
        refine xw_ret xb_121 rfl rfl trivial ?_
        rw [xl_95, nI_add, xn_cl (by omega), hM.1 _ (by omega)]
        exact xQM_same hM
      refine xw_if (fun c_23_2 => ?_) (fun c_23_2 => ?_)
      · skip
        exfalso
        try simp only [xB_dec, Classical.not_not] at c_5 c_17 c_23_0 c_23_1 c_23_2
        try simp (disch := omega) only [xt_eq, xt_lt, xt_le, xkt_0, xkt_1, xkt_2, xkt_3, xkt_4, xkt_5, xkt_6, xkt_7, xkt_8, xkt_9, xkt_10, xkt_11, xkt_12, xkt_13, xkt_14, xkt_16, xkt_20, xkt_24, xkt_31, xkt_32, xkt_40, xkt_44, xkt_47, xkt_48, xkt_57, xkt_59, xkt_60, xkt_63, xkt_64, xkt_65, xkt_72, xkt_95, xkt_99, xkt_100, xkt_101, xkt_103, xkt_110, xkt_112, xkt_113, xkt_114, xkt_119, xkt_126, xkt_159, xkt_576, xkt_999, xkt_9999, xkt_65536, xkt_999999, xkt_m1, xkt_m2, xkt_m3, xkt_m4, xkt_m11, xkt_m12, xkt_m13, xkt_m14, xkt_m20, xjt_0, xjt_1, xjt_2, xjt_3, xjt_4, xjt_5, xjt_6, xjt_7, xjt_8, xjt_9, xjt_10, xjt_11, xjt_12, xjt_13, xjt_14, xjt_16, xjt_20, xjt_24, xjt_31, xjt_32, xjt_40, xjt_44, xjt_47, xjt_48, xjt_57, xjt_59, xjt_60, xjt_63, xjt_64, xjt_65, xjt_72, xjt_95, xjt_99, xjt_100, xjt_101, xjt_103, xjt_110, xjt_112, xjt_113, xjt_114, xjt_119, xjt_126, xjt_159, xjt_576, xjt_999, xjt_9999, xjt_65536, xjt_999999, xt64, xt_n, not_true_eq_false, not_false_eq_true, Classical.not_not] at c_5 c_17 c_23_0 c_23_1 c_23_2
        all_goals omega
      refine xw_if (fun c_23_3 => ?_) (fun c_23_3 => ?_)
      · skip
        exfalso
        try simp only [xB_dec, Classical.not_not] at c_5 c_17 c_23_0 c_23_1 c_23_2 c_23_3
        try simp (disch := omega) only [xt_eq, xt_lt, xt_le, xkt_0, xkt_1, xkt_2, xkt_3, xkt_4, xkt_5, xkt_6, xkt_7, xkt_8, xkt_9, xkt_10, xkt_11, xkt_12, xkt_13, xkt_14, xkt_16, xkt_20, xkt_24, xkt_31, xkt_32, xkt_40, xkt_44, xkt_47, xkt_48, xkt_57, xkt_59, xkt_60, xkt_63, xkt_64, xkt_65, xkt_72, xkt_95, xkt_99, xkt_100, xkt_101, xkt_103, xkt_110, xkt_112, xkt_113, xkt_114, xkt_119, xkt_126, xkt_159, xkt_576, xkt_999, xkt_9999, xkt_65536, xkt_999999, xkt_m1, xkt_m2, xkt_m3, xkt_m4, xkt_m11, xkt_m12, xkt_m13, xkt_m14, xkt_m20, xjt_0, xjt_1, xjt_2, xjt_3, xjt_4, xjt_5, xjt_6, xjt_7, xjt_8, xjt_9, xjt_10, xjt_11, xjt_12, xjt_13, xjt_14, xjt_16, xjt_20, xjt_24, xjt_31, xjt_32, xjt_40, xjt_44, xjt_47, xjt_48, xjt_57, xjt_59, xjt_60, xjt_63, xjt_64, xjt_65, xjt_72, xjt_95, xjt_99, xjt_100, xjt_101, xjt_103, xjt_110, xjt_112, xjt_113, xjt_114, xjt_119, xjt_126, xjt_159, xjt_576, xjt_999, xjt_9999, xjt_65536, xjt_999999, xt64, xt_n, not_true_eq_false, not_false_eq_true, Classical.not_not] at c_5 c_17 c_23_0 c_23_1 c_23_2 c_23_3
        all_goals omega
      refine xw_at (f' := (101, [.ref 60, .int (nI c), .int (nI 1)], [])) (h' := (xS b, I, L, xP b)) rfl rfl ?_
      exfalso
      try simp only [xB_dec, Classical.not_not] at c_5 c_17 c_23_0 c_23_1 c_23_2 c_23_3
      try simp (disch := omega) only [xt_eq, xt_lt, xt_le, xkt_0, xkt_1, xkt_2, xkt_3, xkt_4, xkt_5, xkt_6, xkt_7, xkt_8, xkt_9, xkt_10, xkt_11, xkt_12, xkt_13, xkt_14, xkt_16, xkt_20, xkt_24, xkt_31, xkt_32, xkt_40, xkt_44, xkt_47, xkt_48, xkt_57, xkt_59, xkt_60, xkt_63, xkt_64, xkt_65, xkt_72, xkt_95, xkt_99, xkt_100, xkt_101, xkt_103, xkt_110, xkt_112, xkt_113, xkt_114, xkt_119, xkt_126, xkt_159, xkt_576, xkt_999, xkt_9999, xkt_65536, xkt_999999, xkt_m1, xkt_m2, xkt_m3, xkt_m4, xkt_m11, xkt_m12, xkt_m13, xkt_m14, xkt_m20, xjt_0, xjt_1, xjt_2, xjt_3, xjt_4, xjt_5, xjt_6, xjt_7, xjt_8, xjt_9, xjt_10, xjt_11, xjt_12, xjt_13, xjt_14, xjt_16, xjt_20, xjt_24, xjt_31, xjt_32, xjt_40, xjt_44, xjt_47, xjt_48, xjt_57, xjt_59, xjt_60, xjt_63, xjt_64, xjt_65, xjt_72, xjt_95, xjt_99, xjt_100, xjt_101, xjt_103, xjt_110, xjt_112, xjt_113, xjt_114, xjt_119, xjt_126, xjt_159, xjt_576, xjt_999, xjt_9999, xjt_65536, xjt_999999, xt64, xt_n, not_true_eq_false, not_false_eq_true, Classical.not_not] at c_5 c_17 c_23_0 c_23_1 c_23_2 c_23_3
      all_goals omega
    · skip
      exfalso
      try simp only [xB_dec, Classical.not_not] at c_5 c_17
      try simp (disch := omega) only [xt_eq, xt_lt, xt_le, xkt_0, xkt_1, xkt_2, xkt_3, xkt_4, xkt_5, xkt_6, xkt_7, xkt_8, xkt_9, xkt_10, xkt_11, xkt_12, xkt_13, xkt_14, xkt_16, xkt_20, xkt_24, xkt_31, xkt_32, xkt_40, xkt_44, xkt_47, xkt_48, xkt_57, xkt_59, xkt_60, xkt_63, xkt_64, xkt_65, xkt_72, xkt_95, xkt_99, xkt_100, xkt_101, xkt_103, xkt_110, xkt_112, xkt_113, xkt_114, xkt_119, xkt_126, xkt_159, xkt_576, xkt_999, xkt_9999, xkt_65536, xkt_999999, xkt_m1, xkt_m2, xkt_m3, xkt_m4, xkt_m11, xkt_m12, xkt_m13, xkt_m14, xkt_m20, xjt_0, xjt_1, xjt_2, xjt_3, xjt_4, xjt_5, xjt_6, xjt_7, xjt_8, xjt_9, xjt_10, xjt_11, xjt_12, xjt_13, xjt_14, xjt_16, xjt_20, xjt_24, xjt_31, xjt_32, xjt_40, xjt_44, xjt_47, xjt_48, xjt_57, xjt_59, xjt_60, xjt_63, xjt_64, xjt_65, xjt_72, xjt_95, xjt_99, xjt_100, xjt_101, xjt_103, xjt_110, xjt_112, xjt_113, xjt_114, xjt_119, xjt_126, xjt_159, xjt_576, xjt_999, xjt_9999, xjt_65536, xjt_999999, xt64, xt_n, not_true_eq_false, not_false_eq_true, Classical.not_not] at c_5 c_17
      all_goals omega

theorem m_cell12 {d : Nat} {b : Bool} {I : Nat → Nat → Int32} {L : Nat → Nat → Int64} {N : Nat → Nat} {u : Nat} {U : Nat → Nat → Nat} (hM : xML N u U I) (hK : xUK N u U) {c : Nat} (hc : c < N 0 * N 1) {x : Int32} (e_x : x = nI c) {y : Int32} (e_y : y = nI 2) : xm_Z (d + 5) 121 [.ref 60, .int x, .int y] (xS b, I, L, xP b) (fun rz hz => xQM b I L (nI (xfa N (N 3) (N 5) c)) N u U rz hz) := by
  subst e_x
  subst e_y
  have hO := hK.1
  have hb := hK.1.1
  have c64 : N 0 * N 1 ≤ 64 := xce_le hO
  have c4 : 4 ≤ N 0 * N 1 := xce_ge hO
  refine xw_S xb_121 (l := [.ref 60, .int (nI c), .int (nI 2)]) (Nat.le_of_ble_eq_true rfl) rfl ?_
  refine xw_go xb_121 2 (f1 := (2, [.ref 60, .int (nI c), .int (nI 2)], [.int (nI c), .ref 60])) (h1 := (xS b, I, L, xP b)) rfl trivial ?_
  refine xw_call xb_121 rfl rfl rfl rfl rfl (Or.inr ⟨_, _, rfl, rfl⟩) (m_isCell (I := I) hM.1 hO) ?_
  rintro _ _ ⟨rfl, rfl⟩
  refine xw_at (f' := (5, [.ref 60, .int (nI c), .int (nI 2)], [.int (nI (xB (decide (0 ≤ (nI c).toInt ∧ (nI c).toInt < ((N 0 * N 1 : Nat) : Int)))))])) (h' := (xS b, I, L, xP b)) rfl rfl ?_
  refine xw_go xb_121 1 (f1 := (if (nI (xB (decide (0 ≤ (nI c).toInt ∧ (nI c).toInt < ((N 0 * N 1 : Nat) : Int))))) = 0 then 20 else 8, [.ref 60, .int (nI c), .int (nI 2)], [])) (h1 := (xS b, I, L, xP b)) rfl trivial ?_
  refine xw_if (fun c_5 => ?_) (fun c_5 => ?_)
  · skip
    exfalso
    try simp only [xB_dec, Classical.not_not] at c_5
    try simp (disch := omega) only [xt_eq, xt_lt, xt_le, xkt_0, xkt_1, xkt_2, xkt_3, xkt_4, xkt_5, xkt_6, xkt_7, xkt_8, xkt_9, xkt_10, xkt_11, xkt_12, xkt_13, xkt_14, xkt_16, xkt_20, xkt_24, xkt_31, xkt_32, xkt_40, xkt_44, xkt_47, xkt_48, xkt_57, xkt_59, xkt_60, xkt_63, xkt_64, xkt_65, xkt_72, xkt_95, xkt_99, xkt_100, xkt_101, xkt_103, xkt_110, xkt_112, xkt_113, xkt_114, xkt_119, xkt_126, xkt_159, xkt_576, xkt_999, xkt_9999, xkt_65536, xkt_999999, xkt_m1, xkt_m2, xkt_m3, xkt_m4, xkt_m11, xkt_m12, xkt_m13, xkt_m14, xkt_m20, xjt_0, xjt_1, xjt_2, xjt_3, xjt_4, xjt_5, xjt_6, xjt_7, xjt_8, xjt_9, xjt_10, xjt_11, xjt_12, xjt_13, xjt_14, xjt_16, xjt_20, xjt_24, xjt_31, xjt_32, xjt_40, xjt_44, xjt_47, xjt_48, xjt_57, xjt_59, xjt_60, xjt_63, xjt_64, xjt_65, xjt_72, xjt_95, xjt_99, xjt_100, xjt_101, xjt_103, xjt_110, xjt_112, xjt_113, xjt_114, xjt_119, xjt_126, xjt_159, xjt_576, xjt_999, xjt_9999, xjt_65536, xjt_999999, xt64, xt_n, not_true_eq_false, not_false_eq_true, Classical.not_not] at c_5
    all_goals omega
  · skip
    refine xw_go xb_121 4 (f1 := (14, [.ref 60, .int (nI c), .int (nI 2)], [.long 4, .long 0, .long ((nI 2).toInt64)])) (h1 := (xS b, I, L, xP b)) rfl trivial ?_
    refine xw_call xb_121 rfl rfl rfl rfl rfl (Or.inl rfl) m_in ?_
    rintro _ _ ⟨rfl, rfl⟩
    refine xw_at (f' := (17, [.ref 60, .int (nI c), .int (nI 2)], [.int (nI (xB (decide ((0 : Int64).toInt ≤ (nI 2).toInt64.toInt ∧ (nI 2).toInt64.toInt ≤ (4 : Int64).toInt))))])) (h' := (xS b, I, L, xP b)) rfl rfl ?_
    refine xw_go xb_121 1 (f1 := (if ¬ (nI (xB (decide ((0 : Int64).toInt ≤ (nI 2).toInt64.toInt ∧ (nI 2).toInt64.toInt ≤ (4 : Int64).toInt)))) = 0 then 22 else 20, [.ref 60, .int (nI c), .int (nI 2)], [])) (h1 := (xS b, I, L, xP b)) rfl trivial ?_
    refine xw_if (fun c_17 => ?_) (fun c_17 => ?_)
    · skip
      refine xw_go xb_121 2 (f1 := (xm_sw [(0, 52), (1, 62), (2, 72), (3, 95)] 101 (nI 2), [.ref 60, .int (nI c), .int (nI 2)], [])) (h1 := (xS b, I, L, xP b)) rfl trivial ?_
      refine xw_if (fun c_23_0 => ?_) (fun c_23_0 => ?_)
      · skip
        exfalso
        try simp only [xB_dec, Classical.not_not] at c_5 c_17 c_23_0
        try simp (disch := omega) only [xt_eq, xt_lt, xt_le, xkt_0, xkt_1, xkt_2, xkt_3, xkt_4, xkt_5, xkt_6, xkt_7, xkt_8, xkt_9, xkt_10, xkt_11, xkt_12, xkt_13, xkt_14, xkt_16, xkt_20, xkt_24, xkt_31, xkt_32, xkt_40, xkt_44, xkt_47, xkt_48, xkt_57, xkt_59, xkt_60, xkt_63, xkt_64, xkt_65, xkt_72, xkt_95, xkt_99, xkt_100, xkt_101, xkt_103, xkt_110, xkt_112, xkt_113, xkt_114, xkt_119, xkt_126, xkt_159, xkt_576, xkt_999, xkt_9999, xkt_65536, xkt_999999, xkt_m1, xkt_m2, xkt_m3, xkt_m4, xkt_m11, xkt_m12, xkt_m13, xkt_m14, xkt_m20, xjt_0, xjt_1, xjt_2, xjt_3, xjt_4, xjt_5, xjt_6, xjt_7, xjt_8, xjt_9, xjt_10, xjt_11, xjt_12, xjt_13, xjt_14, xjt_16, xjt_20, xjt_24, xjt_31, xjt_32, xjt_40, xjt_44, xjt_47, xjt_48, xjt_57, xjt_59, xjt_60, xjt_63, xjt_64, xjt_65, xjt_72, xjt_95, xjt_99, xjt_100, xjt_101, xjt_103, xjt_110, xjt_112, xjt_113, xjt_114, xjt_119, xjt_126, xjt_159, xjt_576, xjt_999, xjt_9999, xjt_65536, xjt_999999, xt64, xt_n, not_true_eq_false, not_false_eq_true, Classical.not_not] at c_5 c_17 c_23_0
        all_goals omega
      refine xw_if (fun c_23_1 => ?_) (fun c_23_1 => ?_)
      · skip
        exfalso
        try simp only [xB_dec, Classical.not_not] at c_5 c_17 c_23_0 c_23_1
        try simp (disch := omega) only [xt_eq, xt_lt, xt_le, xkt_0, xkt_1, xkt_2, xkt_3, xkt_4, xkt_5, xkt_6, xkt_7, xkt_8, xkt_9, xkt_10, xkt_11, xkt_12, xkt_13, xkt_14, xkt_16, xkt_20, xkt_24, xkt_31, xkt_32, xkt_40, xkt_44, xkt_47, xkt_48, xkt_57, xkt_59, xkt_60, xkt_63, xkt_64, xkt_65, xkt_72, xkt_95, xkt_99, xkt_100, xkt_101, xkt_103, xkt_110, xkt_112, xkt_113, xkt_114, xkt_119, xkt_126, xkt_159, xkt_576, xkt_999, xkt_9999, xkt_65536, xkt_999999, xkt_m1, xkt_m2, xkt_m3, xkt_m4, xkt_m11, xkt_m12, xkt_m13, xkt_m14, xkt_m20, xjt_0, xjt_1, xjt_2, xjt_3, xjt_4, xjt_5, xjt_6, xjt_7, xjt_8, xjt_9, xjt_10, xjt_11, xjt_12, xjt_13, xjt_14, xjt_16, xjt_20, xjt_24, xjt_31, xjt_32, xjt_40, xjt_44, xjt_47, xjt_48, xjt_57, xjt_59, xjt_60, xjt_63, xjt_64, xjt_65, xjt_72, xjt_95, xjt_99, xjt_100, xjt_101, xjt_103, xjt_110, xjt_112, xjt_113, xjt_114, xjt_119, xjt_126, xjt_159, xjt_576, xjt_999, xjt_9999, xjt_65536, xjt_999999, xt64, xt_n, not_true_eq_false, not_false_eq_true, Classical.not_not] at c_5 c_17 c_23_0 c_23_1
        all_goals omega
      refine xw_if (fun c_23_2 => ?_) (fun c_23_2 => ?_)
      · skip
        refine xw_go xb_121 9 (f1 := (85, [.ref 60, .int (nI c), .int (nI 2)], [.int (I 61 (5 : Int32).toNatClampNeg), .int (I 61 (3 : Int32).toNatClampNeg), .ref 60])) (h1 := (xS b, I, L, xP b)) rfl ⟨rfl, (xn_ar (n := 3) (N := 159) rfl (by decide) (by decide)), rfl, (xn_ar (n := 5) (N := 159) rfl (by decide) (by decide)), trivial⟩ ?_
        refine xw_call xb_121 rfl rfl rfl rfl rfl (Or.inr ⟨_, _, rfl, rfl⟩) (m_rains (I := I) hM.1 hO (o := N 3) (wi := N 5) (xOn32 hO) (by omega) (hM.1 3 (by decide)) (hM.1 5 (by decide))) ?_
        rintro _ _ ⟨rfl, X, rfl, hX⟩
        refine xw_at (f' := (88, [.ref 60, .int (nI c), .int (nI 2)], [])) (h' := (xS b, va_up I 62 X, L, xP b)) rfl rfl ?_
        refine xw_go xb_121 4 (f1 := (94, [.ref 60, .int (nI c), .int (nI 2)], [.int ((va_up I 62 X) 62 (nI c).toNatClampNeg)])) (h1 := (xS b, va_up I 62 X, L, xP b)) rfl ⟨rfl, (xn_ar (n := c) (N := 64) rfl (by omega) (by decide)), trivial⟩ ?_
        refine xw_ret xb_121 rfl rfl trivial ?_
        refine ⟨xm_some (congrArg Value.int ?_), _, rfl, xMF_v (xMF_r I) (Or.inr (Or.inl rfl)), xml_fr hM rfl rfl rfl⟩
        rw [xn_cl (by omega)]
        exact hX c hc
      refine xw_if (fun c_23_3 => ?_) (fun c_23_3 => ?_)
      · skip
        exfalso
        try simp only [xB_dec, Classical.not_not] at c_5 c_17 c_23_0 c_23_1 c_23_2 c_23_3
        try simp (disch := omega) only [xt_eq, xt_lt, xt_le, xkt_0, xkt_1, xkt_2, xkt_3, xkt_4, xkt_5, xkt_6, xkt_7, xkt_8, xkt_9, xkt_10, xkt_11, xkt_12, xkt_13, xkt_14, xkt_16, xkt_20, xkt_24, xkt_31, xkt_32, xkt_40, xkt_44, xkt_47, xkt_48, xkt_57, xkt_59, xkt_60, xkt_63, xkt_64, xkt_65, xkt_72, xkt_95, xkt_99, xkt_100, xkt_101, xkt_103, xkt_110, xkt_112, xkt_113, xkt_114, xkt_119, xkt_126, xkt_159, xkt_576, xkt_999, xkt_9999, xkt_65536, xkt_999999, xkt_m1, xkt_m2, xkt_m3, xkt_m4, xkt_m11, xkt_m12, xkt_m13, xkt_m14, xkt_m20, xjt_0, xjt_1, xjt_2, xjt_3, xjt_4, xjt_5, xjt_6, xjt_7, xjt_8, xjt_9, xjt_10, xjt_11, xjt_12, xjt_13, xjt_14, xjt_16, xjt_20, xjt_24, xjt_31, xjt_32, xjt_40, xjt_44, xjt_47, xjt_48, xjt_57, xjt_59, xjt_60, xjt_63, xjt_64, xjt_65, xjt_72, xjt_95, xjt_99, xjt_100, xjt_101, xjt_103, xjt_110, xjt_112, xjt_113, xjt_114, xjt_119, xjt_126, xjt_159, xjt_576, xjt_999, xjt_9999, xjt_65536, xjt_999999, xt64, xt_n, not_true_eq_false, not_false_eq_true, Classical.not_not] at c_5 c_17 c_23_0 c_23_1 c_23_2 c_23_3
        all_goals omega
      refine xw_at (f' := (101, [.ref 60, .int (nI c), .int (nI 2)], [])) (h' := (xS b, I, L, xP b)) rfl rfl ?_
      exfalso
      try simp only [xB_dec, Classical.not_not] at c_5 c_17 c_23_0 c_23_1 c_23_2 c_23_3
      try simp (disch := omega) only [xt_eq, xt_lt, xt_le, xkt_0, xkt_1, xkt_2, xkt_3, xkt_4, xkt_5, xkt_6, xkt_7, xkt_8, xkt_9, xkt_10, xkt_11, xkt_12, xkt_13, xkt_14, xkt_16, xkt_20, xkt_24, xkt_31, xkt_32, xkt_40, xkt_44, xkt_47, xkt_48, xkt_57, xkt_59, xkt_60, xkt_63, xkt_64, xkt_65, xkt_72, xkt_95, xkt_99, xkt_100, xkt_101, xkt_103, xkt_110, xkt_112, xkt_113, xkt_114, xkt_119, xkt_126, xkt_159, xkt_576, xkt_999, xkt_9999, xkt_65536, xkt_999999, xkt_m1, xkt_m2, xkt_m3, xkt_m4, xkt_m11, xkt_m12, xkt_m13, xkt_m14, xkt_m20, xjt_0, xjt_1, xjt_2, xjt_3, xjt_4, xjt_5, xjt_6, xjt_7, xjt_8, xjt_9, xjt_10, xjt_11, xjt_12, xjt_13, xjt_14, xjt_16, xjt_20, xjt_24, xjt_31, xjt_32, xjt_40, xjt_44, xjt_47, xjt_48, xjt_57, xjt_59, xjt_60, xjt_63, xjt_64, xjt_65, xjt_72, xjt_95, xjt_99, xjt_100, xjt_101, xjt_103, xjt_110, xjt_112, xjt_113, xjt_114, xjt_119, xjt_126, xjt_159, xjt_576, xjt_999, xjt_9999, xjt_65536, xjt_999999, xt64, xt_n, not_true_eq_false, not_false_eq_true, Classical.not_not] at c_5 c_17 c_23_0 c_23_1 c_23_2 c_23_3
      all_goals omega
    · skip
      exfalso
      try simp only [xB_dec, Classical.not_not] at c_5 c_17
      try simp (disch := omega) only [xt_eq, xt_lt, xt_le, xkt_0, xkt_1, xkt_2, xkt_3, xkt_4, xkt_5, xkt_6, xkt_7, xkt_8, xkt_9, xkt_10, xkt_11, xkt_12, xkt_13, xkt_14, xkt_16, xkt_20, xkt_24, xkt_31, xkt_32, xkt_40, xkt_44, xkt_47, xkt_48, xkt_57, xkt_59, xkt_60, xkt_63, xkt_64, xkt_65, xkt_72, xkt_95, xkt_99, xkt_100, xkt_101, xkt_103, xkt_110, xkt_112, xkt_113, xkt_114, xkt_119, xkt_126, xkt_159, xkt_576, xkt_999, xkt_9999, xkt_65536, xkt_999999, xkt_m1, xkt_m2, xkt_m3, xkt_m4, xkt_m11, xkt_m12, xkt_m13, xkt_m14, xkt_m20, xjt_0, xjt_1, xjt_2, xjt_3, xjt_4, xjt_5, xjt_6, xjt_7, xjt_8, xjt_9, xjt_10, xjt_11, xjt_12, xjt_13, xjt_14, xjt_16, xjt_20, xjt_24, xjt_31, xjt_32, xjt_40, xjt_44, xjt_47, xjt_48, xjt_57, xjt_59, xjt_60, xjt_63, xjt_64, xjt_65, xjt_72, xjt_95, xjt_99, xjt_100, xjt_101, xjt_103, xjt_110, xjt_112, xjt_113, xjt_114, xjt_119, xjt_126, xjt_159, xjt_576, xjt_999, xjt_9999, xjt_65536, xjt_999999, xt64, xt_n, not_true_eq_false, not_false_eq_true, Classical.not_not] at c_5 c_17
      all_goals omega

theorem m_cell13 {d : Nat} {b : Bool} {I : Nat → Nat → Int32} {L : Nat → Nat → Int64} {N : Nat → Nat} {u : Nat} {U : Nat → Nat → Nat} (hM : xML N u U I) (hK : xUK N u U) {c : Nat} (hc : c < N 0 * N 1) {x : Int32} (e_x : x = nI c) {y : Int32} (e_y : y = nI 3) : xm_Z (d + 5) 121 [.ref 60, .int x, .int y] (xS b, I, L, xP b) (fun rz hz => xQM b I L (nI (xta N (N 3) (N 5) c)) N u U rz hz) := by
  subst e_x
  subst e_y
  have hO := hK.1
  have hb := hK.1.1
  have c64 : N 0 * N 1 ≤ 64 := xce_le hO
  have c4 : 4 ≤ N 0 * N 1 := xce_ge hO
  refine xw_S xb_121 (l := [.ref 60, .int (nI c), .int (nI 3)]) (Nat.le_of_ble_eq_true rfl) rfl ?_
  refine xw_go xb_121 2 (f1 := (2, [.ref 60, .int (nI c), .int (nI 3)], [.int (nI c), .ref 60])) (h1 := (xS b, I, L, xP b)) rfl trivial ?_
  refine xw_call xb_121 rfl rfl rfl rfl rfl (Or.inr ⟨_, _, rfl, rfl⟩) (m_isCell (I := I) hM.1 hO) ?_
  rintro _ _ ⟨rfl, rfl⟩
  refine xw_at (f' := (5, [.ref 60, .int (nI c), .int (nI 3)], [.int (nI (xB (decide (0 ≤ (nI c).toInt ∧ (nI c).toInt < ((N 0 * N 1 : Nat) : Int)))))])) (h' := (xS b, I, L, xP b)) rfl rfl ?_
  refine xw_go xb_121 1 (f1 := (if (nI (xB (decide (0 ≤ (nI c).toInt ∧ (nI c).toInt < ((N 0 * N 1 : Nat) : Int))))) = 0 then 20 else 8, [.ref 60, .int (nI c), .int (nI 3)], [])) (h1 := (xS b, I, L, xP b)) rfl trivial ?_
  refine xw_if (fun c_5 => ?_) (fun c_5 => ?_)
  · skip
    exfalso
    try simp only [xB_dec, Classical.not_not] at c_5
    try simp (disch := omega) only [xt_eq, xt_lt, xt_le, xkt_0, xkt_1, xkt_2, xkt_3, xkt_4, xkt_5, xkt_6, xkt_7, xkt_8, xkt_9, xkt_10, xkt_11, xkt_12, xkt_13, xkt_14, xkt_16, xkt_20, xkt_24, xkt_31, xkt_32, xkt_40, xkt_44, xkt_47, xkt_48, xkt_57, xkt_59, xkt_60, xkt_63, xkt_64, xkt_65, xkt_72, xkt_95, xkt_99, xkt_100, xkt_101, xkt_103, xkt_110, xkt_112, xkt_113, xkt_114, xkt_119, xkt_126, xkt_159, xkt_576, xkt_999, xkt_9999, xkt_65536, xkt_999999, xkt_m1, xkt_m2, xkt_m3, xkt_m4, xkt_m11, xkt_m12, xkt_m13, xkt_m14, xkt_m20, xjt_0, xjt_1, xjt_2, xjt_3, xjt_4, xjt_5, xjt_6, xjt_7, xjt_8, xjt_9, xjt_10, xjt_11, xjt_12, xjt_13, xjt_14, xjt_16, xjt_20, xjt_24, xjt_31, xjt_32, xjt_40, xjt_44, xjt_47, xjt_48, xjt_57, xjt_59, xjt_60, xjt_63, xjt_64, xjt_65, xjt_72, xjt_95, xjt_99, xjt_100, xjt_101, xjt_103, xjt_110, xjt_112, xjt_113, xjt_114, xjt_119, xjt_126, xjt_159, xjt_576, xjt_999, xjt_9999, xjt_65536, xjt_999999, xt64, xt_n, not_true_eq_false, not_false_eq_true, Classical.not_not] at c_5
    all_goals omega
  · skip
    refine xw_go xb_121 4 (f1 := (14, [.ref 60, .int (nI c), .int (nI 3)], [.long 4, .long 0, .long ((nI 3).toInt64)])) (h1 := (xS b, I, L, xP b)) rfl trivial ?_
    refine xw_call xb_121 rfl rfl rfl rfl rfl (Or.inl rfl) m_in ?_
    rintro _ _ ⟨rfl, rfl⟩
    refine xw_at (f' := (17, [.ref 60, .int (nI c), .int (nI 3)], [.int (nI (xB (decide ((0 : Int64).toInt ≤ (nI 3).toInt64.toInt ∧ (nI 3).toInt64.toInt ≤ (4 : Int64).toInt))))])) (h' := (xS b, I, L, xP b)) rfl rfl ?_
    refine xw_go xb_121 1 (f1 := (if ¬ (nI (xB (decide ((0 : Int64).toInt ≤ (nI 3).toInt64.toInt ∧ (nI 3).toInt64.toInt ≤ (4 : Int64).toInt)))) = 0 then 22 else 20, [.ref 60, .int (nI c), .int (nI 3)], [])) (h1 := (xS b, I, L, xP b)) rfl trivial ?_
    refine xw_if (fun c_17 => ?_) (fun c_17 => ?_)
    · skip
      refine xw_go xb_121 2 (f1 := (xm_sw [(0, 52), (1, 62), (2, 72), (3, 95)] 101 (nI 3), [.ref 60, .int (nI c), .int (nI 3)], [])) (h1 := (xS b, I, L, xP b)) rfl trivial ?_
      refine xw_if (fun c_23_0 => ?_) (fun c_23_0 => ?_)
      · skip
        exfalso
        try simp only [xB_dec, Classical.not_not] at c_5 c_17 c_23_0
        try simp (disch := omega) only [xt_eq, xt_lt, xt_le, xkt_0, xkt_1, xkt_2, xkt_3, xkt_4, xkt_5, xkt_6, xkt_7, xkt_8, xkt_9, xkt_10, xkt_11, xkt_12, xkt_13, xkt_14, xkt_16, xkt_20, xkt_24, xkt_31, xkt_32, xkt_40, xkt_44, xkt_47, xkt_48, xkt_57, xkt_59, xkt_60, xkt_63, xkt_64, xkt_65, xkt_72, xkt_95, xkt_99, xkt_100, xkt_101, xkt_103, xkt_110, xkt_112, xkt_113, xkt_114, xkt_119, xkt_126, xkt_159, xkt_576, xkt_999, xkt_9999, xkt_65536, xkt_999999, xkt_m1, xkt_m2, xkt_m3, xkt_m4, xkt_m11, xkt_m12, xkt_m13, xkt_m14, xkt_m20, xjt_0, xjt_1, xjt_2, xjt_3, xjt_4, xjt_5, xjt_6, xjt_7, xjt_8, xjt_9, xjt_10, xjt_11, xjt_12, xjt_13, xjt_14, xjt_16, xjt_20, xjt_24, xjt_31, xjt_32, xjt_40, xjt_44, xjt_47, xjt_48, xjt_57, xjt_59, xjt_60, xjt_63, xjt_64, xjt_65, xjt_72, xjt_95, xjt_99, xjt_100, xjt_101, xjt_103, xjt_110, xjt_112, xjt_113, xjt_114, xjt_119, xjt_126, xjt_159, xjt_576, xjt_999, xjt_9999, xjt_65536, xjt_999999, xt64, xt_n, not_true_eq_false, not_false_eq_true, Classical.not_not] at c_5 c_17 c_23_0
        all_goals omega
      refine xw_if (fun c_23_1 => ?_) (fun c_23_1 => ?_)
      · skip
        exfalso
        try simp only [xB_dec, Classical.not_not] at c_5 c_17 c_23_0 c_23_1
        try simp (disch := omega) only [xt_eq, xt_lt, xt_le, xkt_0, xkt_1, xkt_2, xkt_3, xkt_4, xkt_5, xkt_6, xkt_7, xkt_8, xkt_9, xkt_10, xkt_11, xkt_12, xkt_13, xkt_14, xkt_16, xkt_20, xkt_24, xkt_31, xkt_32, xkt_40, xkt_44, xkt_47, xkt_48, xkt_57, xkt_59, xkt_60, xkt_63, xkt_64, xkt_65, xkt_72, xkt_95, xkt_99, xkt_100, xkt_101, xkt_103, xkt_110, xkt_112, xkt_113, xkt_114, xkt_119, xkt_126, xkt_159, xkt_576, xkt_999, xkt_9999, xkt_65536, xkt_999999, xkt_m1, xkt_m2, xkt_m3, xkt_m4, xkt_m11, xkt_m12, xkt_m13, xkt_m14, xkt_m20, xjt_0, xjt_1, xjt_2, xjt_3, xjt_4, xjt_5, xjt_6, xjt_7, xjt_8, xjt_9, xjt_10, xjt_11, xjt_12, xjt_13, xjt_14, xjt_16, xjt_20, xjt_24, xjt_31, xjt_32, xjt_40, xjt_44, xjt_47, xjt_48, xjt_57, xjt_59, xjt_60, xjt_63, xjt_64, xjt_65, xjt_72, xjt_95, xjt_99, xjt_100, xjt_101, xjt_103, xjt_110, xjt_112, xjt_113, xjt_114, xjt_119, xjt_126, xjt_159, xjt_576, xjt_999, xjt_9999, xjt_65536, xjt_999999, xt64, xt_n, not_true_eq_false, not_false_eq_true, Classical.not_not] at c_5 c_17 c_23_0 c_23_1
        all_goals omega
      refine xw_if (fun c_23_2 => ?_) (fun c_23_2 => ?_)
      · skip
        exfalso
        try simp only [xB_dec, Classical.not_not] at c_5 c_17 c_23_0 c_23_1 c_23_2
        try simp (disch := omega) only [xt_eq, xt_lt, xt_le, xkt_0, xkt_1, xkt_2, xkt_3, xkt_4, xkt_5, xkt_6, xkt_7, xkt_8, xkt_9, xkt_10, xkt_11, xkt_12, xkt_13, xkt_14, xkt_16, xkt_20, xkt_24, xkt_31, xkt_32, xkt_40, xkt_44, xkt_47, xkt_48, xkt_57, xkt_59, xkt_60, xkt_63, xkt_64, xkt_65, xkt_72, xkt_95, xkt_99, xkt_100, xkt_101, xkt_103, xkt_110, xkt_112, xkt_113, xkt_114, xkt_119, xkt_126, xkt_159, xkt_576, xkt_999, xkt_9999, xkt_65536, xkt_999999, xkt_m1, xkt_m2, xkt_m3, xkt_m4, xkt_m11, xkt_m12, xkt_m13, xkt_m14, xkt_m20, xjt_0, xjt_1, xjt_2, xjt_3, xjt_4, xjt_5, xjt_6, xjt_7, xjt_8, xjt_9, xjt_10, xjt_11, xjt_12, xjt_13, xjt_14, xjt_16, xjt_20, xjt_24, xjt_31, xjt_32, xjt_40, xjt_44, xjt_47, xjt_48, xjt_57, xjt_59, xjt_60, xjt_63, xjt_64, xjt_65, xjt_72, xjt_95, xjt_99, xjt_100, xjt_101, xjt_103, xjt_110, xjt_112, xjt_113, xjt_114, xjt_119, xjt_126, xjt_159, xjt_576, xjt_999, xjt_9999, xjt_65536, xjt_999999, xt64, xt_n, not_true_eq_false, not_false_eq_true, Classical.not_not] at c_5 c_17 c_23_0 c_23_1 c_23_2
        all_goals omega
      refine xw_if (fun c_23_3 => ?_) (fun c_23_3 => ?_)
      · skip
        refine xw_go xb_121 2 (f1 := (97, [.ref 60, .int (nI c), .int (nI 3)], [.int (nI c), .ref 60])) (h1 := (xS b, I, L, xP b)) rfl trivial ?_
        refine xw_call xb_121 rfl rfl rfl rfl rfl (Or.inr ⟨_, _, rfl, rfl⟩) (m_takesNow (I := I) hM.1 hO hc rfl) ?_
        rintro _ _ ⟨rfl, X, rfl⟩
        refine xw_at (f' := (100, [.ref 60, .int (nI c), .int (nI 3)], [.int (nI (xta N (N 3) (N 5) c))])) (h' := (xS b, va_up I 62 X, L, xP b)) rfl rfl ?_
        refine xw_ret xb_121 rfl rfl trivial ?_
        exact ⟨rfl, _, rfl, xMF_v (xMF_r I) (Or.inr (Or.inl rfl)), xml_fr hM rfl rfl rfl⟩
      refine xw_at (f' := (101, [.ref 60, .int (nI c), .int (nI 3)], [])) (h' := (xS b, I, L, xP b)) rfl rfl ?_
      exfalso
      try simp only [xB_dec, Classical.not_not] at c_5 c_17 c_23_0 c_23_1 c_23_2 c_23_3
      try simp (disch := omega) only [xt_eq, xt_lt, xt_le, xkt_0, xkt_1, xkt_2, xkt_3, xkt_4, xkt_5, xkt_6, xkt_7, xkt_8, xkt_9, xkt_10, xkt_11, xkt_12, xkt_13, xkt_14, xkt_16, xkt_20, xkt_24, xkt_31, xkt_32, xkt_40, xkt_44, xkt_47, xkt_48, xkt_57, xkt_59, xkt_60, xkt_63, xkt_64, xkt_65, xkt_72, xkt_95, xkt_99, xkt_100, xkt_101, xkt_103, xkt_110, xkt_112, xkt_113, xkt_114, xkt_119, xkt_126, xkt_159, xkt_576, xkt_999, xkt_9999, xkt_65536, xkt_999999, xkt_m1, xkt_m2, xkt_m3, xkt_m4, xkt_m11, xkt_m12, xkt_m13, xkt_m14, xkt_m20, xjt_0, xjt_1, xjt_2, xjt_3, xjt_4, xjt_5, xjt_6, xjt_7, xjt_8, xjt_9, xjt_10, xjt_11, xjt_12, xjt_13, xjt_14, xjt_16, xjt_20, xjt_24, xjt_31, xjt_32, xjt_40, xjt_44, xjt_47, xjt_48, xjt_57, xjt_59, xjt_60, xjt_63, xjt_64, xjt_65, xjt_72, xjt_95, xjt_99, xjt_100, xjt_101, xjt_103, xjt_110, xjt_112, xjt_113, xjt_114, xjt_119, xjt_126, xjt_159, xjt_576, xjt_999, xjt_9999, xjt_65536, xjt_999999, xt64, xt_n, not_true_eq_false, not_false_eq_true, Classical.not_not] at c_5 c_17 c_23_0 c_23_1 c_23_2 c_23_3
      all_goals omega
    · skip
      exfalso
      try simp only [xB_dec, Classical.not_not] at c_5 c_17
      try simp (disch := omega) only [xt_eq, xt_lt, xt_le, xkt_0, xkt_1, xkt_2, xkt_3, xkt_4, xkt_5, xkt_6, xkt_7, xkt_8, xkt_9, xkt_10, xkt_11, xkt_12, xkt_13, xkt_14, xkt_16, xkt_20, xkt_24, xkt_31, xkt_32, xkt_40, xkt_44, xkt_47, xkt_48, xkt_57, xkt_59, xkt_60, xkt_63, xkt_64, xkt_65, xkt_72, xkt_95, xkt_99, xkt_100, xkt_101, xkt_103, xkt_110, xkt_112, xkt_113, xkt_114, xkt_119, xkt_126, xkt_159, xkt_576, xkt_999, xkt_9999, xkt_65536, xkt_999999, xkt_m1, xkt_m2, xkt_m3, xkt_m4, xkt_m11, xkt_m12, xkt_m13, xkt_m14, xkt_m20, xjt_0, xjt_1, xjt_2, xjt_3, xjt_4, xjt_5, xjt_6, xjt_7, xjt_8, xjt_9, xjt_10, xjt_11, xjt_12, xjt_13, xjt_14, xjt_16, xjt_20, xjt_24, xjt_31, xjt_32, xjt_40, xjt_44, xjt_47, xjt_48, xjt_57, xjt_59, xjt_60, xjt_63, xjt_64, xjt_65, xjt_72, xjt_95, xjt_99, xjt_100, xjt_101, xjt_103, xjt_110, xjt_112, xjt_113, xjt_114, xjt_119, xjt_126, xjt_159, xjt_576, xjt_999, xjt_9999, xjt_65536, xjt_999999, xt64, xt_n, not_true_eq_false, not_false_eq_true, Classical.not_not] at c_5 c_17
      all_goals omega

theorem m_cell14 {d : Nat} {b : Bool} {I : Nat → Nat → Int32} {L : Nat → Nat → Int64} {N : Nat → Nat} {u : Nat} {U : Nat → Nat → Nat} (hM : xML N u U I) (hK : xUK N u U) {c : Nat} (hc : c < N 0 * N 1) {x : Int32} (e_x : x = nI c) {y : Int32} (e_y : y = nI 4) : xm_Z (d + 5) 121 [.ref 60, .int x, .int y] (xS b, I, L, xP b) (fun rz hz => xQM b I L (nI (xB (xs_wrong (N (31 + c)) (N (95 + c)) (N 7) (N 8)))) N u U rz hz) := by
  subst e_x
  subst e_y
  have hO := hK.1
  have hb := hK.1.1
  have c64 : N 0 * N 1 ≤ 64 := xce_le hO
  have c4 : 4 ≤ N 0 * N 1 := xce_ge hO
  refine xw_S xb_121 (l := [.ref 60, .int (nI c), .int (nI 4)]) (Nat.le_of_ble_eq_true rfl) rfl ?_
  refine xw_go xb_121 2 (f1 := (2, [.ref 60, .int (nI c), .int (nI 4)], [.int (nI c), .ref 60])) (h1 := (xS b, I, L, xP b)) rfl trivial ?_
  refine xw_call xb_121 rfl rfl rfl rfl rfl (Or.inr ⟨_, _, rfl, rfl⟩) (m_isCell (I := I) hM.1 hO) ?_
  rintro _ _ ⟨rfl, rfl⟩
  refine xw_at (f' := (5, [.ref 60, .int (nI c), .int (nI 4)], [.int (nI (xB (decide (0 ≤ (nI c).toInt ∧ (nI c).toInt < ((N 0 * N 1 : Nat) : Int)))))])) (h' := (xS b, I, L, xP b)) rfl rfl ?_
  refine xw_go xb_121 1 (f1 := (if (nI (xB (decide (0 ≤ (nI c).toInt ∧ (nI c).toInt < ((N 0 * N 1 : Nat) : Int))))) = 0 then 20 else 8, [.ref 60, .int (nI c), .int (nI 4)], [])) (h1 := (xS b, I, L, xP b)) rfl trivial ?_
  refine xw_if (fun c_5 => ?_) (fun c_5 => ?_)
  · skip
    exfalso
    try simp only [xB_dec, Classical.not_not] at c_5
    try simp (disch := omega) only [xt_eq, xt_lt, xt_le, xkt_0, xkt_1, xkt_2, xkt_3, xkt_4, xkt_5, xkt_6, xkt_7, xkt_8, xkt_9, xkt_10, xkt_11, xkt_12, xkt_13, xkt_14, xkt_16, xkt_20, xkt_24, xkt_31, xkt_32, xkt_40, xkt_44, xkt_47, xkt_48, xkt_57, xkt_59, xkt_60, xkt_63, xkt_64, xkt_65, xkt_72, xkt_95, xkt_99, xkt_100, xkt_101, xkt_103, xkt_110, xkt_112, xkt_113, xkt_114, xkt_119, xkt_126, xkt_159, xkt_576, xkt_999, xkt_9999, xkt_65536, xkt_999999, xkt_m1, xkt_m2, xkt_m3, xkt_m4, xkt_m11, xkt_m12, xkt_m13, xkt_m14, xkt_m20, xjt_0, xjt_1, xjt_2, xjt_3, xjt_4, xjt_5, xjt_6, xjt_7, xjt_8, xjt_9, xjt_10, xjt_11, xjt_12, xjt_13, xjt_14, xjt_16, xjt_20, xjt_24, xjt_31, xjt_32, xjt_40, xjt_44, xjt_47, xjt_48, xjt_57, xjt_59, xjt_60, xjt_63, xjt_64, xjt_65, xjt_72, xjt_95, xjt_99, xjt_100, xjt_101, xjt_103, xjt_110, xjt_112, xjt_113, xjt_114, xjt_119, xjt_126, xjt_159, xjt_576, xjt_999, xjt_9999, xjt_65536, xjt_999999, xt64, xt_n, not_true_eq_false, not_false_eq_true, Classical.not_not] at c_5
    all_goals omega
  · skip
    refine xw_go xb_121 4 (f1 := (14, [.ref 60, .int (nI c), .int (nI 4)], [.long 4, .long 0, .long ((nI 4).toInt64)])) (h1 := (xS b, I, L, xP b)) rfl trivial ?_
    refine xw_call xb_121 rfl rfl rfl rfl rfl (Or.inl rfl) m_in ?_
    rintro _ _ ⟨rfl, rfl⟩
    refine xw_at (f' := (17, [.ref 60, .int (nI c), .int (nI 4)], [.int (nI (xB (decide ((0 : Int64).toInt ≤ (nI 4).toInt64.toInt ∧ (nI 4).toInt64.toInt ≤ (4 : Int64).toInt))))])) (h' := (xS b, I, L, xP b)) rfl rfl ?_
    refine xw_go xb_121 1 (f1 := (if ¬ (nI (xB (decide ((0 : Int64).toInt ≤ (nI 4).toInt64.toInt ∧ (nI 4).toInt64.toInt ≤ (4 : Int64).toInt)))) = 0 then 22 else 20, [.ref 60, .int (nI c), .int (nI 4)], [])) (h1 := (xS b, I, L, xP b)) rfl trivial ?_
    refine xw_if (fun c_17 => ?_) (fun c_17 => ?_)
    · skip
      refine xw_go xb_121 2 (f1 := (xm_sw [(0, 52), (1, 62), (2, 72), (3, 95)] 101 (nI 4), [.ref 60, .int (nI c), .int (nI 4)], [])) (h1 := (xS b, I, L, xP b)) rfl trivial ?_
      refine xw_if (fun c_23_0 => ?_) (fun c_23_0 => ?_)
      · skip
        exfalso
        try simp only [xB_dec, Classical.not_not] at c_5 c_17 c_23_0
        try simp (disch := omega) only [xt_eq, xt_lt, xt_le, xkt_0, xkt_1, xkt_2, xkt_3, xkt_4, xkt_5, xkt_6, xkt_7, xkt_8, xkt_9, xkt_10, xkt_11, xkt_12, xkt_13, xkt_14, xkt_16, xkt_20, xkt_24, xkt_31, xkt_32, xkt_40, xkt_44, xkt_47, xkt_48, xkt_57, xkt_59, xkt_60, xkt_63, xkt_64, xkt_65, xkt_72, xkt_95, xkt_99, xkt_100, xkt_101, xkt_103, xkt_110, xkt_112, xkt_113, xkt_114, xkt_119, xkt_126, xkt_159, xkt_576, xkt_999, xkt_9999, xkt_65536, xkt_999999, xkt_m1, xkt_m2, xkt_m3, xkt_m4, xkt_m11, xkt_m12, xkt_m13, xkt_m14, xkt_m20, xjt_0, xjt_1, xjt_2, xjt_3, xjt_4, xjt_5, xjt_6, xjt_7, xjt_8, xjt_9, xjt_10, xjt_11, xjt_12, xjt_13, xjt_14, xjt_16, xjt_20, xjt_24, xjt_31, xjt_32, xjt_40, xjt_44, xjt_47, xjt_48, xjt_57, xjt_59, xjt_60, xjt_63, xjt_64, xjt_65, xjt_72, xjt_95, xjt_99, xjt_100, xjt_101, xjt_103, xjt_110, xjt_112, xjt_113, xjt_114, xjt_119, xjt_126, xjt_159, xjt_576, xjt_999, xjt_9999, xjt_65536, xjt_999999, xt64, xt_n, not_true_eq_false, not_false_eq_true, Classical.not_not] at c_5 c_17 c_23_0
        all_goals omega
      refine xw_if (fun c_23_1 => ?_) (fun c_23_1 => ?_)
      · skip
        exfalso
        try simp only [xB_dec, Classical.not_not] at c_5 c_17 c_23_0 c_23_1
        try simp (disch := omega) only [xt_eq, xt_lt, xt_le, xkt_0, xkt_1, xkt_2, xkt_3, xkt_4, xkt_5, xkt_6, xkt_7, xkt_8, xkt_9, xkt_10, xkt_11, xkt_12, xkt_13, xkt_14, xkt_16, xkt_20, xkt_24, xkt_31, xkt_32, xkt_40, xkt_44, xkt_47, xkt_48, xkt_57, xkt_59, xkt_60, xkt_63, xkt_64, xkt_65, xkt_72, xkt_95, xkt_99, xkt_100, xkt_101, xkt_103, xkt_110, xkt_112, xkt_113, xkt_114, xkt_119, xkt_126, xkt_159, xkt_576, xkt_999, xkt_9999, xkt_65536, xkt_999999, xkt_m1, xkt_m2, xkt_m3, xkt_m4, xkt_m11, xkt_m12, xkt_m13, xkt_m14, xkt_m20, xjt_0, xjt_1, xjt_2, xjt_3, xjt_4, xjt_5, xjt_6, xjt_7, xjt_8, xjt_9, xjt_10, xjt_11, xjt_12, xjt_13, xjt_14, xjt_16, xjt_20, xjt_24, xjt_31, xjt_32, xjt_40, xjt_44, xjt_47, xjt_48, xjt_57, xjt_59, xjt_60, xjt_63, xjt_64, xjt_65, xjt_72, xjt_95, xjt_99, xjt_100, xjt_101, xjt_103, xjt_110, xjt_112, xjt_113, xjt_114, xjt_119, xjt_126, xjt_159, xjt_576, xjt_999, xjt_9999, xjt_65536, xjt_999999, xt64, xt_n, not_true_eq_false, not_false_eq_true, Classical.not_not] at c_5 c_17 c_23_0 c_23_1
        all_goals omega
      refine xw_if (fun c_23_2 => ?_) (fun c_23_2 => ?_)
      · skip
        exfalso
        try simp only [xB_dec, Classical.not_not] at c_5 c_17 c_23_0 c_23_1 c_23_2
        try simp (disch := omega) only [xt_eq, xt_lt, xt_le, xkt_0, xkt_1, xkt_2, xkt_3, xkt_4, xkt_5, xkt_6, xkt_7, xkt_8, xkt_9, xkt_10, xkt_11, xkt_12, xkt_13, xkt_14, xkt_16, xkt_20, xkt_24, xkt_31, xkt_32, xkt_40, xkt_44, xkt_47, xkt_48, xkt_57, xkt_59, xkt_60, xkt_63, xkt_64, xkt_65, xkt_72, xkt_95, xkt_99, xkt_100, xkt_101, xkt_103, xkt_110, xkt_112, xkt_113, xkt_114, xkt_119, xkt_126, xkt_159, xkt_576, xkt_999, xkt_9999, xkt_65536, xkt_999999, xkt_m1, xkt_m2, xkt_m3, xkt_m4, xkt_m11, xkt_m12, xkt_m13, xkt_m14, xkt_m20, xjt_0, xjt_1, xjt_2, xjt_3, xjt_4, xjt_5, xjt_6, xjt_7, xjt_8, xjt_9, xjt_10, xjt_11, xjt_12, xjt_13, xjt_14, xjt_16, xjt_20, xjt_24, xjt_31, xjt_32, xjt_40, xjt_44, xjt_47, xjt_48, xjt_57, xjt_59, xjt_60, xjt_63, xjt_64, xjt_65, xjt_72, xjt_95, xjt_99, xjt_100, xjt_101, xjt_103, xjt_110, xjt_112, xjt_113, xjt_114, xjt_119, xjt_126, xjt_159, xjt_576, xjt_999, xjt_9999, xjt_65536, xjt_999999, xt64, xt_n, not_true_eq_false, not_false_eq_true, Classical.not_not] at c_5 c_17 c_23_0 c_23_1 c_23_2
        all_goals omega
      refine xw_if (fun c_23_3 => ?_) (fun c_23_3 => ?_)
      · skip
        exfalso
        try simp only [xB_dec, Classical.not_not] at c_5 c_17 c_23_0 c_23_1 c_23_2 c_23_3
        try simp (disch := omega) only [xt_eq, xt_lt, xt_le, xkt_0, xkt_1, xkt_2, xkt_3, xkt_4, xkt_5, xkt_6, xkt_7, xkt_8, xkt_9, xkt_10, xkt_11, xkt_12, xkt_13, xkt_14, xkt_16, xkt_20, xkt_24, xkt_31, xkt_32, xkt_40, xkt_44, xkt_47, xkt_48, xkt_57, xkt_59, xkt_60, xkt_63, xkt_64, xkt_65, xkt_72, xkt_95, xkt_99, xkt_100, xkt_101, xkt_103, xkt_110, xkt_112, xkt_113, xkt_114, xkt_119, xkt_126, xkt_159, xkt_576, xkt_999, xkt_9999, xkt_65536, xkt_999999, xkt_m1, xkt_m2, xkt_m3, xkt_m4, xkt_m11, xkt_m12, xkt_m13, xkt_m14, xkt_m20, xjt_0, xjt_1, xjt_2, xjt_3, xjt_4, xjt_5, xjt_6, xjt_7, xjt_8, xjt_9, xjt_10, xjt_11, xjt_12, xjt_13, xjt_14, xjt_16, xjt_20, xjt_24, xjt_31, xjt_32, xjt_40, xjt_44, xjt_47, xjt_48, xjt_57, xjt_59, xjt_60, xjt_63, xjt_64, xjt_65, xjt_72, xjt_95, xjt_99, xjt_100, xjt_101, xjt_103, xjt_110, xjt_112, xjt_113, xjt_114, xjt_119, xjt_126, xjt_159, xjt_576, xjt_999, xjt_9999, xjt_65536, xjt_999999, xt64, xt_n, not_true_eq_false, not_false_eq_true, Classical.not_not] at c_5 c_17 c_23_0 c_23_1 c_23_2 c_23_3
        all_goals omega
      refine xw_at (f' := (101, [.ref 60, .int (nI c), .int (nI 4)], [])) (h' := (xS b, I, L, xP b)) rfl rfl ?_
      refine xw_go xb_121 2 (f1 := (103, [.ref 60, .int (nI c), .int (nI 4)], [.int (nI c), .ref 60])) (h1 := (xS b, I, L, xP b)) rfl trivial ?_
      refine xw_call xb_121 rfl rfl rfl rfl rfl (Or.inr ⟨_, _, rfl, rfl⟩) (m_isWrong (I := I) hM.1 hO (c := c) (by omega) rfl) ?_
      rintro _ _ ⟨rfl, rfl⟩
      refine xw_at (f' := (106, [.ref 60, .int (nI c), .int (nI 4)], [.int (nI (xB (xs_wrong (N (31 + c)) (N (95 + c)) (N 7) (N 8))))])) (h' := (xS b, I, L, xP b)) rfl rfl ?_
      refine xw_go xb_121 1 (f1 := (if (nI (xB (xs_wrong (N (31 + c)) (N (95 + c)) (N 7) (N 8)))) = 0 then 113 else 109, [.ref 60, .int (nI c), .int (nI 4)], [])) (h1 := (xS b, I, L, xP b)) rfl trivial ?_
      refine xw_if (fun c_106 => ?_) (fun c_106 => ?_)
      · skip
        refine xw_go xb_121 1 (f1 := (114, [.ref 60, .int (nI c), .int (nI 4)], [.int 0])) (h1 := (xS b, I, L, xP b)) rfl trivial ?_
        refine xw_ret xb_121 rfl rfl trivial ?_
        simp only [xB_eq0] at c_106
        first | (rw [c_106]; exact xQM_same hM) | (rw [show xs_wrong (N (31 + c)) (N (95 + c)) (N 7) (N 8) = true by simpa using c_106]; exact xQM_same hM)
      · skip
        refine xw_go xb_121 2 (f1 := (114, [.ref 60, .int (nI c), .int (nI 4)], [.int 1])) (h1 := (xS b, I, L, xP b)) rfl trivial ?_
        refine xw_ret xb_121 rfl rfl trivial ?_
        simp only [xB_eq0] at c_106
        first | (rw [c_106]; exact xQM_same hM) | (rw [show xs_wrong (N (31 + c)) (N (95 + c)) (N 7) (N 8) = true by simpa using c_106]; exact xQM_same hM)
    · skip
      exfalso
      try simp only [xB_dec, Classical.not_not] at c_5 c_17
      try simp (disch := omega) only [xt_eq, xt_lt, xt_le, xkt_0, xkt_1, xkt_2, xkt_3, xkt_4, xkt_5, xkt_6, xkt_7, xkt_8, xkt_9, xkt_10, xkt_11, xkt_12, xkt_13, xkt_14, xkt_16, xkt_20, xkt_24, xkt_31, xkt_32, xkt_40, xkt_44, xkt_47, xkt_48, xkt_57, xkt_59, xkt_60, xkt_63, xkt_64, xkt_65, xkt_72, xkt_95, xkt_99, xkt_100, xkt_101, xkt_103, xkt_110, xkt_112, xkt_113, xkt_114, xkt_119, xkt_126, xkt_159, xkt_576, xkt_999, xkt_9999, xkt_65536, xkt_999999, xkt_m1, xkt_m2, xkt_m3, xkt_m4, xkt_m11, xkt_m12, xkt_m13, xkt_m14, xkt_m20, xjt_0, xjt_1, xjt_2, xjt_3, xjt_4, xjt_5, xjt_6, xjt_7, xjt_8, xjt_9, xjt_10, xjt_11, xjt_12, xjt_13, xjt_14, xjt_16, xjt_20, xjt_24, xjt_31, xjt_32, xjt_40, xjt_44, xjt_47, xjt_48, xjt_57, xjt_59, xjt_60, xjt_63, xjt_64, xjt_65, xjt_72, xjt_95, xjt_99, xjt_100, xjt_101, xjt_103, xjt_110, xjt_112, xjt_113, xjt_114, xjt_119, xjt_126, xjt_159, xjt_576, xjt_999, xjt_9999, xjt_65536, xjt_999999, xt64, xt_n, not_true_eq_false, not_false_eq_true, Classical.not_not] at c_5 c_17
      all_goals omega

theorem c_turn0 {d : Nat} {b : Bool} {I : Nat → Nat → Int32} {L : Nat → Nat → Int64} {N : Nat → Nat} {u : Nat} {U : Nat → Nat → Nat} (hP : xPL N u U 1 I) (hK : xUK N u U) {x y : Int32} (hx : ¬ (0 ≤ x.toInt ∧ x.toInt < (N 2 : Int) ∧ 0 ≤ y.toInt ∧ y.toInt ≤ 1)) : xm_Z (d + 3) 36 [.ref 0, .int x, .int y] (xS b, I, L, xP b) (fun rz hz => xQC b I L (-1) N u U rz hz) := by
  have hO := hK.1
  have hb := hK.1.1
  have c64 : N 0 * N 1 ≤ 64 := xce_le hO
  have c4 : 4 ≤ N 0 * N 1 := xce_ge hO
  obtain ⟨⟨hN0, hN1, hN2, hN3, hN4, hN5, hN6, hN7, hN8, hN9, hN10⟩, hNs, hNw, hNp⟩ := hP.1
  refine xw_S xb_36 (l := [.ref 0, .int x, .int y]) (Nat.le_of_ble_eq_true rfl) rfl ?_
  refine xw_go xb_36 3 (f1 := (5, [.ref 0, .int x, .int y], [.int x, .ref 1])) (h1 := (xS b, I, L, xP b)) rfl ⟨rfl, trivial⟩ ?_
  refine xw_call xb_36 rfl rfl rfl rfl rfl (Or.inr ⟨_, _, rfl, rfl⟩) (c_hasSprinkler (I := I) hN2 (by omega)) ?_
  rintro _ _ ⟨rfl, rfl⟩
  refine xw_at (f' := (8, [.ref 0, .int x, .int y], [.int (nI (xB (decide (0 ≤ x.toInt ∧ x.toInt < (N 2 : Int)))))])) (h' := (xS b, I, L, xP b)) rfl rfl ?_
  refine xw_go xb_36 1 (f1 := (if (nI (xB (decide (0 ≤ x.toInt ∧ x.toInt < (N 2 : Int))))) = 0 then 20 else 11, [.ref 0, .int x, .int y], [])) (h1 := (xS b, I, L, xP b)) rfl trivial ?_
  refine xw_if (fun c_8 => ?_) (fun c_8 => ?_)
  · skip
    refine xw_go xb_36 1 (f1 := (21, [.ref 0, .int x, .int y], [.int (-1)])) (h1 := (xS b, I, L, xP b)) rfl trivial ?_
    refine xw_ret xb_36 rfl rfl trivial ?_
    exact xQC_same hP
  · skip
    refine xw_go xb_36 3 (f1 := (14, [.ref 0, .int x, .int y], [.int 1, .int 0, .int y])) (h1 := (xS b, I, L, xP b)) rfl trivial ?_
    refine xw_call xb_36 rfl rfl rfl rfl rfl (Or.inl rfl) c_within ?_
    rintro _ _ ⟨rfl, rfl⟩
    refine xw_at (f' := (17, [.ref 0, .int x, .int y], [.int (nI (xB (decide ((0 : Int32).toInt ≤ y.toInt ∧ y.toInt ≤ (1 : Int32).toInt))))])) (h' := (xS b, I, L, xP b)) rfl rfl ?_
    refine xw_go xb_36 1 (f1 := (if ¬ (nI (xB (decide ((0 : Int32).toInt ≤ y.toInt ∧ y.toInt ≤ (1 : Int32).toInt)))) = 0 then 22 else 20, [.ref 0, .int x, .int y], [])) (h1 := (xS b, I, L, xP b)) rfl trivial ?_
    refine xw_if (fun c_17 => ?_) (fun c_17 => ?_)
    · skip
      exfalso
      try simp only [xB_dec, Classical.not_not] at c_8 c_17
      try simp (disch := omega) only [xt_eq, xt_lt, xt_le, xkt_0, xkt_1, xkt_2, xkt_3, xkt_4, xkt_5, xkt_6, xkt_7, xkt_8, xkt_9, xkt_10, xkt_11, xkt_12, xkt_13, xkt_14, xkt_16, xkt_20, xkt_24, xkt_31, xkt_32, xkt_40, xkt_44, xkt_47, xkt_48, xkt_57, xkt_59, xkt_60, xkt_63, xkt_64, xkt_65, xkt_72, xkt_95, xkt_99, xkt_100, xkt_101, xkt_103, xkt_110, xkt_112, xkt_113, xkt_114, xkt_119, xkt_126, xkt_159, xkt_576, xkt_999, xkt_9999, xkt_65536, xkt_999999, xkt_m1, xkt_m2, xkt_m3, xkt_m4, xkt_m11, xkt_m12, xkt_m13, xkt_m14, xkt_m20, xjt_0, xjt_1, xjt_2, xjt_3, xjt_4, xjt_5, xjt_6, xjt_7, xjt_8, xjt_9, xjt_10, xjt_11, xjt_12, xjt_13, xjt_14, xjt_16, xjt_20, xjt_24, xjt_31, xjt_32, xjt_40, xjt_44, xjt_47, xjt_48, xjt_57, xjt_59, xjt_60, xjt_63, xjt_64, xjt_65, xjt_72, xjt_95, xjt_99, xjt_100, xjt_101, xjt_103, xjt_110, xjt_112, xjt_113, xjt_114, xjt_119, xjt_126, xjt_159, xjt_576, xjt_999, xjt_9999, xjt_65536, xjt_999999, xt64, xt_n, not_true_eq_false, not_false_eq_true, Classical.not_not] at c_8 c_17
      all_goals omega
    · skip
      refine xw_go xb_36 1 (f1 := (21, [.ref 0, .int x, .int y], [.int (-1)])) (h1 := (xS b, I, L, xP b)) rfl trivial ?_
      refine xw_ret xb_36 rfl rfl trivial ?_
      exact xQC_same hP

theorem c_turn1 {d : Nat} {b : Bool} {I : Nat → Nat → Int32} {L : Nat → Nat → Int64} {N : Nat → Nat} {u : Nat} {U : Nat → Nat → Nat} (hP : xPL N u U 1 I) (hK : xUK N u U) {i t : Nat} (hi : i < N 2) (ht : t < 2) (h : xB ((N 3).testBit i) = t) {x : Int32} (e_x : x = nI i) {y : Int32} (e_y : y = nI t) : xm_Z (d + 3) 36 [.ref 0, .int x, .int y] (xS b, I, L, xP b) (fun rz hz => xQC b I L (-2) N u U rz hz) := by
  subst e_x
  subst e_y
  have hO := hK.1
  have hb := hK.1.1
  have c64 : N 0 * N 1 ≤ 64 := xce_le hO
  have c4 : 4 ≤ N 0 * N 1 := xce_ge hO
  obtain ⟨⟨hN0, hN1, hN2, hN3, hN4, hN5, hN6, hN7, hN8, hN9, hN10⟩, hNs, hNw, hNp⟩ := hP.1
  have hB := xB_lt ((N 3).testBit i)
  have h32 := xOn32 hO
  obtain ⟨t1, t2⟩ := xtog (N 3) h32 i (by omega)
  have p1 := xpc_le (N 3) h32
  refine xw_S xb_36 (l := [.ref 0, .int (nI i), .int (nI t)]) (Nat.le_of_ble_eq_true rfl) rfl ?_
  refine xw_go xb_36 3 (f1 := (5, [.ref 0, .int (nI i), .int (nI t)], [.int (nI i), .ref 1])) (h1 := (xS b, I, L, xP b)) rfl ⟨rfl, trivial⟩ ?_
  refine xw_call xb_36 rfl rfl rfl rfl rfl (Or.inr ⟨_, _, rfl, rfl⟩) (c_hasSprinkler (I := I) hN2 (by omega)) ?_
  rintro _ _ ⟨rfl, rfl⟩
  refine xw_at (f' := (8, [.ref 0, .int (nI i), .int (nI t)], [.int (nI (xB (decide (0 ≤ (nI i).toInt ∧ (nI i).toInt < (N 2 : Int)))))])) (h' := (xS b, I, L, xP b)) rfl rfl ?_
  refine xw_go xb_36 1 (f1 := (if (nI (xB (decide (0 ≤ (nI i).toInt ∧ (nI i).toInt < (N 2 : Int))))) = 0 then 20 else 11, [.ref 0, .int (nI i), .int (nI t)], [])) (h1 := (xS b, I, L, xP b)) rfl trivial ?_
  refine xw_if (fun c_8 => ?_) (fun c_8 => ?_)
  · skip
    exfalso
    try simp only [xB_dec, Classical.not_not] at c_8
    try simp (disch := omega) only [xt_eq, xt_lt, xt_le, xkt_0, xkt_1, xkt_2, xkt_3, xkt_4, xkt_5, xkt_6, xkt_7, xkt_8, xkt_9, xkt_10, xkt_11, xkt_12, xkt_13, xkt_14, xkt_16, xkt_20, xkt_24, xkt_31, xkt_32, xkt_40, xkt_44, xkt_47, xkt_48, xkt_57, xkt_59, xkt_60, xkt_63, xkt_64, xkt_65, xkt_72, xkt_95, xkt_99, xkt_100, xkt_101, xkt_103, xkt_110, xkt_112, xkt_113, xkt_114, xkt_119, xkt_126, xkt_159, xkt_576, xkt_999, xkt_9999, xkt_65536, xkt_999999, xkt_m1, xkt_m2, xkt_m3, xkt_m4, xkt_m11, xkt_m12, xkt_m13, xkt_m14, xkt_m20, xjt_0, xjt_1, xjt_2, xjt_3, xjt_4, xjt_5, xjt_6, xjt_7, xjt_8, xjt_9, xjt_10, xjt_11, xjt_12, xjt_13, xjt_14, xjt_16, xjt_20, xjt_24, xjt_31, xjt_32, xjt_40, xjt_44, xjt_47, xjt_48, xjt_57, xjt_59, xjt_60, xjt_63, xjt_64, xjt_65, xjt_72, xjt_95, xjt_99, xjt_100, xjt_101, xjt_103, xjt_110, xjt_112, xjt_113, xjt_114, xjt_119, xjt_126, xjt_159, xjt_576, xjt_999, xjt_9999, xjt_65536, xjt_999999, xt64, xt_n, not_true_eq_false, not_false_eq_true, Classical.not_not] at c_8
    all_goals omega
  · skip
    refine xw_go xb_36 3 (f1 := (14, [.ref 0, .int (nI i), .int (nI t)], [.int 1, .int 0, .int (nI t)])) (h1 := (xS b, I, L, xP b)) rfl trivial ?_
    refine xw_call xb_36 rfl rfl rfl rfl rfl (Or.inl rfl) c_within ?_
    rintro _ _ ⟨rfl, rfl⟩
    refine xw_at (f' := (17, [.ref 0, .int (nI i), .int (nI t)], [.int (nI (xB (decide ((0 : Int32).toInt ≤ (nI t).toInt ∧ (nI t).toInt ≤ (1 : Int32).toInt))))])) (h' := (xS b, I, L, xP b)) rfl rfl ?_
    refine xw_go xb_36 1 (f1 := (if ¬ (nI (xB (decide ((0 : Int32).toInt ≤ (nI t).toInt ∧ (nI t).toInt ≤ (1 : Int32).toInt)))) = 0 then 22 else 20, [.ref 0, .int (nI i), .int (nI t)], [])) (h1 := (xS b, I, L, xP b)) rfl trivial ?_
    refine xw_if (fun c_17 => ?_) (fun c_17 => ?_)
    · skip
      refine xw_go xb_36 3 (f1 := (27, [.ref 0, .int (nI i), .int (nI t)], [.int (nI i), .ref 1])) (h1 := (xS b, I, L, xP b)) rfl ⟨rfl, trivial⟩ ?_
      refine xw_call xb_36 rfl rfl rfl rfl rfl (Or.inr ⟨_, _, rfl, rfl⟩) (c_isOn (I := I) hN3 h32 (i := i) (by omega) rfl) ?_
      rintro _ _ ⟨rfl, rfl⟩
      refine xw_at (f' := (30, [.ref 0, .int (nI i), .int (nI t)], [.int (nI (xB ((N 3).testBit i)))])) (h' := (xS b, I, L, xP b)) rfl rfl ?_
      refine xw_go xb_36 3 (f1 := (if ¬ (nI t) = 1 then 39 else 35, [.ref 0, .int (nI i), .int (nI t)], [.int (nI (xB ((N 3).testBit i)))])) (h1 := (xS b, I, L, xP b)) rfl trivial ?_
      refine xw_if (fun c_32 => ?_) (fun c_32 => ?_)
      · skip
        refine xw_go xb_36 2 (f1 := (if ¬ (nI (xB ((N 3).testBit i))) = 0 then 46 else 43, [.ref 0, .int (nI i), .int (nI t)], [])) (h1 := (xS b, I, L, xP b)) rfl trivial ?_
        refine xw_if (fun c_40 => ?_) (fun c_40 => ?_)
        · skip
          exfalso
          try simp only [xB_dec, Classical.not_not] at c_8 c_17 c_32 c_40
          try simp (disch := omega) only [xt_eq, xt_lt, xt_le, xkt_0, xkt_1, xkt_2, xkt_3, xkt_4, xkt_5, xkt_6, xkt_7, xkt_8, xkt_9, xkt_10, xkt_11, xkt_12, xkt_13, xkt_14, xkt_16, xkt_20, xkt_24, xkt_31, xkt_32, xkt_40, xkt_44, xkt_47, xkt_48, xkt_57, xkt_59, xkt_60, xkt_63, xkt_64, xkt_65, xkt_72, xkt_95, xkt_99, xkt_100, xkt_101, xkt_103, xkt_110, xkt_112, xkt_113, xkt_114, xkt_119, xkt_126, xkt_159, xkt_576, xkt_999, xkt_9999, xkt_65536, xkt_999999, xkt_m1, xkt_m2, xkt_m3, xkt_m4, xkt_m11, xkt_m12, xkt_m13, xkt_m14, xkt_m20, xjt_0, xjt_1, xjt_2, xjt_3, xjt_4, xjt_5, xjt_6, xjt_7, xjt_8, xjt_9, xjt_10, xjt_11, xjt_12, xjt_13, xjt_14, xjt_16, xjt_20, xjt_24, xjt_31, xjt_32, xjt_40, xjt_44, xjt_47, xjt_48, xjt_57, xjt_59, xjt_60, xjt_63, xjt_64, xjt_65, xjt_72, xjt_95, xjt_99, xjt_100, xjt_101, xjt_103, xjt_110, xjt_112, xjt_113, xjt_114, xjt_119, xjt_126, xjt_159, xjt_576, xjt_999, xjt_9999, xjt_65536, xjt_999999, xt64, xt_n, not_true_eq_false, not_false_eq_true, Classical.not_not] at c_8 c_17 c_32 c_40
          all_goals omega
        · skip
          refine xw_go xb_36 1 (f1 := (45, [.ref 0, .int (nI i), .int (nI t)], [.int (-2)])) (h1 := (xS b, I, L, xP b)) rfl trivial ?_
          refine xw_ret xb_36 rfl rfl trivial ?_
          exact xQC_same hP
      · skip
        refine xw_go xb_36 3 (f1 := (if ¬ (nI (xB ((N 3).testBit i))) = 1 then 46 else 43, [.ref 0, .int (nI i), .int (nI t)], [])) (h1 := (xS b, I, L, xP b)) rfl trivial ?_
        refine xw_if (fun c_40 => ?_) (fun c_40 => ?_)
        · skip
          exfalso
          try simp only [xB_dec, Classical.not_not] at c_8 c_17 c_32 c_40
          try simp (disch := omega) only [xt_eq, xt_lt, xt_le, xkt_0, xkt_1, xkt_2, xkt_3, xkt_4, xkt_5, xkt_6, xkt_7, xkt_8, xkt_9, xkt_10, xkt_11, xkt_12, xkt_13, xkt_14, xkt_16, xkt_20, xkt_24, xkt_31, xkt_32, xkt_40, xkt_44, xkt_47, xkt_48, xkt_57, xkt_59, xkt_60, xkt_63, xkt_64, xkt_65, xkt_72, xkt_95, xkt_99, xkt_100, xkt_101, xkt_103, xkt_110, xkt_112, xkt_113, xkt_114, xkt_119, xkt_126, xkt_159, xkt_576, xkt_999, xkt_9999, xkt_65536, xkt_999999, xkt_m1, xkt_m2, xkt_m3, xkt_m4, xkt_m11, xkt_m12, xkt_m13, xkt_m14, xkt_m20, xjt_0, xjt_1, xjt_2, xjt_3, xjt_4, xjt_5, xjt_6, xjt_7, xjt_8, xjt_9, xjt_10, xjt_11, xjt_12, xjt_13, xjt_14, xjt_16, xjt_20, xjt_24, xjt_31, xjt_32, xjt_40, xjt_44, xjt_47, xjt_48, xjt_57, xjt_59, xjt_60, xjt_63, xjt_64, xjt_65, xjt_72, xjt_95, xjt_99, xjt_100, xjt_101, xjt_103, xjt_110, xjt_112, xjt_113, xjt_114, xjt_119, xjt_126, xjt_159, xjt_576, xjt_999, xjt_9999, xjt_65536, xjt_999999, xt64, xt_n, not_true_eq_false, not_false_eq_true, Classical.not_not] at c_8 c_17 c_32 c_40
          all_goals omega
        · skip
          refine xw_go xb_36 1 (f1 := (45, [.ref 0, .int (nI i), .int (nI t)], [.int (-2)])) (h1 := (xS b, I, L, xP b)) rfl trivial ?_
          refine xw_ret xb_36 rfl rfl trivial ?_
          exact xQC_same hP
    · skip
      exfalso
      try simp only [xB_dec, Classical.not_not] at c_8 c_17
      try simp (disch := omega) only [xt_eq, xt_lt, xt_le, xkt_0, xkt_1, xkt_2, xkt_3, xkt_4, xkt_5, xkt_6, xkt_7, xkt_8, xkt_9, xkt_10, xkt_11, xkt_12, xkt_13, xkt_14, xkt_16, xkt_20, xkt_24, xkt_31, xkt_32, xkt_40, xkt_44, xkt_47, xkt_48, xkt_57, xkt_59, xkt_60, xkt_63, xkt_64, xkt_65, xkt_72, xkt_95, xkt_99, xkt_100, xkt_101, xkt_103, xkt_110, xkt_112, xkt_113, xkt_114, xkt_119, xkt_126, xkt_159, xkt_576, xkt_999, xkt_9999, xkt_65536, xkt_999999, xkt_m1, xkt_m2, xkt_m3, xkt_m4, xkt_m11, xkt_m12, xkt_m13, xkt_m14, xkt_m20, xjt_0, xjt_1, xjt_2, xjt_3, xjt_4, xjt_5, xjt_6, xjt_7, xjt_8, xjt_9, xjt_10, xjt_11, xjt_12, xjt_13, xjt_14, xjt_16, xjt_20, xjt_24, xjt_31, xjt_32, xjt_40, xjt_44, xjt_47, xjt_48, xjt_57, xjt_59, xjt_60, xjt_63, xjt_64, xjt_65, xjt_72, xjt_95, xjt_99, xjt_100, xjt_101, xjt_103, xjt_110, xjt_112, xjt_113, xjt_114, xjt_119, xjt_126, xjt_159, xjt_576, xjt_999, xjt_9999, xjt_65536, xjt_999999, xt64, xt_n, not_true_eq_false, not_false_eq_true, Classical.not_not] at c_8 c_17
      all_goals omega

theorem c_turn2 {d : Nat} {b : Bool} {I : Nat → Nat → Int32} {L : Nat → Nat → Int64} {N : Nat → Nat} {u : Nat} {U : Nat → Nat → Nat} (hP : xPL N u U 1 I) (hK : xUK N u U) {i t : Nat} (hi : i < N 2) (ht : t < 2) (h : xB ((N 3).testBit i) ≠ t) (h1 : t = 1) (h2 : N 6 ≤ xpc (N 3)) {x : Int32} (e_x : x = nI i) {y : Int32} (e_y : y = nI t) : xm_Z (d + 3) 36 [.ref 0, .int x, .int y] (xS b, I, L, xP b) (fun rz hz => xQC b I L (-3) N u U rz hz) := by
  subst e_x
  subst e_y
  have hO := hK.1
  have hb := hK.1.1
  have c64 : N 0 * N 1 ≤ 64 := xce_le hO
  have c4 : 4 ≤ N 0 * N 1 := xce_ge hO
  obtain ⟨⟨hN0, hN1, hN2, hN3, hN4, hN5, hN6, hN7, hN8, hN9, hN10⟩, hNs, hNw, hNp⟩ := hP.1
  have hB := xB_lt ((N 3).testBit i)
  have h32 := xOn32 hO
  obtain ⟨t1, t2⟩ := xtog (N 3) h32 i (by omega)
  have p1 := xpc_le (N 3) h32
  refine xw_S xb_36 (l := [.ref 0, .int (nI i), .int (nI t)]) (Nat.le_of_ble_eq_true rfl) rfl ?_
  refine xw_go xb_36 3 (f1 := (5, [.ref 0, .int (nI i), .int (nI t)], [.int (nI i), .ref 1])) (h1 := (xS b, I, L, xP b)) rfl ⟨rfl, trivial⟩ ?_
  refine xw_call xb_36 rfl rfl rfl rfl rfl (Or.inr ⟨_, _, rfl, rfl⟩) (c_hasSprinkler (I := I) hN2 (by omega)) ?_
  rintro _ _ ⟨rfl, rfl⟩
  refine xw_at (f' := (8, [.ref 0, .int (nI i), .int (nI t)], [.int (nI (xB (decide (0 ≤ (nI i).toInt ∧ (nI i).toInt < (N 2 : Int)))))])) (h' := (xS b, I, L, xP b)) rfl rfl ?_
  refine xw_go xb_36 1 (f1 := (if (nI (xB (decide (0 ≤ (nI i).toInt ∧ (nI i).toInt < (N 2 : Int))))) = 0 then 20 else 11, [.ref 0, .int (nI i), .int (nI t)], [])) (h1 := (xS b, I, L, xP b)) rfl trivial ?_
  refine xw_if (fun c_8 => ?_) (fun c_8 => ?_)
  · skip
    exfalso
    try simp only [xB_dec, Classical.not_not] at c_8
    try simp (disch := omega) only [xt_eq, xt_lt, xt_le, xkt_0, xkt_1, xkt_2, xkt_3, xkt_4, xkt_5, xkt_6, xkt_7, xkt_8, xkt_9, xkt_10, xkt_11, xkt_12, xkt_13, xkt_14, xkt_16, xkt_20, xkt_24, xkt_31, xkt_32, xkt_40, xkt_44, xkt_47, xkt_48, xkt_57, xkt_59, xkt_60, xkt_63, xkt_64, xkt_65, xkt_72, xkt_95, xkt_99, xkt_100, xkt_101, xkt_103, xkt_110, xkt_112, xkt_113, xkt_114, xkt_119, xkt_126, xkt_159, xkt_576, xkt_999, xkt_9999, xkt_65536, xkt_999999, xkt_m1, xkt_m2, xkt_m3, xkt_m4, xkt_m11, xkt_m12, xkt_m13, xkt_m14, xkt_m20, xjt_0, xjt_1, xjt_2, xjt_3, xjt_4, xjt_5, xjt_6, xjt_7, xjt_8, xjt_9, xjt_10, xjt_11, xjt_12, xjt_13, xjt_14, xjt_16, xjt_20, xjt_24, xjt_31, xjt_32, xjt_40, xjt_44, xjt_47, xjt_48, xjt_57, xjt_59, xjt_60, xjt_63, xjt_64, xjt_65, xjt_72, xjt_95, xjt_99, xjt_100, xjt_101, xjt_103, xjt_110, xjt_112, xjt_113, xjt_114, xjt_119, xjt_126, xjt_159, xjt_576, xjt_999, xjt_9999, xjt_65536, xjt_999999, xt64, xt_n, not_true_eq_false, not_false_eq_true, Classical.not_not] at c_8
    all_goals omega
  · skip
    refine xw_go xb_36 3 (f1 := (14, [.ref 0, .int (nI i), .int (nI t)], [.int 1, .int 0, .int (nI t)])) (h1 := (xS b, I, L, xP b)) rfl trivial ?_
    refine xw_call xb_36 rfl rfl rfl rfl rfl (Or.inl rfl) c_within ?_
    rintro _ _ ⟨rfl, rfl⟩
    refine xw_at (f' := (17, [.ref 0, .int (nI i), .int (nI t)], [.int (nI (xB (decide ((0 : Int32).toInt ≤ (nI t).toInt ∧ (nI t).toInt ≤ (1 : Int32).toInt))))])) (h' := (xS b, I, L, xP b)) rfl rfl ?_
    refine xw_go xb_36 1 (f1 := (if ¬ (nI (xB (decide ((0 : Int32).toInt ≤ (nI t).toInt ∧ (nI t).toInt ≤ (1 : Int32).toInt)))) = 0 then 22 else 20, [.ref 0, .int (nI i), .int (nI t)], [])) (h1 := (xS b, I, L, xP b)) rfl trivial ?_
    refine xw_if (fun c_17 => ?_) (fun c_17 => ?_)
    · skip
      refine xw_go xb_36 3 (f1 := (27, [.ref 0, .int (nI i), .int (nI t)], [.int (nI i), .ref 1])) (h1 := (xS b, I, L, xP b)) rfl ⟨rfl, trivial⟩ ?_
      refine xw_call xb_36 rfl rfl rfl rfl rfl (Or.inr ⟨_, _, rfl, rfl⟩) (c_isOn (I := I) hN3 h32 (i := i) (by omega) rfl) ?_
      rintro _ _ ⟨rfl, rfl⟩
      refine xw_at (f' := (30, [.ref 0, .int (nI i), .int (nI t)], [.int (nI (xB ((N 3).testBit i)))])) (h' := (xS b, I, L, xP b)) rfl rfl ?_
      refine xw_go xb_36 3 (f1 := (if ¬ (nI t) = 1 then 39 else 35, [.ref 0, .int (nI i), .int (nI t)], [.int (nI (xB ((N 3).testBit i)))])) (h1 := (xS b, I, L, xP b)) rfl trivial ?_
      refine xw_if (fun c_32 => ?_) (fun c_32 => ?_)
      · skip
        refine xw_go xb_36 2 (f1 := (if ¬ (nI (xB ((N 3).testBit i))) = 0 then 46 else 43, [.ref 0, .int (nI i), .int (nI t)], [])) (h1 := (xS b, I, L, xP b)) rfl trivial ?_
        refine xw_if (fun c_40 => ?_) (fun c_40 => ?_)
        · skip
          refine xw_go xb_36 3 (f1 := (if ¬ (nI t) = 1 then 74 else 51, [.ref 0, .int (nI i), .int (nI t)], [])) (h1 := (xS b, I, L, xP b)) rfl trivial ?_
          refine xw_if (fun c_48 => ?_) (fun c_48 => ?_)
          · skip
            exfalso
            try simp only [xB_dec, Classical.not_not] at c_8 c_17 c_32 c_40 c_48
            try simp only [hN3, hN6] at c_8 c_17 c_32 c_40 c_48
            try simp (disch := omega) only [xt_eq, xt_lt, xt_le, xkt_0, xkt_1, xkt_2, xkt_3, xkt_4, xkt_5, xkt_6, xkt_7, xkt_8, xkt_9, xkt_10, xkt_11, xkt_12, xkt_13, xkt_14, xkt_16, xkt_20, xkt_24, xkt_31, xkt_32, xkt_40, xkt_44, xkt_47, xkt_48, xkt_57, xkt_59, xkt_60, xkt_63, xkt_64, xkt_65, xkt_72, xkt_95, xkt_99, xkt_100, xkt_101, xkt_103, xkt_110, xkt_112, xkt_113, xkt_114, xkt_119, xkt_126, xkt_159, xkt_576, xkt_999, xkt_9999, xkt_65536, xkt_999999, xkt_m1, xkt_m2, xkt_m3, xkt_m4, xkt_m11, xkt_m12, xkt_m13, xkt_m14, xkt_m20, xjt_0, xjt_1, xjt_2, xjt_3, xjt_4, xjt_5, xjt_6, xjt_7, xjt_8, xjt_9, xjt_10, xjt_11, xjt_12, xjt_13, xjt_14, xjt_16, xjt_20, xjt_24, xjt_31, xjt_32, xjt_40, xjt_44, xjt_47, xjt_48, xjt_57, xjt_59, xjt_60, xjt_63, xjt_64, xjt_65, xjt_72, xjt_95, xjt_99, xjt_100, xjt_101, xjt_103, xjt_110, xjt_112, xjt_113, xjt_114, xjt_119, xjt_126, xjt_159, xjt_576, xjt_999, xjt_9999, xjt_65536, xjt_999999, xt64, xt_n, not_true_eq_false, not_false_eq_true, Classical.not_not] at c_8 c_17 c_32 c_40 c_48
            all_goals omega
          · skip
            refine xw_go xb_36 3 (f1 := (58, [.ref 0, .int (nI i), .int (nI t)], [.int (I 1 6)])) (h1 := (xS b, I, L, xP b)) rfl ⟨rfl, rfl, trivial⟩ ?_
            refine xw_call xb_36 rfl rfl rfl rfl rfl (Or.inl rfl) (c_bitCount (v := N 3) h32 hN3) ?_
            rintro _ _ ⟨rfl, rfl⟩
            refine xw_at (f' := (61, [.ref 0, .int (nI i), .int (nI t)], [.int (nI (xpc (N 3)))])) (h' := (xS b, I, L, xP b)) rfl rfl ?_
            refine xw_go xb_36 4 (f1 := (if (nI (xpc (N 3))) < (I 1 8) then 74 else 71, [.ref 0, .int (nI i), .int (nI t)], [])) (h1 := (xS b, I, L, xP b)) rfl ⟨rfl, rfl, trivial⟩ ?_
            refine xw_if (fun c_68 => ?_) (fun c_68 => ?_)
            · skip
              exfalso
              try simp only [xB_dec, Classical.not_not] at c_8 c_17 c_32 c_40 c_48 c_68
              try simp only [hN3, hN6] at c_8 c_17 c_32 c_40 c_48 c_68
              try simp (disch := omega) only [xt_eq, xt_lt, xt_le, xkt_0, xkt_1, xkt_2, xkt_3, xkt_4, xkt_5, xkt_6, xkt_7, xkt_8, xkt_9, xkt_10, xkt_11, xkt_12, xkt_13, xkt_14, xkt_16, xkt_20, xkt_24, xkt_31, xkt_32, xkt_40, xkt_44, xkt_47, xkt_48, xkt_57, xkt_59, xkt_60, xkt_63, xkt_64, xkt_65, xkt_72, xkt_95, xkt_99, xkt_100, xkt_101, xkt_103, xkt_110, xkt_112, xkt_113, xkt_114, xkt_119, xkt_126, xkt_159, xkt_576, xkt_999, xkt_9999, xkt_65536, xkt_999999, xkt_m1, xkt_m2, xkt_m3, xkt_m4, xkt_m11, xkt_m12, xkt_m13, xkt_m14, xkt_m20, xjt_0, xjt_1, xjt_2, xjt_3, xjt_4, xjt_5, xjt_6, xjt_7, xjt_8, xjt_9, xjt_10, xjt_11, xjt_12, xjt_13, xjt_14, xjt_16, xjt_20, xjt_24, xjt_31, xjt_32, xjt_40, xjt_44, xjt_47, xjt_48, xjt_57, xjt_59, xjt_60, xjt_63, xjt_64, xjt_65, xjt_72, xjt_95, xjt_99, xjt_100, xjt_101, xjt_103, xjt_110, xjt_112, xjt_113, xjt_114, xjt_119, xjt_126, xjt_159, xjt_576, xjt_999, xjt_9999, xjt_65536, xjt_999999, xt64, xt_n, not_true_eq_false, not_false_eq_true, Classical.not_not] at c_8 c_17 c_32 c_40 c_48 c_68
              all_goals omega
            · skip
              refine xw_go xb_36 1 (f1 := (73, [.ref 0, .int (nI i), .int (nI t)], [.int (-3)])) (h1 := (xS b, I, L, xP b)) rfl trivial ?_
              refine xw_ret xb_36 rfl rfl trivial ?_
              exact xQC_same hP
        · skip
          exfalso
          try simp only [xB_dec, Classical.not_not] at c_8 c_17 c_32 c_40
          try simp (disch := omega) only [xt_eq, xt_lt, xt_le, xkt_0, xkt_1, xkt_2, xkt_3, xkt_4, xkt_5, xkt_6, xkt_7, xkt_8, xkt_9, xkt_10, xkt_11, xkt_12, xkt_13, xkt_14, xkt_16, xkt_20, xkt_24, xkt_31, xkt_32, xkt_40, xkt_44, xkt_47, xkt_48, xkt_57, xkt_59, xkt_60, xkt_63, xkt_64, xkt_65, xkt_72, xkt_95, xkt_99, xkt_100, xkt_101, xkt_103, xkt_110, xkt_112, xkt_113, xkt_114, xkt_119, xkt_126, xkt_159, xkt_576, xkt_999, xkt_9999, xkt_65536, xkt_999999, xkt_m1, xkt_m2, xkt_m3, xkt_m4, xkt_m11, xkt_m12, xkt_m13, xkt_m14, xkt_m20, xjt_0, xjt_1, xjt_2, xjt_3, xjt_4, xjt_5, xjt_6, xjt_7, xjt_8, xjt_9, xjt_10, xjt_11, xjt_12, xjt_13, xjt_14, xjt_16, xjt_20, xjt_24, xjt_31, xjt_32, xjt_40, xjt_44, xjt_47, xjt_48, xjt_57, xjt_59, xjt_60, xjt_63, xjt_64, xjt_65, xjt_72, xjt_95, xjt_99, xjt_100, xjt_101, xjt_103, xjt_110, xjt_112, xjt_113, xjt_114, xjt_119, xjt_126, xjt_159, xjt_576, xjt_999, xjt_9999, xjt_65536, xjt_999999, xt64, xt_n, not_true_eq_false, not_false_eq_true, Classical.not_not] at c_8 c_17 c_32 c_40
          all_goals omega
      · skip
        refine xw_go xb_36 3 (f1 := (if ¬ (nI (xB ((N 3).testBit i))) = 1 then 46 else 43, [.ref 0, .int (nI i), .int (nI t)], [])) (h1 := (xS b, I, L, xP b)) rfl trivial ?_
        refine xw_if (fun c_40 => ?_) (fun c_40 => ?_)
        · skip
          refine xw_go xb_36 3 (f1 := (if ¬ (nI t) = 1 then 74 else 51, [.ref 0, .int (nI i), .int (nI t)], [])) (h1 := (xS b, I, L, xP b)) rfl trivial ?_
          refine xw_if (fun c_48 => ?_) (fun c_48 => ?_)
          · skip
            exfalso
            try simp only [xB_dec, Classical.not_not] at c_8 c_17 c_32 c_40 c_48
            try simp only [hN3, hN6] at c_8 c_17 c_32 c_40 c_48
            try simp (disch := omega) only [xt_eq, xt_lt, xt_le, xkt_0, xkt_1, xkt_2, xkt_3, xkt_4, xkt_5, xkt_6, xkt_7, xkt_8, xkt_9, xkt_10, xkt_11, xkt_12, xkt_13, xkt_14, xkt_16, xkt_20, xkt_24, xkt_31, xkt_32, xkt_40, xkt_44, xkt_47, xkt_48, xkt_57, xkt_59, xkt_60, xkt_63, xkt_64, xkt_65, xkt_72, xkt_95, xkt_99, xkt_100, xkt_101, xkt_103, xkt_110, xkt_112, xkt_113, xkt_114, xkt_119, xkt_126, xkt_159, xkt_576, xkt_999, xkt_9999, xkt_65536, xkt_999999, xkt_m1, xkt_m2, xkt_m3, xkt_m4, xkt_m11, xkt_m12, xkt_m13, xkt_m14, xkt_m20, xjt_0, xjt_1, xjt_2, xjt_3, xjt_4, xjt_5, xjt_6, xjt_7, xjt_8, xjt_9, xjt_10, xjt_11, xjt_12, xjt_13, xjt_14, xjt_16, xjt_20, xjt_24, xjt_31, xjt_32, xjt_40, xjt_44, xjt_47, xjt_48, xjt_57, xjt_59, xjt_60, xjt_63, xjt_64, xjt_65, xjt_72, xjt_95, xjt_99, xjt_100, xjt_101, xjt_103, xjt_110, xjt_112, xjt_113, xjt_114, xjt_119, xjt_126, xjt_159, xjt_576, xjt_999, xjt_9999, xjt_65536, xjt_999999, xt64, xt_n, not_true_eq_false, not_false_eq_true, Classical.not_not] at c_8 c_17 c_32 c_40 c_48
            all_goals omega
          · skip
            refine xw_go xb_36 3 (f1 := (58, [.ref 0, .int (nI i), .int (nI t)], [.int (I 1 6)])) (h1 := (xS b, I, L, xP b)) rfl ⟨rfl, rfl, trivial⟩ ?_
            refine xw_call xb_36 rfl rfl rfl rfl rfl (Or.inl rfl) (c_bitCount (v := N 3) h32 hN3) ?_
            rintro _ _ ⟨rfl, rfl⟩
            refine xw_at (f' := (61, [.ref 0, .int (nI i), .int (nI t)], [.int (nI (xpc (N 3)))])) (h' := (xS b, I, L, xP b)) rfl rfl ?_
            refine xw_go xb_36 4 (f1 := (if (nI (xpc (N 3))) < (I 1 8) then 74 else 71, [.ref 0, .int (nI i), .int (nI t)], [])) (h1 := (xS b, I, L, xP b)) rfl ⟨rfl, rfl, trivial⟩ ?_
            refine xw_if (fun c_68 => ?_) (fun c_68 => ?_)
            · skip
              exfalso
              try simp only [xB_dec, Classical.not_not] at c_8 c_17 c_32 c_40 c_48 c_68
              try simp only [hN3, hN6] at c_8 c_17 c_32 c_40 c_48 c_68
              try simp (disch := omega) only [xt_eq, xt_lt, xt_le, xkt_0, xkt_1, xkt_2, xkt_3, xkt_4, xkt_5, xkt_6, xkt_7, xkt_8, xkt_9, xkt_10, xkt_11, xkt_12, xkt_13, xkt_14, xkt_16, xkt_20, xkt_24, xkt_31, xkt_32, xkt_40, xkt_44, xkt_47, xkt_48, xkt_57, xkt_59, xkt_60, xkt_63, xkt_64, xkt_65, xkt_72, xkt_95, xkt_99, xkt_100, xkt_101, xkt_103, xkt_110, xkt_112, xkt_113, xkt_114, xkt_119, xkt_126, xkt_159, xkt_576, xkt_999, xkt_9999, xkt_65536, xkt_999999, xkt_m1, xkt_m2, xkt_m3, xkt_m4, xkt_m11, xkt_m12, xkt_m13, xkt_m14, xkt_m20, xjt_0, xjt_1, xjt_2, xjt_3, xjt_4, xjt_5, xjt_6, xjt_7, xjt_8, xjt_9, xjt_10, xjt_11, xjt_12, xjt_13, xjt_14, xjt_16, xjt_20, xjt_24, xjt_31, xjt_32, xjt_40, xjt_44, xjt_47, xjt_48, xjt_57, xjt_59, xjt_60, xjt_63, xjt_64, xjt_65, xjt_72, xjt_95, xjt_99, xjt_100, xjt_101, xjt_103, xjt_110, xjt_112, xjt_113, xjt_114, xjt_119, xjt_126, xjt_159, xjt_576, xjt_999, xjt_9999, xjt_65536, xjt_999999, xt64, xt_n, not_true_eq_false, not_false_eq_true, Classical.not_not] at c_8 c_17 c_32 c_40 c_48 c_68
              all_goals omega
            · skip
              refine xw_go xb_36 1 (f1 := (73, [.ref 0, .int (nI i), .int (nI t)], [.int (-3)])) (h1 := (xS b, I, L, xP b)) rfl trivial ?_
              refine xw_ret xb_36 rfl rfl trivial ?_
              exact xQC_same hP
        · skip
          exfalso
          try simp only [xB_dec, Classical.not_not] at c_8 c_17 c_32 c_40
          try simp (disch := omega) only [xt_eq, xt_lt, xt_le, xkt_0, xkt_1, xkt_2, xkt_3, xkt_4, xkt_5, xkt_6, xkt_7, xkt_8, xkt_9, xkt_10, xkt_11, xkt_12, xkt_13, xkt_14, xkt_16, xkt_20, xkt_24, xkt_31, xkt_32, xkt_40, xkt_44, xkt_47, xkt_48, xkt_57, xkt_59, xkt_60, xkt_63, xkt_64, xkt_65, xkt_72, xkt_95, xkt_99, xkt_100, xkt_101, xkt_103, xkt_110, xkt_112, xkt_113, xkt_114, xkt_119, xkt_126, xkt_159, xkt_576, xkt_999, xkt_9999, xkt_65536, xkt_999999, xkt_m1, xkt_m2, xkt_m3, xkt_m4, xkt_m11, xkt_m12, xkt_m13, xkt_m14, xkt_m20, xjt_0, xjt_1, xjt_2, xjt_3, xjt_4, xjt_5, xjt_6, xjt_7, xjt_8, xjt_9, xjt_10, xjt_11, xjt_12, xjt_13, xjt_14, xjt_16, xjt_20, xjt_24, xjt_31, xjt_32, xjt_40, xjt_44, xjt_47, xjt_48, xjt_57, xjt_59, xjt_60, xjt_63, xjt_64, xjt_65, xjt_72, xjt_95, xjt_99, xjt_100, xjt_101, xjt_103, xjt_110, xjt_112, xjt_113, xjt_114, xjt_119, xjt_126, xjt_159, xjt_576, xjt_999, xjt_9999, xjt_65536, xjt_999999, xt64, xt_n, not_true_eq_false, not_false_eq_true, Classical.not_not] at c_8 c_17 c_32 c_40
          all_goals omega
    · skip
      exfalso
      try simp only [xB_dec, Classical.not_not] at c_8 c_17
      try simp (disch := omega) only [xt_eq, xt_lt, xt_le, xkt_0, xkt_1, xkt_2, xkt_3, xkt_4, xkt_5, xkt_6, xkt_7, xkt_8, xkt_9, xkt_10, xkt_11, xkt_12, xkt_13, xkt_14, xkt_16, xkt_20, xkt_24, xkt_31, xkt_32, xkt_40, xkt_44, xkt_47, xkt_48, xkt_57, xkt_59, xkt_60, xkt_63, xkt_64, xkt_65, xkt_72, xkt_95, xkt_99, xkt_100, xkt_101, xkt_103, xkt_110, xkt_112, xkt_113, xkt_114, xkt_119, xkt_126, xkt_159, xkt_576, xkt_999, xkt_9999, xkt_65536, xkt_999999, xkt_m1, xkt_m2, xkt_m3, xkt_m4, xkt_m11, xkt_m12, xkt_m13, xkt_m14, xkt_m20, xjt_0, xjt_1, xjt_2, xjt_3, xjt_4, xjt_5, xjt_6, xjt_7, xjt_8, xjt_9, xjt_10, xjt_11, xjt_12, xjt_13, xjt_14, xjt_16, xjt_20, xjt_24, xjt_31, xjt_32, xjt_40, xjt_44, xjt_47, xjt_48, xjt_57, xjt_59, xjt_60, xjt_63, xjt_64, xjt_65, xjt_72, xjt_95, xjt_99, xjt_100, xjt_101, xjt_103, xjt_110, xjt_112, xjt_113, xjt_114, xjt_119, xjt_126, xjt_159, xjt_576, xjt_999, xjt_9999, xjt_65536, xjt_999999, xt64, xt_n, not_true_eq_false, not_false_eq_true, Classical.not_not] at c_8 c_17
      all_goals omega

theorem c_turn3 {d : Nat} {b : Bool} {I : Nat → Nat → Int32} {L : Nat → Nat → Int64} {N : Nat → Nat} {u : Nat} {U : Nat → Nat → Nat} (hP : xPL N u U 1 I) (hK : xUK N u U) {i t : Nat} (hi : i < N 2) (ht : t < 2) (h : xB ((N 3).testBit i) ≠ t) (h1 : t = 0 ∨ xpc (N 3) < N 6) {x : Int32} (e_x : x = nI i) {y : Int32} (e_y : y = nI t) : xm_Z (d + 3) 36 [.ref 0, .int x, .int y] (xS b, I, L, xP b) (fun rz hz => xQC b I L (nI (xpc (N 3 ^^^ (1 <<< i)))) (va_up N 3 (N 3 ^^^ (1 <<< i))) u U rz hz) := by
  subst e_x
  subst e_y
  have hO := hK.1
  have hb := hK.1.1
  have c64 : N 0 * N 1 ≤ 64 := xce_le hO
  have c4 : 4 ≤ N 0 * N 1 := xce_ge hO
  obtain ⟨⟨hN0, hN1, hN2, hN3, hN4, hN5, hN6, hN7, hN8, hN9, hN10⟩, hNs, hNw, hNp⟩ := hP.1
  have hB := xB_lt ((N 3).testBit i)
  have h32 := xOn32 hO
  obtain ⟨t1, t2⟩ := xtog (N 3) h32 i (by omega)
  have p1 := xpc_le (N 3) h32
  refine xw_S xb_36 (l := [.ref 0, .int (nI i), .int (nI t)]) (Nat.le_of_ble_eq_true rfl) rfl ?_
  refine xw_go xb_36 3 (f1 := (5, [.ref 0, .int (nI i), .int (nI t)], [.int (nI i), .ref 1])) (h1 := (xS b, I, L, xP b)) rfl ⟨rfl, trivial⟩ ?_
  refine xw_call xb_36 rfl rfl rfl rfl rfl (Or.inr ⟨_, _, rfl, rfl⟩) (c_hasSprinkler (I := I) hN2 (by omega)) ?_
  rintro _ _ ⟨rfl, rfl⟩
  refine xw_at (f' := (8, [.ref 0, .int (nI i), .int (nI t)], [.int (nI (xB (decide (0 ≤ (nI i).toInt ∧ (nI i).toInt < (N 2 : Int)))))])) (h' := (xS b, I, L, xP b)) rfl rfl ?_
  refine xw_go xb_36 1 (f1 := (if (nI (xB (decide (0 ≤ (nI i).toInt ∧ (nI i).toInt < (N 2 : Int))))) = 0 then 20 else 11, [.ref 0, .int (nI i), .int (nI t)], [])) (h1 := (xS b, I, L, xP b)) rfl trivial ?_
  refine xw_if (fun c_8 => ?_) (fun c_8 => ?_)
  · skip
    exfalso
    try simp only [xB_dec, Classical.not_not] at c_8
    try simp (disch := omega) only [xt_eq, xt_lt, xt_le, xkt_0, xkt_1, xkt_2, xkt_3, xkt_4, xkt_5, xkt_6, xkt_7, xkt_8, xkt_9, xkt_10, xkt_11, xkt_12, xkt_13, xkt_14, xkt_16, xkt_20, xkt_24, xkt_31, xkt_32, xkt_40, xkt_44, xkt_47, xkt_48, xkt_57, xkt_59, xkt_60, xkt_63, xkt_64, xkt_65, xkt_72, xkt_95, xkt_99, xkt_100, xkt_101, xkt_103, xkt_110, xkt_112, xkt_113, xkt_114, xkt_119, xkt_126, xkt_159, xkt_576, xkt_999, xkt_9999, xkt_65536, xkt_999999, xkt_m1, xkt_m2, xkt_m3, xkt_m4, xkt_m11, xkt_m12, xkt_m13, xkt_m14, xkt_m20, xjt_0, xjt_1, xjt_2, xjt_3, xjt_4, xjt_5, xjt_6, xjt_7, xjt_8, xjt_9, xjt_10, xjt_11, xjt_12, xjt_13, xjt_14, xjt_16, xjt_20, xjt_24, xjt_31, xjt_32, xjt_40, xjt_44, xjt_47, xjt_48, xjt_57, xjt_59, xjt_60, xjt_63, xjt_64, xjt_65, xjt_72, xjt_95, xjt_99, xjt_100, xjt_101, xjt_103, xjt_110, xjt_112, xjt_113, xjt_114, xjt_119, xjt_126, xjt_159, xjt_576, xjt_999, xjt_9999, xjt_65536, xjt_999999, xt64, xt_n, not_true_eq_false, not_false_eq_true, Classical.not_not] at c_8
    all_goals omega
  · skip
    refine xw_go xb_36 3 (f1 := (14, [.ref 0, .int (nI i), .int (nI t)], [.int 1, .int 0, .int (nI t)])) (h1 := (xS b, I, L, xP b)) rfl trivial ?_
    refine xw_call xb_36 rfl rfl rfl rfl rfl (Or.inl rfl) c_within ?_
    rintro _ _ ⟨rfl, rfl⟩
    refine xw_at (f' := (17, [.ref 0, .int (nI i), .int (nI t)], [.int (nI (xB (decide ((0 : Int32).toInt ≤ (nI t).toInt ∧ (nI t).toInt ≤ (1 : Int32).toInt))))])) (h' := (xS b, I, L, xP b)) rfl rfl ?_
    refine xw_go xb_36 1 (f1 := (if ¬ (nI (xB (decide ((0 : Int32).toInt ≤ (nI t).toInt ∧ (nI t).toInt ≤ (1 : Int32).toInt)))) = 0 then 22 else 20, [.ref 0, .int (nI i), .int (nI t)], [])) (h1 := (xS b, I, L, xP b)) rfl trivial ?_
    refine xw_if (fun c_17 => ?_) (fun c_17 => ?_)
    · skip
      refine xw_go xb_36 3 (f1 := (27, [.ref 0, .int (nI i), .int (nI t)], [.int (nI i), .ref 1])) (h1 := (xS b, I, L, xP b)) rfl ⟨rfl, trivial⟩ ?_
      refine xw_call xb_36 rfl rfl rfl rfl rfl (Or.inr ⟨_, _, rfl, rfl⟩) (c_isOn (I := I) hN3 h32 (i := i) (by omega) rfl) ?_
      rintro _ _ ⟨rfl, rfl⟩
      refine xw_at (f' := (30, [.ref 0, .int (nI i), .int (nI t)], [.int (nI (xB ((N 3).testBit i)))])) (h' := (xS b, I, L, xP b)) rfl rfl ?_
      refine xw_go xb_36 3 (f1 := (if ¬ (nI t) = 1 then 39 else 35, [.ref 0, .int (nI i), .int (nI t)], [.int (nI (xB ((N 3).testBit i)))])) (h1 := (xS b, I, L, xP b)) rfl trivial ?_
      refine xw_if (fun c_32 => ?_) (fun c_32 => ?_)
      · skip
        refine xw_go xb_36 2 (f1 := (if ¬ (nI (xB ((N 3).testBit i))) = 0 then 46 else 43, [.ref 0, .int (nI i), .int (nI t)], [])) (h1 := (xS b, I, L, xP b)) rfl trivial ?_
        refine xw_if (fun c_40 => ?_) (fun c_40 => ?_)
        · skip
          refine xw_go xb_36 3 (f1 := (if ¬ (nI t) = 1 then 74 else 51, [.ref 0, .int (nI i), .int (nI t)], [])) (h1 := (xS b, I, L, xP b)) rfl trivial ?_
          refine xw_if (fun c_48 => ?_) (fun c_48 => ?_)
          · skip
            refine xw_go xb_36 12 (f1 := (96, [.ref 0, .int (nI i), .int (nI t)], [.int ((xm_up I 1 6 ((I 1 6) ^^^ (1 <<< ((nI i) &&& 31)))) 1 6)])) (h1 := (xS b, xm_up I 1 6 ((I 1 6) ^^^ (1 <<< ((nI i) &&& 31))), L, xP b)) rfl ⟨rfl, rfl, rfl, rfl, rfl, trivial⟩ ?_
            refine xw_call xb_36 rfl rfl rfl rfl rfl (Or.inl rfl) (c_bitCount (v := N 3 ^^^ (1 <<< i)) t2 (by show I 1 6 ^^^ (1 <<< (nI i &&& 31)) = _; rw [hN3]; exact t1)) ?_
            rintro _ _ ⟨rfl, rfl⟩
            refine xw_at (f' := (99, [.ref 0, .int (nI i), .int (nI t)], [.int (nI (xpc (N 3 ^^^ (1 <<< i))))])) (h' := (xS b, xm_up I 1 6 ((I 1 6) ^^^ (1 <<< ((nI i) &&& 31))), L, xP b)) rfl rfl ?_
            refine xw_ret xb_36 rfl rfl trivial ?_
            refine ⟨rfl, _, rfl, xPF_u (xPF_r I) (by decide), xPL_N hP (xPN_u (k := 3) (by omega) hP.1 (by omega) rfl rfl ?_) (xm_vu_o (by omega)) (fun a h1 h2 => xm_up_o (by omega))⟩
            rw [hN3]
            exact t1
          · skip
            refine xw_go xb_36 3 (f1 := (58, [.ref 0, .int (nI i), .int (nI t)], [.int (I 1 6)])) (h1 := (xS b, I, L, xP b)) rfl ⟨rfl, rfl, trivial⟩ ?_
            refine xw_call xb_36 rfl rfl rfl rfl rfl (Or.inl rfl) (c_bitCount (v := N 3) h32 hN3) ?_
            rintro _ _ ⟨rfl, rfl⟩
            refine xw_at (f' := (61, [.ref 0, .int (nI i), .int (nI t)], [.int (nI (xpc (N 3)))])) (h' := (xS b, I, L, xP b)) rfl rfl ?_
            refine xw_go xb_36 4 (f1 := (if (nI (xpc (N 3))) < (I 1 8) then 74 else 71, [.ref 0, .int (nI i), .int (nI t)], [])) (h1 := (xS b, I, L, xP b)) rfl ⟨rfl, rfl, trivial⟩ ?_
            refine xw_if (fun c_68 => ?_) (fun c_68 => ?_)
            · skip
              refine xw_go xb_36 12 (f1 := (96, [.ref 0, .int (nI i), .int (nI t)], [.int ((xm_up I 1 6 ((I 1 6) ^^^ (1 <<< ((nI i) &&& 31)))) 1 6)])) (h1 := (xS b, xm_up I 1 6 ((I 1 6) ^^^ (1 <<< ((nI i) &&& 31))), L, xP b)) rfl ⟨rfl, rfl, rfl, rfl, rfl, trivial⟩ ?_
              refine xw_call xb_36 rfl rfl rfl rfl rfl (Or.inl rfl) (c_bitCount (v := N 3 ^^^ (1 <<< i)) t2 (by show I 1 6 ^^^ (1 <<< (nI i &&& 31)) = _; rw [hN3]; exact t1)) ?_
              rintro _ _ ⟨rfl, rfl⟩
              refine xw_at (f' := (99, [.ref 0, .int (nI i), .int (nI t)], [.int (nI (xpc (N 3 ^^^ (1 <<< i))))])) (h' := (xS b, xm_up I 1 6 ((I 1 6) ^^^ (1 <<< ((nI i) &&& 31))), L, xP b)) rfl rfl ?_
              refine xw_ret xb_36 rfl rfl trivial ?_
              refine ⟨rfl, _, rfl, xPF_u (xPF_r I) (by decide), xPL_N hP (xPN_u (k := 3) (by omega) hP.1 (by omega) rfl rfl ?_) (xm_vu_o (by omega)) (fun a h1 h2 => xm_up_o (by omega))⟩
              rw [hN3]
              exact t1
            · skip
              exfalso
              try simp only [xB_dec, Classical.not_not] at c_8 c_17 c_32 c_40 c_48 c_68
              try simp only [hN3, hN6] at c_8 c_17 c_32 c_40 c_48 c_68
              try simp (disch := omega) only [xt_eq, xt_lt, xt_le, xkt_0, xkt_1, xkt_2, xkt_3, xkt_4, xkt_5, xkt_6, xkt_7, xkt_8, xkt_9, xkt_10, xkt_11, xkt_12, xkt_13, xkt_14, xkt_16, xkt_20, xkt_24, xkt_31, xkt_32, xkt_40, xkt_44, xkt_47, xkt_48, xkt_57, xkt_59, xkt_60, xkt_63, xkt_64, xkt_65, xkt_72, xkt_95, xkt_99, xkt_100, xkt_101, xkt_103, xkt_110, xkt_112, xkt_113, xkt_114, xkt_119, xkt_126, xkt_159, xkt_576, xkt_999, xkt_9999, xkt_65536, xkt_999999, xkt_m1, xkt_m2, xkt_m3, xkt_m4, xkt_m11, xkt_m12, xkt_m13, xkt_m14, xkt_m20, xjt_0, xjt_1, xjt_2, xjt_3, xjt_4, xjt_5, xjt_6, xjt_7, xjt_8, xjt_9, xjt_10, xjt_11, xjt_12, xjt_13, xjt_14, xjt_16, xjt_20, xjt_24, xjt_31, xjt_32, xjt_40, xjt_44, xjt_47, xjt_48, xjt_57, xjt_59, xjt_60, xjt_63, xjt_64, xjt_65, xjt_72, xjt_95, xjt_99, xjt_100, xjt_101, xjt_103, xjt_110, xjt_112, xjt_113, xjt_114, xjt_119, xjt_126, xjt_159, xjt_576, xjt_999, xjt_9999, xjt_65536, xjt_999999, xt64, xt_n, not_true_eq_false, not_false_eq_true, Classical.not_not] at c_8 c_17 c_32 c_40 c_48 c_68
              all_goals omega
        · skip
          exfalso
          try simp only [xB_dec, Classical.not_not] at c_8 c_17 c_32 c_40
          try simp (disch := omega) only [xt_eq, xt_lt, xt_le, xkt_0, xkt_1, xkt_2, xkt_3, xkt_4, xkt_5, xkt_6, xkt_7, xkt_8, xkt_9, xkt_10, xkt_11, xkt_12, xkt_13, xkt_14, xkt_16, xkt_20, xkt_24, xkt_31, xkt_32, xkt_40, xkt_44, xkt_47, xkt_48, xkt_57, xkt_59, xkt_60, xkt_63, xkt_64, xkt_65, xkt_72, xkt_95, xkt_99, xkt_100, xkt_101, xkt_103, xkt_110, xkt_112, xkt_113, xkt_114, xkt_119, xkt_126, xkt_159, xkt_576, xkt_999, xkt_9999, xkt_65536, xkt_999999, xkt_m1, xkt_m2, xkt_m3, xkt_m4, xkt_m11, xkt_m12, xkt_m13, xkt_m14, xkt_m20, xjt_0, xjt_1, xjt_2, xjt_3, xjt_4, xjt_5, xjt_6, xjt_7, xjt_8, xjt_9, xjt_10, xjt_11, xjt_12, xjt_13, xjt_14, xjt_16, xjt_20, xjt_24, xjt_31, xjt_32, xjt_40, xjt_44, xjt_47, xjt_48, xjt_57, xjt_59, xjt_60, xjt_63, xjt_64, xjt_65, xjt_72, xjt_95, xjt_99, xjt_100, xjt_101, xjt_103, xjt_110, xjt_112, xjt_113, xjt_114, xjt_119, xjt_126, xjt_159, xjt_576, xjt_999, xjt_9999, xjt_65536, xjt_999999, xt64, xt_n, not_true_eq_false, not_false_eq_true, Classical.not_not] at c_8 c_17 c_32 c_40
          all_goals omega
      · skip
        refine xw_go xb_36 3 (f1 := (if ¬ (nI (xB ((N 3).testBit i))) = 1 then 46 else 43, [.ref 0, .int (nI i), .int (nI t)], [])) (h1 := (xS b, I, L, xP b)) rfl trivial ?_
        refine xw_if (fun c_40 => ?_) (fun c_40 => ?_)
        · skip
          refine xw_go xb_36 3 (f1 := (if ¬ (nI t) = 1 then 74 else 51, [.ref 0, .int (nI i), .int (nI t)], [])) (h1 := (xS b, I, L, xP b)) rfl trivial ?_
          refine xw_if (fun c_48 => ?_) (fun c_48 => ?_)
          · skip
            refine xw_go xb_36 12 (f1 := (96, [.ref 0, .int (nI i), .int (nI t)], [.int ((xm_up I 1 6 ((I 1 6) ^^^ (1 <<< ((nI i) &&& 31)))) 1 6)])) (h1 := (xS b, xm_up I 1 6 ((I 1 6) ^^^ (1 <<< ((nI i) &&& 31))), L, xP b)) rfl ⟨rfl, rfl, rfl, rfl, rfl, trivial⟩ ?_
            refine xw_call xb_36 rfl rfl rfl rfl rfl (Or.inl rfl) (c_bitCount (v := N 3 ^^^ (1 <<< i)) t2 (by show I 1 6 ^^^ (1 <<< (nI i &&& 31)) = _; rw [hN3]; exact t1)) ?_
            rintro _ _ ⟨rfl, rfl⟩
            refine xw_at (f' := (99, [.ref 0, .int (nI i), .int (nI t)], [.int (nI (xpc (N 3 ^^^ (1 <<< i))))])) (h' := (xS b, xm_up I 1 6 ((I 1 6) ^^^ (1 <<< ((nI i) &&& 31))), L, xP b)) rfl rfl ?_
            refine xw_ret xb_36 rfl rfl trivial ?_
            refine ⟨rfl, _, rfl, xPF_u (xPF_r I) (by decide), xPL_N hP (xPN_u (k := 3) (by omega) hP.1 (by omega) rfl rfl ?_) (xm_vu_o (by omega)) (fun a h1 h2 => xm_up_o (by omega))⟩
            rw [hN3]
            exact t1
          · skip
            refine xw_go xb_36 3 (f1 := (58, [.ref 0, .int (nI i), .int (nI t)], [.int (I 1 6)])) (h1 := (xS b, I, L, xP b)) rfl ⟨rfl, rfl, trivial⟩ ?_
            refine xw_call xb_36 rfl rfl rfl rfl rfl (Or.inl rfl) (c_bitCount (v := N 3) h32 hN3) ?_
            rintro _ _ ⟨rfl, rfl⟩
            refine xw_at (f' := (61, [.ref 0, .int (nI i), .int (nI t)], [.int (nI (xpc (N 3)))])) (h' := (xS b, I, L, xP b)) rfl rfl ?_
            refine xw_go xb_36 4 (f1 := (if (nI (xpc (N 3))) < (I 1 8) then 74 else 71, [.ref 0, .int (nI i), .int (nI t)], [])) (h1 := (xS b, I, L, xP b)) rfl ⟨rfl, rfl, trivial⟩ ?_
            refine xw_if (fun c_68 => ?_) (fun c_68 => ?_)
            · skip
              refine xw_go xb_36 12 (f1 := (96, [.ref 0, .int (nI i), .int (nI t)], [.int ((xm_up I 1 6 ((I 1 6) ^^^ (1 <<< ((nI i) &&& 31)))) 1 6)])) (h1 := (xS b, xm_up I 1 6 ((I 1 6) ^^^ (1 <<< ((nI i) &&& 31))), L, xP b)) rfl ⟨rfl, rfl, rfl, rfl, rfl, trivial⟩ ?_
              refine xw_call xb_36 rfl rfl rfl rfl rfl (Or.inl rfl) (c_bitCount (v := N 3 ^^^ (1 <<< i)) t2 (by show I 1 6 ^^^ (1 <<< (nI i &&& 31)) = _; rw [hN3]; exact t1)) ?_
              rintro _ _ ⟨rfl, rfl⟩
              refine xw_at (f' := (99, [.ref 0, .int (nI i), .int (nI t)], [.int (nI (xpc (N 3 ^^^ (1 <<< i))))])) (h' := (xS b, xm_up I 1 6 ((I 1 6) ^^^ (1 <<< ((nI i) &&& 31))), L, xP b)) rfl rfl ?_
              refine xw_ret xb_36 rfl rfl trivial ?_
              refine ⟨rfl, _, rfl, xPF_u (xPF_r I) (by decide), xPL_N hP (xPN_u (k := 3) (by omega) hP.1 (by omega) rfl rfl ?_) (xm_vu_o (by omega)) (fun a h1 h2 => xm_up_o (by omega))⟩
              rw [hN3]
              exact t1
            · skip
              exfalso
              try simp only [xB_dec, Classical.not_not] at c_8 c_17 c_32 c_40 c_48 c_68
              try simp only [hN3, hN6] at c_8 c_17 c_32 c_40 c_48 c_68
              try simp (disch := omega) only [xt_eq, xt_lt, xt_le, xkt_0, xkt_1, xkt_2, xkt_3, xkt_4, xkt_5, xkt_6, xkt_7, xkt_8, xkt_9, xkt_10, xkt_11, xkt_12, xkt_13, xkt_14, xkt_16, xkt_20, xkt_24, xkt_31, xkt_32, xkt_40, xkt_44, xkt_47, xkt_48, xkt_57, xkt_59, xkt_60, xkt_63, xkt_64, xkt_65, xkt_72, xkt_95, xkt_99, xkt_100, xkt_101, xkt_103, xkt_110, xkt_112, xkt_113, xkt_114, xkt_119, xkt_126, xkt_159, xkt_576, xkt_999, xkt_9999, xkt_65536, xkt_999999, xkt_m1, xkt_m2, xkt_m3, xkt_m4, xkt_m11, xkt_m12, xkt_m13, xkt_m14, xkt_m20, xjt_0, xjt_1, xjt_2, xjt_3, xjt_4, xjt_5, xjt_6, xjt_7, xjt_8, xjt_9, xjt_10, xjt_11, xjt_12, xjt_13, xjt_14, xjt_16, xjt_20, xjt_24, xjt_31, xjt_32, xjt_40, xjt_44, xjt_47, xjt_48, xjt_57, xjt_59, xjt_60, xjt_63, xjt_64, xjt_65, xjt_72, xjt_95, xjt_99, xjt_100, xjt_101, xjt_103, xjt_110, xjt_112, xjt_113, xjt_114, xjt_119, xjt_126, xjt_159, xjt_576, xjt_999, xjt_9999, xjt_65536, xjt_999999, xt64, xt_n, not_true_eq_false, not_false_eq_true, Classical.not_not] at c_8 c_17 c_32 c_40 c_48 c_68
              all_goals omega
        · skip
          exfalso
          try simp only [xB_dec, Classical.not_not] at c_8 c_17 c_32 c_40
          try simp (disch := omega) only [xt_eq, xt_lt, xt_le, xkt_0, xkt_1, xkt_2, xkt_3, xkt_4, xkt_5, xkt_6, xkt_7, xkt_8, xkt_9, xkt_10, xkt_11, xkt_12, xkt_13, xkt_14, xkt_16, xkt_20, xkt_24, xkt_31, xkt_32, xkt_40, xkt_44, xkt_47, xkt_48, xkt_57, xkt_59, xkt_60, xkt_63, xkt_64, xkt_65, xkt_72, xkt_95, xkt_99, xkt_100, xkt_101, xkt_103, xkt_110, xkt_112, xkt_113, xkt_114, xkt_119, xkt_126, xkt_159, xkt_576, xkt_999, xkt_9999, xkt_65536, xkt_999999, xkt_m1, xkt_m2, xkt_m3, xkt_m4, xkt_m11, xkt_m12, xkt_m13, xkt_m14, xkt_m20, xjt_0, xjt_1, xjt_2, xjt_3, xjt_4, xjt_5, xjt_6, xjt_7, xjt_8, xjt_9, xjt_10, xjt_11, xjt_12, xjt_13, xjt_14, xjt_16, xjt_20, xjt_24, xjt_31, xjt_32, xjt_40, xjt_44, xjt_47, xjt_48, xjt_57, xjt_59, xjt_60, xjt_63, xjt_64, xjt_65, xjt_72, xjt_95, xjt_99, xjt_100, xjt_101, xjt_103, xjt_110, xjt_112, xjt_113, xjt_114, xjt_119, xjt_126, xjt_159, xjt_576, xjt_999, xjt_9999, xjt_65536, xjt_999999, xt64, xt_n, not_true_eq_false, not_false_eq_true, Classical.not_not] at c_8 c_17 c_32 c_40
          all_goals omega
    · skip
      exfalso
      try simp only [xB_dec, Classical.not_not] at c_8 c_17
      try simp (disch := omega) only [xt_eq, xt_lt, xt_le, xkt_0, xkt_1, xkt_2, xkt_3, xkt_4, xkt_5, xkt_6, xkt_7, xkt_8, xkt_9, xkt_10, xkt_11, xkt_12, xkt_13, xkt_14, xkt_16, xkt_20, xkt_24, xkt_31, xkt_32, xkt_40, xkt_44, xkt_47, xkt_48, xkt_57, xkt_59, xkt_60, xkt_63, xkt_64, xkt_65, xkt_72, xkt_95, xkt_99, xkt_100, xkt_101, xkt_103, xkt_110, xkt_112, xkt_113, xkt_114, xkt_119, xkt_126, xkt_159, xkt_576, xkt_999, xkt_9999, xkt_65536, xkt_999999, xkt_m1, xkt_m2, xkt_m3, xkt_m4, xkt_m11, xkt_m12, xkt_m13, xkt_m14, xkt_m20, xjt_0, xjt_1, xjt_2, xjt_3, xjt_4, xjt_5, xjt_6, xjt_7, xjt_8, xjt_9, xjt_10, xjt_11, xjt_12, xjt_13, xjt_14, xjt_16, xjt_20, xjt_24, xjt_31, xjt_32, xjt_40, xjt_44, xjt_47, xjt_48, xjt_57, xjt_59, xjt_60, xjt_63, xjt_64, xjt_65, xjt_72, xjt_95, xjt_99, xjt_100, xjt_101, xjt_103, xjt_110, xjt_112, xjt_113, xjt_114, xjt_119, xjt_126, xjt_159, xjt_576, xjt_999, xjt_9999, xjt_65536, xjt_999999, xt64, xt_n, not_true_eq_false, not_false_eq_true, Classical.not_not] at c_8 c_17
      all_goals omega

theorem m_turn0 {d : Nat} {b : Bool} {I : Nat → Nat → Int32} {L : Nat → Nat → Int64} {N : Nat → Nat} {u : Nat} {U : Nat → Nat → Nat} (hM : xML N u U I) (hK : xUK N u U) {x y : Int32} (hx : ¬ (0 ≤ x.toInt ∧ x.toInt < (N 2 : Int) ∧ 0 ≤ y.toInt ∧ y.toInt ≤ 1)) : xm_Z (d + 3) 127 [.ref 60, .int x, .int y] (xS b, I, L, xP b) (fun rz hz => xQM b I L (-1) N u U rz hz) := by
  have hO := hK.1
  have hb := hK.1.1
  have c64 : N 0 * N 1 ≤ 64 := xce_le hO
  have c4 : 4 ≤ N 0 * N 1 := xce_ge hO
  refine xw_S xb_127 (l := [.ref 60, .int x, .int y]) (Nat.le_of_ble_eq_true rfl) rfl ?_
  refine xw_go xb_127 2 (f1 := (2, [.ref 60, .int x, .int y], [.int x, .ref 60])) (h1 := (xS b, I, L, xP b)) rfl trivial ?_
  refine xw_call xb_127 rfl rfl rfl rfl rfl (Or.inr ⟨_, _, rfl, rfl⟩) (m_isSprinkler (I := I) hM.1 hO) ?_
  rintro _ _ ⟨rfl, rfl⟩
  refine xw_at (f' := (5, [.ref 60, .int x, .int y], [.int (nI (xB (decide (0 ≤ x.toInt ∧ x.toInt < (N 2 : Int)))))])) (h' := (xS b, I, L, xP b)) rfl rfl ?_
  refine xw_go xb_127 1 (f1 := (if (nI (xB (decide (0 ≤ x.toInt ∧ x.toInt < (N 2 : Int))))) = 0 then 18 else 8, [.ref 60, .int x, .int y], [])) (h1 := (xS b, I, L, xP b)) rfl trivial ?_
  refine xw_if (fun c_5 => ?_) (fun c_5 => ?_)
  · skip
    refine xw_go xb_127 1 (f1 := (19, [.ref 60, .int x, .int y], [.int (-1)])) (h1 := (xS b, I, L, xP b)) rfl trivial ?_
    refine xw_ret xb_127 rfl rfl trivial ?_
    exact xQM_same hM
  · skip
    refine xw_go xb_127 4 (f1 := (12, [.ref 60, .int x, .int y], [.long 1, .long 0, .long y.toInt64])) (h1 := (xS b, I, L, xP b)) rfl trivial ?_
    refine xw_call xb_127 rfl rfl rfl rfl rfl (Or.inl rfl) m_in ?_
    rintro _ _ ⟨rfl, rfl⟩
    refine xw_at (f' := (15, [.ref 60, .int x, .int y], [.int (nI (xB (decide ((0 : Int64).toInt ≤ y.toInt64.toInt ∧ y.toInt64.toInt ≤ (1 : Int64).toInt))))])) (h' := (xS b, I, L, xP b)) rfl rfl ?_
    refine xw_go xb_127 1 (f1 := (if ¬ (nI (xB (decide ((0 : Int64).toInt ≤ y.toInt64.toInt ∧ y.toInt64.toInt ≤ (1 : Int64).toInt)))) = 0 then 20 else 18, [.ref 60, .int x, .int y], [])) (h1 := (xS b, I, L, xP b)) rfl trivial ?_
    refine xw_if (fun c_15 => ?_) (fun c_15 => ?_)
    · skip
      exfalso
      try simp only [xB_dec, Classical.not_not] at c_5 c_15
      try simp (disch := omega) only [xt_eq, xt_lt, xt_le, xkt_0, xkt_1, xkt_2, xkt_3, xkt_4, xkt_5, xkt_6, xkt_7, xkt_8, xkt_9, xkt_10, xkt_11, xkt_12, xkt_13, xkt_14, xkt_16, xkt_20, xkt_24, xkt_31, xkt_32, xkt_40, xkt_44, xkt_47, xkt_48, xkt_57, xkt_59, xkt_60, xkt_63, xkt_64, xkt_65, xkt_72, xkt_95, xkt_99, xkt_100, xkt_101, xkt_103, xkt_110, xkt_112, xkt_113, xkt_114, xkt_119, xkt_126, xkt_159, xkt_576, xkt_999, xkt_9999, xkt_65536, xkt_999999, xkt_m1, xkt_m2, xkt_m3, xkt_m4, xkt_m11, xkt_m12, xkt_m13, xkt_m14, xkt_m20, xjt_0, xjt_1, xjt_2, xjt_3, xjt_4, xjt_5, xjt_6, xjt_7, xjt_8, xjt_9, xjt_10, xjt_11, xjt_12, xjt_13, xjt_14, xjt_16, xjt_20, xjt_24, xjt_31, xjt_32, xjt_40, xjt_44, xjt_47, xjt_48, xjt_57, xjt_59, xjt_60, xjt_63, xjt_64, xjt_65, xjt_72, xjt_95, xjt_99, xjt_100, xjt_101, xjt_103, xjt_110, xjt_112, xjt_113, xjt_114, xjt_119, xjt_126, xjt_159, xjt_576, xjt_999, xjt_9999, xjt_65536, xjt_999999, xt64, xt_n, not_true_eq_false, not_false_eq_true, Classical.not_not] at c_5 c_15
      all_goals omega
    · skip
      refine xw_go xb_127 1 (f1 := (19, [.ref 60, .int x, .int y], [.int (-1)])) (h1 := (xS b, I, L, xP b)) rfl trivial ?_
      refine xw_ret xb_127 rfl rfl trivial ?_
      exact xQM_same hM

theorem m_turn1 {d : Nat} {b : Bool} {I : Nat → Nat → Int32} {L : Nat → Nat → Int64} {N : Nat → Nat} {u : Nat} {U : Nat → Nat → Nat} (hM : xML N u U I) (hK : xUK N u U) {i t : Nat} (hi : i < N 2) (ht : t < 2) (h : xB ((N 3).testBit i) = t) {x : Int32} (e_x : x = nI i) {y : Int32} (e_y : y = nI t) : xm_Z (d + 3) 127 [.ref 60, .int x, .int y] (xS b, I, L, xP b) (fun rz hz => xQM b I L (-2) N u U rz hz) := by
  subst e_x
  subst e_y
  have hO := hK.1
  have hb := hK.1.1
  have c64 : N 0 * N 1 ≤ 64 := xce_le hO
  have c4 : 4 ≤ N 0 * N 1 := xce_ge hO
  have hB := xB_lt ((N 3).testBit i)
  have h32 := xOn32 hO
  obtain ⟨t1, t2⟩ := xtog (N 3) h32 i (by omega)
  have p1 := xpc_le (N 3) h32
  refine xw_S xb_127 (l := [.ref 60, .int (nI i), .int (nI t)]) (Nat.le_of_ble_eq_true rfl) rfl ?_
  refine xw_go xb_127 2 (f1 := (2, [.ref 60, .int (nI i), .int (nI t)], [.int (nI i), .ref 60])) (h1 := (xS b, I, L, xP b)) rfl trivial ?_
  refine xw_call xb_127 rfl rfl rfl rfl rfl (Or.inr ⟨_, _, rfl, rfl⟩) (m_isSprinkler (I := I) hM.1 hO) ?_
  rintro _ _ ⟨rfl, rfl⟩
  refine xw_at (f' := (5, [.ref 60, .int (nI i), .int (nI t)], [.int (nI (xB (decide (0 ≤ (nI i).toInt ∧ (nI i).toInt < (N 2 : Int)))))])) (h' := (xS b, I, L, xP b)) rfl rfl ?_
  refine xw_go xb_127 1 (f1 := (if (nI (xB (decide (0 ≤ (nI i).toInt ∧ (nI i).toInt < (N 2 : Int))))) = 0 then 18 else 8, [.ref 60, .int (nI i), .int (nI t)], [])) (h1 := (xS b, I, L, xP b)) rfl trivial ?_
  refine xw_if (fun c_5 => ?_) (fun c_5 => ?_)
  · skip
    exfalso
    try simp only [xB_dec, Classical.not_not] at c_5
    try simp (disch := omega) only [xt_eq, xt_lt, xt_le, xkt_0, xkt_1, xkt_2, xkt_3, xkt_4, xkt_5, xkt_6, xkt_7, xkt_8, xkt_9, xkt_10, xkt_11, xkt_12, xkt_13, xkt_14, xkt_16, xkt_20, xkt_24, xkt_31, xkt_32, xkt_40, xkt_44, xkt_47, xkt_48, xkt_57, xkt_59, xkt_60, xkt_63, xkt_64, xkt_65, xkt_72, xkt_95, xkt_99, xkt_100, xkt_101, xkt_103, xkt_110, xkt_112, xkt_113, xkt_114, xkt_119, xkt_126, xkt_159, xkt_576, xkt_999, xkt_9999, xkt_65536, xkt_999999, xkt_m1, xkt_m2, xkt_m3, xkt_m4, xkt_m11, xkt_m12, xkt_m13, xkt_m14, xkt_m20, xjt_0, xjt_1, xjt_2, xjt_3, xjt_4, xjt_5, xjt_6, xjt_7, xjt_8, xjt_9, xjt_10, xjt_11, xjt_12, xjt_13, xjt_14, xjt_16, xjt_20, xjt_24, xjt_31, xjt_32, xjt_40, xjt_44, xjt_47, xjt_48, xjt_57, xjt_59, xjt_60, xjt_63, xjt_64, xjt_65, xjt_72, xjt_95, xjt_99, xjt_100, xjt_101, xjt_103, xjt_110, xjt_112, xjt_113, xjt_114, xjt_119, xjt_126, xjt_159, xjt_576, xjt_999, xjt_9999, xjt_65536, xjt_999999, xt64, xt_n, not_true_eq_false, not_false_eq_true, Classical.not_not] at c_5
    all_goals omega
  · skip
    refine xw_go xb_127 4 (f1 := (12, [.ref 60, .int (nI i), .int (nI t)], [.long 1, .long 0, .long ((nI t).toInt64)])) (h1 := (xS b, I, L, xP b)) rfl trivial ?_
    refine xw_call xb_127 rfl rfl rfl rfl rfl (Or.inl rfl) m_in ?_
    rintro _ _ ⟨rfl, rfl⟩
    refine xw_at (f' := (15, [.ref 60, .int (nI i), .int (nI t)], [.int (nI (xB (decide ((0 : Int64).toInt ≤ (nI t).toInt64.toInt ∧ (nI t).toInt64.toInt ≤ (1 : Int64).toInt))))])) (h' := (xS b, I, L, xP b)) rfl rfl ?_
    refine xw_go xb_127 1 (f1 := (if ¬ (nI (xB (decide ((0 : Int64).toInt ≤ (nI t).toInt64.toInt ∧ (nI t).toInt64.toInt ≤ (1 : Int64).toInt)))) = 0 then 20 else 18, [.ref 60, .int (nI i), .int (nI t)], [])) (h1 := (xS b, I, L, xP b)) rfl trivial ?_
    refine xw_if (fun c_15 => ?_) (fun c_15 => ?_)
    · skip
      refine xw_go xb_127 8 (f1 := (30, [.ref 60, .int (nI i), .int (nI t)], [.int (((I 61 (3 : Int32).toNatClampNeg) >>> ((nI i) &&& 31)) &&& 1)])) (h1 := (xS b, I, L, xP b)) rfl ⟨rfl, (xn_ar (n := 3) (N := 159) rfl (by decide) (by decide)), trivial⟩ ?_
      refine xw_cong (l' := [.ref 60, .int (nI i), .int (nI t)]) (st' := [.int (nI (xB ((N 3).testBit i)))]) (h' := (xS b, I, L, xP b)) rfl (show ([.int (((I 61 (3 : Int32).toNatClampNeg) >>> ((nI i) &&& 31)) &&& 1)] : List Value) = [.int (nI (xB ((N 3).testBit i)))] from ?_) rfl ?_
      · rw [show (3 : Int32).toNatClampNeg = 3 from rfl, hM.1 3 (by decide), xbit5' _ h32 i (by omega)]
      refine xw_go xb_127 2 (f1 := (if ¬ (nI (xB ((N 3).testBit i))) = (nI t) then 37 else 34, [.ref 60, .int (nI i), .int (nI t)], [])) (h1 := (xS b, I, L, xP b)) rfl trivial ?_
      refine xw_if (fun c_31 => ?_) (fun c_31 => ?_)
      · skip
        exfalso
        try simp only [xB_dec, Classical.not_not] at c_5 c_15 c_31
        try simp (disch := omega) only [xt_eq, xt_lt, xt_le, xkt_0, xkt_1, xkt_2, xkt_3, xkt_4, xkt_5, xkt_6, xkt_7, xkt_8, xkt_9, xkt_10, xkt_11, xkt_12, xkt_13, xkt_14, xkt_16, xkt_20, xkt_24, xkt_31, xkt_32, xkt_40, xkt_44, xkt_47, xkt_48, xkt_57, xkt_59, xkt_60, xkt_63, xkt_64, xkt_65, xkt_72, xkt_95, xkt_99, xkt_100, xkt_101, xkt_103, xkt_110, xkt_112, xkt_113, xkt_114, xkt_119, xkt_126, xkt_159, xkt_576, xkt_999, xkt_9999, xkt_65536, xkt_999999, xkt_m1, xkt_m2, xkt_m3, xkt_m4, xkt_m11, xkt_m12, xkt_m13, xkt_m14, xkt_m20, xjt_0, xjt_1, xjt_2, xjt_3, xjt_4, xjt_5, xjt_6, xjt_7, xjt_8, xjt_9, xjt_10, xjt_11, xjt_12, xjt_13, xjt_14, xjt_16, xjt_20, xjt_24, xjt_31, xjt_32, xjt_40, xjt_44, xjt_47, xjt_48, xjt_57, xjt_59, xjt_60, xjt_63, xjt_64, xjt_65, xjt_72, xjt_95, xjt_99, xjt_100, xjt_101, xjt_103, xjt_110, xjt_112, xjt_113, xjt_114, xjt_119, xjt_126, xjt_159, xjt_576, xjt_999, xjt_9999, xjt_65536, xjt_999999, xt64, xt_n, not_true_eq_false, not_false_eq_true, Classical.not_not] at c_5 c_15 c_31
        all_goals omega
      · skip
        refine xw_go xb_127 1 (f1 := (36, [.ref 60, .int (nI i), .int (nI t)], [.int (-2)])) (h1 := (xS b, I, L, xP b)) rfl trivial ?_
        refine xw_ret xb_127 rfl rfl trivial ?_
        exact xQM_same hM
    · skip
      exfalso
      try simp only [xB_dec, Classical.not_not] at c_5 c_15
      try simp (disch := omega) only [xt_eq, xt_lt, xt_le, xkt_0, xkt_1, xkt_2, xkt_3, xkt_4, xkt_5, xkt_6, xkt_7, xkt_8, xkt_9, xkt_10, xkt_11, xkt_12, xkt_13, xkt_14, xkt_16, xkt_20, xkt_24, xkt_31, xkt_32, xkt_40, xkt_44, xkt_47, xkt_48, xkt_57, xkt_59, xkt_60, xkt_63, xkt_64, xkt_65, xkt_72, xkt_95, xkt_99, xkt_100, xkt_101, xkt_103, xkt_110, xkt_112, xkt_113, xkt_114, xkt_119, xkt_126, xkt_159, xkt_576, xkt_999, xkt_9999, xkt_65536, xkt_999999, xkt_m1, xkt_m2, xkt_m3, xkt_m4, xkt_m11, xkt_m12, xkt_m13, xkt_m14, xkt_m20, xjt_0, xjt_1, xjt_2, xjt_3, xjt_4, xjt_5, xjt_6, xjt_7, xjt_8, xjt_9, xjt_10, xjt_11, xjt_12, xjt_13, xjt_14, xjt_16, xjt_20, xjt_24, xjt_31, xjt_32, xjt_40, xjt_44, xjt_47, xjt_48, xjt_57, xjt_59, xjt_60, xjt_63, xjt_64, xjt_65, xjt_72, xjt_95, xjt_99, xjt_100, xjt_101, xjt_103, xjt_110, xjt_112, xjt_113, xjt_114, xjt_119, xjt_126, xjt_159, xjt_576, xjt_999, xjt_9999, xjt_65536, xjt_999999, xt64, xt_n, not_true_eq_false, not_false_eq_true, Classical.not_not] at c_5 c_15
      all_goals omega

theorem m_turn2 {d : Nat} {b : Bool} {I : Nat → Nat → Int32} {L : Nat → Nat → Int64} {N : Nat → Nat} {u : Nat} {U : Nat → Nat → Nat} (hM : xML N u U I) (hK : xUK N u U) {i t : Nat} (hi : i < N 2) (ht : t < 2) (h : xB ((N 3).testBit i) ≠ t) (h1 : t = 1) (h2 : N 6 ≤ xpc (N 3)) {x : Int32} (e_x : x = nI i) {y : Int32} (e_y : y = nI t) : xm_Z (d + 3) 127 [.ref 60, .int x, .int y] (xS b, I, L, xP b) (fun rz hz => xQM b I L (-3) N u U rz hz) := by
  subst e_x
  subst e_y
  have hO := hK.1
  have hb := hK.1.1
  have c64 : N 0 * N 1 ≤ 64 := xce_le hO
  have c4 : 4 ≤ N 0 * N 1 := xce_ge hO
  have hB := xB_lt ((N 3).testBit i)
  have h32 := xOn32 hO
  obtain ⟨t1, t2⟩ := xtog (N 3) h32 i (by omega)
  have p1 := xpc_le (N 3) h32
  refine xw_S xb_127 (l := [.ref 60, .int (nI i), .int (nI t)]) (Nat.le_of_ble_eq_true rfl) rfl ?_
  refine xw_go xb_127 2 (f1 := (2, [.ref 60, .int (nI i), .int (nI t)], [.int (nI i), .ref 60])) (h1 := (xS b, I, L, xP b)) rfl trivial ?_
  refine xw_call xb_127 rfl rfl rfl rfl rfl (Or.inr ⟨_, _, rfl, rfl⟩) (m_isSprinkler (I := I) hM.1 hO) ?_
  rintro _ _ ⟨rfl, rfl⟩
  refine xw_at (f' := (5, [.ref 60, .int (nI i), .int (nI t)], [.int (nI (xB (decide (0 ≤ (nI i).toInt ∧ (nI i).toInt < (N 2 : Int)))))])) (h' := (xS b, I, L, xP b)) rfl rfl ?_
  refine xw_go xb_127 1 (f1 := (if (nI (xB (decide (0 ≤ (nI i).toInt ∧ (nI i).toInt < (N 2 : Int))))) = 0 then 18 else 8, [.ref 60, .int (nI i), .int (nI t)], [])) (h1 := (xS b, I, L, xP b)) rfl trivial ?_
  refine xw_if (fun c_5 => ?_) (fun c_5 => ?_)
  · skip
    exfalso
    try simp only [xB_dec, Classical.not_not] at c_5
    try simp (disch := omega) only [xt_eq, xt_lt, xt_le, xkt_0, xkt_1, xkt_2, xkt_3, xkt_4, xkt_5, xkt_6, xkt_7, xkt_8, xkt_9, xkt_10, xkt_11, xkt_12, xkt_13, xkt_14, xkt_16, xkt_20, xkt_24, xkt_31, xkt_32, xkt_40, xkt_44, xkt_47, xkt_48, xkt_57, xkt_59, xkt_60, xkt_63, xkt_64, xkt_65, xkt_72, xkt_95, xkt_99, xkt_100, xkt_101, xkt_103, xkt_110, xkt_112, xkt_113, xkt_114, xkt_119, xkt_126, xkt_159, xkt_576, xkt_999, xkt_9999, xkt_65536, xkt_999999, xkt_m1, xkt_m2, xkt_m3, xkt_m4, xkt_m11, xkt_m12, xkt_m13, xkt_m14, xkt_m20, xjt_0, xjt_1, xjt_2, xjt_3, xjt_4, xjt_5, xjt_6, xjt_7, xjt_8, xjt_9, xjt_10, xjt_11, xjt_12, xjt_13, xjt_14, xjt_16, xjt_20, xjt_24, xjt_31, xjt_32, xjt_40, xjt_44, xjt_47, xjt_48, xjt_57, xjt_59, xjt_60, xjt_63, xjt_64, xjt_65, xjt_72, xjt_95, xjt_99, xjt_100, xjt_101, xjt_103, xjt_110, xjt_112, xjt_113, xjt_114, xjt_119, xjt_126, xjt_159, xjt_576, xjt_999, xjt_9999, xjt_65536, xjt_999999, xt64, xt_n, not_true_eq_false, not_false_eq_true, Classical.not_not] at c_5
    all_goals omega
  · skip
    refine xw_go xb_127 4 (f1 := (12, [.ref 60, .int (nI i), .int (nI t)], [.long 1, .long 0, .long ((nI t).toInt64)])) (h1 := (xS b, I, L, xP b)) rfl trivial ?_
    refine xw_call xb_127 rfl rfl rfl rfl rfl (Or.inl rfl) m_in ?_
    rintro _ _ ⟨rfl, rfl⟩
    refine xw_at (f' := (15, [.ref 60, .int (nI i), .int (nI t)], [.int (nI (xB (decide ((0 : Int64).toInt ≤ (nI t).toInt64.toInt ∧ (nI t).toInt64.toInt ≤ (1 : Int64).toInt))))])) (h' := (xS b, I, L, xP b)) rfl rfl ?_
    refine xw_go xb_127 1 (f1 := (if ¬ (nI (xB (decide ((0 : Int64).toInt ≤ (nI t).toInt64.toInt ∧ (nI t).toInt64.toInt ≤ (1 : Int64).toInt)))) = 0 then 20 else 18, [.ref 60, .int (nI i), .int (nI t)], [])) (h1 := (xS b, I, L, xP b)) rfl trivial ?_
    refine xw_if (fun c_15 => ?_) (fun c_15 => ?_)
    · skip
      refine xw_go xb_127 8 (f1 := (30, [.ref 60, .int (nI i), .int (nI t)], [.int (((I 61 (3 : Int32).toNatClampNeg) >>> ((nI i) &&& 31)) &&& 1)])) (h1 := (xS b, I, L, xP b)) rfl ⟨rfl, (xn_ar (n := 3) (N := 159) rfl (by decide) (by decide)), trivial⟩ ?_
      refine xw_cong (l' := [.ref 60, .int (nI i), .int (nI t)]) (st' := [.int (nI (xB ((N 3).testBit i)))]) (h' := (xS b, I, L, xP b)) rfl (show ([.int (((I 61 (3 : Int32).toNatClampNeg) >>> ((nI i) &&& 31)) &&& 1)] : List Value) = [.int (nI (xB ((N 3).testBit i)))] from ?_) rfl ?_
      · rw [show (3 : Int32).toNatClampNeg = 3 from rfl, hM.1 3 (by decide), xbit5' _ h32 i (by omega)]
      refine xw_go xb_127 2 (f1 := (if ¬ (nI (xB ((N 3).testBit i))) = (nI t) then 37 else 34, [.ref 60, .int (nI i), .int (nI t)], [])) (h1 := (xS b, I, L, xP b)) rfl trivial ?_
      refine xw_if (fun c_31 => ?_) (fun c_31 => ?_)
      · skip
        refine xw_go xb_127 3 (f1 := (if ¬ (nI t) = 1 then 64 else 42, [.ref 60, .int (nI i), .int (nI t)], [])) (h1 := (xS b, I, L, xP b)) rfl trivial ?_
        refine xw_if (fun c_39 => ?_) (fun c_39 => ?_)
        · skip
          exfalso
          try simp only [xB_dec, Classical.not_not] at c_5 c_15 c_31 c_39
          try simp only [show (6 : Int32).toNatClampNeg = 6 from rfl, hM.1 6 (by decide)] at c_5 c_15 c_31 c_39
          try simp (disch := omega) only [xt_eq, xt_lt, xt_le, xkt_0, xkt_1, xkt_2, xkt_3, xkt_4, xkt_5, xkt_6, xkt_7, xkt_8, xkt_9, xkt_10, xkt_11, xkt_12, xkt_13, xkt_14, xkt_16, xkt_20, xkt_24, xkt_31, xkt_32, xkt_40, xkt_44, xkt_47, xkt_48, xkt_57, xkt_59, xkt_60, xkt_63, xkt_64, xkt_65, xkt_72, xkt_95, xkt_99, xkt_100, xkt_101, xkt_103, xkt_110, xkt_112, xkt_113, xkt_114, xkt_119, xkt_126, xkt_159, xkt_576, xkt_999, xkt_9999, xkt_65536, xkt_999999, xkt_m1, xkt_m2, xkt_m3, xkt_m4, xkt_m11, xkt_m12, xkt_m13, xkt_m14, xkt_m20, xjt_0, xjt_1, xjt_2, xjt_3, xjt_4, xjt_5, xjt_6, xjt_7, xjt_8, xjt_9, xjt_10, xjt_11, xjt_12, xjt_13, xjt_14, xjt_16, xjt_20, xjt_24, xjt_31, xjt_32, xjt_40, xjt_44, xjt_47, xjt_48, xjt_57, xjt_59, xjt_60, xjt_63, xjt_64, xjt_65, xjt_72, xjt_95, xjt_99, xjt_100, xjt_101, xjt_103, xjt_110, xjt_112, xjt_113, xjt_114, xjt_119, xjt_126, xjt_159, xjt_576, xjt_999, xjt_9999, xjt_65536, xjt_999999, xt64, xt_n, not_true_eq_false, not_false_eq_true, Classical.not_not] at c_5 c_15 c_31 c_39
          all_goals omega
        · skip
          refine xw_go xb_127 4 (f1 := (48, [.ref 60, .int (nI i), .int (nI t)], [.int (I 61 (3 : Int32).toNatClampNeg)])) (h1 := (xS b, I, L, xP b)) rfl ⟨rfl, (xn_ar (n := 3) (N := 159) rfl (by decide) (by decide)), trivial⟩ ?_
          refine xw_call xb_127 rfl rfl rfl rfl rfl (Or.inl rfl) (m_many (v := N 3) h32 (hM.1 3 (by decide))) ?_
          rintro _ _ ⟨rfl, rfl⟩
          refine xw_at (f' := (51, [.ref 60, .int (nI i), .int (nI t)], [.int (nI (xpc (N 3)))])) (h' := (xS b, I, L, xP b)) rfl rfl ?_
          refine xw_go xb_127 5 (f1 := (if (nI (xpc (N 3))) < (I 61 (6 : Int32).toNatClampNeg) then 64 else 61, [.ref 60, .int (nI i), .int (nI t)], [])) (h1 := (xS b, I, L, xP b)) rfl ⟨rfl, (xn_ar (n := 6) (N := 159) rfl (by decide) (by decide)), trivial⟩ ?_
          refine xw_if (fun c_58 => ?_) (fun c_58 => ?_)
          · skip
            exfalso
            try simp only [xB_dec, Classical.not_not] at c_5 c_15 c_31 c_39 c_58
            try simp only [show (6 : Int32).toNatClampNeg = 6 from rfl, hM.1 6 (by decide)] at c_5 c_15 c_31 c_39 c_58
            try simp (disch := omega) only [xt_eq, xt_lt, xt_le, xkt_0, xkt_1, xkt_2, xkt_3, xkt_4, xkt_5, xkt_6, xkt_7, xkt_8, xkt_9, xkt_10, xkt_11, xkt_12, xkt_13, xkt_14, xkt_16, xkt_20, xkt_24, xkt_31, xkt_32, xkt_40, xkt_44, xkt_47, xkt_48, xkt_57, xkt_59, xkt_60, xkt_63, xkt_64, xkt_65, xkt_72, xkt_95, xkt_99, xkt_100, xkt_101, xkt_103, xkt_110, xkt_112, xkt_113, xkt_114, xkt_119, xkt_126, xkt_159, xkt_576, xkt_999, xkt_9999, xkt_65536, xkt_999999, xkt_m1, xkt_m2, xkt_m3, xkt_m4, xkt_m11, xkt_m12, xkt_m13, xkt_m14, xkt_m20, xjt_0, xjt_1, xjt_2, xjt_3, xjt_4, xjt_5, xjt_6, xjt_7, xjt_8, xjt_9, xjt_10, xjt_11, xjt_12, xjt_13, xjt_14, xjt_16, xjt_20, xjt_24, xjt_31, xjt_32, xjt_40, xjt_44, xjt_47, xjt_48, xjt_57, xjt_59, xjt_60, xjt_63, xjt_64, xjt_65, xjt_72, xjt_95, xjt_99, xjt_100, xjt_101, xjt_103, xjt_110, xjt_112, xjt_113, xjt_114, xjt_119, xjt_126, xjt_159, xjt_576, xjt_999, xjt_9999, xjt_65536, xjt_999999, xt64, xt_n, not_true_eq_false, not_false_eq_true, Classical.not_not] at c_5 c_15 c_31 c_39 c_58
            all_goals omega
          · skip
            refine xw_go xb_127 1 (f1 := (63, [.ref 60, .int (nI i), .int (nI t)], [.int (-3)])) (h1 := (xS b, I, L, xP b)) rfl trivial ?_
            refine xw_ret xb_127 rfl rfl trivial ?_
            exact xQM_same hM
      · skip
        exfalso
        try simp only [xB_dec, Classical.not_not] at c_5 c_15 c_31
        try simp (disch := omega) only [xt_eq, xt_lt, xt_le, xkt_0, xkt_1, xkt_2, xkt_3, xkt_4, xkt_5, xkt_6, xkt_7, xkt_8, xkt_9, xkt_10, xkt_11, xkt_12, xkt_13, xkt_14, xkt_16, xkt_20, xkt_24, xkt_31, xkt_32, xkt_40, xkt_44, xkt_47, xkt_48, xkt_57, xkt_59, xkt_60, xkt_63, xkt_64, xkt_65, xkt_72, xkt_95, xkt_99, xkt_100, xkt_101, xkt_103, xkt_110, xkt_112, xkt_113, xkt_114, xkt_119, xkt_126, xkt_159, xkt_576, xkt_999, xkt_9999, xkt_65536, xkt_999999, xkt_m1, xkt_m2, xkt_m3, xkt_m4, xkt_m11, xkt_m12, xkt_m13, xkt_m14, xkt_m20, xjt_0, xjt_1, xjt_2, xjt_3, xjt_4, xjt_5, xjt_6, xjt_7, xjt_8, xjt_9, xjt_10, xjt_11, xjt_12, xjt_13, xjt_14, xjt_16, xjt_20, xjt_24, xjt_31, xjt_32, xjt_40, xjt_44, xjt_47, xjt_48, xjt_57, xjt_59, xjt_60, xjt_63, xjt_64, xjt_65, xjt_72, xjt_95, xjt_99, xjt_100, xjt_101, xjt_103, xjt_110, xjt_112, xjt_113, xjt_114, xjt_119, xjt_126, xjt_159, xjt_576, xjt_999, xjt_9999, xjt_65536, xjt_999999, xt64, xt_n, not_true_eq_false, not_false_eq_true, Classical.not_not] at c_5 c_15 c_31
        all_goals omega
    · skip
      exfalso
      try simp only [xB_dec, Classical.not_not] at c_5 c_15
      try simp (disch := omega) only [xt_eq, xt_lt, xt_le, xkt_0, xkt_1, xkt_2, xkt_3, xkt_4, xkt_5, xkt_6, xkt_7, xkt_8, xkt_9, xkt_10, xkt_11, xkt_12, xkt_13, xkt_14, xkt_16, xkt_20, xkt_24, xkt_31, xkt_32, xkt_40, xkt_44, xkt_47, xkt_48, xkt_57, xkt_59, xkt_60, xkt_63, xkt_64, xkt_65, xkt_72, xkt_95, xkt_99, xkt_100, xkt_101, xkt_103, xkt_110, xkt_112, xkt_113, xkt_114, xkt_119, xkt_126, xkt_159, xkt_576, xkt_999, xkt_9999, xkt_65536, xkt_999999, xkt_m1, xkt_m2, xkt_m3, xkt_m4, xkt_m11, xkt_m12, xkt_m13, xkt_m14, xkt_m20, xjt_0, xjt_1, xjt_2, xjt_3, xjt_4, xjt_5, xjt_6, xjt_7, xjt_8, xjt_9, xjt_10, xjt_11, xjt_12, xjt_13, xjt_14, xjt_16, xjt_20, xjt_24, xjt_31, xjt_32, xjt_40, xjt_44, xjt_47, xjt_48, xjt_57, xjt_59, xjt_60, xjt_63, xjt_64, xjt_65, xjt_72, xjt_95, xjt_99, xjt_100, xjt_101, xjt_103, xjt_110, xjt_112, xjt_113, xjt_114, xjt_119, xjt_126, xjt_159, xjt_576, xjt_999, xjt_9999, xjt_65536, xjt_999999, xt64, xt_n, not_true_eq_false, not_false_eq_true, Classical.not_not] at c_5 c_15
      all_goals omega

theorem m_turn3 {d : Nat} {b : Bool} {I : Nat → Nat → Int32} {L : Nat → Nat → Int64} {N : Nat → Nat} {u : Nat} {U : Nat → Nat → Nat} (hM : xML N u U I) (hK : xUK N u U) {i t : Nat} (hi : i < N 2) (ht : t < 2) (h : xB ((N 3).testBit i) ≠ t) (h1 : t = 0 ∨ xpc (N 3) < N 6) {x : Int32} (e_x : x = nI i) {y : Int32} (e_y : y = nI t) : xm_Z (d + 3) 127 [.ref 60, .int x, .int y] (xS b, I, L, xP b) (fun rz hz => xQM b I L (nI (xpc (N 3 ^^^ (1 <<< i)))) (va_up N 3 (N 3 ^^^ (1 <<< i))) u U rz hz) := by
  subst e_x
  subst e_y
  have hO := hK.1
  have hb := hK.1.1
  have c64 : N 0 * N 1 ≤ 64 := xce_le hO
  have c4 : 4 ≤ N 0 * N 1 := xce_ge hO
  have hB := xB_lt ((N 3).testBit i)
  have h32 := xOn32 hO
  obtain ⟨t1, t2⟩ := xtog (N 3) h32 i (by omega)
  have p1 := xpc_le (N 3) h32
  refine xw_S xb_127 (l := [.ref 60, .int (nI i), .int (nI t)]) (Nat.le_of_ble_eq_true rfl) rfl ?_
  refine xw_go xb_127 2 (f1 := (2, [.ref 60, .int (nI i), .int (nI t)], [.int (nI i), .ref 60])) (h1 := (xS b, I, L, xP b)) rfl trivial ?_
  refine xw_call xb_127 rfl rfl rfl rfl rfl (Or.inr ⟨_, _, rfl, rfl⟩) (m_isSprinkler (I := I) hM.1 hO) ?_
  rintro _ _ ⟨rfl, rfl⟩
  refine xw_at (f' := (5, [.ref 60, .int (nI i), .int (nI t)], [.int (nI (xB (decide (0 ≤ (nI i).toInt ∧ (nI i).toInt < (N 2 : Int)))))])) (h' := (xS b, I, L, xP b)) rfl rfl ?_
  refine xw_go xb_127 1 (f1 := (if (nI (xB (decide (0 ≤ (nI i).toInt ∧ (nI i).toInt < (N 2 : Int))))) = 0 then 18 else 8, [.ref 60, .int (nI i), .int (nI t)], [])) (h1 := (xS b, I, L, xP b)) rfl trivial ?_
  refine xw_if (fun c_5 => ?_) (fun c_5 => ?_)
  · skip
    exfalso
    try simp only [xB_dec, Classical.not_not] at c_5
    try simp (disch := omega) only [xt_eq, xt_lt, xt_le, xkt_0, xkt_1, xkt_2, xkt_3, xkt_4, xkt_5, xkt_6, xkt_7, xkt_8, xkt_9, xkt_10, xkt_11, xkt_12, xkt_13, xkt_14, xkt_16, xkt_20, xkt_24, xkt_31, xkt_32, xkt_40, xkt_44, xkt_47, xkt_48, xkt_57, xkt_59, xkt_60, xkt_63, xkt_64, xkt_65, xkt_72, xkt_95, xkt_99, xkt_100, xkt_101, xkt_103, xkt_110, xkt_112, xkt_113, xkt_114, xkt_119, xkt_126, xkt_159, xkt_576, xkt_999, xkt_9999, xkt_65536, xkt_999999, xkt_m1, xkt_m2, xkt_m3, xkt_m4, xkt_m11, xkt_m12, xkt_m13, xkt_m14, xkt_m20, xjt_0, xjt_1, xjt_2, xjt_3, xjt_4, xjt_5, xjt_6, xjt_7, xjt_8, xjt_9, xjt_10, xjt_11, xjt_12, xjt_13, xjt_14, xjt_16, xjt_20, xjt_24, xjt_31, xjt_32, xjt_40, xjt_44, xjt_47, xjt_48, xjt_57, xjt_59, xjt_60, xjt_63, xjt_64, xjt_65, xjt_72, xjt_95, xjt_99, xjt_100, xjt_101, xjt_103, xjt_110, xjt_112, xjt_113, xjt_114, xjt_119, xjt_126, xjt_159, xjt_576, xjt_999, xjt_9999, xjt_65536, xjt_999999, xt64, xt_n, not_true_eq_false, not_false_eq_true, Classical.not_not] at c_5
    all_goals omega
  · skip
    refine xw_go xb_127 4 (f1 := (12, [.ref 60, .int (nI i), .int (nI t)], [.long 1, .long 0, .long ((nI t).toInt64)])) (h1 := (xS b, I, L, xP b)) rfl trivial ?_
    refine xw_call xb_127 rfl rfl rfl rfl rfl (Or.inl rfl) m_in ?_
    rintro _ _ ⟨rfl, rfl⟩
    refine xw_at (f' := (15, [.ref 60, .int (nI i), .int (nI t)], [.int (nI (xB (decide ((0 : Int64).toInt ≤ (nI t).toInt64.toInt ∧ (nI t).toInt64.toInt ≤ (1 : Int64).toInt))))])) (h' := (xS b, I, L, xP b)) rfl rfl ?_
    refine xw_go xb_127 1 (f1 := (if ¬ (nI (xB (decide ((0 : Int64).toInt ≤ (nI t).toInt64.toInt ∧ (nI t).toInt64.toInt ≤ (1 : Int64).toInt)))) = 0 then 20 else 18, [.ref 60, .int (nI i), .int (nI t)], [])) (h1 := (xS b, I, L, xP b)) rfl trivial ?_
    refine xw_if (fun c_15 => ?_) (fun c_15 => ?_)
    · skip
      refine xw_go xb_127 8 (f1 := (30, [.ref 60, .int (nI i), .int (nI t)], [.int (((I 61 (3 : Int32).toNatClampNeg) >>> ((nI i) &&& 31)) &&& 1)])) (h1 := (xS b, I, L, xP b)) rfl ⟨rfl, (xn_ar (n := 3) (N := 159) rfl (by decide) (by decide)), trivial⟩ ?_
      refine xw_cong (l' := [.ref 60, .int (nI i), .int (nI t)]) (st' := [.int (nI (xB ((N 3).testBit i)))]) (h' := (xS b, I, L, xP b)) rfl (show ([.int (((I 61 (3 : Int32).toNatClampNeg) >>> ((nI i) &&& 31)) &&& 1)] : List Value) = [.int (nI (xB ((N 3).testBit i)))] from ?_) rfl ?_
      · rw [show (3 : Int32).toNatClampNeg = 3 from rfl, hM.1 3 (by decide), xbit5' _ h32 i (by omega)]
      refine xw_go xb_127 2 (f1 := (if ¬ (nI (xB ((N 3).testBit i))) = (nI t) then 37 else 34, [.ref 60, .int (nI i), .int (nI t)], [])) (h1 := (xS b, I, L, xP b)) rfl trivial ?_
      refine xw_if (fun c_31 => ?_) (fun c_31 => ?_)
      · skip
        refine xw_go xb_127 3 (f1 := (if ¬ (nI t) = 1 then 64 else 42, [.ref 60, .int (nI i), .int (nI t)], [])) (h1 := (xS b, I, L, xP b)) rfl trivial ?_
        refine xw_if (fun c_39 => ?_) (fun c_39 => ?_)
        · skip
          refine xw_go xb_127 14 (f1 := (82, [.ref 60, .int (nI i), .int (nI t)], [.int ((xm_up I 61 (3 : Int32).toNatClampNeg ((I 61 (3 : Int32).toNatClampNeg) ^^^ (1 <<< ((nI i) &&& 31)))) 61 (3 : Int32).toNatClampNeg)])) (h1 := (xS b, xm_up I 61 (3 : Int32).toNatClampNeg ((I 61 (3 : Int32).toNatClampNeg) ^^^ (1 <<< ((nI i) &&& 31))), L, xP b)) rfl ⟨rfl, (xn_ar (n := 3) (N := 159) rfl (by decide) (by decide)), (xn_ar (n := 3) (N := 159) rfl (by decide) (by decide)), rfl, (xn_ar (n := 3) (N := 159) rfl (by decide) (by decide)), trivial⟩ ?_
          refine xw_call xb_127 rfl rfl rfl rfl rfl (Or.inl rfl) (m_many (v := N 3 ^^^ (1 <<< i)) t2 (by show I 61 3 ^^^ (1 <<< (nI i &&& 31)) = _; rw [hM.1 3 (by decide)]; exact t1)) ?_
          rintro _ _ ⟨rfl, rfl⟩
          refine xw_at (f' := (85, [.ref 60, .int (nI i), .int (nI t)], [.int (nI (xpc (N 3 ^^^ (1 <<< i))))])) (h' := (xS b, xm_up I 61 (3 : Int32).toNatClampNeg ((I 61 (3 : Int32).toNatClampNeg) ^^^ (1 <<< ((nI i) &&& 31))), L, xP b)) rfl rfl ?_
          refine xw_ret xb_127 rfl rfl trivial ?_
          refine ⟨rfl, _, rfl, xMF_u (xMF_r I) (Or.inl rfl), xML_N hM (xMN_u hM.1 rfl ?_) rfl rfl⟩
          rw [show (3 : Int32).toNatClampNeg = 3 from rfl, hM.1 3 (by decide)]
          exact t1
        · skip
          refine xw_go xb_127 4 (f1 := (48, [.ref 60, .int (nI i), .int (nI t)], [.int (I 61 (3 : Int32).toNatClampNeg)])) (h1 := (xS b, I, L, xP b)) rfl ⟨rfl, (xn_ar (n := 3) (N := 159) rfl (by decide) (by decide)), trivial⟩ ?_
          refine xw_call xb_127 rfl rfl rfl rfl rfl (Or.inl rfl) (m_many (v := N 3) h32 (hM.1 3 (by decide))) ?_
          rintro _ _ ⟨rfl, rfl⟩
          refine xw_at (f' := (51, [.ref 60, .int (nI i), .int (nI t)], [.int (nI (xpc (N 3)))])) (h' := (xS b, I, L, xP b)) rfl rfl ?_
          refine xw_go xb_127 5 (f1 := (if (nI (xpc (N 3))) < (I 61 (6 : Int32).toNatClampNeg) then 64 else 61, [.ref 60, .int (nI i), .int (nI t)], [])) (h1 := (xS b, I, L, xP b)) rfl ⟨rfl, (xn_ar (n := 6) (N := 159) rfl (by decide) (by decide)), trivial⟩ ?_
          refine xw_if (fun c_58 => ?_) (fun c_58 => ?_)
          · skip
            refine xw_go xb_127 14 (f1 := (82, [.ref 60, .int (nI i), .int (nI t)], [.int ((xm_up I 61 (3 : Int32).toNatClampNeg ((I 61 (3 : Int32).toNatClampNeg) ^^^ (1 <<< ((nI i) &&& 31)))) 61 (3 : Int32).toNatClampNeg)])) (h1 := (xS b, xm_up I 61 (3 : Int32).toNatClampNeg ((I 61 (3 : Int32).toNatClampNeg) ^^^ (1 <<< ((nI i) &&& 31))), L, xP b)) rfl ⟨rfl, (xn_ar (n := 3) (N := 159) rfl (by decide) (by decide)), (xn_ar (n := 3) (N := 159) rfl (by decide) (by decide)), rfl, (xn_ar (n := 3) (N := 159) rfl (by decide) (by decide)), trivial⟩ ?_
            refine xw_call xb_127 rfl rfl rfl rfl rfl (Or.inl rfl) (m_many (v := N 3 ^^^ (1 <<< i)) t2 (by show I 61 3 ^^^ (1 <<< (nI i &&& 31)) = _; rw [hM.1 3 (by decide)]; exact t1)) ?_
            rintro _ _ ⟨rfl, rfl⟩
            refine xw_at (f' := (85, [.ref 60, .int (nI i), .int (nI t)], [.int (nI (xpc (N 3 ^^^ (1 <<< i))))])) (h' := (xS b, xm_up I 61 (3 : Int32).toNatClampNeg ((I 61 (3 : Int32).toNatClampNeg) ^^^ (1 <<< ((nI i) &&& 31))), L, xP b)) rfl rfl ?_
            refine xw_ret xb_127 rfl rfl trivial ?_
            refine ⟨rfl, _, rfl, xMF_u (xMF_r I) (Or.inl rfl), xML_N hM (xMN_u hM.1 rfl ?_) rfl rfl⟩
            rw [show (3 : Int32).toNatClampNeg = 3 from rfl, hM.1 3 (by decide)]
            exact t1
          · skip
            exfalso
            try simp only [xB_dec, Classical.not_not] at c_5 c_15 c_31 c_39 c_58
            try simp only [show (6 : Int32).toNatClampNeg = 6 from rfl, hM.1 6 (by decide)] at c_5 c_15 c_31 c_39 c_58
            try simp (disch := omega) only [xt_eq, xt_lt, xt_le, xkt_0, xkt_1, xkt_2, xkt_3, xkt_4, xkt_5, xkt_6, xkt_7, xkt_8, xkt_9, xkt_10, xkt_11, xkt_12, xkt_13, xkt_14, xkt_16, xkt_20, xkt_24, xkt_31, xkt_32, xkt_40, xkt_44, xkt_47, xkt_48, xkt_57, xkt_59, xkt_60, xkt_63, xkt_64, xkt_65, xkt_72, xkt_95, xkt_99, xkt_100, xkt_101, xkt_103, xkt_110, xkt_112, xkt_113, xkt_114, xkt_119, xkt_126, xkt_159, xkt_576, xkt_999, xkt_9999, xkt_65536, xkt_999999, xkt_m1, xkt_m2, xkt_m3, xkt_m4, xkt_m11, xkt_m12, xkt_m13, xkt_m14, xkt_m20, xjt_0, xjt_1, xjt_2, xjt_3, xjt_4, xjt_5, xjt_6, xjt_7, xjt_8, xjt_9, xjt_10, xjt_11, xjt_12, xjt_13, xjt_14, xjt_16, xjt_20, xjt_24, xjt_31, xjt_32, xjt_40, xjt_44, xjt_47, xjt_48, xjt_57, xjt_59, xjt_60, xjt_63, xjt_64, xjt_65, xjt_72, xjt_95, xjt_99, xjt_100, xjt_101, xjt_103, xjt_110, xjt_112, xjt_113, xjt_114, xjt_119, xjt_126, xjt_159, xjt_576, xjt_999, xjt_9999, xjt_65536, xjt_999999, xt64, xt_n, not_true_eq_false, not_false_eq_true, Classical.not_not] at c_5 c_15 c_31 c_39 c_58
            all_goals omega
      · skip
        exfalso
        try simp only [xB_dec, Classical.not_not] at c_5 c_15 c_31
        try simp (disch := omega) only [xt_eq, xt_lt, xt_le, xkt_0, xkt_1, xkt_2, xkt_3, xkt_4, xkt_5, xkt_6, xkt_7, xkt_8, xkt_9, xkt_10, xkt_11, xkt_12, xkt_13, xkt_14, xkt_16, xkt_20, xkt_24, xkt_31, xkt_32, xkt_40, xkt_44, xkt_47, xkt_48, xkt_57, xkt_59, xkt_60, xkt_63, xkt_64, xkt_65, xkt_72, xkt_95, xkt_99, xkt_100, xkt_101, xkt_103, xkt_110, xkt_112, xkt_113, xkt_114, xkt_119, xkt_126, xkt_159, xkt_576, xkt_999, xkt_9999, xkt_65536, xkt_999999, xkt_m1, xkt_m2, xkt_m3, xkt_m4, xkt_m11, xkt_m12, xkt_m13, xkt_m14, xkt_m20, xjt_0, xjt_1, xjt_2, xjt_3, xjt_4, xjt_5, xjt_6, xjt_7, xjt_8, xjt_9, xjt_10, xjt_11, xjt_12, xjt_13, xjt_14, xjt_16, xjt_20, xjt_24, xjt_31, xjt_32, xjt_40, xjt_44, xjt_47, xjt_48, xjt_57, xjt_59, xjt_60, xjt_63, xjt_64, xjt_65, xjt_72, xjt_95, xjt_99, xjt_100, xjt_101, xjt_103, xjt_110, xjt_112, xjt_113, xjt_114, xjt_119, xjt_126, xjt_159, xjt_576, xjt_999, xjt_9999, xjt_65536, xjt_999999, xt64, xt_n, not_true_eq_false, not_false_eq_true, Classical.not_not] at c_5 c_15 c_31
        all_goals omega
    · skip
      exfalso
      try simp only [xB_dec, Classical.not_not] at c_5 c_15
      try simp (disch := omega) only [xt_eq, xt_lt, xt_le, xkt_0, xkt_1, xkt_2, xkt_3, xkt_4, xkt_5, xkt_6, xkt_7, xkt_8, xkt_9, xkt_10, xkt_11, xkt_12, xkt_13, xkt_14, xkt_16, xkt_20, xkt_24, xkt_31, xkt_32, xkt_40, xkt_44, xkt_47, xkt_48, xkt_57, xkt_59, xkt_60, xkt_63, xkt_64, xkt_65, xkt_72, xkt_95, xkt_99, xkt_100, xkt_101, xkt_103, xkt_110, xkt_112, xkt_113, xkt_114, xkt_119, xkt_126, xkt_159, xkt_576, xkt_999, xkt_9999, xkt_65536, xkt_999999, xkt_m1, xkt_m2, xkt_m3, xkt_m4, xkt_m11, xkt_m12, xkt_m13, xkt_m14, xkt_m20, xjt_0, xjt_1, xjt_2, xjt_3, xjt_4, xjt_5, xjt_6, xjt_7, xjt_8, xjt_9, xjt_10, xjt_11, xjt_12, xjt_13, xjt_14, xjt_16, xjt_20, xjt_24, xjt_31, xjt_32, xjt_40, xjt_44, xjt_47, xjt_48, xjt_57, xjt_59, xjt_60, xjt_63, xjt_64, xjt_65, xjt_72, xjt_95, xjt_99, xjt_100, xjt_101, xjt_103, xjt_110, xjt_112, xjt_113, xjt_114, xjt_119, xjt_126, xjt_159, xjt_576, xjt_999, xjt_9999, xjt_65536, xjt_999999, xt64, xt_n, not_true_eq_false, not_false_eq_true, Classical.not_not] at c_5 c_15
      all_goals omega

