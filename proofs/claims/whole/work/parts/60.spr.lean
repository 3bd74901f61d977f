/-! ===== the class reads: sprinklers ===== -/
theorem xP_45 {b : Bool} {p : Nat} (h : p < 5) : xP b 45 p = some (46 + p) := by
  match p, h with
  | 0, _ => rfl
  | 1, _ => rfl
  | 2, _ => rfl
  | 3, _ => rfl
  | 4, _ => rfl
theorem xS_46 {b : Bool} {p : Nat} (h : p < 5) : (xS b)[46 + p]? = some (11, 4) := by
  match p, h with
  | 0, _ => rfl
  | 1, _ => rfl
  | 2, _ => rfl
  | 3, _ => rfl
  | 4, _ => rfl
theorem c_spr5 {d : Nat} {b : Bool} {I : Nat → Nat → Int32} {L : Nat → Nat → Int64} {T : Nat → Nat} {t : Nat} (hR : xRT T t I) {R c p i : Nat} (h3 : I 43 3 = nI R) (h4 : I 43 4 = nI c) (h2 : I 43 2 = nI p) (hp : p ≤ t) (bR : 2 ≤ R ∧ R ≤ 8) (bc : 2 ≤ c ∧ c ≤ 8) (hi : i < 5) (rl : ∀ k, k ≤ 5 → xrp T t p k ≤ t) (f0 : xkc (xlt T t p) < 5) (f1 : 48 ≤ (xlt T t (xrp T t p 1)) ∧ (xlt T t (xrp T t p 1)) < 48 + R) (f2 : 48 ≤ (xlt T t (xrp T t p 2)) ∧ (xlt T t (xrp T t p 2)) < 48 + c) (f3 : 48 ≤ (xlt T t (xrp T t p 3)) ∧ (xlt T t (xrp T t p 3)) < 53) (f4 : 49 ≤ (xlt T t (xrp T t p 4)) ∧ (xlt T t (xrp T t p 4)) < 58) : xm_Z (d + 3) 51 [.ref 43, .ref (46 + i)] (xS b, I, L, xP b) (fun rz hz => rz = some (.int 1) ∧ ∃ I', hz = (xS b, I', L, xP b) ∧ (∀ a, a ≠ 43 → a ≠ 46 + i → I' a = I a) ∧ (∀ k, k ≠ 2 → I' 43 k = I 43 k) ∧ I' 43 2 = nI (xrp T t p 5) ∧ I' (46 + i) 0 = nI (xkc (xlt T t p)) ∧ I' (46 + i) 1 = nI (((xlt T t (xrp T t p 1)) - 48) * c + ((xlt T t (xrp T t p 2)) - 48)) ∧ I' (46 + i) 2 = nI ((xlt T t (xrp T t p 3)) - 48) ∧ I' (46 + i) 3 = nI ((xlt T t (xrp T t p 4)) - 48)) := by
  have s5 : (xS b)[46 + i]? = some (11, 4) := xS_46 hi
  have t126 : ∀ j, xlt T t (xrp T t p j) ≤ 126 := fun j => xlt_le hR.2.1
  have t1 := t126 1
  have t2 := t126 2
  have t3 := t126 3
  have t4 := t126 4
  refine xw_S xb_51 (l := [.ref 43, .ref (46 + i), .float 0, .float 0, .float 0, .float 0, .float 0]) (Nat.le_of_ble_eq_true rfl) rfl ?_
  refine xw_go xb_51 1 (f1 := (1, [.ref 43, .ref (46 + i), .float 0, .float 0, .float 0, .float 0, .float 0], [.ref 43])) (h1 := (xS b, I, L, xP b)) rfl trivial ?_
  refine xw_call xb_51 rfl rfl rfl rfl rfl (Or.inr ⟨_, _, rfl, rfl⟩) (c_letter (I := I) (a := p) hR h2 hp) ?_
  rintro _ _ ⟨rfl, rfl⟩
  refine xw_at (f' := (4, [.ref 43, .ref (46 + i), .float 0, .float 0, .float 0, .float 0, .float 0], [.int (xlC T t p)])) (h' := (xS b, xm_up I 43 2 (nI (xsk T t p)), L, xP b)) rfl rfl ?_
  refine xw_call xb_51 rfl rfl rfl rfl rfl (Or.inl rfl) (c_kindOf (a := p) hR.2.1 rfl) ?_
  rintro _ _ ⟨rfl, rfl⟩
  refine xw_at (f' := (7, [.ref 43, .ref (46 + i), .float 0, .float 0, .float 0, .float 0, .float 0], [.int (xkv (xlt T t p))])) (h' := (xS b, xm_up I 43 2 (nI (xsk T t p)), L, xP b)) rfl rfl ?_
  refine xw_go xb_51 3 (f1 := (if 0 ≤ (xkv (xlt T t p)) then 14 else 12, [.ref 43, .ref (46 + i), .int (xkv (xlt T t p)), .float 0, .float 0, .float 0, .float 0], [])) (h1 := (xS b, xm_up I 43 2 (nI (xsk T t p)), L, xP b)) rfl trivial ?_
  refine xw_if (fun c_9 => ?_) (fun c_9 => ?_)
  · skip
    refine xw_go xb_51 6 (f1 := (24, [.ref 43, .ref (46 + i), .int (xkv (xlt T t p)), .float 0, .float 0, .float 0, .float 0], [])) (h1 := (xS b, xm_up (xm_up I 43 2 (nI (xsk T t p))) 43 2 (((xm_up I 43 2 (nI (xsk T t p))) 43 2) + 1), L, xP b)) rfl ⟨rfl, rfl, trivial⟩ ?_
    refine xw_at (f' := (24, [.ref 43, .ref (46 + i), .int (xkv (xlt T t p)), .float 0, .float 0, .float 0, .float 0], [])) (h' := (xS b, xm_up I 43 2 (nI (xrp T t p 1)), L, xP b)) rfl (show (xS b, xm_up (xm_up I 43 2 (nI (xsk T t p))) 43 2 (((xm_up I 43 2 (nI (xsk T t p))) 43 2) + 1), L, xP b) = (xS b, xm_up I 43 2 (nI (xrp T t p 1)), L, xP b) from ?_) ?_
    · rw [xm_up_at, nI_1, xup_2]
      rfl
    refine xw_go xb_51 6 (f1 := (32, [.ref 43, .ref (46 + i), .int (xkv (xlt T t p)), .float 0, .float 0, .float 0, .float 0], [.int (((xm_up I 43 2 (nI (xrp T t p 1))) 43 3) - 1), .int 0, .ref 43])) (h1 := (xS b, xm_up I 43 2 (nI (xrp T t p 1)), L, xP b)) rfl ⟨rfl, trivial⟩ ?_
    refine xw_cong (l' := [.ref 43, .ref (46 + i), .int (xkv (xlt T t p)), .float 0, .float 0, .float 0, .float 0]) (st' := [.int (nI (R - 1)), .int 0, .ref 43]) (h' := (xS b, xm_up I 43 2 (nI (xrp T t p 1)), L, xP b)) rfl (show ([.int (((xm_up I 43 2 (nI (xrp T t p 1))) 43 3) - 1), .int 0, .ref 43] : List Value) = [.int (nI (R - 1)), .int 0, .ref 43] from ?_) rfl ?_
    · rw [xm_up_ne (Or.inr (by decide)), h3, xl_1, xn_sub (by omega)]
    refine xw_call xb_51 rfl rfl rfl rfl rfl (Or.inr ⟨_, _, rfl, rfl⟩) (c_digit1 (I := (xm_up I 43 2 (nI (xrp T t p 1)))) (a := (xrp T t p 1)) (lo := 0) (hi := (R - 1)) (xRT_fr hR (by rw [xm_up_ne (Or.inr (by decide))]) (by rw [xm_up_o (by decide)])) (xm_up_at _ _ _ _) (rl 1 (by decide)) (by omega) (by omega) (by omega) rfl rfl) ?_
    rintro _ _ ⟨rfl, rfl⟩
    rw [xup_2]
    refine xw_at (f' := (35, [.ref 43, .ref (46 + i), .int (xkv (xlt T t p)), .float 0, .float 0, .float 0, .float 0], [.int (nI (xlt T t (xrp T t p 1) - 48))])) (h' := (xS b, xm_up I 43 2 (nI (xrp T t p 2)), L, xP b)) rfl rfl ?_
    refine xw_go xb_51 3 (f1 := (if 0 ≤ (nI (xlt T t (xrp T t p 1) - 48)) then 44 else 40, [.ref 43, .ref (46 + i), .int (xkv (xlt T t p)), .int (nI (xlt T t (xrp T t p 1) - 48)), .float 0, .float 0, .float 0], [])) (h1 := (xS b, xm_up I 43 2 (nI (xrp T t p 2)), L, xP b)) rfl trivial ?_
    refine xw_if (fun c_37 => ?_) (fun c_37 => ?_)
    · skip
      refine xw_go xb_51 6 (f1 := (52, [.ref 43, .ref (46 + i), .int (xkv (xlt T t p)), .int (nI (xlt T t (xrp T t p 1) - 48)), .float 0, .float 0, .float 0], [.int (((xm_up I 43 2 (nI (xrp T t p 2))) 43 4) - 1), .int 0, .ref 43])) (h1 := (xS b, xm_up I 43 2 (nI (xrp T t p 2)), L, xP b)) rfl ⟨rfl, trivial⟩ ?_
      refine xw_cong (l' := [.ref 43, .ref (46 + i), .int (xkv (xlt T t p)), .int (nI (xlt T t (xrp T t p 1) - 48)), .float 0, .float 0, .float 0]) (st' := [.int (nI (c - 1)), .int 0, .ref 43]) (h' := (xS b, xm_up I 43 2 (nI (xrp T t p 2)), L, xP b)) rfl (show ([.int (((xm_up I 43 2 (nI (xrp T t p 2))) 43 4) - 1), .int 0, .ref 43] : List Value) = [.int (nI (c - 1)), .int 0, .ref 43] from ?_) rfl ?_
      · rw [xm_up_ne (Or.inr (by decide)), h4, xl_1, xn_sub (by omega)]
      refine xw_call xb_51 rfl rfl rfl rfl rfl (Or.inr ⟨_, _, rfl, rfl⟩) (c_digit1 (I := (xm_up I 43 2 (nI (xrp T t p 2)))) (a := (xrp T t p 2)) (lo := 0) (hi := (c - 1)) (xRT_fr hR (by rw [xm_up_ne (Or.inr (by decide))]) (by rw [xm_up_o (by decide)])) (xm_up_at _ _ _ _) (rl 2 (by decide)) (by omega) (by omega) (by omega) rfl rfl) ?_
      rintro _ _ ⟨rfl, rfl⟩
      rw [xup_2]
      refine xw_at (f' := (55, [.ref 43, .ref (46 + i), .int (xkv (xlt T t p)), .int (nI (xlt T t (xrp T t p 1) - 48)), .float 0, .float 0, .float 0], [.int (nI (xlt T t (xrp T t p 2) - 48))])) (h' := (xS b, xm_up I 43 2 (nI (xrp T t p 3)), L, xP b)) rfl rfl ?_
      refine xw_go xb_51 3 (f1 := (if 0 ≤ (nI (xlt T t (xrp T t p 2) - 48)) then 66 else 62, [.ref 43, .ref (46 + i), .int (xkv (xlt T t p)), .int (nI (xlt T t (xrp T t p 1) - 48)), .int (nI (xlt T t (xrp T t p 2) - 48)), .float 0, .float 0], [])) (h1 := (xS b, xm_up I 43 2 (nI (xrp T t p 3)), L, xP b)) rfl trivial ?_
      refine xw_if (fun c_59 => ?_) (fun c_59 => ?_)
      · skip
        refine xw_go xb_51 3 (f1 := (69, [.ref 43, .ref (46 + i), .int (xkv (xlt T t p)), .int (nI (xlt T t (xrp T t p 1) - 48)), .int (nI (xlt T t (xrp T t p 2) - 48)), .float 0, .float 0], [.int 4, .int 0, .ref 43])) (h1 := (xS b, xm_up I 43 2 (nI (xrp T t p 3)), L, xP b)) rfl trivial ?_
        refine xw_call xb_51 rfl rfl rfl rfl rfl (Or.inr ⟨_, _, rfl, rfl⟩) (c_digit1 (I := (xm_up I 43 2 (nI (xrp T t p 3)))) (a := (xrp T t p 3)) (lo := 0) (hi := 4) (xRT_fr hR (by rw [xm_up_ne (Or.inr (by decide))]) (by rw [xm_up_o (by decide)])) (xm_up_at _ _ _ _) (rl 3 (by decide)) (by omega) (by omega) (by omega) rfl rfl) ?_
        rintro _ _ ⟨rfl, rfl⟩
        rw [xup_2]
        refine xw_at (f' := (72, [.ref 43, .ref (46 + i), .int (xkv (xlt T t p)), .int (nI (xlt T t (xrp T t p 1) - 48)), .int (nI (xlt T t (xrp T t p 2) - 48)), .float 0, .float 0], [.int (nI (xlt T t (xrp T t p 3) - 48))])) (h' := (xS b, xm_up I 43 2 (nI (xrp T t p 4)), L, xP b)) rfl rfl ?_
        refine xw_go xb_51 3 (f1 := (if 0 ≤ (nI (xlt T t (xrp T t p 3) - 48)) then 83 else 79, [.ref 43, .ref (46 + i), .int (xkv (xlt T t p)), .int (nI (xlt T t (xrp T t p 1) - 48)), .int (nI (xlt T t (xrp T t p 2) - 48)), .int (nI (xlt T t (xrp T t p 3) - 48)), .float 0], [])) (h1 := (xS b, xm_up I 43 2 (nI (xrp T t p 4)), L, xP b)) rfl trivial ?_
        refine xw_if (fun c_76 => ?_) (fun c_76 => ?_)
        · skip
          refine xw_go xb_51 3 (f1 := (87, [.ref 43, .ref (46 + i), .int (xkv (xlt T t p)), .int (nI (xlt T t (xrp T t p 1) - 48)), .int (nI (xlt T t (xrp T t p 2) - 48)), .int (nI (xlt T t (xrp T t p 3) - 48)), .float 0], [.int 9, .int 1, .ref 43])) (h1 := (xS b, xm_up I 43 2 (nI (xrp T t p 4)), L, xP b)) rfl trivial ?_
          refine xw_call xb_51 rfl rfl rfl rfl rfl (Or.inr ⟨_, _, rfl, rfl⟩) (c_digit1 (I := (xm_up I 43 2 (nI (xrp T t p 4)))) (a := (xrp T t p 4)) (lo := 1) (hi := 9) (xRT_fr hR (by rw [xm_up_ne (Or.inr (by decide))]) (by rw [xm_up_o (by decide)])) (xm_up_at _ _ _ _) (rl 4 (by decide)) (by omega) (by omega) (by omega) rfl rfl) ?_
          rintro _ _ ⟨rfl, rfl⟩
          rw [xup_2]
          refine xw_at (f' := (90, [.ref 43, .ref (46 + i), .int (xkv (xlt T t p)), .int (nI (xlt T t (xrp T t p 1) - 48)), .int (nI (xlt T t (xrp T t p 2) - 48)), .int (nI (xlt T t (xrp T t p 3) - 48)), .float 0], [.int (nI (xlt T t (xrp T t p 4) - 48))])) (h' := (xS b, xm_up I 43 2 (nI (xrp T t p 5)), L, xP b)) rfl rfl ?_
          refine xw_go xb_51 6 (f1 := (99, [.ref 43, .ref (46 + i), .int (xkv (xlt T t p)), .int (nI (xlt T t (xrp T t p 1) - 48)), .int (nI (xlt T t (xrp T t p 2) - 48)), .int (nI (xlt T t (xrp T t p 3) - 48)), .int (nI (xlt T t (xrp T t p 4) - 48))], [.int ((xm_up I 43 2 (nI (xrp T t p 5))) 43 4), .int (nI (xlt T t (xrp T t p 1) - 48)), .int (xkv (xlt T t p)), .ref (46 + i)])) (h1 := (xS b, xm_up I 43 2 (nI (xrp T t p 5)), L, xP b)) rfl ⟨rfl, trivial⟩ ?_
          refine xw_cong (l' := [.ref 43, .ref (46 + i), .int (xkv (xlt T t p)), .int (nI (xlt T t (xrp T t p 1) - 48)), .int (nI (xlt T t (xrp T t p 2) - 48)), .int (nI (xlt T t (xrp T t p 3) - 48)), .int (nI (xlt T t (xrp T t p 4) - 48))]) (st' := [.int (nI c), .int (nI (xlt T t (xrp T t p 1) - 48)), .int (xkv (xlt T t p)), .ref (46 + i)]) (h' := (xS b, xm_up I 43 2 (nI (xrp T t p 5)), L, xP b)) rfl (show ([.int ((xm_up I 43 2 (nI (xrp T t p 5))) 43 4), .int (nI (xlt T t (xrp T t p 1) - 48)), .int (xkv (xlt T t p)), .ref (46 + i)] : List Value) = [.int (nI c), .int (nI (xlt T t (xrp T t p 1) - 48)), .int (xkv (xlt T t p)), .ref (46 + i)] from ?_) rfl ?_
          · rw [xm_up_ne (Or.inr (by decide)), h4]
          refine xw_go xb_51 5 (f1 := (107, [.ref 43, .ref (46 + i), .int (xkv (xlt T t p)), .int (nI (xlt T t (xrp T t p 1) - 48)), .int (nI (xlt T t (xrp T t p 2) - 48)), .int (nI (xlt T t (xrp T t p 3) - 48)), .int (nI (xlt T t (xrp T t p 4) - 48))], [.int (nI (xlt T t (xrp T t p 4) - 48)), .int (nI (xlt T t (xrp T t p 3) - 48)), .int (((nI (xlt T t (xrp T t p 1) - 48)) * (nI c)) + (nI (xlt T t (xrp T t p 2) - 48))), .int (xkv (xlt T t p)), .ref (46 + i)])) (h1 := (xS b, xm_up I 43 2 (nI (xrp T t p 5)), L, xP b)) rfl trivial ?_
          refine xw_call xb_51 rfl rfl rfl rfl rfl (Or.inr ⟨_, _, rfl, s5⟩) (c_become (I := (xm_up I 43 2 (nI (xrp T t p 5)))) s5) ?_
          rintro _ _ ⟨rfl, rfl⟩
          refine xw_at (f' := (110, [.ref 43, .ref (46 + i), .int (xkv (xlt T t p)), .int (nI (xlt T t (xrp T t p 1) - 48)), .int (nI (xlt T t (xrp T t p 2) - 48)), .int (nI (xlt T t (xrp T t p 3) - 48)), .int (nI (xlt T t (xrp T t p 4) - 48))], [])) (h' := (xS b, xm_up (xm_up (xm_up (xm_up (xm_up I 43 2 (nI (xrp T t p 5))) (46 + i) 0 (xkv (xlt T t p))) (46 + i) 1 (((nI (xlt T t (xrp T t p 1) - 48)) * (nI c)) + (nI (xlt T t (xrp T t p 2) - 48)))) (46 + i) 2 (nI (xlt T t (xrp T t p 3) - 48))) (46 + i) 3 (nI (xlt T t (xrp T t p 4) - 48)), L, xP b)) rfl rfl ?_
          refine xw_go xb_51 2 (f1 := (if (nI (xlt T t (xrp T t p 4) - 48)) < 0 then 119 else 115, [.ref 43, .ref (46 + i), .int (xkv (xlt T t p)), .int (nI (xlt T t (xrp T t p 1) - 48)), .int (nI (xlt T t (xrp T t p 2) - 48)), .int (nI (xlt T t (xrp T t p 3) - 48)), .int (nI (xlt T t (xrp T t p 4) - 48))], [])) (h1 := (xS b, xm_up (xm_up (xm_up (xm_up (xm_up I 43 2 (nI (xrp T t p 5))) (46 + i) 0 (xkv (xlt T t p))) (46 + i) 1 (((nI (xlt T t (xrp T t p 1) - 48)) * (nI c)) + (nI (xlt T t (xrp T t p 2) - 48)))) (46 + i) 2 (nI (xlt T t (xrp T t p 3) - 48))) (46 + i) 3 (nI (xlt T t (xrp T t p 4) - 48)), L, xP b)) rfl trivial ?_
          refine xw_if (fun c_112 => ?_) (fun c_112 => ?_)
          · skip
            exfalso
            rw [xl_0, nI_ltI (by omega) (by omega)] at c_112
            omega
          · skip
            refine xw_go xb_51 2 (f1 := (120, [.ref 43, .ref (46 + i), .int (xkv (xlt T t p)), .int (nI (xlt T t (xrp T t p 1) - 48)), .int (nI (xlt T t (xrp T t p 2) - 48)), .int (nI (xlt T t (xrp T t p 3) - 48)), .int (nI (xlt T t (xrp T t p 4) - 48))], [.int 1])) (h1 := (xS b, xm_up (xm_up (xm_up (xm_up (xm_up I 43 2 (nI (xrp T t p 5))) (46 + i) 0 (xkv (xlt T t p))) (46 + i) 1 (((nI (xlt T t (xrp T t p 1) - 48)) * (nI c)) + (nI (xlt T t (xrp T t p 2) - 48)))) (46 + i) 2 (nI (xlt T t (xrp T t p 3) - 48))) (46 + i) 3 (nI (xlt T t (xrp T t p 4) - 48)), L, xP b)) rfl trivial ?_
            refine xw_ret xb_51 rfl rfl ?_ ?_
            · first | exact Or.inl rfl | exact Or.inr rfl
            refine ⟨rfl, _, rfl, fun a h1 h2 => ?_, fun k hk => ?_, ?_, ?_, ?_, ?_, ?_⟩
            · rw [xm_up_o h2, xm_up_o h2, xm_up_o h2, xm_up_o h2, xm_up_o h1]
            · rw [xm_up_o (by omega), xm_up_o (by omega), xm_up_o (by omega), xm_up_o (by omega), xm_up_ne (Or.inr hk)]
            · rw [xm_up_o (by omega), xm_up_o (by omega), xm_up_o (by omega), xm_up_o (by omega), xm_up_at]
            · rw [xm_up_ne (Or.inr (by decide)), xm_up_ne (Or.inr (by decide)), xm_up_ne (Or.inr (by decide)), xm_up_at]
              unfold xkv
              rw [if_pos f0]
            · rw [xm_up_ne (Or.inr (by decide)), xm_up_ne (Or.inr (by decide)), xm_up_at, pk_mul, nI_add]
            · rw [xm_up_ne (Or.inr (by decide)), xm_up_at]
            · rw [xm_up_at]
        · skip
          exfalso
          rw [xl_0, nI_leI (by omega) (by omega)] at c_76
          omega
      · skip
        exfalso
        rw [xl_0, nI_leI (by omega) (by omega)] at c_59
        omega
    · skip
      exfalso
      rw [xl_0, nI_leI (by omega) (by omega)] at c_37
      omega
  · skip
    exact absurd (xkv_ge.mpr f0) c_9

theorem c_spr0 {d : Nat} {b : Bool} {I : Nat → Nat → Int32} {L : Nat → Nat → Int64} {T : Nat → Nat} {t : Nat} (hR : xRT T t I) {R c p i : Nat} (h3 : I 43 3 = nI R) (h4 : I 43 4 = nI c) (h2 : I 43 2 = nI p) (hp : p ≤ t) (bR : 2 ≤ R ∧ R ≤ 8) (bc : 2 ≤ c ∧ c ≤ 8) (hi : i < 5) (rl : ∀ k, k ≤ 0 → xrp T t p k ≤ t) (f0 : ¬ (xkc (xlt T t p) < 5)) : xm_Z (d + 3) 51 [.ref 43, .ref (46 + i)] (xS b, I, L, xP b) (fun rz hz => rz = some (.int 0) ∧ ∃ I', hz = (xS b, I', L, xP b) ∧ (∀ a, a ≠ 43 → a ≠ 46 + i → I' a = I a) ∧ I' 43 2 = nI (xsk T t (xrp T t p 0))) := by
  have s5 : (xS b)[46 + i]? = some (11, 4) := xS_46 hi
  have t126 : ∀ j, xlt T t (xrp T t p j) ≤ 126 := fun j => xlt_le hR.2.1
  have t1 := t126 1
  have t2 := t126 2
  have t3 := t126 3
  have t4 := t126 4
  refine xw_S xb_51 (l := [.ref 43, .ref (46 + i), .float 0, .float 0, .float 0, .float 0, .float 0]) (Nat.le_of_ble_eq_true rfl) rfl ?_
  refine xw_go xb_51 1 (f1 := (1, [.ref 43, .ref (46 + i), .float 0, .float 0, .float 0, .float 0, .float 0], [.ref 43])) (h1 := (xS b, I, L, xP b)) rfl trivial ?_
  refine xw_call xb_51 rfl rfl rfl rfl rfl (Or.inr ⟨_, _, rfl, rfl⟩) (c_letter (I := I) (a := p) hR h2 hp) ?_
  rintro _ _ ⟨rfl, rfl⟩
  refine xw_at (f' := (4, [.ref 43, .ref (46 + i), .float 0, .float 0, .float 0, .float 0, .float 0], [.int (xlC T t p)])) (h' := (xS b, xm_up I 43 2 (nI (xsk T t p)), L, xP b)) rfl rfl ?_
  refine xw_call xb_51 rfl rfl rfl rfl rfl (Or.inl rfl) (c_kindOf (a := p) hR.2.1 rfl) ?_
  rintro _ _ ⟨rfl, rfl⟩
  refine xw_at (f' := (7, [.ref 43, .ref (46 + i), .float 0, .float 0, .float 0, .float 0, .float 0], [.int (xkv (xlt T t p))])) (h' := (xS b, xm_up I 43 2 (nI (xsk T t p)), L, xP b)) rfl rfl ?_
  refine xw_go xb_51 3 (f1 := (if 0 ≤ (xkv (xlt T t p)) then 14 else 12, [.ref 43, .ref (46 + i), .int (xkv (xlt T t p)), .float 0, .float 0, .float 0, .float 0], [])) (h1 := (xS b, xm_up I 43 2 (nI (xsk T t p)), L, xP b)) rfl trivial ?_
  refine xw_if (fun c_9 => ?_) (fun c_9 => ?_)
  · skip
    exact absurd (xkv_ge.mp c_9) f0
  · skip
    refine xw_go xb_51 1 (f1 := (13, [.ref 43, .ref (46 + i), .int (xkv (xlt T t p)), .float 0, .float 0, .float 0, .float 0], [.int 0])) (h1 := (xS b, xm_up I 43 2 (nI (xsk T t p)), L, xP b)) rfl trivial ?_
    refine xw_ret xb_51 rfl rfl ?_ ?_
    · first | exact Or.inl rfl | exact Or.inr rfl
    refine ⟨rfl, _, rfl, fun a h1 h2 => ?_, ?_⟩
    · rw [xm_up_o h1]
    · rw [xm_up_at]
      rfl

theorem c_spr1 {d : Nat} {b : Bool} {I : Nat → Nat → Int32} {L : Nat → Nat → Int64} {T : Nat → Nat} {t : Nat} (hR : xRT T t I) {R c p i : Nat} (h3 : I 43 3 = nI R) (h4 : I 43 4 = nI c) (h2 : I 43 2 = nI p) (hp : p ≤ t) (bR : 2 ≤ R ∧ R ≤ 8) (bc : 2 ≤ c ∧ c ≤ 8) (hi : i < 5) (rl : ∀ k, k ≤ 1 → xrp T t p k ≤ t) (f0 : xkc (xlt T t p) < 5) (f1 : ¬ (48 ≤ (xlt T t (xrp T t p 1)) ∧ (xlt T t (xrp T t p 1)) < 48 + R)) : xm_Z (d + 3) 51 [.ref 43, .ref (46 + i)] (xS b, I, L, xP b) (fun rz hz => rz = some (.int 0) ∧ ∃ I', hz = (xS b, I', L, xP b) ∧ (∀ a, a ≠ 43 → a ≠ 46 + i → I' a = I a) ∧ I' 43 2 = nI (xsk T t (xrp T t p 1))) := by
  have s5 : (xS b)[46 + i]? = some (11, 4) := xS_46 hi
  have t126 : ∀ j, xlt T t (xrp T t p j) ≤ 126 := fun j => xlt_le hR.2.1
  have t1 := t126 1
  have t2 := t126 2
  have t3 := t126 3
  have t4 := t126 4
  refine xw_S xb_51 (l := [.ref 43, .ref (46 + i), .float 0, .float 0, .float 0, .float 0, .float 0]) (Nat.le_of_ble_eq_true rfl) rfl ?_
  refine xw_go xb_51 1 (f1 := (1, [.ref 43, .ref (46 + i), .float 0, .float 0, .float 0, .float 0, .float 0], [.ref 43])) (h1 := (xS b, I, L, xP b)) rfl trivial ?_
  refine xw_call xb_51 rfl rfl rfl rfl rfl (Or.inr ⟨_, _, rfl, rfl⟩) (c_letter (I := I) (a := p) hR h2 hp) ?_
  rintro _ _ ⟨rfl, rfl⟩
  refine xw_at (f' := (4, [.ref 43, .ref (46 + i), .float 0, .float 0, .float 0, .float 0, .float 0], [.int (xlC T t p)])) (h' := (xS b, xm_up I 43 2 (nI (xsk T t p)), L, xP b)) rfl rfl ?_
  refine xw_call xb_51 rfl rfl rfl rfl rfl (Or.inl rfl) (c_kindOf (a := p) hR.2.1 rfl) ?_
  rintro _ _ ⟨rfl, rfl⟩
  refine xw_at (f' := (7, [.ref 43, .ref (46 + i), .float 0, .float 0, .float 0, .float 0, .float 0], [.int (xkv (xlt T t p))])) (h' := (xS b, xm_up I 43 2 (nI (xsk T t p)), L, xP b)) rfl rfl ?_
  refine xw_go xb_51 3 (f1 := (if 0 ≤ (xkv (xlt T t p)) then 14 else 12, [.ref 43, .ref (46 + i), .int (xkv (xlt T t p)), .float 0, .float 0, .float 0, .float 0], [])) (h1 := (xS b, xm_up I 43 2 (nI (xsk T t p)), L, xP b)) rfl trivial ?_
  refine xw_if (fun c_9 => ?_) (fun c_9 => ?_)
  · skip
    refine xw_go xb_51 6 (f1 := (24, [.ref 43, .ref (46 + i), .int (xkv (xlt T t p)), .float 0, .float 0, .float 0, .float 0], [])) (h1 := (xS b, xm_up (xm_up I 43 2 (nI (xsk T t p))) 43 2 (((xm_up I 43 2 (nI (xsk T t p))) 43 2) + 1), L, xP b)) rfl ⟨rfl, rfl, trivial⟩ ?_
    refine xw_at (f' := (24, [.ref 43, .ref (46 + i), .int (xkv (xlt T t p)), .float 0, .float 0, .float 0, .float 0], [])) (h' := (xS b, xm_up I 43 2 (nI (xrp T t p 1)), L, xP b)) rfl (show (xS b, xm_up (xm_up I 43 2 (nI (xsk T t p))) 43 2 (((xm_up I 43 2 (nI (xsk T t p))) 43 2) + 1), L, xP b) = (xS b, xm_up I 43 2 (nI (xrp T t p 1)), L, xP b) from ?_) ?_
    · rw [xm_up_at, nI_1, xup_2]
      rfl
    refine xw_go xb_51 6 (f1 := (32, [.ref 43, .ref (46 + i), .int (xkv (xlt T t p)), .float 0, .float 0, .float 0, .float 0], [.int (((xm_up I 43 2 (nI (xrp T t p 1))) 43 3) - 1), .int 0, .ref 43])) (h1 := (xS b, xm_up I 43 2 (nI (xrp T t p 1)), L, xP b)) rfl ⟨rfl, trivial⟩ ?_
    refine xw_cong (l' := [.ref 43, .ref (46 + i), .int (xkv (xlt T t p)), .float 0, .float 0, .float 0, .float 0]) (st' := [.int (nI (R - 1)), .int 0, .ref 43]) (h' := (xS b, xm_up I 43 2 (nI (xrp T t p 1)), L, xP b)) rfl (show ([.int (((xm_up I 43 2 (nI (xrp T t p 1))) 43 3) - 1), .int 0, .ref 43] : List Value) = [.int (nI (R - 1)), .int 0, .ref 43] from ?_) rfl ?_
    · rw [xm_up_ne (Or.inr (by decide)), h3, xl_1, xn_sub (by omega)]
    refine xw_call xb_51 rfl rfl rfl rfl rfl (Or.inr ⟨_, _, rfl, rfl⟩) (c_digit0 (I := (xm_up I 43 2 (nI (xrp T t p 1)))) (a := (xrp T t p 1)) (lo := 0) (hi := (R - 1)) (xRT_fr hR (by rw [xm_up_ne (Or.inr (by decide))]) (by rw [xm_up_o (by decide)])) (xm_up_at _ _ _ _) (rl 1 (by decide)) (by omega) (by omega) (by omega) rfl rfl) ?_
    rintro _ _ ⟨rfl, rfl⟩
    rw [xup_2]
    refine xw_at (f' := (35, [.ref 43, .ref (46 + i), .int (xkv (xlt T t p)), .float 0, .float 0, .float 0, .float 0], [.int (-1)])) (h' := (xS b, xm_up I 43 2 (nI (xsk T t (xrp T t p 1))), L, xP b)) rfl rfl ?_
    refine xw_go xb_51 21 (f1 := (99, [.ref 43, .ref (46 + i), .int (xkv (xlt T t p)), .int (-1), .int (-1), .int (-1), .int (-1)], [.int ((xm_up I 43 2 (nI (xsk T t (xrp T t p 1)))) 43 4), .int (-1), .int (xkv (xlt T t p)), .ref (46 + i)])) (h1 := (xS b, xm_up I 43 2 (nI (xsk T t (xrp T t p 1))), L, xP b)) rfl ⟨rfl, trivial⟩ ?_
    refine xw_cong (l' := [.ref 43, .ref (46 + i), .int (xkv (xlt T t p)), .int (-1), .int (-1), .int (-1), .int (-1)]) (st' := [.int (nI c), .int (-1), .int (xkv (xlt T t p)), .ref (46 + i)]) (h' := (xS b, xm_up I 43 2 (nI (xsk T t (xrp T t p 1))), L, xP b)) rfl (show ([.int ((xm_up I 43 2 (nI (xsk T t (xrp T t p 1)))) 43 4), .int (-1), .int (xkv (xlt T t p)), .ref (46 + i)] : List Value) = [.int (nI c), .int (-1), .int (xkv (xlt T t p)), .ref (46 + i)] from ?_) rfl ?_
    · rw [xm_up_ne (Or.inr (by decide)), h4]
    refine xw_go xb_51 5 (f1 := (107, [.ref 43, .ref (46 + i), .int (xkv (xlt T t p)), .int (-1), .int (-1), .int (-1), .int (-1)], [.int (-1), .int (-1), .int (((-1) * (nI c)) + (-1)), .int (xkv (xlt T t p)), .ref (46 + i)])) (h1 := (xS b, xm_up I 43 2 (nI (xsk T t (xrp T t p 1))), L, xP b)) rfl trivial ?_
    refine xw_call xb_51 rfl rfl rfl rfl rfl (Or.inr ⟨_, _, rfl, s5⟩) (c_become (I := (xm_up I 43 2 (nI (xsk T t (xrp T t p 1))))) s5) ?_
    rintro _ _ ⟨rfl, rfl⟩
    refine xw_at (f' := (110, [.ref 43, .ref (46 + i), .int (xkv (xlt T t p)), .int (-1), .int (-1), .int (-1), .int (-1)], [])) (h' := (xS b, xm_up (xm_up (xm_up (xm_up (xm_up I 43 2 (nI (xsk T t (xrp T t p 1)))) (46 + i) 0 (xkv (xlt T t p))) (46 + i) 1 (((-1) * (nI c)) + (-1))) (46 + i) 2 (-1)) (46 + i) 3 (-1), L, xP b)) rfl rfl ?_
    refine xw_go xb_51 3 (f1 := (120, [.ref 43, .ref (46 + i), .int (xkv (xlt T t p)), .int (-1), .int (-1), .int (-1), .int (-1)], [.int 0])) (h1 := (xS b, xm_up (xm_up (xm_up (xm_up (xm_up I 43 2 (nI (xsk T t (xrp T t p 1)))) (46 + i) 0 (xkv (xlt T t p))) (46 + i) 1 (((-1) * (nI c)) + (-1))) (46 + i) 2 (-1)) (46 + i) 3 (-1), L, xP b)) rfl trivial ?_
    refine xw_ret xb_51 rfl rfl ?_ ?_
    · first | exact Or.inl rfl | exact Or.inr rfl
    refine ⟨rfl, _, rfl, fun a h1 h2 => ?_, ?_⟩
    · rw [xm_up_o h2, xm_up_o h2, xm_up_o h2, xm_up_o h2, xm_up_o h1]
    · rw [xm_up_o (by omega), xm_up_o (by omega), xm_up_o (by omega), xm_up_o (by omega), xm_up_at]
  · skip
    exact absurd (xkv_ge.mpr f0) c_9

theorem c_spr2 {d : Nat} {b : Bool} {I : Nat → Nat → Int32} {L : Nat → Nat → Int64} {T : Nat → Nat} {t : Nat} (hR : xRT T t I) {R c p i : Nat} (h3 : I 43 3 = nI R) (h4 : I 43 4 = nI c) (h2 : I 43 2 = nI p) (hp : p ≤ t) (bR : 2 ≤ R ∧ R ≤ 8) (bc : 2 ≤ c ∧ c ≤ 8) (hi : i < 5) (rl : ∀ k, k ≤ 2 → xrp T t p k ≤ t) (f0 : xkc (xlt T t p) < 5) (f1 : 48 ≤ (xlt T t (xrp T t p 1)) ∧ (xlt T t (xrp T t p 1)) < 48 + R) (f2 : ¬ (48 ≤ (xlt T t (xrp T t p 2)) ∧ (xlt T t (xrp T t p 2)) < 48 + c)) : xm_Z (d + 3) 51 [.ref 43, .ref (46 + i)] (xS b, I, L, xP b) (fun rz hz => rz = some (.int 0) ∧ ∃ I', hz = (xS b, I', L, xP b) ∧ (∀ a, a ≠ 43 → a ≠ 46 + i → I' a = I a) ∧ I' 43 2 = nI (xsk T t (xrp T t p 2))) := by
  have s5 : (xS b)[46 + i]? = some (11, 4) := xS_46 hi
  have t126 : ∀ j, xlt T t (xrp T t p j) ≤ 126 := fun j => xlt_le hR.2.1
  have t1 := t126 1
  have t2 := t126 2
  have t3 := t126 3
  have t4 := t126 4
  refine xw_S xb_51 (l := [.ref 43, .ref (46 + i), .float 0, .float 0, .float 0, .float 0, .float 0]) (Nat.le_of_ble_eq_true rfl) rfl ?_
  refine xw_go xb_51 1 (f1 := (1, [.ref 43, .ref (46 + i), .float 0, .float 0, .float 0, .float 0, .float 0], [.ref 43])) (h1 := (xS b, I, L, xP b)) rfl trivial ?_
  refine xw_call xb_51 rfl rfl rfl rfl rfl (Or.inr ⟨_, _, rfl, rfl⟩) (c_letter (I := I) (a := p) hR h2 hp) ?_
  rintro _ _ ⟨rfl, rfl⟩
  refine xw_at (f' := (4, [.ref 43, .ref (46 + i), .float 0, .float 0, .float 0, .float 0, .float 0], [.int (xlC T t p)])) (h' := (xS b, xm_up I 43 2 (nI (xsk T t p)), L, xP b)) rfl rfl ?_
  refine xw_call xb_51 rfl rfl rfl rfl rfl (Or.inl rfl) (c_kindOf (a := p) hR.2.1 rfl) ?_
  rintro _ _ ⟨rfl, rfl⟩
  refine xw_at (f' := (7, [.ref 43, .ref (46 + i), .float 0, .float 0, .float 0, .float 0, .float 0], [.int (xkv (xlt T t p))])) (h' := (xS b, xm_up I 43 2 (nI (xsk T t p)), L, xP b)) rfl rfl ?_
  refine xw_go xb_51 3 (f1 := (if 0 ≤ (xkv (xlt T t p)) then 14 else 12, [.ref 43, .ref (46 + i), .int (xkv (xlt T t p)), .float 0, .float 0, .float 0, .float 0], [])) (h1 := (xS b, xm_up I 43 2 (nI (xsk T t p)), L, xP b)) rfl trivial ?_
  refine xw_if (fun c_9 => ?_) (fun c_9 => ?_)
  · skip
    refine xw_go xb_51 6 (f1 := (24, [.ref 43, .ref (46 + i), .int (xkv (xlt T t p)), .float 0, .float 0, .float 0, .float 0], [])) (h1 := (xS b, xm_up (xm_up I 43 2 (nI (xsk T t p))) 43 2 (((xm_up I 43 2 (nI (xsk T t p))) 43 2) + 1), L, xP b)) rfl ⟨rfl, rfl, trivial⟩ ?_
    refine xw_at (f' := (24, [.ref 43, .ref (46 + i), .int (xkv (xlt T t p)), .float 0, .float 0, .float 0, .float 0], [])) (h' := (xS b, xm_up I 43 2 (nI (xrp T t p 1)), L, xP b)) rfl (show (xS b, xm_up (xm_up I 43 2 (nI (xsk T t p))) 43 2 (((xm_up I 43 2 (nI (xsk T t p))) 43 2) + 1), L, xP b) = (xS b, xm_up I 43 2 (nI (xrp T t p 1)), L, xP b) from ?_) ?_
    · rw [xm_up_at, nI_1, xup_2]
      rfl
    refine xw_go xb_51 6 (f1 := (32, [.ref 43, .ref (46 + i), .int (xkv (xlt T t p)), .float 0, .float 0, .float 0, .float 0], [.int (((xm_up I 43 2 (nI (xrp T t p 1))) 43 3) - 1), .int 0, .ref 43])) (h1 := (xS b, xm_up I 43 2 (nI (xrp T t p 1)), L, xP b)) rfl ⟨rfl, trivial⟩ ?_
    refine xw_cong (l' := [.ref 43, .ref (46 + i), .int (xkv (xlt T t p)), .float 0, .float 0, .float 0, .float 0]) (st' := [.int (nI (R - 1)), .int 0, .ref 43]) (h' := (xS b, xm_up I 43 2 (nI (xrp T t p 1)), L, xP b)) rfl (show ([.int (((xm_up I 43 2 (nI (xrp T t p 1))) 43 3) - 1), .int 0, .ref 43] : List Value) = [.int (nI (R - 1)), .int 0, .ref 43] from ?_) rfl ?_
    · rw [xm_up_ne (Or.inr (by decide)), h3, xl_1, xn_sub (by omega)]
    refine xw_call xb_51 rfl rfl rfl rfl rfl (Or.inr ⟨_, _, rfl, rfl⟩) (c_digit1 (I := (xm_up I 43 2 (nI (xrp T t p 1)))) (a := (xrp T t p 1)) (lo := 0) (hi := (R - 1)) (xRT_fr hR (by rw [xm_up_ne (Or.inr (by decide))]) (by rw [xm_up_o (by decide)])) (xm_up_at _ _ _ _) (rl 1 (by decide)) (by omega) (by omega) (by omega) rfl rfl) ?_
    rintro _ _ ⟨rfl, rfl⟩
    rw [xup_2]
    refine xw_at (f' := (35, [.ref 43, .ref (46 + i), .int (xkv (xlt T t p)), .float 0, .float 0, .float 0, .float 0], [.int (nI (xlt T t (xrp T t p 1) - 48))])) (h' := (xS b, xm_up I 43 2 (nI (xrp T t p 2)), L, xP b)) rfl rfl ?_
    refine xw_go xb_51 3 (f1 := (if 0 ≤ (nI (xlt T t (xrp T t p 1) - 48)) then 44 else 40, [.ref 43, .ref (46 + i), .int (xkv (xlt T t p)), .int (nI (xlt T t (xrp T t p 1) - 48)), .float 0, .float 0, .float 0], [])) (h1 := (xS b, xm_up I 43 2 (nI (xrp T t p 2)), L, xP b)) rfl trivial ?_
    refine xw_if (fun c_37 => ?_) (fun c_37 => ?_)
    · skip
      refine xw_go xb_51 6 (f1 := (52, [.ref 43, .ref (46 + i), .int (xkv (xlt T t p)), .int (nI (xlt T t (xrp T t p 1) - 48)), .float 0, .float 0, .float 0], [.int (((xm_up I 43 2 (nI (xrp T t p 2))) 43 4) - 1), .int 0, .ref 43])) (h1 := (xS b, xm_up I 43 2 (nI (xrp T t p 2)), L, xP b)) rfl ⟨rfl, trivial⟩ ?_
      refine xw_cong (l' := [.ref 43, .ref (46 + i), .int (xkv (xlt T t p)), .int (nI (xlt T t (xrp T t p 1) - 48)), .float 0, .float 0, .float 0]) (st' := [.int (nI (c - 1)), .int 0, .ref 43]) (h' := (xS b, xm_up I 43 2 (nI (xrp T t p 2)), L, xP b)) rfl (show ([.int (((xm_up I 43 2 (nI (xrp T t p 2))) 43 4) - 1), .int 0, .ref 43] : List Value) = [.int (nI (c - 1)), .int 0, .ref 43] from ?_) rfl ?_
      · rw [xm_up_ne (Or.inr (by decide)), h4, xl_1, xn_sub (by omega)]
      refine xw_call xb_51 rfl rfl rfl rfl rfl (Or.inr ⟨_, _, rfl, rfl⟩) (c_digit0 (I := (xm_up I 43 2 (nI (xrp T t p 2)))) (a := (xrp T t p 2)) (lo := 0) (hi := (c - 1)) (xRT_fr hR (by rw [xm_up_ne (Or.inr (by decide))]) (by rw [xm_up_o (by decide)])) (xm_up_at _ _ _ _) (rl 2 (by decide)) (by omega) (by omega) (by omega) rfl rfl) ?_
      rintro _ _ ⟨rfl, rfl⟩
      rw [xup_2]
      refine xw_at (f' := (55, [.ref 43, .ref (46 + i), .int (xkv (xlt T t p)), .int (nI (xlt T t (xrp T t p 1) - 48)), .float 0, .float 0, .float 0], [.int (-1)])) (h' := (xS b, xm_up I 43 2 (nI (xsk T t (xrp T t p 2))), L, xP b)) rfl rfl ?_
      refine xw_go xb_51 16 (f1 := (99, [.ref 43, .ref (46 + i), .int (xkv (xlt T t p)), .int (nI (xlt T t (xrp T t p 1) - 48)), .int (-1), .int (-1), .int (-1)], [.int ((xm_up I 43 2 (nI (xsk T t (xrp T t p 2)))) 43 4), .int (nI (xlt T t (xrp T t p 1) - 48)), .int (xkv (xlt T t p)), .ref (46 + i)])) (h1 := (xS b, xm_up I 43 2 (nI (xsk T t (xrp T t p 2))), L, xP b)) rfl ⟨rfl, trivial⟩ ?_
      refine xw_cong (l' := [.ref 43, .ref (46 + i), .int (xkv (xlt T t p)), .int (nI (xlt T t (xrp T t p 1) - 48)), .int (-1), .int (-1), .int (-1)]) (st' := [.int (nI c), .int (nI (xlt T t (xrp T t p 1) - 48)), .int (xkv (xlt T t p)), .ref (46 + i)]) (h' := (xS b, xm_up I 43 2 (nI (xsk T t (xrp T t p 2))), L, xP b)) rfl (show ([.int ((xm_up I 43 2 (nI (xsk T t (xrp T t p 2)))) 43 4), .int (nI (xlt T t (xrp T t p 1) - 48)), .int (xkv (xlt T t p)), .ref (46 + i)] : List Value) = [.int (nI c), .int (nI (xlt T t (xrp T t p 1) - 48)), .int (xkv (xlt T t p)), .ref (46 + i)] from ?_) rfl ?_
      · rw [xm_up_ne (Or.inr (by decide)), h4]
      refine xw_go xb_51 5 (f1 := (107, [.ref 43, .ref (46 + i), .int (xkv (xlt T t p)), .int (nI (xlt T t (xrp T t p 1) - 48)), .int (-1), .int (-1), .int (-1)], [.int (-1), .int (-1), .int (((nI (xlt T t (xrp T t p 1) - 48)) * (nI c)) + (-1)), .int (xkv (xlt T t p)), .ref (46 + i)])) (h1 := (xS b, xm_up I 43 2 (nI (xsk T t (xrp T t p 2))), L, xP b)) rfl trivial ?_
      refine xw_call xb_51 rfl rfl rfl rfl rfl (Or.inr ⟨_, _, rfl, s5⟩) (c_become (I := (xm_up I 43 2 (nI (xsk T t (xrp T t p 2))))) s5) ?_
      rintro _ _ ⟨rfl, rfl⟩
      refine xw_at (f' := (110, [.ref 43, .ref (46 + i), .int (xkv (xlt T t p)), .int (nI (xlt T t (xrp T t p 1) - 48)), .int (-1), .int (-1), .int (-1)], [])) (h' := (xS b, xm_up (xm_up (xm_up (xm_up (xm_up I 43 2 (nI (xsk T t (xrp T t p 2)))) (46 + i) 0 (xkv (xlt T t p))) (46 + i) 1 (((nI (xlt T t (xrp T t p 1) - 48)) * (nI c)) + (-1))) (46 + i) 2 (-1)) (46 + i) 3 (-1), L, xP b)) rfl rfl ?_
      refine xw_go xb_51 3 (f1 := (120, [.ref 43, .ref (46 + i), .int (xkv (xlt T t p)), .int (nI (xlt T t (xrp T t p 1) - 48)), .int (-1), .int (-1), .int (-1)], [.int 0])) (h1 := (xS b, xm_up (xm_up (xm_up (xm_up (xm_up I 43 2 (nI (xsk T t (xrp T t p 2)))) (46 + i) 0 (xkv (xlt T t p))) (46 + i) 1 (((nI (xlt T t (xrp T t p 1) - 48)) * (nI c)) + (-1))) (46 + i) 2 (-1)) (46 + i) 3 (-1), L, xP b)) rfl trivial ?_
      refine xw_ret xb_51 rfl rfl ?_ ?_
      · first | exact Or.inl rfl | exact Or.inr rfl
      refine ⟨rfl, _, rfl, fun a h1 h2 => ?_, ?_⟩
      · rw [xm_up_o h2, xm_up_o h2, xm_up_o h2, xm_up_o h2, xm_up_o h1]
      · rw [xm_up_o (by omega), xm_up_o (by omega), xm_up_o (by omega), xm_up_o (by omega), xm_up_at]
    · skip
      exfalso
      rw [xl_0, nI_leI (by omega) (by omega)] at c_37
      omega
  · skip
    exact absurd (xkv_ge.mpr f0) c_9

theorem c_spr3 {d : Nat} {b : Bool} {I : Nat → Nat → Int32} {L : Nat → Nat → Int64} {T : Nat → Nat} {t : Nat} (hR : xRT T t I) {R c p i : Nat} (h3 : I 43 3 = nI R) (h4 : I 43 4 = nI c) (h2 : I 43 2 = nI p) (hp : p ≤ t) (bR : 2 ≤ R ∧ R ≤ 8) (bc : 2 ≤ c ∧ c ≤ 8) (hi : i < 5) (rl : ∀ k, k ≤ 3 → xrp T t p k ≤ t) (f0 : xkc (xlt T t p) < 5) (f1 : 48 ≤ (xlt T t (xrp T t p 1)) ∧ (xlt T t (xrp T t p 1)) < 48 + R) (f2 : 48 ≤ (xlt T t (xrp T t p 2)) ∧ (xlt T t (xrp T t p 2)) < 48 + c) (f3 : ¬ (48 ≤ (xlt T t (xrp T t p 3)) ∧ (xlt T t (xrp T t p 3)) < 53)) : xm_Z (d + 3) 51 [.ref 43, .ref (46 + i)] (xS b, I, L, xP b) (fun rz hz => rz = some (.int 0) ∧ ∃ I', hz = (xS b, I', L, xP b) ∧ (∀ a, a ≠ 43 → a ≠ 46 + i → I' a = I a) ∧ I' 43 2 = nI (xsk T t (xrp T t p 3))) := by
  have s5 : (xS b)[46 + i]? = some (11, 4) := xS_46 hi
  have t126 : ∀ j, xlt T t (xrp T t p j) ≤ 126 := fun j => xlt_le hR.2.1
  have t1 := t126 1
  have t2 := t126 2
  have t3 := t126 3
  have t4 := t126 4
  refine xw_S xb_51 (l := [.ref 43, .ref (46 + i), .float 0, .float 0, .float 0, .float 0, .float 0]) (Nat.le_of_ble_eq_true rfl) rfl ?_
  refine xw_go xb_51 1 (f1 := (1, [.ref 43, .ref (46 + i), .float 0, .float 0, .float 0, .float 0, .float 0], [.ref 43])) (h1 := (xS b, I, L, xP b)) rfl trivial ?_
  refine xw_call xb_51 rfl rfl rfl rfl rfl (Or.inr ⟨_, _, rfl, rfl⟩) (c_letter (I := I) (a := p) hR h2 hp) ?_
  rintro _ _ ⟨rfl, rfl⟩
  refine xw_at (f' := (4, [.ref 43, .ref (46 + i), .float 0, .float 0, .float 0, .float 0, .float 0], [.int (xlC T t p)])) (h' := (xS b, xm_up I 43 2 (nI (xsk T t p)), L, xP b)) rfl rfl ?_
  refine xw_call xb_51 rfl rfl rfl rfl rfl (Or.inl rfl) (c_kindOf (a := p) hR.2.1 rfl) ?_
  rintro _ _ ⟨rfl, rfl⟩
  refine xw_at (f' := (7, [.ref 43, .ref (46 + i), .float 0, .float 0, .float 0, .float 0, .float 0], [.int (xkv (xlt T t p))])) (h' := (xS b, xm_up I 43 2 (nI (xsk T t p)), L, xP b)) rfl rfl ?_
  refine xw_go xb_51 3 (f1 := (if 0 ≤ (xkv (xlt T t p)) then 14 else 12, [.ref 43, .ref (46 + i), .int (xkv (xlt T t p)), .float 0, .float 0, .float 0, .float 0], [])) (h1 := (xS b, xm_up I 43 2 (nI (xsk T t p)), L, xP b)) rfl trivial ?_
  refine xw_if (fun c_9 => ?_) (fun c_9 => ?_)
  · skip
    refine xw_go xb_51 6 (f1 := (24, [.ref 43, .ref (46 + i), .int (xkv (xlt T t p)), .float 0, .float 0, .float 0, .float 0], [])) (h1 := (xS b, xm_up (xm_up I 43 2 (nI (xsk T t p))) 43 2 (((xm_up I 43 2 (nI (xsk T t p))) 43 2) + 1), L, xP b)) rfl ⟨rfl, rfl, trivial⟩ ?_
    refine xw_at (f' := (24, [.ref 43, .ref (46 + i), .int (xkv (xlt T t p)), .float 0, .float 0, .float 0, .float 0], [])) (h' := (xS b, xm_up I 43 2 (nI (xrp T t p 1)), L, xP b)) rfl (show (xS b, xm_up (xm_up I 43 2 (nI (xsk T t p))) 43 2 (((xm_up I 43 2 (nI (xsk T t p))) 43 2) + 1), L, xP b) = (xS b, xm_up I 43 2 (nI (xrp T t p 1)), L, xP b) from ?_) ?_
    · rw [xm_up_at, nI_1, xup_2]
      rfl
    refine xw_go xb_51 6 (f1 := (32, [.ref 43, .ref (46 + i), .int (xkv (xlt T t p)), .float 0, .float 0, .float 0, .float 0], [.int (((xm_up I 43 2 (nI (xrp T t p 1))) 43 3) - 1), .int 0, .ref 43])) (h1 := (xS b, xm_up I 43 2 (nI (xrp T t p 1)), L, xP b)) rfl ⟨rfl, trivial⟩ ?_
    refine xw_cong (l' := [.ref 43, .ref (46 + i), .int (xkv (xlt T t p)), .float 0, .float 0, .float 0, .float 0]) (st' := [.int (nI (R - 1)), .int 0, .ref 43]) (h' := (xS b, xm_up I 43 2 (nI (xrp T t p 1)), L, xP b)) rfl (show ([.int (((xm_up I 43 2 (nI (xrp T t p 1))) 43 3) - 1), .int 0, .ref 43] : List Value) = [.int (nI (R - 1)), .int 0, .ref 43] from ?_) rfl ?_
    · rw [xm_up_ne (Or.inr (by decide)), h3, xl_1, xn_sub (by omega)]
    refine xw_call xb_51 rfl rfl rfl rfl rfl (Or.inr ⟨_, _, rfl, rfl⟩) (c_digit1 (I := (xm_up I 43 2 (nI (xrp T t p 1)))) (a := (xrp T t p 1)) (lo := 0) (hi := (R - 1)) (xRT_fr hR (by rw [xm_up_ne (Or.inr (by decide))]) (by rw [xm_up_o (by decide)])) (xm_up_at _ _ _ _) (rl 1 (by decide)) (by omega) (by omega) (by omega) rfl rfl) ?_
    rintro _ _ ⟨rfl, rfl⟩
    rw [xup_2]
    refine xw_at (f' := (35, [.ref 43, .ref (46 + i), .int (xkv (xlt T t p)), .float 0, .float 0, .float 0, .float 0], [.int (nI (xlt T t (xrp T t p 1) - 48))])) (h' := (xS b, xm_up I 43 2 (nI (xrp T t p 2)), L, xP b)) rfl rfl ?_
    refine xw_go xb_51 3 (f1 := (if 0 ≤ (nI (xlt T t (xrp T t p 1) - 48)) then 44 else 40, [.ref 43, .ref (46 + i), .int (xkv (xlt T t p)), .int (nI (xlt T t (xrp T t p 1) - 48)), .float 0, .float 0, .float 0], [])) (h1 := (xS b, xm_up I 43 2 (nI (xrp T t p 2)), L, xP b)) rfl trivial ?_
    refine xw_if (fun c_37 => ?_) (fun c_37 => ?_)
    · skip
      refine xw_go xb_51 6 (f1 := (52, [.ref 43, .ref (46 + i), .int (xkv (xlt T t p)), .int (nI (xlt T t (xrp T t p 1) - 48)), .float 0, .float 0, .float 0], [.int (((xm_up I 43 2 (nI (xrp T t p 2))) 43 4) - 1), .int 0, .ref 43])) (h1 := (xS b, xm_up I 43 2 (nI (xrp T t p 2)), L, xP b)) rfl ⟨rfl, trivial⟩ ?_
      refine xw_cong (l' := [.ref 43, .ref (46 + i), .int (xkv (xlt T t p)), .int (nI (xlt T t (xrp T t p 1) - 48)), .float 0, .float 0, .float 0]) (st' := [.int (nI (c - 1)), .int 0, .ref 43]) (h' := (xS b, xm_up I 43 2 (nI (xrp T t p 2)), L, xP b)) rfl (show ([.int (((xm_up I 43 2 (nI (xrp T t p 2))) 43 4) - 1), .int 0, .ref 43] : List Value) = [.int (nI (c - 1)), .int 0, .ref 43] from ?_) rfl ?_
      · rw [xm_up_ne (Or.inr (by decide)), h4, xl_1, xn_sub (by omega)]
      refine xw_call xb_51 rfl rfl rfl rfl rfl (Or.inr ⟨_, _, rfl, rfl⟩) (c_digit1 (I := (xm_up I 43 2 (nI (xrp T t p 2)))) (a := (xrp T t p 2)) (lo := 0) (hi := (c - 1)) (xRT_fr hR (by rw [xm_up_ne (Or.inr (by decide))]) (by rw [xm_up_o (by decide)])) (xm_up_at _ _ _ _) (rl 2 (by decide)) (by omega) (by omega) (by omega) rfl rfl) ?_
      rintro _ _ ⟨rfl, rfl⟩
      rw [xup_2]
      refine xw_at (f' := (55, [.ref 43, .ref (46 + i), .int (xkv (xlt T t p)), .int (nI (xlt T t (xrp T t p 1) - 48)), .float 0, .float 0, .float 0], [.int (nI (xlt T t (xrp T t p 2) - 48))])) (h' := (xS b, xm_up I 43 2 (nI (xrp T t p 3)), L, xP b)) rfl rfl ?_
      refine xw_go xb_51 3 (f1 := (if 0 ≤ (nI (xlt T t (xrp T t p 2) - 48)) then 66 else 62, [.ref 43, .ref (46 + i), .int (xkv (xlt T t p)), .int (nI (xlt T t (xrp T t p 1) - 48)), .int (nI (xlt T t (xrp T t p 2) - 48)), .float 0, .float 0], [])) (h1 := (xS b, xm_up I 43 2 (nI (xrp T t p 3)), L, xP b)) rfl trivial ?_
      refine xw_if (fun c_59 => ?_) (fun c_59 => ?_)
      · skip
        refine xw_go xb_51 3 (f1 := (69, [.ref 43, .ref (46 + i), .int (xkv (xlt T t p)), .int (nI (xlt T t (xrp T t p 1) - 48)), .int (nI (xlt T t (xrp T t p 2) - 48)), .float 0, .float 0], [.int 4, .int 0, .ref 43])) (h1 := (xS b, xm_up I 43 2 (nI (xrp T t p 3)), L, xP b)) rfl trivial ?_
        refine xw_call xb_51 rfl rfl rfl rfl rfl (Or.inr ⟨_, _, rfl, rfl⟩) (c_digit0 (I := (xm_up I 43 2 (nI (xrp T t p 3)))) (a := (xrp T t p 3)) (lo := 0) (hi := 4) (xRT_fr hR (by rw [xm_up_ne (Or.inr (by decide))]) (by rw [xm_up_o (by decide)])) (xm_up_at _ _ _ _) (rl 3 (by decide)) (by omega) (by omega) (by omega) rfl rfl) ?_
        rintro _ _ ⟨rfl, rfl⟩
        rw [xup_2]
        refine xw_at (f' := (72, [.ref 43, .ref (46 + i), .int (xkv (xlt T t p)), .int (nI (xlt T t (xrp T t p 1) - 48)), .int (nI (xlt T t (xrp T t p 2) - 48)), .float 0, .float 0], [.int (-1)])) (h' := (xS b, xm_up I 43 2 (nI (xsk T t (xrp T t p 3))), L, xP b)) rfl rfl ?_
        refine xw_go xb_51 11 (f1 := (99, [.ref 43, .ref (46 + i), .int (xkv (xlt T t p)), .int (nI (xlt T t (xrp T t p 1) - 48)), .int (nI (xlt T t (xrp T t p 2) - 48)), .int (-1), .int (-1)], [.int ((xm_up I 43 2 (nI (xsk T t (xrp T t p 3)))) 43 4), .int (nI (xlt T t (xrp T t p 1) - 48)), .int (xkv (xlt T t p)), .ref (46 + i)])) (h1 := (xS b, xm_up I 43 2 (nI (xsk T t (xrp T t p 3))), L, xP b)) rfl ⟨rfl, trivial⟩ ?_
        refine xw_cong (l' := [.ref 43, .ref (46 + i), .int (xkv (xlt T t p)), .int (nI (xlt T t (xrp T t p 1) - 48)), .int (nI (xlt T t (xrp T t p 2) - 48)), .int (-1), .int (-1)]) (st' := [.int (nI c), .int (nI (xlt T t (xrp T t p 1) - 48)), .int (xkv (xlt T t p)), .ref (46 + i)]) (h' := (xS b, xm_up I 43 2 (nI (xsk T t (xrp T t p 3))), L, xP b)) rfl (show ([.int ((xm_up I 43 2 (nI (xsk T t (xrp T t p 3)))) 43 4), .int (nI (xlt T t (xrp T t p 1) - 48)), .int (xkv (xlt T t p)), .ref (46 + i)] : List Value) = [.int (nI c), .int (nI (xlt T t (xrp T t p 1) - 48)), .int (xkv (xlt T t p)), .ref (46 + i)] from ?_) rfl ?_
        · rw [xm_up_ne (Or.inr (by decide)), h4]
        refine xw_go xb_51 5 (f1 := (107, [.ref 43, .ref (46 + i), .int (xkv (xlt T t p)), .int (nI (xlt T t (xrp T t p 1) - 48)), .int (nI (xlt T t (xrp T t p 2) - 48)), .int (-1), .int (-1)], [.int (-1), .int (-1), .int (((nI (xlt T t (xrp T t p 1) - 48)) * (nI c)) + (nI (xlt T t (xrp T t p 2) - 48))), .int (xkv (xlt T t p)), .ref (46 + i)])) (h1 := (xS b, xm_up I 43 2 (nI (xsk T t (xrp T t p 3))), L, xP b)) rfl trivial ?_
        refine xw_call xb_51 rfl rfl rfl rfl rfl (Or.inr ⟨_, _, rfl, s5⟩) (c_become (I := (xm_up I 43 2 (nI (xsk T t (xrp T t p 3))))) s5) ?_
        rintro _ _ ⟨rfl, rfl⟩
        refine xw_at (f' := (110, [.ref 43, .ref (46 + i), .int (xkv (xlt T t p)), .int (nI (xlt T t (xrp T t p 1) - 48)), .int (nI (xlt T t (xrp T t p 2) - 48)), .int (-1), .int (-1)], [])) (h' := (xS b, xm_up (xm_up (xm_up (xm_up (xm_up I 43 2 (nI (xsk T t (xrp T t p 3)))) (46 + i) 0 (xkv (xlt T t p))) (46 + i) 1 (((nI (xlt T t (xrp T t p 1) - 48)) * (nI c)) + (nI (xlt T t (xrp T t p 2) - 48)))) (46 + i) 2 (-1)) (46 + i) 3 (-1), L, xP b)) rfl rfl ?_
        refine xw_go xb_51 3 (f1 := (120, [.ref 43, .ref (46 + i), .int (xkv (xlt T t p)), .int (nI (xlt T t (xrp T t p 1) - 48)), .int (nI (xlt T t (xrp T t p 2) - 48)), .int (-1), .int (-1)], [.int 0])) (h1 := (xS b, xm_up (xm_up (xm_up (xm_up (xm_up I 43 2 (nI (xsk T t (xrp T t p 3)))) (46 + i) 0 (xkv (xlt T t p))) (46 + i) 1 (((nI (xlt T t (xrp T t p 1) - 48)) * (nI c)) + (nI (xlt T t (xrp T t p 2) - 48)))) (46 + i) 2 (-1)) (46 + i) 3 (-1), L, xP b)) rfl trivial ?_
        refine xw_ret xb_51 rfl rfl ?_ ?_
        · first | exact Or.inl rfl | exact Or.inr rfl
        refine ⟨rfl, _, rfl, fun a h1 h2 => ?_, ?_⟩
        · rw [xm_up_o h2, xm_up_o h2, xm_up_o h2, xm_up_o h2, xm_up_o h1]
        · rw [xm_up_o (by omega), xm_up_o (by omega), xm_up_o (by omega), xm_up_o (by omega), xm_up_at]
      · skip
        exfalso
        rw [xl_0, nI_leI (by omega) (by omega)] at c_59
        omega
    · skip
      exfalso
      rw [xl_0, nI_leI (by omega) (by omega)] at c_37
      omega
  · skip
    exact absurd (xkv_ge.mpr f0) c_9

theorem c_spr4 {d : Nat} {b : Bool} {I : Nat → Nat → Int32} {L : Nat → Nat → Int64} {T : Nat → Nat} {t : Nat} (hR : xRT T t I) {R c p i : Nat} (h3 : I 43 3 = nI R) (h4 : I 43 4 = nI c) (h2 : I 43 2 = nI p) (hp : p ≤ t) (bR : 2 ≤ R ∧ R ≤ 8) (bc : 2 ≤ c ∧ c ≤ 8) (hi : i < 5) (rl : ∀ k, k ≤ 4 → xrp T t p k ≤ t) (f0 : xkc (xlt T t p) < 5) (f1 : 48 ≤ (xlt T t (xrp T t p 1)) ∧ (xlt T t (xrp T t p 1)) < 48 + R) (f2 : 48 ≤ (xlt T t (xrp T t p 2)) ∧ (xlt T t (xrp T t p 2)) < 48 + c) (f3 : 48 ≤ (xlt T t (xrp T t p 3)) ∧ (xlt T t (xrp T t p 3)) < 53) (f4 : ¬ (49 ≤ (xlt T t (xrp T t p 4)) ∧ (xlt T t (xrp T t p 4)) < 58)) : xm_Z (d + 3) 51 [.ref 43, .ref (46 + i)] (xS b, I, L, xP b) (fun rz hz => rz = some (.int 0) ∧ ∃ I', hz = (xS b, I', L, xP b) ∧ (∀ a, a ≠ 43 → a ≠ 46 + i → I' a = I a) ∧ I' 43 2 = nI (xsk T t (xrp T t p 4))) := by
  have s5 : (xS b)[46 + i]? = some (11, 4) := xS_46 hi
  have t126 : ∀ j, xlt T t (xrp T t p j) ≤ 126 := fun j => xlt_le hR.2.1
  have t1 := t126 1
  have t2 := t126 2
  have t3 := t126 3
  have t4 := t126 4
  refine xw_S xb_51 (l := [.ref 43, .ref (46 + i), .float 0, .float 0, .float 0, .float 0, .float 0]) (Nat.le_of_ble_eq_true rfl) rfl ?_
  refine xw_go xb_51 1 (f1 := (1, [.ref 43, .ref (46 + i), .float 0, .float 0, .float 0, .float 0, .float 0], [.ref 43])) (h1 := (xS b, I, L, xP b)) rfl trivial ?_
  refine xw_call xb_51 rfl rfl rfl rfl rfl (Or.inr ⟨_, _, rfl, rfl⟩) (c_letter (I := I) (a := p) hR h2 hp) ?_
  rintro _ _ ⟨rfl, rfl⟩
  refine xw_at (f' := (4, [.ref 43, .ref (46 + i), .float 0, .float 0, .float 0, .float 0, .float 0], [.int (xlC T t p)])) (h' := (xS b, xm_up I 43 2 (nI (xsk T t p)), L, xP b)) rfl rfl ?_
  refine xw_call xb_51 rfl rfl rfl rfl rfl (Or.inl rfl) (c_kindOf (a := p) hR.2.1 rfl) ?_
  rintro _ _ ⟨rfl, rfl⟩
  refine xw_at (f' := (7, [.ref 43, .ref (46 + i), .float 0, .float 0, .float 0, .float 0, .float 0], [.int (xkv (xlt T t p))])) (h' := (xS b, xm_up I 43 2 (nI (xsk T t p)), L, xP b)) rfl rfl ?_
  refine xw_go xb_51 3 (f1 := (if 0 ≤ (xkv (xlt T t p)) then 14 else 12, [.ref 43, .ref (46 + i), .int (xkv (xlt T t p)), .float 0, .float 0, .float 0, .float 0], [])) (h1 := (xS b, xm_up I 43 2 (nI (xsk T t p)), L, xP b)) rfl trivial ?_
  refine xw_if (fun c_9 => ?_) (fun c_9 => ?_)
  · skip
    refine xw_go xb_51 6 (f1 := (24, [.ref 43, .ref (46 + i), .int (xkv (xlt T t p)), .float 0, .float 0, .float 0, .float 0], [])) (h1 := (xS b, xm_up (xm_up I 43 2 (nI (xsk T t p))) 43 2 (((xm_up I 43 2 (nI (xsk T t p))) 43 2) + 1), L, xP b)) rfl ⟨rfl, rfl, trivial⟩ ?_
    refine xw_at (f' := (24, [.ref 43, .ref (46 + i), .int (xkv (xlt T t p)), .float 0, .float 0, .float 0, .float 0], [])) (h' := (xS b, xm_up I 43 2 (nI (xrp T t p 1)), L, xP b)) rfl (show (xS b, xm_up (xm_up I 43 2 (nI (xsk T t p))) 43 2 (((xm_up I 43 2 (nI (xsk T t p))) 43 2) + 1), L, xP b) = (xS b, xm_up I 43 2 (nI (xrp T t p 1)), L, xP b) from ?_) ?_
    · rw [xm_up_at, nI_1, xup_2]
      rfl
    refine xw_go xb_51 6 (f1 := (32, [.ref 43, .ref (46 + i), .int (xkv (xlt T t p)), .float 0, .float 0, .float 0, .float 0], [.int (((xm_up I 43 2 (nI (xrp T t p 1))) 43 3) - 1), .int 0, .ref 43])) (h1 := (xS b, xm_up I 43 2 (nI (xrp T t p 1)), L, xP b)) rfl ⟨rfl, trivial⟩ ?_
    refine xw_cong (l' := [.ref 43, .ref (46 + i), .int (xkv (xlt T t p)), .float 0, .float 0, .float 0, .float 0]) (st' := [.int (nI (R - 1)), .int 0, .ref 43]) (h' := (xS b, xm_up I 43 2 (nI (xrp T t p 1)), L, xP b)) rfl (show ([.int (((xm_up I 43 2 (nI (xrp T t p 1))) 43 3) - 1), .int 0, .ref 43] : List Value) = [.int (nI (R - 1)), .int 0, .ref 43] from ?_) rfl ?_
    · rw [xm_up_ne (Or.inr (by decide)), h3, xl_1, xn_sub (by omega)]
    refine xw_call xb_51 rfl rfl rfl rfl rfl (Or.inr ⟨_, _, rfl, rfl⟩) (c_digit1 (I := (xm_up I 43 2 (nI (xrp T t p 1)))) (a := (xrp T t p 1)) (lo := 0) (hi := (R - 1)) (xRT_fr hR (by rw [xm_up_ne (Or.inr (by decide))]) (by rw [xm_up_o (by decide)])) (xm_up_at _ _ _ _) (rl 1 (by decide)) (by omega) (by omega) (by omega) rfl rfl) ?_
    rintro _ _ ⟨rfl, rfl⟩
    rw [xup_2]
    refine xw_at (f' := (35, [.ref 43, .ref (46 + i), .int (xkv (xlt T t p)), .float 0, .float 0, .float 0, .float 0], [.int (nI (xlt T t (xrp T t p 1) - 48))])) (h' := (xS b, xm_up I 43 2 (nI (xrp T t p 2)), L, xP b)) rfl rfl ?_
    refine xw_go xb_51 3 (f1 := (if 0 ≤ (nI (xlt T t (xrp T t p 1) - 48)) then 44 else 40, [.ref 43, .ref (46 + i), .int (xkv (xlt T t p)), .int (nI (xlt T t (xrp T t p 1) - 48)), .float 0, .float 0, .float 0], [])) (h1 := (xS b, xm_up I 43 2 (nI (xrp T t p 2)), L, xP b)) rfl trivial ?_
    refine xw_if (fun c_37 => ?_) (fun c_37 => ?_)
    · skip
      refine xw_go xb_51 6 (f1 := (52, [.ref 43, .ref (46 + i), .int (xkv (xlt T t p)), .int (nI (xlt T t (xrp T t p 1) - 48)), .float 0, .float 0, .float 0], [.int (((xm_up I 43 2 (nI (xrp T t p 2))) 43 4) - 1), .int 0, .ref 43])) (h1 := (xS b, xm_up I 43 2 (nI (xrp T t p 2)), L, xP b)) rfl ⟨rfl, trivial⟩ ?_
      refine xw_cong (l' := [.ref 43, .ref (46 + i), .int (xkv (xlt T t p)), .int (nI (xlt T t (xrp T t p 1) - 48)), .float 0, .float 0, .float 0]) (st' := [.int (nI (c - 1)), .int 0, .ref 43]) (h' := (xS b, xm_up I 43 2 (nI (xrp T t p 2)), L, xP b)) rfl (show ([.int (((xm_up I 43 2 (nI (xrp T t p 2))) 43 4) - 1), .int 0, .ref 43] : List Value) = [.int (nI (c - 1)), .int 0, .ref 43] from ?_) rfl ?_
      · rw [xm_up_ne (Or.inr (by decide)), h4, xl_1, xn_sub (by omega)]
      refine xw_call xb_51 rfl rfl rfl rfl rfl (Or.inr ⟨_, _, rfl, rfl⟩) (c_digit1 (I := (xm_up I 43 2 (nI (xrp T t p 2)))) (a := (xrp T t p 2)) (lo := 0) (hi := (c - 1)) (xRT_fr hR (by rw [xm_up_ne (Or.inr (by decide))]) (by rw [xm_up_o (by decide)])) (xm_up_at _ _ _ _) (rl 2 (by decide)) (by omega) (by omega) (by omega) rfl rfl) ?_
      rintro _ _ ⟨rfl, rfl⟩
      rw [xup_2]
      refine xw_at (f' := (55, [.ref 43, .ref (46 + i), .int (xkv (xlt T t p)), .int (nI (xlt T t (xrp T t p 1) - 48)), .float 0, .float 0, .float 0], [.int (nI (xlt T t (xrp T t p 2) - 48))])) (h' := (xS b, xm_up I 43 2 (nI (xrp T t p 3)), L, xP b)) rfl rfl ?_
      refine xw_go xb_51 3 (f1 := (if 0 ≤ (nI (xlt T t (xrp T t p 2) - 48)) then 66 else 62, [.ref 43, .ref (46 + i), .int (xkv (xlt T t p)), .int (nI (xlt T t (xrp T t p 1) - 48)), .int (nI (xlt T t (xrp T t p 2) - 48)), .float 0, .float 0], [])) (h1 := (xS b, xm_up I 43 2 (nI (xrp T t p 3)), L, xP b)) rfl trivial ?_
      refine xw_if (fun c_59 => ?_) (fun c_59 => ?_)
      · skip
        refine xw_go xb_51 3 (f1 := (69, [.ref 43, .ref (46 + i), .int (xkv (xlt T t p)), .int (nI (xlt T t (xrp T t p 1) - 48)), .int (nI (xlt T t (xrp T t p 2) - 48)), .float 0, .float 0], [.int 4, .int 0, .ref 43])) (h1 := (xS b, xm_up I 43 2 (nI (xrp T t p 3)), L, xP b)) rfl trivial ?_
        refine xw_call xb_51 rfl rfl rfl rfl rfl (Or.inr ⟨_, _, rfl, rfl⟩) (c_digit1 (I := (xm_up I 43 2 (nI (xrp T t p 3)))) (a := (xrp T t p 3)) (lo := 0) (hi := 4) (xRT_fr hR (by rw [xm_up_ne (Or.inr (by decide))]) (by rw [xm_up_o (by decide)])) (xm_up_at _ _ _ _) (rl 3 (by decide)) (by omega) (by omega) (by omega) rfl rfl) ?_
        rintro _ _ ⟨rfl, rfl⟩
        rw [xup_2]
        refine xw_at (f' := (72, [.ref 43, .ref (46 + i), .int (xkv (xlt T t p)), .int (nI (xlt T t (xrp T t p 1) - 48)), .int (nI (xlt T t (xrp T t p 2) - 48)), .float 0, .float 0], [.int (nI (xlt T t (xrp T t p 3) - 48))])) (h' := (xS b, xm_up I 43 2 (nI (xrp T t p 4)), L, xP b)) rfl rfl ?_
        refine xw_go xb_51 3 (f1 := (if 0 ≤ (nI (xlt T t (xrp T t p 3) - 48)) then 83 else 79, [.ref 43, .ref (46 + i), .int (xkv (xlt T t p)), .int (nI (xlt T t (xrp T t p 1) - 48)), .int (nI (xlt T t (xrp T t p 2) - 48)), .int (nI (xlt T t (xrp T t p 3) - 48)), .float 0], [])) (h1 := (xS b, xm_up I 43 2 (nI (xrp T t p 4)), L, xP b)) rfl trivial ?_
        refine xw_if (fun c_76 => ?_) (fun c_76 => ?_)
        · skip
          refine xw_go xb_51 3 (f1 := (87, [.ref 43, .ref (46 + i), .int (xkv (xlt T t p)), .int (nI (xlt T t (xrp T t p 1) - 48)), .int (nI (xlt T t (xrp T t p 2) - 48)), .int (nI (xlt T t (xrp T t p 3) - 48)), .float 0], [.int 9, .int 1, .ref 43])) (h1 := (xS b, xm_up I 43 2 (nI (xrp T t p 4)), L, xP b)) rfl trivial ?_
          refine xw_call xb_51 rfl rfl rfl rfl rfl (Or.inr ⟨_, _, rfl, rfl⟩) (c_digit0 (I := (xm_up I 43 2 (nI (xrp T t p 4)))) (a := (xrp T t p 4)) (lo := 1) (hi := 9) (xRT_fr hR (by rw [xm_up_ne (Or.inr (by decide))]) (by rw [xm_up_o (by decide)])) (xm_up_at _ _ _ _) (rl 4 (by decide)) (by omega) (by omega) (by omega) rfl rfl) ?_
          rintro _ _ ⟨rfl, rfl⟩
          rw [xup_2]
          refine xw_at (f' := (90, [.ref 43, .ref (46 + i), .int (xkv (xlt T t p)), .int (nI (xlt T t (xrp T t p 1) - 48)), .int (nI (xlt T t (xrp T t p 2) - 48)), .int (nI (xlt T t (xrp T t p 3) - 48)), .float 0], [.int (-1)])) (h' := (xS b, xm_up I 43 2 (nI (xsk T t (xrp T t p 4))), L, xP b)) rfl rfl ?_
          refine xw_go xb_51 6 (f1 := (99, [.ref 43, .ref (46 + i), .int (xkv (xlt T t p)), .int (nI (xlt T t (xrp T t p 1) - 48)), .int (nI (xlt T t (xrp T t p 2) - 48)), .int (nI (xlt T t (xrp T t p 3) - 48)), .int (-1)], [.int ((xm_up I 43 2 (nI (xsk T t (xrp T t p 4)))) 43 4), .int (nI (xlt T t (xrp T t p 1) - 48)), .int (xkv (xlt T t p)), .ref (46 + i)])) (h1 := (xS b, xm_up I 43 2 (nI (xsk T t (xrp T t p 4))), L, xP b)) rfl ⟨rfl, trivial⟩ ?_
          refine xw_cong (l' := [.ref 43, .ref (46 + i), .int (xkv (xlt T t p)), .int (nI (xlt T t (xrp T t p 1) - 48)), .int (nI (xlt T t (xrp T t p 2) - 48)), .int (nI (xlt T t (xrp T t p 3) - 48)), .int (-1)]) (st' := [.int (nI c), .int (nI (xlt T t (xrp T t p 1) - 48)), .int (xkv (xlt T t p)), .ref (46 + i)]) (h' := (xS b, xm_up I 43 2 (nI (xsk T t (xrp T t p 4))), L, xP b)) rfl (show ([.int ((xm_up I 43 2 (nI (xsk T t (xrp T t p 4)))) 43 4), .int (nI (xlt T t (xrp T t p 1) - 48)), .int (xkv (xlt T t p)), .ref (46 + i)] : List Value) = [.int (nI c), .int (nI (xlt T t (xrp T t p 1) - 48)), .int (xkv (xlt T t p)), .ref (46 + i)] from ?_) rfl ?_
          · rw [xm_up_ne (Or.inr (by decide)), h4]
          refine xw_go xb_51 5 (f1 := (107, [.ref 43, .ref (46 + i), .int (xkv (xlt T t p)), .int (nI (xlt T t (xrp T t p 1) - 48)), .int (nI (xlt T t (xrp T t p 2) - 48)), .int (nI (xlt T t (xrp T t p 3) - 48)), .int (-1)], [.int (-1), .int (nI (xlt T t (xrp T t p 3) - 48)), .int (((nI (xlt T t (xrp T t p 1) - 48)) * (nI c)) + (nI (xlt T t (xrp T t p 2) - 48))), .int (xkv (xlt T t p)), .ref (46 + i)])) (h1 := (xS b, xm_up I 43 2 (nI (xsk T t (xrp T t p 4))), L, xP b)) rfl trivial ?_
          refine xw_call xb_51 rfl rfl rfl rfl rfl (Or.inr ⟨_, _, rfl, s5⟩) (c_become (I := (xm_up I 43 2 (nI (xsk T t (xrp T t p 4))))) s5) ?_
          rintro _ _ ⟨rfl, rfl⟩
          refine xw_at (f' := (110, [.ref 43, .ref (46 + i), .int (xkv (xlt T t p)), .int (nI (xlt T t (xrp T t p 1) - 48)), .int (nI (xlt T t (xrp T t p 2) - 48)), .int (nI (xlt T t (xrp T t p 3) - 48)), .int (-1)], [])) (h' := (xS b, xm_up (xm_up (xm_up (xm_up (xm_up I 43 2 (nI (xsk T t (xrp T t p 4)))) (46 + i) 0 (xkv (xlt T t p))) (46 + i) 1 (((nI (xlt T t (xrp T t p 1) - 48)) * (nI c)) + (nI (xlt T t (xrp T t p 2) - 48)))) (46 + i) 2 (nI (xlt T t (xrp T t p 3) - 48))) (46 + i) 3 (-1), L, xP b)) rfl rfl ?_
          refine xw_go xb_51 3 (f1 := (120, [.ref 43, .ref (46 + i), .int (xkv (xlt T t p)), .int (nI (xlt T t (xrp T t p 1) - 48)), .int (nI (xlt T t (xrp T t p 2) - 48)), .int (nI (xlt T t (xrp T t p 3) - 48)), .int (-1)], [.int 0])) (h1 := (xS b, xm_up (xm_up (xm_up (xm_up (xm_up I 43 2 (nI (xsk T t (xrp T t p 4)))) (46 + i) 0 (xkv (xlt T t p))) (46 + i) 1 (((nI (xlt T t (xrp T t p 1) - 48)) * (nI c)) + (nI (xlt T t (xrp T t p 2) - 48)))) (46 + i) 2 (nI (xlt T t (xrp T t p 3) - 48))) (46 + i) 3 (-1), L, xP b)) rfl trivial ?_
          refine xw_ret xb_51 rfl rfl ?_ ?_
          · first | exact Or.inl rfl | exact Or.inr rfl
          refine ⟨rfl, _, rfl, fun a h1 h2 => ?_, ?_⟩
          · rw [xm_up_o h2, xm_up_o h2, xm_up_o h2, xm_up_o h2, xm_up_o h1]
          · rw [xm_up_o (by omega), xm_up_o (by omega), xm_up_o (by omega), xm_up_o (by omega), xm_up_at]
        · skip
          exfalso
          rw [xl_0, nI_leI (by omega) (by omega)] at c_76
          omega
      · skip
        exfalso
        rw [xl_0, nI_leI (by omega) (by omega)] at c_59
        omega
    · skip
      exfalso
      rw [xl_0, nI_leI (by omega) (by omega)] at c_37
      omega
  · skip
    exact absurd (xkv_ge.mpr f0) c_9

theorem c_sprF {d : Nat} {b : Bool} {I : Nat → Nat → Int32} {L : Nat → Nat → Int64} {T : Nat → Nat} {t : Nat} (hR : xRT T t I) {R c p i m : Nat} (h3 : I 43 3 = nI R) (h4 : I 43 4 = nI c) (h2 : I 43 2 = nI p) (hp : p ≤ t) (bR : 2 ≤ R ∧ R ≤ 8) (bc : 2 ≤ c ∧ c ≤ 8) (hi : i < 5) (hm : m = xld (xf5 T t R c p) 5) (h5 : m < 5) : xm_Z (d + 3) 51 [.ref 43, .ref (46 + i)] (xS b, I, L, xP b) (fun rz hz => rz = some (.int 0) ∧ ∃ I', hz = (xS b, I', L, xP b) ∧ (∀ a, a ≠ 43 → a ≠ 46 + i → I' a = I a) ∧ I' 43 2 = nI (xsk T t (xrp T t p m))) := by
  have ft : ∀ j, j < m → xf5 T t R c p j = true := fun j hj => xld_t 5 j (by rw [← hm]; exact hj)
  have ff : xf5 T t R c p m = false := by rw [hm]; exact xld_f 5 (by rw [← hm]; exact h5)
  have rl : ∀ k, k ≤ m → xrp T t p k ≤ t := xr5_le hp ft
  clear hm
  match m, h5 with
  | 0, _ => exact c_spr0 hR h3 h4 h2 hp bR bc hi rl (of_decide_eq_false (show decide (xkc (xlt T t (xrp T t p 0)) < 5) = false from ff))
  | 1, _ => exact c_spr1 hR h3 h4 h2 hp bR bc hi rl (of_decide_eq_true (ft 0 (by decide))) (of_decide_eq_false ff)
  | 2, _ => exact c_spr2 hR h3 h4 h2 hp bR bc hi rl (of_decide_eq_true (ft 0 (by decide))) (of_decide_eq_true (ft 1 (by decide))) (of_decide_eq_false ff)
  | 3, _ => exact c_spr3 hR h3 h4 h2 hp bR bc hi rl (of_decide_eq_true (ft 0 (by decide))) (of_decide_eq_true (ft 1 (by decide))) (of_decide_eq_true (ft 2 (by decide))) (of_decide_eq_false ff)
  | 4, _ => exact c_spr4 hR h3 h4 h2 hp bR bc hi rl (of_decide_eq_true (ft 0 (by decide))) (of_decide_eq_true (ft 1 (by decide))) (of_decide_eq_true (ft 2 (by decide))) (of_decide_eq_true (ft 3 (by decide))) (of_decide_eq_false ff)
theorem c_sprT {d : Nat} {b : Bool} {I : Nat → Nat → Int32} {L : Nat → Nat → Int64} {T : Nat → Nat} {t : Nat} (hR : xRT T t I) {R c p0 i : Nat} (h3 : I 43 3 = nI R) (h4 : I 43 4 = nI c) (h2 : I 43 2 = nI (xsp T t p0 i)) (hp : xsp T t p0 i ≤ t) (bR : 2 ≤ R ∧ R ≤ 8) (bc : 2 ≤ c ∧ c ≤ 8) (hi : i < 5) (hm : xsm T t R c p0 i = 5) : xm_Z (d + 3) 51 [.ref 43, .ref (46 + i)] (xS b, I, L, xP b) (fun rz hz => rz = some (.int 1) ∧ ∃ I', hz = (xS b, I', L, xP b) ∧ (∀ a, a ≠ 43 → a ≠ 46 + i → I' a = I a) ∧ (∀ k, k ≠ 2 → I' 43 k = I 43 k) ∧ I' 43 2 = nI (xrp T t (xsp T t p0 i) 5) ∧ ∀ f, f < 4 → I' (46 + i) f = nI (xzd T t c p0 i f)) := by
  have ft : ∀ j, j < 5 → xf5 T t R c (xsp T t p0 i) j = true := fun j hj => xld_t 5 j (by unfold xsm at hm; rw [hm]; exact hj)
  have rl : ∀ k, k ≤ 5 → xrp T t (xsp T t p0 i) k ≤ t := xr5_le hp ft
  refine xw_Z (c_spr5 hR h3 h4 h2 hp bR bc hi rl (of_decide_eq_true (ft 0 (by decide))) (of_decide_eq_true (ft 1 (by decide))) (of_decide_eq_true (ft 2 (by decide))) (of_decide_eq_true (ft 3 (by decide))) (of_decide_eq_true (ft 4 (by decide)))) ?_
  rintro _ _ ⟨rfl, K, rfl, k1, k2, k3, k4, k5, k6, k7⟩
  refine ⟨rfl, K, rfl, k1, k2, k3, fun f hf => ?_⟩
  match f, hf with
  | 0, _ => exact k4
  | 1, _ => exact k5
  | 2, _ => exact k6
  | 3, _ => exact k7
