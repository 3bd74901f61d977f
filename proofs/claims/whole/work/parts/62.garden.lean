/-! ===== garden of the class ===== -/
/-- a garden: its soil, then its sprinklers one by one -/
def xgs (N : Nat → Nat) (R c : Nat) (so : Nat → Nat) : Nat → Nat := fun k => if 31 ≤ k ∧ k < 31 + R * c then so (k - 31) else xnw N R c k
def xga (N0 : Nat → Nat) (D : Nat → Nat → Nat) : Nat → Nat → Nat
  | 0 => N0
  | i + 1 => xadd (xga N0 D i) (D i 0) (D i 1) (D i 2) (D i 3)
theorem xgs_lo {N : Nat → Nat} {R c k : Nat} {so : Nat → Nat} (h : k < 31) : xgs N R c so k = xnw N R c k := by
  unfold xgs
  rw [if_neg (by omega)]
theorem xga_2 {N0 : Nat → Nat} {D : Nat → Nat → Nat} : ∀ i, xga N0 D i 2 = N0 2 + i
  | 0 => rfl
  | i + 1 => by
    show xga N0 D i 2 + 1 = _
    rw [xga_2 i]
    rfl
theorem xga_k {N0 : Nat → Nat} {D : Nat → Nat → Nat} {k : Nat} (h2 : k ≠ 2) (h : k < 11) : ∀ i, xga N0 D i k = N0 k
  | 0 => rfl
  | i + 1 => by
    show xadd (xga N0 D i) (D i 0) (D i 1) (D i 2) (D i 3) k = _
    rw [xadd_o h2 (Or.inl (by omega)), xga_k h2 h i]
theorem xgs_ok {N : Nat → Nat} {R c : Nat} {so : Nat → Nat} (hO : xOK N) (hr : 2 ≤ R ∧ R ≤ 8) (hc : 2 ≤ c ∧ c ≤ 8) (hs : ∀ i, i < R * c → so i < 3) : xOK (xgs N R c so) := by
  have h64 : R * c ≤ 64 := xmul64 hr.2 hc.2
  have h0 := xnw_ok hO hr hc
  refine ⟨?_, fun k hk => ?_, fun k hk => ?_, fun i hi => ?_⟩
  · simp only [xgs_lo (show 0 < 31 by decide), xgs_lo (show 1 < 31 by decide), xgs_lo (show 2 < 31 by decide), xgs_lo (show 3 < 31 by decide), xgs_lo (show 4 < 31 by decide), xgs_lo (show 5 < 31 by decide), xgs_lo (show 6 < 31 by decide), xgs_lo (show 7 < 31 by decide), xgs_lo (show 8 < 31 by decide), xgs_lo (show 9 < 31 by decide), xgs_lo (show 10 < 31 by decide)]
    exact h0.1
  · unfold xgs
    by_cases q : k < R * c
    · rw [if_pos (by omega), show 31 + k - 31 = k by omega]
      exact hs k q
    · rw [if_neg (by omega)]
      exact h0.2.1 k hk
  · unfold xgs
    rw [if_neg (by omega)]
    exact h0.2.2.1 k hk
  · exact absurd hi (by rw [xgs_lo (by decide)]; exact Nat.not_lt_zero i)
theorem xga_ok {N0 : Nat → Nat} {D : Nat → Nat → Nat} {n : Nat} (h2 : N0 2 = 0) (hO : xOK N0) (hn : n ≤ 5) (hD : ∀ i, i < n → D i 0 < 5 ∧ D i 1 < N0 0 * N0 1 ∧ D i 2 < 5 ∧ 1 ≤ D i 3 ∧ D i 3 < 10) : ∀ i, i ≤ n → xOK (xga N0 D i)
  | 0, _ => hO
  | i + 1, hi => by
    obtain ⟨d0, d1, d2, d3, d4⟩ := hD i (by omega)
    refine xadd_ok (xga_ok h2 hO hn hD i (by omega)) (by rw [xga_2, h2]; omega) d0 ?_ d2 ⟨d3, d4⟩
    rw [xga_k (by decide) (by decide), xga_k (by decide) (by decide)]
    exact d1
/-- the garden's row of numbers -/
def xgN (N : Nat → Nat) (T : Nat → Nat) (t K0 S0 : Nat) : Nat → Nat := xga (xgs N (K0 + 1) (xgC T t) (xgS T t)) (xzd T t (xgC T t) (xq T t (K0 + 1))) (S0 + 1)
theorem xGG_b {T : Nat → Nat} {t K0 S0 : Nat} (h : xGG T t K0 S0) : (2 ≤ K0 + 1 ∧ K0 + 1 ≤ 8) ∧ (2 ≤ xgC T t ∧ xgC T t ≤ 8) := by
  have := h.2.2.1.2.2.2
  have := h.1
  have := h.2.2.1.1
  have := xgC_le (T := T) (t := t)
  omega
theorem xGG_s {T : Nat → Nat} {t K0 S0 : Nat} (h : xGG T t K0 S0) : ∀ i, i < (K0 + 1) * xgC T t → xgS T t i < 3 := fun i hi => by
  obtain ⟨k1, k2, hg, -⟩ := h
  have c2 := hg.1
  have hk : i / xgC T t < K0 + 1 := (Nat.div_lt_iff_lt_mul (by omega)).mpr hi
  have hj : i % xgC T t < xgC T t := Nat.mod_lt _ (by omega)
  have hn : xgn T t (i / xgC T t) = xgC T t := by
    by_cases e : i / xgC T t = K0
    · rw [e]; exact hg.2.1
    · exact (k2 _ (by omega)).2.1
  exact of_decide_eq_true (xld_t (f := xfr9 T t (xq T t (i / xgC T t))) (xgC T t) (i % xgC T t) (by unfold xgn at hn; rw [hn]; exact hj))
theorem xGG_d {T : Nat → Nat} {t K0 S0 : Nat} (h : xGG T t K0 S0) : ∀ i, i < S0 + 1 → xzd T t (xgC T t) (xq T t (K0 + 1)) i 0 < 5 ∧ xzd T t (xgC T t) (xq T t (K0 + 1)) i 1 < (K0 + 1) * xgC T t ∧ xzd T t (xgC T t) (xq T t (K0 + 1)) i 2 < 5 ∧ 1 ≤ xzd T t (xgC T t) (xq T t (K0 + 1)) i 3 ∧ xzd T t (xgC T t) (xq T t (K0 + 1)) i 3 < 10 := fun i hi => by
  obtain ⟨-, -, -, -, s2, hz⟩ := h
  refine xzd_ok (R := K0 + 1) ?_
  by_cases e : i = S0
  · rw [e]; exact hz.1
  · exact (s2 i (by omega)).1
theorem xgN_ok {N : Nat → Nat} {T : Nat → Nat} {t K0 S0 : Nat} (hO : xOK N) (h : xGG T t K0 S0) : ∀ i, i ≤ S0 + 1 → xOK (xga (xgs N (K0 + 1) (xgC T t) (xgS T t)) (xzd T t (xgC T t) (xq T t (K0 + 1))) i) := fun i hi => by
  have b0 : xgs N (K0 + 1) (xgC T t) (xgS T t) 0 = K0 + 1 := by rw [xgs_lo (by decide)]; rfl
  have b1 : xgs N (K0 + 1) (xgC T t) (xgS T t) 1 = xgC T t := by rw [xgs_lo (by decide)]; rfl
  have b2 : xgs N (K0 + 1) (xgC T t) (xgS T t) 2 = 0 := by rw [xgs_lo (by decide)]; rfl
  refine xga_ok (n := S0 + 1) b2 (xgs_ok hO (xGG_b h).1 (xGG_b h).2 (xGG_s h)) (by have := h.2.2.2.1; omega) (fun j hj => ?_) i hi
  rw [b0, b1]
  exact xGG_d h j hj
theorem xgN_uk {N : Nat → Nat} {T : Nat → Nat} {t K0 S0 : Nat} {U : Nat → Nat → Nat} (hO : xOK N) (h : xGG T t K0 S0) : xUK (xgN N T t K0 S0) 0 U := by
  refine ⟨xgN_ok hO h _ (Nat.le_refl _), ?_, Nat.zero_le _, fun j hj => absurd hj (Nat.not_lt_zero j)⟩
  unfold xgN
  rw [xga_k (by decide) (by decide), xgs_lo (by decide)]
  exact Nat.zero_le _
theorem xPN_gs {N : Nat → Nat} {R c : Nat} {so : Nat → Nat} {I I' : Nat → Nat → Int32} (h64 : R * c ≤ 64) (hN : xPN (xnw N R c) 1 I) (h1 : I' 1 = I 1) (h3 : I' 3 = I 3) (h2 : ∀ k, k < 64 → I' 2 k = if k < R * c then nI (so k) else I 2 k) : xPN (xgs N R c so) 1 I' := by
  obtain ⟨⟨a0, a1, a2, a3, a4, a5, a6, a7, a8, a9, a10⟩, b1, b2, b3⟩ := hN
  refine ⟨⟨?_, ?_, ?_, ?_, ?_, ?_, ?_, ?_, ?_, ?_, ?_⟩, fun k hk => ?_, fun k hk => ?_, fun i hi => ?_⟩
  · rw [h1, xgs_lo (by decide)]; exact a0
  · rw [h1, xgs_lo (by decide)]; exact a1
  · rw [h1, xgs_lo (by decide)]; exact a2
  · rw [h1, xgs_lo (by decide)]; exact a3
  · rw [h1, xgs_lo (by decide)]; exact a4
  · rw [h1, xgs_lo (by decide)]; exact a5
  · rw [h1, xgs_lo (by decide)]; exact a6
  · rw [h1, xgs_lo (by decide)]; exact a7
  · rw [h1, xgs_lo (by decide)]; exact a8
  · rw [h1, xgs_lo (by decide)]; exact a9
  · rw [h1, xgs_lo (by decide)]; exact a10
  · show I' 2 k = _
    rw [h2 k hk]
    unfold xgs
    by_cases q : k < R * c
    · rw [if_pos q, if_pos (by omega), show 31 + k - 31 = k by omega]
    · rw [if_neg q, if_neg (by omega)]
      exact b1 k hk
  · show I' 3 k = _
    rw [h3]
    unfold xgs
    rw [if_neg (by omega)]
    exact b2 k hk
  · exact absurd hi (by rw [xgs_lo (by decide)]; exact Nat.not_lt_zero i)
theorem c_garden0 {d : Nat} {b : Bool} {I : Nat → Nat → Int32} {L : Nat → Nat → Int64} {T : Nat → Nat} {t : Nat} (hA : xTA T t 42 I) (ht : I 0 5 = nI t) {F : Nat} (hF : xGF T t F) : xm_Z (d + 6) 44 [.ref 0] (xS b, I, L, xP b) (fun rz hz => rz = some (.int (-20 - nI F)) ∧ ∃ I', hz = (xS b, I', L, xP b) ∧ (∀ a, a ≠ 0 → a < 43 ∨ 51 ≤ a → I' a = I a) ∧ I' 0 5 = 0 ∧ ∀ k, k ≠ 5 → I' 0 k = I 0 k) := by
  refine xw_S xb_44 (l := [.ref 0, .float 0, .float 0]) (Nat.le_of_ble_eq_true rfl) rfl ?_
  refine xw_go xb_44 4 (f1 := (8, [.ref 0, .float 0, .float 0], [.int (I 0 5), .ref 43])) (h1 := (xS b, I, L, xP b)) rfl ⟨rfl, rfl, trivial⟩ ?_
  refine xw_cong (l' := [.ref 0, .float 0, .float 0]) (st' := [.int (nI t), .ref 43]) (h' := (xS b, I, L, xP b)) rfl (show ([.int (I 0 5), .ref 43] : List Value) = [.int (nI t), .ref 43] from ?_) rfl ?_
  · rw [ht]
  refine xw_call xb_44 rfl rfl rfl rfl rfl (Or.inr ⟨_, _, rfl, rfl⟩) (c_readsF (I := I) hA hF rfl) ?_
  rintro _ _ ⟨rfl, J, rfl, j1, j2⟩
  refine xw_at (f' := (11, [.ref 0, .float 0, .float 0], [.int 0])) (h' := (xS b, J, L, xP b)) rfl rfl ?_
  refine xw_go xb_44 11 (f1 := (31, [.ref 0, .int 0, .float 0], [.int ((-20) - ((xm_up J 0 5 0) 43 2))])) (h1 := (xS b, xm_up J 0 5 0, L, xP b)) rfl ⟨rfl, rfl, rfl, trivial⟩ ?_
  refine xw_ret xb_44 rfl rfl trivial ?_
  refine ⟨xm_some (congrArg Value.int ?_), _, rfl, fun a h1 h2 => ?_, ?_, fun k hk => ?_⟩
  · rw [xm_up_o (by decide), j2]
  · rw [xm_up_o h1]
    exact j1 a (by omega) (by omega) (by omega)
  · rw [xm_up_at]
  · rw [xm_up_ne (Or.inr hk), j1 0 (by decide) (by decide) (by decide)]

set_option maxHeartbeats 4000000 in
theorem c_garden1 {d : Nat} {b : Bool} {I : Nat → Nat → Int32} {L : Nat → Nat → Int64} {N : Nat → Nat} {u : Nat} {U : Nat → Nat → Nat} (hP : xPL N u U 1 I) (hK : xUK N u U) {T : Nat → Nat} {t : Nat} (hA : xTA T t 42 I) (ht : I 0 5 = nI t) {K0 S0 : Nat} (hG : xGG T t K0 S0) : xm_Z (d + 6) 44 [.ref 0] (xS b, I, L, xP b) (fun rz hz => rz = some (.int (nI ((K0 + 1) * xgC T t))) ∧ ∃ I', hz = (xS b, I', L, xP b) ∧ xPL (xgN N T t K0 S0) 0 U 1 I' ∧ (∀ a, a ≠ 0 → (20 ≤ a ∧ a < 43) ∨ 51 ≤ a → I' a = I a) ∧ I' 0 5 = 0 ∧ ∀ k, k ≠ 5 → I' 0 k = I 0 k) := by
  have hO := hK.1
  have hb := hK.1.1
  have c64 : N 0 * N 1 ≤ 64 := xce_le hO
  have c4 : 4 ≤ N 0 * N 1 := xce_ge hO
  have hs4 := hG.2.2.2.1
  have hbb := xGG_b hG
  have h64 : (K0 + 1) * xgC T t ≤ 64 := xmul64 hbb.1.2 hbb.2.2
  refine xw_S xb_44 (l := [.ref 0, .float 0, .float 0]) (Nat.le_of_ble_eq_true rfl) rfl ?_
  refine xw_go xb_44 4 (f1 := (8, [.ref 0, .float 0, .float 0], [.int (I 0 5), .ref 43])) (h1 := (xS b, I, L, xP b)) rfl ⟨rfl, rfl, trivial⟩ ?_
  refine xw_cong (l' := [.ref 0, .float 0, .float 0]) (st' := [.int (nI t), .ref 43]) (h' := (xS b, I, L, xP b)) rfl (show ([.int (I 0 5), .ref 43] : List Value) = [.int (nI t), .ref 43] from ?_) rfl ?_
  · rw [ht]
  refine xw_call xb_44 rfl rfl rfl rfl rfl (Or.inr ⟨_, _, rfl, rfl⟩) (c_readsG (I := I) hA hG.1 hG.2.1 hG.2.2.1 hG.2.2.2.1 hG.2.2.2.2.1 hG.2.2.2.2.2 rfl) ?_
  rintro _ _ ⟨rfl, J, rfl, j1, j2, j3, j4, j5, j6⟩
  refine xw_at (f' := (11, [.ref 0, .float 0, .float 0], [.int 1])) (h' := (xS b, J, L, xP b)) rfl rfl ?_
  refine xw_go xb_44 14 (f1 := (50, [.ref 0, .int 1, .float 0], [.int ((xm_up J 0 5 0) 43 4), .int ((xm_up J 0 5 0) 43 3), .ref 1])) (h1 := (xS b, xm_up J 0 5 0, L, xP b)) rfl ⟨rfl, rfl, rfl, rfl, rfl, rfl, trivial⟩ ?_
  refine xw_call xb_44 rfl rfl rfl rfl rfl (Or.inr ⟨_, _, rfl, rfl⟩) (c_begin1 (I := (xm_up J 0 5 0))) ?_
  rintro _ _ ⟨rfl, I2, rfl, g1, g2, g3, g4, g5, g6, g7, g8, g9, g10, g11, g12⟩
  refine xw_at (f' := (53, [.ref 0, .int 1, .float 0], [])) (h' := (xS b, I2, L, xP b)) rfl rfl ?_
  refine xw_go xb_44 10 (f1 := (73, [.ref 0, .int 1, .float 0], [.ref 1, .int 0, .ref 2, .int 0, .ref 44])) (h1 := (xS b, I2, L, xP b)) rfl ⟨rfl, rfl, rfl, rfl, rfl, trivial⟩ ?_
  refine xw_call xb_44 rfl rfl rfl rfl rfl (Or.inr ⟨_, _, rfl, rfl⟩) (c_cells (I := I2) (R := K0 + 1) (C := xgC T t) (by rw [g2, xm_up_o (by decide)]; exact j2) (by rw [g3, xm_up_o (by decide)]; exact j3)) ?_
  rintro _ _ ⟨rfl, rfl⟩
  refine xw_at (f' := (76, [.ref 0, .int 1, .float 0], [.int (nI ((K0 + 1) * xgC T t)), .int 0, .ref 2, .int 0, .ref 44])) (h' := (xS b, I2, L, xP b)) rfl rfl ?_
  refine xw_cpI xb_44 rfl rfl rfl ⟨64, 64, rfl, rfl, by decide, by decide, by rw [xl_0, nI_ltI (by omega) (by omega)]; omega, by rw [xn_cl (by omega)]; show 0 + _ ≤ 64; omega, by rw [xn_cl (by omega)]; show 0 + _ ≤ 64; omega⟩ ?_
  refine xw_at (f' := (79, [.ref 0, .int 1, .float 0], [])) (h' := (xS b, va_up I2 2 (va_cpy (I2 44) (I2 2) (0 : Int32).toNatClampNeg (0 : Int32).toNatClampNeg (nI ((K0 + 1) * xgC T t)).toNatClampNeg), L, xP b)) rfl rfl ?_
  refine xw_go xb_44 2 (f1 := (81, [.ref 0, .int 1, .int 0], [])) (h1 := (xS b, va_up I2 2 (va_cpy (I2 44) (I2 2) (0 : Int32).toNatClampNeg (0 : Int32).toNatClampNeg (nI ((K0 + 1) * xgC T t)).toNatClampNeg), L, xP b)) rfl trivial ?_
  have n2 : xPN (xnw N (K0 + 1) (xgC T t)) 1 I2 := xPN_b (I := xm_up J 0 5 0) (xPN_fr (by omega) hP.1 fun a ha => by rw [xm_up_o (by omega), j1 a (by omega) (by omega) (by omega)]) (by rw [g2, xm_up_o (by decide)]; exact j2) (by rw [g3, xm_up_o (by decide)]; exact j3) g4 g5 g6 g7 g8 g9 g10
  have q44 : I2 44 = J 44 := by rw [g1 44 (by decide), xm_up_o (by decide)]
  obtain ⟨M3, hM3⟩ : ∃ M3, M3 = va_up I2 2 (va_cpy (I2 44) (I2 2) 0 0 ((K0 + 1) * xgC T t)) := ⟨_, rfl⟩
  have m3 : xPN (xgs N (K0 + 1) (xgC T t) (xgS T t)) 1 M3 := by
    refine xPN_gs h64 n2 (by rw [hM3, xm_vu_o (by decide)]) (by rw [hM3, xm_vu_o (by decide)]) fun k hk => ?_
    rw [hM3, xvu_at]
    unfold va_cpy
    by_cases q : k < (K0 + 1) * xgC T t
    · rw [if_pos (by omega), if_pos q, q44, Nat.zero_add, Nat.sub_zero]
      exact j5 k q
    · rw [if_neg (by omega), if_neg q]
  refine xw_at (f' := (81, [.ref 0, .int 1, .int (nI 0)], [])) (h' := (xS b, M3, L, xP b)) rfl (by rw [hM3, xn_cl (by omega)]; rfl) ?_
  have m4 : ∀ a, a = 0 ∨ 20 ≤ a → M3 a = I2 a := fun a ha => by rw [hM3, xm_vu_o (by omega)]
  have m5 : M3 5 = I2 5 := by rw [hM3, xm_vu_o (by decide)]
  clear hM3
  refine xw_loopP (S0 + 1) (fun i => (81, [.ref 0, .int 1, .int (nI i)], [])) (fun i h => ∃ M, h = (xS b, M, L, xP b) ∧ xPN (xga (xgs N (K0 + 1) (xgC T t) (xgS T t)) (xzd T t (xgC T t) (xq T t (K0 + 1))) i) 1 M ∧ M 5 1 = 0 ∧ M 5 2 = I 5 2 ∧ ∀ a, a = 0 ∨ 20 ≤ a → M a = I2 a) (fun i h hi hV ih => ?_) (fun h hV => ?_) 0 _ (Nat.zero_le _) ⟨M3, rfl, m3, by rw [m5]; exact g11, by rw [m5, g12 2 (by decide), xm_up_o (by decide), j1 5 (by decide) (by decide) (by decide)], m4⟩
  · obtain ⟨M, rfl, p1, p2, p3, p4⟩ := hV
    have e2 : xga (xgs N (K0 + 1) (xgC T t) (xgS T t)) (xzd T t (xgC T t) (xq T t (K0 + 1))) i 2 = i := by rw [xga_2, xgs_lo (by decide)]; show 0 + i = i; omega
    have s5 : (xS b)[46 + i]? = some (11, 4) := xS_46 (by omega)
    have md : ∀ f, f < 4 → M (46 + i) f = nI ((xzd T t (xgC T t) (xq T t (K0 + 1))) i f) := fun f hf => by
      rw [p4 (46 + i) (by omega), g1 (46 + i) (by simp only [List.mem_cons, List.not_mem_nil, or_false, not_or]; omega), xm_up_o (by omega)]
      exact j6 i hi f hf
    refine xw_go xb_44 4 (f1 := (89, [.ref 0, .int 1, .int (nI i)], [.int (M 43 7), .int (nI i)])) (h1 := (xS b, M, L, xP b)) rfl ⟨rfl, rfl, trivial⟩ ?_
    refine xw_cong (l' := [.ref 0, .int 1, .int (nI i)]) (st' := [.int (nI (S0 + 1)), .int (nI i)]) (h' := (xS b, M, L, xP b)) rfl (show ([.int (M 43 7), .int (nI i)] : List Value) = [.int (nI (S0 + 1)), .int (nI i)] from ?_) rfl ?_
    · rw [p4 43 (by omega), g1 43 (by decide), xm_up_o (by decide), j4]
    refine xw_go xb_44 1 (f1 := (if (nI (S0 + 1)) ≤ (nI i) then 114 else 92, [.ref 0, .int 1, .int (nI i)], [])) (h1 := (xS b, M, L, xP b)) rfl trivial ?_
    refine xw_if (fun c_89 => ?_) (fun c_89 => ?_)
    · skip
      exfalso
      try simp only [xB_dec, Classical.not_not] at c_89
      try simp (disch := omega) only [xt_eq, xt_lt, xt_le, xkt_0, xkt_1, xkt_2, xkt_3, xkt_4, xkt_5, xkt_6, xkt_7, xkt_8, xkt_9, xkt_10, xkt_11, xkt_12, xkt_13, xkt_14, xkt_16, xkt_20, xkt_24, xkt_31, xkt_32, xkt_40, xkt_44, xkt_47, xkt_48, xkt_57, xkt_59, xkt_60, xkt_63, xkt_64, xkt_65, xkt_72, xkt_95, xkt_99, xkt_100, xkt_101, xkt_103, xkt_110, xkt_112, xkt_113, xkt_114, xkt_119, xkt_126, xkt_159, xkt_576, xkt_999, xkt_9999, xkt_65536, xkt_999999, xkt_m1, xkt_m2, xkt_m3, xkt_m4, xkt_m11, xkt_m12, xkt_m13, xkt_m14, xkt_m20, xjt_0, xjt_1, xjt_2, xjt_3, xjt_4, xjt_5, xjt_6, xjt_7, xjt_8, xjt_9, xjt_10, xjt_11, xjt_12, xjt_13, xjt_14, xjt_16, xjt_20, xjt_24, xjt_31, xjt_32, xjt_40, xjt_44, xjt_47, xjt_48, xjt_57, xjt_59, xjt_60, xjt_63, xjt_64, xjt_65, xjt_72, xjt_95, xjt_99, xjt_100, xjt_101, xjt_103, xjt_110, xjt_112, xjt_113, xjt_114, xjt_119, xjt_126, xjt_159, xjt_576, xjt_999, xjt_9999, xjt_65536, xjt_999999, xt64, xt_n, not_true_eq_false, not_false_eq_true, Classical.not_not] at c_89
      all_goals omega
    · skip
      refine xw_go xb_44 7 (f1 := (105, [.ref 0, .int 1, .int (nI i)], [xm_o (xP b 45 (nI i).toNatClampNeg), .ref 1])) (h1 := (xS b, M, L, xP b)) rfl ⟨rfl, rfl, rfl, (xn_ar (n := i) (N := 5) rfl (by omega) (by decide)), ⟨Nat.le_of_ble_eq_true rfl, Nat.le_of_ble_eq_true rfl⟩, trivial⟩ ?_
      refine xw_cong (l' := [.ref 0, .int 1, .int (nI i)]) (st' := [.ref (46 + i), .ref 1]) (h' := (xS b, M, L, xP b)) rfl (show ([xm_o (xP b 45 (nI i).toNatClampNeg), .ref 1] : List Value) = [.ref (46 + i), .ref 1] from ?_) rfl ?_
      · rw [xn_cl (by omega), xP_45 (by omega)]
        rfl
      refine xw_call xb_44 rfl rfl rfl rfl rfl (Or.inr ⟨_, _, rfl, rfl⟩) (c_addLike1 (I := M) (n := i) (a := 46 + i) (by rw [p1.1.2.2.1, e2]) (by omega) s5) ?_
      rintro _ _ ⟨rfl, rfl⟩
      refine xw_at (f' := (108, [.ref 0, .int 1, .int (nI i)], [])) (h' := (xS b, xm_up (xm_up (xm_up (xm_up (xm_up (xm_up M (15 + i) 0 (M (46 + i) 0)) (15 + i) 1 (M (46 + i) 1)) (15 + i) 2 (M (46 + i) 2)) (15 + i) 3 (M (46 + i) 3)) 1 5 (nI (i + 1))) 5 1 0, L, xP b)) rfl rfl ?_
      refine xw_go xb_44 2 (f1 := (81, [.ref 0, .int 1, .int ((nI i) + 1)], [])) (h1 := (xS b, xm_up (xm_up (xm_up (xm_up (xm_up (xm_up M (15 + i) 0 (M (46 + i) 0)) (15 + i) 1 (M (46 + i) 1)) (15 + i) 2 (M (46 + i) 2)) (15 + i) 3 (M (46 + i) 3)) 1 5 (nI (i + 1))) 5 1 0, L, xP b)) rfl trivial ?_
      have e5 := xPN_add (k := (xzd T t (xgC T t) (xq T t (K0 + 1))) i 0) (pl := (xzd T t (xgC T t) (xq T t (K0 + 1))) i 1) (re := (xzd T t (xgC T t) (xq T t (K0 + 1))) i 2) (pw := (xzd T t (xgC T t) (xq T t (K0 + 1))) i 3) (by rw [e2]; omega) p1 (y := nI (i + 1)) (by rw [e2])
      rw [e2, ← md 0 (by decide), ← md 1 (by decide), ← md 2 (by decide), ← md 3 (by decide)] at e5
      refine xw_cong ?_ rfl rfl (ih _ ⟨_, rfl, xPN_fr ?_ e5 fun a ha => xm_up_o (by omega), ?_, ?_, fun a ha => ?_⟩)
      · rw [nI_1]
      · show xga (xgs N (K0 + 1) (xgC T t) (xgS T t)) (xzd T t (xgC T t) (xq T t (K0 + 1))) i 2 + 1 ≤ 5
        omega
      · rw [xm_up_at]
      · rw [xm_up_ne (Or.inr (by decide)), xm_up_o (by decide), xm_up_o (by omega), xm_up_o (by omega), xm_up_o (by omega), xm_up_o (by omega)]
        exact p3
      · rw [xm_up_o (by omega), xm_up_o (by omega), xm_up_o (by omega), xm_up_o (by omega), xm_up_o (by omega), xm_up_o (by omega)]
        exact p4 a ha
  · obtain ⟨M, rfl, p1, p2, p3, p4⟩ := hV
    refine xw_go xb_44 4 (f1 := (89, [.ref 0, .int 1, .int (nI (S0 + 1))], [.int (M 43 7), .int (nI (S0 + 1))])) (h1 := (xS b, M, L, xP b)) rfl ⟨rfl, rfl, trivial⟩ ?_
    refine xw_cong (l' := [.ref 0, .int 1, .int (nI (S0 + 1))]) (st' := [.int (nI (S0 + 1)), .int (nI (S0 + 1))]) (h' := (xS b, M, L, xP b)) rfl (show ([.int (M 43 7), .int (nI (S0 + 1))] : List Value) = [.int (nI (S0 + 1)), .int (nI (S0 + 1))] from ?_) rfl ?_
    · rw [p4 43 (by omega), g1 43 (by decide), xm_up_o (by decide), j4]
    refine xw_go xb_44 1 (f1 := (if (nI (S0 + 1)) ≤ (nI (S0 + 1)) then 114 else 92, [.ref 0, .int 1, .int (nI (S0 + 1))], [])) (h1 := (xS b, M, L, xP b)) rfl trivial ?_
    refine xw_if (fun c_89 => ?_) (fun c_89 => ?_)
    · skip
      refine xw_go xb_44 2 (f1 := (118, [.ref 0, .int 1, .int (nI (S0 + 1))], [.ref 1])) (h1 := (xS b, M, L, xP b)) rfl ⟨rfl, trivial⟩ ?_
      refine xw_call xb_44 rfl rfl rfl rfl rfl (Or.inr ⟨_, _, rfl, rfl⟩) (c_cells (I := M) (R := K0 + 1) (C := xgC T t) (by rw [p1.1.1, xga_k (by decide) (by decide), xgs_lo (by decide)]; rfl) (by rw [p1.1.2.1, xga_k (by decide) (by decide), xgs_lo (by decide)]; rfl)) ?_
      rintro _ _ ⟨rfl, rfl⟩
      refine xw_at (f' := (121, [.ref 0, .int 1, .int (nI (S0 + 1))], [.int (nI ((K0 + 1) * xgC T t))])) (h' := (xS b, M, L, xP b)) rfl rfl ?_
      refine xw_ret xb_44 rfl rfl trivial ?_
      obtain ⟨nx, x1, x2, x3, x4⟩ := hP.2
      refine ⟨rfl, M, rfl, xPL_0 p1 p2 x1 (p3.trans x3), fun a h1 h2 => ?_, ?_, fun k hk => ?_⟩
      · rw [p4 a (by omega), g1 a (by simp only [List.mem_cons, List.not_mem_nil, or_false, not_or]; omega), xm_up_o h1]
        exact j1 a (by omega) (by omega) (by omega)
      · rw [p4 0 (Or.inl rfl), g1 0 (by decide), xm_up_at]
      · rw [p4 0 (Or.inl rfl), g1 0 (by decide), xm_up_ne (Or.inr hk), j1 0 (by decide) (by decide) (by decide)]
    · skip
      exfalso
      try simp only [xB_dec, Classical.not_not] at c_89
      try simp (disch := omega) only [xt_eq, xt_lt, xt_le, xkt_0, xkt_1, xkt_2, xkt_3, xkt_4, xkt_5, xkt_6, xkt_7, xkt_8, xkt_9, xkt_10, xkt_11, xkt_12, xkt_13, xkt_14, xkt_16, xkt_20, xkt_24, xkt_31, xkt_32, xkt_40, xkt_44, xkt_47, xkt_48, xkt_57, xkt_59, xkt_60, xkt_63, xkt_64, xkt_65, xkt_72, xkt_95, xkt_99, xkt_100, xkt_101, xkt_103, xkt_110, xkt_112, xkt_113, xkt_114, xkt_119, xkt_126, xkt_159, xkt_576, xkt_999, xkt_9999, xkt_65536, xkt_999999, xkt_m1, xkt_m2, xkt_m3, xkt_m4, xkt_m11, xkt_m12, xkt_m13, xkt_m14, xkt_m20, xjt_0, xjt_1, xjt_2, xjt_3, xjt_4, xjt_5, xjt_6, xjt_7, xjt_8, xjt_9, xjt_10, xjt_11, xjt_12, xjt_13, xjt_14, xjt_16, xjt_20, xjt_24, xjt_31, xjt_32, xjt_40, xjt_44, xjt_47, xjt_48, xjt_57, xjt_59, xjt_60, xjt_63, xjt_64, xjt_65, xjt_72, xjt_95, xjt_99, xjt_100, xjt_101, xjt_103, xjt_110, xjt_112, xjt_113, xjt_114, xjt_119, xjt_126, xjt_159, xjt_576, xjt_999, xjt_9999, xjt_65536, xjt_999999, xt64, xt_n, not_true_eq_false, not_false_eq_true, Classical.not_not] at c_89
      all_goals omega

