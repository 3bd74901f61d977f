/-! ===== calls: tins, the class ===== -/
theorem xg_eq (x y : Int64) : lg_cmp x y = 0 ↔ x = y := by
  have h1 := xg_lt x y
  have h2 := xg_gt x y
  rw [xt_lt, Int32.toInt_zero] at h1 h2
  rw [xt_eq, Int32.toInt_zero, ← Int64.toInt_inj]
  omega
theorem xg_ge (x y : Int64) : 0 ≤ lg_cmp x y ↔ y.toInt ≤ x.toInt := by
  have h1 := xg_lt x y
  rw [xt_lt, Int32.toInt_zero] at h1
  rw [xt_le, Int32.toInt_zero]
  omega
theorem xjn {a : Nat} (h : a < 2 ^ 31) : (Int64.ofNat a).toInt = (a : Int) := Int64.toInt_ofNat_of_lt (by omega)
theorem xg_eqn {a b : Nat} (ha : a < 2 ^ 31) (hb : b < 2 ^ 31) : lg_cmp (Int64.ofNat a) (Int64.ofNat b) = 0 ↔ a = b := by
  rw [xg_eq, ← Int64.toInt_inj, xjn ha, xjn hb]
  omega
/-- all of the first n -/
def xft (f : Nat → Bool) : Nat → Bool
  | 0 => true
  | n + 1 => xft f n && f n
theorem xft_no {f : Nat → Bool} {k : Nat} (h : f k = false) : ∀ n, k < n → xft f n = false
  | 0, q => absurd q (Nat.not_lt_zero k)
  | n + 1, q => by
    unfold xft
    by_cases e : k = n
    · subst e
      rw [h, Bool.and_false]
    · rw [xft_no h n (by omega), Bool.false_and]
/-- the first of n that fits, or -4 -/
def xfs (p : Nat → Bool) : Nat → Int32
  | 0 => -4
  | n + 1 => if xfs p n = -4 ∧ p n = true then nI n else xfs p n
/-- as much wetter as told -/
def xfk (N Wv ce te : Nat → Nat) : Nat → Bool := fun k => decide (Wv (ce k) - N (95 + ce k) = te k)
def xfw (N : Nat → Nat) (m : Nat) (ce te : Nat → Nat) (n w : Nat) : Bool := xft (xfk N (fun c => xgoN N (xfa N w (N 5)) m (95 + c)) ce te) n
def xtok (N : Nat → Nat) (it : Nat → Int64) (j k : Nat) : Prop := 0 ≤ (it (j + 2 * k)).toInt ∧ (it (j + 2 * k)).toInt < ((N 0 * N 1 : Nat) : Int) ∧ 0 ≤ (it (j + 2 * k + 1)).toInt ∧ (it (j + 2 * k + 1)).toInt ≤ 9999
/-- the tins, as numbers -/
def xtn (N : Nat → Nat) (it : Nat → Int64) (j n : Nat) (ce te : Nat → Nat) : Prop := ∀ k, k < n → it (j + 2 * k) = Int64.ofNat (ce k) ∧ ce k < N 0 * N 1 ∧ it (j + 2 * k + 1) = Int64.ofNat (te k) ∧ te k ≤ 9999
theorem xtn_ok {N : Nat → Nat} {it : Nat → Int64} {j n : Nat} {ce te : Nat → Nat} (c64 : N 0 * N 1 ≤ 64) (h : xtn N it j n ce te) : ∀ k, k < n → xtok N it j k := fun k hk => by
  obtain ⟨h1, h2, h3, h4⟩ := h k hk
  unfold xtok
  rw [h1, h3, xjn (by omega), xjn (by omega)]
  omega
theorem x64n {x : Int64} {n : Nat} (h0 : 0 ≤ x.toInt) (h1 : x.toInt < n) (hn : n < 2 ^ 31) : x = Int64.ofNat x.toInt.toNat := by
  apply Int64.toInt_inj.mp
  rw [xjn (by omega)]
  omega
theorem xtn_of {N : Nat → Nat} {it : Nat → Int64} {j n : Nat} (c64 : N 0 * N 1 ≤ 64) (h : ∀ k, k < n → xtok N it j k) : xtn N it j n (fun k => (it (j + 2 * k)).toInt.toNat) (fun k => (it (j + 2 * k + 1)).toInt.toNat) := fun k hk => by
  obtain ⟨h1, h2, h3, h4⟩ := h k hk
  refine ⟨x64n h1 h2 (by omega), ?_, x64n (n := 10000) h3 (by omega) (by omega), ?_⟩
  · show (it (j + 2 * k)).toInt.toNat < _
    omega
  · show (it (j + 2 * k + 1)).toInt.toNat ≤ _
    omega
theorem xgo_ge {N : Nat → Nat} {fv : Nat → Nat} {m c : Nat} (hO : xOK N) (hc : c < N 0 * N 1) : N (95 + c) ≤ xgoN N fv m (95 + c) ∧ xgoN N fv m (95 + c) ≤ 9999 := by
  have c64 : N 0 * N 1 ≤ 64 := xce_le hO
  have := hO.2.2.1 c (by omega)
  rw [xgoN_we hc]
  omega
theorem c_isAsTold {d : Nat} {b : Bool} {I : Nat → Nat → Int32} {L : Nat → Nat → Int64} {N : Nat → Nat} (hN : xPN N 1 I) (hO : xOK N) {s : Nat} (hs : s < 4) {j n : Nat} {ce te : Nat → Nat} (hq : xtn N (L (53 + 2 * s)) j n ce te) (hj : j + 2 * n ≤ 24) {Wv : Nat → Nat} (hw : ∀ c, c < N 0 * N 1 → N (95 + c) ≤ Wv c ∧ I 25 c = nI (Wv c) ∧ Wv c ≤ 9999) {x1 : Int32} (e_x1 : x1 = nI j) {x2 : Int32} (e_x2 : x2 = nI n) : xm_Z (d + 3) 96 [.ref 24, .ref (53 + 2 * s), .int x1, .int x2] (xS b, I, L, xP b) (fun rz hz => rz = some (.int (nI (xB (xft (xfk N Wv ce te) n)))) ∧ hz = (xS b, I, L, xP b)) := by
  subst e_x1
  subst e_x2
  have hb := hO.1
  have c64 : N 0 * N 1 ≤ 64 := xce_le hO
  have c4 : 4 ≤ N 0 * N 1 := xce_ge hO
  obtain ⟨⟨hN0, hN1, hN2, hN3, hN4, hN5, hN6, hN7, hN8, hN9, hN10⟩, hNs, hNw, hNp⟩ := hN
  have s3 : (xS b)[53 + 2 * s]? = some (1, 24) := xS_53 hs
  refine xw_S xb_96 (l := [.ref 24, .ref (53 + 2 * s), .int (nI j), .int (nI n), .float 0, .float 0]) (Nat.le_of_ble_eq_true rfl) rfl ?_
  refine xw_go xb_96 2 (f1 := (3, [.ref 24, .ref (53 + 2 * s), .int (nI j), .int (nI n), .int 0, .float 0], [])) (h1 := (xS b, I, L, xP b)) rfl trivial ?_
  refine xw_at (f' := (3, [.ref 24, .ref (53 + 2 * s), .int (nI j), .int (nI n), .int (nI 0), .float 0], [])) (h' := (xS b, I, L, xP b)) rfl rfl ?_
  refine xw_loopP n (fun k => (3, [.ref 24, .ref (53 + 2 * s), .int (nI j), .int (nI n), .int (nI k), .float 0], [])) (fun k h => h = (xS b, I, L, xP b) ∧ xft (xfk N Wv ce te) k = true) (fun k h hk hV ih => ?_) (fun h hV => ?_) 0 _ (Nat.zero_le _) ⟨rfl, rfl⟩
  · obtain ⟨rfl, hf⟩ := hV
    obtain ⟨q1, q2, q3, q4⟩ := hq k hk
    obtain ⟨w1, w2⟩ := hw (ce k) q2
    have w0 := hO.2.2.1 (ce k) (by omega)
    refine xw_go xb_96 3 (f1 := (if (nI n) ≤ (nI k) then 73 else 9, [.ref 24, .ref (53 + 2 * s), .int (nI j), .int (nI n), .int (nI k), .float 0], [])) (h1 := (xS b, I, L, xP b)) rfl trivial ?_
    refine xw_if (fun c_6 => ?_) (fun c_6 => ?_)
    · skip
      exfalso
      try simp only [xB_dec, Classical.not_not] at c_6
      try simp (disch := omega) only [xt_eq, xt_lt, xt_le, xkt_0, xkt_1, xkt_2, xkt_3, xkt_4, xkt_5, xkt_6, xkt_7, xkt_8, xkt_9, xkt_10, xkt_11, xkt_12, xkt_13, xkt_14, xkt_16, xkt_20, xkt_24, xkt_31, xkt_32, xkt_40, xkt_44, xkt_47, xkt_48, xkt_57, xkt_59, xkt_60, xkt_63, xkt_64, xkt_65, xkt_72, xkt_95, xkt_99, xkt_100, xkt_101, xkt_103, xkt_110, xkt_112, xkt_113, xkt_114, xkt_119, xkt_126, xkt_159, xkt_576, xkt_999, xkt_9999, xkt_65536, xkt_999999, xkt_m1, xkt_m2, xkt_m3, xkt_m4, xkt_m11, xkt_m12, xkt_m13, xkt_m14, xkt_m20, xjt_0, xjt_1, xjt_2, xjt_3, xjt_4, xjt_5, xjt_6, xjt_7, xjt_8, xjt_9, xjt_10, xjt_11, xjt_12, xjt_13, xjt_14, xjt_16, xjt_20, xjt_24, xjt_31, xjt_32, xjt_40, xjt_44, xjt_47, xjt_48, xjt_57, xjt_59, xjt_60, xjt_63, xjt_64, xjt_65, xjt_72, xjt_95, xjt_99, xjt_100, xjt_101, xjt_103, xjt_110, xjt_112, xjt_113, xjt_114, xjt_119, xjt_126, xjt_159, xjt_576, xjt_999, xjt_9999, xjt_65536, xjt_999999, xt64, xt_n, not_true_eq_false, not_false_eq_true, Classical.not_not] at c_6
      all_goals omega
    · skip
      refine xw_go xb_96 7 (f1 := (17, [.ref 24, .ref (53 + 2 * s), .int (nI j), .int (nI n), .int (nI k), .float 0], [.long (L (53 + 2 * s) ((nI j) + (2 * (nI k))).toNatClampNeg)])) (h1 := (xS b, I, L, xP b)) rfl ⟨(xn_ar' (n := j + 2 * k) (N := 24) s3 (show nI j + 2 * nI k = _ by rw [xl_2, pk_mul, nI_add]) (by omega) (by decide)), trivial⟩ ?_
      refine xw_cong (l' := [.ref 24, .ref (53 + 2 * s), .int (nI j), .int (nI n), .int (nI k), .float 0]) (st' := [.long (Int64.ofNat (ce k))]) (h' := (xS b, I, L, xP b)) rfl (show ([.long (L (53 + 2 * s) ((nI j) + (2 * (nI k))).toNatClampNeg)] : List Value) = [.long (Int64.ofNat (ce k))] from ?_) rfl ?_
      · rw [xl_2, pk_mul, nI_add, xn_cl (by omega), q1]
      refine xw_go xb_96 2 (f1 := (20, [.ref 24, .ref (53 + 2 * s), .int (nI j), .int (nI n), .int (nI k), .int ((Int64.ofNat (ce k)).toInt32)], [])) (h1 := (xS b, I, L, xP b)) rfl trivial ?_
      refine xw_cong (l' := [.ref 24, .ref (53 + 2 * s), .int (nI j), .int (nI n), .int (nI k), .int (nI (ce k))]) (st' := []) (h' := (xS b, I, L, xP b)) (show ([.ref 24, .ref (53 + 2 * s), .int (nI j), .int (nI n), .int (nI k), .int ((Int64.ofNat (ce k)).toInt32)] : List Value) = [.ref 24, .ref (53 + 2 * s), .int (nI j), .int (nI n), .int (nI k), .int (nI (ce k))] from ?_) rfl rfl ?_
      · rw [x64l]
      refine xw_go xb_96 3 (f1 := (26, [.ref 24, .ref (53 + 2 * s), .int (nI j), .int (nI n), .int (nI k), .int (nI (ce k))], [.int (nI (ce k)), .ref 1])) (h1 := (xS b, I, L, xP b)) rfl ⟨rfl, trivial⟩ ?_
      refine xw_call xb_96 rfl rfl rfl rfl rfl (Or.inr ⟨_, _, rfl, rfl⟩) (c_hasCell (I := I) hN0 hN1 (by omega) (by omega) (by omega)) ?_
      rintro _ _ ⟨rfl, rfl⟩
      refine xw_at (f' := (29, [.ref 24, .ref (53 + 2 * s), .int (nI j), .int (nI n), .int (nI k), .int (nI (ce k))], [.int (nI (xB (decide (0 ≤ (nI (ce k)).toInt ∧ (nI (ce k)).toInt < ((N 0 * N 1 : Nat) : Int)))))])) (h' := (xS b, I, L, xP b)) rfl rfl ?_
      refine xw_go xb_96 1 (f1 := (if (nI (xB (decide (0 ≤ (nI (ce k)).toInt ∧ (nI (ce k)).toInt < ((N 0 * N 1 : Nat) : Int))))) = 0 then 65 else 32, [.ref 24, .ref (53 + 2 * s), .int (nI j), .int (nI n), .int (nI k), .int (nI (ce k))], [])) (h1 := (xS b, I, L, xP b)) rfl trivial ?_
      refine xw_if (fun c_29 => ?_) (fun c_29 => ?_)
      · skip
        first
          | (exfalso
             rw [xB_dec, xt_n (by omega)] at c_29
             omega)
          | (rw [xg_eqn (by omega) (by omega)] at c_62
             refine xw_go xb_96 1 (f1 := (66, [.ref 24, .ref (53 + 2 * s), .int (nI j), .int (nI n), .int (nI k), .int (nI (ce k))], [.int 0])) (h1 := (xS b, I, L, xP b)) rfl trivial ?_
             refine xw_ret xb_96 rfl rfl ?_ ?_
             · exact Or.inl rfl
             exact ⟨by rw [xft_no (k := k) (decide_eq_false c_62) n hk]; rfl, rfl⟩)
      · skip
        refine xw_go xb_96 20 (f1 := (61, [.ref 24, .ref (53 + 2 * s), .int (nI j), .int (nI n), .int (nI k), .int (nI (ce k))], [.long (L (53 + 2 * s) (((nI j) + (2 * (nI k))) + 1).toNatClampNeg), .long (((I 25 (nI (ce k)).toNatClampNeg) - (I 3 (nI (ce k)).toNatClampNeg)).toInt64)])) (h1 := (xS b, I, L, xP b)) rfl ⟨rfl, (xn_ar (n := ce k) (N := 64) rfl (by omega) (by decide)), rfl, rfl, (xn_ar (n := ce k) (N := 64) rfl (by omega) (by decide)), (xn_ar' (n := j + 2 * k + 1) (N := 24) s3 (show nI j + 2 * nI k + 1 = _ by rw [xl_2, pk_mul, nI_add, xl_1, nI_add]) (by omega) (by decide)), trivial⟩ ?_
        refine xw_cong (l' := [.ref 24, .ref (53 + 2 * s), .int (nI j), .int (nI n), .int (nI k), .int (nI (ce k))]) (st' := [.long (L (53 + 2 * s) (((nI j) + (2 * (nI k))) + 1).toNatClampNeg), .long (Int64.ofNat (Wv (ce k) - N (95 + ce k)))]) (h' := (xS b, I, L, xP b)) rfl (show ([.long (L (53 + 2 * s) (((nI j) + (2 * (nI k))) + 1).toNatClampNeg), .long (((I 25 (nI (ce k)).toNatClampNeg) - (I 3 (nI (ce k)).toNatClampNeg)).toInt64)] : List Value) = [.long (L (53 + 2 * s) (((nI j) + (2 * (nI k))) + 1).toNatClampNeg), .long (Int64.ofNat (Wv (ce k) - N (95 + ce k)))] from ?_) rfl ?_
        · rw [xn_cl (by omega), w2.1, hNw _ (by omega), xn_sub w1, xl64 (by omega)]
        refine xw_cong (l' := [.ref 24, .ref (53 + 2 * s), .int (nI j), .int (nI n), .int (nI k), .int (nI (ce k))]) (st' := [.long (Int64.ofNat (te k)), .long (Int64.ofNat (Wv (ce k) - N (95 + ce k)))]) (h' := (xS b, I, L, xP b)) rfl (show ([.long (L (53 + 2 * s) (((nI j) + (2 * (nI k))) + 1).toNatClampNeg), .long (Int64.ofNat (Wv (ce k) - N (95 + ce k)))] : List Value) = [.long (Int64.ofNat (te k)), .long (Int64.ofNat (Wv (ce k) - N (95 + ce k)))] from ?_) rfl ?_
        · rw [xl_2, pk_mul, nI_add, xl_1, nI_add, xn_cl (by omega), q3]
        refine xw_go xb_96 2 (f1 := (if (lg_cmp (Int64.ofNat (Wv (ce k) - N (95 + ce k))) (Int64.ofNat (te k))) = 0 then 67 else 65, [.ref 24, .ref (53 + 2 * s), .int (nI j), .int (nI n), .int (nI k), .int (nI (ce k))], [])) (h1 := (xS b, I, L, xP b)) rfl trivial ?_
        refine xw_if (fun c_62 => ?_) (fun c_62 => ?_)
        · skip
          refine xw_go xb_96 2 (f1 := (3, [.ref 24, .ref (53 + 2 * s), .int (nI j), .int (nI n), .int ((nI k) + 1), .int (nI (ce k))], [])) (h1 := (xS b, I, L, xP b)) rfl trivial ?_
          refine xw_fg (l0 := [.ref 24, .ref (53 + 2 * s), .int (nI j), .int (nI n), .int ((nI k) + 1), .float 0]) ⟨Or.inr rfl, Or.inr rfl, Or.inr rfl, Or.inr rfl, Or.inr rfl, Or.inl rfl, trivial⟩ ?_
          rw [xg_eqn (by omega) (by omega)] at c_62
          refine xw_cong ?_ rfl rfl (ih _ ⟨rfl, ?_⟩)
          · rw [nI_1]
          · show (xft (xfk N Wv ce te) k && xfk N Wv ce te k) = true
            rw [hf, Bool.true_and]
            exact decide_eq_true c_62
        · skip
          first
            | (exfalso
               rw [xB_dec, xt_n (by omega)] at c_29
               omega)
            | (rw [xg_eqn (by omega) (by omega)] at c_62
               refine xw_go xb_96 1 (f1 := (66, [.ref 24, .ref (53 + 2 * s), .int (nI j), .int (nI n), .int (nI k), .int (nI (ce k))], [.int 0])) (h1 := (xS b, I, L, xP b)) rfl trivial ?_
               refine xw_ret xb_96 rfl rfl ?_ ?_
               · exact Or.inl rfl
               exact ⟨by rw [xft_no (k := k) (decide_eq_false c_62) n hk]; rfl, rfl⟩)
  · obtain ⟨rfl, hf⟩ := hV
    refine xw_go xb_96 3 (f1 := (if (nI n) ≤ (nI n) then 73 else 9, [.ref 24, .ref (53 + 2 * s), .int (nI j), .int (nI n), .int (nI n), .float 0], [])) (h1 := (xS b, I, L, xP b)) rfl trivial ?_
    refine xw_if (fun c_6 => ?_) (fun c_6 => ?_)
    · skip
      refine xw_go xb_96 1 (f1 := (74, [.ref 24, .ref (53 + 2 * s), .int (nI j), .int (nI n), .int (nI n), .float 0], [.int 1])) (h1 := (xS b, I, L, xP b)) rfl trivial ?_
      refine xw_ret xb_96 rfl rfl ?_ ?_
      · exact Or.inr rfl
      exact ⟨by rw [hf]; rfl, rfl⟩
    · skip
      exfalso
      try simp only [xB_dec, Classical.not_not] at c_6
      try simp (disch := omega) only [xt_eq, xt_lt, xt_le, xkt_0, xkt_1, xkt_2, xkt_3, xkt_4, xkt_5, xkt_6, xkt_7, xkt_8, xkt_9, xkt_10, xkt_11, xkt_12, xkt_13, xkt_14, xkt_16, xkt_20, xkt_24, xkt_31, xkt_32, xkt_40, xkt_44, xkt_47, xkt_48, xkt_57, xkt_59, xkt_60, xkt_63, xkt_64, xkt_65, xkt_72, xkt_95, xkt_99, xkt_100, xkt_101, xkt_103, xkt_110, xkt_112, xkt_113, xkt_114, xkt_119, xkt_126, xkt_159, xkt_576, xkt_999, xkt_9999, xkt_65536, xkt_999999, xkt_m1, xkt_m2, xkt_m3, xkt_m4, xkt_m11, xkt_m12, xkt_m13, xkt_m14, xkt_m20, xjt_0, xjt_1, xjt_2, xjt_3, xjt_4, xjt_5, xjt_6, xjt_7, xjt_8, xjt_9, xjt_10, xjt_11, xjt_12, xjt_13, xjt_14, xjt_16, xjt_20, xjt_24, xjt_31, xjt_32, xjt_40, xjt_44, xjt_47, xjt_48, xjt_57, xjt_59, xjt_60, xjt_63, xjt_64, xjt_65, xjt_72, xjt_95, xjt_99, xjt_100, xjt_101, xjt_103, xjt_110, xjt_112, xjt_113, xjt_114, xjt_119, xjt_126, xjt_159, xjt_576, xjt_999, xjt_9999, xjt_65536, xjt_999999, xt64, xt_n, not_true_eq_false, not_false_eq_true, Classical.not_not] at c_6
      all_goals omega

theorem c_findTins {d : Nat} {b : Bool} {I : Nat → Nat → Int32} {L : Nat → Nat → Int64} {N : Nat → Nat} (hN : xPN N 1 I) (hO : xOK N) {s : Nat} (hs : s < 4) {j n : Nat} {ce te : Nat → Nat} (hq : xtn N (L (53 + 2 * s)) j n ce te) (hj : j + 2 * n ≤ 24) {m : Nat} (bm : m ≤ 20) {x1 : Int32} (e_x1 : x1 = nI j) {x2 : Int32} (e_x2 : x2 = nI n) {x3 : Int32} (e_x3 : x3 = nI m) : xm_Z (d + 6) 95 [.ref 24, .ref (53 + 2 * s), .int x1, .int x2, .int x3] (xS b, I, L, xP b) (fun rz hz => rz = none ∧ ∃ I', hz = (xS b, I', L, xP b) ∧ xFF I I' ∧ I' 24 10 = nI (xcnt (xfw N m ce te n) (2 ^ N 2)) ∧ I' 24 11 = xfs (xfw N m ce te n) (2 ^ N 2)) := by
  subst e_x1
  subst e_x2
  subst e_x3
  have hb := hO.1
  have c64 : N 0 * N 1 ≤ 64 := xce_le hO
  have c4 : 4 ≤ N 0 * N 1 := xce_ge hO
  have w32 := xp32 hb.2.2.2.2.1
  refine xw_S xb_95 (l := [.ref 24, .ref (53 + 2 * s), .int (nI j), .int (nI n), .int (nI m), .float 0]) (Nat.le_of_ble_eq_true rfl) rfl ?_
  refine xw_go xb_95 8 (f1 := (14, [.ref 24, .ref (53 + 2 * s), .int (nI j), .int (nI n), .int (nI m), .int 0], [])) (h1 := (xS b, xm_up (xm_up I 24 10 0) 24 11 (-4), L, xP b)) rfl ⟨rfl, rfl, trivial⟩ ?_
  refine xw_loopP (2 ^ N 2) (fun w => (14, [.ref 24, .ref (53 + 2 * s), .int (nI j), .int (nI n), .int (nI m), .int (nI w)], [])) (fun w h => ∃ J, h = (xS b, J, L, xP b) ∧ xFF I J ∧ J 24 10 = nI (xcnt (xfw N m ce te n) w) ∧ J 24 11 = xfs (xfw N m ce te n) w) (fun w h hw hV ih => ?_) (fun h hV => ?_) 0 _ (Nat.zero_le _) ?_
  · obtain ⟨J, rfl, j1, j4, j5⟩ := hV
    have hNJ := xFF_N j1 (by omega) hN
    refine xw_go xb_95 6 (f1 := (25, [.ref 24, .ref (53 + 2 * s), .int (nI j), .int (nI n), .int (nI m), .int (nI w)], [.int (1 <<< ((J 1 5) &&& 31)), .int (nI w)])) (h1 := (xS b, J, L, xP b)) rfl ⟨rfl, rfl, trivial⟩ ?_
    refine xw_cong (l' := [.ref 24, .ref (53 + 2 * s), .int (nI j), .int (nI n), .int (nI m), .int (nI w)]) (st' := [.int (nI (2 ^ N 2)), .int (nI w)]) (h' := (xS b, J, L, xP b)) rfl (show ([.int (1 <<< ((J 1 5) &&& 31)), .int (nI w)] : List Value) = [.int (nI (2 ^ N 2)), .int (nI w)] from ?_) rfl ?_
    · rw [hNJ.1.2.2.1, xsh _ (by omega)]
    refine xw_go xb_95 1 (f1 := (if (nI (2 ^ N 2)) ≤ (nI w) then 85 else 28, [.ref 24, .ref (53 + 2 * s), .int (nI j), .int (nI n), .int (nI m), .int (nI w)], [])) (h1 := (xS b, J, L, xP b)) rfl trivial ?_
    refine xw_if (fun c_25 => ?_) (fun c_25 => ?_)
    · skip
      exfalso
      try simp only [xB_dec, Classical.not_not] at c_25
      try simp (disch := omega) only [xt_eq, xt_lt, xt_le, xkt_0, xkt_1, xkt_2, xkt_3, xkt_4, xkt_5, xkt_6, xkt_7, xkt_8, xkt_9, xkt_10, xkt_11, xkt_12, xkt_13, xkt_14, xkt_16, xkt_20, xkt_24, xkt_31, xkt_32, xkt_40, xkt_44, xkt_47, xkt_48, xkt_57, xkt_59, xkt_60, xkt_63, xkt_64, xkt_65, xkt_72, xkt_95, xkt_99, xkt_100, xkt_101, xkt_103, xkt_110, xkt_112, xkt_113, xkt_114, xkt_119, xkt_126, xkt_159, xkt_576, xkt_999, xkt_9999, xkt_65536, xkt_999999, xkt_m1, xkt_m2, xkt_m3, xkt_m4, xkt_m11, xkt_m12, xkt_m13, xkt_m14, xkt_m20, xjt_0, xjt_1, xjt_2, xjt_3, xjt_4, xjt_5, xjt_6, xjt_7, xjt_8, xjt_9, xjt_10, xjt_11, xjt_12, xjt_13, xjt_14, xjt_16, xjt_20, xjt_24, xjt_31, xjt_32, xjt_40, xjt_44, xjt_47, xjt_48, xjt_57, xjt_59, xjt_60, xjt_63, xjt_64, xjt_65, xjt_72, xjt_95, xjt_99, xjt_100, xjt_101, xjt_103, xjt_110, xjt_112, xjt_113, xjt_114, xjt_119, xjt_126, xjt_159, xjt_576, xjt_999, xjt_9999, xjt_65536, xjt_999999, xt64, xt_n, not_true_eq_false, not_false_eq_true, Classical.not_not] at c_25
      all_goals omega
    · skip
      refine xw_go xb_95 3 (f1 := (33, [.ref 24, .ref (53 + 2 * s), .int (nI j), .int (nI n), .int (nI m), .int (nI w)], [.int (nI m), .int (nI w), .ref 24])) (h1 := (xS b, J, L, xP b)) rfl trivial ?_
      refine xw_call xb_95 rfl rfl rfl rfl rfl (Or.inr ⟨_, _, rfl, rfl⟩) (c_wetBySet (I := J) hNJ hO (o := w) (n := m) (by omega) (by omega) rfl rfl) ?_
      rintro _ _ ⟨rfl, J1, rfl, g1, g3, _, g2⟩
      have g24 : J1 24 = J 24 := g3 24 (by decide) (by decide) (by decide) (by decide) (by decide)
      refine xw_at (f' := (36, [.ref 24, .ref (53 + 2 * s), .int (nI j), .int (nI n), .int (nI m), .int (nI w)], [.ref 25])) (h' := (xS b, J1, L, xP b)) rfl rfl ?_
      refine xw_go xb_95 5 (f1 := (41, [.ref 24, .ref (53 + 2 * s), .int (nI j), .int (nI n), .int (nI m), .int (nI w)], [.int (nI n), .int (nI j), .ref (53 + 2 * s), .ref 24])) (h1 := (xS b, J1, L, xP b)) rfl trivial ?_
      refine xw_call xb_95 rfl rfl rfl rfl rfl (Or.inr ⟨_, _, rfl, rfl⟩) (c_isAsTold (I := J1) (xFF_N (xFF_t j1 g1) (by omega) hN) hO hs hq hj (Wv := fun c => xgoN N (xfa N w (N 5)) m (95 + c)) (fun c hc => ⟨(xgo_ge hO hc).1, g2 c hc, (xgo_ge hO hc).2⟩) rfl rfl) ?_
      rintro _ _ ⟨rfl, rfl⟩
      refine xw_at (f' := (44, [.ref 24, .ref (53 + 2 * s), .int (nI j), .int (nI n), .int (nI m), .int (nI w)], [.int (nI (xB (xfw N m ce te n w)))])) (h' := (xS b, J1, L, xP b)) rfl rfl ?_
      refine xw_go xb_95 1 (f1 := (if (nI (xB (xfw N m ce te n w))) = 0 then 79 else 47, [.ref 24, .ref (53 + 2 * s), .int (nI j), .int (nI n), .int (nI m), .int (nI w)], [])) (h1 := (xS b, J1, L, xP b)) rfl trivial ?_
      refine xw_if (fun c_44 => ?_) (fun c_44 => ?_)
      · skip
        refine xw_go xb_95 2 (f1 := (14, [.ref 24, .ref (53 + 2 * s), .int (nI j), .int (nI n), .int (nI m), .int ((nI w) + 1)], [])) (h1 := (xS b, J1, L, xP b)) rfl trivial ?_
        have hf : xfw N m ce te n w = false := (xB_eq0 _).mp c_44
        refine xw_cong ?_ rfl rfl (ih _ ⟨_, rfl, xFF_t j1 g1, ?_, ?_⟩)
        · rw [nI_1]
        · rw [g24, j4]
          show _ = nI (xcnt _ w + xB (xfw N m ce te n w))
          rw [hf]
          rfl
        · rw [g24, j5]
          show _ = if _ then _ else _
          rw [if_neg (by rw [hf]; simp)]
      · skip
        refine xw_go xb_95 11 (f1 := (if ¬ ((xm_up J1 24 10 ((J1 24 10) + 1)) 24 11) = (-4) then 72 else 67, [.ref 24, .ref (53 + 2 * s), .int (nI j), .int (nI n), .int (nI m), .int (nI w)], [.ref 24])) (h1 := (xS b, xm_up J1 24 10 ((J1 24 10) + 1), L, xP b)) rfl ⟨rfl, rfl, rfl, trivial⟩ ?_
        refine xw_if (fun c_64 => ?_) (fun c_64 => ?_)
        · skip
          refine xw_go xb_95 5 (f1 := (14, [.ref 24, .ref (53 + 2 * s), .int (nI j), .int (nI n), .int (nI m), .int ((nI w) + 1)], [])) (h1 := (xS b, xm_up (xm_up J1 24 10 ((J1 24 10) + 1)) 24 11 ((xm_up J1 24 10 ((J1 24 10) + 1)) 24 11), L, xP b)) rfl ⟨rfl, rfl, trivial⟩ ?_
          have hf : xfw N m ce te n w = true := by rw [xB_eq0] at c_44; simpa using c_44
          rw [xm_up_ne (Or.inr (by decide)), g24, j5] at c_64
          refine xw_cong ?_ rfl rfl (ih _ ⟨_, rfl, xFF_u (xFF_u (xFF_t j1 g1) (by decide)) (by decide), ?_, ?_⟩)
          · rw [nI_1]
          · rw [xm_up_ne (Or.inr (by decide)), xm_up_at, g24, j4, nI_1]
            show _ = nI (xcnt _ w + xB (xfw N m ce te n w))
            rw [hf]
            rfl
          · rw [xm_up_at]
            show _ = if _ then _ else _
            rw [if_neg (fun q => c_64 q.1), xm_up_ne (Or.inr (by decide)), g24, j5]
        · skip
          refine xw_go xb_95 5 (f1 := (14, [.ref 24, .ref (53 + 2 * s), .int (nI j), .int (nI n), .int (nI m), .int ((nI w) + 1)], [])) (h1 := (xS b, xm_up (xm_up J1 24 10 ((J1 24 10) + 1)) 24 11 (nI w), L, xP b)) rfl ⟨rfl, trivial⟩ ?_
          have hf : xfw N m ce te n w = true := by rw [xB_eq0] at c_44; simpa using c_44
          rw [xm_up_ne (Or.inr (by decide)), g24, j5] at c_64
          refine xw_cong ?_ rfl rfl (ih _ ⟨_, rfl, xFF_u (xFF_u (xFF_t j1 g1) (by decide)) (by decide), ?_, ?_⟩)
          · rw [nI_1]
          · rw [xm_up_ne (Or.inr (by decide)), xm_up_at, g24, j4, nI_1]
            show _ = nI (xcnt _ w + xB (xfw N m ce te n w))
            rw [hf]
            rfl
          · rw [xm_up_at]
            show _ = if _ then _ else _
            rw [if_pos ⟨Classical.not_not.mp c_64, hf⟩]
  · obtain ⟨J, rfl, j1, j4, j5⟩ := hV
    have hNJ := xFF_N j1 (by omega) hN
    refine xw_go xb_95 6 (f1 := (25, [.ref 24, .ref (53 + 2 * s), .int (nI j), .int (nI n), .int (nI m), .int (nI (2 ^ N 2))], [.int (1 <<< ((J 1 5) &&& 31)), .int (nI (2 ^ N 2))])) (h1 := (xS b, J, L, xP b)) rfl ⟨rfl, rfl, trivial⟩ ?_
    refine xw_cong (l' := [.ref 24, .ref (53 + 2 * s), .int (nI j), .int (nI n), .int (nI m), .int (nI (2 ^ N 2))]) (st' := [.int (nI (2 ^ N 2)), .int (nI (2 ^ N 2))]) (h' := (xS b, J, L, xP b)) rfl (show ([.int (1 <<< ((J 1 5) &&& 31)), .int (nI (2 ^ N 2))] : List Value) = [.int (nI (2 ^ N 2)), .int (nI (2 ^ N 2))] from ?_) rfl ?_
    · rw [hNJ.1.2.2.1, xsh _ (by omega)]
    refine xw_go xb_95 1 (f1 := (if (nI (2 ^ N 2)) ≤ (nI (2 ^ N 2)) then 85 else 28, [.ref 24, .ref (53 + 2 * s), .int (nI j), .int (nI n), .int (nI m), .int (nI (2 ^ N 2))], [])) (h1 := (xS b, J, L, xP b)) rfl trivial ?_
    refine xw_if (fun c_25 => ?_) (fun c_25 => ?_)
    · skip
      refine xw_ret xb_95 rfl rfl trivial ?_
      exact ⟨rfl, J, rfl, j1, j4, j5⟩
    · skip
      exfalso
      try simp only [xB_dec, Classical.not_not] at c_25
      try simp (disch := omega) only [xt_eq, xt_lt, xt_le, xkt_0, xkt_1, xkt_2, xkt_3, xkt_4, xkt_5, xkt_6, xkt_7, xkt_8, xkt_9, xkt_10, xkt_11, xkt_12, xkt_13, xkt_14, xkt_16, xkt_20, xkt_24, xkt_31, xkt_32, xkt_40, xkt_44, xkt_47, xkt_48, xkt_57, xkt_59, xkt_60, xkt_63, xkt_64, xkt_65, xkt_72, xkt_95, xkt_99, xkt_100, xkt_101, xkt_103, xkt_110, xkt_112, xkt_113, xkt_114, xkt_119, xkt_126, xkt_159, xkt_576, xkt_999, xkt_9999, xkt_65536, xkt_999999, xkt_m1, xkt_m2, xkt_m3, xkt_m4, xkt_m11, xkt_m12, xkt_m13, xkt_m14, xkt_m20, xjt_0, xjt_1, xjt_2, xjt_3, xjt_4, xjt_5, xjt_6, xjt_7, xjt_8, xjt_9, xjt_10, xjt_11, xjt_12, xjt_13, xjt_14, xjt_16, xjt_20, xjt_24, xjt_31, xjt_32, xjt_40, xjt_44, xjt_47, xjt_48, xjt_57, xjt_59, xjt_60, xjt_63, xjt_64, xjt_65, xjt_72, xjt_95, xjt_99, xjt_100, xjt_101, xjt_103, xjt_110, xjt_112, xjt_113, xjt_114, xjt_119, xjt_126, xjt_159, xjt_576, xjt_999, xjt_9999, xjt_65536, xjt_999999, xt64, xt_n, not_true_eq_false, not_false_eq_true, Classical.not_not] at c_25
      all_goals omega
  · exact ⟨_, rfl, xFF_u (xFF_u (xFF_r I) (by decide)) (by decide), rfl, rfl⟩

theorem c_tins0 {d : Nat} {b : Bool} {I : Nat → Nat → Int32} {L : Nat → Nat → Int64} {N : Nat → Nat} {u : Nat} {U : Nat → Nat → Nat} (hP : xPL N u U 1 I) (hK : xUK N u U) {x y i z v w : Int32} (hx : ¬ (1 ≤ z.toInt ∧ z.toInt ≤ 8 ∧ 1 ≤ v.toInt ∧ v.toInt ≤ 20 ∧ 0 ≤ w.toInt ∧ w.toInt ≤ 1)) : xm_Z (d + 7) 92 [.ref 0, .int x, .int y, .int i, .int z, .int v, .int w] (xS b, I, L, xP b) (fun rz hz => xQC b I L (-1) N u U rz hz) := by
  refine xw_S xb_92 (l := [.ref 0, .int x, .int y, .int i, .int z, .int v, .int w, .float 0, .float 0, .float 0, .float 0, .float 0, .float 0, .float 0]) (Nat.le_of_ble_eq_true rfl) rfl ?_
  refine xw_go xb_92 3 (f1 := (5, [.ref 0, .int x, .int y, .int i, .int z, .int v, .int w, .float 0, .float 0, .float 0, .float 0, .float 0, .float 0, .float 0], [.int 8, .int 1, .int z])) (h1 := (xS b, I, L, xP b)) rfl trivial ?_
  refine xw_call xb_92 rfl rfl rfl rfl rfl (Or.inl rfl) c_within ?_
  rintro _ _ ⟨rfl, rfl⟩
  refine xw_at (f' := (8, [.ref 0, .int x, .int y, .int i, .int z, .int v, .int w, .float 0, .float 0, .float 0, .float 0, .float 0, .float 0, .float 0], [.int (nI (xB (decide ((1 : Int32).toInt ≤ z.toInt ∧ z.toInt ≤ (8 : Int32).toInt))))])) (h' := (xS b, I, L, xP b)) rfl rfl ?_
  refine xw_go xb_92 1 (f1 := (if (nI (xB (decide ((1 : Int32).toInt ≤ z.toInt ∧ z.toInt ≤ (8 : Int32).toInt)))) = 0 then 32 else 11, [.ref 0, .int x, .int y, .int i, .int z, .int v, .int w, .float 0, .float 0, .float 0, .float 0, .float 0, .float 0, .float 0], [])) (h1 := (xS b, I, L, xP b)) rfl trivial ?_
  refine xw_if (fun c_8 => ?_) (fun c_8 => ?_)
  · skip
    refine xw_go xb_92 1 (f1 := (33, [.ref 0, .int x, .int y, .int i, .int z, .int v, .int w, .float 0, .float 0, .float 0, .float 0, .float 0, .float 0, .float 0], [.int (-1)])) (h1 := (xS b, I, L, xP b)) rfl trivial ?_
    refine xw_ret xb_92 rfl rfl trivial ?_
    exact xQC_same hP
  · skip
    refine xw_go xb_92 3 (f1 := (16, [.ref 0, .int x, .int y, .int i, .int z, .int v, .int w, .float 0, .float 0, .float 0, .float 0, .float 0, .float 0, .float 0], [.int 20, .int 1, .int v])) (h1 := (xS b, I, L, xP b)) rfl trivial ?_
    refine xw_call xb_92 rfl rfl rfl rfl rfl (Or.inl rfl) c_within ?_
    rintro _ _ ⟨rfl, rfl⟩
    refine xw_at (f' := (19, [.ref 0, .int x, .int y, .int i, .int z, .int v, .int w, .float 0, .float 0, .float 0, .float 0, .float 0, .float 0, .float 0], [.int (nI (xB (decide ((1 : Int32).toInt ≤ v.toInt ∧ v.toInt ≤ (20 : Int32).toInt))))])) (h' := (xS b, I, L, xP b)) rfl rfl ?_
    refine xw_go xb_92 1 (f1 := (if (nI (xB (decide ((1 : Int32).toInt ≤ v.toInt ∧ v.toInt ≤ (20 : Int32).toInt)))) = 0 then 32 else 22, [.ref 0, .int x, .int y, .int i, .int z, .int v, .int w, .float 0, .float 0, .float 0, .float 0, .float 0, .float 0, .float 0], [])) (h1 := (xS b, I, L, xP b)) rfl trivial ?_
    refine xw_if (fun c_19 => ?_) (fun c_19 => ?_)
    · skip
      refine xw_go xb_92 1 (f1 := (33, [.ref 0, .int x, .int y, .int i, .int z, .int v, .int w, .float 0, .float 0, .float 0, .float 0, .float 0, .float 0, .float 0], [.int (-1)])) (h1 := (xS b, I, L, xP b)) rfl trivial ?_
      refine xw_ret xb_92 rfl rfl trivial ?_
      exact xQC_same hP
    · skip
      refine xw_go xb_92 3 (f1 := (26, [.ref 0, .int x, .int y, .int i, .int z, .int v, .int w, .float 0, .float 0, .float 0, .float 0, .float 0, .float 0, .float 0], [.int 1, .int 0, .int w])) (h1 := (xS b, I, L, xP b)) rfl trivial ?_
      refine xw_call xb_92 rfl rfl rfl rfl rfl (Or.inl rfl) c_within ?_
      rintro _ _ ⟨rfl, rfl⟩
      refine xw_at (f' := (29, [.ref 0, .int x, .int y, .int i, .int z, .int v, .int w, .float 0, .float 0, .float 0, .float 0, .float 0, .float 0, .float 0], [.int (nI (xB (decide ((0 : Int32).toInt ≤ w.toInt ∧ w.toInt ≤ (1 : Int32).toInt))))])) (h' := (xS b, I, L, xP b)) rfl rfl ?_
      refine xw_go xb_92 1 (f1 := (if ¬ (nI (xB (decide ((0 : Int32).toInt ≤ w.toInt ∧ w.toInt ≤ (1 : Int32).toInt)))) = 0 then 34 else 32, [.ref 0, .int x, .int y, .int i, .int z, .int v, .int w, .float 0, .float 0, .float 0, .float 0, .float 0, .float 0, .float 0], [])) (h1 := (xS b, I, L, xP b)) rfl trivial ?_
      refine xw_if (fun c_29 => ?_) (fun c_29 => ?_)
      · skip
        exfalso
        try simp only [xB_dec, Classical.not_not] at c_8 c_19 c_29
        try simp (disch := omega) only [xt_eq, xt_lt, xt_le, xkt_0, xkt_1, xkt_2, xkt_3, xkt_4, xkt_5, xkt_6, xkt_7, xkt_8, xkt_9, xkt_10, xkt_11, xkt_12, xkt_13, xkt_14, xkt_16, xkt_20, xkt_24, xkt_31, xkt_32, xkt_40, xkt_44, xkt_47, xkt_48, xkt_57, xkt_59, xkt_60, xkt_63, xkt_64, xkt_65, xkt_72, xkt_95, xkt_99, xkt_100, xkt_101, xkt_103, xkt_110, xkt_112, xkt_113, xkt_114, xkt_119, xkt_126, xkt_159, xkt_576, xkt_999, xkt_9999, xkt_65536, xkt_999999, xkt_m1, xkt_m2, xkt_m3, xkt_m4, xkt_m11, xkt_m12, xkt_m13, xkt_m14, xkt_m20, xjt_0, xjt_1, xjt_2, xjt_3, xjt_4, xjt_5, xjt_6, xjt_7, xjt_8, xjt_9, xjt_10, xjt_11, xjt_12, xjt_13, xjt_14, xjt_16, xjt_20, xjt_24, xjt_31, xjt_32, xjt_40, xjt_44, xjt_47, xjt_48, xjt_57, xjt_59, xjt_60, xjt_63, xjt_64, xjt_65, xjt_72, xjt_95, xjt_99, xjt_100, xjt_101, xjt_103, xjt_110, xjt_112, xjt_113, xjt_114, xjt_119, xjt_126, xjt_159, xjt_576, xjt_999, xjt_9999, xjt_65536, xjt_999999, xt64, xt_n, not_true_eq_false, not_false_eq_true, Classical.not_not] at c_8 c_19 c_29
        all_goals omega
      · skip
        refine xw_go xb_92 1 (f1 := (33, [.ref 0, .int x, .int y, .int i, .int z, .int v, .int w, .float 0, .float 0, .float 0, .float 0, .float 0, .float 0, .float 0], [.int (-1)])) (h1 := (xS b, I, L, xP b)) rfl trivial ?_
        refine xw_ret xb_92 rfl rfl trivial ?_
        exact xQC_same hP

theorem c_tins1 {d : Nat} {b : Bool} {I : Nat → Nat → Int32} {L : Nat → Nat → Int64} {N : Nat → Nat} {u : Nat} {U : Nat → Nat → Nat} (hP : xPL N u U 1 I) (hK : xUK N u U) {n m t : Nat} (hn : 1 ≤ n ∧ n ≤ 8) (hm : 1 ≤ m ∧ m ≤ 20) (ht : t < 2) {x y i : Int32} (hx : ¬ (0 ≤ x.toInt ∧ x.toInt ≤ 3 ∧ 0 ≤ y.toInt ∧ y.toInt ≤ 3)) {z : Int32} (e_z : z = nI n) {v : Int32} (e_v : v = nI m) {w : Int32} (e_w : w = nI t) : xm_Z (d + 7) 92 [.ref 0, .int x, .int y, .int i, .int z, .int v, .int w] (xS b, I, L, xP b) (fun rz hz => xQC b I L (-1) N u U rz hz) := by
  subst e_z
  subst e_v
  subst e_w
  refine xw_S xb_92 (l := [.ref 0, .int x, .int y, .int i, .int (nI n), .int (nI m), .int (nI t), .float 0, .float 0, .float 0, .float 0, .float 0, .float 0, .float 0]) (Nat.le_of_ble_eq_true rfl) rfl ?_
  refine xw_go xb_92 3 (f1 := (5, [.ref 0, .int x, .int y, .int i, .int (nI n), .int (nI m), .int (nI t), .float 0, .float 0, .float 0, .float 0, .float 0, .float 0, .float 0], [.int 8, .int 1, .int (nI n)])) (h1 := (xS b, I, L, xP b)) rfl trivial ?_
  refine xw_call xb_92 rfl rfl rfl rfl rfl (Or.inl rfl) c_within ?_
  rintro _ _ ⟨rfl, rfl⟩
  refine xw_at (f' := (8, [.ref 0, .int x, .int y, .int i, .int (nI n), .int (nI m), .int (nI t), .float 0, .float 0, .float 0, .float 0, .float 0, .float 0, .float 0], [.int (nI (xB (decide ((1 : Int32).toInt ≤ (nI n).toInt ∧ (nI n).toInt ≤ (8 : Int32).toInt))))])) (h' := (xS b, I, L, xP b)) rfl rfl ?_
  refine xw_go xb_92 1 (f1 := (if (nI (xB (decide ((1 : Int32).toInt ≤ (nI n).toInt ∧ (nI n).toInt ≤ (8 : Int32).toInt)))) = 0 then 32 else 11, [.ref 0, .int x, .int y, .int i, .int (nI n), .int (nI m), .int (nI t), .float 0, .float 0, .float 0, .float 0, .float 0, .float 0, .float 0], [])) (h1 := (xS b, I, L, xP b)) rfl trivial ?_
  refine xw_if (fun c_8 => ?_) (fun c_8 => ?_)
  · skip
    exfalso
    try simp only [xB_dec, Classical.not_not] at c_8
    try simp (disch := omega) only [xt_eq, xt_lt, xt_le, xkt_0, xkt_1, xkt_2, xkt_3, xkt_4, xkt_5, xkt_6, xkt_7, xkt_8, xkt_9, xkt_10, xkt_11, xkt_12, xkt_13, xkt_14, xkt_16, xkt_20, xkt_24, xkt_31, xkt_32, xkt_40, xkt_44, xkt_47, xkt_48, xkt_57, xkt_59, xkt_60, xkt_63, xkt_64, xkt_65, xkt_72, xkt_95, xkt_99, xkt_100, xkt_101, xkt_103, xkt_110, xkt_112, xkt_113, xkt_114, xkt_119, xkt_126, xkt_159, xkt_576, xkt_999, xkt_9999, xkt_65536, xkt_999999, xkt_m1, xkt_m2, xkt_m3, xkt_m4, xkt_m11, xkt_m12, xkt_m13, xkt_m14, xkt_m20, xjt_0, xjt_1, xjt_2, xjt_3, xjt_4, xjt_5, xjt_6, xjt_7, xjt_8, xjt_9, xjt_10, xjt_11, xjt_12, xjt_13, xjt_14, xjt_16, xjt_20, xjt_24, xjt_31, xjt_32, xjt_40, xjt_44, xjt_47, xjt_48, xjt_57, xjt_59, xjt_60, xjt_63, xjt_64, xjt_65, xjt_72, xjt_95, xjt_99, xjt_100, xjt_101, xjt_103, xjt_110, xjt_112, xjt_113, xjt_114, xjt_119, xjt_126, xjt_159, xjt_576, xjt_999, xjt_9999, xjt_65536, xjt_999999, xt64, xt_n, not_true_eq_false, not_false_eq_true, Classical.not_not] at c_8
    all_goals omega
  · skip
    refine xw_go xb_92 3 (f1 := (16, [.ref 0, .int x, .int y, .int i, .int (nI n), .int (nI m), .int (nI t), .float 0, .float 0, .float 0, .float 0, .float 0, .float 0, .float 0], [.int 20, .int 1, .int (nI m)])) (h1 := (xS b, I, L, xP b)) rfl trivial ?_
    refine xw_call xb_92 rfl rfl rfl rfl rfl (Or.inl rfl) c_within ?_
    rintro _ _ ⟨rfl, rfl⟩
    refine xw_at (f' := (19, [.ref 0, .int x, .int y, .int i, .int (nI n), .int (nI m), .int (nI t), .float 0, .float 0, .float 0, .float 0, .float 0, .float 0, .float 0], [.int (nI (xB (decide ((1 : Int32).toInt ≤ (nI m).toInt ∧ (nI m).toInt ≤ (20 : Int32).toInt))))])) (h' := (xS b, I, L, xP b)) rfl rfl ?_
    refine xw_go xb_92 1 (f1 := (if (nI (xB (decide ((1 : Int32).toInt ≤ (nI m).toInt ∧ (nI m).toInt ≤ (20 : Int32).toInt)))) = 0 then 32 else 22, [.ref 0, .int x, .int y, .int i, .int (nI n), .int (nI m), .int (nI t), .float 0, .float 0, .float 0, .float 0, .float 0, .float 0, .float 0], [])) (h1 := (xS b, I, L, xP b)) rfl trivial ?_
    refine xw_if (fun c_19 => ?_) (fun c_19 => ?_)
    · skip
      exfalso
      try simp only [xB_dec, Classical.not_not] at c_8 c_19
      try simp (disch := omega) only [xt_eq, xt_lt, xt_le, xkt_0, xkt_1, xkt_2, xkt_3, xkt_4, xkt_5, xkt_6, xkt_7, xkt_8, xkt_9, xkt_10, xkt_11, xkt_12, xkt_13, xkt_14, xkt_16, xkt_20, xkt_24, xkt_31, xkt_32, xkt_40, xkt_44, xkt_47, xkt_48, xkt_57, xkt_59, xkt_60, xkt_63, xkt_64, xkt_65, xkt_72, xkt_95, xkt_99, xkt_100, xkt_101, xkt_103, xkt_110, xkt_112, xkt_113, xkt_114, xkt_119, xkt_126, xkt_159, xkt_576, xkt_999, xkt_9999, xkt_65536, xkt_999999, xkt_m1, xkt_m2, xkt_m3, xkt_m4, xkt_m11, xkt_m12, xkt_m13, xkt_m14, xkt_m20, xjt_0, xjt_1, xjt_2, xjt_3, xjt_4, xjt_5, xjt_6, xjt_7, xjt_8, xjt_9, xjt_10, xjt_11, xjt_12, xjt_13, xjt_14, xjt_16, xjt_20, xjt_24, xjt_31, xjt_32, xjt_40, xjt_44, xjt_47, xjt_48, xjt_57, xjt_59, xjt_60, xjt_63, xjt_64, xjt_65, xjt_72, xjt_95, xjt_99, xjt_100, xjt_101, xjt_103, xjt_110, xjt_112, xjt_113, xjt_114, xjt_119, xjt_126, xjt_159, xjt_576, xjt_999, xjt_9999, xjt_65536, xjt_999999, xt64, xt_n, not_true_eq_false, not_false_eq_true, Classical.not_not] at c_8 c_19
      all_goals omega
    · skip
      refine xw_go xb_92 3 (f1 := (26, [.ref 0, .int x, .int y, .int i, .int (nI n), .int (nI m), .int (nI t), .float 0, .float 0, .float 0, .float 0, .float 0, .float 0, .float 0], [.int 1, .int 0, .int (nI t)])) (h1 := (xS b, I, L, xP b)) rfl trivial ?_
      refine xw_call xb_92 rfl rfl rfl rfl rfl (Or.inl rfl) c_within ?_
      rintro _ _ ⟨rfl, rfl⟩
      refine xw_at (f' := (29, [.ref 0, .int x, .int y, .int i, .int (nI n), .int (nI m), .int (nI t), .float 0, .float 0, .float 0, .float 0, .float 0, .float 0, .float 0], [.int (nI (xB (decide ((0 : Int32).toInt ≤ (nI t).toInt ∧ (nI t).toInt ≤ (1 : Int32).toInt))))])) (h' := (xS b, I, L, xP b)) rfl rfl ?_
      refine xw_go xb_92 1 (f1 := (if ¬ (nI (xB (decide ((0 : Int32).toInt ≤ (nI t).toInt ∧ (nI t).toInt ≤ (1 : Int32).toInt)))) = 0 then 34 else 32, [.ref 0, .int x, .int y, .int i, .int (nI n), .int (nI m), .int (nI t), .float 0, .float 0, .float 0, .float 0, .float 0, .float 0, .float 0], [])) (h1 := (xS b, I, L, xP b)) rfl trivial ?_
      refine xw_if (fun c_29 => ?_) (fun c_29 => ?_)
      · skip
        refine xw_go xb_92 7 (f1 := (42, [.ref 0, .int x, .int y, .int i, .int (nI n), .int (nI m), .int (nI t), .float 0, .float 0, .float 0, .float 0, .float 0, .float 0, .float 0], [.int (2 * (nI n)), .int i, .int y, .int x, .ref 0])) (h1 := (xS b, I, L, xP b)) rfl trivial ?_
        refine xw_call xb_92 rfl rfl rfl rfl rfl (Or.inr ⟨_, _, rfl, rfl⟩) (c_refusal0 hx) ?_
        rintro _ _ ⟨rfl, rfl⟩
        refine xw_at (f' := (45, [.ref 0, .int x, .int y, .int i, .int (nI n), .int (nI m), .int (nI t), .float 0, .float 0, .float 0, .float 0, .float 0, .float 0, .float 0], [.int (-1)])) (h' := (xS b, I, L, xP b)) rfl rfl ?_
        refine xw_go xb_92 4 (f1 := (54, [.ref 0, .int x, .int y, .int i, .int (nI n), .int (nI m), .int (nI t), .int (-1), .float 0, .float 0, .float 0, .float 0, .float 0, .float 0], [.int (-1)])) (h1 := (xS b, I, L, xP b)) rfl trivial ?_
        refine xw_ret xb_92 rfl rfl trivial ?_
        exact xQC_same hP
      · skip
        exfalso
        try simp only [xB_dec, Classical.not_not] at c_8 c_19 c_29
        try simp (disch := omega) only [xt_eq, xt_lt, xt_le, xkt_0, xkt_1, xkt_2, xkt_3, xkt_4, xkt_5, xkt_6, xkt_7, xkt_8, xkt_9, xkt_10, xkt_11, xkt_12, xkt_13, xkt_14, xkt_16, xkt_20, xkt_24, xkt_31, xkt_32, xkt_40, xkt_44, xkt_47, xkt_48, xkt_57, xkt_59, xkt_60, xkt_63, xkt_64, xkt_65, xkt_72, xkt_95, xkt_99, xkt_100, xkt_101, xkt_103, xkt_110, xkt_112, xkt_113, xkt_114, xkt_119, xkt_126, xkt_159, xkt_576, xkt_999, xkt_9999, xkt_65536, xkt_999999, xkt_m1, xkt_m2, xkt_m3, xkt_m4, xkt_m11, xkt_m12, xkt_m13, xkt_m14, xkt_m20, xjt_0, xjt_1, xjt_2, xjt_3, xjt_4, xjt_5, xjt_6, xjt_7, xjt_8, xjt_9, xjt_10, xjt_11, xjt_12, xjt_13, xjt_14, xjt_16, xjt_20, xjt_24, xjt_31, xjt_32, xjt_40, xjt_44, xjt_47, xjt_48, xjt_57, xjt_59, xjt_60, xjt_63, xjt_64, xjt_65, xjt_72, xjt_95, xjt_99, xjt_100, xjt_101, xjt_103, xjt_110, xjt_112, xjt_113, xjt_114, xjt_119, xjt_126, xjt_159, xjt_576, xjt_999, xjt_9999, xjt_65536, xjt_999999, xt64, xt_n, not_true_eq_false, not_false_eq_true, Classical.not_not] at c_8 c_19 c_29
        all_goals omega

theorem c_tins2 {d : Nat} {b : Bool} {I : Nat → Nat → Int32} {L : Nat → Nat → Int64} {N : Nat → Nat} {u : Nat} {U : Nat → Nat → Nat} (hP : xPL N u U 1 I) (hK : xUK N u U) {Y : xY} (hS : xSH Y I L) (hY : xYK Y) {n m t : Nat} (hn : 1 ≤ n ∧ n ≤ 8) (hm : 1 ≤ m ∧ m ≤ 20) (ht : t < 2) {s : Nat} (hs : s < 4) {la : Nat} (bl : la < 4) {i : Int32} (hw : xwy (Y s) la i (nI (2 * n)) ≠ 0) {x : Int32} (e_x : x = nI s) {y : Int32} (e_y : y = nI la) {z : Int32} (e_z : z = nI n) {v : Int32} (e_v : v = nI m) {w : Int32} (e_w : w = nI t) : xm_Z (d + 7) 92 [.ref 0, .int x, .int y, .int i, .int z, .int v, .int w] (xS b, I, L, xP b) (fun rz hz => xQC b I L (xwy (Y s) la i (nI (2 * n))) N u U rz hz) := by
  subst e_x
  subst e_y
  subst e_z
  subst e_v
  subst e_w
  refine xw_S xb_92 (l := [.ref 0, .int (nI s), .int (nI la), .int i, .int (nI n), .int (nI m), .int (nI t), .float 0, .float 0, .float 0, .float 0, .float 0, .float 0, .float 0]) (Nat.le_of_ble_eq_true rfl) rfl ?_
  refine xw_go xb_92 3 (f1 := (5, [.ref 0, .int (nI s), .int (nI la), .int i, .int (nI n), .int (nI m), .int (nI t), .float 0, .float 0, .float 0, .float 0, .float 0, .float 0, .float 0], [.int 8, .int 1, .int (nI n)])) (h1 := (xS b, I, L, xP b)) rfl trivial ?_
  refine xw_call xb_92 rfl rfl rfl rfl rfl (Or.inl rfl) c_within ?_
  rintro _ _ ⟨rfl, rfl⟩
  refine xw_at (f' := (8, [.ref 0, .int (nI s), .int (nI la), .int i, .int (nI n), .int (nI m), .int (nI t), .float 0, .float 0, .float 0, .float 0, .float 0, .float 0, .float 0], [.int (nI (xB (decide ((1 : Int32).toInt ≤ (nI n).toInt ∧ (nI n).toInt ≤ (8 : Int32).toInt))))])) (h' := (xS b, I, L, xP b)) rfl rfl ?_
  refine xw_go xb_92 1 (f1 := (if (nI (xB (decide ((1 : Int32).toInt ≤ (nI n).toInt ∧ (nI n).toInt ≤ (8 : Int32).toInt)))) = 0 then 32 else 11, [.ref 0, .int (nI s), .int (nI la), .int i, .int (nI n), .int (nI m), .int (nI t), .float 0, .float 0, .float 0, .float 0, .float 0, .float 0, .float 0], [])) (h1 := (xS b, I, L, xP b)) rfl trivial ?_
  refine xw_if (fun c_8 => ?_) (fun c_8 => ?_)
  · skip
    exfalso
    try simp only [xB_dec, Classical.not_not] at c_8
    try simp (disch := omega) only [xt_eq, xt_lt, xt_le, xkt_0, xkt_1, xkt_2, xkt_3, xkt_4, xkt_5, xkt_6, xkt_7, xkt_8, xkt_9, xkt_10, xkt_11, xkt_12, xkt_13, xkt_14, xkt_16, xkt_20, xkt_24, xkt_31, xkt_32, xkt_40, xkt_44, xkt_47, xkt_48, xkt_57, xkt_59, xkt_60, xkt_63, xkt_64, xkt_65, xkt_72, xkt_95, xkt_99, xkt_100, xkt_101, xkt_103, xkt_110, xkt_112, xkt_113, xkt_114, xkt_119, xkt_126, xkt_159, xkt_576, xkt_999, xkt_9999, xkt_65536, xkt_999999, xkt_m1, xkt_m2, xkt_m3, xkt_m4, xkt_m11, xkt_m12, xkt_m13, xkt_m14, xkt_m20, xjt_0, xjt_1, xjt_2, xjt_3, xjt_4, xjt_5, xjt_6, xjt_7, xjt_8, xjt_9, xjt_10, xjt_11, xjt_12, xjt_13, xjt_14, xjt_16, xjt_20, xjt_24, xjt_31, xjt_32, xjt_40, xjt_44, xjt_47, xjt_48, xjt_57, xjt_59, xjt_60, xjt_63, xjt_64, xjt_65, xjt_72, xjt_95, xjt_99, xjt_100, xjt_101, xjt_103, xjt_110, xjt_112, xjt_113, xjt_114, xjt_119, xjt_126, xjt_159, xjt_576, xjt_999, xjt_9999, xjt_65536, xjt_999999, xt64, xt_n, not_true_eq_false, not_false_eq_true, Classical.not_not] at c_8
    all_goals omega
  · skip
    refine xw_go xb_92 3 (f1 := (16, [.ref 0, .int (nI s), .int (nI la), .int i, .int (nI n), .int (nI m), .int (nI t), .float 0, .float 0, .float 0, .float 0, .float 0, .float 0, .float 0], [.int 20, .int 1, .int (nI m)])) (h1 := (xS b, I, L, xP b)) rfl trivial ?_
    refine xw_call xb_92 rfl rfl rfl rfl rfl (Or.inl rfl) c_within ?_
    rintro _ _ ⟨rfl, rfl⟩
    refine xw_at (f' := (19, [.ref 0, .int (nI s), .int (nI la), .int i, .int (nI n), .int (nI m), .int (nI t), .float 0, .float 0, .float 0, .float 0, .float 0, .float 0, .float 0], [.int (nI (xB (decide ((1 : Int32).toInt ≤ (nI m).toInt ∧ (nI m).toInt ≤ (20 : Int32).toInt))))])) (h' := (xS b, I, L, xP b)) rfl rfl ?_
    refine xw_go xb_92 1 (f1 := (if (nI (xB (decide ((1 : Int32).toInt ≤ (nI m).toInt ∧ (nI m).toInt ≤ (20 : Int32).toInt)))) = 0 then 32 else 22, [.ref 0, .int (nI s), .int (nI la), .int i, .int (nI n), .int (nI m), .int (nI t), .float 0, .float 0, .float 0, .float 0, .float 0, .float 0, .float 0], [])) (h1 := (xS b, I, L, xP b)) rfl trivial ?_
    refine xw_if (fun c_19 => ?_) (fun c_19 => ?_)
    · skip
      exfalso
      try simp only [xB_dec, Classical.not_not] at c_8 c_19
      try simp (disch := omega) only [xt_eq, xt_lt, xt_le, xkt_0, xkt_1, xkt_2, xkt_3, xkt_4, xkt_5, xkt_6, xkt_7, xkt_8, xkt_9, xkt_10, xkt_11, xkt_12, xkt_13, xkt_14, xkt_16, xkt_20, xkt_24, xkt_31, xkt_32, xkt_40, xkt_44, xkt_47, xkt_48, xkt_57, xkt_59, xkt_60, xkt_63, xkt_64, xkt_65, xkt_72, xkt_95, xkt_99, xkt_100, xkt_101, xkt_103, xkt_110, xkt_112, xkt_113, xkt_114, xkt_119, xkt_126, xkt_159, xkt_576, xkt_999, xkt_9999, xkt_65536, xkt_999999, xkt_m1, xkt_m2, xkt_m3, xkt_m4, xkt_m11, xkt_m12, xkt_m13, xkt_m14, xkt_m20, xjt_0, xjt_1, xjt_2, xjt_3, xjt_4, xjt_5, xjt_6, xjt_7, xjt_8, xjt_9, xjt_10, xjt_11, xjt_12, xjt_13, xjt_14, xjt_16, xjt_20, xjt_24, xjt_31, xjt_32, xjt_40, xjt_44, xjt_47, xjt_48, xjt_57, xjt_59, xjt_60, xjt_63, xjt_64, xjt_65, xjt_72, xjt_95, xjt_99, xjt_100, xjt_101, xjt_103, xjt_110, xjt_112, xjt_113, xjt_114, xjt_119, xjt_126, xjt_159, xjt_576, xjt_999, xjt_9999, xjt_65536, xjt_999999, xt64, xt_n, not_true_eq_false, not_false_eq_true, Classical.not_not] at c_8 c_19
      all_goals omega
    · skip
      refine xw_go xb_92 3 (f1 := (26, [.ref 0, .int (nI s), .int (nI la), .int i, .int (nI n), .int (nI m), .int (nI t), .float 0, .float 0, .float 0, .float 0, .float 0, .float 0, .float 0], [.int 1, .int 0, .int (nI t)])) (h1 := (xS b, I, L, xP b)) rfl trivial ?_
      refine xw_call xb_92 rfl rfl rfl rfl rfl (Or.inl rfl) c_within ?_
      rintro _ _ ⟨rfl, rfl⟩
      refine xw_at (f' := (29, [.ref 0, .int (nI s), .int (nI la), .int i, .int (nI n), .int (nI m), .int (nI t), .float 0, .float 0, .float 0, .float 0, .float 0, .float 0, .float 0], [.int (nI (xB (decide ((0 : Int32).toInt ≤ (nI t).toInt ∧ (nI t).toInt ≤ (1 : Int32).toInt))))])) (h' := (xS b, I, L, xP b)) rfl rfl ?_
      refine xw_go xb_92 1 (f1 := (if ¬ (nI (xB (decide ((0 : Int32).toInt ≤ (nI t).toInt ∧ (nI t).toInt ≤ (1 : Int32).toInt)))) = 0 then 34 else 32, [.ref 0, .int (nI s), .int (nI la), .int i, .int (nI n), .int (nI m), .int (nI t), .float 0, .float 0, .float 0, .float 0, .float 0, .float 0, .float 0], [])) (h1 := (xS b, I, L, xP b)) rfl trivial ?_
      refine xw_if (fun c_29 => ?_) (fun c_29 => ?_)
      · skip
        refine xw_go xb_92 7 (f1 := (42, [.ref 0, .int (nI s), .int (nI la), .int i, .int (nI n), .int (nI m), .int (nI t), .float 0, .float 0, .float 0, .float 0, .float 0, .float 0, .float 0], [.int (2 * (nI n)), .int i, .int (nI la), .int (nI s), .ref 0])) (h1 := (xS b, I, L, xP b)) rfl trivial ?_
        refine xw_cong (l' := [.ref 0, .int (nI s), .int (nI la), .int i, .int (nI n), .int (nI m), .int (nI t), .float 0, .float 0, .float 0, .float 0, .float 0, .float 0, .float 0]) (st' := [.int (nI (2 * n)), .int i, .int (nI la), .int (nI s), .ref 0]) (h' := (xS b, I, L, xP b)) rfl (show ([.int (2 * (nI n)), .int i, .int (nI la), .int (nI s), .ref 0] : List Value) = [.int (nI (2 * n)), .int i, .int (nI la), .int (nI s), .ref 0] from ?_) rfl ?_
        · rw [xl_2, pk_mul]
        refine xw_call xb_92 rfl rfl rfl rfl rfl (Or.inr ⟨_, _, rfl, rfl⟩) (c_refusal1 hS hY hs bl rfl rfl) ?_
        rintro _ _ ⟨rfl, rfl⟩
        refine xw_at (f' := (45, [.ref 0, .int (nI s), .int (nI la), .int i, .int (nI n), .int (nI m), .int (nI t), .float 0, .float 0, .float 0, .float 0, .float 0, .float 0, .float 0], [.int (xwy (Y s) la i (nI (2 * n)))])) (h' := (xS b, I, L, xP b)) rfl rfl ?_
        refine xw_go xb_92 3 (f1 := (if (xwy (Y s) la i (nI (2 * n))) = 0 then 55 else 52, [.ref 0, .int (nI s), .int (nI la), .int i, .int (nI n), .int (nI m), .int (nI t), .int (xwy (Y s) la i (nI (2 * n))), .float 0, .float 0, .float 0, .float 0, .float 0, .float 0], [])) (h1 := (xS b, I, L, xP b)) rfl trivial ?_
        refine xw_if (fun c_49 => ?_) (fun c_49 => ?_)
        · skip
          exact absurd c_49 hw
        · skip
          refine xw_go xb_92 1 (f1 := (54, [.ref 0, .int (nI s), .int (nI la), .int i, .int (nI n), .int (nI m), .int (nI t), .int (xwy (Y s) la i (nI (2 * n))), .float 0, .float 0, .float 0, .float 0, .float 0, .float 0], [.int (xwy (Y s) la i (nI (2 * n)))])) (h1 := (xS b, I, L, xP b)) rfl trivial ?_
          refine xw_ret xb_92 rfl rfl trivial ?_
          exact xQC_same hP
      · skip
        exfalso
        try simp only [xB_dec, Classical.not_not] at c_8 c_19 c_29
        try simp (disch := omega) only [xt_eq, xt_lt, xt_le, xkt_0, xkt_1, xkt_2, xkt_3, xkt_4, xkt_5, xkt_6, xkt_7, xkt_8, xkt_9, xkt_10, xkt_11, xkt_12, xkt_13, xkt_14, xkt_16, xkt_20, xkt_24, xkt_31, xkt_32, xkt_40, xkt_44, xkt_47, xkt_48, xkt_57, xkt_59, xkt_60, xkt_63, xkt_64, xkt_65, xkt_72, xkt_95, xkt_99, xkt_100, xkt_101, xkt_103, xkt_110, xkt_112, xkt_113, xkt_114, xkt_119, xkt_126, xkt_159, xkt_576, xkt_999, xkt_9999, xkt_65536, xkt_999999, xkt_m1, xkt_m2, xkt_m3, xkt_m4, xkt_m11, xkt_m12, xkt_m13, xkt_m14, xkt_m20, xjt_0, xjt_1, xjt_2, xjt_3, xjt_4, xjt_5, xjt_6, xjt_7, xjt_8, xjt_9, xjt_10, xjt_11, xjt_12, xjt_13, xjt_14, xjt_16, xjt_20, xjt_24, xjt_31, xjt_32, xjt_40, xjt_44, xjt_47, xjt_48, xjt_57, xjt_59, xjt_60, xjt_63, xjt_64, xjt_65, xjt_72, xjt_95, xjt_99, xjt_100, xjt_101, xjt_103, xjt_110, xjt_112, xjt_113, xjt_114, xjt_119, xjt_126, xjt_159, xjt_576, xjt_999, xjt_9999, xjt_65536, xjt_999999, xt64, xt_n, not_true_eq_false, not_false_eq_true, Classical.not_not] at c_8 c_19 c_29
        all_goals omega

theorem c_tins3 {d : Nat} {b : Bool} {I : Nat → Nat → Int32} {L : Nat → Nat → Int64} {N : Nat → Nat} {u : Nat} {U : Nat → Nat → Nat} (hP : xPL N u U 1 I) (hK : xUK N u U) {Y : xY} (hS : xSH Y I L) (hY : xYK Y) {n m t : Nat} (hn : 1 ≤ n ∧ n ≤ 8) (hm : 1 ≤ m ∧ m ≤ 20) (ht : t < 2) {s : Nat} (hs : s < 4) {la : Nat} (bl : la < 4) {j : Nat} (bj : j < 2 ^ 31) (hw : xwy (Y s) la (nI j) (nI (2 * n)) = 0) (hok : ¬ ∀ k, k < n → xtok N (Y s).2.2.2 j k) {x : Int32} (e_x : x = nI s) {y : Int32} (e_y : y = nI la) {i : Int32} (e_i : i = nI j) {z : Int32} (e_z : z = nI n) {v : Int32} (e_v : v = nI m) {w : Int32} (e_w : w = nI t) : xm_Z (d + 7) 92 [.ref 0, .int x, .int y, .int i, .int z, .int v, .int w] (xS b, I, L, xP b) (fun rz hz => xQC b I L (-2) N u U rz hz) := by
  subst e_x
  subst e_y
  subst e_i
  subst e_z
  subst e_v
  subst e_w
  have hO := hK.1
  have hb := hK.1.1
  have c64 : N 0 * N 1 ≤ 64 := xce_le hO
  have c4 : 4 ≤ N 0 * N 1 := xce_ge hO
  obtain ⟨⟨hN0, hN1, hN2, hN3, hN4, hN5, hN6, hN7, hN8, hN9, hN10⟩, hNs, hNw, hNp⟩ := hP.1
  have s2 : (xS b)[52 + 2 * s]? = some (10, 4) := xS_52 hs
  have s3 : (xS b)[53 + 2 * s]? = some (1, 24) := xS_53 hs
  obtain ⟨y0, y1, y2, y3⟩ := hS s hs
  have hk := hY s hs
  obtain ⟨w1, w2, w3, w4, w5⟩ := xwy_0 hw
  have hj9 : j + 2 * n ≤ (Y s).2.2.1 := by rw [xt_n bj, xt_n (by omega)] at w5; omega
  have hj : j + 2 * n ≤ 24 := by omega
  refine xw_S xb_92 (l := [.ref 0, .int (nI s), .int (nI la), .int (nI j), .int (nI n), .int (nI m), .int (nI t), .float 0, .float 0, .float 0, .float 0, .float 0, .float 0, .float 0]) (Nat.le_of_ble_eq_true rfl) rfl ?_
  refine xw_go xb_92 3 (f1 := (5, [.ref 0, .int (nI s), .int (nI la), .int (nI j), .int (nI n), .int (nI m), .int (nI t), .float 0, .float 0, .float 0, .float 0, .float 0, .float 0, .float 0], [.int 8, .int 1, .int (nI n)])) (h1 := (xS b, I, L, xP b)) rfl trivial ?_
  refine xw_call xb_92 rfl rfl rfl rfl rfl (Or.inl rfl) c_within ?_
  rintro _ _ ⟨rfl, rfl⟩
  refine xw_at (f' := (8, [.ref 0, .int (nI s), .int (nI la), .int (nI j), .int (nI n), .int (nI m), .int (nI t), .float 0, .float 0, .float 0, .float 0, .float 0, .float 0, .float 0], [.int (nI (xB (decide ((1 : Int32).toInt ≤ (nI n).toInt ∧ (nI n).toInt ≤ (8 : Int32).toInt))))])) (h' := (xS b, I, L, xP b)) rfl rfl ?_
  refine xw_go xb_92 1 (f1 := (if (nI (xB (decide ((1 : Int32).toInt ≤ (nI n).toInt ∧ (nI n).toInt ≤ (8 : Int32).toInt)))) = 0 then 32 else 11, [.ref 0, .int (nI s), .int (nI la), .int (nI j), .int (nI n), .int (nI m), .int (nI t), .float 0, .float 0, .float 0, .float 0, .float 0, .float 0, .float 0], [])) (h1 := (xS b, I, L, xP b)) rfl trivial ?_
  refine xw_if (fun c_8 => ?_) (fun c_8 => ?_)
  · skip
    exfalso
    try simp only [xB_dec, Classical.not_not] at c_8
    try simp (disch := omega) only [xt_eq, xt_lt, xt_le, xkt_0, xkt_1, xkt_2, xkt_3, xkt_4, xkt_5, xkt_6, xkt_7, xkt_8, xkt_9, xkt_10, xkt_11, xkt_12, xkt_13, xkt_14, xkt_16, xkt_20, xkt_24, xkt_31, xkt_32, xkt_40, xkt_44, xkt_47, xkt_48, xkt_57, xkt_59, xkt_60, xkt_63, xkt_64, xkt_65, xkt_72, xkt_95, xkt_99, xkt_100, xkt_101, xkt_103, xkt_110, xkt_112, xkt_113, xkt_114, xkt_119, xkt_126, xkt_159, xkt_576, xkt_999, xkt_9999, xkt_65536, xkt_999999, xkt_m1, xkt_m2, xkt_m3, xkt_m4, xkt_m11, xkt_m12, xkt_m13, xkt_m14, xkt_m20, xjt_0, xjt_1, xjt_2, xjt_3, xjt_4, xjt_5, xjt_6, xjt_7, xjt_8, xjt_9, xjt_10, xjt_11, xjt_12, xjt_13, xjt_14, xjt_16, xjt_20, xjt_24, xjt_31, xjt_32, xjt_40, xjt_44, xjt_47, xjt_48, xjt_57, xjt_59, xjt_60, xjt_63, xjt_64, xjt_65, xjt_72, xjt_95, xjt_99, xjt_100, xjt_101, xjt_103, xjt_110, xjt_112, xjt_113, xjt_114, xjt_119, xjt_126, xjt_159, xjt_576, xjt_999, xjt_9999, xjt_65536, xjt_999999, xt64, xt_n, not_true_eq_false, not_false_eq_true, Classical.not_not] at c_8
    all_goals omega
  · skip
    refine xw_go xb_92 3 (f1 := (16, [.ref 0, .int (nI s), .int (nI la), .int (nI j), .int (nI n), .int (nI m), .int (nI t), .float 0, .float 0, .float 0, .float 0, .float 0, .float 0, .float 0], [.int 20, .int 1, .int (nI m)])) (h1 := (xS b, I, L, xP b)) rfl trivial ?_
    refine xw_call xb_92 rfl rfl rfl rfl rfl (Or.inl rfl) c_within ?_
    rintro _ _ ⟨rfl, rfl⟩
    refine xw_at (f' := (19, [.ref 0, .int (nI s), .int (nI la), .int (nI j), .int (nI n), .int (nI m), .int (nI t), .float 0, .float 0, .float 0, .float 0, .float 0, .float 0, .float 0], [.int (nI (xB (decide ((1 : Int32).toInt ≤ (nI m).toInt ∧ (nI m).toInt ≤ (20 : Int32).toInt))))])) (h' := (xS b, I, L, xP b)) rfl rfl ?_
    refine xw_go xb_92 1 (f1 := (if (nI (xB (decide ((1 : Int32).toInt ≤ (nI m).toInt ∧ (nI m).toInt ≤ (20 : Int32).toInt)))) = 0 then 32 else 22, [.ref 0, .int (nI s), .int (nI la), .int (nI j), .int (nI n), .int (nI m), .int (nI t), .float 0, .float 0, .float 0, .float 0, .float 0, .float 0, .float 0], [])) (h1 := (xS b, I, L, xP b)) rfl trivial ?_
    refine xw_if (fun c_19 => ?_) (fun c_19 => ?_)
    · skip
      exfalso
      try simp only [xB_dec, Classical.not_not] at c_8 c_19
      try simp (disch := omega) only [xt_eq, xt_lt, xt_le, xkt_0, xkt_1, xkt_2, xkt_3, xkt_4, xkt_5, xkt_6, xkt_7, xkt_8, xkt_9, xkt_10, xkt_11, xkt_12, xkt_13, xkt_14, xkt_16, xkt_20, xkt_24, xkt_31, xkt_32, xkt_40, xkt_44, xkt_47, xkt_48, xkt_57, xkt_59, xkt_60, xkt_63, xkt_64, xkt_65, xkt_72, xkt_95, xkt_99, xkt_100, xkt_101, xkt_103, xkt_110, xkt_112, xkt_113, xkt_114, xkt_119, xkt_126, xkt_159, xkt_576, xkt_999, xkt_9999, xkt_65536, xkt_999999, xkt_m1, xkt_m2, xkt_m3, xkt_m4, xkt_m11, xkt_m12, xkt_m13, xkt_m14, xkt_m20, xjt_0, xjt_1, xjt_2, xjt_3, xjt_4, xjt_5, xjt_6, xjt_7, xjt_8, xjt_9, xjt_10, xjt_11, xjt_12, xjt_13, xjt_14, xjt_16, xjt_20, xjt_24, xjt_31, xjt_32, xjt_40, xjt_44, xjt_47, xjt_48, xjt_57, xjt_59, xjt_60, xjt_63, xjt_64, xjt_65, xjt_72, xjt_95, xjt_99, xjt_100, xjt_101, xjt_103, xjt_110, xjt_112, xjt_113, xjt_114, xjt_119, xjt_126, xjt_159, xjt_576, xjt_999, xjt_9999, xjt_65536, xjt_999999, xt64, xt_n, not_true_eq_false, not_false_eq_true, Classical.not_not] at c_8 c_19
      all_goals omega
    · skip
      refine xw_go xb_92 3 (f1 := (26, [.ref 0, .int (nI s), .int (nI la), .int (nI j), .int (nI n), .int (nI m), .int (nI t), .float 0, .float 0, .float 0, .float 0, .float 0, .float 0, .float 0], [.int 1, .int 0, .int (nI t)])) (h1 := (xS b, I, L, xP b)) rfl trivial ?_
      refine xw_call xb_92 rfl rfl rfl rfl rfl (Or.inl rfl) c_within ?_
      rintro _ _ ⟨rfl, rfl⟩
      refine xw_at (f' := (29, [.ref 0, .int (nI s), .int (nI la), .int (nI j), .int (nI n), .int (nI m), .int (nI t), .float 0, .float 0, .float 0, .float 0, .float 0, .float 0, .float 0], [.int (nI (xB (decide ((0 : Int32).toInt ≤ (nI t).toInt ∧ (nI t).toInt ≤ (1 : Int32).toInt))))])) (h' := (xS b, I, L, xP b)) rfl rfl ?_
      refine xw_go xb_92 1 (f1 := (if ¬ (nI (xB (decide ((0 : Int32).toInt ≤ (nI t).toInt ∧ (nI t).toInt ≤ (1 : Int32).toInt)))) = 0 then 34 else 32, [.ref 0, .int (nI s), .int (nI la), .int (nI j), .int (nI n), .int (nI m), .int (nI t), .float 0, .float 0, .float 0, .float 0, .float 0, .float 0, .float 0], [])) (h1 := (xS b, I, L, xP b)) rfl trivial ?_
      refine xw_if (fun c_29 => ?_) (fun c_29 => ?_)
      · skip
        refine xw_go xb_92 7 (f1 := (42, [.ref 0, .int (nI s), .int (nI la), .int (nI j), .int (nI n), .int (nI m), .int (nI t), .float 0, .float 0, .float 0, .float 0, .float 0, .float 0, .float 0], [.int (2 * (nI n)), .int (nI j), .int (nI la), .int (nI s), .ref 0])) (h1 := (xS b, I, L, xP b)) rfl trivial ?_
        refine xw_cong (l' := [.ref 0, .int (nI s), .int (nI la), .int (nI j), .int (nI n), .int (nI m), .int (nI t), .float 0, .float 0, .float 0, .float 0, .float 0, .float 0, .float 0]) (st' := [.int (nI (2 * n)), .int (nI j), .int (nI la), .int (nI s), .ref 0]) (h' := (xS b, I, L, xP b)) rfl (show ([.int (2 * (nI n)), .int (nI j), .int (nI la), .int (nI s), .ref 0] : List Value) = [.int (nI (2 * n)), .int (nI j), .int (nI la), .int (nI s), .ref 0] from ?_) rfl ?_
        · rw [xl_2, pk_mul]
        refine xw_call xb_92 rfl rfl rfl rfl rfl (Or.inr ⟨_, _, rfl, rfl⟩) (c_refusal1 hS hY hs bl rfl rfl) ?_
        rintro _ _ ⟨rfl, rfl⟩
        refine xw_at (f' := (45, [.ref 0, .int (nI s), .int (nI la), .int (nI j), .int (nI n), .int (nI m), .int (nI t), .float 0, .float 0, .float 0, .float 0, .float 0, .float 0, .float 0], [.int (xwy (Y s) la (nI j) (nI (2 * n)))])) (h' := (xS b, I, L, xP b)) rfl rfl ?_
        refine xw_go xb_92 3 (f1 := (if (xwy (Y s) la (nI j) (nI (2 * n))) = 0 then 55 else 52, [.ref 0, .int (nI s), .int (nI la), .int (nI j), .int (nI n), .int (nI m), .int (nI t), .int (xwy (Y s) la (nI j) (nI (2 * n))), .float 0, .float 0, .float 0, .float 0, .float 0, .float 0], [])) (h1 := (xS b, I, L, xP b)) rfl trivial ?_
        refine xw_if (fun c_49 => ?_) (fun c_49 => ?_)
        · skip
          refine xw_go xb_92 4 (f1 := (61, [.ref 0, .int (nI s), .int (nI la), .int (nI j), .int (nI n), .int (nI m), .int (nI t), .int (xwy (Y s) la (nI j) (nI (2 * n))), .float 0, .float 0, .float 0, .float 0, .float 0, .float 0], [xm_o (xP b 51 (nI s).toNatClampNeg)])) (h1 := (xS b, I, L, xP b)) rfl ⟨rfl, (xn_ar (n := s) (N := 4) rfl (by omega) (by decide)), ⟨Nat.le_of_ble_eq_true rfl, Nat.le_of_ble_eq_true rfl⟩, trivial⟩ ?_
          refine xw_cong (l' := [.ref 0, .int (nI s), .int (nI la), .int (nI j), .int (nI n), .int (nI m), .int (nI t), .int (xwy (Y s) la (nI j) (nI (2 * n))), .float 0, .float 0, .float 0, .float 0, .float 0, .float 0]) (st' := [.ref (52 + 2 * s)]) (h' := (xS b, I, L, xP b)) rfl (show ([xm_o (xP b 51 (nI s).toNatClampNeg)] : List Value) = [.ref (52 + 2 * s)] from ?_) rfl ?_
          · rw [xn_cl (by omega), xP_51 hs]
            rfl
          refine xw_go xb_92 3 (f1 := (66, [.ref 0, .int (nI s), .int (nI la), .int (nI j), .int (nI n), .int (nI m), .int (nI t), .int (xwy (Y s) la (nI j) (nI (2 * n))), .ref (52 + 2 * s), .int 0, .float 0, .float 0, .float 0, .float 0], [])) (h1 := (xS b, I, L, xP b)) rfl trivial ?_
          refine xw_at (f' := (66, [.ref 0, .int (nI s), .int (nI la), .int (nI j), .int (nI n), .int (nI m), .int (nI t), .int (xwy (Y s) la (nI j) (nI (2 * n))), .ref (52 + 2 * s), .int (nI 0), .float 0, .float 0, .float 0, .float 0], [])) (h' := (xS b, I, L, xP b)) rfl rfl ?_
          refine xw_loopP n (fun k => (66, [.ref 0, .int (nI s), .int (nI la), .int (nI j), .int (nI n), .int (nI m), .int (nI t), .int (xwy (Y s) la (nI j) (nI (2 * n))), .ref (52 + 2 * s), .int (nI k), .float 0, .float 0, .float 0, .float 0], [])) (fun k h => h = (xS b, I, L, xP b) ∧ ∀ q, q < k → xtok N (Y s).2.2.2 j q) (fun k h hk hV ih => ?_) (fun h hV => ?_) 0 _ (Nat.zero_le _) ⟨rfl, fun q hq => absurd hq (Nat.not_lt_zero q)⟩
          · obtain ⟨rfl, hv⟩ := hV
            refine xw_go xb_92 3 (f1 := (if (nI n) ≤ (nI k) then 149 else 73, [.ref 0, .int (nI s), .int (nI la), .int (nI j), .int (nI n), .int (nI m), .int (nI t), .int (xwy (Y s) la (nI j) (nI (2 * n))), .ref (52 + 2 * s), .int (nI k), .float 0, .float 0, .float 0, .float 0], [])) (h1 := (xS b, I, L, xP b)) rfl trivial ?_
            refine xw_if (fun c_70 => ?_) (fun c_70 => ?_)
            · skip
              exfalso
              try simp only [xB_dec, Classical.not_not] at c_70
              try simp (disch := omega) only [xt_eq, xt_lt, xt_le, xkt_0, xkt_1, xkt_2, xkt_3, xkt_4, xkt_5, xkt_6, xkt_7, xkt_8, xkt_9, xkt_10, xkt_11, xkt_12, xkt_13, xkt_14, xkt_16, xkt_20, xkt_24, xkt_31, xkt_32, xkt_40, xkt_44, xkt_47, xkt_48, xkt_57, xkt_59, xkt_60, xkt_63, xkt_64, xkt_65, xkt_72, xkt_95, xkt_99, xkt_100, xkt_101, xkt_103, xkt_110, xkt_112, xkt_113, xkt_114, xkt_119, xkt_126, xkt_159, xkt_576, xkt_999, xkt_9999, xkt_65536, xkt_999999, xkt_m1, xkt_m2, xkt_m3, xkt_m4, xkt_m11, xkt_m12, xkt_m13, xkt_m14, xkt_m20, xjt_0, xjt_1, xjt_2, xjt_3, xjt_4, xjt_5, xjt_6, xjt_7, xjt_8, xjt_9, xjt_10, xjt_11, xjt_12, xjt_13, xjt_14, xjt_16, xjt_20, xjt_24, xjt_31, xjt_32, xjt_40, xjt_44, xjt_47, xjt_48, xjt_57, xjt_59, xjt_60, xjt_63, xjt_64, xjt_65, xjt_72, xjt_95, xjt_99, xjt_100, xjt_101, xjt_103, xjt_110, xjt_112, xjt_113, xjt_114, xjt_119, xjt_126, xjt_159, xjt_576, xjt_999, xjt_9999, xjt_65536, xjt_999999, xt64, xt_n, not_true_eq_false, not_false_eq_true, Classical.not_not] at c_70
              all_goals omega
            · skip
              refine xw_go xb_92 2 (f1 := (78, [.ref 0, .int (nI s), .int (nI la), .int (nI j), .int (nI n), .int (nI m), .int (nI t), .int (xwy (Y s) la (nI j) (nI (2 * n))), .ref (52 + 2 * s), .int (nI k), .float 0, .float 0, .float 0, .float 0], [xm_o (xP b (52 + 2 * s) 3)])) (h1 := (xS b, I, L, xP b)) rfl ⟨s2, trivial⟩ ?_
              refine xw_cong (l' := [.ref 0, .int (nI s), .int (nI la), .int (nI j), .int (nI n), .int (nI m), .int (nI t), .int (xwy (Y s) la (nI j) (nI (2 * n))), .ref (52 + 2 * s), .int (nI k), .float 0, .float 0, .float 0, .float 0]) (st' := [.ref (53 + 2 * s)]) (h' := (xS b, I, L, xP b)) rfl (show ([xm_o (xP b (52 + 2 * s) 3)] : List Value) = [.ref (53 + 2 * s)] from ?_) rfl ?_
              · rw [xP_52 hs]
                rfl
              refine xw_go xb_92 6 (f1 := (85, [.ref 0, .int (nI s), .int (nI la), .int (nI j), .int (nI n), .int (nI m), .int (nI t), .int (xwy (Y s) la (nI j) (nI (2 * n))), .ref (52 + 2 * s), .int (nI k), .float 0, .float 0, .float 0, .float 0], [.long (L (53 + 2 * s) ((nI j) + (2 * (nI k))).toNatClampNeg)])) (h1 := (xS b, I, L, xP b)) rfl ⟨(xn_ar' (n := j + 2 * k) (N := 24) s3 (show nI j + 2 * nI k = _ by rw [xl_2, pk_mul, nI_add]) (by omega) (by decide)), trivial⟩ ?_
              refine xw_cong (l' := [.ref 0, .int (nI s), .int (nI la), .int (nI j), .int (nI n), .int (nI m), .int (nI t), .int (xwy (Y s) la (nI j) (nI (2 * n))), .ref (52 + 2 * s), .int (nI k), .float 0, .float 0, .float 0, .float 0]) (st' := [.long ((Y s).2.2.2 (j + 2 * k))]) (h' := (xS b, I, L, xP b)) rfl (show ([.long (L (53 + 2 * s) ((nI j) + (2 * (nI k))).toNatClampNeg)] : List Value) = [.long ((Y s).2.2.2 (j + 2 * k))] from ?_) rfl ?_
              · rw [xl_2, pk_mul, nI_add, xn_cl (by omega), y3 _ (by omega)]
              refine xw_go xb_92 3 (f1 := (92, [.ref 0, .int (nI s), .int (nI la), .int (nI j), .int (nI n), .int (nI m), .int (nI t), .int (xwy (Y s) la (nI j) (nI (2 * n))), .ref (52 + 2 * s), .int (nI k), .long ((Y s).2.2.2 (j + 2 * k)), .float 0, .float 0, .float 0], [xm_o (xP b (52 + 2 * s) 3)])) (h1 := (xS b, I, L, xP b)) rfl ⟨s2, trivial⟩ ?_
              refine xw_cong (l' := [.ref 0, .int (nI s), .int (nI la), .int (nI j), .int (nI n), .int (nI m), .int (nI t), .int (xwy (Y s) la (nI j) (nI (2 * n))), .ref (52 + 2 * s), .int (nI k), .long ((Y s).2.2.2 (j + 2 * k)), .float 0, .float 0, .float 0]) (st' := [.ref (53 + 2 * s)]) (h' := (xS b, I, L, xP b)) rfl (show ([xm_o (xP b (52 + 2 * s) 3)] : List Value) = [.ref (53 + 2 * s)] from ?_) rfl ?_
              · rw [xP_52 hs]
                rfl
              refine xw_go xb_92 8 (f1 := (101, [.ref 0, .int (nI s), .int (nI la), .int (nI j), .int (nI n), .int (nI m), .int (nI t), .int (xwy (Y s) la (nI j) (nI (2 * n))), .ref (52 + 2 * s), .int (nI k), .long ((Y s).2.2.2 (j + 2 * k)), .float 0, .float 0, .float 0], [.long (L (53 + 2 * s) (((nI j) + (2 * (nI k))) + 1).toNatClampNeg)])) (h1 := (xS b, I, L, xP b)) rfl ⟨(xn_ar' (n := j + 2 * k + 1) (N := 24) s3 (show nI j + 2 * nI k + 1 = _ by rw [xl_2, pk_mul, nI_add, xl_1, nI_add]) (by omega) (by decide)), trivial⟩ ?_
              refine xw_cong (l' := [.ref 0, .int (nI s), .int (nI la), .int (nI j), .int (nI n), .int (nI m), .int (nI t), .int (xwy (Y s) la (nI j) (nI (2 * n))), .ref (52 + 2 * s), .int (nI k), .long ((Y s).2.2.2 (j + 2 * k)), .float 0, .float 0, .float 0]) (st' := [.long ((Y s).2.2.2 (j + 2 * k + 1))]) (h' := (xS b, I, L, xP b)) rfl (show ([.long (L (53 + 2 * s) (((nI j) + (2 * (nI k))) + 1).toNatClampNeg)] : List Value) = [.long ((Y s).2.2.2 (j + 2 * k + 1))] from ?_) rfl ?_
              · rw [xl_2, pk_mul, nI_add, xl_1, nI_add, xn_cl (by omega), y3 _ (by omega)]
              refine xw_go xb_92 5 (f1 := (if (lg_cmp ((Y s).2.2.2 (j + 2 * k)) 0) < 0 then 140 else 110, [.ref 0, .int (nI s), .int (nI la), .int (nI j), .int (nI n), .int (nI m), .int (nI t), .int (xwy (Y s) la (nI j) (nI (2 * n))), .ref (52 + 2 * s), .int (nI k), .long ((Y s).2.2.2 (j + 2 * k)), .float 0, .long ((Y s).2.2.2 (j + 2 * k + 1)), .float 0], [])) (h1 := (xS b, I, L, xP b)) rfl trivial ?_
              refine xw_if (fun c_107 => ?_) (fun c_107 => ?_)
              · skip
                refine xw_go xb_92 1 (f1 := (142, [.ref 0, .int (nI s), .int (nI la), .int (nI j), .int (nI n), .int (nI m), .int (nI t), .int (xwy (Y s) la (nI j) (nI (2 * n))), .ref (52 + 2 * s), .int (nI k), .long ((Y s).2.2.2 (j + 2 * k)), .float 0, .long ((Y s).2.2.2 (j + 2 * k + 1)), .float 0], [.int (-2)])) (h1 := (xS b, I, L, xP b)) rfl trivial ?_
                refine xw_ret xb_92 rfl rfl trivial ?_
                exact xQC_same hP
              · skip
                refine xw_go xb_92 3 (f1 := (116, [.ref 0, .int (nI s), .int (nI la), .int (nI j), .int (nI n), .int (nI m), .int (nI t), .int (xwy (Y s) la (nI j) (nI (2 * n))), .ref (52 + 2 * s), .int (nI k), .long ((Y s).2.2.2 (j + 2 * k)), .float 0, .long ((Y s).2.2.2 (j + 2 * k + 1)), .float 0], [.ref 1, .long ((Y s).2.2.2 (j + 2 * k))])) (h1 := (xS b, I, L, xP b)) rfl ⟨rfl, trivial⟩ ?_
                refine xw_call xb_92 rfl rfl rfl rfl rfl (Or.inr ⟨_, _, rfl, rfl⟩) (c_cells (I := I) hN0 hN1) ?_
                rintro _ _ ⟨rfl, rfl⟩
                refine xw_at (f' := (119, [.ref 0, .int (nI s), .int (nI la), .int (nI j), .int (nI n), .int (nI m), .int (nI t), .int (xwy (Y s) la (nI j) (nI (2 * n))), .ref (52 + 2 * s), .int (nI k), .long ((Y s).2.2.2 (j + 2 * k)), .float 0, .long ((Y s).2.2.2 (j + 2 * k + 1)), .float 0], [.int (nI (N 0 * N 1)), .long ((Y s).2.2.2 (j + 2 * k))])) (h' := (xS b, I, L, xP b)) rfl rfl ?_
                refine xw_go xb_92 3 (f1 := (if 0 ≤ (lg_cmp ((Y s).2.2.2 (j + 2 * k)) ((nI (N 0 * N 1)).toInt64)) then 140 else 124, [.ref 0, .int (nI s), .int (nI la), .int (nI j), .int (nI n), .int (nI m), .int (nI t), .int (xwy (Y s) la (nI j) (nI (2 * n))), .ref (52 + 2 * s), .int (nI k), .long ((Y s).2.2.2 (j + 2 * k)), .float 0, .long ((Y s).2.2.2 (j + 2 * k + 1)), .float 0], [])) (h1 := (xS b, I, L, xP b)) rfl trivial ?_
                refine xw_if (fun c_121 => ?_) (fun c_121 => ?_)
                · skip
                  refine xw_go xb_92 1 (f1 := (142, [.ref 0, .int (nI s), .int (nI la), .int (nI j), .int (nI n), .int (nI m), .int (nI t), .int (xwy (Y s) la (nI j) (nI (2 * n))), .ref (52 + 2 * s), .int (nI k), .long ((Y s).2.2.2 (j + 2 * k)), .float 0, .long ((Y s).2.2.2 (j + 2 * k + 1)), .float 0], [.int (-2)])) (h1 := (xS b, I, L, xP b)) rfl trivial ?_
                  refine xw_ret xb_92 rfl rfl trivial ?_
                  exact xQC_same hP
                · skip
                  refine xw_go xb_92 4 (f1 := (if (lg_cmp ((Y s).2.2.2 (j + 2 * k + 1)) 0) < 0 then 140 else 131, [.ref 0, .int (nI s), .int (nI la), .int (nI j), .int (nI n), .int (nI m), .int (nI t), .int (xwy (Y s) la (nI j) (nI (2 * n))), .ref (52 + 2 * s), .int (nI k), .long ((Y s).2.2.2 (j + 2 * k)), .float 0, .long ((Y s).2.2.2 (j + 2 * k + 1)), .float 0], [])) (h1 := (xS b, I, L, xP b)) rfl trivial ?_
                  refine xw_if (fun c_128 => ?_) (fun c_128 => ?_)
                  · skip
                    refine xw_go xb_92 1 (f1 := (142, [.ref 0, .int (nI s), .int (nI la), .int (nI j), .int (nI n), .int (nI m), .int (nI t), .int (xwy (Y s) la (nI j) (nI (2 * n))), .ref (52 + 2 * s), .int (nI k), .long ((Y s).2.2.2 (j + 2 * k)), .float 0, .long ((Y s).2.2.2 (j + 2 * k + 1)), .float 0], [.int (-2)])) (h1 := (xS b, I, L, xP b)) rfl trivial ?_
                    refine xw_ret xb_92 rfl rfl trivial ?_
                    exact xQC_same hP
                  · skip
                    refine xw_go xb_92 4 (f1 := (if (lg_cmp ((Y s).2.2.2 (j + 2 * k + 1)) 9999) ≤ 0 then 143 else 140, [.ref 0, .int (nI s), .int (nI la), .int (nI j), .int (nI n), .int (nI m), .int (nI t), .int (xwy (Y s) la (nI j) (nI (2 * n))), .ref (52 + 2 * s), .int (nI k), .long ((Y s).2.2.2 (j + 2 * k)), .float 0, .long ((Y s).2.2.2 (j + 2 * k + 1)), .float 0], [])) (h1 := (xS b, I, L, xP b)) rfl trivial ?_
                    refine xw_if (fun c_137 => ?_) (fun c_137 => ?_)
                    · skip
                      refine xw_go xb_92 2 (f1 := (66, [.ref 0, .int (nI s), .int (nI la), .int (nI j), .int (nI n), .int (nI m), .int (nI t), .int (xwy (Y s) la (nI j) (nI (2 * n))), .ref (52 + 2 * s), .int ((nI k) + 1), .long ((Y s).2.2.2 (j + 2 * k)), .float 0, .long ((Y s).2.2.2 (j + 2 * k + 1)), .float 0], [])) (h1 := (xS b, I, L, xP b)) rfl trivial ?_
                      refine xw_fg (l0 := [.ref 0, .int (nI s), .int (nI la), .int (nI j), .int (nI n), .int (nI m), .int (nI t), .int (xwy (Y s) la (nI j) (nI (2 * n))), .ref (52 + 2 * s), .int ((nI k) + 1), .float 0, .float 0, .float 0, .float 0]) ⟨Or.inr rfl, Or.inr rfl, Or.inr rfl, Or.inr rfl, Or.inr rfl, Or.inr rfl, Or.inr rfl, Or.inr rfl, Or.inr rfl, Or.inr rfl, Or.inl rfl, Or.inl rfl, Or.inl rfl, Or.inl rfl, trivial⟩ ?_
                      refine xw_cong ?_ rfl rfl (ih _ ⟨rfl, fun q hq => ?_⟩)
                      · rw [nI_1]
                      · by_cases e : q = k
                        · subst e
                          unfold xtok
                          try rw [xg_lt, xjt_0] at c_107
                          try rw [xg_ge, xt64, xt_n (by omega)] at c_121
                          try rw [xg_lt, xjt_0] at c_128
                          try rw [xg_le, xjt_9999] at c_137
                          omega
                        · exact hv q (by omega)
                    · skip
                      refine xw_go xb_92 1 (f1 := (142, [.ref 0, .int (nI s), .int (nI la), .int (nI j), .int (nI n), .int (nI m), .int (nI t), .int (xwy (Y s) la (nI j) (nI (2 * n))), .ref (52 + 2 * s), .int (nI k), .long ((Y s).2.2.2 (j + 2 * k)), .float 0, .long ((Y s).2.2.2 (j + 2 * k + 1)), .float 0], [.int (-2)])) (h1 := (xS b, I, L, xP b)) rfl trivial ?_
                      refine xw_ret xb_92 rfl rfl trivial ?_
                      exact xQC_same hP
          · obtain ⟨rfl, hv⟩ := hV
            refine xw_go xb_92 3 (f1 := (if (nI n) ≤ (nI n) then 149 else 73, [.ref 0, .int (nI s), .int (nI la), .int (nI j), .int (nI n), .int (nI m), .int (nI t), .int (xwy (Y s) la (nI j) (nI (2 * n))), .ref (52 + 2 * s), .int (nI n), .float 0, .float 0, .float 0, .float 0], [])) (h1 := (xS b, I, L, xP b)) rfl trivial ?_
            refine xw_if (fun c_70 => ?_) (fun c_70 => ?_)
            · skip
              exact absurd hv hok
            · skip
              exfalso
              try simp only [xB_dec, Classical.not_not] at c_70
              try simp (disch := omega) only [xt_eq, xt_lt, xt_le, xkt_0, xkt_1, xkt_2, xkt_3, xkt_4, xkt_5, xkt_6, xkt_7, xkt_8, xkt_9, xkt_10, xkt_11, xkt_12, xkt_13, xkt_14, xkt_16, xkt_20, xkt_24, xkt_31, xkt_32, xkt_40, xkt_44, xkt_47, xkt_48, xkt_57, xkt_59, xkt_60, xkt_63, xkt_64, xkt_65, xkt_72, xkt_95, xkt_99, xkt_100, xkt_101, xkt_103, xkt_110, xkt_112, xkt_113, xkt_114, xkt_119, xkt_126, xkt_159, xkt_576, xkt_999, xkt_9999, xkt_65536, xkt_999999, xkt_m1, xkt_m2, xkt_m3, xkt_m4, xkt_m11, xkt_m12, xkt_m13, xkt_m14, xkt_m20, xjt_0, xjt_1, xjt_2, xjt_3, xjt_4, xjt_5, xjt_6, xjt_7, xjt_8, xjt_9, xjt_10, xjt_11, xjt_12, xjt_13, xjt_14, xjt_16, xjt_20, xjt_24, xjt_31, xjt_32, xjt_40, xjt_44, xjt_47, xjt_48, xjt_57, xjt_59, xjt_60, xjt_63, xjt_64, xjt_65, xjt_72, xjt_95, xjt_99, xjt_100, xjt_101, xjt_103, xjt_110, xjt_112, xjt_113, xjt_114, xjt_119, xjt_126, xjt_159, xjt_576, xjt_999, xjt_9999, xjt_65536, xjt_999999, xt64, xt_n, not_true_eq_false, not_false_eq_true, Classical.not_not] at c_70
              all_goals omega
        · skip
          exact absurd hw c_49
      · skip
        exfalso
        try simp only [xB_dec, Classical.not_not] at c_8 c_19 c_29
        try simp (disch := omega) only [xt_eq, xt_lt, xt_le, xkt_0, xkt_1, xkt_2, xkt_3, xkt_4, xkt_5, xkt_6, xkt_7, xkt_8, xkt_9, xkt_10, xkt_11, xkt_12, xkt_13, xkt_14, xkt_16, xkt_20, xkt_24, xkt_31, xkt_32, xkt_40, xkt_44, xkt_47, xkt_48, xkt_57, xkt_59, xkt_60, xkt_63, xkt_64, xkt_65, xkt_72, xkt_95, xkt_99, xkt_100, xkt_101, xkt_103, xkt_110, xkt_112, xkt_113, xkt_114, xkt_119, xkt_126, xkt_159, xkt_576, xkt_999, xkt_9999, xkt_65536, xkt_999999, xkt_m1, xkt_m2, xkt_m3, xkt_m4, xkt_m11, xkt_m12, xkt_m13, xkt_m14, xkt_m20, xjt_0, xjt_1, xjt_2, xjt_3, xjt_4, xjt_5, xjt_6, xjt_7, xjt_8, xjt_9, xjt_10, xjt_11, xjt_12, xjt_13, xjt_14, xjt_16, xjt_20, xjt_24, xjt_31, xjt_32, xjt_40, xjt_44, xjt_47, xjt_48, xjt_57, xjt_59, xjt_60, xjt_63, xjt_64, xjt_65, xjt_72, xjt_95, xjt_99, xjt_100, xjt_101, xjt_103, xjt_110, xjt_112, xjt_113, xjt_114, xjt_119, xjt_126, xjt_159, xjt_576, xjt_999, xjt_9999, xjt_65536, xjt_999999, xt64, xt_n, not_true_eq_false, not_false_eq_true, Classical.not_not] at c_8 c_19 c_29
        all_goals omega

theorem c_tins4 {d : Nat} {b : Bool} {I : Nat → Nat → Int32} {L : Nat → Nat → Int64} {N : Nat → Nat} {u : Nat} {U : Nat → Nat → Nat} (hP : xPL N u U 1 I) (hK : xUK N u U) {Y : xY} (hS : xSH Y I L) (hY : xYK Y) {n m t : Nat} (hn : 1 ≤ n ∧ n ≤ 8) (hm : 1 ≤ m ∧ m ≤ 20) (ht : t < 2) {s : Nat} (hs : s < 4) {la : Nat} (bl : la < 4) {j : Nat} (bj : j < 2 ^ 31) (hw : xwy (Y s) la (nI j) (nI (2 * n)) = 0) {ce te : Nat → Nat} (hq0 : xtn N (Y s).2.2.2 j n ce te) {x : Int32} (e_x : x = nI s) {y : Int32} (e_y : y = nI la) {i : Int32} (e_i : i = nI j) {z : Int32} (e_z : z = nI n) {v : Int32} (e_v : v = nI m) {w : Int32} (e_w : w = nI t) : xm_Z (d + 8) 92 [.ref 0, .int x, .int y, .int i, .int z, .int v, .int w] (xS b, I, L, xP b) (fun rz hz => xQC b I L (if t = 0 then nI (xcnt (xfw N m ce te n) (2 ^ N 2)) else xfs (xfw N m ce te n) (2 ^ N 2)) N u U rz hz) := by
  subst e_x
  subst e_y
  subst e_i
  subst e_z
  subst e_v
  subst e_w
  have hO := hK.1
  have hb := hK.1.1
  have c64 : N 0 * N 1 ≤ 64 := xce_le hO
  have c4 : 4 ≤ N 0 * N 1 := xce_ge hO
  obtain ⟨⟨hN0, hN1, hN2, hN3, hN4, hN5, hN6, hN7, hN8, hN9, hN10⟩, hNs, hNw, hNp⟩ := hP.1
  have s2 : (xS b)[52 + 2 * s]? = some (10, 4) := xS_52 hs
  have s3 : (xS b)[53 + 2 * s]? = some (1, 24) := xS_53 hs
  obtain ⟨y0, y1, y2, y3⟩ := hS s hs
  have hk := hY s hs
  obtain ⟨w1, w2, w3, w4, w5⟩ := xwy_0 hw
  have hj9 : j + 2 * n ≤ (Y s).2.2.1 := by rw [xt_n bj, xt_n (by omega)] at w5; omega
  have hj : j + 2 * n ≤ 24 := by omega
  have hok := xtn_ok c64 hq0
  have hq : xtn N (L (53 + 2 * s)) j n ce te := fun k hk => by
    rw [y3 _ (by omega), y3 _ (by omega)]
    exact hq0 k hk
  refine xw_S xb_92 (l := [.ref 0, .int (nI s), .int (nI la), .int (nI j), .int (nI n), .int (nI m), .int (nI t), .float 0, .float 0, .float 0, .float 0, .float 0, .float 0, .float 0]) (Nat.le_of_ble_eq_true rfl) rfl ?_
  refine xw_go xb_92 3 (f1 := (5, [.ref 0, .int (nI s), .int (nI la), .int (nI j), .int (nI n), .int (nI m), .int (nI t), .float 0, .float 0, .float 0, .float 0, .float 0, .float 0, .float 0], [.int 8, .int 1, .int (nI n)])) (h1 := (xS b, I, L, xP b)) rfl trivial ?_
  refine xw_call xb_92 rfl rfl rfl rfl rfl (Or.inl rfl) c_within ?_
  rintro _ _ ⟨rfl, rfl⟩
  refine xw_at (f' := (8, [.ref 0, .int (nI s), .int (nI la), .int (nI j), .int (nI n), .int (nI m), .int (nI t), .float 0, .float 0, .float 0, .float 0, .float 0, .float 0, .float 0], [.int (nI (xB (decide ((1 : Int32).toInt ≤ (nI n).toInt ∧ (nI n).toInt ≤ (8 : Int32).toInt))))])) (h' := (xS b, I, L, xP b)) rfl rfl ?_
  refine xw_go xb_92 1 (f1 := (if (nI (xB (decide ((1 : Int32).toInt ≤ (nI n).toInt ∧ (nI n).toInt ≤ (8 : Int32).toInt)))) = 0 then 32 else 11, [.ref 0, .int (nI s), .int (nI la), .int (nI j), .int (nI n), .int (nI m), .int (nI t), .float 0, .float 0, .float 0, .float 0, .float 0, .float 0, .float 0], [])) (h1 := (xS b, I, L, xP b)) rfl trivial ?_
  refine xw_if (fun c_8 => ?_) (fun c_8 => ?_)
  · skip
    exfalso
    try simp only [xB_dec, Classical.not_not] at c_8
    try simp (disch := omega) only [xt_eq, xt_lt, xt_le, xkt_0, xkt_1, xkt_2, xkt_3, xkt_4, xkt_5, xkt_6, xkt_7, xkt_8, xkt_9, xkt_10, xkt_11, xkt_12, xkt_13, xkt_14, xkt_16, xkt_20, xkt_24, xkt_31, xkt_32, xkt_40, xkt_44, xkt_47, xkt_48, xkt_57, xkt_59, xkt_60, xkt_63, xkt_64, xkt_65, xkt_72, xkt_95, xkt_99, xkt_100, xkt_101, xkt_103, xkt_110, xkt_112, xkt_113, xkt_114, xkt_119, xkt_126, xkt_159, xkt_576, xkt_999, xkt_9999, xkt_65536, xkt_999999, xkt_m1, xkt_m2, xkt_m3, xkt_m4, xkt_m11, xkt_m12, xkt_m13, xkt_m14, xkt_m20, xjt_0, xjt_1, xjt_2, xjt_3, xjt_4, xjt_5, xjt_6, xjt_7, xjt_8, xjt_9, xjt_10, xjt_11, xjt_12, xjt_13, xjt_14, xjt_16, xjt_20, xjt_24, xjt_31, xjt_32, xjt_40, xjt_44, xjt_47, xjt_48, xjt_57, xjt_59, xjt_60, xjt_63, xjt_64, xjt_65, xjt_72, xjt_95, xjt_99, xjt_100, xjt_101, xjt_103, xjt_110, xjt_112, xjt_113, xjt_114, xjt_119, xjt_126, xjt_159, xjt_576, xjt_999, xjt_9999, xjt_65536, xjt_999999, xt64, xt_n, not_true_eq_false, not_false_eq_true, Classical.not_not] at c_8
    all_goals omega
  · skip
    refine xw_go xb_92 3 (f1 := (16, [.ref 0, .int (nI s), .int (nI la), .int (nI j), .int (nI n), .int (nI m), .int (nI t), .float 0, .float 0, .float 0, .float 0, .float 0, .float 0, .float 0], [.int 20, .int 1, .int (nI m)])) (h1 := (xS b, I, L, xP b)) rfl trivial ?_
    refine xw_call xb_92 rfl rfl rfl rfl rfl (Or.inl rfl) c_within ?_
    rintro _ _ ⟨rfl, rfl⟩
    refine xw_at (f' := (19, [.ref 0, .int (nI s), .int (nI la), .int (nI j), .int (nI n), .int (nI m), .int (nI t), .float 0, .float 0, .float 0, .float 0, .float 0, .float 0, .float 0], [.int (nI (xB (decide ((1 : Int32).toInt ≤ (nI m).toInt ∧ (nI m).toInt ≤ (20 : Int32).toInt))))])) (h' := (xS b, I, L, xP b)) rfl rfl ?_
    refine xw_go xb_92 1 (f1 := (if (nI (xB (decide ((1 : Int32).toInt ≤ (nI m).toInt ∧ (nI m).toInt ≤ (20 : Int32).toInt)))) = 0 then 32 else 22, [.ref 0, .int (nI s), .int (nI la), .int (nI j), .int (nI n), .int (nI m), .int (nI t), .float 0, .float 0, .float 0, .float 0, .float 0, .float 0, .float 0], [])) (h1 := (xS b, I, L, xP b)) rfl trivial ?_
    refine xw_if (fun c_19 => ?_) (fun c_19 => ?_)
    · skip
      exfalso
      try simp only [xB_dec, Classical.not_not] at c_8 c_19
      try simp (disch := omega) only [xt_eq, xt_lt, xt_le, xkt_0, xkt_1, xkt_2, xkt_3, xkt_4, xkt_5, xkt_6, xkt_7, xkt_8, xkt_9, xkt_10, xkt_11, xkt_12, xkt_13, xkt_14, xkt_16, xkt_20, xkt_24, xkt_31, xkt_32, xkt_40, xkt_44, xkt_47, xkt_48, xkt_57, xkt_59, xkt_60, xkt_63, xkt_64, xkt_65, xkt_72, xkt_95, xkt_99, xkt_100, xkt_101, xkt_103, xkt_110, xkt_112, xkt_113, xkt_114, xkt_119, xkt_126, xkt_159, xkt_576, xkt_999, xkt_9999, xkt_65536, xkt_999999, xkt_m1, xkt_m2, xkt_m3, xkt_m4, xkt_m11, xkt_m12, xkt_m13, xkt_m14, xkt_m20, xjt_0, xjt_1, xjt_2, xjt_3, xjt_4, xjt_5, xjt_6, xjt_7, xjt_8, xjt_9, xjt_10, xjt_11, xjt_12, xjt_13, xjt_14, xjt_16, xjt_20, xjt_24, xjt_31, xjt_32, xjt_40, xjt_44, xjt_47, xjt_48, xjt_57, xjt_59, xjt_60, xjt_63, xjt_64, xjt_65, xjt_72, xjt_95, xjt_99, xjt_100, xjt_101, xjt_103, xjt_110, xjt_112, xjt_113, xjt_114, xjt_119, xjt_126, xjt_159, xjt_576, xjt_999, xjt_9999, xjt_65536, xjt_999999, xt64, xt_n, not_true_eq_false, not_false_eq_true, Classical.not_not] at c_8 c_19
      all_goals omega
    · skip
      refine xw_go xb_92 3 (f1 := (26, [.ref 0, .int (nI s), .int (nI la), .int (nI j), .int (nI n), .int (nI m), .int (nI t), .float 0, .float 0, .float 0, .float 0, .float 0, .float 0, .float 0], [.int 1, .int 0, .int (nI t)])) (h1 := (xS b, I, L, xP b)) rfl trivial ?_
      refine xw_call xb_92 rfl rfl rfl rfl rfl (Or.inl rfl) c_within ?_
      rintro _ _ ⟨rfl, rfl⟩
      refine xw_at (f' := (29, [.ref 0, .int (nI s), .int (nI la), .int (nI j), .int (nI n), .int (nI m), .int (nI t), .float 0, .float 0, .float 0, .float 0, .float 0, .float 0, .float 0], [.int (nI (xB (decide ((0 : Int32).toInt ≤ (nI t).toInt ∧ (nI t).toInt ≤ (1 : Int32).toInt))))])) (h' := (xS b, I, L, xP b)) rfl rfl ?_
      refine xw_go xb_92 1 (f1 := (if ¬ (nI (xB (decide ((0 : Int32).toInt ≤ (nI t).toInt ∧ (nI t).toInt ≤ (1 : Int32).toInt)))) = 0 then 34 else 32, [.ref 0, .int (nI s), .int (nI la), .int (nI j), .int (nI n), .int (nI m), .int (nI t), .float 0, .float 0, .float 0, .float 0, .float 0, .float 0, .float 0], [])) (h1 := (xS b, I, L, xP b)) rfl trivial ?_
      refine xw_if (fun c_29 => ?_) (fun c_29 => ?_)
      · skip
        refine xw_go xb_92 7 (f1 := (42, [.ref 0, .int (nI s), .int (nI la), .int (nI j), .int (nI n), .int (nI m), .int (nI t), .float 0, .float 0, .float 0, .float 0, .float 0, .float 0, .float 0], [.int (2 * (nI n)), .int (nI j), .int (nI la), .int (nI s), .ref 0])) (h1 := (xS b, I, L, xP b)) rfl trivial ?_
        refine xw_cong (l' := [.ref 0, .int (nI s), .int (nI la), .int (nI j), .int (nI n), .int (nI m), .int (nI t), .float 0, .float 0, .float 0, .float 0, .float 0, .float 0, .float 0]) (st' := [.int (nI (2 * n)), .int (nI j), .int (nI la), .int (nI s), .ref 0]) (h' := (xS b, I, L, xP b)) rfl (show ([.int (2 * (nI n)), .int (nI j), .int (nI la), .int (nI s), .ref 0] : List Value) = [.int (nI (2 * n)), .int (nI j), .int (nI la), .int (nI s), .ref 0] from ?_) rfl ?_
        · rw [xl_2, pk_mul]
        refine xw_call xb_92 rfl rfl rfl rfl rfl (Or.inr ⟨_, _, rfl, rfl⟩) (c_refusal1 hS hY hs bl rfl rfl) ?_
        rintro _ _ ⟨rfl, rfl⟩
        refine xw_at (f' := (45, [.ref 0, .int (nI s), .int (nI la), .int (nI j), .int (nI n), .int (nI m), .int (nI t), .float 0, .float 0, .float 0, .float 0, .float 0, .float 0, .float 0], [.int (xwy (Y s) la (nI j) (nI (2 * n)))])) (h' := (xS b, I, L, xP b)) rfl rfl ?_
        refine xw_go xb_92 3 (f1 := (if (xwy (Y s) la (nI j) (nI (2 * n))) = 0 then 55 else 52, [.ref 0, .int (nI s), .int (nI la), .int (nI j), .int (nI n), .int (nI m), .int (nI t), .int (xwy (Y s) la (nI j) (nI (2 * n))), .float 0, .float 0, .float 0, .float 0, .float 0, .float 0], [])) (h1 := (xS b, I, L, xP b)) rfl trivial ?_
        refine xw_if (fun c_49 => ?_) (fun c_49 => ?_)
        · skip
          refine xw_go xb_92 4 (f1 := (61, [.ref 0, .int (nI s), .int (nI la), .int (nI j), .int (nI n), .int (nI m), .int (nI t), .int (xwy (Y s) la (nI j) (nI (2 * n))), .float 0, .float 0, .float 0, .float 0, .float 0, .float 0], [xm_o (xP b 51 (nI s).toNatClampNeg)])) (h1 := (xS b, I, L, xP b)) rfl ⟨rfl, (xn_ar (n := s) (N := 4) rfl (by omega) (by decide)), ⟨Nat.le_of_ble_eq_true rfl, Nat.le_of_ble_eq_true rfl⟩, trivial⟩ ?_
          refine xw_cong (l' := [.ref 0, .int (nI s), .int (nI la), .int (nI j), .int (nI n), .int (nI m), .int (nI t), .int (xwy (Y s) la (nI j) (nI (2 * n))), .float 0, .float 0, .float 0, .float 0, .float 0, .float 0]) (st' := [.ref (52 + 2 * s)]) (h' := (xS b, I, L, xP b)) rfl (show ([xm_o (xP b 51 (nI s).toNatClampNeg)] : List Value) = [.ref (52 + 2 * s)] from ?_) rfl ?_
          · rw [xn_cl (by omega), xP_51 hs]
            rfl
          refine xw_go xb_92 3 (f1 := (66, [.ref 0, .int (nI s), .int (nI la), .int (nI j), .int (nI n), .int (nI m), .int (nI t), .int (xwy (Y s) la (nI j) (nI (2 * n))), .ref (52 + 2 * s), .int 0, .float 0, .float 0, .float 0, .float 0], [])) (h1 := (xS b, I, L, xP b)) rfl trivial ?_
          refine xw_at (f' := (66, [.ref 0, .int (nI s), .int (nI la), .int (nI j), .int (nI n), .int (nI m), .int (nI t), .int (xwy (Y s) la (nI j) (nI (2 * n))), .ref (52 + 2 * s), .int (nI 0), .float 0, .float 0, .float 0, .float 0], [])) (h' := (xS b, I, L, xP b)) rfl rfl ?_
          refine xw_loopP n (fun k => (66, [.ref 0, .int (nI s), .int (nI la), .int (nI j), .int (nI n), .int (nI m), .int (nI t), .int (xwy (Y s) la (nI j) (nI (2 * n))), .ref (52 + 2 * s), .int (nI k), .float 0, .float 0, .float 0, .float 0], [])) (fun k h => h = (xS b, I, L, xP b) ∧ ∀ q, q < k → xtok N (Y s).2.2.2 j q) (fun k h hk hV ih => ?_) (fun h hV => ?_) 0 _ (Nat.zero_le _) ⟨rfl, fun q hq => absurd hq (Nat.not_lt_zero q)⟩
          · obtain ⟨rfl, hv⟩ := hV
            refine xw_go xb_92 3 (f1 := (if (nI n) ≤ (nI k) then 149 else 73, [.ref 0, .int (nI s), .int (nI la), .int (nI j), .int (nI n), .int (nI m), .int (nI t), .int (xwy (Y s) la (nI j) (nI (2 * n))), .ref (52 + 2 * s), .int (nI k), .float 0, .float 0, .float 0, .float 0], [])) (h1 := (xS b, I, L, xP b)) rfl trivial ?_
            refine xw_if (fun c_70 => ?_) (fun c_70 => ?_)
            · skip
              exfalso
              try simp only [xB_dec, Classical.not_not] at c_70
              try simp (disch := omega) only [xt_eq, xt_lt, xt_le, xkt_0, xkt_1, xkt_2, xkt_3, xkt_4, xkt_5, xkt_6, xkt_7, xkt_8, xkt_9, xkt_10, xkt_11, xkt_12, xkt_13, xkt_14, xkt_16, xkt_20, xkt_24, xkt_31, xkt_32, xkt_40, xkt_44, xkt_47, xkt_48, xkt_57, xkt_59, xkt_60, xkt_63, xkt_64, xkt_65, xkt_72, xkt_95, xkt_99, xkt_100, xkt_101, xkt_103, xkt_110, xkt_112, xkt_113, xkt_114, xkt_119, xkt_126, xkt_159, xkt_576, xkt_999, xkt_9999, xkt_65536, xkt_999999, xkt_m1, xkt_m2, xkt_m3, xkt_m4, xkt_m11, xkt_m12, xkt_m13, xkt_m14, xkt_m20, xjt_0, xjt_1, xjt_2, xjt_3, xjt_4, xjt_5, xjt_6, xjt_7, xjt_8, xjt_9, xjt_10, xjt_11, xjt_12, xjt_13, xjt_14, xjt_16, xjt_20, xjt_24, xjt_31, xjt_32, xjt_40, xjt_44, xjt_47, xjt_48, xjt_57, xjt_59, xjt_60, xjt_63, xjt_64, xjt_65, xjt_72, xjt_95, xjt_99, xjt_100, xjt_101, xjt_103, xjt_110, xjt_112, xjt_113, xjt_114, xjt_119, xjt_126, xjt_159, xjt_576, xjt_999, xjt_9999, xjt_65536, xjt_999999, xt64, xt_n, not_true_eq_false, not_false_eq_true, Classical.not_not] at c_70
              all_goals omega
            · skip
              refine xw_go xb_92 2 (f1 := (78, [.ref 0, .int (nI s), .int (nI la), .int (nI j), .int (nI n), .int (nI m), .int (nI t), .int (xwy (Y s) la (nI j) (nI (2 * n))), .ref (52 + 2 * s), .int (nI k), .float 0, .float 0, .float 0, .float 0], [xm_o (xP b (52 + 2 * s) 3)])) (h1 := (xS b, I, L, xP b)) rfl ⟨s2, trivial⟩ ?_
              refine xw_cong (l' := [.ref 0, .int (nI s), .int (nI la), .int (nI j), .int (nI n), .int (nI m), .int (nI t), .int (xwy (Y s) la (nI j) (nI (2 * n))), .ref (52 + 2 * s), .int (nI k), .float 0, .float 0, .float 0, .float 0]) (st' := [.ref (53 + 2 * s)]) (h' := (xS b, I, L, xP b)) rfl (show ([xm_o (xP b (52 + 2 * s) 3)] : List Value) = [.ref (53 + 2 * s)] from ?_) rfl ?_
              · rw [xP_52 hs]
                rfl
              refine xw_go xb_92 6 (f1 := (85, [.ref 0, .int (nI s), .int (nI la), .int (nI j), .int (nI n), .int (nI m), .int (nI t), .int (xwy (Y s) la (nI j) (nI (2 * n))), .ref (52 + 2 * s), .int (nI k), .float 0, .float 0, .float 0, .float 0], [.long (L (53 + 2 * s) ((nI j) + (2 * (nI k))).toNatClampNeg)])) (h1 := (xS b, I, L, xP b)) rfl ⟨(xn_ar' (n := j + 2 * k) (N := 24) s3 (show nI j + 2 * nI k = _ by rw [xl_2, pk_mul, nI_add]) (by omega) (by decide)), trivial⟩ ?_
              refine xw_cong (l' := [.ref 0, .int (nI s), .int (nI la), .int (nI j), .int (nI n), .int (nI m), .int (nI t), .int (xwy (Y s) la (nI j) (nI (2 * n))), .ref (52 + 2 * s), .int (nI k), .float 0, .float 0, .float 0, .float 0]) (st' := [.long ((Y s).2.2.2 (j + 2 * k))]) (h' := (xS b, I, L, xP b)) rfl (show ([.long (L (53 + 2 * s) ((nI j) + (2 * (nI k))).toNatClampNeg)] : List Value) = [.long ((Y s).2.2.2 (j + 2 * k))] from ?_) rfl ?_
              · rw [xl_2, pk_mul, nI_add, xn_cl (by omega), y3 _ (by omega)]
              refine xw_go xb_92 3 (f1 := (92, [.ref 0, .int (nI s), .int (nI la), .int (nI j), .int (nI n), .int (nI m), .int (nI t), .int (xwy (Y s) la (nI j) (nI (2 * n))), .ref (52 + 2 * s), .int (nI k), .long ((Y s).2.2.2 (j + 2 * k)), .float 0, .float 0, .float 0], [xm_o (xP b (52 + 2 * s) 3)])) (h1 := (xS b, I, L, xP b)) rfl ⟨s2, trivial⟩ ?_
              refine xw_cong (l' := [.ref 0, .int (nI s), .int (nI la), .int (nI j), .int (nI n), .int (nI m), .int (nI t), .int (xwy (Y s) la (nI j) (nI (2 * n))), .ref (52 + 2 * s), .int (nI k), .long ((Y s).2.2.2 (j + 2 * k)), .float 0, .float 0, .float 0]) (st' := [.ref (53 + 2 * s)]) (h' := (xS b, I, L, xP b)) rfl (show ([xm_o (xP b (52 + 2 * s) 3)] : List Value) = [.ref (53 + 2 * s)] from ?_) rfl ?_
              · rw [xP_52 hs]
                rfl
              refine xw_go xb_92 8 (f1 := (101, [.ref 0, .int (nI s), .int (nI la), .int (nI j), .int (nI n), .int (nI m), .int (nI t), .int (xwy (Y s) la (nI j) (nI (2 * n))), .ref (52 + 2 * s), .int (nI k), .long ((Y s).2.2.2 (j + 2 * k)), .float 0, .float 0, .float 0], [.long (L (53 + 2 * s) (((nI j) + (2 * (nI k))) + 1).toNatClampNeg)])) (h1 := (xS b, I, L, xP b)) rfl ⟨(xn_ar' (n := j + 2 * k + 1) (N := 24) s3 (show nI j + 2 * nI k + 1 = _ by rw [xl_2, pk_mul, nI_add, xl_1, nI_add]) (by omega) (by decide)), trivial⟩ ?_
              refine xw_cong (l' := [.ref 0, .int (nI s), .int (nI la), .int (nI j), .int (nI n), .int (nI m), .int (nI t), .int (xwy (Y s) la (nI j) (nI (2 * n))), .ref (52 + 2 * s), .int (nI k), .long ((Y s).2.2.2 (j + 2 * k)), .float 0, .float 0, .float 0]) (st' := [.long ((Y s).2.2.2 (j + 2 * k + 1))]) (h' := (xS b, I, L, xP b)) rfl (show ([.long (L (53 + 2 * s) (((nI j) + (2 * (nI k))) + 1).toNatClampNeg)] : List Value) = [.long ((Y s).2.2.2 (j + 2 * k + 1))] from ?_) rfl ?_
              · rw [xl_2, pk_mul, nI_add, xl_1, nI_add, xn_cl (by omega), y3 _ (by omega)]
              refine xw_go xb_92 5 (f1 := (if (lg_cmp ((Y s).2.2.2 (j + 2 * k)) 0) < 0 then 140 else 110, [.ref 0, .int (nI s), .int (nI la), .int (nI j), .int (nI n), .int (nI m), .int (nI t), .int (xwy (Y s) la (nI j) (nI (2 * n))), .ref (52 + 2 * s), .int (nI k), .long ((Y s).2.2.2 (j + 2 * k)), .float 0, .long ((Y s).2.2.2 (j + 2 * k + 1)), .float 0], [])) (h1 := (xS b, I, L, xP b)) rfl trivial ?_
              refine xw_if (fun c_107 => ?_) (fun c_107 => ?_)
              · skip
                exfalso
                have hz := hok k hk
                unfold xtok at hz
                try rw [xg_lt, xjt_0] at c_107
                try rw [xg_ge, xt64, xt_n (by omega)] at c_121
                try rw [xg_lt, xjt_0] at c_128
                try rw [xg_le, xjt_9999] at c_137
                omega
              · skip
                refine xw_go xb_92 3 (f1 := (116, [.ref 0, .int (nI s), .int (nI la), .int (nI j), .int (nI n), .int (nI m), .int (nI t), .int (xwy (Y s) la (nI j) (nI (2 * n))), .ref (52 + 2 * s), .int (nI k), .long ((Y s).2.2.2 (j + 2 * k)), .float 0, .long ((Y s).2.2.2 (j + 2 * k + 1)), .float 0], [.ref 1, .long ((Y s).2.2.2 (j + 2 * k))])) (h1 := (xS b, I, L, xP b)) rfl ⟨rfl, trivial⟩ ?_
                refine xw_call xb_92 rfl rfl rfl rfl rfl (Or.inr ⟨_, _, rfl, rfl⟩) (c_cells (I := I) hN0 hN1) ?_
                rintro _ _ ⟨rfl, rfl⟩
                refine xw_at (f' := (119, [.ref 0, .int (nI s), .int (nI la), .int (nI j), .int (nI n), .int (nI m), .int (nI t), .int (xwy (Y s) la (nI j) (nI (2 * n))), .ref (52 + 2 * s), .int (nI k), .long ((Y s).2.2.2 (j + 2 * k)), .float 0, .long ((Y s).2.2.2 (j + 2 * k + 1)), .float 0], [.int (nI (N 0 * N 1)), .long ((Y s).2.2.2 (j + 2 * k))])) (h' := (xS b, I, L, xP b)) rfl rfl ?_
                refine xw_go xb_92 3 (f1 := (if 0 ≤ (lg_cmp ((Y s).2.2.2 (j + 2 * k)) ((nI (N 0 * N 1)).toInt64)) then 140 else 124, [.ref 0, .int (nI s), .int (nI la), .int (nI j), .int (nI n), .int (nI m), .int (nI t), .int (xwy (Y s) la (nI j) (nI (2 * n))), .ref (52 + 2 * s), .int (nI k), .long ((Y s).2.2.2 (j + 2 * k)), .float 0, .long ((Y s).2.2.2 (j + 2 * k + 1)), .float 0], [])) (h1 := (xS b, I, L, xP b)) rfl trivial ?_
                refine xw_if (fun c_121 => ?_) (fun c_121 => ?_)
                · skip
                  exfalso
                  have hz := hok k hk
                  unfold xtok at hz
                  try rw [xg_lt, xjt_0] at c_107
                  try rw [xg_ge, xt64, xt_n (by omega)] at c_121
                  try rw [xg_lt, xjt_0] at c_128
                  try rw [xg_le, xjt_9999] at c_137
                  omega
                · skip
                  refine xw_go xb_92 4 (f1 := (if (lg_cmp ((Y s).2.2.2 (j + 2 * k + 1)) 0) < 0 then 140 else 131, [.ref 0, .int (nI s), .int (nI la), .int (nI j), .int (nI n), .int (nI m), .int (nI t), .int (xwy (Y s) la (nI j) (nI (2 * n))), .ref (52 + 2 * s), .int (nI k), .long ((Y s).2.2.2 (j + 2 * k)), .float 0, .long ((Y s).2.2.2 (j + 2 * k + 1)), .float 0], [])) (h1 := (xS b, I, L, xP b)) rfl trivial ?_
                  refine xw_if (fun c_128 => ?_) (fun c_128 => ?_)
                  · skip
                    exfalso
                    have hz := hok k hk
                    unfold xtok at hz
                    try rw [xg_lt, xjt_0] at c_107
                    try rw [xg_ge, xt64, xt_n (by omega)] at c_121
                    try rw [xg_lt, xjt_0] at c_128
                    try rw [xg_le, xjt_9999] at c_137
                    omega
                  · skip
                    refine xw_go xb_92 4 (f1 := (if (lg_cmp ((Y s).2.2.2 (j + 2 * k + 1)) 9999) ≤ 0 then 143 else 140, [.ref 0, .int (nI s), .int (nI la), .int (nI j), .int (nI n), .int (nI m), .int (nI t), .int (xwy (Y s) la (nI j) (nI (2 * n))), .ref (52 + 2 * s), .int (nI k), .long ((Y s).2.2.2 (j + 2 * k)), .float 0, .long ((Y s).2.2.2 (j + 2 * k + 1)), .float 0], [])) (h1 := (xS b, I, L, xP b)) rfl trivial ?_
                    refine xw_if (fun c_137 => ?_) (fun c_137 => ?_)
                    · skip
                      refine xw_go xb_92 2 (f1 := (66, [.ref 0, .int (nI s), .int (nI la), .int (nI j), .int (nI n), .int (nI m), .int (nI t), .int (xwy (Y s) la (nI j) (nI (2 * n))), .ref (52 + 2 * s), .int ((nI k) + 1), .long ((Y s).2.2.2 (j + 2 * k)), .float 0, .long ((Y s).2.2.2 (j + 2 * k + 1)), .float 0], [])) (h1 := (xS b, I, L, xP b)) rfl trivial ?_
                      refine xw_fg (l0 := [.ref 0, .int (nI s), .int (nI la), .int (nI j), .int (nI n), .int (nI m), .int (nI t), .int (xwy (Y s) la (nI j) (nI (2 * n))), .ref (52 + 2 * s), .int ((nI k) + 1), .float 0, .float 0, .float 0, .float 0]) ⟨Or.inr rfl, Or.inr rfl, Or.inr rfl, Or.inr rfl, Or.inr rfl, Or.inr rfl, Or.inr rfl, Or.inr rfl, Or.inr rfl, Or.inr rfl, Or.inl rfl, Or.inl rfl, Or.inl rfl, Or.inl rfl, trivial⟩ ?_
                      refine xw_cong ?_ rfl rfl (ih _ ⟨rfl, fun q hq => ?_⟩)
                      · rw [nI_1]
                      · by_cases e : q = k
                        · subst e
                          unfold xtok
                          try rw [xg_lt, xjt_0] at c_107
                          try rw [xg_ge, xt64, xt_n (by omega)] at c_121
                          try rw [xg_lt, xjt_0] at c_128
                          try rw [xg_le, xjt_9999] at c_137
                          omega
                        · exact hv q (by omega)
                    · skip
                      exfalso
                      have hz := hok k hk
                      unfold xtok at hz
                      try rw [xg_lt, xjt_0] at c_107
                      try rw [xg_ge, xt64, xt_n (by omega)] at c_121
                      try rw [xg_lt, xjt_0] at c_128
                      try rw [xg_le, xjt_9999] at c_137
                      omega
          · obtain ⟨rfl, hv⟩ := hV
            refine xw_go xb_92 3 (f1 := (if (nI n) ≤ (nI n) then 149 else 73, [.ref 0, .int (nI s), .int (nI la), .int (nI j), .int (nI n), .int (nI m), .int (nI t), .int (xwy (Y s) la (nI j) (nI (2 * n))), .ref (52 + 2 * s), .int (nI n), .float 0, .float 0, .float 0, .float 0], [])) (h1 := (xS b, I, L, xP b)) rfl trivial ?_
            refine xw_if (fun c_70 => ?_) (fun c_70 => ?_)
            · skip
              refine xw_go xb_92 4 (f1 := (158, [.ref 0, .int (nI s), .int (nI la), .int (nI j), .int (nI n), .int (nI m), .int (nI t), .int (xwy (Y s) la (nI j) (nI (2 * n))), .ref (52 + 2 * s), .int (nI n), .float 0, .float 0, .float 0, .float 0], [xm_o (xP b (52 + 2 * s) 3), .ref 24])) (h1 := (xS b, I, L, xP b)) rfl ⟨rfl, s2, trivial⟩ ?_
              refine xw_cong (l' := [.ref 0, .int (nI s), .int (nI la), .int (nI j), .int (nI n), .int (nI m), .int (nI t), .int (xwy (Y s) la (nI j) (nI (2 * n))), .ref (52 + 2 * s), .int (nI n), .float 0, .float 0, .float 0, .float 0]) (st' := [.ref (53 + 2 * s), .ref 24]) (h' := (xS b, I, L, xP b)) rfl (show ([xm_o (xP b (52 + 2 * s) 3), .ref 24] : List Value) = [.ref (53 + 2 * s), .ref 24] from ?_) rfl ?_
              · rw [xP_52 hs]
                rfl
              refine xw_go xb_92 3 (f1 := (163, [.ref 0, .int (nI s), .int (nI la), .int (nI j), .int (nI n), .int (nI m), .int (nI t), .int (xwy (Y s) la (nI j) (nI (2 * n))), .ref (52 + 2 * s), .int (nI n), .float 0, .float 0, .float 0, .float 0], [.int (nI m), .int (nI n), .int (nI j), .ref (53 + 2 * s), .ref 24])) (h1 := (xS b, I, L, xP b)) rfl trivial ?_
              refine xw_call xb_92 rfl rfl rfl rfl rfl (Or.inr ⟨_, _, rfl, rfl⟩) (c_findTins (I := I) hP.1 hO hs hq hj (m := m) (by omega) rfl rfl rfl) ?_
              rintro _ _ ⟨rfl, I1, rfl, g1, g2, g3⟩
              refine xw_at (f' := (166, [.ref 0, .int (nI s), .int (nI la), .int (nI j), .int (nI n), .int (nI m), .int (nI t), .int (xwy (Y s) la (nI j) (nI (2 * n))), .ref (52 + 2 * s), .int (nI n), .float 0, .float 0, .float 0, .float 0], [])) (h' := (xS b, I1, L, xP b)) rfl rfl ?_
              refine xw_go xb_92 2 (f1 := (if ¬ (nI t) = 0 then 181 else 171, [.ref 0, .int (nI s), .int (nI la), .int (nI j), .int (nI n), .int (nI m), .int (nI t), .int (xwy (Y s) la (nI j) (nI (2 * n))), .ref (52 + 2 * s), .int (nI n), .float 0, .float 0, .float 0, .float 0], [])) (h1 := (xS b, I1, L, xP b)) rfl trivial ?_
              refine xw_if (fun c_168 => ?_) (fun c_168 => ?_)
              · skip
                refine xw_go xb_92 3 (f1 := (188, [.ref 0, .int (nI s), .int (nI la), .int (nI j), .int (nI n), .int (nI m), .int (nI t), .int (xwy (Y s) la (nI j) (nI (2 * n))), .ref (52 + 2 * s), .int (nI n), .float 0, .float 0, .float 0, .float 0], [.int (I1 24 11)])) (h1 := (xS b, I1, L, xP b)) rfl ⟨rfl, rfl, trivial⟩ ?_
                refine xw_ret xb_92 rfl rfl trivial ?_
                first
                  | (have e0 : t = 0 := by
                       (try simp (disch := omega) only [xt_eq, xt_n, xkt_0, Classical.not_not] at c_168)
                       omega
                     rw [if_pos e0]
                     exact ⟨xm_some (congrArg Value.int g2), I1, rfl, xFF_P g1, xFF_L g1 (by omega) hP⟩)
                  | (have e0 : ¬ t = 0 := by
                       (try simp (disch := omega) only [xt_eq, xt_n, xkt_0, Classical.not_not] at c_168)
                       omega
                     rw [if_neg e0]
                     exact ⟨xm_some (congrArg Value.int g3), I1, rfl, xFF_P g1, xFF_L g1 (by omega) hP⟩)
              · skip
                refine xw_go xb_92 4 (f1 := (188, [.ref 0, .int (nI s), .int (nI la), .int (nI j), .int (nI n), .int (nI m), .int (nI t), .int (xwy (Y s) la (nI j) (nI (2 * n))), .ref (52 + 2 * s), .int (nI n), .float 0, .float 0, .float 0, .float 0], [.int (I1 24 10)])) (h1 := (xS b, I1, L, xP b)) rfl ⟨rfl, rfl, trivial⟩ ?_
                refine xw_ret xb_92 rfl rfl trivial ?_
                first
                  | (have e0 : t = 0 := by
                       (try simp (disch := omega) only [xt_eq, xt_n, xkt_0, Classical.not_not] at c_168)
                       omega
                     rw [if_pos e0]
                     exact ⟨xm_some (congrArg Value.int g2), I1, rfl, xFF_P g1, xFF_L g1 (by omega) hP⟩)
                  | (have e0 : ¬ t = 0 := by
                       (try simp (disch := omega) only [xt_eq, xt_n, xkt_0, Classical.not_not] at c_168)
                       omega
                     rw [if_neg e0]
                     exact ⟨xm_some (congrArg Value.int g3), I1, rfl, xFF_P g1, xFF_L g1 (by omega) hP⟩)
            · skip
              exfalso
              try simp only [xB_dec, Classical.not_not] at c_70
              try simp (disch := omega) only [xt_eq, xt_lt, xt_le, xkt_0, xkt_1, xkt_2, xkt_3, xkt_4, xkt_5, xkt_6, xkt_7, xkt_8, xkt_9, xkt_10, xkt_11, xkt_12, xkt_13, xkt_14, xkt_16, xkt_20, xkt_24, xkt_31, xkt_32, xkt_40, xkt_44, xkt_47, xkt_48, xkt_57, xkt_59, xkt_60, xkt_63, xkt_64, xkt_65, xkt_72, xkt_95, xkt_99, xkt_100, xkt_101, xkt_103, xkt_110, xkt_112, xkt_113, xkt_114, xkt_119, xkt_126, xkt_159, xkt_576, xkt_999, xkt_9999, xkt_65536, xkt_999999, xkt_m1, xkt_m2, xkt_m3, xkt_m4, xkt_m11, xkt_m12, xkt_m13, xkt_m14, xkt_m20, xjt_0, xjt_1, xjt_2, xjt_3, xjt_4, xjt_5, xjt_6, xjt_7, xjt_8, xjt_9, xjt_10, xjt_11, xjt_12, xjt_13, xjt_14, xjt_16, xjt_20, xjt_24, xjt_31, xjt_32, xjt_40, xjt_44, xjt_47, xjt_48, xjt_57, xjt_59, xjt_60, xjt_63, xjt_64, xjt_65, xjt_72, xjt_95, xjt_99, xjt_100, xjt_101, xjt_103, xjt_110, xjt_112, xjt_113, xjt_114, xjt_119, xjt_126, xjt_159, xjt_576, xjt_999, xjt_9999, xjt_65536, xjt_999999, xt64, xt_n, not_true_eq_false, not_false_eq_true, Classical.not_not] at c_70
              all_goals omega
        · skip
          exact absurd hw c_49
      · skip
        exfalso
        try simp only [xB_dec, Classical.not_not] at c_8 c_19 c_29
        try simp (disch := omega) only [xt_eq, xt_lt, xt_le, xkt_0, xkt_1, xkt_2, xkt_3, xkt_4, xkt_5, xkt_6, xkt_7, xkt_8, xkt_9, xkt_10, xkt_11, xkt_12, xkt_13, xkt_14, xkt_16, xkt_20, xkt_24, xkt_31, xkt_32, xkt_40, xkt_44, xkt_47, xkt_48, xkt_57, xkt_59, xkt_60, xkt_63, xkt_64, xkt_65, xkt_72, xkt_95, xkt_99, xkt_100, xkt_101, xkt_103, xkt_110, xkt_112, xkt_113, xkt_114, xkt_119, xkt_126, xkt_159, xkt_576, xkt_999, xkt_9999, xkt_65536, xkt_999999, xkt_m1, xkt_m2, xkt_m3, xkt_m4, xkt_m11, xkt_m12, xkt_m13, xkt_m14, xkt_m20, xjt_0, xjt_1, xjt_2, xjt_3, xjt_4, xjt_5, xjt_6, xjt_7, xjt_8, xjt_9, xjt_10, xjt_11, xjt_12, xjt_13, xjt_14, xjt_16, xjt_20, xjt_24, xjt_31, xjt_32, xjt_40, xjt_44, xjt_47, xjt_48, xjt_57, xjt_59, xjt_60, xjt_63, xjt_64, xjt_65, xjt_72, xjt_95, xjt_99, xjt_100, xjt_101, xjt_103, xjt_110, xjt_112, xjt_113, xjt_114, xjt_119, xjt_126, xjt_159, xjt_576, xjt_999, xjt_9999, xjt_65536, xjt_999999, xt64, xt_n, not_true_eq_false, not_false_eq_true, Classical.not_not] at c_8 c_19 c_29
        all_goals omega

