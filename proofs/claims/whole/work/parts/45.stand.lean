/-! ===== calls: stand, set ===== -/
/-- the best of the first k: a may be taken, f how many are wrong, t which of two that are even -/
def xbt (a : Nat → Bool) (f : Nat → Nat) (t : Nat → Nat → Bool) : Nat → Nat × Nat
  | 0 => (65, 0)
  | k + 1 => if (a k && (decide (f k < (xbt a f t k).1) || (decide (f k = (xbt a f t k).1) && t k (xbt a f t k).2))) = true then (f k, k) else xbt a f t k
theorem xbt_y {a : Nat → Bool} {f : Nat → Nat} {t : Nat → Nat → Bool} {k : Nat} (h1 : a k = true) (h2 : f k < (xbt a f t k).1 ∨ (f k = (xbt a f t k).1 ∧ t k (xbt a f t k).2 = true)) : xbt a f t (k + 1) = (f k, k) := by
  have h : (a k && (decide (f k < (xbt a f t k).1) || (decide (f k = (xbt a f t k).1) && t k (xbt a f t k).2))) = true := by
    simp only [h1, Bool.true_and, Bool.or_eq_true, Bool.and_eq_true, decide_eq_true_eq]
    exact h2
  show (if _ then _ else _) = _
  rw [if_pos h]
theorem xbt_n {a : Nat → Bool} {f : Nat → Nat} {t : Nat → Nat → Bool} {k : Nat} (h : a k = false ∨ (¬ f k < (xbt a f t k).1 ∧ (f k ≠ (xbt a f t k).1 ∨ t k (xbt a f t k).2 = false))) : xbt a f t (k + 1) = xbt a f t k := by
  have h : ¬ (a k && (decide (f k < (xbt a f t k).1) || (decide (f k = (xbt a f t k).1) && t k (xbt a f t k).2))) = true := by
    rcases h with h | ⟨h1, h2⟩
    · simp [h]
    · rcases h2 with h2 | h2
      · simp [h1, h2]
      · simp [h1, h2]
  show (if _ then _ else _) = _
  rw [if_neg h]
theorem xbt_1 {a : Nat → Bool} {f : Nat → Nat} {t : Nat → Nat → Bool} (h : ∀ k, f k ≤ 64) : ∀ k, (xbt a f t k).1 ≤ 65
  | 0 => Nat.le_refl _
  | k + 1 => by
    show (if _ then (f k, k) else _).1 ≤ 65
    split
    · exact Nat.le_trans (h k) (by decide)
    · exact xbt_1 h k
theorem xbt_2 {a : Nat → Bool} {f : Nat → Nat} {t : Nat → Nat → Bool} : ∀ k, (xbt a f t k).2 ≤ k - 1
  | 0 => Nat.le_refl _
  | k + 1 => by
    show (if _ then (f k, k) else _).2 ≤ k + 1 - 1
    split
    · exact Nat.le_refl _
    · have := xbt_2 (a := a) (f := f) (t := t) k
      omega
theorem xsh : ∀ n, n ≤ 5 → (1 : Int32) <<< (nI n &&& 31) = nI (2 ^ n) := by decide +kernel
theorem xp32 {n : Nat} (h : n ≤ 5) : 2 ^ n ≤ 32 := Nat.pow_le_pow_right (n := 2) (by decide) h
theorem xclr : ∀ o, o < 32 → ∀ s, s < 5 → (nI o &&& (((1 : Int32) <<< (nI s &&& 31)) ^^^ (-1 : Int32)) = nI (o &&& (31 ^^^ (1 <<< s))) ∧ o &&& (31 ^^^ (1 <<< s)) < 32 ∧ nI o ||| ((1 : Int32) <<< (nI s &&& 31)) = nI (o ||| (1 <<< s)) ∧ o ||| (1 <<< s) < 32) := by decide +kernel
theorem xclb : ∀ o, o < 32 → ∀ s, s < 5 → ∀ p, p < 5 → ((o &&& (31 ^^^ (1 <<< s))).testBit p = (decide (p ≠ s) && o.testBit p) ∧ (o ||| (1 <<< s)).testBit p = (decide (p = s) || o.testBit p)) := by decide +kernel
/-- how many are wrong by a set -/
def xsf (N : Nat → Nat) (n k : Nat) : Nat := xwc (xgoN N (xfa N k (N 5)) n)
/-- how many are wrong with sprinkler s, on, on cell c -/
def xtf (N : Nat → Nat) (s n c : Nat) : Nat := xwc (xgoN (va_up N (12 + 4 * s) c) (xfa (va_up N (12 + 4 * s) c) (N 3 ||| (1 <<< s)) (N 5)) n)
theorem xtf_e {N : Nat → Nat} {s n c : Nat} (hs : s < N 2) : xwc (xgoN (va_up N (12 + 4 * s) c) (xfa (va_up N (12 + 4 * s) c) (N 3 ||| (1 <<< s)) (va_up N (12 + 4 * s) c 5)) n) = xtf N s n c := by
  unfold xtf
  rw [xvu_N (k := 12 + 4 * s) (j := 5) (by omega)]
theorem xOK_pl {N : Nat → Nat} {s c : Nat} (hO : xOK N) (hs : s < N 2) (hc : c < N 0 * N 1) : xOK (va_up N (12 + 4 * s) c) := by
  have hb := hO.1
  refine ⟨?_, fun j hj => ?_, fun j hj => ?_, fun i hi => ?_⟩
  · simp (disch := omega) only [xvu_N]
    exact hO.1
  · rw [xvu_N (by omega)]; exact hO.2.1 j hj
  · rw [xvu_N (by omega)]; exact hO.2.2.1 j hj
  · have e2 : va_up N (12 + 4 * s) c 2 = N 2 := xvu_N (by omega)
    rw [e2] at hi
    have h := hO.2.2.2 i hi
    rw [xvu_N (k := 12 + 4 * s) (j := 0) (by omega), xvu_N (k := 12 + 4 * s) (j := 1) (by omega), xvu_N (j := 11 + 4 * i) (by omega), xvu_N (j := 13 + 4 * i) (by omega), xvu_N (j := 14 + 4 * i) (by omega)]
    by_cases hq : i = s
    · subst hq
      rw [show va_up N (12 + 4 * i) c (12 + 4 * i) = c by simp [va_up]]
      exact ⟨h.1, hc, h.2.2⟩
    · rw [xvu_N (j := 12 + 4 * i) (by omega)]
      exact h
theorem xsum_1 {F G : Nat → Nat} {s a : Nat} (hs : F s = G s + a) : ∀ {n}, (∀ p, p < n → p ≠ s → F p = G p) → s < n → xsum F n = xsum G n + a
  | 0, _, h => absurd h (Nat.not_lt_zero s)
  | n + 1, h, hn => by
    show xsum F n + F n = xsum G n + G n + a
    by_cases h1 : s = n
    · subst h1
      rw [xsum_congr (fun p hp => h p (by omega) (by omega)), hs]
      omega
    · rw [xsum_1 hs (fun p hp => h p (by omega)) (by omega), h n (by omega) (fun q => h1 q.symm)]
      omega
theorem xfa_pl {N : Nat → Nat} {s c wi j : Nat} (hO : xOK N) (hs : s < N 2) : xfa (va_up N (12 + 4 * s) c) (N 3 ||| (1 <<< s)) wi j = if wi ≤ j % N 1 then xfa N (N 3 &&& (31 ^^^ (1 <<< s))) wi j + xs_thr (N (11 + 4 * s)) (N (13 + 4 * s)) (N (14 + 4 * s)) (j / N 1) (c / N 1) (j % N 1 - wi) (c % N 1) else xfa N (N 3 &&& (31 ^^^ (1 <<< s))) wi j := by
  have hb := hO.1
  unfold xfa xfaP
  rw [xvu_N (k := 12 + 4 * s) (j := 1) (by omega), xvu_N (k := 12 + 4 * s) (j := 2) (by omega)]
  by_cases h : wi ≤ j % N 1
  · rw [if_pos h, if_pos h, if_pos h]
    refine xsum_1 (s := s) ?_ (fun p hp hps => ?_) hs
    · obtain ⟨b1, b2⟩ := xclb (N 3) (xOn32 hO) s (by omega) s (by omega)
      rw [b1, b2]
      simp only [decide_true, Bool.true_or, if_true, ne_eq, not_true_eq_false, decide_false, Bool.false_and]
      rw [if_neg (by decide), Nat.zero_add]
      unfold xth
      rw [xvu_N (j := 11 + 4 * s) (by omega), xvu_N (j := 13 + 4 * s) (by omega), xvu_N (j := 14 + 4 * s) (by omega), xvu_N (j := 1) (by omega), show va_up N (12 + 4 * s) c (12 + 4 * s) = c by simp [va_up]]
    · obtain ⟨b1, b2⟩ := xclb (N 3) (xOn32 hO) s (by omega) p (by omega)
      rw [b1, b2]
      simp only [hps, decide_false, Bool.false_or, ne_eq, not_false_eq_true, decide_true, Bool.true_and]
      unfold xth
      rw [xvu_N (j := 11 + 4 * p) (by omega), xvu_N (j := 13 + 4 * p) (by omega), xvu_N (j := 14 + 4 * p) (by omega), xvu_N (j := 1) (by omega), xvu_N (j := 12 + 4 * p) (by omega)]
  · rw [if_neg h, if_neg h, if_neg h]
theorem xsf_le {N : Nat → Nat} (hO : xOK N) {n k : Nat} (h4 : N 4 + n < 1000000) : xsf N n k ≤ 64 := xwc_le (xgoN_ok hO _ h4)
theorem xwc_pl {N fv : Nat → Nat} {s c n : Nat} (hO : xOK N) (hs : s < N 2) (hc : c < N 0 * N 1) : xwc (xgoN (va_up N (12 + 4 * s) c) fv n) = xcnt (fun j => xs_wrong (N (31 + j)) (min 9999 (N (95 + j) + n * xtk fv (xso N) (N 1) j)) (N 7) (N 8)) (N 0 * N 1) := by
  have hb := hO.1
  have c64 : N 0 * N 1 ≤ 64 := xce_le hO
  rw [xwc_go (xOK_pl hO hs hc), xvu_N (k := 12 + 4 * s) (j := 0) (by omega), xvu_N (k := 12 + 4 * s) (j := 1) (by omega)]
  refine xcnt_congr fun j hj => ?_
  rw [xvu_N (j := 31 + j) (by omega), xvu_N (k := 12 + 4 * s) (j := 7) (by omega), xvu_N (k := 12 + 4 * s) (j := 8) (by omega), xgoN_we (by rw [xvu_N (k := 12 + 4 * s) (j := 0) (by omega), xvu_N (k := 12 + 4 * s) (j := 1) (by omega)]; exact hj), xvu_N (j := 95 + j) (by omega), xvu_N (k := 12 + 4 * s) (j := 1) (by omega), xtk_congr (R := N 0) (so := xso (va_up N (12 + 4 * s) c)) (so' := xso N) (fun i hi => xvu_N (by omega)) (by omega) hj]
set_option maxHeartbeats 4000000 in
theorem c_wrongFrom {d : Nat} {b : Bool} {I : Nat → Nat → Int32} {L : Nat → Nat → Int64} {N : Nat → Nat} (hN : xPN N 1 I) (hO : xOK N) {s n c : Nat} (hs : s < N 2) (hc : c < N 0 * N 1) (bn : n < 1000) (ho : ∀ j, j < N 0 * N 1 → I 26 j = nI (xfa N (N 3 &&& (31 ^^^ (1 <<< s))) (N 5) j)) {x1 : Int32} (e_x1 : x1 = nI c) {x2 : Int32} (e_x2 : x2 = nI n) : xm_Z (d + 4) 81 [.ref 24, .ref (15 + s), .int x1, .int x2] (xS b, I, L, xP b) (fun rz hz => rz = some (.int (nI (xtf N s n c))) ∧ ∃ I', hz = (xS b, I', L, xP b) ∧ xFF I I' ∧ ∀ a, a ≠ 20 → a ≠ 21 → a ≠ 22 → a ≠ 23 → a ≠ 25 → I' a = I a) := by
  subst e_x1
  subst e_x2
  have hb := hO.1
  have c64 : N 0 * N 1 ≤ 64 := xce_le hO
  have c4 : 4 ≤ N 0 * N 1 := xce_ge hO
  obtain ⟨⟨hN0, hN1, hN2, hN3, hN4, hN5, hN6, hN7, hN8, hN9, hN10⟩, hNs, hNw, hNp⟩ := hN
  have s5 : (xS b)[15 + s]? = some (11, 4) := xS_15 (by omega)
  obtain ⟨k0, k1, k2, k3, k4⟩ := hO.2.2.2 s hs
  refine xw_S xb_81 (l := [.ref 24, .ref (15 + s), .int (nI c), .int (nI n)]) (Nat.le_of_ble_eq_true rfl) rfl ?_
  refine xw_go xb_81 8 (f1 := (15, [.ref 24, .ref (15 + s), .int (nI c), .int (nI n)], [.int 64, .int 0, .ref 21, .int 0, .ref 26])) (h1 := (xS b, I, L, xP b)) rfl ⟨rfl, rfl, rfl, trivial⟩ ?_
  refine xw_cpI xb_81 rfl rfl rfl ⟨64, 64, rfl, rfl, by decide, by decide, by decide, by decide, by decide⟩ ?_
  refine xw_at (f' := (18, [.ref 24, .ref (15 + s), .int (nI c), .int (nI n)], [])) (h' := (xS b, va_up I 21 (va_cpy (I 26) (I 21) (0 : Int32).toNatClampNeg (0 : Int32).toNatClampNeg (64 : Int32).toNatClampNeg), L, xP b)) rfl rfl ?_
  refine xw_go xb_81 9 (f1 := (35, [.ref 24, .ref (15 + s), .int (nI c), .int (nI n)], [.int ((va_up I 21 (va_cpy (I 26) (I 21) (0 : Int32).toNatClampNeg (0 : Int32).toNatClampNeg (64 : Int32).toNatClampNeg)) 1 7), .int (nI c), .ref (15 + s), .ref 1, .ref 20])) (h1 := (xS b, va_up I 21 (va_cpy (I 26) (I 21) (0 : Int32).toNatClampNeg (0 : Int32).toNatClampNeg (64 : Int32).toNatClampNeg), L, xP b)) rfl ⟨rfl, rfl, rfl, rfl, trivial⟩ ?_
  refine xw_call xb_81 rfl rfl rfl rfl rfl (Or.inr ⟨_, _, rfl, rfl⟩) (c_addFrom (I := (va_up I 21 (va_cpy (I 26) (I 21) (0 : Int32).toNatClampNeg (0 : Int32).toNatClampNeg (64 : Int32).toNatClampNeg))) hN0 hN1 (by omega) (by omega) (by omega) (a := 15 + s) (k := N (11 + 4 * s)) (re := N (13 + 4 * s)) (w := N (14 + 4 * s)) s5 (by rw [xm_vu_o (by omega)]; exact hNp s hs 0 (by decide)) (by rw [xm_vu_o (by omega)]; have h := hNp s hs 2 (by decide); rw [show 11 + 4 * s + 2 = 13 + 4 * s by omega] at h; exact h) (by rw [xm_vu_o (by omega)]; have h := hNp s hs 3 (by decide); rw [show 11 + 4 * s + 3 = 14 + 4 * s by omega] at h; exact h) k0 k2 k4 (pl := c) (wi := N 5) hc (by omega) (fv := xfa N (N 3 &&& (31 ^^^ (1 <<< s))) (N 5)) (fun j hj => by rw [← ho j hj]; show (if 0 ≤ j ∧ j < 0 + 64 then I 26 (0 + (j - 0)) else I 21 j) = _; rw [if_pos (by omega), Nat.zero_add, Nat.sub_zero]) rfl hN5) ?_
  rintro _ _ ⟨rfl, rfl⟩
  refine xw_at (f' := (38, [.ref 24, .ref (15 + s), .int (nI c), .int (nI n)], [])) (h' := (xS b, va_up (va_up I 21 (va_cpy (I 26) (I 21) (0 : Int32).toNatClampNeg (0 : Int32).toNatClampNeg (64 : Int32).toNatClampNeg)) 21 (xdn (N 5) (N 1) (N 0 * N 1) (fun j => nI (xfa N (N 3 &&& (31 ^^^ (1 <<< s))) (N 5) j + xs_thr (N (11 + 4 * s)) (N (13 + 4 * s)) (N (14 + 4 * s)) (j / N 1) (c / N 1) (j % N 1 - N 5) (c % N 1))) ((va_up I 21 (va_cpy (I 26) (I 21) (0 : Int32).toNatClampNeg (0 : Int32).toNatClampNeg (64 : Int32).toNatClampNeg)) 21)), L, xP b)) rfl rfl ?_
  obtain ⟨G, hG⟩ : ∃ G, G = va_up (va_up I 21 (va_cpy (I 26) (I 21) (0 : Int32).toNatClampNeg (0 : Int32).toNatClampNeg (64 : Int32).toNatClampNeg)) 21 (xdn (N 5) (N 1) (N 0 * N 1) (fun j => nI (xfa N (N 3 &&& (31 ^^^ (1 <<< s))) (N 5) j + xs_thr (N (11 + 4 * s)) (N (13 + 4 * s)) (N (14 + 4 * s)) (j / N 1) (c / N 1) (j % N 1 - N 5) (c % N 1))) ((va_up I 21 (va_cpy (I 26) (I 21) (0 : Int32).toNatClampNeg (0 : Int32).toNatClampNeg (64 : Int32).toNatClampNeg)) 21)) := ⟨_, rfl⟩
  refine xw_at (f' := (38, [.ref 24, .ref (15 + s), .int (nI c), .int (nI n)], [])) (h' := (xS b, G, L, xP b)) rfl (show (xS b, va_up (va_up I 21 (va_cpy (I 26) (I 21) (0 : Int32).toNatClampNeg (0 : Int32).toNatClampNeg (64 : Int32).toNatClampNeg)) 21 (xdn (N 5) (N 1) (N 0 * N 1) (fun j => nI (xfa N (N 3 &&& (31 ^^^ (1 <<< s))) (N 5) j + xs_thr (N (11 + 4 * s)) (N (13 + 4 * s)) (N (14 + 4 * s)) (j / N 1) (c / N 1) (j % N 1 - N 5) (c % N 1))) ((va_up I 21 (va_cpy (I 26) (I 21) (0 : Int32).toNatClampNeg (0 : Int32).toNatClampNeg (64 : Int32).toNatClampNeg)) 21)), L, xP b) = (xS b, G, L, xP b) from ?_) ?_
  · rw [hG]
  have hq : ∀ a, a ≠ 21 → G a = I a := fun a ha => by rw [hG, xm_vu_o ha, xm_vu_o ha]
  have h0 : ∀ k, G 1 k = I 1 k := fun k => by rw [hq 1 (by decide)]
  have g21 : ∀ j, j < N 0 * N 1 → G 21 j = nI ((xfa (va_up N (12 + 4 * s) c) (N 3 ||| (1 <<< s)) (N 5)) j) := fun j hj => by
    rw [hG, xfa_pl hO hs]
    simp only [va_up, if_true, xdn]
    by_cases h : N 5 ≤ j % N 1
    · rw [if_pos ⟨h, hj⟩, if_pos h]
    · rw [if_neg (fun q => h q.1), if_neg h, ← ho j hj]
      show (if 0 ≤ j ∧ j < 0 + 64 then I 26 (0 + (j - 0)) else I 21 j) = _
      rw [if_pos (by omega), Nat.zero_add, Nat.sub_zero]
  rw [← h0 0] at hN0
  rw [← h0 1] at hN1
  clear hG
  have h0 : ∀ k, G 1 k = I 1 k := h0
  refine xw_go xb_81 4 (f1 := (46, [.ref 24, .ref (15 + s), .int (nI c), .int (nI n)], [.ref 1, .ref 20])) (h1 := (xS b, G, L, xP b)) rfl ⟨rfl, rfl, trivial⟩ ?_
  refine xw_call xb_81 rfl rfl rfl rfl rfl (Or.inr ⟨_, _, rfl, rfl⟩) (c_share (I := G) (R := N 0) (C := N 1) hN0 hN1 (by omega) (by omega) (by omega) (so := xso N) (fun j hj => by rw [hq 2 (by decide)]; exact hNs j hj) hO.2.1 (fv := (xfa (va_up N (12 + 4 * s) c) (N 3 ||| (1 <<< s)) (N 5))) g21 (fun j hj => by have := xfa_le (xOK_pl hO hs hc) (N 3 ||| (1 <<< s)) (N 5) j; omega)) ?_
  rintro _ _ ⟨rfl, X, rfl⟩
  refine xw_at (f' := (49, [.ref 24, .ref (15 + s), .int (nI c), .int (nI n)], [])) (h' := (xS b, xm_up (va_up (va_up G 23 X) 22 (xfil (N 0 * N 1) (fun j => nI (xtk (xfa (va_up N (12 + 4 * s) c) (N 3 ||| (1 <<< s)) (N 5)) (xso N) (N 1) j)) (G 22))) 20 3 (nI (xlost (xfa (va_up N (12 + 4 * s) c) (N 3 ||| (1 <<< s)) (N 5)) (xso N) (N 0) (N 1))), L, xP b)) rfl rfl ?_
  have q0 : (xm_up (va_up (va_up G 23 X) 22 (xfil (N 0 * N 1) (fun j => nI (xtk (xfa (va_up N (12 + 4 * s) c) (N 3 ||| (1 <<< s)) (N 5)) (xso N) (N 1) j)) (G 22))) 20 3 (nI (xlost (xfa (va_up N (12 + 4 * s) c) (N 3 ||| (1 <<< s)) (N 5)) (xso N) (N 0) (N 1)))) 1 0 = nI (N 0) := hN0
  have q1 : (xm_up (va_up (va_up G 23 X) 22 (xfil (N 0 * N 1) (fun j => nI (xtk (xfa (va_up N (12 + 4 * s) c) (N 3 ||| (1 <<< s)) (N 5)) (xso N) (N 1) j)) (G 22))) 20 3 (nI (xlost (xfa (va_up N (12 + 4 * s) c) (N 3 ||| (1 <<< s)) (N 5)) (xso N) (N 0) (N 1)))) 1 1 = nI (N 1) := hN1
  have q3 : ∀ j, j < 64 → (xm_up (va_up (va_up G 23 X) 22 (xfil (N 0 * N 1) (fun j => nI (xtk (xfa (va_up N (12 + 4 * s) c) (N 3 ||| (1 <<< s)) (N 5)) (xso N) (N 1) j)) (G 22))) 20 3 (nI (xlost (xfa (va_up N (12 + 4 * s) c) (N 3 ||| (1 <<< s)) (N 5)) (xso N) (N 0) (N 1)))) 3 j = nI (N (95 + j)) := fun j hj => by
    rw [← hNw j hj, show (1 + 2 : Nat) = 3 from rfl, ← hq 3 (by decide)]
    rfl
  have q2 : ∀ j, j < 64 → (xm_up (va_up (va_up G 23 X) 22 (xfil (N 0 * N 1) (fun j => nI (xtk (xfa (va_up N (12 + 4 * s) c) (N 3 ||| (1 <<< s)) (N 5)) (xso N) (N 1) j)) (G 22))) 20 3 (nI (xlost (xfa (va_up N (12 + 4 * s) c) (N 3 ||| (1 <<< s)) (N 5)) (xso N) (N 0) (N 1)))) 2 j = nI (N (31 + j)) := fun j hj => by
    rw [← hNs j hj, show (1 + 1 : Nat) = 2 from rfl, ← hq 2 (by decide)]
    rfl
  have q7 : (xm_up (va_up (va_up G 23 X) 22 (xfil (N 0 * N 1) (fun j => nI (xtk (xfa (va_up N (12 + 4 * s) c) (N 3 ||| (1 <<< s)) (N 5)) (xso N) (N 1) j)) (G 22))) 20 3 (nI (xlost (xfa (va_up N (12 + 4 * s) c) (N 3 ||| (1 <<< s)) (N 5)) (xso N) (N 0) (N 1)))) 1 9 = nI (N 7) := by
    rw [← hN7, ← h0 9]
    rfl
  have q8 : (xm_up (va_up (va_up G 23 X) 22 (xfil (N 0 * N 1) (fun j => nI (xtk (xfa (va_up N (12 + 4 * s) c) (N 3 ||| (1 <<< s)) (N 5)) (xso N) (N 1) j)) (G 22))) 20 3 (nI (xlost (xfa (va_up N (12 + 4 * s) c) (N 3 ||| (1 <<< s)) (N 5)) (xso N) (N 0) (N 1)))) 1 10 = nI (N 8) := by
    rw [← hN8, ← h0 10]
    rfl
  refine xw_go xb_81 11 (f1 := (72, [.ref 24, .ref (15 + s), .int (nI c), .int (nI n)], [.ref 25, .int (nI n), .ref 22, .ref 3, .ref 1])) (h1 := (xS b, xm_up (va_up (va_up G 23 X) 22 (xfil (N 0 * N 1) (fun j => nI (xtk (xfa (va_up N (12 + 4 * s) c) (N 3 ||| (1 <<< s)) (N 5)) (xso N) (N 1) j)) (G 22))) 20 3 (nI (xlost (xfa (va_up N (12 + 4 * s) c) (N 3 ||| (1 <<< s)) (N 5)) (xso N) (N 0) (N 1))), L, xP b)) rfl ⟨rfl, rfl, rfl, rfl, rfl, rfl, trivial⟩ ?_
  refine xw_call xb_81 rfl rfl rfl rfl rfl (Or.inr ⟨_, _, rfl, rfl⟩) (c_soak (I := (xm_up (va_up (va_up G 23 X) 22 (xfil (N 0 * N 1) (fun j => nI (xtk (xfa (va_up N (12 + 4 * s) c) (N 3 ||| (1 <<< s)) (N 5)) (xso N) (N 1) j)) (G 22))) 20 3 (nI (xlost (xfa (va_up N (12 + 4 * s) c) (N 3 ||| (1 <<< s)) (N 5)) (xso N) (N 0) (N 1))))) (R := N 0) (C := N 1) q0 q1 (by omega) (by omega) (fr := 3) (ta := 22) (to := 25) (m := n) rfl rfl rfl (by decide) (wv := fun j => N (95 + j)) (tv := xtk (xfa (va_up N (12 + 4 * s) c) (N 3 ||| (1 <<< s)) (N 5)) (xso N) (N 1)) (fun j hj => q3 j (by omega)) (fun j hj => by rw [xm_up_o (by decide)]; simp only [va_up, if_true, xfil]; rw [if_pos hj]) (fun j hj => by have := hO.2.2.1 j (by omega); show N (95 + j) < _; omega) (fun j hj => by have h9 := xtk_le (so := xso N) (R := N 0) (C := N 1) (M := 180) (fun i _ => xfa_le (xOK_pl hO hs hc) (N 3 ||| (1 <<< s)) (N 5) i) hj (by omega); have h8 : (N 0 + 1) * 180 ≤ 9 * 180 := Nat.mul_le_mul_right 180 (by omega); omega) (by omega) rfl) ?_
  rintro _ _ ⟨rfl, rfl⟩
  refine xw_at (f' := (75, [.ref 24, .ref (15 + s), .int (nI c), .int (nI n)], [])) (h' := (xS b, va_up (xm_up (va_up (va_up G 23 X) 22 (xfil (N 0 * N 1) (fun j => nI (xtk (xfa (va_up N (12 + 4 * s) c) (N 3 ||| (1 <<< s)) (N 5)) (xso N) (N 1) j)) (G 22))) 20 3 (nI (xlost (xfa (va_up N (12 + 4 * s) c) (N 3 ||| (1 <<< s)) (N 5)) (xso N) (N 0) (N 1)))) 25 (xfil (N 0 * N 1) (fun j => nI (min 9999 (N (95 + j) + n * xtk (xfa (va_up N (12 + 4 * s) c) (N 3 ||| (1 <<< s)) (N 5)) (xso N) (N 1) j))) ((xm_up (va_up (va_up G 23 X) 22 (xfil (N 0 * N 1) (fun j => nI (xtk (xfa (va_up N (12 + 4 * s) c) (N 3 ||| (1 <<< s)) (N 5)) (xso N) (N 1) j)) (G 22))) 20 3 (nI (xlost (xfa (va_up N (12 + 4 * s) c) (N 3 ||| (1 <<< s)) (N 5)) (xso N) (N 0) (N 1)))) 25)), L, xP b)) rfl rfl ?_
  refine xw_go xb_81 4 (f1 := (83, [.ref 24, .ref (15 + s), .int (nI c), .int (nI n)], [.ref 25, .ref 1])) (h1 := (xS b, va_up (xm_up (va_up (va_up G 23 X) 22 (xfil (N 0 * N 1) (fun j => nI (xtk (xfa (va_up N (12 + 4 * s) c) (N 3 ||| (1 <<< s)) (N 5)) (xso N) (N 1) j)) (G 22))) 20 3 (nI (xlost (xfa (va_up N (12 + 4 * s) c) (N 3 ||| (1 <<< s)) (N 5)) (xso N) (N 0) (N 1)))) 25 (xfil (N 0 * N 1) (fun j => nI (min 9999 (N (95 + j) + n * xtk (xfa (va_up N (12 + 4 * s) c) (N 3 ||| (1 <<< s)) (N 5)) (xso N) (N 1) j))) ((xm_up (va_up (va_up G 23 X) 22 (xfil (N 0 * N 1) (fun j => nI (xtk (xfa (va_up N (12 + 4 * s) c) (N 3 ||| (1 <<< s)) (N 5)) (xso N) (N 1) j)) (G 22))) 20 3 (nI (xlost (xfa (va_up N (12 + 4 * s) c) (N 3 ||| (1 <<< s)) (N 5)) (xso N) (N 0) (N 1)))) 25)), L, xP b)) rfl ⟨rfl, rfl, trivial⟩ ?_
  refine xw_call xb_81 rfl rfl rfl rfl rfl (Or.inr ⟨_, _, rfl, rfl⟩) (c_wrongIn (I := (va_up (xm_up (va_up (va_up G 23 X) 22 (xfil (N 0 * N 1) (fun j => nI (xtk (xfa (va_up N (12 + 4 * s) c) (N 3 ||| (1 <<< s)) (N 5)) (xso N) (N 1) j)) (G 22))) 20 3 (nI (xlost (xfa (va_up N (12 + 4 * s) c) (N 3 ||| (1 <<< s)) (N 5)) (xso N) (N 0) (N 1)))) 25 (xfil (N 0 * N 1) (fun j => nI (min 9999 (N (95 + j) + n * xtk (xfa (va_up N (12 + 4 * s) c) (N 3 ||| (1 <<< s)) (N 5)) (xso N) (N 1) j))) ((xm_up (va_up (va_up G 23 X) 22 (xfil (N 0 * N 1) (fun j => nI (xtk (xfa (va_up N (12 + 4 * s) c) (N 3 ||| (1 <<< s)) (N 5)) (xso N) (N 1) j)) (G 22))) 20 3 (nI (xlost (xfa (va_up N (12 + 4 * s) c) (N 3 ||| (1 <<< s)) (N 5)) (xso N) (N 0) (N 1)))) 25)))) (R := N 0) (C := N 1) q0 q1 (by omega) (by omega) (so := fun j => N (31 + j)) (wt := fun j => min 9999 (N (95 + j) + n * xtk (xfa (va_up N (12 + 4 * s) c) (N 3 ||| (1 <<< s)) (N 5)) (xso N) (N 1) j)) q2 hO.2.1 (w := 25) rfl (fun j hj => by simp only [va_up, if_true, xfil]; rw [if_pos hj]) (fun j hj => by show min 9999 _ < _; omega) q7 (by omega) q8 (by omega)) ?_
  rintro _ _ ⟨rfl, rfl⟩
  refine xw_at (f' := (86, [.ref 24, .ref (15 + s), .int (nI c), .int (nI n)], [.int (nI (xcnt (fun j => xs_wrong (N (31 + j)) (min 9999 (N (95 + j) + n * xtk (xfa (va_up N (12 + 4 * s) c) (N 3 ||| (1 <<< s)) (N 5)) (xso N) (N 1) j)) (N 7) (N 8)) (N 0 * N 1)))])) (h' := (xS b, va_up (xm_up (va_up (va_up G 23 X) 22 (xfil (N 0 * N 1) (fun j => nI (xtk (xfa (va_up N (12 + 4 * s) c) (N 3 ||| (1 <<< s)) (N 5)) (xso N) (N 1) j)) (G 22))) 20 3 (nI (xlost (xfa (va_up N (12 + 4 * s) c) (N 3 ||| (1 <<< s)) (N 5)) (xso N) (N 0) (N 1)))) 25 (xfil (N 0 * N 1) (fun j => nI (min 9999 (N (95 + j) + n * xtk (xfa (va_up N (12 + 4 * s) c) (N 3 ||| (1 <<< s)) (N 5)) (xso N) (N 1) j))) ((xm_up (va_up (va_up G 23 X) 22 (xfil (N 0 * N 1) (fun j => nI (xtk (xfa (va_up N (12 + 4 * s) c) (N 3 ||| (1 <<< s)) (N 5)) (xso N) (N 1) j)) (G 22))) 20 3 (nI (xlost (xfa (va_up N (12 + 4 * s) c) (N 3 ||| (1 <<< s)) (N 5)) (xso N) (N 0) (N 1)))) 25)), L, xP b)) rfl rfl ?_
  refine xw_ret xb_81 rfl rfl trivial ?_
  refine ⟨xm_some (congrArg Value.int ?_), _, rfl, ?_, fun a h20 h21 h22 h23 h25 => ?_⟩
  · unfold xtf
    rw [xwc_pl hO hs hc]
  · refine xFF_v (xFF_u (xFF_v (xFF_v ?_ (by decide)) (by decide)) (by decide)) (by decide)
    exact fun a ha => hq a (by omega)
  · rw [xm_vu_o h25, xm_up_o h20, xm_vu_o h22, xm_vu_o h23]
    exact hq a h21

theorem xtf_65 {N : Nat → Nat} {s n : Nat} (hO : xOK N) (hs : s < N 2) (h4 : N 4 + n < 1000000) : ∀ c, c ≤ N 0 * N 1 → (xbt (fun _ => true) (xtf N s n) (fun _ _ => false) c).1 ≤ 65
  | 0, _ => Nat.le_refl _
  | c + 1, hc => by
    have hb := hO.1
    show (if _ then (xtf N s n c, c) else _).1 ≤ 65
    split
    · exact Nat.le_trans (xwc_le (xgoN_ok (xOK_pl hO hs (by omega)) _ (by rw [xvu_N (by omega)]; omega))) (by decide)
    · exact xtf_65 hO hs h4 c (by omega)
set_option maxHeartbeats 4000000 in
theorem c_findStand {d : Nat} {b : Bool} {I : Nat → Nat → Int32} {L : Nat → Nat → Int64} {N : Nat → Nat} (hN : xPN N 1 I) (hO : xOK N) {s n : Nat} (hs : s < N 2) (bn : n < 1000) (h4 : N 4 + n < 1000000) {x1 : Int32} (e_x1 : x1 = nI s) {x2 : Int32} (e_x2 : x2 = nI n) : xm_Z (d + 5) 80 [.ref 24, .int x1, .int x2] (xS b, I, L, xP b) (fun rz hz => rz = none ∧ ∃ I', hz = (xS b, I', L, xP b) ∧ xFF I I' ∧ I' 24 8 = nI (xbt (fun _ => true) (xtf N s n) (fun _ _ => false) (N 0 * N 1)).1 ∧ I' 24 11 = nI (xbt (fun _ => true) (xtf N s n) (fun _ _ => false) (N 0 * N 1)).2) := by
  subst e_x1
  subst e_x2
  have hb := hO.1
  have c64 : N 0 * N 1 ≤ 64 := xce_le hO
  have c4 : 4 ≤ N 0 * N 1 := xce_ge hO
  obtain ⟨cl1, cl2, cl3, cl4⟩ := xclr (N 3) (xOn32 hO) s (by omega)
  refine xw_S xb_80 (l := [.ref 24, .int (nI s), .int (nI n), .float 0, .float 0]) (Nat.le_of_ble_eq_true rfl) rfl ?_
  refine xw_go xb_80 16 (f1 := (28, [.ref 24, .int (nI s), .int (nI n), .float 0, .float 0], [.int (I 1 7), .int ((I 1 6) &&& ((1 <<< ((nI s) &&& 31)) ^^^ (-1))), .ref 1, .ref 20])) (h1 := (xS b, I, L, xP b)) rfl ⟨rfl, rfl, rfl, rfl, rfl, rfl, trivial⟩ ?_
  refine xw_call xb_80 rfl rfl rfl rfl rfl (Or.inr ⟨_, _, rfl, rfl⟩) (c_run (I := I) hN hO (o := (N 3 &&& (31 ^^^ (1 <<< s)))) (wi := N 5) cl2 (by omega) (by rw [hN.1.2.2.2.1]; exact cl1) hN.1.2.2.2.2.2.1) ?_
  rintro _ _ ⟨rfl, F, X, T, hF, hT, rfl⟩
  refine xw_at (f' := (31, [.ref 24, .int (nI s), .int (nI n), .float 0, .float 0], [])) (h' := (xS b, xm_up (va_up (va_up (va_up I 21 F) 23 X) 22 T) 20 3 (nI (xlo N (N 3 &&& (31 ^^^ (1 <<< s))) (N 5))), L, xP b)) rfl rfl ?_
  refine xw_go xb_80 8 (f1 := (46, [.ref 24, .int (nI s), .int (nI n), .float 0, .float 0], [.int 64, .int 0, .ref 26, .int 0, .ref 21])) (h1 := (xS b, xm_up (va_up (va_up (va_up I 21 F) 23 X) 22 T) 20 3 (nI (xlo N (N 3 &&& (31 ^^^ (1 <<< s))) (N 5))), L, xP b)) rfl ⟨rfl, rfl, rfl, trivial⟩ ?_
  refine xw_cpI xb_80 rfl rfl rfl ⟨64, 64, rfl, rfl, by decide, by decide, by decide, by decide, by decide⟩ ?_
  refine xw_at (f' := (49, [.ref 24, .int (nI s), .int (nI n), .float 0, .float 0], [])) (h' := (xS b, va_up (xm_up (va_up (va_up (va_up I 21 F) 23 X) 22 T) 20 3 (nI (xlo N (N 3 &&& (31 ^^^ (1 <<< s))) (N 5)))) 26 (va_cpy ((xm_up (va_up (va_up (va_up I 21 F) 23 X) 22 T) 20 3 (nI (xlo N (N 3 &&& (31 ^^^ (1 <<< s))) (N 5)))) 21) ((xm_up (va_up (va_up (va_up I 21 F) 23 X) 22 T) 20 3 (nI (xlo N (N 3 &&& (31 ^^^ (1 <<< s))) (N 5)))) 26) (0 : Int32).toNatClampNeg (0 : Int32).toNatClampNeg (64 : Int32).toNatClampNeg), L, xP b)) rfl rfl ?_
  refine xw_go xb_80 5 (f1 := (57, [.ref 24, .int (nI s), .int (nI n), .int 0, .float 0], [])) (h1 := (xS b, xm_up (va_up (xm_up (va_up (va_up (va_up I 21 F) 23 X) 22 T) 20 3 (nI (xlo N (N 3 &&& (31 ^^^ (1 <<< s))) (N 5)))) 26 (va_cpy ((xm_up (va_up (va_up (va_up I 21 F) 23 X) 22 T) 20 3 (nI (xlo N (N 3 &&& (31 ^^^ (1 <<< s))) (N 5)))) 21) ((xm_up (va_up (va_up (va_up I 21 F) 23 X) 22 T) 20 3 (nI (xlo N (N 3 &&& (31 ^^^ (1 <<< s))) (N 5)))) 26) (0 : Int32).toNatClampNeg (0 : Int32).toNatClampNeg (64 : Int32).toNatClampNeg)) 24 8 65, L, xP b)) rfl ⟨rfl, trivial⟩ ?_
  refine xw_loopP (N 0 * N 1) (fun c => (57, [.ref 24, .int (nI s), .int (nI n), .int (nI c), .float 0], [])) (fun c h => ∃ J, h = (xS b, J, L, xP b) ∧ xFF I J ∧ (∀ j, j < N 0 * N 1 → J 26 j = nI (xfa N (N 3 &&& (31 ^^^ (1 <<< s))) (N 5) j)) ∧ J 24 8 = nI (xbt (fun _ => true) (xtf N s n) (fun _ _ => false) c).1 ∧ (0 < c → J 24 11 = nI (xbt (fun _ => true) (xtf N s n) (fun _ _ => false) c).2)) (fun c h hc hV ih => ?_) (fun h hV => ?_) 0 _ (Nat.zero_le _) ?_
  · obtain ⟨J, rfl, j1, j3, j4, j5⟩ := hV
    have hNJ := xFF_N j1 (by omega) hN
    have f64 : xtf N s n c ≤ 64 := xwc_le (xgoN_ok (xOK_pl hO hs hc) _ (by rw [xvu_N (by omega)]; omega))
    have b66 : (xbt (fun _ => true) (xtf N s n) (fun _ _ => false) c).1 ≤ 65 := xtf_65 hO hs h4 c (by omega)
    refine xw_go xb_80 3 (f1 := (62, [.ref 24, .int (nI s), .int (nI n), .int (nI c), .float 0], [.ref 1, .int (nI c)])) (h1 := (xS b, J, L, xP b)) rfl ⟨rfl, trivial⟩ ?_
    refine xw_call xb_80 rfl rfl rfl rfl rfl (Or.inr ⟨_, _, rfl, rfl⟩) (c_cells (I := J) (R := N 0) (C := N 1) hNJ.1.1 hNJ.1.2.1) ?_
    rintro _ _ ⟨rfl, rfl⟩
    refine xw_at (f' := (65, [.ref 24, .int (nI s), .int (nI n), .int (nI c), .float 0], [.int (nI (N 0 * N 1)), .int (nI c)])) (h' := (xS b, J, L, xP b)) rfl rfl ?_
    refine xw_go xb_80 1 (f1 := (if (nI (N 0 * N 1)) ≤ (nI c) then 111 else 68, [.ref 24, .int (nI s), .int (nI n), .int (nI c), .float 0], [])) (h1 := (xS b, J, L, xP b)) rfl trivial ?_
    refine xw_if (fun c_65 => ?_) (fun c_65 => ?_)
    · skip
      exfalso
      simp (disch := omega) only [nI_leI] at c_65
      omega
    · skip
      refine xw_go xb_80 6 (f1 := (78, [.ref 24, .int (nI s), .int (nI n), .int (nI c), .float 0], [xm_o (xP b 4 (nI s).toNatClampNeg), .ref 24])) (h1 := (xS b, J, L, xP b)) rfl ⟨rfl, rfl, (xn_ar (n := s) (N := 5) rfl (by omega) (by decide)), ⟨Nat.le_of_ble_eq_true rfl, Nat.le_of_ble_eq_true rfl⟩, trivial⟩ ?_
      refine xw_cong (l' := [.ref 24, .int (nI s), .int (nI n), .int (nI c), .float 0]) (st' := [.ref (15 + s), .ref 24]) (h' := (xS b, J, L, xP b)) rfl (show ([xm_o (xP b 4 (nI s).toNatClampNeg), .ref 24] : List Value) = [.ref (15 + s), .ref 24] from ?_) rfl ?_
      · rw [xn_cl (by omega), xP_4 (by omega)]
        rfl
      refine xw_go xb_80 2 (f1 := (80, [.ref 24, .int (nI s), .int (nI n), .int (nI c), .float 0], [.int (nI n), .int (nI c), .ref (15 + s), .ref 24])) (h1 := (xS b, J, L, xP b)) rfl trivial ?_
      refine xw_call xb_80 rfl rfl rfl rfl rfl (Or.inr ⟨_, _, rfl, rfl⟩) (c_wrongFrom (I := J) hNJ hO (s := s) (n := n) (c := c) hs hc (by omega) j3 rfl rfl) ?_
      rintro _ _ ⟨rfl, J1, rfl, g1, g2⟩
      have g24 : J1 24 = J 24 := g2 24 (by decide) (by decide) (by decide) (by decide) (by decide)
      refine xw_at (f' := (83, [.ref 24, .int (nI s), .int (nI n), .int (nI c), .float 0], [.int (nI (xtf N s n c))])) (h' := (xS b, J1, L, xP b)) rfl rfl ?_
      refine xw_go xb_80 5 (f1 := (if (J1 24 8) ≤ (nI (xtf N s n c)) then 105 else 94, [.ref 24, .int (nI s), .int (nI n), .int (nI c), .int (nI (xtf N s n c))], [])) (h1 := (xS b, J1, L, xP b)) rfl ⟨rfl, trivial⟩ ?_
      refine xw_if (fun c_91 => ?_) (fun c_91 => ?_)
      · skip
        refine xw_go xb_80 2 (f1 := (57, [.ref 24, .int (nI s), .int (nI n), .int ((nI c) + 1), .int (nI (xtf N s n c))], [])) (h1 := (xS b, J1, L, xP b)) rfl trivial ?_
        refine xw_fg (l0 := [.ref 24, .int (nI s), .int (nI n), .int ((nI c) + 1), .float 0]) ⟨Or.inr rfl, Or.inr rfl, Or.inr rfl, Or.inr rfl, Or.inl rfl, trivial⟩ ?_
        have hy : xbt (fun _ => true) (xtf N s n) (fun _ _ => false) (c + 1) = xbt (fun _ => true) (xtf N s n) (fun _ _ => false) c := xbt_n (Or.inr ⟨by rw [g24, j4] at c_91; simp (disch := omega) only [nI_leI] at c_91; omega, Or.inr rfl⟩)
        refine xw_cong ?_ rfl rfl (ih _ ⟨_, rfl, xFF_t j1 g1, fun j hj => ?_, ?_, fun _ => ?_⟩)
        · rw [nI_1]
        · rw [g2 26 (by decide) (by decide) (by decide) (by decide) (by decide)]
          exact j3 j hj
        · rw [hy, g24]
          exact j4
        · by_cases h0 : 0 < c
          · rw [hy, g24]
            exact j5 h0
          · exfalso
            have : c = 0 := by omega
            subst this
            rw [g24, j4] at c_91
            simp (disch := omega) only [nI_leI] at c_91
            have e : (xbt (fun _ => true) (xtf N s n) (fun _ _ => false) 0).1 = 65 := rfl
            omega
      · skip
        refine xw_go xb_80 8 (f1 := (57, [.ref 24, .int (nI s), .int (nI n), .int ((nI c) + 1), .int (nI (xtf N s n c))], [])) (h1 := (xS b, xm_up (xm_up J1 24 8 (nI (xtf N s n c))) 24 11 (nI c), L, xP b)) rfl ⟨rfl, rfl, trivial⟩ ?_
        refine xw_fg (l0 := [.ref 24, .int (nI s), .int (nI n), .int ((nI c) + 1), .float 0]) ⟨Or.inr rfl, Or.inr rfl, Or.inr rfl, Or.inr rfl, Or.inl rfl, trivial⟩ ?_
        have hy : xbt (fun _ => true) (xtf N s n) (fun _ _ => false) (c + 1) = (xtf N s n c, c) := xbt_y rfl (Or.inl (by rw [g24, j4] at c_91; simp (disch := omega) only [nI_leI] at c_91; omega))
        refine xw_cong ?_ rfl rfl (ih _ ⟨_, rfl, xFF_u (xFF_u (xFF_t j1 g1) (by decide)) (by decide), fun j hj => ?_, ?_, fun _ => ?_⟩)
        · rw [nI_1]
        · rw [xm_up_o (by decide), xm_up_o (by decide), g2 26 (by decide) (by decide) (by decide) (by decide) (by decide)]
          exact j3 j hj
        · rw [hy]
          rfl
        · rw [hy]
          rfl
  · obtain ⟨J, rfl, j1, j3, j4, j5⟩ := hV
    have hNJ := xFF_N j1 (by omega) hN
    refine xw_go xb_80 3 (f1 := (62, [.ref 24, .int (nI s), .int (nI n), .int (nI (N 0 * N 1)), .float 0], [.ref 1, .int (nI (N 0 * N 1))])) (h1 := (xS b, J, L, xP b)) rfl ⟨rfl, trivial⟩ ?_
    refine xw_call xb_80 rfl rfl rfl rfl rfl (Or.inr ⟨_, _, rfl, rfl⟩) (c_cells (I := J) (R := N 0) (C := N 1) hNJ.1.1 hNJ.1.2.1) ?_
    rintro _ _ ⟨rfl, rfl⟩
    refine xw_at (f' := (65, [.ref 24, .int (nI s), .int (nI n), .int (nI (N 0 * N 1)), .float 0], [.int (nI (N 0 * N 1)), .int (nI (N 0 * N 1))])) (h' := (xS b, J, L, xP b)) rfl rfl ?_
    refine xw_go xb_80 1 (f1 := (if (nI (N 0 * N 1)) ≤ (nI (N 0 * N 1)) then 111 else 68, [.ref 24, .int (nI s), .int (nI n), .int (nI (N 0 * N 1)), .float 0], [])) (h1 := (xS b, J, L, xP b)) rfl trivial ?_
    refine xw_if (fun c_65 => ?_) (fun c_65 => ?_)
    · skip
      refine xw_ret xb_80 rfl rfl trivial ?_
      exact ⟨rfl, J, rfl, j1, j4, j5 (by omega)⟩
    · skip
      exfalso
      simp (disch := omega) only [nI_leI] at c_65
      omega
  · refine ⟨_, rfl, xFF_u (xFF_v (xFF_u (xFF_v (xFF_v (xFF_v (xFF_r I) (by decide)) (by decide)) (by decide)) (by decide)) (by decide)) (by decide), fun j hj => ?_, rfl, fun h => absurd h (Nat.lt_irrefl 0)⟩
    rw [← hF j hj]
    show (if 0 ≤ j ∧ j < 0 + 64 then F (0 + (j - 0)) else I 26 j) = _
    rw [if_pos (by omega), Nat.zero_add, Nat.sub_zero]

theorem c_stand0 {d : Nat} {b : Bool} {I : Nat → Nat → Int32} {L : Nat → Nat → Int64} {N : Nat → Nat} {u : Nat} {U : Nat → Nat → Nat} (hP : xPL N u U 1 I) (hK : xUK N u U) {x y z : Int32} (hx : ¬ (0 ≤ x.toInt ∧ x.toInt < (N 2 : Int) ∧ 0 ≤ y.toInt ∧ y.toInt ≤ 40 ∧ 0 ≤ z.toInt ∧ z.toInt ≤ 1)) : xm_Z (d + 6) 79 [.ref 0, .int x, .int y, .int z] (xS b, I, L, xP b) (fun rz hz => xQC b I L (-1) N u U rz hz) := by
  have hO := hK.1
  have hb := hK.1.1
  have c64 : N 0 * N 1 ≤ 64 := xce_le hO
  have c4 : 4 ≤ N 0 * N 1 := xce_ge hO
  obtain ⟨⟨hN0, hN1, hN2, hN3, hN4, hN5, hN6, hN7, hN8, hN9, hN10⟩, hNs, hNw, hNp⟩ := hP.1
  refine xw_S xb_79 (l := [.ref 0, .int x, .int y, .int z]) (Nat.le_of_ble_eq_true rfl) rfl ?_
  refine xw_go xb_79 3 (f1 := (5, [.ref 0, .int x, .int y, .int z], [.int x, .ref 1])) (h1 := (xS b, I, L, xP b)) rfl ⟨rfl, trivial⟩ ?_
  refine xw_call xb_79 rfl rfl rfl rfl rfl (Or.inr ⟨_, _, rfl, rfl⟩) (c_hasSprinkler (I := I) hN2 (by omega)) ?_
  rintro _ _ ⟨rfl, rfl⟩
  refine xw_at (f' := (8, [.ref 0, .int x, .int y, .int z], [.int (nI (xB (decide (0 ≤ x.toInt ∧ x.toInt < (N 2 : Int)))))])) (h' := (xS b, I, L, xP b)) rfl rfl ?_
  refine xw_go xb_79 1 (f1 := (if (nI (xB (decide (0 ≤ x.toInt ∧ x.toInt < (N 2 : Int))))) = 0 then 30 else 11, [.ref 0, .int x, .int y, .int z], [])) (h1 := (xS b, I, L, xP b)) rfl trivial ?_
  refine xw_if (fun c_8 => ?_) (fun c_8 => ?_)
  · skip
    refine xw_go xb_79 1 (f1 := (31, [.ref 0, .int x, .int y, .int z], [.int (-1)])) (h1 := (xS b, I, L, xP b)) rfl trivial ?_
    refine xw_ret xb_79 rfl rfl trivial ?_
    exact xQC_same hP
  · skip
    refine xw_go xb_79 3 (f1 := (15, [.ref 0, .int x, .int y, .int z], [.int 40, .int 0, .int y])) (h1 := (xS b, I, L, xP b)) rfl trivial ?_
    refine xw_call xb_79 rfl rfl rfl rfl rfl (Or.inl rfl) c_within ?_
    rintro _ _ ⟨rfl, rfl⟩
    refine xw_at (f' := (18, [.ref 0, .int x, .int y, .int z], [.int (nI (xB (decide ((0 : Int32).toInt ≤ y.toInt ∧ y.toInt ≤ (40 : Int32).toInt))))])) (h' := (xS b, I, L, xP b)) rfl rfl ?_
    refine xw_go xb_79 1 (f1 := (if (nI (xB (decide ((0 : Int32).toInt ≤ y.toInt ∧ y.toInt ≤ (40 : Int32).toInt)))) = 0 then 30 else 21, [.ref 0, .int x, .int y, .int z], [])) (h1 := (xS b, I, L, xP b)) rfl trivial ?_
    refine xw_if (fun c_18 => ?_) (fun c_18 => ?_)
    · skip
      refine xw_go xb_79 1 (f1 := (31, [.ref 0, .int x, .int y, .int z], [.int (-1)])) (h1 := (xS b, I, L, xP b)) rfl trivial ?_
      refine xw_ret xb_79 rfl rfl trivial ?_
      exact xQC_same hP
    · skip
      refine xw_go xb_79 3 (f1 := (24, [.ref 0, .int x, .int y, .int z], [.int 1, .int 0, .int z])) (h1 := (xS b, I, L, xP b)) rfl trivial ?_
      refine xw_call xb_79 rfl rfl rfl rfl rfl (Or.inl rfl) c_within ?_
      rintro _ _ ⟨rfl, rfl⟩
      refine xw_at (f' := (27, [.ref 0, .int x, .int y, .int z], [.int (nI (xB (decide ((0 : Int32).toInt ≤ z.toInt ∧ z.toInt ≤ (1 : Int32).toInt))))])) (h' := (xS b, I, L, xP b)) rfl rfl ?_
      refine xw_go xb_79 1 (f1 := (if ¬ (nI (xB (decide ((0 : Int32).toInt ≤ z.toInt ∧ z.toInt ≤ (1 : Int32).toInt)))) = 0 then 32 else 30, [.ref 0, .int x, .int y, .int z], [])) (h1 := (xS b, I, L, xP b)) rfl trivial ?_
      refine xw_if (fun c_27 => ?_) (fun c_27 => ?_)
      · skip
        exfalso
        try simp only [xB_dec, Classical.not_not] at c_8 c_18 c_27
        try simp (disch := omega) only [xt_eq, xt_lt, xt_le, xkt_0, xkt_1, xkt_2, xkt_3, xkt_4, xkt_5, xkt_6, xkt_7, xkt_8, xkt_9, xkt_10, xkt_11, xkt_12, xkt_13, xkt_14, xkt_16, xkt_20, xkt_24, xkt_31, xkt_32, xkt_40, xkt_44, xkt_47, xkt_48, xkt_57, xkt_59, xkt_60, xkt_63, xkt_64, xkt_65, xkt_72, xkt_95, xkt_99, xkt_100, xkt_101, xkt_103, xkt_110, xkt_112, xkt_113, xkt_114, xkt_119, xkt_126, xkt_159, xkt_576, xkt_999, xkt_9999, xkt_65536, xkt_999999, xkt_m1, xkt_m2, xkt_m3, xkt_m4, xkt_m11, xkt_m12, xkt_m13, xkt_m14, xkt_m20, xjt_0, xjt_1, xjt_2, xjt_3, xjt_4, xjt_5, xjt_6, xjt_7, xjt_8, xjt_9, xjt_10, xjt_11, xjt_12, xjt_13, xjt_14, xjt_16, xjt_20, xjt_24, xjt_31, xjt_32, xjt_40, xjt_44, xjt_47, xjt_48, xjt_57, xjt_59, xjt_60, xjt_63, xjt_64, xjt_65, xjt_72, xjt_95, xjt_99, xjt_100, xjt_101, xjt_103, xjt_110, xjt_112, xjt_113, xjt_114, xjt_119, xjt_126, xjt_159, xjt_576, xjt_999, xjt_9999, xjt_65536, xjt_999999, xt64, xt_n, not_true_eq_false, not_false_eq_true, Classical.not_not] at c_8 c_18 c_27
        all_goals omega
      · skip
        refine xw_go xb_79 1 (f1 := (31, [.ref 0, .int x, .int y, .int z], [.int (-1)])) (h1 := (xS b, I, L, xP b)) rfl trivial ?_
        refine xw_ret xb_79 rfl rfl trivial ?_
        exact xQC_same hP

theorem m_stand0 {d : Nat} {b : Bool} {I : Nat → Nat → Int32} {L : Nat → Nat → Int64} {N : Nat → Nat} {u : Nat} {U : Nat → Nat → Nat} (hM : xML N u U I) (hK : xUK N u U) {x y z : Int32} (hx : ¬ (0 ≤ x.toInt ∧ x.toInt < (N 2 : Int) ∧ 0 ≤ y.toInt ∧ y.toInt ≤ 40 ∧ 0 ≤ z.toInt ∧ z.toInt ≤ 1)) : xm_Z (d + 6) 156 [.ref 60, .int x, .int y, .int z] (xS b, I, L, xP b) (fun rz hz => xQM b I L (-1) N u U rz hz) := by
  have hO := hK.1
  have hb := hK.1.1
  have c64 : N 0 * N 1 ≤ 64 := xce_le hO
  have c4 : 4 ≤ N 0 * N 1 := xce_ge hO
  refine xw_S xb_156 (l := [.ref 60, .int x, .int y, .int z, .float 0, .float 0, .float 0, .float 0, .float 0]) (Nat.le_of_ble_eq_true rfl) rfl ?_
  refine xw_go xb_156 2 (f1 := (2, [.ref 60, .int x, .int y, .int z, .float 0, .float 0, .float 0, .float 0, .float 0], [.int x, .ref 60])) (h1 := (xS b, I, L, xP b)) rfl trivial ?_
  refine xw_call xb_156 rfl rfl rfl rfl rfl (Or.inr ⟨_, _, rfl, rfl⟩) (m_isSprinkler (I := I) hM.1 hO) ?_
  rintro _ _ ⟨rfl, rfl⟩
  refine xw_at (f' := (5, [.ref 60, .int x, .int y, .int z, .float 0, .float 0, .float 0, .float 0, .float 0], [.int (nI (xB (decide (0 ≤ x.toInt ∧ x.toInt < (N 2 : Int)))))])) (h' := (xS b, I, L, xP b)) rfl rfl ?_
  refine xw_go xb_156 1 (f1 := (if (nI (xB (decide (0 ≤ x.toInt ∧ x.toInt < (N 2 : Int))))) = 0 then 30 else 8, [.ref 60, .int x, .int y, .int z, .float 0, .float 0, .float 0, .float 0, .float 0], [])) (h1 := (xS b, I, L, xP b)) rfl trivial ?_
  refine xw_if (fun c_5 => ?_) (fun c_5 => ?_)
  · skip
    refine xw_go xb_156 1 (f1 := (31, [.ref 60, .int x, .int y, .int z, .float 0, .float 0, .float 0, .float 0, .float 0], [.int (-1)])) (h1 := (xS b, I, L, xP b)) rfl trivial ?_
    refine xw_ret xb_156 rfl rfl trivial ?_
    exact xQM_same hM
  · skip
    refine xw_go xb_156 4 (f1 := (14, [.ref 60, .int x, .int y, .int z, .float 0, .float 0, .float 0, .float 0, .float 0], [.long 40, .long 0, .long y.toInt64])) (h1 := (xS b, I, L, xP b)) rfl trivial ?_
    refine xw_call xb_156 rfl rfl rfl rfl rfl (Or.inl rfl) m_in ?_
    rintro _ _ ⟨rfl, rfl⟩
    refine xw_at (f' := (17, [.ref 60, .int x, .int y, .int z, .float 0, .float 0, .float 0, .float 0, .float 0], [.int (nI (xB (decide ((0 : Int64).toInt ≤ y.toInt64.toInt ∧ y.toInt64.toInt ≤ (40 : Int64).toInt))))])) (h' := (xS b, I, L, xP b)) rfl rfl ?_
    refine xw_go xb_156 1 (f1 := (if (nI (xB (decide ((0 : Int64).toInt ≤ y.toInt64.toInt ∧ y.toInt64.toInt ≤ (40 : Int64).toInt)))) = 0 then 30 else 20, [.ref 60, .int x, .int y, .int z, .float 0, .float 0, .float 0, .float 0, .float 0], [])) (h1 := (xS b, I, L, xP b)) rfl trivial ?_
    refine xw_if (fun c_17 => ?_) (fun c_17 => ?_)
    · skip
      refine xw_go xb_156 1 (f1 := (31, [.ref 60, .int x, .int y, .int z, .float 0, .float 0, .float 0, .float 0, .float 0], [.int (-1)])) (h1 := (xS b, I, L, xP b)) rfl trivial ?_
      refine xw_ret xb_156 rfl rfl trivial ?_
      exact xQM_same hM
    · skip
      refine xw_go xb_156 4 (f1 := (24, [.ref 60, .int x, .int y, .int z, .float 0, .float 0, .float 0, .float 0, .float 0], [.long 1, .long 0, .long z.toInt64])) (h1 := (xS b, I, L, xP b)) rfl trivial ?_
      refine xw_call xb_156 rfl rfl rfl rfl rfl (Or.inl rfl) m_in ?_
      rintro _ _ ⟨rfl, rfl⟩
      refine xw_at (f' := (27, [.ref 60, .int x, .int y, .int z, .float 0, .float 0, .float 0, .float 0, .float 0], [.int (nI (xB (decide ((0 : Int64).toInt ≤ z.toInt64.toInt ∧ z.toInt64.toInt ≤ (1 : Int64).toInt))))])) (h' := (xS b, I, L, xP b)) rfl rfl ?_
      refine xw_go xb_156 1 (f1 := (if ¬ (nI (xB (decide ((0 : Int64).toInt ≤ z.toInt64.toInt ∧ z.toInt64.toInt ≤ (1 : Int64).toInt)))) = 0 then 32 else 30, [.ref 60, .int x, .int y, .int z, .float 0, .float 0, .float 0, .float 0, .float 0], [])) (h1 := (xS b, I, L, xP b)) rfl trivial ?_
      refine xw_if (fun c_27 => ?_) (fun c_27 => ?_)
      · skip
        exfalso
        try simp only [xB_dec, Classical.not_not] at c_5 c_17 c_27
        try simp (disch := omega) only [xt_eq, xt_lt, xt_le, xkt_0, xkt_1, xkt_2, xkt_3, xkt_4, xkt_5, xkt_6, xkt_7, xkt_8, xkt_9, xkt_10, xkt_11, xkt_12, xkt_13, xkt_14, xkt_16, xkt_20, xkt_24, xkt_31, xkt_32, xkt_40, xkt_44, xkt_47, xkt_48, xkt_57, xkt_59, xkt_60, xkt_63, xkt_64, xkt_65, xkt_72, xkt_95, xkt_99, xkt_100, xkt_101, xkt_103, xkt_110, xkt_112, xkt_113, xkt_114, xkt_119, xkt_126, xkt_159, xkt_576, xkt_999, xkt_9999, xkt_65536, xkt_999999, xkt_m1, xkt_m2, xkt_m3, xkt_m4, xkt_m11, xkt_m12, xkt_m13, xkt_m14, xkt_m20, xjt_0, xjt_1, xjt_2, xjt_3, xjt_4, xjt_5, xjt_6, xjt_7, xjt_8, xjt_9, xjt_10, xjt_11, xjt_12, xjt_13, xjt_14, xjt_16, xjt_20, xjt_24, xjt_31, xjt_32, xjt_40, xjt_44, xjt_47, xjt_48, xjt_57, xjt_59, xjt_60, xjt_63, xjt_64, xjt_65, xjt_72, xjt_95, xjt_99, xjt_100, xjt_101, xjt_103, xjt_110, xjt_112, xjt_113, xjt_114, xjt_119, xjt_126, xjt_159, xjt_576, xjt_999, xjt_9999, xjt_65536, xjt_999999, xt64, xt_n, not_true_eq_false, not_false_eq_true, Classical.not_not] at c_5 c_17 c_27
        all_goals omega
      · skip
        refine xw_go xb_156 1 (f1 := (31, [.ref 60, .int x, .int y, .int z, .float 0, .float 0, .float 0, .float 0, .float 0], [.int (-1)])) (h1 := (xS b, I, L, xP b)) rfl trivial ?_
        refine xw_ret xb_156 rfl rfl trivial ?_
        exact xQM_same hM

theorem c_stand1 {d : Nat} {b : Bool} {I : Nat → Nat → Int32} {L : Nat → Nat → Int64} {N : Nat → Nat} {u : Nat} {U : Nat → Nat → Nat} (hP : xPL N u U 1 I) (hK : xUK N u U) {s n t : Nat} (hs : s < N 2) (hn : n ≤ 40) (ht : t < 2) {x : Int32} (e_x : x = nI s) {y : Int32} (e_y : y = nI n) {z : Int32} (e_z : z = nI t) : xm_Z (d + 6) 79 [.ref 0, .int x, .int y, .int z] (xS b, I, L, xP b) (fun rz hz => xQC b I L (nI (if t = 0 then (xbt (fun _ => true) (xtf N s n) (fun _ _ => false) (N 0 * N 1)).2 else (xbt (fun _ => true) (xtf N s n) (fun _ _ => false) (N 0 * N 1)).1)) N u U rz hz) := by
  subst e_x
  subst e_y
  subst e_z
  have hO := hK.1
  have hb := hK.1.1
  have c64 : N 0 * N 1 ≤ 64 := xce_le hO
  have c4 : 4 ≤ N 0 * N 1 := xce_ge hO
  obtain ⟨⟨hN0, hN1, hN2, hN3, hN4, hN5, hN6, hN7, hN8, hN9, hN10⟩, hNs, hNw, hNp⟩ := hP.1
  have h49 := hK.2.1
  refine xw_S xb_79 (l := [.ref 0, .int (nI s), .int (nI n), .int (nI t)]) (Nat.le_of_ble_eq_true rfl) rfl ?_
  refine xw_go xb_79 3 (f1 := (5, [.ref 0, .int (nI s), .int (nI n), .int (nI t)], [.int (nI s), .ref 1])) (h1 := (xS b, I, L, xP b)) rfl ⟨rfl, trivial⟩ ?_
  refine xw_call xb_79 rfl rfl rfl rfl rfl (Or.inr ⟨_, _, rfl, rfl⟩) (c_hasSprinkler (I := I) hN2 (by omega)) ?_
  rintro _ _ ⟨rfl, rfl⟩
  refine xw_at (f' := (8, [.ref 0, .int (nI s), .int (nI n), .int (nI t)], [.int (nI (xB (decide (0 ≤ (nI s).toInt ∧ (nI s).toInt < (N 2 : Int)))))])) (h' := (xS b, I, L, xP b)) rfl rfl ?_
  refine xw_go xb_79 1 (f1 := (if (nI (xB (decide (0 ≤ (nI s).toInt ∧ (nI s).toInt < (N 2 : Int))))) = 0 then 30 else 11, [.ref 0, .int (nI s), .int (nI n), .int (nI t)], [])) (h1 := (xS b, I, L, xP b)) rfl trivial ?_
  refine xw_if (fun c_8 => ?_) (fun c_8 => ?_)
  · skip
    exfalso
    try simp only [xB_dec, Classical.not_not] at c_8
    try simp (disch := omega) only [xt_eq, xt_lt, xt_le, xkt_0, xkt_1, xkt_2, xkt_3, xkt_4, xkt_5, xkt_6, xkt_7, xkt_8, xkt_9, xkt_10, xkt_11, xkt_12, xkt_13, xkt_14, xkt_16, xkt_20, xkt_24, xkt_31, xkt_32, xkt_40, xkt_44, xkt_47, xkt_48, xkt_57, xkt_59, xkt_60, xkt_63, xkt_64, xkt_65, xkt_72, xkt_95, xkt_99, xkt_100, xkt_101, xkt_103, xkt_110, xkt_112, xkt_113, xkt_114, xkt_119, xkt_126, xkt_159, xkt_576, xkt_999, xkt_9999, xkt_65536, xkt_999999, xkt_m1, xkt_m2, xkt_m3, xkt_m4, xkt_m11, xkt_m12, xkt_m13, xkt_m14, xkt_m20, xjt_0, xjt_1, xjt_2, xjt_3, xjt_4, xjt_5, xjt_6, xjt_7, xjt_8, xjt_9, xjt_10, xjt_11, xjt_12, xjt_13, xjt_14, xjt_16, xjt_20, xjt_24, xjt_31, xjt_32, xjt_40, xjt_44, xjt_47, xjt_48, xjt_57, xjt_59, xjt_60, xjt_63, xjt_64, xjt_65, xjt_72, xjt_95, xjt_99, xjt_100, xjt_101, xjt_103, xjt_110, xjt_112, xjt_113, xjt_114, xjt_119, xjt_126, xjt_159, xjt_576, xjt_999, xjt_9999, xjt_65536, xjt_999999, xt64, xt_n, not_true_eq_false, not_false_eq_true, Classical.not_not] at c_8
    all_goals omega
  · skip
    refine xw_go xb_79 3 (f1 := (15, [.ref 0, .int (nI s), .int (nI n), .int (nI t)], [.int 40, .int 0, .int (nI n)])) (h1 := (xS b, I, L, xP b)) rfl trivial ?_
    refine xw_call xb_79 rfl rfl rfl rfl rfl (Or.inl rfl) c_within ?_
    rintro _ _ ⟨rfl, rfl⟩
    refine xw_at (f' := (18, [.ref 0, .int (nI s), .int (nI n), .int (nI t)], [.int (nI (xB (decide ((0 : Int32).toInt ≤ (nI n).toInt ∧ (nI n).toInt ≤ (40 : Int32).toInt))))])) (h' := (xS b, I, L, xP b)) rfl rfl ?_
    refine xw_go xb_79 1 (f1 := (if (nI (xB (decide ((0 : Int32).toInt ≤ (nI n).toInt ∧ (nI n).toInt ≤ (40 : Int32).toInt)))) = 0 then 30 else 21, [.ref 0, .int (nI s), .int (nI n), .int (nI t)], [])) (h1 := (xS b, I, L, xP b)) rfl trivial ?_
    refine xw_if (fun c_18 => ?_) (fun c_18 => ?_)
    · skip
      exfalso
      try simp only [xB_dec, Classical.not_not] at c_8 c_18
      try simp (disch := omega) only [xt_eq, xt_lt, xt_le, xkt_0, xkt_1, xkt_2, xkt_3, xkt_4, xkt_5, xkt_6, xkt_7, xkt_8, xkt_9, xkt_10, xkt_11, xkt_12, xkt_13, xkt_14, xkt_16, xkt_20, xkt_24, xkt_31, xkt_32, xkt_40, xkt_44, xkt_47, xkt_48, xkt_57, xkt_59, xkt_60, xkt_63, xkt_64, xkt_65, xkt_72, xkt_95, xkt_99, xkt_100, xkt_101, xkt_103, xkt_110, xkt_112, xkt_113, xkt_114, xkt_119, xkt_126, xkt_159, xkt_576, xkt_999, xkt_9999, xkt_65536, xkt_999999, xkt_m1, xkt_m2, xkt_m3, xkt_m4, xkt_m11, xkt_m12, xkt_m13, xkt_m14, xkt_m20, xjt_0, xjt_1, xjt_2, xjt_3, xjt_4, xjt_5, xjt_6, xjt_7, xjt_8, xjt_9, xjt_10, xjt_11, xjt_12, xjt_13, xjt_14, xjt_16, xjt_20, xjt_24, xjt_31, xjt_32, xjt_40, xjt_44, xjt_47, xjt_48, xjt_57, xjt_59, xjt_60, xjt_63, xjt_64, xjt_65, xjt_72, xjt_95, xjt_99, xjt_100, xjt_101, xjt_103, xjt_110, xjt_112, xjt_113, xjt_114, xjt_119, xjt_126, xjt_159, xjt_576, xjt_999, xjt_9999, xjt_65536, xjt_999999, xt64, xt_n, not_true_eq_false, not_false_eq_true, Classical.not_not] at c_8 c_18
      all_goals omega
    · skip
      refine xw_go xb_79 3 (f1 := (24, [.ref 0, .int (nI s), .int (nI n), .int (nI t)], [.int 1, .int 0, .int (nI t)])) (h1 := (xS b, I, L, xP b)) rfl trivial ?_
      refine xw_call xb_79 rfl rfl rfl rfl rfl (Or.inl rfl) c_within ?_
      rintro _ _ ⟨rfl, rfl⟩
      refine xw_at (f' := (27, [.ref 0, .int (nI s), .int (nI n), .int (nI t)], [.int (nI (xB (decide ((0 : Int32).toInt ≤ (nI t).toInt ∧ (nI t).toInt ≤ (1 : Int32).toInt))))])) (h' := (xS b, I, L, xP b)) rfl rfl ?_
      refine xw_go xb_79 1 (f1 := (if ¬ (nI (xB (decide ((0 : Int32).toInt ≤ (nI t).toInt ∧ (nI t).toInt ≤ (1 : Int32).toInt)))) = 0 then 32 else 30, [.ref 0, .int (nI s), .int (nI n), .int (nI t)], [])) (h1 := (xS b, I, L, xP b)) rfl trivial ?_
      refine xw_if (fun c_27 => ?_) (fun c_27 => ?_)
      · skip
        refine xw_go xb_79 4 (f1 := (38, [.ref 0, .int (nI s), .int (nI n), .int (nI t)], [.int (nI n), .int (nI s), .ref 24])) (h1 := (xS b, I, L, xP b)) rfl ⟨rfl, trivial⟩ ?_
        refine xw_call xb_79 rfl rfl rfl rfl rfl (Or.inr ⟨_, _, rfl, rfl⟩) (c_findStand (I := I) hP.1 hO hs (by omega) (by omega) rfl rfl) ?_
        rintro _ _ ⟨rfl, I1, rfl, g1, g2, g3⟩
        refine xw_at (f' := (41, [.ref 0, .int (nI s), .int (nI n), .int (nI t)], [])) (h' := (xS b, I1, L, xP b)) rfl rfl ?_
        refine xw_go xb_79 2 (f1 := (if ¬ (nI t) = 0 then 55 else 45, [.ref 0, .int (nI s), .int (nI n), .int (nI t)], [])) (h1 := (xS b, I1, L, xP b)) rfl trivial ?_
        refine xw_if (fun c_42 => ?_) (fun c_42 => ?_)
        · skip
          refine xw_go xb_79 3 (f1 := (62, [.ref 0, .int (nI s), .int (nI n), .int (nI t)], [.int (I1 24 8)])) (h1 := (xS b, I1, L, xP b)) rfl ⟨rfl, rfl, trivial⟩ ?_
          refine xw_ret xb_79 rfl rfl trivial ?_
          first
            | (have e0 : t = 0 := by
                 (try simp (disch := omega) only [xt_eq, xt_n, xkt_0, Classical.not_not] at c_42)
                 omega
               rw [if_pos e0]
               exact ⟨xm_some (congrArg Value.int g3), I1, rfl, xFF_P g1, xFF_L g1 (by omega) hP⟩)
            | (have e0 : ¬ t = 0 := by
                 (try simp (disch := omega) only [xt_eq, xt_n, xkt_0, Classical.not_not] at c_42)
                 omega
               rw [if_neg e0]
               exact ⟨xm_some (congrArg Value.int g2), I1, rfl, xFF_P g1, xFF_L g1 (by omega) hP⟩)
        · skip
          refine xw_go xb_79 4 (f1 := (62, [.ref 0, .int (nI s), .int (nI n), .int (nI t)], [.int (I1 24 11)])) (h1 := (xS b, I1, L, xP b)) rfl ⟨rfl, rfl, trivial⟩ ?_
          refine xw_ret xb_79 rfl rfl trivial ?_
          first
            | (have e0 : t = 0 := by
                 (try simp (disch := omega) only [xt_eq, xt_n, xkt_0, Classical.not_not] at c_42)
                 omega
               rw [if_pos e0]
               exact ⟨xm_some (congrArg Value.int g3), I1, rfl, xFF_P g1, xFF_L g1 (by omega) hP⟩)
            | (have e0 : ¬ t = 0 := by
                 (try simp (disch := omega) only [xt_eq, xt_n, xkt_0, Classical.not_not] at c_42)
                 omega
               rw [if_neg e0]
               exact ⟨xm_some (congrArg Value.int g2), I1, rfl, xFF_P g1, xFF_L g1 (by omega) hP⟩)
      · skip
        exfalso
        try simp only [xB_dec, Classical.not_not] at c_8 c_18 c_27
        try simp (disch := omega) only [xt_eq, xt_lt, xt_le, xkt_0, xkt_1, xkt_2, xkt_3, xkt_4, xkt_5, xkt_6, xkt_7, xkt_8, xkt_9, xkt_10, xkt_11, xkt_12, xkt_13, xkt_14, xkt_16, xkt_20, xkt_24, xkt_31, xkt_32, xkt_40, xkt_44, xkt_47, xkt_48, xkt_57, xkt_59, xkt_60, xkt_63, xkt_64, xkt_65, xkt_72, xkt_95, xkt_99, xkt_100, xkt_101, xkt_103, xkt_110, xkt_112, xkt_113, xkt_114, xkt_119, xkt_126, xkt_159, xkt_576, xkt_999, xkt_9999, xkt_65536, xkt_999999, xkt_m1, xkt_m2, xkt_m3, xkt_m4, xkt_m11, xkt_m12, xkt_m13, xkt_m14, xkt_m20, xjt_0, xjt_1, xjt_2, xjt_3, xjt_4, xjt_5, xjt_6, xjt_7, xjt_8, xjt_9, xjt_10, xjt_11, xjt_12, xjt_13, xjt_14, xjt_16, xjt_20, xjt_24, xjt_31, xjt_32, xjt_40, xjt_44, xjt_47, xjt_48, xjt_57, xjt_59, xjt_60, xjt_63, xjt_64, xjt_65, xjt_72, xjt_95, xjt_99, xjt_100, xjt_101, xjt_103, xjt_110, xjt_112, xjt_113, xjt_114, xjt_119, xjt_126, xjt_159, xjt_576, xjt_999, xjt_9999, xjt_65536, xjt_999999, xt64, xt_n, not_true_eq_false, not_false_eq_true, Classical.not_not] at c_8 c_18 c_27
        all_goals omega

set_option maxHeartbeats 4000000 in
theorem m_stand1 {d : Nat} {b : Bool} {I : Nat → Nat → Int32} {L : Nat → Nat → Int64} {N : Nat → Nat} {u : Nat} {U : Nat → Nat → Nat} (hM : xML N u U I) (hK : xUK N u U) {s n t : Nat} (hs : s < N 2) (hn : n ≤ 40) (ht : t < 2) {x : Int32} (e_x : x = nI s) {y : Int32} (e_y : y = nI n) {z : Int32} (e_z : z = nI t) : xm_Z (d + 6) 156 [.ref 60, .int x, .int y, .int z] (xS b, I, L, xP b) (fun rz hz => xQM b I L (nI (if t = 0 then (xbt (fun _ => true) (xtf N s n) (fun _ _ => false) (N 0 * N 1)).2 else (xbt (fun _ => true) (xtf N s n) (fun _ _ => false) (N 0 * N 1)).1)) N u U rz hz) := by
  subst e_x
  subst e_y
  subst e_z
  have hO := hK.1
  have hb := hK.1.1
  have c64 : N 0 * N 1 ≤ 64 := xce_le hO
  have c4 : 4 ≤ N 0 * N 1 := xce_ge hO
  have h49 := hK.2.1
  obtain ⟨cl1, cl2, cl3, cl4⟩ := xclr (N 3) (xOn32 hO) s (by omega)
  refine xw_S xb_156 (l := [.ref 60, .int (nI s), .int (nI n), .int (nI t), .float 0, .float 0, .float 0, .float 0, .float 0]) (Nat.le_of_ble_eq_true rfl) rfl ?_
  refine xw_go xb_156 2 (f1 := (2, [.ref 60, .int (nI s), .int (nI n), .int (nI t), .float 0, .float 0, .float 0, .float 0, .float 0], [.int (nI s), .ref 60])) (h1 := (xS b, I, L, xP b)) rfl trivial ?_
  refine xw_call xb_156 rfl rfl rfl rfl rfl (Or.inr ⟨_, _, rfl, rfl⟩) (m_isSprinkler (I := I) hM.1 hO) ?_
  rintro _ _ ⟨rfl, rfl⟩
  refine xw_at (f' := (5, [.ref 60, .int (nI s), .int (nI n), .int (nI t), .float 0, .float 0, .float 0, .float 0, .float 0], [.int (nI (xB (decide (0 ≤ (nI s).toInt ∧ (nI s).toInt < (N 2 : Int)))))])) (h' := (xS b, I, L, xP b)) rfl rfl ?_
  refine xw_go xb_156 1 (f1 := (if (nI (xB (decide (0 ≤ (nI s).toInt ∧ (nI s).toInt < (N 2 : Int))))) = 0 then 30 else 8, [.ref 60, .int (nI s), .int (nI n), .int (nI t), .float 0, .float 0, .float 0, .float 0, .float 0], [])) (h1 := (xS b, I, L, xP b)) rfl trivial ?_
  refine xw_if (fun c_5 => ?_) (fun c_5 => ?_)
  · skip
    exfalso
    try simp only [xB_dec, Classical.not_not] at c_5
    try simp (disch := omega) only [xt_eq, xt_lt, xt_le, xkt_0, xkt_1, xkt_2, xkt_3, xkt_4, xkt_5, xkt_6, xkt_7, xkt_8, xkt_9, xkt_10, xkt_11, xkt_12, xkt_13, xkt_14, xkt_16, xkt_20, xkt_24, xkt_31, xkt_32, xkt_40, xkt_44, xkt_47, xkt_48, xkt_57, xkt_59, xkt_60, xkt_63, xkt_64, xkt_65, xkt_72, xkt_95, xkt_99, xkt_100, xkt_101, xkt_103, xkt_110, xkt_112, xkt_113, xkt_114, xkt_119, xkt_126, xkt_159, xkt_576, xkt_999, xkt_9999, xkt_65536, xkt_999999, xkt_m1, xkt_m2, xkt_m3, xkt_m4, xkt_m11, xkt_m12, xkt_m13, xkt_m14, xkt_m20, xjt_0, xjt_1, xjt_2, xjt_3, xjt_4, xjt_5, xjt_6, xjt_7, xjt_8, xjt_9, xjt_10, xjt_11, xjt_12, xjt_13, xjt_14, xjt_16, xjt_20, xjt_24, xjt_31, xjt_32, xjt_40, xjt_44, xjt_47, xjt_48, xjt_57, xjt_59, xjt_60, xjt_63, xjt_64, xjt_65, xjt_72, xjt_95, xjt_99, xjt_100, xjt_101, xjt_103, xjt_110, xjt_112, xjt_113, xjt_114, xjt_119, xjt_126, xjt_159, xjt_576, xjt_999, xjt_9999, xjt_65536, xjt_999999, xt64, xt_n, not_true_eq_false, not_false_eq_true, Classical.not_not] at c_5
    all_goals omega
  · skip
    refine xw_go xb_156 4 (f1 := (14, [.ref 60, .int (nI s), .int (nI n), .int (nI t), .float 0, .float 0, .float 0, .float 0, .float 0], [.long 40, .long 0, .long ((nI n).toInt64)])) (h1 := (xS b, I, L, xP b)) rfl trivial ?_
    refine xw_call xb_156 rfl rfl rfl rfl rfl (Or.inl rfl) m_in ?_
    rintro _ _ ⟨rfl, rfl⟩
    refine xw_at (f' := (17, [.ref 60, .int (nI s), .int (nI n), .int (nI t), .float 0, .float 0, .float 0, .float 0, .float 0], [.int (nI (xB (decide ((0 : Int64).toInt ≤ (nI n).toInt64.toInt ∧ (nI n).toInt64.toInt ≤ (40 : Int64).toInt))))])) (h' := (xS b, I, L, xP b)) rfl rfl ?_
    refine xw_go xb_156 1 (f1 := (if (nI (xB (decide ((0 : Int64).toInt ≤ (nI n).toInt64.toInt ∧ (nI n).toInt64.toInt ≤ (40 : Int64).toInt)))) = 0 then 30 else 20, [.ref 60, .int (nI s), .int (nI n), .int (nI t), .float 0, .float 0, .float 0, .float 0, .float 0], [])) (h1 := (xS b, I, L, xP b)) rfl trivial ?_
    refine xw_if (fun c_17 => ?_) (fun c_17 => ?_)
    · skip
      exfalso
      try simp only [xB_dec, Classical.not_not] at c_5 c_17
      try simp (disch := omega) only [xt_eq, xt_lt, xt_le, xkt_0, xkt_1, xkt_2, xkt_3, xkt_4, xkt_5, xkt_6, xkt_7, xkt_8, xkt_9, xkt_10, xkt_11, xkt_12, xkt_13, xkt_14, xkt_16, xkt_20, xkt_24, xkt_31, xkt_32, xkt_40, xkt_44, xkt_47, xkt_48, xkt_57, xkt_59, xkt_60, xkt_63, xkt_64, xkt_65, xkt_72, xkt_95, xkt_99, xkt_100, xkt_101, xkt_103, xkt_110, xkt_112, xkt_113, xkt_114, xkt_119, xkt_126, xkt_159, xkt_576, xkt_999, xkt_9999, xkt_65536, xkt_999999, xkt_m1, xkt_m2, xkt_m3, xkt_m4, xkt_m11, xkt_m12, xkt_m13, xkt_m14, xkt_m20, xjt_0, xjt_1, xjt_2, xjt_3, xjt_4, xjt_5, xjt_6, xjt_7, xjt_8, xjt_9, xjt_10, xjt_11, xjt_12, xjt_13, xjt_14, xjt_16, xjt_20, xjt_24, xjt_31, xjt_32, xjt_40, xjt_44, xjt_47, xjt_48, xjt_57, xjt_59, xjt_60, xjt_63, xjt_64, xjt_65, xjt_72, xjt_95, xjt_99, xjt_100, xjt_101, xjt_103, xjt_110, xjt_112, xjt_113, xjt_114, xjt_119, xjt_126, xjt_159, xjt_576, xjt_999, xjt_9999, xjt_65536, xjt_999999, xt64, xt_n, not_true_eq_false, not_false_eq_true, Classical.not_not] at c_5 c_17
      all_goals omega
    · skip
      refine xw_go xb_156 4 (f1 := (24, [.ref 60, .int (nI s), .int (nI n), .int (nI t), .float 0, .float 0, .float 0, .float 0, .float 0], [.long 1, .long 0, .long ((nI t).toInt64)])) (h1 := (xS b, I, L, xP b)) rfl trivial ?_
      refine xw_call xb_156 rfl rfl rfl rfl rfl (Or.inl rfl) m_in ?_
      rintro _ _ ⟨rfl, rfl⟩
      refine xw_at (f' := (27, [.ref 60, .int (nI s), .int (nI n), .int (nI t), .float 0, .float 0, .float 0, .float 0, .float 0], [.int (nI (xB (decide ((0 : Int64).toInt ≤ (nI t).toInt64.toInt ∧ (nI t).toInt64.toInt ≤ (1 : Int64).toInt))))])) (h' := (xS b, I, L, xP b)) rfl rfl ?_
      refine xw_go xb_156 1 (f1 := (if ¬ (nI (xB (decide ((0 : Int64).toInt ≤ (nI t).toInt64.toInt ∧ (nI t).toInt64.toInt ≤ (1 : Int64).toInt)))) = 0 then 32 else 30, [.ref 60, .int (nI s), .int (nI n), .int (nI t), .float 0, .float 0, .float 0, .float 0, .float 0], [])) (h1 := (xS b, I, L, xP b)) rfl trivial ?_
      refine xw_if (fun c_27 => ?_) (fun c_27 => ?_)
      · skip
        refine xw_go xb_156 5 (f1 := (41, [.ref 60, .int (nI s), .int (nI n), .int (nI t), .int (-4), .int (-4), .float 0, .float 0, .float 0], [.ref 60])) (h1 := (xS b, I, L, xP b)) rfl trivial ?_
        refine xw_call xb_156 rfl rfl rfl rfl rfl (Or.inr ⟨_, _, rfl, rfl⟩) (m_asides (I := I)) ?_
        rintro _ _ ⟨rfl, rfl⟩
        refine xw_at (f' := (44, [.ref 60, .int (nI s), .int (nI n), .int (nI t), .int (-4), .int (-4), .float 0, .float 0, .float 0], [])) (h' := (xS b, va_up I 68 (xfil 159 (I 61) (I 68)), L, xP b)) rfl rfl ?_
        refine xw_go xb_156 2 (f1 := (47, [.ref 60, .int (nI s), .int (nI n), .int (nI t), .int (-4), .int (-4), .int 0, .float 0, .float 0], [])) (h1 := (xS b, va_up I 68 (xfil 159 (I 61) (I 68)), L, xP b)) rfl trivial ?_
        have LOOP : ∀ h, (1 ≤ 1 ∧ ∃ J, h = (xS b, J, L, xP b) ∧ xMF I J ∧ J 68 = xfil 159 (I 61) (I 68) ∧ J 67 = I 67 ∧ J 60 = I 60 ∧ xMN N J) → xm_W (d + 5) 156 (47, [.ref 60, .int (nI s), .int (nI n), .int (nI t), .int (nI (xbt (fun _ => true) (xtf N s n) (fun _ _ => false) 1).2), .int (nI (xbt (fun _ => true) (xtf N s n) (fun _ _ => false) 1).1), .int (nI 1), .float 0, .float 0], []) h (fun rz hz => xQM b I L (nI (if t = 0 then (xbt (fun _ => true) (xtf N s n) (fun _ _ => false) (N 0 * N 1)).2 else (xbt (fun _ => true) (xtf N s n) (fun _ _ => false) (N 0 * N 1)).1)) N u U rz hz) := by
          intro h hV
          refine xw_loopP (N 0 * N 1) (fun c => (47, [.ref 60, .int (nI s), .int (nI n), .int (nI t), .int (nI (xbt (fun _ => true) (xtf N s n) (fun _ _ => false) c).2), .int (nI (xbt (fun _ => true) (xtf N s n) (fun _ _ => false) c).1), .int (nI c), .float 0, .float 0], [])) (fun c h => 1 ≤ c ∧ ∃ J, h = (xS b, J, L, xP b) ∧ xMF I J ∧ J 68 = xfil 159 (I 61) (I 68) ∧ J 67 = I 67 ∧ J 60 = I 60 ∧ xMN N J) (fun c h hc hV ih => ?_) (fun h hV => ?_) 1 h (by omega) hV
          · obtain ⟨hc1, J, rfl, j1, j2, j3, j4, j5⟩ := hV
            have f64 : xtf N s n c ≤ 64 := xwc_le (xgoN_ok (xOK_pl hO hs hc) _ (by rw [xvu_N (by omega)]; omega))
            have b66 : (xbt (fun _ => true) (xtf N s n) (fun _ _ => false) c).1 ≤ 65 := xtf_65 hO hs (by omega) c (by omega)
            have b67 := xbt_2 (a := fun _ => true) (f := xtf N s n) (t := fun _ _ => false) c
            refine xw_go xb_156 2 (f1 := (50, [.ref 60, .int (nI s), .int (nI n), .int (nI t), .int (nI (xbt (fun _ => true) (xtf N s n) (fun _ _ => false) c).2), .int (nI (xbt (fun _ => true) (xtf N s n) (fun _ _ => false) c).1), .int (nI c), .float 0, .float 0], [.ref 60, .int (nI c)])) (h1 := (xS b, J, L, xP b)) rfl trivial ?_
            refine xw_call xb_156 rfl rfl rfl rfl rfl (Or.inr ⟨_, _, rfl, rfl⟩) (m_cells (I := J) (N := N) j5) ?_
            rintro _ _ ⟨rfl, rfl⟩
            refine xw_at (f' := (53, [.ref 60, .int (nI s), .int (nI n), .int (nI t), .int (nI (xbt (fun _ => true) (xtf N s n) (fun _ _ => false) c).2), .int (nI (xbt (fun _ => true) (xtf N s n) (fun _ _ => false) c).1), .int (nI c), .float 0, .float 0], [.int (nI (N 0 * N 1)), .int (nI c)])) (h' := (xS b, J, L, xP b)) rfl rfl ?_
            refine xw_go xb_156 1 (f1 := (if (nI (N 0 * N 1)) ≤ (nI c) then 143 else 56, [.ref 60, .int (nI s), .int (nI n), .int (nI t), .int (nI (xbt (fun _ => true) (xtf N s n) (fun _ _ => false) c).2), .int (nI (xbt (fun _ => true) (xtf N s n) (fun _ _ => false) c).1), .int (nI c), .float 0, .float 0], [])) (h1 := (xS b, J, L, xP b)) rfl trivial ?_
            refine xw_if (fun c_53 => ?_) (fun c_53 => ?_)
            · skip
              exfalso
              simp (disch := omega) only [nI_leI] at c_53
              omega
            · skip
              refine xw_go xb_156 11 (f1 := (71, [.ref 60, .int (nI s), .int (nI n), .int (nI t), .int (nI (xbt (fun _ => true) (xtf N s n) (fun _ _ => false) c).2), .int (nI (xbt (fun _ => true) (xtf N s n) (fun _ _ => false) c).1), .int (nI c), .float 0, .float 0], [])) (h1 := (xS b, xm_up J 61 ((11 + (4 * (nI s))) + 1).toNatClampNeg (nI c), L, xP b)) rfl ⟨rfl, (xn_ar' (n := 12 + 4 * s) (N := 159) rfl (show 11 + 4 * nI s + 1 = _ by rw [xl_11, xl_4, pk_mul, nI_add, nI_1]; congr 1; omega) (by omega) (by decide)), trivial⟩ ?_
              refine xw_at (f' := (71, [.ref 60, .int (nI s), .int (nI n), .int (nI t), .int (nI (xbt (fun _ => true) (xtf N s n) (fun _ _ => false) c).2), .int (nI (xbt (fun _ => true) (xtf N s n) (fun _ _ => false) c).1), .int (nI c), .float 0, .float 0], [])) (h' := (xS b, xm_up J 61 (12 + 4 * s) (nI c), L, xP b)) rfl (show (xS b, xm_up J 61 ((11 + (4 * (nI s))) + 1).toNatClampNeg (nI c), L, xP b) = (xS b, xm_up J 61 (12 + 4 * s) (nI c), L, xP b) from ?_) ?_
              · refine congrArg (fun X => (xS b, xm_up J 61 X (nI c), L, xP b)) ?_
                rw [xl_11, xl_4, pk_mul, nI_add, nI_1, xn_cl (by omega)]
                omega
              refine xw_go xb_156 10 (f1 := (83, [.ref 60, .int (nI s), .int (nI n), .int (nI t), .int (nI (xbt (fun _ => true) (xtf N s n) (fun _ _ => false) c).2), .int (nI (xbt (fun _ => true) (xtf N s n) (fun _ _ => false) c).1), .int (nI c), .float 0, .float 0], [.int (nI n), .int (((xm_up J 61 (12 + 4 * s) (nI c)) 61 (3 : Int32).toNatClampNeg) ||| (1 <<< ((nI s) &&& 31))), .ref 60])) (h1 := (xS b, xm_up J 61 (12 + 4 * s) (nI c), L, xP b)) rfl ⟨rfl, (xn_ar (n := 3) (N := 159) rfl (by decide) (by decide)), trivial⟩ ?_
              refine xw_call xb_156 rfl rfl rfl rfl rfl (Or.inr ⟨_, _, rfl, rfl⟩) (m_wrongBehind (I := (xm_up J 61 (12 + 4 * s) (nI c))) (N := va_up N (12 + 4 * s) c) (xMN_u j5 rfl rfl) (xOK_pl hO hs hc) (o := N 3 ||| (1 <<< s)) (n := n) cl4 (by rw [xvu_N (by omega)]; omega) (by show xm_up J 61 (12 + 4 * s) _ 61 3 ||| _ = _; rw [xm_up_ne (Or.inr (by omega)), j5 3 (by decide)]; exact cl3) rfl) ?_
              rintro _ _ ⟨rfl, J1, rfl, g1, g2⟩
              rw [xtf_e hs]
              have gq : ∀ a, a ≠ 61 → a ≠ 62 → a ≠ 63 → J1 a = J a := fun a h1 h2 h3 => by
                rw [g1 a (by simp only [List.mem_cons, List.not_mem_nil, or_false, not_or]; exact ⟨h1, h2, h3⟩), xm_up_o h1]
              have g5 : xMN N J1 := fun k hk => by
                rw [g2 k hk, xm_up_o (by decide), j2]
                unfold xfil
                rw [if_pos hk]
                exact hM.1 k hk
              have gm : xMF I J1 := ⟨fun a ha => by rw [gq a (by omega) (by omega) (by omega)]; exact j1.1 a ha, fun k hk => by rw [gq 60 (by decide) (by decide) (by decide)]; exact j1.2 k hk⟩
              refine xw_at (f' := (86, [.ref 60, .int (nI s), .int (nI n), .int (nI t), .int (nI (xbt (fun _ => true) (xtf N s n) (fun _ _ => false) c).2), .int (nI (xbt (fun _ => true) (xtf N s n) (fun _ _ => false) c).1), .int (nI c), .float 0, .float 0], [.int (nI (xtf N s n c))])) (h' := (xS b, J1, L, xP b)) rfl rfl ?_
              refine xw_go xb_156 4 (f1 := (if (nI (xbt (fun _ => true) (xtf N s n) (fun _ _ => false) c).2) = (-4) then 102 else 95, [.ref 60, .int (nI s), .int (nI n), .int (nI t), .int (nI (xbt (fun _ => true) (xtf N s n) (fun _ _ => false) c).2), .int (nI (xbt (fun _ => true) (xtf N s n) (fun _ _ => false) c).1), .int (nI c), .int (nI (xtf N s n c)), .float 0], [])) (h1 := (xS b, J1, L, xP b)) rfl trivial ?_
              refine xw_if (fun c_92 => ?_) (fun c_92 => ?_)
              · skip
                refine xw_go xb_156 5 (f1 := (if 1 = 0 then 119 else 114, [.ref 60, .int (nI s), .int (nI n), .int (nI t), .int (nI (xbt (fun _ => true) (xtf N s n) (fun _ _ => false) c).2), .int (nI (xbt (fun _ => true) (xtf N s n) (fun _ _ => false) c).1), .int (nI c), .int (nI (xtf N s n c)), .int 1], [])) (h1 := (xS b, J1, L, xP b)) rfl trivial ?_
                refine xw_if (fun c_111 => ?_) (fun c_111 => ?_)
                · skip
                  refine xw_go xb_156 4 (f1 := (if 1 = 0 then 133 else 128, [.ref 60, .int (nI s), .int (nI n), .int (nI t), .int (nI (xbt (fun _ => true) (xtf N s n) (fun _ _ => false) c).2), .int (nI (xbt (fun _ => true) (xtf N s n) (fun _ _ => false) c).1), .int (nI c), .int (nI (xtf N s n c)), .int 1], [])) (h1 := (xS b, J1, L, xP b)) rfl trivial ?_
                  refine xw_if (fun c_125 => ?_) (fun c_125 => ?_)
                  · skip
                    refine xw_go xb_156 4 (f1 := (47, [.ref 60, .int (nI s), .int (nI n), .int (nI t), .int (nI (xbt (fun _ => true) (xtf N s n) (fun _ _ => false) c).2), .int (nI (xbt (fun _ => true) (xtf N s n) (fun _ _ => false) c).1), .int ((nI c) + 1), .int (nI (xtf N s n c)), .int 1], [])) (h1 := (xS b, J1, L, xP b)) rfl trivial ?_
                    refine xw_fg (l0 := [.ref 60, .int (nI s), .int (nI n), .int (nI t), .int (nI (xbt (fun _ => true) (xtf N s n) (fun _ _ => false) c).2), .int (nI (xbt (fun _ => true) (xtf N s n) (fun _ _ => false) c).1), .int ((nI c) + 1), .float 0, .float 0]) ⟨Or.inr rfl, Or.inr rfl, Or.inr rfl, Or.inr rfl, Or.inr rfl, Or.inr rfl, Or.inr rfl, Or.inl rfl, Or.inl rfl, trivial⟩ ?_
                    first
                      | (exfalso
                         try simp only [xB_dec, Classical.not_not] at c_53 c_92 c_111 c_125
                         try simp (disch := omega) only [xt_eq, xt_lt, xt_le, xkt_0, xkt_1, xkt_2, xkt_3, xkt_4, xkt_5, xkt_6, xkt_7, xkt_8, xkt_9, xkt_10, xkt_11, xkt_12, xkt_13, xkt_14, xkt_16, xkt_20, xkt_24, xkt_31, xkt_32, xkt_40, xkt_44, xkt_47, xkt_48, xkt_57, xkt_59, xkt_60, xkt_63, xkt_64, xkt_65, xkt_72, xkt_95, xkt_99, xkt_100, xkt_101, xkt_103, xkt_110, xkt_112, xkt_113, xkt_114, xkt_119, xkt_126, xkt_159, xkt_576, xkt_999, xkt_9999, xkt_65536, xkt_999999, xkt_m1, xkt_m2, xkt_m3, xkt_m4, xkt_m11, xkt_m12, xkt_m13, xkt_m14, xkt_m20, xjt_0, xjt_1, xjt_2, xjt_3, xjt_4, xjt_5, xjt_6, xjt_7, xjt_8, xjt_9, xjt_10, xjt_11, xjt_12, xjt_13, xjt_14, xjt_16, xjt_20, xjt_24, xjt_31, xjt_32, xjt_40, xjt_44, xjt_47, xjt_48, xjt_57, xjt_59, xjt_60, xjt_63, xjt_64, xjt_65, xjt_72, xjt_95, xjt_99, xjt_100, xjt_101, xjt_103, xjt_110, xjt_112, xjt_113, xjt_114, xjt_119, xjt_126, xjt_159, xjt_576, xjt_999, xjt_9999, xjt_65536, xjt_999999, xt64, xt_n, not_true_eq_false, not_false_eq_true, Classical.not_not] at c_53 c_92 c_111 c_125
                         all_goals omega)
                      | (have hy : (xbt (fun _ => true) (xtf N s n) (fun _ _ => false) (c + 1)) = (xbt (fun _ => true) (xtf N s n) (fun _ _ => false) c) := xbt_n (Or.inr ⟨by
                           try simp only [xB_dec, Classical.not_not] at c_53 c_92 c_111 c_125
                           try simp (disch := omega) only [xt_eq, xt_lt, xt_le, xkt_0, xkt_1, xkt_2, xkt_3, xkt_4, xkt_5, xkt_6, xkt_7, xkt_8, xkt_9, xkt_10, xkt_11, xkt_12, xkt_13, xkt_14, xkt_16, xkt_20, xkt_24, xkt_31, xkt_32, xkt_40, xkt_44, xkt_47, xkt_48, xkt_57, xkt_59, xkt_60, xkt_63, xkt_64, xkt_65, xkt_72, xkt_95, xkt_99, xkt_100, xkt_101, xkt_103, xkt_110, xkt_112, xkt_113, xkt_114, xkt_119, xkt_126, xkt_159, xkt_576, xkt_999, xkt_9999, xkt_65536, xkt_999999, xkt_m1, xkt_m2, xkt_m3, xkt_m4, xkt_m11, xkt_m12, xkt_m13, xkt_m14, xkt_m20, xjt_0, xjt_1, xjt_2, xjt_3, xjt_4, xjt_5, xjt_6, xjt_7, xjt_8, xjt_9, xjt_10, xjt_11, xjt_12, xjt_13, xjt_14, xjt_16, xjt_20, xjt_24, xjt_31, xjt_32, xjt_40, xjt_44, xjt_47, xjt_48, xjt_57, xjt_59, xjt_60, xjt_63, xjt_64, xjt_65, xjt_72, xjt_95, xjt_99, xjt_100, xjt_101, xjt_103, xjt_110, xjt_112, xjt_113, xjt_114, xjt_119, xjt_126, xjt_159, xjt_576, xjt_999, xjt_9999, xjt_65536, xjt_999999, xt64, xt_n, not_true_eq_false, not_false_eq_true, Classical.not_not] at c_53 c_92 c_111 c_125
                           all_goals omega, Or.inr rfl⟩)
                         refine xw_cong ?_ rfl rfl (ih _ ⟨by omega, J1, rfl, gm, by rw [gq 68 (by decide) (by decide) (by decide)]; exact j2, by rw [gq 67 (by decide) (by decide) (by decide)]; exact j3, by rw [gq 60 (by decide) (by decide) (by decide)]; exact j4, g5⟩)
                         rw [hy, nI_1])
                  · skip
                    refine xw_go xb_156 5 (f1 := (47, [.ref 60, .int (nI s), .int (nI n), .int (nI t), .int (nI (xbt (fun _ => true) (xtf N s n) (fun _ _ => false) c).2), .int (nI (xtf N s n c)), .int ((nI c) + 1), .int (nI (xtf N s n c)), .int 1], [])) (h1 := (xS b, J1, L, xP b)) rfl trivial ?_
                    refine xw_fg (l0 := [.ref 60, .int (nI s), .int (nI n), .int (nI t), .int (nI (xbt (fun _ => true) (xtf N s n) (fun _ _ => false) c).2), .int (nI (xtf N s n c)), .int ((nI c) + 1), .float 0, .float 0]) ⟨Or.inr rfl, Or.inr rfl, Or.inr rfl, Or.inr rfl, Or.inr rfl, Or.inr rfl, Or.inr rfl, Or.inl rfl, Or.inl rfl, trivial⟩ ?_
                    first
                      | (exfalso
                         try simp only [xB_dec, Classical.not_not] at c_53 c_92 c_111 c_125
                         try simp (disch := omega) only [xt_eq, xt_lt, xt_le, xkt_0, xkt_1, xkt_2, xkt_3, xkt_4, xkt_5, xkt_6, xkt_7, xkt_8, xkt_9, xkt_10, xkt_11, xkt_12, xkt_13, xkt_14, xkt_16, xkt_20, xkt_24, xkt_31, xkt_32, xkt_40, xkt_44, xkt_47, xkt_48, xkt_57, xkt_59, xkt_60, xkt_63, xkt_64, xkt_65, xkt_72, xkt_95, xkt_99, xkt_100, xkt_101, xkt_103, xkt_110, xkt_112, xkt_113, xkt_114, xkt_119, xkt_126, xkt_159, xkt_576, xkt_999, xkt_9999, xkt_65536, xkt_999999, xkt_m1, xkt_m2, xkt_m3, xkt_m4, xkt_m11, xkt_m12, xkt_m13, xkt_m14, xkt_m20, xjt_0, xjt_1, xjt_2, xjt_3, xjt_4, xjt_5, xjt_6, xjt_7, xjt_8, xjt_9, xjt_10, xjt_11, xjt_12, xjt_13, xjt_14, xjt_16, xjt_20, xjt_24, xjt_31, xjt_32, xjt_40, xjt_44, xjt_47, xjt_48, xjt_57, xjt_59, xjt_60, xjt_63, xjt_64, xjt_65, xjt_72, xjt_95, xjt_99, xjt_100, xjt_101, xjt_103, xjt_110, xjt_112, xjt_113, xjt_114, xjt_119, xjt_126, xjt_159, xjt_576, xjt_999, xjt_9999, xjt_65536, xjt_999999, xt64, xt_n, not_true_eq_false, not_false_eq_true, Classical.not_not] at c_53 c_92 c_111 c_125
                         all_goals omega)
                      | (have hy : (xbt (fun _ => true) (xtf N s n) (fun _ _ => false) (c + 1)) = (xbt (fun _ => true) (xtf N s n) (fun _ _ => false) c) := xbt_n (Or.inr ⟨by
                           try simp only [xB_dec, Classical.not_not] at c_53 c_92 c_111 c_125
                           try simp (disch := omega) only [xt_eq, xt_lt, xt_le, xkt_0, xkt_1, xkt_2, xkt_3, xkt_4, xkt_5, xkt_6, xkt_7, xkt_8, xkt_9, xkt_10, xkt_11, xkt_12, xkt_13, xkt_14, xkt_16, xkt_20, xkt_24, xkt_31, xkt_32, xkt_40, xkt_44, xkt_47, xkt_48, xkt_57, xkt_59, xkt_60, xkt_63, xkt_64, xkt_65, xkt_72, xkt_95, xkt_99, xkt_100, xkt_101, xkt_103, xkt_110, xkt_112, xkt_113, xkt_114, xkt_119, xkt_126, xkt_159, xkt_576, xkt_999, xkt_9999, xkt_65536, xkt_999999, xkt_m1, xkt_m2, xkt_m3, xkt_m4, xkt_m11, xkt_m12, xkt_m13, xkt_m14, xkt_m20, xjt_0, xjt_1, xjt_2, xjt_3, xjt_4, xjt_5, xjt_6, xjt_7, xjt_8, xjt_9, xjt_10, xjt_11, xjt_12, xjt_13, xjt_14, xjt_16, xjt_20, xjt_24, xjt_31, xjt_32, xjt_40, xjt_44, xjt_47, xjt_48, xjt_57, xjt_59, xjt_60, xjt_63, xjt_64, xjt_65, xjt_72, xjt_95, xjt_99, xjt_100, xjt_101, xjt_103, xjt_110, xjt_112, xjt_113, xjt_114, xjt_119, xjt_126, xjt_159, xjt_576, xjt_999, xjt_9999, xjt_65536, xjt_999999, xt64, xt_n, not_true_eq_false, not_false_eq_true, Classical.not_not] at c_53 c_92 c_111 c_125
                           all_goals omega, Or.inr rfl⟩)
                         refine xw_cong ?_ rfl rfl (ih _ ⟨by omega, J1, rfl, gm, by rw [gq 68 (by decide) (by decide) (by decide)]; exact j2, by rw [gq 67 (by decide) (by decide) (by decide)]; exact j3, by rw [gq 60 (by decide) (by decide) (by decide)]; exact j4, g5⟩)
                         rw [hy, nI_1])
                · skip
                  refine xw_go xb_156 5 (f1 := (if 1 = 0 then 133 else 128, [.ref 60, .int (nI s), .int (nI n), .int (nI t), .int (nI c), .int (nI (xbt (fun _ => true) (xtf N s n) (fun _ _ => false) c).1), .int (nI c), .int (nI (xtf N s n c)), .int 1], [])) (h1 := (xS b, J1, L, xP b)) rfl trivial ?_
                  refine xw_if (fun c_125 => ?_) (fun c_125 => ?_)
                  · skip
                    refine xw_go xb_156 4 (f1 := (47, [.ref 60, .int (nI s), .int (nI n), .int (nI t), .int (nI c), .int (nI (xbt (fun _ => true) (xtf N s n) (fun _ _ => false) c).1), .int ((nI c) + 1), .int (nI (xtf N s n c)), .int 1], [])) (h1 := (xS b, J1, L, xP b)) rfl trivial ?_
                    refine xw_fg (l0 := [.ref 60, .int (nI s), .int (nI n), .int (nI t), .int (nI c), .int (nI (xbt (fun _ => true) (xtf N s n) (fun _ _ => false) c).1), .int ((nI c) + 1), .float 0, .float 0]) ⟨Or.inr rfl, Or.inr rfl, Or.inr rfl, Or.inr rfl, Or.inr rfl, Or.inr rfl, Or.inr rfl, Or.inl rfl, Or.inl rfl, trivial⟩ ?_
                    first
                      | (exfalso
                         try simp only [xB_dec, Classical.not_not] at c_53 c_92 c_111 c_125
                         try simp (disch := omega) only [xt_eq, xt_lt, xt_le, xkt_0, xkt_1, xkt_2, xkt_3, xkt_4, xkt_5, xkt_6, xkt_7, xkt_8, xkt_9, xkt_10, xkt_11, xkt_12, xkt_13, xkt_14, xkt_16, xkt_20, xkt_24, xkt_31, xkt_32, xkt_40, xkt_44, xkt_47, xkt_48, xkt_57, xkt_59, xkt_60, xkt_63, xkt_64, xkt_65, xkt_72, xkt_95, xkt_99, xkt_100, xkt_101, xkt_103, xkt_110, xkt_112, xkt_113, xkt_114, xkt_119, xkt_126, xkt_159, xkt_576, xkt_999, xkt_9999, xkt_65536, xkt_999999, xkt_m1, xkt_m2, xkt_m3, xkt_m4, xkt_m11, xkt_m12, xkt_m13, xkt_m14, xkt_m20, xjt_0, xjt_1, xjt_2, xjt_3, xjt_4, xjt_5, xjt_6, xjt_7, xjt_8, xjt_9, xjt_10, xjt_11, xjt_12, xjt_13, xjt_14, xjt_16, xjt_20, xjt_24, xjt_31, xjt_32, xjt_40, xjt_44, xjt_47, xjt_48, xjt_57, xjt_59, xjt_60, xjt_63, xjt_64, xjt_65, xjt_72, xjt_95, xjt_99, xjt_100, xjt_101, xjt_103, xjt_110, xjt_112, xjt_113, xjt_114, xjt_119, xjt_126, xjt_159, xjt_576, xjt_999, xjt_9999, xjt_65536, xjt_999999, xt64, xt_n, not_true_eq_false, not_false_eq_true, Classical.not_not] at c_53 c_92 c_111 c_125
                         all_goals omega)
                      | (have hy : (xbt (fun _ => true) (xtf N s n) (fun _ _ => false) (c + 1)) = (xtf N s n c, c) := xbt_y rfl (Or.inl (by
                           try simp only [xB_dec, Classical.not_not] at c_53 c_92 c_111 c_125
                           try simp (disch := omega) only [xt_eq, xt_lt, xt_le, xkt_0, xkt_1, xkt_2, xkt_3, xkt_4, xkt_5, xkt_6, xkt_7, xkt_8, xkt_9, xkt_10, xkt_11, xkt_12, xkt_13, xkt_14, xkt_16, xkt_20, xkt_24, xkt_31, xkt_32, xkt_40, xkt_44, xkt_47, xkt_48, xkt_57, xkt_59, xkt_60, xkt_63, xkt_64, xkt_65, xkt_72, xkt_95, xkt_99, xkt_100, xkt_101, xkt_103, xkt_110, xkt_112, xkt_113, xkt_114, xkt_119, xkt_126, xkt_159, xkt_576, xkt_999, xkt_9999, xkt_65536, xkt_999999, xkt_m1, xkt_m2, xkt_m3, xkt_m4, xkt_m11, xkt_m12, xkt_m13, xkt_m14, xkt_m20, xjt_0, xjt_1, xjt_2, xjt_3, xjt_4, xjt_5, xjt_6, xjt_7, xjt_8, xjt_9, xjt_10, xjt_11, xjt_12, xjt_13, xjt_14, xjt_16, xjt_20, xjt_24, xjt_31, xjt_32, xjt_40, xjt_44, xjt_47, xjt_48, xjt_57, xjt_59, xjt_60, xjt_63, xjt_64, xjt_65, xjt_72, xjt_95, xjt_99, xjt_100, xjt_101, xjt_103, xjt_110, xjt_112, xjt_113, xjt_114, xjt_119, xjt_126, xjt_159, xjt_576, xjt_999, xjt_9999, xjt_65536, xjt_999999, xt64, xt_n, not_true_eq_false, not_false_eq_true, Classical.not_not] at c_53 c_92 c_111 c_125
                           all_goals omega))
                         refine xw_cong ?_ rfl rfl (ih _ ⟨by omega, J1, rfl, gm, by rw [gq 68 (by decide) (by decide) (by decide)]; exact j2, by rw [gq 67 (by decide) (by decide) (by decide)]; exact j3, by rw [gq 60 (by decide) (by decide) (by decide)]; exact j4, g5⟩)
                         rw [hy, nI_1])
                  · skip
                    refine xw_go xb_156 5 (f1 := (47, [.ref 60, .int (nI s), .int (nI n), .int (nI t), .int (nI c), .int (nI (xtf N s n c)), .int ((nI c) + 1), .int (nI (xtf N s n c)), .int 1], [])) (h1 := (xS b, J1, L, xP b)) rfl trivial ?_
                    refine xw_fg (l0 := [.ref 60, .int (nI s), .int (nI n), .int (nI t), .int (nI c), .int (nI (xtf N s n c)), .int ((nI c) + 1), .float 0, .float 0]) ⟨Or.inr rfl, Or.inr rfl, Or.inr rfl, Or.inr rfl, Or.inr rfl, Or.inr rfl, Or.inr rfl, Or.inl rfl, Or.inl rfl, trivial⟩ ?_
                    first
                      | (exfalso
                         try simp only [xB_dec, Classical.not_not] at c_53 c_92 c_111 c_125
                         try simp (disch := omega) only [xt_eq, xt_lt, xt_le, xkt_0, xkt_1, xkt_2, xkt_3, xkt_4, xkt_5, xkt_6, xkt_7, xkt_8, xkt_9, xkt_10, xkt_11, xkt_12, xkt_13, xkt_14, xkt_16, xkt_20, xkt_24, xkt_31, xkt_32, xkt_40, xkt_44, xkt_47, xkt_48, xkt_57, xkt_59, xkt_60, xkt_63, xkt_64, xkt_65, xkt_72, xkt_95, xkt_99, xkt_100, xkt_101, xkt_103, xkt_110, xkt_112, xkt_113, xkt_114, xkt_119, xkt_126, xkt_159, xkt_576, xkt_999, xkt_9999, xkt_65536, xkt_999999, xkt_m1, xkt_m2, xkt_m3, xkt_m4, xkt_m11, xkt_m12, xkt_m13, xkt_m14, xkt_m20, xjt_0, xjt_1, xjt_2, xjt_3, xjt_4, xjt_5, xjt_6, xjt_7, xjt_8, xjt_9, xjt_10, xjt_11, xjt_12, xjt_13, xjt_14, xjt_16, xjt_20, xjt_24, xjt_31, xjt_32, xjt_40, xjt_44, xjt_47, xjt_48, xjt_57, xjt_59, xjt_60, xjt_63, xjt_64, xjt_65, xjt_72, xjt_95, xjt_99, xjt_100, xjt_101, xjt_103, xjt_110, xjt_112, xjt_113, xjt_114, xjt_119, xjt_126, xjt_159, xjt_576, xjt_999, xjt_9999, xjt_65536, xjt_999999, xt64, xt_n, not_true_eq_false, not_false_eq_true, Classical.not_not] at c_53 c_92 c_111 c_125
                         all_goals omega)
                      | (have hy : (xbt (fun _ => true) (xtf N s n) (fun _ _ => false) (c + 1)) = (xtf N s n c, c) := xbt_y rfl (Or.inl (by
                           try simp only [xB_dec, Classical.not_not] at c_53 c_92 c_111 c_125
                           try simp (disch := omega) only [xt_eq, xt_lt, xt_le, xkt_0, xkt_1, xkt_2, xkt_3, xkt_4, xkt_5, xkt_6, xkt_7, xkt_8, xkt_9, xkt_10, xkt_11, xkt_12, xkt_13, xkt_14, xkt_16, xkt_20, xkt_24, xkt_31, xkt_32, xkt_40, xkt_44, xkt_47, xkt_48, xkt_57, xkt_59, xkt_60, xkt_63, xkt_64, xkt_65, xkt_72, xkt_95, xkt_99, xkt_100, xkt_101, xkt_103, xkt_110, xkt_112, xkt_113, xkt_114, xkt_119, xkt_126, xkt_159, xkt_576, xkt_999, xkt_9999, xkt_65536, xkt_999999, xkt_m1, xkt_m2, xkt_m3, xkt_m4, xkt_m11, xkt_m12, xkt_m13, xkt_m14, xkt_m20, xjt_0, xjt_1, xjt_2, xjt_3, xjt_4, xjt_5, xjt_6, xjt_7, xjt_8, xjt_9, xjt_10, xjt_11, xjt_12, xjt_13, xjt_14, xjt_16, xjt_20, xjt_24, xjt_31, xjt_32, xjt_40, xjt_44, xjt_47, xjt_48, xjt_57, xjt_59, xjt_60, xjt_63, xjt_64, xjt_65, xjt_72, xjt_95, xjt_99, xjt_100, xjt_101, xjt_103, xjt_110, xjt_112, xjt_113, xjt_114, xjt_119, xjt_126, xjt_159, xjt_576, xjt_999, xjt_9999, xjt_65536, xjt_999999, xt64, xt_n, not_true_eq_false, not_false_eq_true, Classical.not_not] at c_53 c_92 c_111 c_125
                           all_goals omega))
                         refine xw_cong ?_ rfl rfl (ih _ ⟨by omega, J1, rfl, gm, by rw [gq 68 (by decide) (by decide) (by decide)]; exact j2, by rw [gq 67 (by decide) (by decide) (by decide)]; exact j3, by rw [gq 60 (by decide) (by decide) (by decide)]; exact j4, g5⟩)
                         rw [hy, nI_1])
              · skip
                refine xw_go xb_156 3 (f1 := (if (nI (xbt (fun _ => true) (xtf N s n) (fun _ _ => false) c).1) ≤ (nI (xtf N s n c)) then 106 else 102, [.ref 60, .int (nI s), .int (nI n), .int (nI t), .int (nI (xbt (fun _ => true) (xtf N s n) (fun _ _ => false) c).2), .int (nI (xbt (fun _ => true) (xtf N s n) (fun _ _ => false) c).1), .int (nI c), .int (nI (xtf N s n c)), .float 0], [])) (h1 := (xS b, J1, L, xP b)) rfl trivial ?_
                refine xw_if (fun c_99 => ?_) (fun c_99 => ?_)
                · skip
                  refine xw_go xb_156 4 (f1 := (if 0 = 0 then 119 else 114, [.ref 60, .int (nI s), .int (nI n), .int (nI t), .int (nI (xbt (fun _ => true) (xtf N s n) (fun _ _ => false) c).2), .int (nI (xbt (fun _ => true) (xtf N s n) (fun _ _ => false) c).1), .int (nI c), .int (nI (xtf N s n c)), .int 0], [])) (h1 := (xS b, J1, L, xP b)) rfl trivial ?_
                  refine xw_if (fun c_111 => ?_) (fun c_111 => ?_)
                  · skip
                    refine xw_go xb_156 4 (f1 := (if 0 = 0 then 133 else 128, [.ref 60, .int (nI s), .int (nI n), .int (nI t), .int (nI (xbt (fun _ => true) (xtf N s n) (fun _ _ => false) c).2), .int (nI (xbt (fun _ => true) (xtf N s n) (fun _ _ => false) c).1), .int (nI c), .int (nI (xtf N s n c)), .int 0], [])) (h1 := (xS b, J1, L, xP b)) rfl trivial ?_
                    refine xw_if (fun c_125 => ?_) (fun c_125 => ?_)
                    · skip
                      refine xw_go xb_156 4 (f1 := (47, [.ref 60, .int (nI s), .int (nI n), .int (nI t), .int (nI (xbt (fun _ => true) (xtf N s n) (fun _ _ => false) c).2), .int (nI (xbt (fun _ => true) (xtf N s n) (fun _ _ => false) c).1), .int ((nI c) + 1), .int (nI (xtf N s n c)), .int 0], [])) (h1 := (xS b, J1, L, xP b)) rfl trivial ?_
                      refine xw_fg (l0 := [.ref 60, .int (nI s), .int (nI n), .int (nI t), .int (nI (xbt (fun _ => true) (xtf N s n) (fun _ _ => false) c).2), .int (nI (xbt (fun _ => true) (xtf N s n) (fun _ _ => false) c).1), .int ((nI c) + 1), .float 0, .float 0]) ⟨Or.inr rfl, Or.inr rfl, Or.inr rfl, Or.inr rfl, Or.inr rfl, Or.inr rfl, Or.inr rfl, Or.inl rfl, Or.inl rfl, trivial⟩ ?_
                      first
                        | (exfalso
                           try simp only [xB_dec, Classical.not_not] at c_53 c_92 c_99 c_111 c_125
                           try simp (disch := omega) only [xt_eq, xt_lt, xt_le, xkt_0, xkt_1, xkt_2, xkt_3, xkt_4, xkt_5, xkt_6, xkt_7, xkt_8, xkt_9, xkt_10, xkt_11, xkt_12, xkt_13, xkt_14, xkt_16, xkt_20, xkt_24, xkt_31, xkt_32, xkt_40, xkt_44, xkt_47, xkt_48, xkt_57, xkt_59, xkt_60, xkt_63, xkt_64, xkt_65, xkt_72, xkt_95, xkt_99, xkt_100, xkt_101, xkt_103, xkt_110, xkt_112, xkt_113, xkt_114, xkt_119, xkt_126, xkt_159, xkt_576, xkt_999, xkt_9999, xkt_65536, xkt_999999, xkt_m1, xkt_m2, xkt_m3, xkt_m4, xkt_m11, xkt_m12, xkt_m13, xkt_m14, xkt_m20, xjt_0, xjt_1, xjt_2, xjt_3, xjt_4, xjt_5, xjt_6, xjt_7, xjt_8, xjt_9, xjt_10, xjt_11, xjt_12, xjt_13, xjt_14, xjt_16, xjt_20, xjt_24, xjt_31, xjt_32, xjt_40, xjt_44, xjt_47, xjt_48, xjt_57, xjt_59, xjt_60, xjt_63, xjt_64, xjt_65, xjt_72, xjt_95, xjt_99, xjt_100, xjt_101, xjt_103, xjt_110, xjt_112, xjt_113, xjt_114, xjt_119, xjt_126, xjt_159, xjt_576, xjt_999, xjt_9999, xjt_65536, xjt_999999, xt64, xt_n, not_true_eq_false, not_false_eq_true, Classical.not_not] at c_53 c_92 c_99 c_111 c_125
                           all_goals omega)
                        | (have hy : (xbt (fun _ => true) (xtf N s n) (fun _ _ => false) (c + 1)) = (xbt (fun _ => true) (xtf N s n) (fun _ _ => false) c) := xbt_n (Or.inr ⟨by
                             try simp only [xB_dec, Classical.not_not] at c_53 c_92 c_99 c_111 c_125
                             try simp (disch := omega) only [xt_eq, xt_lt, xt_le, xkt_0, xkt_1, xkt_2, xkt_3, xkt_4, xkt_5, xkt_6, xkt_7, xkt_8, xkt_9, xkt_10, xkt_11, xkt_12, xkt_13, xkt_14, xkt_16, xkt_20, xkt_24, xkt_31, xkt_32, xkt_40, xkt_44, xkt_47, xkt_48, xkt_57, xkt_59, xkt_60, xkt_63, xkt_64, xkt_65, xkt_72, xkt_95, xkt_99, xkt_100, xkt_101, xkt_103, xkt_110, xkt_112, xkt_113, xkt_114, xkt_119, xkt_126, xkt_159, xkt_576, xkt_999, xkt_9999, xkt_65536, xkt_999999, xkt_m1, xkt_m2, xkt_m3, xkt_m4, xkt_m11, xkt_m12, xkt_m13, xkt_m14, xkt_m20, xjt_0, xjt_1, xjt_2, xjt_3, xjt_4, xjt_5, xjt_6, xjt_7, xjt_8, xjt_9, xjt_10, xjt_11, xjt_12, xjt_13, xjt_14, xjt_16, xjt_20, xjt_24, xjt_31, xjt_32, xjt_40, xjt_44, xjt_47, xjt_48, xjt_57, xjt_59, xjt_60, xjt_63, xjt_64, xjt_65, xjt_72, xjt_95, xjt_99, xjt_100, xjt_101, xjt_103, xjt_110, xjt_112, xjt_113, xjt_114, xjt_119, xjt_126, xjt_159, xjt_576, xjt_999, xjt_9999, xjt_65536, xjt_999999, xt64, xt_n, not_true_eq_false, not_false_eq_true, Classical.not_not] at c_53 c_92 c_99 c_111 c_125
                             all_goals omega, Or.inr rfl⟩)
                           refine xw_cong ?_ rfl rfl (ih _ ⟨by omega, J1, rfl, gm, by rw [gq 68 (by decide) (by decide) (by decide)]; exact j2, by rw [gq 67 (by decide) (by decide) (by decide)]; exact j3, by rw [gq 60 (by decide) (by decide) (by decide)]; exact j4, g5⟩)
                           rw [hy, nI_1])
                    · skip
                      refine xw_go xb_156 5 (f1 := (47, [.ref 60, .int (nI s), .int (nI n), .int (nI t), .int (nI (xbt (fun _ => true) (xtf N s n) (fun _ _ => false) c).2), .int (nI (xtf N s n c)), .int ((nI c) + 1), .int (nI (xtf N s n c)), .int 0], [])) (h1 := (xS b, J1, L, xP b)) rfl trivial ?_
                      refine xw_fg (l0 := [.ref 60, .int (nI s), .int (nI n), .int (nI t), .int (nI (xbt (fun _ => true) (xtf N s n) (fun _ _ => false) c).2), .int (nI (xtf N s n c)), .int ((nI c) + 1), .float 0, .float 0]) ⟨Or.inr rfl, Or.inr rfl, Or.inr rfl, Or.inr rfl, Or.inr rfl, Or.inr rfl, Or.inr rfl, Or.inl rfl, Or.inl rfl, trivial⟩ ?_
                      first
                        | (exfalso
                           try simp only [xB_dec, Classical.not_not] at c_53 c_92 c_99 c_111 c_125
                           try simp (disch := omega) only [xt_eq, xt_lt, xt_le, xkt_0, xkt_1, xkt_2, xkt_3, xkt_4, xkt_5, xkt_6, xkt_7, xkt_8, xkt_9, xkt_10, xkt_11, xkt_12, xkt_13, xkt_14, xkt_16, xkt_20, xkt_24, xkt_31, xkt_32, xkt_40, xkt_44, xkt_47, xkt_48, xkt_57, xkt_59, xkt_60, xkt_63, xkt_64, xkt_65, xkt_72, xkt_95, xkt_99, xkt_100, xkt_101, xkt_103, xkt_110, xkt_112, xkt_113, xkt_114, xkt_119, xkt_126, xkt_159, xkt_576, xkt_999, xkt_9999, xkt_65536, xkt_999999, xkt_m1, xkt_m2, xkt_m3, xkt_m4, xkt_m11, xkt_m12, xkt_m13, xkt_m14, xkt_m20, xjt_0, xjt_1, xjt_2, xjt_3, xjt_4, xjt_5, xjt_6, xjt_7, xjt_8, xjt_9, xjt_10, xjt_11, xjt_12, xjt_13, xjt_14, xjt_16, xjt_20, xjt_24, xjt_31, xjt_32, xjt_40, xjt_44, xjt_47, xjt_48, xjt_57, xjt_59, xjt_60, xjt_63, xjt_64, xjt_65, xjt_72, xjt_95, xjt_99, xjt_100, xjt_101, xjt_103, xjt_110, xjt_112, xjt_113, xjt_114, xjt_119, xjt_126, xjt_159, xjt_576, xjt_999, xjt_9999, xjt_65536, xjt_999999, xt64, xt_n, not_true_eq_false, not_false_eq_true, Classical.not_not] at c_53 c_92 c_99 c_111 c_125
                           all_goals omega)
                        | (have hy : (xbt (fun _ => true) (xtf N s n) (fun _ _ => false) (c + 1)) = (xbt (fun _ => true) (xtf N s n) (fun _ _ => false) c) := xbt_n (Or.inr ⟨by
                             try simp only [xB_dec, Classical.not_not] at c_53 c_92 c_99 c_111 c_125
                             try simp (disch := omega) only [xt_eq, xt_lt, xt_le, xkt_0, xkt_1, xkt_2, xkt_3, xkt_4, xkt_5, xkt_6, xkt_7, xkt_8, xkt_9, xkt_10, xkt_11, xkt_12, xkt_13, xkt_14, xkt_16, xkt_20, xkt_24, xkt_31, xkt_32, xkt_40, xkt_44, xkt_47, xkt_48, xkt_57, xkt_59, xkt_60, xkt_63, xkt_64, xkt_65, xkt_72, xkt_95, xkt_99, xkt_100, xkt_101, xkt_103, xkt_110, xkt_112, xkt_113, xkt_114, xkt_119, xkt_126, xkt_159, xkt_576, xkt_999, xkt_9999, xkt_65536, xkt_999999, xkt_m1, xkt_m2, xkt_m3, xkt_m4, xkt_m11, xkt_m12, xkt_m13, xkt_m14, xkt_m20, xjt_0, xjt_1, xjt_2, xjt_3, xjt_4, xjt_5, xjt_6, xjt_7, xjt_8, xjt_9, xjt_10, xjt_11, xjt_12, xjt_13, xjt_14, xjt_16, xjt_20, xjt_24, xjt_31, xjt_32, xjt_40, xjt_44, xjt_47, xjt_48, xjt_57, xjt_59, xjt_60, xjt_63, xjt_64, xjt_65, xjt_72, xjt_95, xjt_99, xjt_100, xjt_101, xjt_103, xjt_110, xjt_112, xjt_113, xjt_114, xjt_119, xjt_126, xjt_159, xjt_576, xjt_999, xjt_9999, xjt_65536, xjt_999999, xt64, xt_n, not_true_eq_false, not_false_eq_true, Classical.not_not] at c_53 c_92 c_99 c_111 c_125
                             all_goals omega, Or.inr rfl⟩)
                           refine xw_cong ?_ rfl rfl (ih _ ⟨by omega, J1, rfl, gm, by rw [gq 68 (by decide) (by decide) (by decide)]; exact j2, by rw [gq 67 (by decide) (by decide) (by decide)]; exact j3, by rw [gq 60 (by decide) (by decide) (by decide)]; exact j4, g5⟩)
                           rw [hy, nI_1])
                  · skip
                    refine xw_go xb_156 5 (f1 := (if 0 = 0 then 133 else 128, [.ref 60, .int (nI s), .int (nI n), .int (nI t), .int (nI c), .int (nI (xbt (fun _ => true) (xtf N s n) (fun _ _ => false) c).1), .int (nI c), .int (nI (xtf N s n c)), .int 0], [])) (h1 := (xS b, J1, L, xP b)) rfl trivial ?_
                    refine xw_if (fun c_125 => ?_) (fun c_125 => ?_)
                    · skip
                      refine xw_go xb_156 4 (f1 := (47, [.ref 60, .int (nI s), .int (nI n), .int (nI t), .int (nI c), .int (nI (xbt (fun _ => true) (xtf N s n) (fun _ _ => false) c).1), .int ((nI c) + 1), .int (nI (xtf N s n c)), .int 0], [])) (h1 := (xS b, J1, L, xP b)) rfl trivial ?_
                      refine xw_fg (l0 := [.ref 60, .int (nI s), .int (nI n), .int (nI t), .int (nI c), .int (nI (xbt (fun _ => true) (xtf N s n) (fun _ _ => false) c).1), .int ((nI c) + 1), .float 0, .float 0]) ⟨Or.inr rfl, Or.inr rfl, Or.inr rfl, Or.inr rfl, Or.inr rfl, Or.inr rfl, Or.inr rfl, Or.inl rfl, Or.inl rfl, trivial⟩ ?_
                      first
                        | (exfalso
                           try simp only [xB_dec, Classical.not_not] at c_53 c_92 c_99 c_111 c_125
                           try simp (disch := omega) only [xt_eq, xt_lt, xt_le, xkt_0, xkt_1, xkt_2, xkt_3, xkt_4, xkt_5, xkt_6, xkt_7, xkt_8, xkt_9, xkt_10, xkt_11, xkt_12, xkt_13, xkt_14, xkt_16, xkt_20, xkt_24, xkt_31, xkt_32, xkt_40, xkt_44, xkt_47, xkt_48, xkt_57, xkt_59, xkt_60, xkt_63, xkt_64, xkt_65, xkt_72, xkt_95, xkt_99, xkt_100, xkt_101, xkt_103, xkt_110, xkt_112, xkt_113, xkt_114, xkt_119, xkt_126, xkt_159, xkt_576, xkt_999, xkt_9999, xkt_65536, xkt_999999, xkt_m1, xkt_m2, xkt_m3, xkt_m4, xkt_m11, xkt_m12, xkt_m13, xkt_m14, xkt_m20, xjt_0, xjt_1, xjt_2, xjt_3, xjt_4, xjt_5, xjt_6, xjt_7, xjt_8, xjt_9, xjt_10, xjt_11, xjt_12, xjt_13, xjt_14, xjt_16, xjt_20, xjt_24, xjt_31, xjt_32, xjt_40, xjt_44, xjt_47, xjt_48, xjt_57, xjt_59, xjt_60, xjt_63, xjt_64, xjt_65, xjt_72, xjt_95, xjt_99, xjt_100, xjt_101, xjt_103, xjt_110, xjt_112, xjt_113, xjt_114, xjt_119, xjt_126, xjt_159, xjt_576, xjt_999, xjt_9999, xjt_65536, xjt_999999, xt64, xt_n, not_true_eq_false, not_false_eq_true, Classical.not_not] at c_53 c_92 c_99 c_111 c_125
                           all_goals omega)
                        | (have hy : (xbt (fun _ => true) (xtf N s n) (fun _ _ => false) (c + 1)) = (xtf N s n c, c) := xbt_y rfl (Or.inl (by
                             try simp only [xB_dec, Classical.not_not] at c_53 c_92 c_99 c_111 c_125
                             try simp (disch := omega) only [xt_eq, xt_lt, xt_le, xkt_0, xkt_1, xkt_2, xkt_3, xkt_4, xkt_5, xkt_6, xkt_7, xkt_8, xkt_9, xkt_10, xkt_11, xkt_12, xkt_13, xkt_14, xkt_16, xkt_20, xkt_24, xkt_31, xkt_32, xkt_40, xkt_44, xkt_47, xkt_48, xkt_57, xkt_59, xkt_60, xkt_63, xkt_64, xkt_65, xkt_72, xkt_95, xkt_99, xkt_100, xkt_101, xkt_103, xkt_110, xkt_112, xkt_113, xkt_114, xkt_119, xkt_126, xkt_159, xkt_576, xkt_999, xkt_9999, xkt_65536, xkt_999999, xkt_m1, xkt_m2, xkt_m3, xkt_m4, xkt_m11, xkt_m12, xkt_m13, xkt_m14, xkt_m20, xjt_0, xjt_1, xjt_2, xjt_3, xjt_4, xjt_5, xjt_6, xjt_7, xjt_8, xjt_9, xjt_10, xjt_11, xjt_12, xjt_13, xjt_14, xjt_16, xjt_20, xjt_24, xjt_31, xjt_32, xjt_40, xjt_44, xjt_47, xjt_48, xjt_57, xjt_59, xjt_60, xjt_63, xjt_64, xjt_65, xjt_72, xjt_95, xjt_99, xjt_100, xjt_101, xjt_103, xjt_110, xjt_112, xjt_113, xjt_114, xjt_119, xjt_126, xjt_159, xjt_576, xjt_999, xjt_9999, xjt_65536, xjt_999999, xt64, xt_n, not_true_eq_false, not_false_eq_true, Classical.not_not] at c_53 c_92 c_99 c_111 c_125
                             all_goals omega))
                           refine xw_cong ?_ rfl rfl (ih _ ⟨by omega, J1, rfl, gm, by rw [gq 68 (by decide) (by decide) (by decide)]; exact j2, by rw [gq 67 (by decide) (by decide) (by decide)]; exact j3, by rw [gq 60 (by decide) (by decide) (by decide)]; exact j4, g5⟩)
                           rw [hy, nI_1])
                    · skip
                      refine xw_go xb_156 5 (f1 := (47, [.ref 60, .int (nI s), .int (nI n), .int (nI t), .int (nI c), .int (nI (xtf N s n c)), .int ((nI c) + 1), .int (nI (xtf N s n c)), .int 0], [])) (h1 := (xS b, J1, L, xP b)) rfl trivial ?_
                      refine xw_fg (l0 := [.ref 60, .int (nI s), .int (nI n), .int (nI t), .int (nI c), .int (nI (xtf N s n c)), .int ((nI c) + 1), .float 0, .float 0]) ⟨Or.inr rfl, Or.inr rfl, Or.inr rfl, Or.inr rfl, Or.inr rfl, Or.inr rfl, Or.inr rfl, Or.inl rfl, Or.inl rfl, trivial⟩ ?_
                      first
                        | (exfalso
                           try simp only [xB_dec, Classical.not_not] at c_53 c_92 c_99 c_111 c_125
                           try simp (disch := omega) only [xt_eq, xt_lt, xt_le, xkt_0, xkt_1, xkt_2, xkt_3, xkt_4, xkt_5, xkt_6, xkt_7, xkt_8, xkt_9, xkt_10, xkt_11, xkt_12, xkt_13, xkt_14, xkt_16, xkt_20, xkt_24, xkt_31, xkt_32, xkt_40, xkt_44, xkt_47, xkt_48, xkt_57, xkt_59, xkt_60, xkt_63, xkt_64, xkt_65, xkt_72, xkt_95, xkt_99, xkt_100, xkt_101, xkt_103, xkt_110, xkt_112, xkt_113, xkt_114, xkt_119, xkt_126, xkt_159, xkt_576, xkt_999, xkt_9999, xkt_65536, xkt_999999, xkt_m1, xkt_m2, xkt_m3, xkt_m4, xkt_m11, xkt_m12, xkt_m13, xkt_m14, xkt_m20, xjt_0, xjt_1, xjt_2, xjt_3, xjt_4, xjt_5, xjt_6, xjt_7, xjt_8, xjt_9, xjt_10, xjt_11, xjt_12, xjt_13, xjt_14, xjt_16, xjt_20, xjt_24, xjt_31, xjt_32, xjt_40, xjt_44, xjt_47, xjt_48, xjt_57, xjt_59, xjt_60, xjt_63, xjt_64, xjt_65, xjt_72, xjt_95, xjt_99, xjt_100, xjt_101, xjt_103, xjt_110, xjt_112, xjt_113, xjt_114, xjt_119, xjt_126, xjt_159, xjt_576, xjt_999, xjt_9999, xjt_65536, xjt_999999, xt64, xt_n, not_true_eq_false, not_false_eq_true, Classical.not_not] at c_53 c_92 c_99 c_111 c_125
                           all_goals omega)
                        | (have hy : (xbt (fun _ => true) (xtf N s n) (fun _ _ => false) (c + 1)) = (xtf N s n c, c) := xbt_y rfl (Or.inl (by
                             try simp only [xB_dec, Classical.not_not] at c_53 c_92 c_99 c_111 c_125
                             try simp (disch := omega) only [xt_eq, xt_lt, xt_le, xkt_0, xkt_1, xkt_2, xkt_3, xkt_4, xkt_5, xkt_6, xkt_7, xkt_8, xkt_9, xkt_10, xkt_11, xkt_12, xkt_13, xkt_14, xkt_16, xkt_20, xkt_24, xkt_31, xkt_32, xkt_40, xkt_44, xkt_47, xkt_48, xkt_57, xkt_59, xkt_60, xkt_63, xkt_64, xkt_65, xkt_72, xkt_95, xkt_99, xkt_100, xkt_101, xkt_103, xkt_110, xkt_112, xkt_113, xkt_114, xkt_119, xkt_126, xkt_159, xkt_576, xkt_999, xkt_9999, xkt_65536, xkt_999999, xkt_m1, xkt_m2, xkt_m3, xkt_m4, xkt_m11, xkt_m12, xkt_m13, xkt_m14, xkt_m20, xjt_0, xjt_1, xjt_2, xjt_3, xjt_4, xjt_5, xjt_6, xjt_7, xjt_8, xjt_9, xjt_10, xjt_11, xjt_12, xjt_13, xjt_14, xjt_16, xjt_20, xjt_24, xjt_31, xjt_32, xjt_40, xjt_44, xjt_47, xjt_48, xjt_57, xjt_59, xjt_60, xjt_63, xjt_64, xjt_65, xjt_72, xjt_95, xjt_99, xjt_100, xjt_101, xjt_103, xjt_110, xjt_112, xjt_113, xjt_114, xjt_119, xjt_126, xjt_159, xjt_576, xjt_999, xjt_9999, xjt_65536, xjt_999999, xt64, xt_n, not_true_eq_false, not_false_eq_true, Classical.not_not] at c_53 c_92 c_99 c_111 c_125
                             all_goals omega))
                           refine xw_cong ?_ rfl rfl (ih _ ⟨by omega, J1, rfl, gm, by rw [gq 68 (by decide) (by decide) (by decide)]; exact j2, by rw [gq 67 (by decide) (by decide) (by decide)]; exact j3, by rw [gq 60 (by decide) (by decide) (by decide)]; exact j4, g5⟩)
                           rw [hy, nI_1])
                · skip
                  refine xw_go xb_156 5 (f1 := (if 1 = 0 then 119 else 114, [.ref 60, .int (nI s), .int (nI n), .int (nI t), .int (nI (xbt (fun _ => true) (xtf N s n) (fun _ _ => false) c).2), .int (nI (xbt (fun _ => true) (xtf N s n) (fun _ _ => false) c).1), .int (nI c), .int (nI (xtf N s n c)), .int 1], [])) (h1 := (xS b, J1, L, xP b)) rfl trivial ?_
                  refine xw_if (fun c_111 => ?_) (fun c_111 => ?_)
                  · skip
                    refine xw_go xb_156 4 (f1 := (if 1 = 0 then 133 else 128, [.ref 60, .int (nI s), .int (nI n), .int (nI t), .int (nI (xbt (fun _ => true) (xtf N s n) (fun _ _ => false) c).2), .int (nI (xbt (fun _ => true) (xtf N s n) (fun _ _ => false) c).1), .int (nI c), .int (nI (xtf N s n c)), .int 1], [])) (h1 := (xS b, J1, L, xP b)) rfl trivial ?_
                    refine xw_if (fun c_125 => ?_) (fun c_125 => ?_)
                    · skip
                      refine xw_go xb_156 4 (f1 := (47, [.ref 60, .int (nI s), .int (nI n), .int (nI t), .int (nI (xbt (fun _ => true) (xtf N s n) (fun _ _ => false) c).2), .int (nI (xbt (fun _ => true) (xtf N s n) (fun _ _ => false) c).1), .int ((nI c) + 1), .int (nI (xtf N s n c)), .int 1], [])) (h1 := (xS b, J1, L, xP b)) rfl trivial ?_
                      refine xw_fg (l0 := [.ref 60, .int (nI s), .int (nI n), .int (nI t), .int (nI (xbt (fun _ => true) (xtf N s n) (fun _ _ => false) c).2), .int (nI (xbt (fun _ => true) (xtf N s n) (fun _ _ => false) c).1), .int ((nI c) + 1), .float 0, .float 0]) ⟨Or.inr rfl, Or.inr rfl, Or.inr rfl, Or.inr rfl, Or.inr rfl, Or.inr rfl, Or.inr rfl, Or.inl rfl, Or.inl rfl, trivial⟩ ?_
                      first
                        | (exfalso
                           try simp only [xB_dec, Classical.not_not] at c_53 c_92 c_99 c_111 c_125
                           try simp (disch := omega) only [xt_eq, xt_lt, xt_le, xkt_0, xkt_1, xkt_2, xkt_3, xkt_4, xkt_5, xkt_6, xkt_7, xkt_8, xkt_9, xkt_10, xkt_11, xkt_12, xkt_13, xkt_14, xkt_16, xkt_20, xkt_24, xkt_31, xkt_32, xkt_40, xkt_44, xkt_47, xkt_48, xkt_57, xkt_59, xkt_60, xkt_63, xkt_64, xkt_65, xkt_72, xkt_95, xkt_99, xkt_100, xkt_101, xkt_103, xkt_110, xkt_112, xkt_113, xkt_114, xkt_119, xkt_126, xkt_159, xkt_576, xkt_999, xkt_9999, xkt_65536, xkt_999999, xkt_m1, xkt_m2, xkt_m3, xkt_m4, xkt_m11, xkt_m12, xkt_m13, xkt_m14, xkt_m20, xjt_0, xjt_1, xjt_2, xjt_3, xjt_4, xjt_5, xjt_6, xjt_7, xjt_8, xjt_9, xjt_10, xjt_11, xjt_12, xjt_13, xjt_14, xjt_16, xjt_20, xjt_24, xjt_31, xjt_32, xjt_40, xjt_44, xjt_47, xjt_48, xjt_57, xjt_59, xjt_60, xjt_63, xjt_64, xjt_65, xjt_72, xjt_95, xjt_99, xjt_100, xjt_101, xjt_103, xjt_110, xjt_112, xjt_113, xjt_114, xjt_119, xjt_126, xjt_159, xjt_576, xjt_999, xjt_9999, xjt_65536, xjt_999999, xt64, xt_n, not_true_eq_false, not_false_eq_true, Classical.not_not] at c_53 c_92 c_99 c_111 c_125
                           all_goals omega)
                        | (have hy : (xbt (fun _ => true) (xtf N s n) (fun _ _ => false) (c + 1)) = (xbt (fun _ => true) (xtf N s n) (fun _ _ => false) c) := xbt_n (Or.inr ⟨by
                             try simp only [xB_dec, Classical.not_not] at c_53 c_92 c_99 c_111 c_125
                             try simp (disch := omega) only [xt_eq, xt_lt, xt_le, xkt_0, xkt_1, xkt_2, xkt_3, xkt_4, xkt_5, xkt_6, xkt_7, xkt_8, xkt_9, xkt_10, xkt_11, xkt_12, xkt_13, xkt_14, xkt_16, xkt_20, xkt_24, xkt_31, xkt_32, xkt_40, xkt_44, xkt_47, xkt_48, xkt_57, xkt_59, xkt_60, xkt_63, xkt_64, xkt_65, xkt_72, xkt_95, xkt_99, xkt_100, xkt_101, xkt_103, xkt_110, xkt_112, xkt_113, xkt_114, xkt_119, xkt_126, xkt_159, xkt_576, xkt_999, xkt_9999, xkt_65536, xkt_999999, xkt_m1, xkt_m2, xkt_m3, xkt_m4, xkt_m11, xkt_m12, xkt_m13, xkt_m14, xkt_m20, xjt_0, xjt_1, xjt_2, xjt_3, xjt_4, xjt_5, xjt_6, xjt_7, xjt_8, xjt_9, xjt_10, xjt_11, xjt_12, xjt_13, xjt_14, xjt_16, xjt_20, xjt_24, xjt_31, xjt_32, xjt_40, xjt_44, xjt_47, xjt_48, xjt_57, xjt_59, xjt_60, xjt_63, xjt_64, xjt_65, xjt_72, xjt_95, xjt_99, xjt_100, xjt_101, xjt_103, xjt_110, xjt_112, xjt_113, xjt_114, xjt_119, xjt_126, xjt_159, xjt_576, xjt_999, xjt_9999, xjt_65536, xjt_999999, xt64, xt_n, not_true_eq_false, not_false_eq_true, Classical.not_not] at c_53 c_92 c_99 c_111 c_125
                             all_goals omega, Or.inr rfl⟩)
                           refine xw_cong ?_ rfl rfl (ih _ ⟨by omega, J1, rfl, gm, by rw [gq 68 (by decide) (by decide) (by decide)]; exact j2, by rw [gq 67 (by decide) (by decide) (by decide)]; exact j3, by rw [gq 60 (by decide) (by decide) (by decide)]; exact j4, g5⟩)
                           rw [hy, nI_1])
                    · skip
                      refine xw_go xb_156 5 (f1 := (47, [.ref 60, .int (nI s), .int (nI n), .int (nI t), .int (nI (xbt (fun _ => true) (xtf N s n) (fun _ _ => false) c).2), .int (nI (xtf N s n c)), .int ((nI c) + 1), .int (nI (xtf N s n c)), .int 1], [])) (h1 := (xS b, J1, L, xP b)) rfl trivial ?_
                      refine xw_fg (l0 := [.ref 60, .int (nI s), .int (nI n), .int (nI t), .int (nI (xbt (fun _ => true) (xtf N s n) (fun _ _ => false) c).2), .int (nI (xtf N s n c)), .int ((nI c) + 1), .float 0, .float 0]) ⟨Or.inr rfl, Or.inr rfl, Or.inr rfl, Or.inr rfl, Or.inr rfl, Or.inr rfl, Or.inr rfl, Or.inl rfl, Or.inl rfl, trivial⟩ ?_
                      first
                        | (exfalso
                           try simp only [xB_dec, Classical.not_not] at c_53 c_92 c_99 c_111 c_125
                           try simp (disch := omega) only [xt_eq, xt_lt, xt_le, xkt_0, xkt_1, xkt_2, xkt_3, xkt_4, xkt_5, xkt_6, xkt_7, xkt_8, xkt_9, xkt_10, xkt_11, xkt_12, xkt_13, xkt_14, xkt_16, xkt_20, xkt_24, xkt_31, xkt_32, xkt_40, xkt_44, xkt_47, xkt_48, xkt_57, xkt_59, xkt_60, xkt_63, xkt_64, xkt_65, xkt_72, xkt_95, xkt_99, xkt_100, xkt_101, xkt_103, xkt_110, xkt_112, xkt_113, xkt_114, xkt_119, xkt_126, xkt_159, xkt_576, xkt_999, xkt_9999, xkt_65536, xkt_999999, xkt_m1, xkt_m2, xkt_m3, xkt_m4, xkt_m11, xkt_m12, xkt_m13, xkt_m14, xkt_m20, xjt_0, xjt_1, xjt_2, xjt_3, xjt_4, xjt_5, xjt_6, xjt_7, xjt_8, xjt_9, xjt_10, xjt_11, xjt_12, xjt_13, xjt_14, xjt_16, xjt_20, xjt_24, xjt_31, xjt_32, xjt_40, xjt_44, xjt_47, xjt_48, xjt_57, xjt_59, xjt_60, xjt_63, xjt_64, xjt_65, xjt_72, xjt_95, xjt_99, xjt_100, xjt_101, xjt_103, xjt_110, xjt_112, xjt_113, xjt_114, xjt_119, xjt_126, xjt_159, xjt_576, xjt_999, xjt_9999, xjt_65536, xjt_999999, xt64, xt_n, not_true_eq_false, not_false_eq_true, Classical.not_not] at c_53 c_92 c_99 c_111 c_125
                           all_goals omega)
                        | (have hy : (xbt (fun _ => true) (xtf N s n) (fun _ _ => false) (c + 1)) = (xbt (fun _ => true) (xtf N s n) (fun _ _ => false) c) := xbt_n (Or.inr ⟨by
                             try simp only [xB_dec, Classical.not_not] at c_53 c_92 c_99 c_111 c_125
                             try simp (disch := omega) only [xt_eq, xt_lt, xt_le, xkt_0, xkt_1, xkt_2, xkt_3, xkt_4, xkt_5, xkt_6, xkt_7, xkt_8, xkt_9, xkt_10, xkt_11, xkt_12, xkt_13, xkt_14, xkt_16, xkt_20, xkt_24, xkt_31, xkt_32, xkt_40, xkt_44, xkt_47, xkt_48, xkt_57, xkt_59, xkt_60, xkt_63, xkt_64, xkt_65, xkt_72, xkt_95, xkt_99, xkt_100, xkt_101, xkt_103, xkt_110, xkt_112, xkt_113, xkt_114, xkt_119, xkt_126, xkt_159, xkt_576, xkt_999, xkt_9999, xkt_65536, xkt_999999, xkt_m1, xkt_m2, xkt_m3, xkt_m4, xkt_m11, xkt_m12, xkt_m13, xkt_m14, xkt_m20, xjt_0, xjt_1, xjt_2, xjt_3, xjt_4, xjt_5, xjt_6, xjt_7, xjt_8, xjt_9, xjt_10, xjt_11, xjt_12, xjt_13, xjt_14, xjt_16, xjt_20, xjt_24, xjt_31, xjt_32, xjt_40, xjt_44, xjt_47, xjt_48, xjt_57, xjt_59, xjt_60, xjt_63, xjt_64, xjt_65, xjt_72, xjt_95, xjt_99, xjt_100, xjt_101, xjt_103, xjt_110, xjt_112, xjt_113, xjt_114, xjt_119, xjt_126, xjt_159, xjt_576, xjt_999, xjt_9999, xjt_65536, xjt_999999, xt64, xt_n, not_true_eq_false, not_false_eq_true, Classical.not_not] at c_53 c_92 c_99 c_111 c_125
                             all_goals omega, Or.inr rfl⟩)
                           refine xw_cong ?_ rfl rfl (ih _ ⟨by omega, J1, rfl, gm, by rw [gq 68 (by decide) (by decide) (by decide)]; exact j2, by rw [gq 67 (by decide) (by decide) (by decide)]; exact j3, by rw [gq 60 (by decide) (by decide) (by decide)]; exact j4, g5⟩)
                           rw [hy, nI_1])
                  · skip
                    refine xw_go xb_156 5 (f1 := (if 1 = 0 then 133 else 128, [.ref 60, .int (nI s), .int (nI n), .int (nI t), .int (nI c), .int (nI (xbt (fun _ => true) (xtf N s n) (fun _ _ => false) c).1), .int (nI c), .int (nI (xtf N s n c)), .int 1], [])) (h1 := (xS b, J1, L, xP b)) rfl trivial ?_
                    refine xw_if (fun c_125 => ?_) (fun c_125 => ?_)
                    · skip
                      refine xw_go xb_156 4 (f1 := (47, [.ref 60, .int (nI s), .int (nI n), .int (nI t), .int (nI c), .int (nI (xbt (fun _ => true) (xtf N s n) (fun _ _ => false) c).1), .int ((nI c) + 1), .int (nI (xtf N s n c)), .int 1], [])) (h1 := (xS b, J1, L, xP b)) rfl trivial ?_
                      refine xw_fg (l0 := [.ref 60, .int (nI s), .int (nI n), .int (nI t), .int (nI c), .int (nI (xbt (fun _ => true) (xtf N s n) (fun _ _ => false) c).1), .int ((nI c) + 1), .float 0, .float 0]) ⟨Or.inr rfl, Or.inr rfl, Or.inr rfl, Or.inr rfl, Or.inr rfl, Or.inr rfl, Or.inr rfl, Or.inl rfl, Or.inl rfl, trivial⟩ ?_
                      first
                        | (exfalso
                           try simp only [xB_dec, Classical.not_not] at c_53 c_92 c_99 c_111 c_125
                           try simp (disch := omega) only [xt_eq, xt_lt, xt_le, xkt_0, xkt_1, xkt_2, xkt_3, xkt_4, xkt_5, xkt_6, xkt_7, xkt_8, xkt_9, xkt_10, xkt_11, xkt_12, xkt_13, xkt_14, xkt_16, xkt_20, xkt_24, xkt_31, xkt_32, xkt_40, xkt_44, xkt_47, xkt_48, xkt_57, xkt_59, xkt_60, xkt_63, xkt_64, xkt_65, xkt_72, xkt_95, xkt_99, xkt_100, xkt_101, xkt_103, xkt_110, xkt_112, xkt_113, xkt_114, xkt_119, xkt_126, xkt_159, xkt_576, xkt_999, xkt_9999, xkt_65536, xkt_999999, xkt_m1, xkt_m2, xkt_m3, xkt_m4, xkt_m11, xkt_m12, xkt_m13, xkt_m14, xkt_m20, xjt_0, xjt_1, xjt_2, xjt_3, xjt_4, xjt_5, xjt_6, xjt_7, xjt_8, xjt_9, xjt_10, xjt_11, xjt_12, xjt_13, xjt_14, xjt_16, xjt_20, xjt_24, xjt_31, xjt_32, xjt_40, xjt_44, xjt_47, xjt_48, xjt_57, xjt_59, xjt_60, xjt_63, xjt_64, xjt_65, xjt_72, xjt_95, xjt_99, xjt_100, xjt_101, xjt_103, xjt_110, xjt_112, xjt_113, xjt_114, xjt_119, xjt_126, xjt_159, xjt_576, xjt_999, xjt_9999, xjt_65536, xjt_999999, xt64, xt_n, not_true_eq_false, not_false_eq_true, Classical.not_not] at c_53 c_92 c_99 c_111 c_125
                           all_goals omega)
                        | (have hy : (xbt (fun _ => true) (xtf N s n) (fun _ _ => false) (c + 1)) = (xtf N s n c, c) := xbt_y rfl (Or.inl (by
                             try simp only [xB_dec, Classical.not_not] at c_53 c_92 c_99 c_111 c_125
                             try simp (disch := omega) only [xt_eq, xt_lt, xt_le, xkt_0, xkt_1, xkt_2, xkt_3, xkt_4, xkt_5, xkt_6, xkt_7, xkt_8, xkt_9, xkt_10, xkt_11, xkt_12, xkt_13, xkt_14, xkt_16, xkt_20, xkt_24, xkt_31, xkt_32, xkt_40, xkt_44, xkt_47, xkt_48, xkt_57, xkt_59, xkt_60, xkt_63, xkt_64, xkt_65, xkt_72, xkt_95, xkt_99, xkt_100, xkt_101, xkt_103, xkt_110, xkt_112, xkt_113, xkt_114, xkt_119, xkt_126, xkt_159, xkt_576, xkt_999, xkt_9999, xkt_65536, xkt_999999, xkt_m1, xkt_m2, xkt_m3, xkt_m4, xkt_m11, xkt_m12, xkt_m13, xkt_m14, xkt_m20, xjt_0, xjt_1, xjt_2, xjt_3, xjt_4, xjt_5, xjt_6, xjt_7, xjt_8, xjt_9, xjt_10, xjt_11, xjt_12, xjt_13, xjt_14, xjt_16, xjt_20, xjt_24, xjt_31, xjt_32, xjt_40, xjt_44, xjt_47, xjt_48, xjt_57, xjt_59, xjt_60, xjt_63, xjt_64, xjt_65, xjt_72, xjt_95, xjt_99, xjt_100, xjt_101, xjt_103, xjt_110, xjt_112, xjt_113, xjt_114, xjt_119, xjt_126, xjt_159, xjt_576, xjt_999, xjt_9999, xjt_65536, xjt_999999, xt64, xt_n, not_true_eq_false, not_false_eq_true, Classical.not_not] at c_53 c_92 c_99 c_111 c_125
                             all_goals omega))
                           refine xw_cong ?_ rfl rfl (ih _ ⟨by omega, J1, rfl, gm, by rw [gq 68 (by decide) (by decide) (by decide)]; exact j2, by rw [gq 67 (by decide) (by decide) (by decide)]; exact j3, by rw [gq 60 (by decide) (by decide) (by decide)]; exact j4, g5⟩)
                           rw [hy, nI_1])
                    · skip
                      refine xw_go xb_156 5 (f1 := (47, [.ref 60, .int (nI s), .int (nI n), .int (nI t), .int (nI c), .int (nI (xtf N s n c)), .int ((nI c) + 1), .int (nI (xtf N s n c)), .int 1], [])) (h1 := (xS b, J1, L, xP b)) rfl trivial ?_
                      refine xw_fg (l0 := [.ref 60, .int (nI s), .int (nI n), .int (nI t), .int (nI c), .int (nI (xtf N s n c)), .int ((nI c) + 1), .float 0, .float 0]) ⟨Or.inr rfl, Or.inr rfl, Or.inr rfl, Or.inr rfl, Or.inr rfl, Or.inr rfl, Or.inr rfl, Or.inl rfl, Or.inl rfl, trivial⟩ ?_
                      first
                        | (exfalso
                           try simp only [xB_dec, Classical.not_not] at c_53 c_92 c_99 c_111 c_125
                           try simp (disch := omega) only [xt_eq, xt_lt, xt_le, xkt_0, xkt_1, xkt_2, xkt_3, xkt_4, xkt_5, xkt_6, xkt_7, xkt_8, xkt_9, xkt_10, xkt_11, xkt_12, xkt_13, xkt_14, xkt_16, xkt_20, xkt_24, xkt_31, xkt_32, xkt_40, xkt_44, xkt_47, xkt_48, xkt_57, xkt_59, xkt_60, xkt_63, xkt_64, xkt_65, xkt_72, xkt_95, xkt_99, xkt_100, xkt_101, xkt_103, xkt_110, xkt_112, xkt_113, xkt_114, xkt_119, xkt_126, xkt_159, xkt_576, xkt_999, xkt_9999, xkt_65536, xkt_999999, xkt_m1, xkt_m2, xkt_m3, xkt_m4, xkt_m11, xkt_m12, xkt_m13, xkt_m14, xkt_m20, xjt_0, xjt_1, xjt_2, xjt_3, xjt_4, xjt_5, xjt_6, xjt_7, xjt_8, xjt_9, xjt_10, xjt_11, xjt_12, xjt_13, xjt_14, xjt_16, xjt_20, xjt_24, xjt_31, xjt_32, xjt_40, xjt_44, xjt_47, xjt_48, xjt_57, xjt_59, xjt_60, xjt_63, xjt_64, xjt_65, xjt_72, xjt_95, xjt_99, xjt_100, xjt_101, xjt_103, xjt_110, xjt_112, xjt_113, xjt_114, xjt_119, xjt_126, xjt_159, xjt_576, xjt_999, xjt_9999, xjt_65536, xjt_999999, xt64, xt_n, not_true_eq_false, not_false_eq_true, Classical.not_not] at c_53 c_92 c_99 c_111 c_125
                           all_goals omega)
                        | (have hy : (xbt (fun _ => true) (xtf N s n) (fun _ _ => false) (c + 1)) = (xtf N s n c, c) := xbt_y rfl (Or.inl (by
                             try simp only [xB_dec, Classical.not_not] at c_53 c_92 c_99 c_111 c_125
                             try simp (disch := omega) only [xt_eq, xt_lt, xt_le, xkt_0, xkt_1, xkt_2, xkt_3, xkt_4, xkt_5, xkt_6, xkt_7, xkt_8, xkt_9, xkt_10, xkt_11, xkt_12, xkt_13, xkt_14, xkt_16, xkt_20, xkt_24, xkt_31, xkt_32, xkt_40, xkt_44, xkt_47, xkt_48, xkt_57, xkt_59, xkt_60, xkt_63, xkt_64, xkt_65, xkt_72, xkt_95, xkt_99, xkt_100, xkt_101, xkt_103, xkt_110, xkt_112, xkt_113, xkt_114, xkt_119, xkt_126, xkt_159, xkt_576, xkt_999, xkt_9999, xkt_65536, xkt_999999, xkt_m1, xkt_m2, xkt_m3, xkt_m4, xkt_m11, xkt_m12, xkt_m13, xkt_m14, xkt_m20, xjt_0, xjt_1, xjt_2, xjt_3, xjt_4, xjt_5, xjt_6, xjt_7, xjt_8, xjt_9, xjt_10, xjt_11, xjt_12, xjt_13, xjt_14, xjt_16, xjt_20, xjt_24, xjt_31, xjt_32, xjt_40, xjt_44, xjt_47, xjt_48, xjt_57, xjt_59, xjt_60, xjt_63, xjt_64, xjt_65, xjt_72, xjt_95, xjt_99, xjt_100, xjt_101, xjt_103, xjt_110, xjt_112, xjt_113, xjt_114, xjt_119, xjt_126, xjt_159, xjt_576, xjt_999, xjt_9999, xjt_65536, xjt_999999, xt64, xt_n, not_true_eq_false, not_false_eq_true, Classical.not_not] at c_53 c_92 c_99 c_111 c_125
                             all_goals omega))
                           refine xw_cong ?_ rfl rfl (ih _ ⟨by omega, J1, rfl, gm, by rw [gq 68 (by decide) (by decide) (by decide)]; exact j2, by rw [gq 67 (by decide) (by decide) (by decide)]; exact j3, by rw [gq 60 (by decide) (by decide) (by decide)]; exact j4, g5⟩)
                           rw [hy, nI_1])
          · obtain ⟨hc1, J, rfl, j1, j2, j3, j4, j5⟩ := hV
            refine xw_go xb_156 2 (f1 := (50, [.ref 60, .int (nI s), .int (nI n), .int (nI t), .int (nI (xbt (fun _ => true) (xtf N s n) (fun _ _ => false) (N 0 * N 1)).2), .int (nI (xbt (fun _ => true) (xtf N s n) (fun _ _ => false) (N 0 * N 1)).1), .int (nI (N 0 * N 1)), .float 0, .float 0], [.ref 60, .int (nI (N 0 * N 1))])) (h1 := (xS b, J, L, xP b)) rfl trivial ?_
            refine xw_call xb_156 rfl rfl rfl rfl rfl (Or.inr ⟨_, _, rfl, rfl⟩) (m_cells (I := J) (N := N) j5) ?_
            rintro _ _ ⟨rfl, rfl⟩
            refine xw_at (f' := (53, [.ref 60, .int (nI s), .int (nI n), .int (nI t), .int (nI (xbt (fun _ => true) (xtf N s n) (fun _ _ => false) (N 0 * N 1)).2), .int (nI (xbt (fun _ => true) (xtf N s n) (fun _ _ => false) (N 0 * N 1)).1), .int (nI (N 0 * N 1)), .float 0, .float 0], [.int (nI (N 0 * N 1)), .int (nI (N 0 * N 1))])) (h' := (xS b, J, L, xP b)) rfl rfl ?_
            refine xw_go xb_156 1 (f1 := (if (nI (N 0 * N 1)) ≤ (nI (N 0 * N 1)) then 143 else 56, [.ref 60, .int (nI s), .int (nI n), .int (nI t), .int (nI (xbt (fun _ => true) (xtf N s n) (fun _ _ => false) (N 0 * N 1)).2), .int (nI (xbt (fun _ => true) (xtf N s n) (fun _ _ => false) (N 0 * N 1)).1), .int (nI (N 0 * N 1)), .float 0, .float 0], [])) (h1 := (xS b, J, L, xP b)) rfl trivial ?_
            refine xw_if (fun c_53 => ?_) (fun c_53 => ?_)
            · skip
              refine xw_go xb_156 2 (f1 := (if ¬ (nI t) = 0 then 152 else 147, [.ref 60, .int (nI s), .int (nI n), .int (nI t), .int (nI (xbt (fun _ => true) (xtf N s n) (fun _ _ => false) (N 0 * N 1)).2), .int (nI (xbt (fun _ => true) (xtf N s n) (fun _ _ => false) (N 0 * N 1)).1), .int (nI (N 0 * N 1)), .float 0, .float 0], [])) (h1 := (xS b, J, L, xP b)) rfl trivial ?_
              refine xw_if (fun c_144 => ?_) (fun c_144 => ?_)
              · skip
                refine xw_go xb_156 1 (f1 := (154, [.ref 60, .int (nI s), .int (nI n), .int (nI t), .int (nI (xbt (fun _ => true) (xtf N s n) (fun _ _ => false) (N 0 * N 1)).2), .int (nI (xbt (fun _ => true) (xtf N s n) (fun _ _ => false) (N 0 * N 1)).1), .int (nI (N 0 * N 1)), .float 0, .float 0], [.int (nI (xbt (fun _ => true) (xtf N s n) (fun _ _ => false) (N 0 * N 1)).1)])) (h1 := (xS b, J, L, xP b)) rfl trivial ?_
                refine xw_ret xb_156 rfl rfl trivial ?_
                first
                  | (have e0 : t = 0 := by
                       (try simp (disch := omega) only [xt_eq, xt_n, xkt_0, Classical.not_not] at c_144)
                       omega
                     rw [if_pos e0]
                     exact ⟨rfl, J, rfl, j1, xML_N hM j5 (by rw [j4]) j3⟩)
                  | (have e0 : ¬ t = 0 := by
                       (try simp (disch := omega) only [xt_eq, xt_n, xkt_0, Classical.not_not] at c_144)
                       omega
                     rw [if_neg e0]
                     exact ⟨rfl, J, rfl, j1, xML_N hM j5 (by rw [j4]) j3⟩)
              · skip
                refine xw_go xb_156 2 (f1 := (154, [.ref 60, .int (nI s), .int (nI n), .int (nI t), .int (nI (xbt (fun _ => true) (xtf N s n) (fun _ _ => false) (N 0 * N 1)).2), .int (nI (xbt (fun _ => true) (xtf N s n) (fun _ _ => false) (N 0 * N 1)).1), .int (nI (N 0 * N 1)), .float 0, .float 0], [.int (nI (xbt (fun _ => true) (xtf N s n) (fun _ _ => false) (N 0 * N 1)).2)])) (h1 := (xS b, J, L, xP b)) rfl trivial ?_
                refine xw_ret xb_156 rfl rfl trivial ?_
                first
                  | (have e0 : t = 0 := by
                       (try simp (disch := omega) only [xt_eq, xt_n, xkt_0, Classical.not_not] at c_144)
                       omega
                     rw [if_pos e0]
                     exact ⟨rfl, J, rfl, j1, xML_N hM j5 (by rw [j4]) j3⟩)
                  | (have e0 : ¬ t = 0 := by
                       (try simp (disch := omega) only [xt_eq, xt_n, xkt_0, Classical.not_not] at c_144)
                       omega
                     rw [if_neg e0]
                     exact ⟨rfl, J, rfl, j1, xML_N hM j5 (by rw [j4]) j3⟩)
            · skip
              exfalso
              simp (disch := omega) only [nI_leI] at c_53
              omega
        obtain ⟨J, hJ⟩ : ∃ J, J = va_up I 68 (xfil 159 (I 61) (I 68)) := ⟨_, rfl⟩
        have j1 : xMF I J := by rw [hJ]; exact xMF_v (xMF_r I) (by decide)
        have j2 : J 68 = xfil 159 (I 61) (I 68) := by rw [hJ]; rfl
        have j3 : J 67 = I 67 := by rw [hJ]; rfl
        have j4 : J 60 = I 60 := by rw [hJ]; rfl
        have j5 : xMN N J := by rw [hJ]; exact fun k hk => hM.1 k hk
        have f64 : xtf N s n 0 ≤ 64 := xwc_le (xgoN_ok (xOK_pl hO hs (by omega)) _ (by rw [xvu_N (by omega)]; omega))
        rw [← hJ]
        clear hJ
        refine xw_at (f' := (47, [.ref 60, .int (nI s), .int (nI n), .int (nI t), .int (-4), .int (-4), .int (nI 0), .float 0, .float 0], [])) (h' := (xS b, J, L, xP b)) rfl rfl ?_
        refine xw_go xb_156 2 (f1 := (50, [.ref 60, .int (nI s), .int (nI n), .int (nI t), .int (-4), .int (-4), .int (nI 0), .float 0, .float 0], [.ref 60, .int (nI 0)])) (h1 := (xS b, J, L, xP b)) rfl trivial ?_
        refine xw_call xb_156 rfl rfl rfl rfl rfl (Or.inr ⟨_, _, rfl, rfl⟩) (m_cells (I := J) (N := N) j5) ?_
        rintro _ _ ⟨rfl, rfl⟩
        refine xw_at (f' := (53, [.ref 60, .int (nI s), .int (nI n), .int (nI t), .int (-4), .int (-4), .int (nI 0), .float 0, .float 0], [.int (nI (N 0 * N 1)), .int (nI 0)])) (h' := (xS b, J, L, xP b)) rfl rfl ?_
        refine xw_go xb_156 1 (f1 := (if (nI (N 0 * N 1)) ≤ (nI 0) then 143 else 56, [.ref 60, .int (nI s), .int (nI n), .int (nI t), .int (-4), .int (-4), .int (nI 0), .float 0, .float 0], [])) (h1 := (xS b, J, L, xP b)) rfl trivial ?_
        refine xw_if (fun c_53 => ?_) (fun c_53 => ?_)
        · skip
          exfalso
          simp (disch := omega) only [nI_leI] at c_53
          omega
        · skip
          refine xw_go xb_156 11 (f1 := (71, [.ref 60, .int (nI s), .int (nI n), .int (nI t), .int (-4), .int (-4), .int (nI 0), .float 0, .float 0], [])) (h1 := (xS b, xm_up J 61 ((11 + (4 * (nI s))) + 1).toNatClampNeg (nI 0), L, xP b)) rfl ⟨rfl, (xn_ar' (n := 12 + 4 * s) (N := 159) rfl (show 11 + 4 * nI s + 1 = _ by rw [xl_11, xl_4, pk_mul, nI_add, nI_1]; congr 1; omega) (by omega) (by decide)), trivial⟩ ?_
          refine xw_at (f' := (71, [.ref 60, .int (nI s), .int (nI n), .int (nI t), .int (-4), .int (-4), .int (nI 0), .float 0, .float 0], [])) (h' := (xS b, xm_up J 61 (12 + 4 * s) (nI 0), L, xP b)) rfl (show (xS b, xm_up J 61 ((11 + (4 * (nI s))) + 1).toNatClampNeg (nI 0), L, xP b) = (xS b, xm_up J 61 (12 + 4 * s) (nI 0), L, xP b) from ?_) ?_
          · refine congrArg (fun X => (xS b, xm_up J 61 X (nI 0), L, xP b)) ?_
            rw [xl_11, xl_4, pk_mul, nI_add, nI_1, xn_cl (by omega)]
            omega
          refine xw_go xb_156 10 (f1 := (83, [.ref 60, .int (nI s), .int (nI n), .int (nI t), .int (-4), .int (-4), .int (nI 0), .float 0, .float 0], [.int (nI n), .int (((xm_up J 61 (12 + 4 * s) (nI 0)) 61 (3 : Int32).toNatClampNeg) ||| (1 <<< ((nI s) &&& 31))), .ref 60])) (h1 := (xS b, xm_up J 61 (12 + 4 * s) (nI 0), L, xP b)) rfl ⟨rfl, (xn_ar (n := 3) (N := 159) rfl (by decide) (by decide)), trivial⟩ ?_
          refine xw_call xb_156 rfl rfl rfl rfl rfl (Or.inr ⟨_, _, rfl, rfl⟩) (m_wrongBehind (I := (xm_up J 61 (12 + 4 * s) (nI 0))) (N := va_up N (12 + 4 * s) 0) (xMN_u j5 rfl rfl) (xOK_pl hO hs (by omega)) (o := N 3 ||| (1 <<< s)) (n := n) cl4 (by rw [xvu_N (by omega)]; omega) (by show xm_up J 61 (12 + 4 * s) _ 61 3 ||| _ = _; rw [xm_up_ne (Or.inr (by omega)), j5 3 (by decide)]; exact cl3) rfl) ?_
          rintro _ _ ⟨rfl, J1, rfl, g1, g2⟩
          rw [xtf_e hs]
          have gq : ∀ a, a ≠ 61 → a ≠ 62 → a ≠ 63 → J1 a = J a := fun a h1 h2 h3 => by
            rw [g1 a (by simp only [List.mem_cons, List.not_mem_nil, or_false, not_or]; exact ⟨h1, h2, h3⟩), xm_up_o h1]
          have g5 : xMN N J1 := fun k hk => by
            rw [g2 k hk, xm_up_o (by decide), j2]
            unfold xfil
            rw [if_pos hk]
            exact hM.1 k hk
          have gm : xMF I J1 := ⟨fun a ha => by rw [gq a (by omega) (by omega) (by omega)]; exact j1.1 a ha, fun k hk => by rw [gq 60 (by decide) (by decide) (by decide)]; exact j1.2 k hk⟩
          refine xw_at (f' := (86, [.ref 60, .int (nI s), .int (nI n), .int (nI t), .int (-4), .int (-4), .int (nI 0), .float 0, .float 0], [.int (nI (xtf N s n 0))])) (h' := (xS b, J1, L, xP b)) rfl rfl ?_
          refine xw_go xb_156 4 (f1 := (if (-4) = (-4) then 102 else 95, [.ref 60, .int (nI s), .int (nI n), .int (nI t), .int (-4), .int (-4), .int (nI 0), .int (nI (xtf N s n 0)), .float 0], [])) (h1 := (xS b, J1, L, xP b)) rfl trivial ?_
          refine xw_if (fun c_92 => ?_) (fun c_92 => ?_)
          · skip
            refine xw_go xb_156 5 (f1 := (if 1 = 0 then 119 else 114, [.ref 60, .int (nI s), .int (nI n), .int (nI t), .int (-4), .int (-4), .int (nI 0), .int (nI (xtf N s n 0)), .int 1], [])) (h1 := (xS b, J1, L, xP b)) rfl trivial ?_
            refine xw_if (fun c_111 => ?_) (fun c_111 => ?_)
            · skip
              refine xw_go xb_156 4 (f1 := (if 1 = 0 then 133 else 128, [.ref 60, .int (nI s), .int (nI n), .int (nI t), .int (-4), .int (-4), .int (nI 0), .int (nI (xtf N s n 0)), .int 1], [])) (h1 := (xS b, J1, L, xP b)) rfl trivial ?_
              refine xw_if (fun c_125 => ?_) (fun c_125 => ?_)
              · skip
                refine xw_go xb_156 4 (f1 := (47, [.ref 60, .int (nI s), .int (nI n), .int (nI t), .int (-4), .int (-4), .int ((nI 0) + 1), .int (nI (xtf N s n 0)), .int 1], [])) (h1 := (xS b, J1, L, xP b)) rfl trivial ?_
                refine xw_fg (l0 := [.ref 60, .int (nI s), .int (nI n), .int (nI t), .int (-4), .int (-4), .int ((nI 0) + 1), .float 0, .float 0]) ⟨Or.inr rfl, Or.inr rfl, Or.inr rfl, Or.inr rfl, Or.inr rfl, Or.inr rfl, Or.inr rfl, Or.inl rfl, Or.inl rfl, trivial⟩ ?_
                first
                  | (exfalso
                     try simp only [xB_dec, Classical.not_not] at c_53 c_92 c_111 c_125
                     try simp (disch := omega) only [xt_eq, xt_lt, xt_le, xkt_0, xkt_1, xkt_2, xkt_3, xkt_4, xkt_5, xkt_6, xkt_7, xkt_8, xkt_9, xkt_10, xkt_11, xkt_12, xkt_13, xkt_14, xkt_16, xkt_20, xkt_24, xkt_31, xkt_32, xkt_40, xkt_44, xkt_47, xkt_48, xkt_57, xkt_59, xkt_60, xkt_63, xkt_64, xkt_65, xkt_72, xkt_95, xkt_99, xkt_100, xkt_101, xkt_103, xkt_110, xkt_112, xkt_113, xkt_114, xkt_119, xkt_126, xkt_159, xkt_576, xkt_999, xkt_9999, xkt_65536, xkt_999999, xkt_m1, xkt_m2, xkt_m3, xkt_m4, xkt_m11, xkt_m12, xkt_m13, xkt_m14, xkt_m20, xjt_0, xjt_1, xjt_2, xjt_3, xjt_4, xjt_5, xjt_6, xjt_7, xjt_8, xjt_9, xjt_10, xjt_11, xjt_12, xjt_13, xjt_14, xjt_16, xjt_20, xjt_24, xjt_31, xjt_32, xjt_40, xjt_44, xjt_47, xjt_48, xjt_57, xjt_59, xjt_60, xjt_63, xjt_64, xjt_65, xjt_72, xjt_95, xjt_99, xjt_100, xjt_101, xjt_103, xjt_110, xjt_112, xjt_113, xjt_114, xjt_119, xjt_126, xjt_159, xjt_576, xjt_999, xjt_9999, xjt_65536, xjt_999999, xt64, xt_n, not_true_eq_false, not_false_eq_true, Classical.not_not] at c_53 c_92 c_111 c_125
                     all_goals omega)
                  | (have hy : (xbt (fun _ => true) (xtf N s n) (fun _ _ => false) 1) = (xtf N s n 0, 0) := xbt_y rfl (Or.inl (by have e : (xbt (fun _ => true) (xtf N s n) (fun _ _ => false) 0).1 = 65 := rfl; omega))
                     refine xw_cong ?_ rfl rfl (LOOP _ ⟨by omega, J1, rfl, gm, by rw [gq 68 (by decide) (by decide) (by decide)]; exact j2, by rw [gq 67 (by decide) (by decide) (by decide)]; exact j3, by rw [gq 60 (by decide) (by decide) (by decide)]; exact j4, g5⟩)
                     rw [hy]
                     rfl)
              · skip
                refine xw_go xb_156 5 (f1 := (47, [.ref 60, .int (nI s), .int (nI n), .int (nI t), .int (-4), .int (nI (xtf N s n 0)), .int ((nI 0) + 1), .int (nI (xtf N s n 0)), .int 1], [])) (h1 := (xS b, J1, L, xP b)) rfl trivial ?_
                refine xw_fg (l0 := [.ref 60, .int (nI s), .int (nI n), .int (nI t), .int (-4), .int (nI (xtf N s n 0)), .int ((nI 0) + 1), .float 0, .float 0]) ⟨Or.inr rfl, Or.inr rfl, Or.inr rfl, Or.inr rfl, Or.inr rfl, Or.inr rfl, Or.inr rfl, Or.inl rfl, Or.inl rfl, trivial⟩ ?_
                first
                  | (exfalso
                     try simp only [xB_dec, Classical.not_not] at c_53 c_92 c_111 c_125
                     try simp (disch := omega) only [xt_eq, xt_lt, xt_le, xkt_0, xkt_1, xkt_2, xkt_3, xkt_4, xkt_5, xkt_6, xkt_7, xkt_8, xkt_9, xkt_10, xkt_11, xkt_12, xkt_13, xkt_14, xkt_16, xkt_20, xkt_24, xkt_31, xkt_32, xkt_40, xkt_44, xkt_47, xkt_48, xkt_57, xkt_59, xkt_60, xkt_63, xkt_64, xkt_65, xkt_72, xkt_95, xkt_99, xkt_100, xkt_101, xkt_103, xkt_110, xkt_112, xkt_113, xkt_114, xkt_119, xkt_126, xkt_159, xkt_576, xkt_999, xkt_9999, xkt_65536, xkt_999999, xkt_m1, xkt_m2, xkt_m3, xkt_m4, xkt_m11, xkt_m12, xkt_m13, xkt_m14, xkt_m20, xjt_0, xjt_1, xjt_2, xjt_3, xjt_4, xjt_5, xjt_6, xjt_7, xjt_8, xjt_9, xjt_10, xjt_11, xjt_12, xjt_13, xjt_14, xjt_16, xjt_20, xjt_24, xjt_31, xjt_32, xjt_40, xjt_44, xjt_47, xjt_48, xjt_57, xjt_59, xjt_60, xjt_63, xjt_64, xjt_65, xjt_72, xjt_95, xjt_99, xjt_100, xjt_101, xjt_103, xjt_110, xjt_112, xjt_113, xjt_114, xjt_119, xjt_126, xjt_159, xjt_576, xjt_999, xjt_9999, xjt_65536, xjt_999999, xt64, xt_n, not_true_eq_false, not_false_eq_true, Classical.not_not] at c_53 c_92 c_111 c_125
                     all_goals omega)
                  | (have hy : (xbt (fun _ => true) (xtf N s n) (fun _ _ => false) 1) = (xtf N s n 0, 0) := xbt_y rfl (Or.inl (by have e : (xbt (fun _ => true) (xtf N s n) (fun _ _ => false) 0).1 = 65 := rfl; omega))
                     refine xw_cong ?_ rfl rfl (LOOP _ ⟨by omega, J1, rfl, gm, by rw [gq 68 (by decide) (by decide) (by decide)]; exact j2, by rw [gq 67 (by decide) (by decide) (by decide)]; exact j3, by rw [gq 60 (by decide) (by decide) (by decide)]; exact j4, g5⟩)
                     rw [hy]
                     rfl)
            · skip
              refine xw_go xb_156 5 (f1 := (if 1 = 0 then 133 else 128, [.ref 60, .int (nI s), .int (nI n), .int (nI t), .int (nI 0), .int (-4), .int (nI 0), .int (nI (xtf N s n 0)), .int 1], [])) (h1 := (xS b, J1, L, xP b)) rfl trivial ?_
              refine xw_if (fun c_125 => ?_) (fun c_125 => ?_)
              · skip
                refine xw_go xb_156 4 (f1 := (47, [.ref 60, .int (nI s), .int (nI n), .int (nI t), .int (nI 0), .int (-4), .int ((nI 0) + 1), .int (nI (xtf N s n 0)), .int 1], [])) (h1 := (xS b, J1, L, xP b)) rfl trivial ?_
                refine xw_fg (l0 := [.ref 60, .int (nI s), .int (nI n), .int (nI t), .int (nI 0), .int (-4), .int ((nI 0) + 1), .float 0, .float 0]) ⟨Or.inr rfl, Or.inr rfl, Or.inr rfl, Or.inr rfl, Or.inr rfl, Or.inr rfl, Or.inr rfl, Or.inl rfl, Or.inl rfl, trivial⟩ ?_
                first
                  | (exfalso
                     try simp only [xB_dec, Classical.not_not] at c_53 c_92 c_111 c_125
                     try simp (disch := omega) only [xt_eq, xt_lt, xt_le, xkt_0, xkt_1, xkt_2, xkt_3, xkt_4, xkt_5, xkt_6, xkt_7, xkt_8, xkt_9, xkt_10, xkt_11, xkt_12, xkt_13, xkt_14, xkt_16, xkt_20, xkt_24, xkt_31, xkt_32, xkt_40, xkt_44, xkt_47, xkt_48, xkt_57, xkt_59, xkt_60, xkt_63, xkt_64, xkt_65, xkt_72, xkt_95, xkt_99, xkt_100, xkt_101, xkt_103, xkt_110, xkt_112, xkt_113, xkt_114, xkt_119, xkt_126, xkt_159, xkt_576, xkt_999, xkt_9999, xkt_65536, xkt_999999, xkt_m1, xkt_m2, xkt_m3, xkt_m4, xkt_m11, xkt_m12, xkt_m13, xkt_m14, xkt_m20, xjt_0, xjt_1, xjt_2, xjt_3, xjt_4, xjt_5, xjt_6, xjt_7, xjt_8, xjt_9, xjt_10, xjt_11, xjt_12, xjt_13, xjt_14, xjt_16, xjt_20, xjt_24, xjt_31, xjt_32, xjt_40, xjt_44, xjt_47, xjt_48, xjt_57, xjt_59, xjt_60, xjt_63, xjt_64, xjt_65, xjt_72, xjt_95, xjt_99, xjt_100, xjt_101, xjt_103, xjt_110, xjt_112, xjt_113, xjt_114, xjt_119, xjt_126, xjt_159, xjt_576, xjt_999, xjt_9999, xjt_65536, xjt_999999, xt64, xt_n, not_true_eq_false, not_false_eq_true, Classical.not_not] at c_53 c_92 c_111 c_125
                     all_goals omega)
                  | (have hy : (xbt (fun _ => true) (xtf N s n) (fun _ _ => false) 1) = (xtf N s n 0, 0) := xbt_y rfl (Or.inl (by have e : (xbt (fun _ => true) (xtf N s n) (fun _ _ => false) 0).1 = 65 := rfl; omega))
                     refine xw_cong ?_ rfl rfl (LOOP _ ⟨by omega, J1, rfl, gm, by rw [gq 68 (by decide) (by decide) (by decide)]; exact j2, by rw [gq 67 (by decide) (by decide) (by decide)]; exact j3, by rw [gq 60 (by decide) (by decide) (by decide)]; exact j4, g5⟩)
                     rw [hy]
                     rfl)
              · skip
                refine xw_go xb_156 5 (f1 := (47, [.ref 60, .int (nI s), .int (nI n), .int (nI t), .int (nI 0), .int (nI (xtf N s n 0)), .int ((nI 0) + 1), .int (nI (xtf N s n 0)), .int 1], [])) (h1 := (xS b, J1, L, xP b)) rfl trivial ?_
                refine xw_fg (l0 := [.ref 60, .int (nI s), .int (nI n), .int (nI t), .int (nI 0), .int (nI (xtf N s n 0)), .int ((nI 0) + 1), .float 0, .float 0]) ⟨Or.inr rfl, Or.inr rfl, Or.inr rfl, Or.inr rfl, Or.inr rfl, Or.inr rfl, Or.inr rfl, Or.inl rfl, Or.inl rfl, trivial⟩ ?_
                first
                  | (exfalso
                     try simp only [xB_dec, Classical.not_not] at c_53 c_92 c_111 c_125
                     try simp (disch := omega) only [xt_eq, xt_lt, xt_le, xkt_0, xkt_1, xkt_2, xkt_3, xkt_4, xkt_5, xkt_6, xkt_7, xkt_8, xkt_9, xkt_10, xkt_11, xkt_12, xkt_13, xkt_14, xkt_16, xkt_20, xkt_24, xkt_31, xkt_32, xkt_40, xkt_44, xkt_47, xkt_48, xkt_57, xkt_59, xkt_60, xkt_63, xkt_64, xkt_65, xkt_72, xkt_95, xkt_99, xkt_100, xkt_101, xkt_103, xkt_110, xkt_112, xkt_113, xkt_114, xkt_119, xkt_126, xkt_159, xkt_576, xkt_999, xkt_9999, xkt_65536, xkt_999999, xkt_m1, xkt_m2, xkt_m3, xkt_m4, xkt_m11, xkt_m12, xkt_m13, xkt_m14, xkt_m20, xjt_0, xjt_1, xjt_2, xjt_3, xjt_4, xjt_5, xjt_6, xjt_7, xjt_8, xjt_9, xjt_10, xjt_11, xjt_12, xjt_13, xjt_14, xjt_16, xjt_20, xjt_24, xjt_31, xjt_32, xjt_40, xjt_44, xjt_47, xjt_48, xjt_57, xjt_59, xjt_60, xjt_63, xjt_64, xjt_65, xjt_72, xjt_95, xjt_99, xjt_100, xjt_101, xjt_103, xjt_110, xjt_112, xjt_113, xjt_114, xjt_119, xjt_126, xjt_159, xjt_576, xjt_999, xjt_9999, xjt_65536, xjt_999999, xt64, xt_n, not_true_eq_false, not_false_eq_true, Classical.not_not] at c_53 c_92 c_111 c_125
                     all_goals omega)
                  | (have hy : (xbt (fun _ => true) (xtf N s n) (fun _ _ => false) 1) = (xtf N s n 0, 0) := xbt_y rfl (Or.inl (by have e : (xbt (fun _ => true) (xtf N s n) (fun _ _ => false) 0).1 = 65 := rfl; omega))
                     refine xw_cong ?_ rfl rfl (LOOP _ ⟨by omega, J1, rfl, gm, by rw [gq 68 (by decide) (by decide) (by decide)]; exact j2, by rw [gq 67 (by decide) (by decide) (by decide)]; exact j3, by rw [gq 60 (by decide) (by decide) (by decide)]; exact j4, g5⟩)
                     rw [hy]
                     rfl)
          · skip
            refine xw_go xb_156 3 (f1 := (if (-4) ≤ (nI (xtf N s n 0)) then 106 else 102, [.ref 60, .int (nI s), .int (nI n), .int (nI t), .int (-4), .int (-4), .int (nI 0), .int (nI (xtf N s n 0)), .float 0], [])) (h1 := (xS b, J1, L, xP b)) rfl trivial ?_
            refine xw_if (fun c_99 => ?_) (fun c_99 => ?_)
            · skip
              refine xw_go xb_156 4 (f1 := (if 0 = 0 then 119 else 114, [.ref 60, .int (nI s), .int (nI n), .int (nI t), .int (-4), .int (-4), .int (nI 0), .int (nI (xtf N s n 0)), .int 0], [])) (h1 := (xS b, J1, L, xP b)) rfl trivial ?_
              refine xw_if (fun c_111 => ?_) (fun c_111 => ?_)
              · skip
                refine xw_go xb_156 4 (f1 := (if 0 = 0 then 133 else 128, [.ref 60, .int (nI s), .int (nI n), .int (nI t), .int (-4), .int (-4), .int (nI 0), .int (nI (xtf N s n 0)), .int 0], [])) (h1 := (xS b, J1, L, xP b)) rfl trivial ?_
                refine xw_if (fun c_125 => ?_) (fun c_125 => ?_)
                · skip
                  refine xw_go xb_156 4 (f1 := (47, [.ref 60, .int (nI s), .int (nI n), .int (nI t), .int (-4), .int (-4), .int ((nI 0) + 1), .int (nI (xtf N s n 0)), .int 0], [])) (h1 := (xS b, J1, L, xP b)) rfl trivial ?_
                  refine xw_fg (l0 := [.ref 60, .int (nI s), .int (nI n), .int (nI t), .int (-4), .int (-4), .int ((nI 0) + 1), .float 0, .float 0]) ⟨Or.inr rfl, Or.inr rfl, Or.inr rfl, Or.inr rfl, Or.inr rfl, Or.inr rfl, Or.inr rfl, Or.inl rfl, Or.inl rfl, trivial⟩ ?_
                  first
                    | (exfalso
                       try simp only [xB_dec, Classical.not_not] at c_53 c_92 c_99 c_111 c_125
                       try simp (disch := omega) only [xt_eq, xt_lt, xt_le, xkt_0, xkt_1, xkt_2, xkt_3, xkt_4, xkt_5, xkt_6, xkt_7, xkt_8, xkt_9, xkt_10, xkt_11, xkt_12, xkt_13, xkt_14, xkt_16, xkt_20, xkt_24, xkt_31, xkt_32, xkt_40, xkt_44, xkt_47, xkt_48, xkt_57, xkt_59, xkt_60, xkt_63, xkt_64, xkt_65, xkt_72, xkt_95, xkt_99, xkt_100, xkt_101, xkt_103, xkt_110, xkt_112, xkt_113, xkt_114, xkt_119, xkt_126, xkt_159, xkt_576, xkt_999, xkt_9999, xkt_65536, xkt_999999, xkt_m1, xkt_m2, xkt_m3, xkt_m4, xkt_m11, xkt_m12, xkt_m13, xkt_m14, xkt_m20, xjt_0, xjt_1, xjt_2, xjt_3, xjt_4, xjt_5, xjt_6, xjt_7, xjt_8, xjt_9, xjt_10, xjt_11, xjt_12, xjt_13, xjt_14, xjt_16, xjt_20, xjt_24, xjt_31, xjt_32, xjt_40, xjt_44, xjt_47, xjt_48, xjt_57, xjt_59, xjt_60, xjt_63, xjt_64, xjt_65, xjt_72, xjt_95, xjt_99, xjt_100, xjt_101, xjt_103, xjt_110, xjt_112, xjt_113, xjt_114, xjt_119, xjt_126, xjt_159, xjt_576, xjt_999, xjt_9999, xjt_65536, xjt_999999, xt64, xt_n, not_true_eq_false, not_false_eq_true, Classical.not_not] at c_53 c_92 c_99 c_111 c_125
                       all_goals omega)
                    | (have hy : (xbt (fun _ => true) (xtf N s n) (fun _ _ => false) 1) = (xtf N s n 0, 0) := xbt_y rfl (Or.inl (by have e : (xbt (fun _ => true) (xtf N s n) (fun _ _ => false) 0).1 = 65 := rfl; omega))
                       refine xw_cong ?_ rfl rfl (LOOP _ ⟨by omega, J1, rfl, gm, by rw [gq 68 (by decide) (by decide) (by decide)]; exact j2, by rw [gq 67 (by decide) (by decide) (by decide)]; exact j3, by rw [gq 60 (by decide) (by decide) (by decide)]; exact j4, g5⟩)
                       rw [hy]
                       rfl)
                · skip
                  refine xw_go xb_156 5 (f1 := (47, [.ref 60, .int (nI s), .int (nI n), .int (nI t), .int (-4), .int (nI (xtf N s n 0)), .int ((nI 0) + 1), .int (nI (xtf N s n 0)), .int 0], [])) (h1 := (xS b, J1, L, xP b)) rfl trivial ?_
                  refine xw_fg (l0 := [.ref 60, .int (nI s), .int (nI n), .int (nI t), .int (-4), .int (nI (xtf N s n 0)), .int ((nI 0) + 1), .float 0, .float 0]) ⟨Or.inr rfl, Or.inr rfl, Or.inr rfl, Or.inr rfl, Or.inr rfl, Or.inr rfl, Or.inr rfl, Or.inl rfl, Or.inl rfl, trivial⟩ ?_
                  first
                    | (exfalso
                       try simp only [xB_dec, Classical.not_not] at c_53 c_92 c_99 c_111 c_125
                       try simp (disch := omega) only [xt_eq, xt_lt, xt_le, xkt_0, xkt_1, xkt_2, xkt_3, xkt_4, xkt_5, xkt_6, xkt_7, xkt_8, xkt_9, xkt_10, xkt_11, xkt_12, xkt_13, xkt_14, xkt_16, xkt_20, xkt_24, xkt_31, xkt_32, xkt_40, xkt_44, xkt_47, xkt_48, xkt_57, xkt_59, xkt_60, xkt_63, xkt_64, xkt_65, xkt_72, xkt_95, xkt_99, xkt_100, xkt_101, xkt_103, xkt_110, xkt_112, xkt_113, xkt_114, xkt_119, xkt_126, xkt_159, xkt_576, xkt_999, xkt_9999, xkt_65536, xkt_999999, xkt_m1, xkt_m2, xkt_m3, xkt_m4, xkt_m11, xkt_m12, xkt_m13, xkt_m14, xkt_m20, xjt_0, xjt_1, xjt_2, xjt_3, xjt_4, xjt_5, xjt_6, xjt_7, xjt_8, xjt_9, xjt_10, xjt_11, xjt_12, xjt_13, xjt_14, xjt_16, xjt_20, xjt_24, xjt_31, xjt_32, xjt_40, xjt_44, xjt_47, xjt_48, xjt_57, xjt_59, xjt_60, xjt_63, xjt_64, xjt_65, xjt_72, xjt_95, xjt_99, xjt_100, xjt_101, xjt_103, xjt_110, xjt_112, xjt_113, xjt_114, xjt_119, xjt_126, xjt_159, xjt_576, xjt_999, xjt_9999, xjt_65536, xjt_999999, xt64, xt_n, not_true_eq_false, not_false_eq_true, Classical.not_not] at c_53 c_92 c_99 c_111 c_125
                       all_goals omega)
                    | (have hy : (xbt (fun _ => true) (xtf N s n) (fun _ _ => false) 1) = (xtf N s n 0, 0) := xbt_y rfl (Or.inl (by have e : (xbt (fun _ => true) (xtf N s n) (fun _ _ => false) 0).1 = 65 := rfl; omega))
                       refine xw_cong ?_ rfl rfl (LOOP _ ⟨by omega, J1, rfl, gm, by rw [gq 68 (by decide) (by decide) (by decide)]; exact j2, by rw [gq 67 (by decide) (by decide) (by decide)]; exact j3, by rw [gq 60 (by decide) (by decide) (by decide)]; exact j4, g5⟩)
                       rw [hy]
                       rfl)
              · skip
                refine xw_go xb_156 5 (f1 := (if 0 = 0 then 133 else 128, [.ref 60, .int (nI s), .int (nI n), .int (nI t), .int (nI 0), .int (-4), .int (nI 0), .int (nI (xtf N s n 0)), .int 0], [])) (h1 := (xS b, J1, L, xP b)) rfl trivial ?_
                refine xw_if (fun c_125 => ?_) (fun c_125 => ?_)
                · skip
                  refine xw_go xb_156 4 (f1 := (47, [.ref 60, .int (nI s), .int (nI n), .int (nI t), .int (nI 0), .int (-4), .int ((nI 0) + 1), .int (nI (xtf N s n 0)), .int 0], [])) (h1 := (xS b, J1, L, xP b)) rfl trivial ?_
                  refine xw_fg (l0 := [.ref 60, .int (nI s), .int (nI n), .int (nI t), .int (nI 0), .int (-4), .int ((nI 0) + 1), .float 0, .float 0]) ⟨Or.inr rfl, Or.inr rfl, Or.inr rfl, Or.inr rfl, Or.inr rfl, Or.inr rfl, Or.inr rfl, Or.inl rfl, Or.inl rfl, trivial⟩ ?_
                  first
                    | (exfalso
                       try simp only [xB_dec, Classical.not_not] at c_53 c_92 c_99 c_111 c_125
                       try simp (disch := omega) only [xt_eq, xt_lt, xt_le, xkt_0, xkt_1, xkt_2, xkt_3, xkt_4, xkt_5, xkt_6, xkt_7, xkt_8, xkt_9, xkt_10, xkt_11, xkt_12, xkt_13, xkt_14, xkt_16, xkt_20, xkt_24, xkt_31, xkt_32, xkt_40, xkt_44, xkt_47, xkt_48, xkt_57, xkt_59, xkt_60, xkt_63, xkt_64, xkt_65, xkt_72, xkt_95, xkt_99, xkt_100, xkt_101, xkt_103, xkt_110, xkt_112, xkt_113, xkt_114, xkt_119, xkt_126, xkt_159, xkt_576, xkt_999, xkt_9999, xkt_65536, xkt_999999, xkt_m1, xkt_m2, xkt_m3, xkt_m4, xkt_m11, xkt_m12, xkt_m13, xkt_m14, xkt_m20, xjt_0, xjt_1, xjt_2, xjt_3, xjt_4, xjt_5, xjt_6, xjt_7, xjt_8, xjt_9, xjt_10, xjt_11, xjt_12, xjt_13, xjt_14, xjt_16, xjt_20, xjt_24, xjt_31, xjt_32, xjt_40, xjt_44, xjt_47, xjt_48, xjt_57, xjt_59, xjt_60, xjt_63, xjt_64, xjt_65, xjt_72, xjt_95, xjt_99, xjt_100, xjt_101, xjt_103, xjt_110, xjt_112, xjt_113, xjt_114, xjt_119, xjt_126, xjt_159, xjt_576, xjt_999, xjt_9999, xjt_65536, xjt_999999, xt64, xt_n, not_true_eq_false, not_false_eq_true, Classical.not_not] at c_53 c_92 c_99 c_111 c_125
                       all_goals omega)
                    | (have hy : (xbt (fun _ => true) (xtf N s n) (fun _ _ => false) 1) = (xtf N s n 0, 0) := xbt_y rfl (Or.inl (by have e : (xbt (fun _ => true) (xtf N s n) (fun _ _ => false) 0).1 = 65 := rfl; omega))
                       refine xw_cong ?_ rfl rfl (LOOP _ ⟨by omega, J1, rfl, gm, by rw [gq 68 (by decide) (by decide) (by decide)]; exact j2, by rw [gq 67 (by decide) (by decide) (by decide)]; exact j3, by rw [gq 60 (by decide) (by decide) (by decide)]; exact j4, g5⟩)
                       rw [hy]
                       rfl)
                · skip
                  refine xw_go xb_156 5 (f1 := (47, [.ref 60, .int (nI s), .int (nI n), .int (nI t), .int (nI 0), .int (nI (xtf N s n 0)), .int ((nI 0) + 1), .int (nI (xtf N s n 0)), .int 0], [])) (h1 := (xS b, J1, L, xP b)) rfl trivial ?_
                  refine xw_fg (l0 := [.ref 60, .int (nI s), .int (nI n), .int (nI t), .int (nI 0), .int (nI (xtf N s n 0)), .int ((nI 0) + 1), .float 0, .float 0]) ⟨Or.inr rfl, Or.inr rfl, Or.inr rfl, Or.inr rfl, Or.inr rfl, Or.inr rfl, Or.inr rfl, Or.inl rfl, Or.inl rfl, trivial⟩ ?_
                  first
                    | (exfalso
                       try simp only [xB_dec, Classical.not_not] at c_53 c_92 c_99 c_111 c_125
                       try simp (disch := omega) only [xt_eq, xt_lt, xt_le, xkt_0, xkt_1, xkt_2, xkt_3, xkt_4, xkt_5, xkt_6, xkt_7, xkt_8, xkt_9, xkt_10, xkt_11, xkt_12, xkt_13, xkt_14, xkt_16, xkt_20, xkt_24, xkt_31, xkt_32, xkt_40, xkt_44, xkt_47, xkt_48, xkt_57, xkt_59, xkt_60, xkt_63, xkt_64, xkt_65, xkt_72, xkt_95, xkt_99, xkt_100, xkt_101, xkt_103, xkt_110, xkt_112, xkt_113, xkt_114, xkt_119, xkt_126, xkt_159, xkt_576, xkt_999, xkt_9999, xkt_65536, xkt_999999, xkt_m1, xkt_m2, xkt_m3, xkt_m4, xkt_m11, xkt_m12, xkt_m13, xkt_m14, xkt_m20, xjt_0, xjt_1, xjt_2, xjt_3, xjt_4, xjt_5, xjt_6, xjt_7, xjt_8, xjt_9, xjt_10, xjt_11, xjt_12, xjt_13, xjt_14, xjt_16, xjt_20, xjt_24, xjt_31, xjt_32, xjt_40, xjt_44, xjt_47, xjt_48, xjt_57, xjt_59, xjt_60, xjt_63, xjt_64, xjt_65, xjt_72, xjt_95, xjt_99, xjt_100, xjt_101, xjt_103, xjt_110, xjt_112, xjt_113, xjt_114, xjt_119, xjt_126, xjt_159, xjt_576, xjt_999, xjt_9999, xjt_65536, xjt_999999, xt64, xt_n, not_true_eq_false, not_false_eq_true, Classical.not_not] at c_53 c_92 c_99 c_111 c_125
                       all_goals omega)
                    | (have hy : (xbt (fun _ => true) (xtf N s n) (fun _ _ => false) 1) = (xtf N s n 0, 0) := xbt_y rfl (Or.inl (by have e : (xbt (fun _ => true) (xtf N s n) (fun _ _ => false) 0).1 = 65 := rfl; omega))
                       refine xw_cong ?_ rfl rfl (LOOP _ ⟨by omega, J1, rfl, gm, by rw [gq 68 (by decide) (by decide) (by decide)]; exact j2, by rw [gq 67 (by decide) (by decide) (by decide)]; exact j3, by rw [gq 60 (by decide) (by decide) (by decide)]; exact j4, g5⟩)
                       rw [hy]
                       rfl)
            · skip
              refine xw_go xb_156 5 (f1 := (if 1 = 0 then 119 else 114, [.ref 60, .int (nI s), .int (nI n), .int (nI t), .int (-4), .int (-4), .int (nI 0), .int (nI (xtf N s n 0)), .int 1], [])) (h1 := (xS b, J1, L, xP b)) rfl trivial ?_
              refine xw_if (fun c_111 => ?_) (fun c_111 => ?_)
              · skip
                refine xw_go xb_156 4 (f1 := (if 1 = 0 then 133 else 128, [.ref 60, .int (nI s), .int (nI n), .int (nI t), .int (-4), .int (-4), .int (nI 0), .int (nI (xtf N s n 0)), .int 1], [])) (h1 := (xS b, J1, L, xP b)) rfl trivial ?_
                refine xw_if (fun c_125 => ?_) (fun c_125 => ?_)
                · skip
                  refine xw_go xb_156 4 (f1 := (47, [.ref 60, .int (nI s), .int (nI n), .int (nI t), .int (-4), .int (-4), .int ((nI 0) + 1), .int (nI (xtf N s n 0)), .int 1], [])) (h1 := (xS b, J1, L, xP b)) rfl trivial ?_
                  refine xw_fg (l0 := [.ref 60, .int (nI s), .int (nI n), .int (nI t), .int (-4), .int (-4), .int ((nI 0) + 1), .float 0, .float 0]) ⟨Or.inr rfl, Or.inr rfl, Or.inr rfl, Or.inr rfl, Or.inr rfl, Or.inr rfl, Or.inr rfl, Or.inl rfl, Or.inl rfl, trivial⟩ ?_
                  first
                    | (exfalso
                       try simp only [xB_dec, Classical.not_not] at c_53 c_92 c_99 c_111 c_125
                       try simp (disch := omega) only [xt_eq, xt_lt, xt_le, xkt_0, xkt_1, xkt_2, xkt_3, xkt_4, xkt_5, xkt_6, xkt_7, xkt_8, xkt_9, xkt_10, xkt_11, xkt_12, xkt_13, xkt_14, xkt_16, xkt_20, xkt_24, xkt_31, xkt_32, xkt_40, xkt_44, xkt_47, xkt_48, xkt_57, xkt_59, xkt_60, xkt_63, xkt_64, xkt_65, xkt_72, xkt_95, xkt_99, xkt_100, xkt_101, xkt_103, xkt_110, xkt_112, xkt_113, xkt_114, xkt_119, xkt_126, xkt_159, xkt_576, xkt_999, xkt_9999, xkt_65536, xkt_999999, xkt_m1, xkt_m2, xkt_m3, xkt_m4, xkt_m11, xkt_m12, xkt_m13, xkt_m14, xkt_m20, xjt_0, xjt_1, xjt_2, xjt_3, xjt_4, xjt_5, xjt_6, xjt_7, xjt_8, xjt_9, xjt_10, xjt_11, xjt_12, xjt_13, xjt_14, xjt_16, xjt_20, xjt_24, xjt_31, xjt_32, xjt_40, xjt_44, xjt_47, xjt_48, xjt_57, xjt_59, xjt_60, xjt_63, xjt_64, xjt_65, xjt_72, xjt_95, xjt_99, xjt_100, xjt_101, xjt_103, xjt_110, xjt_112, xjt_113, xjt_114, xjt_119, xjt_126, xjt_159, xjt_576, xjt_999, xjt_9999, xjt_65536, xjt_999999, xt64, xt_n, not_true_eq_false, not_false_eq_true, Classical.not_not] at c_53 c_92 c_99 c_111 c_125
                       all_goals omega)
                    | (have hy : (xbt (fun _ => true) (xtf N s n) (fun _ _ => false) 1) = (xtf N s n 0, 0) := xbt_y rfl (Or.inl (by have e : (xbt (fun _ => true) (xtf N s n) (fun _ _ => false) 0).1 = 65 := rfl; omega))
                       refine xw_cong ?_ rfl rfl (LOOP _ ⟨by omega, J1, rfl, gm, by rw [gq 68 (by decide) (by decide) (by decide)]; exact j2, by rw [gq 67 (by decide) (by decide) (by decide)]; exact j3, by rw [gq 60 (by decide) (by decide) (by decide)]; exact j4, g5⟩)
                       rw [hy]
                       rfl)
                · skip
                  refine xw_go xb_156 5 (f1 := (47, [.ref 60, .int (nI s), .int (nI n), .int (nI t), .int (-4), .int (nI (xtf N s n 0)), .int ((nI 0) + 1), .int (nI (xtf N s n 0)), .int 1], [])) (h1 := (xS b, J1, L, xP b)) rfl trivial ?_
                  refine xw_fg (l0 := [.ref 60, .int (nI s), .int (nI n), .int (nI t), .int (-4), .int (nI (xtf N s n 0)), .int ((nI 0) + 1), .float 0, .float 0]) ⟨Or.inr rfl, Or.inr rfl, Or.inr rfl, Or.inr rfl, Or.inr rfl, Or.inr rfl, Or.inr rfl, Or.inl rfl, Or.inl rfl, trivial⟩ ?_
                  first
                    | (exfalso
                       try simp only [xB_dec, Classical.not_not] at c_53 c_92 c_99 c_111 c_125
                       try simp (disch := omega) only [xt_eq, xt_lt, xt_le, xkt_0, xkt_1, xkt_2, xkt_3, xkt_4, xkt_5, xkt_6, xkt_7, xkt_8, xkt_9, xkt_10, xkt_11, xkt_12, xkt_13, xkt_14, xkt_16, xkt_20, xkt_24, xkt_31, xkt_32, xkt_40, xkt_44, xkt_47, xkt_48, xkt_57, xkt_59, xkt_60, xkt_63, xkt_64, xkt_65, xkt_72, xkt_95, xkt_99, xkt_100, xkt_101, xkt_103, xkt_110, xkt_112, xkt_113, xkt_114, xkt_119, xkt_126, xkt_159, xkt_576, xkt_999, xkt_9999, xkt_65536, xkt_999999, xkt_m1, xkt_m2, xkt_m3, xkt_m4, xkt_m11, xkt_m12, xkt_m13, xkt_m14, xkt_m20, xjt_0, xjt_1, xjt_2, xjt_3, xjt_4, xjt_5, xjt_6, xjt_7, xjt_8, xjt_9, xjt_10, xjt_11, xjt_12, xjt_13, xjt_14, xjt_16, xjt_20, xjt_24, xjt_31, xjt_32, xjt_40, xjt_44, xjt_47, xjt_48, xjt_57, xjt_59, xjt_60, xjt_63, xjt_64, xjt_65, xjt_72, xjt_95, xjt_99, xjt_100, xjt_101, xjt_103, xjt_110, xjt_112, xjt_113, xjt_114, xjt_119, xjt_126, xjt_159, xjt_576, xjt_999, xjt_9999, xjt_65536, xjt_999999, xt64, xt_n, not_true_eq_false, not_false_eq_true, Classical.not_not] at c_53 c_92 c_99 c_111 c_125
                       all_goals omega)
                    | (have hy : (xbt (fun _ => true) (xtf N s n) (fun _ _ => false) 1) = (xtf N s n 0, 0) := xbt_y rfl (Or.inl (by have e : (xbt (fun _ => true) (xtf N s n) (fun _ _ => false) 0).1 = 65 := rfl; omega))
                       refine xw_cong ?_ rfl rfl (LOOP _ ⟨by omega, J1, rfl, gm, by rw [gq 68 (by decide) (by decide) (by decide)]; exact j2, by rw [gq 67 (by decide) (by decide) (by decide)]; exact j3, by rw [gq 60 (by decide) (by decide) (by decide)]; exact j4, g5⟩)
                       rw [hy]
                       rfl)
              · skip
                refine xw_go xb_156 5 (f1 := (if 1 = 0 then 133 else 128, [.ref 60, .int (nI s), .int (nI n), .int (nI t), .int (nI 0), .int (-4), .int (nI 0), .int (nI (xtf N s n 0)), .int 1], [])) (h1 := (xS b, J1, L, xP b)) rfl trivial ?_
                refine xw_if (fun c_125 => ?_) (fun c_125 => ?_)
                · skip
                  refine xw_go xb_156 4 (f1 := (47, [.ref 60, .int (nI s), .int (nI n), .int (nI t), .int (nI 0), .int (-4), .int ((nI 0) + 1), .int (nI (xtf N s n 0)), .int 1], [])) (h1 := (xS b, J1, L, xP b)) rfl trivial ?_
                  refine xw_fg (l0 := [.ref 60, .int (nI s), .int (nI n), .int (nI t), .int (nI 0), .int (-4), .int ((nI 0) + 1), .float 0, .float 0]) ⟨Or.inr rfl, Or.inr rfl, Or.inr rfl, Or.inr rfl, Or.inr rfl, Or.inr rfl, Or.inr rfl, Or.inl rfl, Or.inl rfl, trivial⟩ ?_
                  first
                    | (exfalso
                       try simp only [xB_dec, Classical.not_not] at c_53 c_92 c_99 c_111 c_125
                       try simp (disch := omega) only [xt_eq, xt_lt, xt_le, xkt_0, xkt_1, xkt_2, xkt_3, xkt_4, xkt_5, xkt_6, xkt_7, xkt_8, xkt_9, xkt_10, xkt_11, xkt_12, xkt_13, xkt_14, xkt_16, xkt_20, xkt_24, xkt_31, xkt_32, xkt_40, xkt_44, xkt_47, xkt_48, xkt_57, xkt_59, xkt_60, xkt_63, xkt_64, xkt_65, xkt_72, xkt_95, xkt_99, xkt_100, xkt_101, xkt_103, xkt_110, xkt_112, xkt_113, xkt_114, xkt_119, xkt_126, xkt_159, xkt_576, xkt_999, xkt_9999, xkt_65536, xkt_999999, xkt_m1, xkt_m2, xkt_m3, xkt_m4, xkt_m11, xkt_m12, xkt_m13, xkt_m14, xkt_m20, xjt_0, xjt_1, xjt_2, xjt_3, xjt_4, xjt_5, xjt_6, xjt_7, xjt_8, xjt_9, xjt_10, xjt_11, xjt_12, xjt_13, xjt_14, xjt_16, xjt_20, xjt_24, xjt_31, xjt_32, xjt_40, xjt_44, xjt_47, xjt_48, xjt_57, xjt_59, xjt_60, xjt_63, xjt_64, xjt_65, xjt_72, xjt_95, xjt_99, xjt_100, xjt_101, xjt_103, xjt_110, xjt_112, xjt_113, xjt_114, xjt_119, xjt_126, xjt_159, xjt_576, xjt_999, xjt_9999, xjt_65536, xjt_999999, xt64, xt_n, not_true_eq_false, not_false_eq_true, Classical.not_not] at c_53 c_92 c_99 c_111 c_125
                       all_goals omega)
                    | (have hy : (xbt (fun _ => true) (xtf N s n) (fun _ _ => false) 1) = (xtf N s n 0, 0) := xbt_y rfl (Or.inl (by have e : (xbt (fun _ => true) (xtf N s n) (fun _ _ => false) 0).1 = 65 := rfl; omega))
                       refine xw_cong ?_ rfl rfl (LOOP _ ⟨by omega, J1, rfl, gm, by rw [gq 68 (by decide) (by decide) (by decide)]; exact j2, by rw [gq 67 (by decide) (by decide) (by decide)]; exact j3, by rw [gq 60 (by decide) (by decide) (by decide)]; exact j4, g5⟩)
                       rw [hy]
                       rfl)
                · skip
                  refine xw_go xb_156 5 (f1 := (47, [.ref 60, .int (nI s), .int (nI n), .int (nI t), .int (nI 0), .int (nI (xtf N s n 0)), .int ((nI 0) + 1), .int (nI (xtf N s n 0)), .int 1], [])) (h1 := (xS b, J1, L, xP b)) rfl trivial ?_
                  refine xw_fg (l0 := [.ref 60, .int (nI s), .int (nI n), .int (nI t), .int (nI 0), .int (nI (xtf N s n 0)), .int ((nI 0) + 1), .float 0, .float 0]) ⟨Or.inr rfl, Or.inr rfl, Or.inr rfl, Or.inr rfl, Or.inr rfl, Or.inr rfl, Or.inr rfl, Or.inl rfl, Or.inl rfl, trivial⟩ ?_
                  first
                    | (exfalso
                       try simp only [xB_dec, Classical.not_not] at c_53 c_92 c_99 c_111 c_125
                       try simp (disch := omega) only [xt_eq, xt_lt, xt_le, xkt_0, xkt_1, xkt_2, xkt_3, xkt_4, xkt_5, xkt_6, xkt_7, xkt_8, xkt_9, xkt_10, xkt_11, xkt_12, xkt_13, xkt_14, xkt_16, xkt_20, xkt_24, xkt_31, xkt_32, xkt_40, xkt_44, xkt_47, xkt_48, xkt_57, xkt_59, xkt_60, xkt_63, xkt_64, xkt_65, xkt_72, xkt_95, xkt_99, xkt_100, xkt_101, xkt_103, xkt_110, xkt_112, xkt_113, xkt_114, xkt_119, xkt_126, xkt_159, xkt_576, xkt_999, xkt_9999, xkt_65536, xkt_999999, xkt_m1, xkt_m2, xkt_m3, xkt_m4, xkt_m11, xkt_m12, xkt_m13, xkt_m14, xkt_m20, xjt_0, xjt_1, xjt_2, xjt_3, xjt_4, xjt_5, xjt_6, xjt_7, xjt_8, xjt_9, xjt_10, xjt_11, xjt_12, xjt_13, xjt_14, xjt_16, xjt_20, xjt_24, xjt_31, xjt_32, xjt_40, xjt_44, xjt_47, xjt_48, xjt_57, xjt_59, xjt_60, xjt_63, xjt_64, xjt_65, xjt_72, xjt_95, xjt_99, xjt_100, xjt_101, xjt_103, xjt_110, xjt_112, xjt_113, xjt_114, xjt_119, xjt_126, xjt_159, xjt_576, xjt_999, xjt_9999, xjt_65536, xjt_999999, xt64, xt_n, not_true_eq_false, not_false_eq_true, Classical.not_not] at c_53 c_92 c_99 c_111 c_125
                       all_goals omega)
                    | (have hy : (xbt (fun _ => true) (xtf N s n) (fun _ _ => false) 1) = (xtf N s n 0, 0) := xbt_y rfl (Or.inl (by have e : (xbt (fun _ => true) (xtf N s n) (fun _ _ => false) 0).1 = 65 := rfl; omega))
                       refine xw_cong ?_ rfl rfl (LOOP _ ⟨by omega, J1, rfl, gm, by rw [gq 68 (by decide) (by decide) (by decide)]; exact j2, by rw [gq 67 (by decide) (by decide) (by decide)]; exact j3, by rw [gq 60 (by decide) (by decide) (by decide)]; exact j4, g5⟩)
                       rw [hy]
                       rfl)
      · skip
        exfalso
        try simp only [xB_dec, Classical.not_not] at c_5 c_17 c_27
        try simp (disch := omega) only [xt_eq, xt_lt, xt_le, xkt_0, xkt_1, xkt_2, xkt_3, xkt_4, xkt_5, xkt_6, xkt_7, xkt_8, xkt_9, xkt_10, xkt_11, xkt_12, xkt_13, xkt_14, xkt_16, xkt_20, xkt_24, xkt_31, xkt_32, xkt_40, xkt_44, xkt_47, xkt_48, xkt_57, xkt_59, xkt_60, xkt_63, xkt_64, xkt_65, xkt_72, xkt_95, xkt_99, xkt_100, xkt_101, xkt_103, xkt_110, xkt_112, xkt_113, xkt_114, xkt_119, xkt_126, xkt_159, xkt_576, xkt_999, xkt_9999, xkt_65536, xkt_999999, xkt_m1, xkt_m2, xkt_m3, xkt_m4, xkt_m11, xkt_m12, xkt_m13, xkt_m14, xkt_m20, xjt_0, xjt_1, xjt_2, xjt_3, xjt_4, xjt_5, xjt_6, xjt_7, xjt_8, xjt_9, xjt_10, xjt_11, xjt_12, xjt_13, xjt_14, xjt_16, xjt_20, xjt_24, xjt_31, xjt_32, xjt_40, xjt_44, xjt_47, xjt_48, xjt_57, xjt_59, xjt_60, xjt_63, xjt_64, xjt_65, xjt_72, xjt_95, xjt_99, xjt_100, xjt_101, xjt_103, xjt_110, xjt_112, xjt_113, xjt_114, xjt_119, xjt_126, xjt_159, xjt_576, xjt_999, xjt_9999, xjt_65536, xjt_999999, xt64, xt_n, not_true_eq_false, not_false_eq_true, Classical.not_not] at c_5 c_17 c_27
        all_goals omega

