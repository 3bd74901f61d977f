/-! ===== sheets ===== -/
theorem xP_51 {b : Bool} {p : Nat} (h : p < 4) : xP b 51 p = some (52 + 2 * p) := by
  match p, h with
  | 0, _ => rfl
  | 1, _ => rfl
  | 2, _ => rfl
  | 3, _ => rfl
theorem xP_52 {b : Bool} {p : Nat} (h : p < 4) : xP b (52 + 2 * p) 3 = some (53 + 2 * p) := by
  match p, h with
  | 0, _ => rfl
  | 1, _ => rfl
  | 2, _ => rfl
  | 3, _ => rfl
theorem xS_52 {b : Bool} {p : Nat} (h : p < 4) : (xS b)[52 + 2 * p]? = some (10, 4) := by
  match p, h with
  | 0, _ => rfl
  | 1, _ => rfl
  | 2, _ => rfl
  | 3, _ => rfl
theorem xS_53 {b : Bool} {p : Nat} (h : p < 4) : (xS b)[53 + 2 * p]? = some (1, 24) := by
  match p, h with
  | 0, _ => rfl
  | 1, _ => rfl
  | 2, _ => rfl
  | 3, _ => rfl
/-- a sheet: whether it is held, its lane, its size, its items -/
abbrev xY : Type := Nat → Bool × Nat × Nat × (Nat → Int64)
def xSH (Y : xY) (I : Nat → Nat → Int32) (L : Nat → Nat → Int64) : Prop := ∀ s, s < 4 → I (52 + 2 * s) 0 = nI (xB (Y s).1) ∧ I (52 + 2 * s) 1 = nI (Y s).2.1 ∧ I (52 + 2 * s) 2 = nI (Y s).2.2.1 ∧ ∀ k, k < 24 → L (53 + 2 * s) k = (Y s).2.2.2 k
def xln (y : Bool × Nat × Nat × (Nat → Int64)) : Int32 := if y.1 = true then nI y.2.1 else -1
def xSM (Y : xY) (I : Nat → Nat → Int32) (L : Nat → Nat → Int64) : Prop := ∀ s, s < 4 → I 70 s = xln (Y s) ∧ I 71 s = nI (Y s).2.2.1 ∧ ∀ k, k < 24 → L 72 (24 * s + k) = (Y s).2.2.2 k
def xYK (Y : xY) : Prop := ∀ s, s < 4 → (Y s).2.1 < 4 ∧ (Y s).2.2.1 ≤ 24
theorem xln_neg {y : Bool × Nat × Nat × (Nat → Int64)} (h : y.2.1 < 4) : 0 ≤ xln y ↔ y.1 = true := by
  unfold xln
  cases hy : y.1
  · rw [if_neg (by decide)]
    exact ⟨fun q => absurd q (by decide), fun q => by cases q⟩
  · rw [if_pos rfl, xl_0, nI_leI (by omega) (by omega)]
    exact ⟨fun _ => rfl, fun _ => by omega⟩
theorem xln_t {y : Bool × Nat × Nat × (Nat → Int64)} (h : y.1 = true) : xln y = nI y.2.1 := by
  unfold xln
  rw [if_pos h]
/-- what stands against n items from i on -/
def xwy (y : Bool × Nat × Nat × (Nat → Int64)) (la : Nat) (i n : Int32) : Int32 := if y.1 = false then -11 else if y.2.1 ≠ la then -12 else if 0 ≤ i.toInt ∧ 0 ≤ n.toInt ∧ i.toInt + n.toInt ≤ (y.2.2.1 : Int) then 0 else -13
theorem xwy_0 {y : Bool × Nat × Nat × (Nat → Int64)} {la : Nat} {i n : Int32} (h : xwy y la i n = 0) : y.1 = true ∧ y.2.1 = la ∧ 0 ≤ i.toInt ∧ 0 ≤ n.toInt ∧ i.toInt + n.toInt ≤ (y.2.2.1 : Int) := by
  unfold xwy at h
  split at h
  · exact absurd h (by decide)
  · rename_i h1
    split at h
    · exact absurd h (by decide)
    · rename_i h2
      split at h
      · rename_i h3
        exact ⟨by simpa using h1, by simpa using h2, h3⟩
      · exact absurd h (by decide)
theorem xwy_n {y : Bool × Nat × Nat × (Nat → Int64)} {la : Nat} {i n : Int32} : xwy y la i n = 0 ∨ xwy y la i n = -11 ∨ xwy y la i n = -12 ∨ xwy y la i n = -13 := by
  unfold xwy
  (repeat' split) <;> simp
theorem xwy_ge {y : Bool × Nat × Nat × (Nat → Int64)} {la : Nat} {i n : Int32} : 0 ≤ xwy y la i n ↔ xwy y la i n = 0 := by
  rcases xwy_n (y := y) (la := la) (i := i) (n := n) with h | h | h | h <;> rw [h] <;> decide
/-- what a lane keeps of a number -/
def xct (la : Nat) (v : Int64) : Int64 := if la = 0 then v.toInt32.toInt8.toInt32.toInt64 else if la = 1 then v.toInt32.toInt16.toInt32.toInt64 else if la = 2 then v.toInt32.toInt64 else v
theorem xSH_u {Y : xY} {I I' : Nat → Nat → Int32} {L L' : Nat → Nat → Int64} (h : xSH Y I L) {s : Nat} (hs : s < 4) {hd : Bool} {la sz : Nat} {it : Nat → Int64} (h0 : I' (52 + 2 * s) 0 = nI (xB hd)) (h1 : I' (52 + 2 * s) 1 = nI la) (h2 : I' (52 + 2 * s) 2 = nI sz) (h3 : ∀ k, k < 24 → L' (53 + 2 * s) k = it k) (hi : ∀ a, a ≠ 52 + 2 * s → I' a = I a) (hl : ∀ a, a ≠ 53 + 2 * s → L' a = L a) : xSH (va_up Y s (hd, la, sz, it)) I' L' := by
  intro t ht
  by_cases e : t = s
  · subst e
    simp only [va_up, if_true]
    exact ⟨h0, h1, h2, h3⟩
  · simp only [va_up, e, if_false]
    rw [hi _ (by omega), hl _ (by omega)]
    exact h t ht
theorem xSM_u {Y : xY} {I I' : Nat → Nat → Int32} {L L' : Nat → Nat → Int64} (h : xSM Y I L) {s : Nat} (hs : s < 4) {hd : Bool} {la sz : Nat} {it : Nat → Int64} (h0 : I' 70 s = xln (hd, la, sz, it)) (h1 : I' 71 s = nI sz) (h3 : ∀ k, k < 24 → L' 72 (24 * s + k) = it k) (hi : ∀ k, k ≠ s → I' 70 k = I 70 k ∧ I' 71 k = I 71 k) (hl : ∀ k, (k < 24 * s ∨ 24 * s + 24 ≤ k) → L' 72 k = L 72 k) : xSM (va_up Y s (hd, la, sz, it)) I' L' := by
  intro t ht
  by_cases e : t = s
  · subst e
    simp only [va_up, if_true]
    exact ⟨h0, h1, h3⟩
  · simp only [va_up, e, if_false]
    rw [(hi _ e).1, (hi _ e).2]
    refine ⟨(h t ht).1, (h t ht).2.1, fun k hk => ?_⟩
    rw [hl _ (by omega)]
    exact (h t ht).2.2 k hk
theorem xYK_u {Y : xY} (h : xYK Y) {s : Nat} {hd : Bool} {la sz : Nat} {it : Nat → Int64} (h1 : la < 4) (h2 : sz ≤ 24) : xYK (va_up Y s (hd, la, sz, it)) := by
  intro t ht
  by_cases e : t = s
  · subst e
    simp only [va_up, if_true]
    exact ⟨h1, h2⟩
  · simp only [va_up, e, if_false]
    exact h t ht
def xHC (b : Bool) (I : Nat → Nat → Int32) (L : Nat → Nat → Int64) (v : Int32) (Y : xY) (rz : Option Value) (hz : xm_H) : Prop := rz = some (.int v) ∧ ∃ I' L', hz = (xS b, I', L', xP b) ∧ xSH Y I' L' ∧ ∀ a, a < 52 ∨ 60 ≤ a → I' a = I a ∧ L' a = L a
def xHM (b : Bool) (I : Nat → Nat → Int32) (L : Nat → Nat → Int64) (v : Int32) (Y : xY) (rz : Option Value) (hz : xm_H) : Prop := rz = some (.int v) ∧ ∃ I' L', hz = (xS b, I', L', xP b) ∧ xSM Y I' L' ∧ (∀ a, a ≠ 70 → a ≠ 71 → I' a = I a) ∧ ∀ a, a < 72 ∨ 74 ≤ a → L' a = L a
theorem xHC_s {b : Bool} {I : Nat → Nat → Int32} {L : Nat → Nat → Int64} {v : Int32} {Y : xY} (h : xSH Y I L) : xHC b I L v Y (some (.int v)) (xS b, I, L, xP b) := ⟨rfl, I, L, rfl, h, fun _ _ => ⟨rfl, rfl⟩⟩
theorem xHM_s {b : Bool} {I : Nat → Nat → Int32} {L : Nat → Nat → Int64} {v : Int32} {Y : xY} (h : xSM Y I L) : xHM b I L v Y (some (.int v)) (xS b, I, L, xP b) := ⟨rfl, I, L, rfl, h, fun _ _ _ => rfl, fun _ _ => rfl⟩
theorem xup_t {α : Type} {f g : Nat → Nat → α} {a k : Nat} {v : α} {x : Nat} (h : f x = g x) : xm_up f a k v x = xm_up g a k v x := by
  by_cases e : x = a
  · subst e
    rw [xm_up_s, xm_up_s, h]
  · rw [xm_up_o e, xm_up_o e, h]
theorem c_hasItems {d : Nat} {S : List (Nat × Nat)} {I : Nat → Nat → Int32} {L : Nat → Nat → Int64} {P : Nat → Nat → Option Nat} {a z : Nat} {x y : Int32} (ho : S[a]? = some (10, 4)) (hz : I a 2 = nI z) (bz : z ≤ 24) : xm_Z (d + 1) 94 [.ref a, .int x, .int y] (S, I, L, P) (fun rz hz => rz = some (.int (nI (xB (decide (0 ≤ x.toInt ∧ 0 ≤ y.toInt ∧ x.toInt + y.toInt ≤ (z : Int)))))) ∧ hz = (S, I, L, P)) := by
  refine xw_S xb_94 (l := [.ref a, .int x, .int y]) (Nat.le_of_ble_eq_true rfl) rfl ?_
  refine xw_go xb_94 2 (f1 := (if x < 0 then 22 else 4, [.ref a, .int x, .int y], [])) (h1 := (S, I, L, P)) rfl trivial ?_
  refine xw_if (fun c_1 => ?_) (fun c_1 => ?_)
  · skip
    refine xw_go xb_94 1 (f1 := (23, [.ref a, .int x, .int y], [.int 0])) (h1 := (S, I, L, P)) rfl trivial ?_
    refine xw_ret xb_94 rfl rfl ?_ ?_
    · first | exact Or.inl rfl | exact Or.inr rfl
    refine ⟨xm_some (congrArg Value.int ?_), rfl⟩
    have hy := Int32.toInt_lt y
    have hs : 0 ≤ y.toInt → (nI z - y).toInt = (z : Int) - y.toInt := fun q => by
      rw [Int32.toInt_sub, xt_n (by omega)]
      exact Int.bmod_eq_of_le (by omega) (by omega)
    simp only [xt_lt, xt_le, Int32.toInt_zero] at c_1
    first | (rw [show decide (0 ≤ x.toInt ∧ 0 ≤ y.toInt ∧ x.toInt + y.toInt ≤ (z : Int)) = true from decide_eq_true (by have := hs (by omega); omega)]; rfl) | (rw [show decide (0 ≤ x.toInt ∧ 0 ≤ y.toInt ∧ x.toInt + y.toInt ≤ (z : Int)) = false from decide_eq_false (fun q => by have := hs (by omega); omega)]; rfl)
  · skip
    refine xw_go xb_94 2 (f1 := (if y < 0 then 22 else 8, [.ref a, .int x, .int y], [])) (h1 := (S, I, L, P)) rfl trivial ?_
    refine xw_if (fun c_5 => ?_) (fun c_5 => ?_)
    · skip
      refine xw_go xb_94 1 (f1 := (23, [.ref a, .int x, .int y], [.int 0])) (h1 := (S, I, L, P)) rfl trivial ?_
      refine xw_ret xb_94 rfl rfl ?_ ?_
      · first | exact Or.inl rfl | exact Or.inr rfl
      refine ⟨xm_some (congrArg Value.int ?_), rfl⟩
      have hy := Int32.toInt_lt y
      have hs : 0 ≤ y.toInt → (nI z - y).toInt = (z : Int) - y.toInt := fun q => by
        rw [Int32.toInt_sub, xt_n (by omega)]
        exact Int.bmod_eq_of_le (by omega) (by omega)
      simp only [xt_lt, xt_le, Int32.toInt_zero] at c_1 c_5
      first | (rw [show decide (0 ≤ x.toInt ∧ 0 ≤ y.toInt ∧ x.toInt + y.toInt ≤ (z : Int)) = true from decide_eq_true (by have := hs (by omega); omega)]; rfl) | (rw [show decide (0 ≤ x.toInt ∧ 0 ≤ y.toInt ∧ x.toInt + y.toInt ≤ (z : Int)) = false from decide_eq_false (fun q => by have := hs (by omega); omega)]; rfl)
    · skip
      refine xw_go xb_94 5 (f1 := (15, [.ref a, .int x, .int y], [.int ((I a 2) - y), .int x])) (h1 := (S, I, L, P)) rfl ⟨ho, trivial⟩ ?_
      refine xw_cong (l' := [.ref a, .int x, .int y]) (st' := [.int (nI z - y), .int x]) (h' := (S, I, L, P)) rfl (show ([.int ((I a 2) - y), .int x] : List Value) = [.int (nI z - y), .int x] from ?_) rfl ?_
      · rw [hz]
      refine xw_go xb_94 1 (f1 := (if (nI z - y) < x then 22 else 18, [.ref a, .int x, .int y], [])) (h1 := (S, I, L, P)) rfl trivial ?_
      refine xw_if (fun c_15 => ?_) (fun c_15 => ?_)
      · skip
        refine xw_go xb_94 1 (f1 := (23, [.ref a, .int x, .int y], [.int 0])) (h1 := (S, I, L, P)) rfl trivial ?_
        refine xw_ret xb_94 rfl rfl ?_ ?_
        · first | exact Or.inl rfl | exact Or.inr rfl
        refine ⟨xm_some (congrArg Value.int ?_), rfl⟩
        have hy := Int32.toInt_lt y
        have hs : 0 ≤ y.toInt → (nI z - y).toInt = (z : Int) - y.toInt := fun q => by
          rw [Int32.toInt_sub, xt_n (by omega)]
          exact Int.bmod_eq_of_le (by omega) (by omega)
        simp only [xt_lt, xt_le, Int32.toInt_zero] at c_1 c_5 c_15
        first | (rw [show decide (0 ≤ x.toInt ∧ 0 ≤ y.toInt ∧ x.toInt + y.toInt ≤ (z : Int)) = true from decide_eq_true (by have := hs (by omega); omega)]; rfl) | (rw [show decide (0 ≤ x.toInt ∧ 0 ≤ y.toInt ∧ x.toInt + y.toInt ≤ (z : Int)) = false from decide_eq_false (fun q => by have := hs (by omega); omega)]; rfl)
      · skip
        refine xw_go xb_94 2 (f1 := (23, [.ref a, .int x, .int y], [.int 1])) (h1 := (S, I, L, P)) rfl trivial ?_
        refine xw_ret xb_94 rfl rfl ?_ ?_
        · first | exact Or.inl rfl | exact Or.inr rfl
        refine ⟨xm_some (congrArg Value.int ?_), rfl⟩
        have hy := Int32.toInt_lt y
        have hs : 0 ≤ y.toInt → (nI z - y).toInt = (z : Int) - y.toInt := fun q => by
          rw [Int32.toInt_sub, xt_n (by omega)]
          exact Int.bmod_eq_of_le (by omega) (by omega)
        simp only [xt_lt, xt_le, Int32.toInt_zero] at c_1 c_5 c_15
        first | (rw [show decide (0 ≤ x.toInt ∧ 0 ≤ y.toInt ∧ x.toInt + y.toInt ≤ (z : Int)) = true from decide_eq_true (by have := hs (by omega); omega)]; rfl) | (rw [show decide (0 ≤ x.toInt ∧ 0 ≤ y.toInt ∧ x.toInt + y.toInt ≤ (z : Int)) = false from decide_eq_false (fun q => by have := hs (by omega); omega)]; rfl)

theorem c_fillL {d : Nat} {S : List (Nat × Nat)} {I : Nat → Nat → Int32} {L : Nat → Nat → Int64} {P : Nat → Nat → Option Nat} {a n : Nat} {v : Int64} (ha : S[a]? = some (1, n)) (bn : n < 2 ^ 31) : xm_Z (d + 1) 102 [.ref a, .long v] (S, I, L, P) (fun rz hz => rz = none ∧ hz = (S, I, va_up L a (xfil n (fun _ => v) (L a)), P)) := by
  refine xw_S xb_102 (l := [.ref a, .long v, .float 0, .float 0, .float 0]) (Nat.le_of_ble_eq_true rfl) rfl ?_
  refine xw_go xb_102 5 rfl ⟨⟨1, by decide, by show S[a]? = some (1, (S.getD a (0, 0)).2); rw [List.getD_eq_getElem?_getD, ha]; rfl⟩, trivial⟩ ?_
  refine xw_cong (l' := [.ref a, .long v, .float 0, .int (nI 0), .int (nI n)]) (by show [Value.ref a, .long v, .float 0, .int 0, .int (Int32.ofNat (S.getD a (0, 0)).2)] = _; rw [List.getD_eq_getElem?_getD, ha]; rfl) rfl (show (S, I, L, P) = (S, I, va_up L a (xfil 0 (fun _ => v) (L a)), P) by rw [xfil_0, xm_up_id]) ?_
  refine xw_loop n (fun c => (6, [.ref a, .long v, .float 0, .int (nI c), .int (nI n)], [])) (fun c => (S, I, va_up L a (xfil c (fun _ => v) (L a)), P)) (fun c hc ih => ?_) ?_ 0 (Nat.zero_le _)
  · skip
    refine xw_go xb_102 3 (f1 := (if (nI n) ≤ (nI c) then 22 else 12, [.ref a, .long v, .float 0, .int (nI c), .int (nI n)], [])) (h1 := (S, I, va_up L a (xfil c (fun _ => v) (L a)), P)) rfl trivial ?_
    refine xw_if (fun c_9 => ?_) (fun c_9 => ?_)
    · skip
      exfalso
      simp (disch := omega) only [nI_leI] at c_9
      omega
    · skip
      refine xw_go xb_102 6 (f1 := (6, [.ref a, .long v, .float 0, .int ((nI c) + 1), .int (nI n)], [])) (h1 := (S, I, xm_up (va_up L a (xfil c (fun _ => v) (L a))) a (nI c).toNatClampNeg v, P)) rfl ⟨(xn_ar ha (by omega) bn), trivial⟩ ?_
      refine xw_cong ?_ rfl ?_ ih
      · rw [nI_1]
      · rw [xn_cl (by omega), xfil_up _ _ _ _ _ rfl]
  · skip
    refine xw_go xb_102 3 (f1 := (if (nI n) ≤ (nI n) then 22 else 12, [.ref a, .long v, .float 0, .int (nI n), .int (nI n)], [])) (h1 := (S, I, va_up L a (xfil n (fun _ => v) (L a)), P)) rfl trivial ?_
    refine xw_if (fun c_9 => ?_) (fun c_9 => ?_)
    · skip
      refine xw_ret xb_102 rfl rfl trivial ?_
      exact ⟨rfl, rfl⟩
    · skip
      exfalso
      simp (disch := omega) only [nI_leI] at c_9
      omega

theorem c_cut {d : Nat} {b : Bool} {I : Nat → Nat → Int32} {L : Nat → Nat → Int64} {s : Nat} (hs : s < 4) {la : Nat} (hl : I (52 + 2 * s) 1 = nI la) (bl : la < 4) {v : Int64} : xm_Z (d + 1) 99 [.ref (52 + 2 * s), .long v] (xS b, I, L, xP b) (fun rz hz => rz = some (.long (xct la v)) ∧ hz = (xS b, I, L, xP b)) := by
  have s2 : (xS b)[52 + 2 * s]? = some (10, 4) := xS_52 hs
  have s3 : (xS b)[53 + 2 * s]? = some (1, 24) := xS_53 hs
  refine xw_S xb_99 (l := [.ref (52 + 2 * s), .long v, .float 0]) (Nat.le_of_ble_eq_true rfl) rfl ?_
  refine xw_go xb_99 2 (f1 := (4, [.ref (52 + 2 * s), .long v, .float 0], [.int (I (52 + 2 * s) 1)])) (h1 := (xS b, I, L, xP b)) rfl ⟨s2, trivial⟩ ?_
  refine xw_cong (l' := [.ref (52 + 2 * s), .long v, .float 0]) (st' := [.int (nI la)]) (h' := (xS b, I, L, xP b)) rfl (show ([.int (I (52 + 2 * s) 1)] : List Value) = [.int (nI la)] from ?_) rfl ?_
  · rw [hl]
  refine xw_go xb_99 1 (f1 := (xm_sw [(0, 32), (1, 37), (2, 42)] 46 (nI la), [.ref (52 + 2 * s), .long v, .float 0], [])) (h1 := (xS b, I, L, xP b)) rfl trivial ?_
  refine xw_if (fun c_4_0 => ?_) (fun c_4_0 => ?_)
  · skip
    refine xw_go xb_99 4 (f1 := (36, [.ref (52 + 2 * s), .long v, .float 0], [.long v.toInt32.toInt8.toInt32.toInt64])) (h1 := (xS b, I, L, xP b)) rfl trivial ?_
    refine xw_ret xb_99 rfl rfl trivial ?_
    refine ⟨xm_some (congrArg Value.long ?_), rfl⟩
    simp (disch := omega) only [xl_0, xl_1, xl_2, nI_eq] at c_4_0
    unfold xct
    (repeat' split) <;> first | rfl | omega
  refine xw_if (fun c_4_1 => ?_) (fun c_4_1 => ?_)
  · skip
    refine xw_go xb_99 4 (f1 := (41, [.ref (52 + 2 * s), .long v, .float 0], [.long v.toInt32.toInt16.toInt32.toInt64])) (h1 := (xS b, I, L, xP b)) rfl trivial ?_
    refine xw_ret xb_99 rfl rfl trivial ?_
    refine ⟨xm_some (congrArg Value.long ?_), rfl⟩
    simp (disch := omega) only [xl_0, xl_1, xl_2, nI_eq] at c_4_0 c_4_1
    unfold xct
    (repeat' split) <;> first | rfl | omega
  refine xw_if (fun c_4_2 => ?_) (fun c_4_2 => ?_)
  · skip
    refine xw_go xb_99 3 (f1 := (45, [.ref (52 + 2 * s), .long v, .float 0], [.long v.toInt32.toInt64])) (h1 := (xS b, I, L, xP b)) rfl trivial ?_
    refine xw_ret xb_99 rfl rfl trivial ?_
    refine ⟨xm_some (congrArg Value.long ?_), rfl⟩
    simp (disch := omega) only [xl_0, xl_1, xl_2, nI_eq] at c_4_0 c_4_1 c_4_2
    unfold xct
    (repeat' split) <;> first | rfl | omega
  refine xw_at (f' := (46, [.ref (52 + 2 * s), .long v, .float 0], [])) (h' := (xS b, I, L, xP b)) rfl rfl ?_
  refine xw_go xb_99 1 (f1 := (47, [.ref (52 + 2 * s), .long v, .float 0], [.long v])) (h1 := (xS b, I, L, xP b)) rfl trivial ?_
  refine xw_ret xb_99 rfl rfl trivial ?_
  refine ⟨xm_some (congrArg Value.long ?_), rfl⟩
  simp (disch := omega) only [xl_0, xl_1, xl_2, nI_eq] at c_4_0 c_4_1 c_4_2
  unfold xct
  (repeat' split) <;> first | rfl | omega

theorem c_put {d : Nat} {b : Bool} {I : Nat → Nat → Int32} {L : Nat → Nat → Int64} {s : Nat} (hs : s < 4) {la z j : Nat} (hl : I (52 + 2 * s) 1 = nI la) (bl : la < 4) (hz : I (52 + 2 * s) 2 = nI z) (bz : z ≤ 24) (hj : j < z) {v : Int64} {x1 : Int32} (e_x1 : x1 = nI j) : xm_Z (d + 2) 98 [.ref (52 + 2 * s), .int x1, .long v] (xS b, I, L, xP b) (fun rz hz => rz = none ∧ hz = (xS b, I, xm_up L (53 + 2 * s) j (xct la v), xP b)) := by
  subst e_x1
  have s2 : (xS b)[52 + 2 * s]? = some (10, 4) := xS_52 hs
  have s3 : (xS b)[53 + 2 * s]? = some (1, 24) := xS_53 hs
  refine xw_S xb_98 (l := [.ref (52 + 2 * s), .int (nI j), .long v, .float 0]) (Nat.le_of_ble_eq_true rfl) rfl ?_
  refine xw_go xb_98 3 (f1 := (3, [.ref (52 + 2 * s), .int (nI j), .long v, .float 0], [.int 1, .int (nI j), .ref (52 + 2 * s)])) (h1 := (xS b, I, L, xP b)) rfl trivial ?_
  refine xw_call xb_98 rfl rfl rfl rfl rfl (Or.inr ⟨_, _, rfl, s2⟩) (c_hasItems (I := I) (z := z) s2 hz bz) ?_
  rintro _ _ ⟨rfl, rfl⟩
  refine xw_at (f' := (6, [.ref (52 + 2 * s), .int (nI j), .long v, .float 0], [.int (nI (xB (decide (0 ≤ (nI j).toInt ∧ 0 ≤ (1 : Int32).toInt ∧ (nI j).toInt + (1 : Int32).toInt ≤ (z : Int)))))])) (h' := (xS b, I, L, xP b)) rfl rfl ?_
  refine xw_go xb_98 1 (f1 := (if (nI (xB (decide (0 ≤ (nI j).toInt ∧ 0 ≤ (1 : Int32).toInt ∧ (nI j).toInt + (1 : Int32).toInt ≤ (z : Int))))) = 0 then 20 else 9, [.ref (52 + 2 * s), .int (nI j), .long v, .float 0], [])) (h1 := (xS b, I, L, xP b)) rfl trivial ?_
  refine xw_if (fun c_6 => ?_) (fun c_6 => ?_)
  · skip
    refine xw_ret xb_98 rfl rfl trivial ?_
    exfalso
    try simp only [xB_dec, Classical.not_not] at c_6
    try simp (disch := omega) only [xt_eq, xt_lt, xt_le, xkt_0, xkt_1, xkt_2, xkt_3, xkt_4, xkt_5, xkt_6, xkt_7, xkt_8, xkt_9, xkt_10, xkt_11, xkt_12, xkt_13, xkt_14, xkt_16, xkt_20, xkt_24, xkt_31, xkt_32, xkt_40, xkt_44, xkt_47, xkt_48, xkt_57, xkt_59, xkt_60, xkt_63, xkt_64, xkt_65, xkt_72, xkt_95, xkt_99, xkt_100, xkt_101, xkt_103, xkt_110, xkt_112, xkt_113, xkt_114, xkt_119, xkt_126, xkt_159, xkt_576, xkt_999, xkt_9999, xkt_65536, xkt_999999, xkt_m1, xkt_m2, xkt_m3, xkt_m4, xkt_m11, xkt_m12, xkt_m13, xkt_m14, xkt_m20, xjt_0, xjt_1, xjt_2, xjt_3, xjt_4, xjt_5, xjt_6, xjt_7, xjt_8, xjt_9, xjt_10, xjt_11, xjt_12, xjt_13, xjt_14, xjt_16, xjt_20, xjt_24, xjt_31, xjt_32, xjt_40, xjt_44, xjt_47, xjt_48, xjt_57, xjt_59, xjt_60, xjt_63, xjt_64, xjt_65, xjt_72, xjt_95, xjt_99, xjt_100, xjt_101, xjt_103, xjt_110, xjt_112, xjt_113, xjt_114, xjt_119, xjt_126, xjt_159, xjt_576, xjt_999, xjt_9999, xjt_65536, xjt_999999, xt64, xt_n, not_true_eq_false, not_false_eq_true, Classical.not_not] at c_6
    all_goals omega
  · skip
    refine xw_go xb_98 2 (f1 := (13, [.ref (52 + 2 * s), .int (nI j), .long v, .float 0], [xm_o (xP b (52 + 2 * s) 3)])) (h1 := (xS b, I, L, xP b)) rfl ⟨s2, trivial⟩ ?_
    refine xw_cong (l' := [.ref (52 + 2 * s), .int (nI j), .long v, .float 0]) (st' := [.ref (53 + 2 * s)]) (h' := (xS b, I, L, xP b)) rfl (show ([xm_o (xP b (52 + 2 * s) 3)] : List Value) = [.ref (53 + 2 * s)] from ?_) rfl ?_
    · rw [xP_52 hs]
      rfl
    refine xw_go xb_98 3 (f1 := (16, [.ref (52 + 2 * s), .int (nI j), .long v, .float 0], [.long v, .ref (52 + 2 * s), .int (nI j), .ref (53 + 2 * s)])) (h1 := (xS b, I, L, xP b)) rfl trivial ?_
    refine xw_call xb_98 rfl rfl rfl rfl rfl (Or.inr ⟨_, _, rfl, s2⟩) (c_cut (I := I) hs hl bl) ?_
    rintro _ _ ⟨rfl, rfl⟩
    refine xw_at (f' := (19, [.ref (52 + 2 * s), .int (nI j), .long v, .float 0], [.long (xct la v), .int (nI j), .ref (53 + 2 * s)])) (h' := (xS b, I, L, xP b)) rfl rfl ?_
    refine xw_go xb_98 1 (f1 := (20, [.ref (52 + 2 * s), .int (nI j), .long v, .float 0], [])) (h1 := (xS b, I, xm_up L (53 + 2 * s) (nI j).toNatClampNeg (xct la v), xP b)) rfl ⟨(xn_ar (n := j) (N := 24) s3 (by omega) (by decide)), trivial⟩ ?_
    refine xw_ret xb_98 rfl rfl trivial ?_
    rw [xn_cl (by omega)]
    exact ⟨rfl, rfl⟩

theorem c_sbegin {d : Nat} {b : Bool} {I : Nat → Nat → Int32} {L : Nat → Nat → Int64} {s : Nat} (hs : s < 4) {x y : Int32} : xm_Z (d + 2) 101 [.ref (52 + 2 * s), .int x, .int y] (xS b, I, L, xP b) (fun rz hz => rz = none ∧ hz = (xS b, xm_up (xm_up (xm_up I (52 + 2 * s) 0 1) (52 + 2 * s) 1 x) (52 + 2 * s) 2 y, va_up L (53 + 2 * s) (xfil 24 (fun _ => 0) (L (53 + 2 * s))), xP b)) := by
  have s2 : (xS b)[52 + 2 * s]? = some (10, 4) := xS_52 hs
  have s3 : (xS b)[53 + 2 * s]? = some (1, 24) := xS_53 hs
  refine xw_S xb_101 (l := [.ref (52 + 2 * s), .int x, .int y]) (Nat.le_of_ble_eq_true rfl) rfl ?_
  refine xw_go xb_101 11 (f1 := (19, [.ref (52 + 2 * s), .int x, .int y], [xm_o (xP b (52 + 2 * s) 3)])) (h1 := (xS b, xm_up (xm_up (xm_up I (52 + 2 * s) 0 1) (52 + 2 * s) 1 x) (52 + 2 * s) 2 y, L, xP b)) rfl ⟨s2, (Or.inr rfl), s2, s2, s2, trivial⟩ ?_
  refine xw_cong (l' := [.ref (52 + 2 * s), .int x, .int y]) (st' := [.ref (53 + 2 * s)]) (h' := (xS b, xm_up (xm_up (xm_up I (52 + 2 * s) 0 1) (52 + 2 * s) 1 x) (52 + 2 * s) 2 y, L, xP b)) rfl (show ([xm_o (xP b (52 + 2 * s) 3)] : List Value) = [.ref (53 + 2 * s)] from ?_) rfl ?_
  · rw [xP_52 hs]
    rfl
  refine xw_go xb_101 1 (f1 := (20, [.ref (52 + 2 * s), .int x, .int y], [.long 0, .ref (53 + 2 * s)])) (h1 := (xS b, xm_up (xm_up (xm_up I (52 + 2 * s) 0 1) (52 + 2 * s) 1 x) (52 + 2 * s) 2 y, L, xP b)) rfl trivial ?_
  refine xw_call xb_101 rfl rfl rfl rfl rfl (Or.inl rfl) (c_fillL s3 (by decide)) ?_
  rintro _ _ ⟨rfl, rfl⟩
  refine xw_at (f' := (23, [.ref (52 + 2 * s), .int x, .int y], [])) (h' := (xS b, xm_up (xm_up (xm_up I (52 + 2 * s) 0 1) (52 + 2 * s) 1 x) (52 + 2 * s) 2 y, va_up L (53 + 2 * s) (xfil 24 (fun _ => 0) (L (53 + 2 * s))), xP b)) rfl rfl ?_
  refine xw_ret xb_101 rfl rfl trivial ?_
  exact ⟨rfl, rfl⟩

theorem c_sheet0 {d : Nat} {b : Bool} {I : Nat → Nat → Int32} {L : Nat → Nat → Int64} {Y : xY} (hS : xSH Y I L) (hY : xYK Y) {x y z : Int32} (hx : ¬ (0 ≤ x.toInt ∧ x.toInt ≤ 3 ∧ 0 ≤ y.toInt ∧ y.toInt ≤ 3 ∧ z.toInt ≤ 24)) : xm_Z (d + 3) 100 [.ref 0, .int x, .int y, .int z] (xS b, I, L, xP b) (fun rz hz => xHC b I L (-1) Y rz hz) := by
  refine xw_S xb_100 (l := [.ref 0, .int x, .int y, .int z]) (Nat.le_of_ble_eq_true rfl) rfl ?_
  refine xw_go xb_100 3 (f1 := (3, [.ref 0, .int x, .int y, .int z], [.int 3, .int 0, .int x])) (h1 := (xS b, I, L, xP b)) rfl trivial ?_
  refine xw_call xb_100 rfl rfl rfl rfl rfl (Or.inl rfl) c_within ?_
  rintro _ _ ⟨rfl, rfl⟩
  refine xw_at (f' := (6, [.ref 0, .int x, .int y, .int z], [.int (nI (xB (decide ((0 : Int32).toInt ≤ x.toInt ∧ x.toInt ≤ (3 : Int32).toInt))))])) (h' := (xS b, I, L, xP b)) rfl rfl ?_
  refine xw_go xb_100 1 (f1 := (if (nI (xB (decide ((0 : Int32).toInt ≤ x.toInt ∧ x.toInt ≤ (3 : Int32).toInt)))) = 0 then 24 else 9, [.ref 0, .int x, .int y, .int z], [])) (h1 := (xS b, I, L, xP b)) rfl trivial ?_
  refine xw_if (fun c_6 => ?_) (fun c_6 => ?_)
  · skip
    refine xw_go xb_100 1 (f1 := (25, [.ref 0, .int x, .int y, .int z], [.int (-1)])) (h1 := (xS b, I, L, xP b)) rfl trivial ?_
    refine xw_ret xb_100 rfl rfl trivial ?_
    exact xHC_s hS
  · skip
    refine xw_go xb_100 3 (f1 := (12, [.ref 0, .int x, .int y, .int z], [.int 3, .int 0, .int y])) (h1 := (xS b, I, L, xP b)) rfl trivial ?_
    refine xw_call xb_100 rfl rfl rfl rfl rfl (Or.inl rfl) c_within ?_
    rintro _ _ ⟨rfl, rfl⟩
    refine xw_at (f' := (15, [.ref 0, .int x, .int y, .int z], [.int (nI (xB (decide ((0 : Int32).toInt ≤ y.toInt ∧ y.toInt ≤ (3 : Int32).toInt))))])) (h' := (xS b, I, L, xP b)) rfl rfl ?_
    refine xw_go xb_100 1 (f1 := (if (nI (xB (decide ((0 : Int32).toInt ≤ y.toInt ∧ y.toInt ≤ (3 : Int32).toInt)))) = 0 then 24 else 18, [.ref 0, .int x, .int y, .int z], [])) (h1 := (xS b, I, L, xP b)) rfl trivial ?_
    refine xw_if (fun c_15 => ?_) (fun c_15 => ?_)
    · skip
      refine xw_go xb_100 1 (f1 := (25, [.ref 0, .int x, .int y, .int z], [.int (-1)])) (h1 := (xS b, I, L, xP b)) rfl trivial ?_
      refine xw_ret xb_100 rfl rfl trivial ?_
      exact xHC_s hS
    · skip
      refine xw_go xb_100 3 (f1 := (if z ≤ 24 then 26 else 24, [.ref 0, .int x, .int y, .int z], [])) (h1 := (xS b, I, L, xP b)) rfl trivial ?_
      refine xw_if (fun c_21 => ?_) (fun c_21 => ?_)
      · skip
        exfalso
        try simp only [xB_dec, Classical.not_not] at c_6 c_15 c_21
        try simp (disch := omega) only [xt_eq, xt_lt, xt_le, xkt_0, xkt_1, xkt_2, xkt_3, xkt_4, xkt_5, xkt_6, xkt_7, xkt_8, xkt_9, xkt_10, xkt_11, xkt_12, xkt_13, xkt_14, xkt_16, xkt_20, xkt_24, xkt_31, xkt_32, xkt_40, xkt_44, xkt_47, xkt_48, xkt_57, xkt_59, xkt_60, xkt_63, xkt_64, xkt_65, xkt_72, xkt_95, xkt_99, xkt_100, xkt_101, xkt_103, xkt_110, xkt_112, xkt_113, xkt_114, xkt_119, xkt_126, xkt_159, xkt_576, xkt_999, xkt_9999, xkt_65536, xkt_999999, xkt_m1, xkt_m2, xkt_m3, xkt_m4, xkt_m11, xkt_m12, xkt_m13, xkt_m14, xkt_m20, xjt_0, xjt_1, xjt_2, xjt_3, xjt_4, xjt_5, xjt_6, xjt_7, xjt_8, xjt_9, xjt_10, xjt_11, xjt_12, xjt_13, xjt_14, xjt_16, xjt_20, xjt_24, xjt_31, xjt_32, xjt_40, xjt_44, xjt_47, xjt_48, xjt_57, xjt_59, xjt_60, xjt_63, xjt_64, xjt_65, xjt_72, xjt_95, xjt_99, xjt_100, xjt_101, xjt_103, xjt_110, xjt_112, xjt_113, xjt_114, xjt_119, xjt_126, xjt_159, xjt_576, xjt_999, xjt_9999, xjt_65536, xjt_999999, xt64, xt_n, not_true_eq_false, not_false_eq_true, Classical.not_not] at c_6 c_15 c_21
        all_goals omega
      · skip
        refine xw_go xb_100 1 (f1 := (25, [.ref 0, .int x, .int y, .int z], [.int (-1)])) (h1 := (xS b, I, L, xP b)) rfl trivial ?_
        refine xw_ret xb_100 rfl rfl trivial ?_
        exact xHC_s hS

theorem c_sheet1 {d : Nat} {b : Bool} {I : Nat → Nat → Int32} {L : Nat → Nat → Int64} {Y : xY} (hS : xSH Y I L) (hY : xYK Y) {x y z : Int32} (hx : 0 ≤ x.toInt ∧ x.toInt ≤ 3 ∧ 0 ≤ y.toInt ∧ y.toInt ≤ 3 ∧ z.toInt < 0) : xm_Z (d + 3) 100 [.ref 0, .int x, .int y, .int z] (xS b, I, L, xP b) (fun rz hz => xHC b I L (-14) Y rz hz) := by
  refine xw_S xb_100 (l := [.ref 0, .int x, .int y, .int z]) (Nat.le_of_ble_eq_true rfl) rfl ?_
  refine xw_go xb_100 3 (f1 := (3, [.ref 0, .int x, .int y, .int z], [.int 3, .int 0, .int x])) (h1 := (xS b, I, L, xP b)) rfl trivial ?_
  refine xw_call xb_100 rfl rfl rfl rfl rfl (Or.inl rfl) c_within ?_
  rintro _ _ ⟨rfl, rfl⟩
  refine xw_at (f' := (6, [.ref 0, .int x, .int y, .int z], [.int (nI (xB (decide ((0 : Int32).toInt ≤ x.toInt ∧ x.toInt ≤ (3 : Int32).toInt))))])) (h' := (xS b, I, L, xP b)) rfl rfl ?_
  refine xw_go xb_100 1 (f1 := (if (nI (xB (decide ((0 : Int32).toInt ≤ x.toInt ∧ x.toInt ≤ (3 : Int32).toInt)))) = 0 then 24 else 9, [.ref 0, .int x, .int y, .int z], [])) (h1 := (xS b, I, L, xP b)) rfl trivial ?_
  refine xw_if (fun c_6 => ?_) (fun c_6 => ?_)
  · skip
    exfalso
    try simp only [xB_dec, Classical.not_not] at c_6
    try simp (disch := omega) only [xt_eq, xt_lt, xt_le, xkt_0, xkt_1, xkt_2, xkt_3, xkt_4, xkt_5, xkt_6, xkt_7, xkt_8, xkt_9, xkt_10, xkt_11, xkt_12, xkt_13, xkt_14, xkt_16, xkt_20, xkt_24, xkt_31, xkt_32, xkt_40, xkt_44, xkt_47, xkt_48, xkt_57, xkt_59, xkt_60, xkt_63, xkt_64, xkt_65, xkt_72, xkt_95, xkt_99, xkt_100, xkt_101, xkt_103, xkt_110, xkt_112, xkt_113, xkt_114, xkt_119, xkt_126, xkt_159, xkt_576, xkt_999, xkt_9999, xkt_65536, xkt_999999, xkt_m1, xkt_m2, xkt_m3, xkt_m4, xkt_m11, xkt_m12, xkt_m13, xkt_m14, xkt_m20, xjt_0, xjt_1, xjt_2, xjt_3, xjt_4, xjt_5, xjt_6, xjt_7, xjt_8, xjt_9, xjt_10, xjt_11, xjt_12, xjt_13, xjt_14, xjt_16, xjt_20, xjt_24, xjt_31, xjt_32, xjt_40, xjt_44, xjt_47, xjt_48, xjt_57, xjt_59, xjt_60, xjt_63, xjt_64, xjt_65, xjt_72, xjt_95, xjt_99, xjt_100, xjt_101, xjt_103, xjt_110, xjt_112, xjt_113, xjt_114, xjt_119, xjt_126, xjt_159, xjt_576, xjt_999, xjt_9999, xjt_65536, xjt_999999, xt64, xt_n, not_true_eq_false, not_false_eq_true, Classical.not_not] at c_6
    all_goals omega
  · skip
    refine xw_go xb_100 3 (f1 := (12, [.ref 0, .int x, .int y, .int z], [.int 3, .int 0, .int y])) (h1 := (xS b, I, L, xP b)) rfl trivial ?_
    refine xw_call xb_100 rfl rfl rfl rfl rfl (Or.inl rfl) c_within ?_
    rintro _ _ ⟨rfl, rfl⟩
    refine xw_at (f' := (15, [.ref 0, .int x, .int y, .int z], [.int (nI (xB (decide ((0 : Int32).toInt ≤ y.toInt ∧ y.toInt ≤ (3 : Int32).toInt))))])) (h' := (xS b, I, L, xP b)) rfl rfl ?_
    refine xw_go xb_100 1 (f1 := (if (nI (xB (decide ((0 : Int32).toInt ≤ y.toInt ∧ y.toInt ≤ (3 : Int32).toInt)))) = 0 then 24 else 18, [.ref 0, .int x, .int y, .int z], [])) (h1 := (xS b, I, L, xP b)) rfl trivial ?_
    refine xw_if (fun c_15 => ?_) (fun c_15 => ?_)
    · skip
      exfalso
      try simp only [xB_dec, Classical.not_not] at c_6 c_15
      try simp (disch := omega) only [xt_eq, xt_lt, xt_le, xkt_0, xkt_1, xkt_2, xkt_3, xkt_4, xkt_5, xkt_6, xkt_7, xkt_8, xkt_9, xkt_10, xkt_11, xkt_12, xkt_13, xkt_14, xkt_16, xkt_20, xkt_24, xkt_31, xkt_32, xkt_40, xkt_44, xkt_47, xkt_48, xkt_57, xkt_59, xkt_60, xkt_63, xkt_64, xkt_65, xkt_72, xkt_95, xkt_99, xkt_100, xkt_101, xkt_103, xkt_110, xkt_112, xkt_113, xkt_114, xkt_119, xkt_126, xkt_159, xkt_576, xkt_999, xkt_9999, xkt_65536, xkt_999999, xkt_m1, xkt_m2, xkt_m3, xkt_m4, xkt_m11, xkt_m12, xkt_m13, xkt_m14, xkt_m20, xjt_0, xjt_1, xjt_2, xjt_3, xjt_4, xjt_5, xjt_6, xjt_7, xjt_8, xjt_9, xjt_10, xjt_11, xjt_12, xjt_13, xjt_14, xjt_16, xjt_20, xjt_24, xjt_31, xjt_32, xjt_40, xjt_44, xjt_47, xjt_48, xjt_57, xjt_59, xjt_60, xjt_63, xjt_64, xjt_65, xjt_72, xjt_95, xjt_99, xjt_100, xjt_101, xjt_103, xjt_110, xjt_112, xjt_113, xjt_114, xjt_119, xjt_126, xjt_159, xjt_576, xjt_999, xjt_9999, xjt_65536, xjt_999999, xt64, xt_n, not_true_eq_false, not_false_eq_true, Classical.not_not] at c_6 c_15
      all_goals omega
    · skip
      refine xw_go xb_100 3 (f1 := (if z ≤ 24 then 26 else 24, [.ref 0, .int x, .int y, .int z], [])) (h1 := (xS b, I, L, xP b)) rfl trivial ?_
      refine xw_if (fun c_21 => ?_) (fun c_21 => ?_)
      · skip
        refine xw_go xb_100 2 (f1 := (if 0 ≤ z then 33 else 30, [.ref 0, .int x, .int y, .int z], [])) (h1 := (xS b, I, L, xP b)) rfl trivial ?_
        refine xw_if (fun c_27 => ?_) (fun c_27 => ?_)
        · skip
          exfalso
          try simp only [xB_dec, Classical.not_not] at c_6 c_15 c_21 c_27
          try simp (disch := omega) only [xt_eq, xt_lt, xt_le, xkt_0, xkt_1, xkt_2, xkt_3, xkt_4, xkt_5, xkt_6, xkt_7, xkt_8, xkt_9, xkt_10, xkt_11, xkt_12, xkt_13, xkt_14, xkt_16, xkt_20, xkt_24, xkt_31, xkt_32, xkt_40, xkt_44, xkt_47, xkt_48, xkt_57, xkt_59, xkt_60, xkt_63, xkt_64, xkt_65, xkt_72, xkt_95, xkt_99, xkt_100, xkt_101, xkt_103, xkt_110, xkt_112, xkt_113, xkt_114, xkt_119, xkt_126, xkt_159, xkt_576, xkt_999, xkt_9999, xkt_65536, xkt_999999, xkt_m1, xkt_m2, xkt_m3, xkt_m4, xkt_m11, xkt_m12, xkt_m13, xkt_m14, xkt_m20, xjt_0, xjt_1, xjt_2, xjt_3, xjt_4, xjt_5, xjt_6, xjt_7, xjt_8, xjt_9, xjt_10, xjt_11, xjt_12, xjt_13, xjt_14, xjt_16, xjt_20, xjt_24, xjt_31, xjt_32, xjt_40, xjt_44, xjt_47, xjt_48, xjt_57, xjt_59, xjt_60, xjt_63, xjt_64, xjt_65, xjt_72, xjt_95, xjt_99, xjt_100, xjt_101, xjt_103, xjt_110, xjt_112, xjt_113, xjt_114, xjt_119, xjt_126, xjt_159, xjt_576, xjt_999, xjt_9999, xjt_65536, xjt_999999, xt64, xt_n, not_true_eq_false, not_false_eq_true, Classical.not_not] at c_6 c_15 c_21 c_27
          all_goals omega
        · skip
          refine xw_go xb_100 1 (f1 := (32, [.ref 0, .int x, .int y, .int z], [.int (-14)])) (h1 := (xS b, I, L, xP b)) rfl trivial ?_
          refine xw_ret xb_100 rfl rfl trivial ?_
          exact xHC_s hS
      · skip
        exfalso
        try simp only [xB_dec, Classical.not_not] at c_6 c_15 c_21
        try simp (disch := omega) only [xt_eq, xt_lt, xt_le, xkt_0, xkt_1, xkt_2, xkt_3, xkt_4, xkt_5, xkt_6, xkt_7, xkt_8, xkt_9, xkt_10, xkt_11, xkt_12, xkt_13, xkt_14, xkt_16, xkt_20, xkt_24, xkt_31, xkt_32, xkt_40, xkt_44, xkt_47, xkt_48, xkt_57, xkt_59, xkt_60, xkt_63, xkt_64, xkt_65, xkt_72, xkt_95, xkt_99, xkt_100, xkt_101, xkt_103, xkt_110, xkt_112, xkt_113, xkt_114, xkt_119, xkt_126, xkt_159, xkt_576, xkt_999, xkt_9999, xkt_65536, xkt_999999, xkt_m1, xkt_m2, xkt_m3, xkt_m4, xkt_m11, xkt_m12, xkt_m13, xkt_m14, xkt_m20, xjt_0, xjt_1, xjt_2, xjt_3, xjt_4, xjt_5, xjt_6, xjt_7, xjt_8, xjt_9, xjt_10, xjt_11, xjt_12, xjt_13, xjt_14, xjt_16, xjt_20, xjt_24, xjt_31, xjt_32, xjt_40, xjt_44, xjt_47, xjt_48, xjt_57, xjt_59, xjt_60, xjt_63, xjt_64, xjt_65, xjt_72, xjt_95, xjt_99, xjt_100, xjt_101, xjt_103, xjt_110, xjt_112, xjt_113, xjt_114, xjt_119, xjt_126, xjt_159, xjt_576, xjt_999, xjt_9999, xjt_65536, xjt_999999, xt64, xt_n, not_true_eq_false, not_false_eq_true, Classical.not_not] at c_6 c_15 c_21
        all_goals omega

theorem c_sheet2 {d : Nat} {b : Bool} {I : Nat → Nat → Int32} {L : Nat → Nat → Int64} {Y : xY} (hS : xSH Y I L) (hY : xYK Y) {s : Nat} (hs : s < 4) {la n : Nat} (bl : la < 4) (bn : n ≤ 24) {x : Int32} (e_x : x = nI s) {y : Int32} (e_y : y = nI la) {z : Int32} (e_z : z = nI n) : xm_Z (d + 3) 100 [.ref 0, .int x, .int y, .int z] (xS b, I, L, xP b) (fun rz hz => xHC b I L (nI n) (va_up Y s (true, la, n, fun _ => 0)) rz hz) := by
  subst e_x
  subst e_y
  subst e_z
  have s2 : (xS b)[52 + 2 * s]? = some (10, 4) := xS_52 hs
  have s3 : (xS b)[53 + 2 * s]? = some (1, 24) := xS_53 hs
  refine xw_S xb_100 (l := [.ref 0, .int (nI s), .int (nI la), .int (nI n)]) (Nat.le_of_ble_eq_true rfl) rfl ?_
  refine xw_go xb_100 3 (f1 := (3, [.ref 0, .int (nI s), .int (nI la), .int (nI n)], [.int 3, .int 0, .int (nI s)])) (h1 := (xS b, I, L, xP b)) rfl trivial ?_
  refine xw_call xb_100 rfl rfl rfl rfl rfl (Or.inl rfl) c_within ?_
  rintro _ _ ⟨rfl, rfl⟩
  refine xw_at (f' := (6, [.ref 0, .int (nI s), .int (nI la), .int (nI n)], [.int (nI (xB (decide ((0 : Int32).toInt ≤ (nI s).toInt ∧ (nI s).toInt ≤ (3 : Int32).toInt))))])) (h' := (xS b, I, L, xP b)) rfl rfl ?_
  refine xw_go xb_100 1 (f1 := (if (nI (xB (decide ((0 : Int32).toInt ≤ (nI s).toInt ∧ (nI s).toInt ≤ (3 : Int32).toInt)))) = 0 then 24 else 9, [.ref 0, .int (nI s), .int (nI la), .int (nI n)], [])) (h1 := (xS b, I, L, xP b)) rfl trivial ?_
  refine xw_if (fun c_6 => ?_) (fun c_6 => ?_)
  · skip
    exfalso
    try simp only [xB_dec, Classical.not_not] at c_6
    try simp (disch := omega) only [xt_eq, xt_lt, xt_le, xkt_0, xkt_1, xkt_2, xkt_3, xkt_4, xkt_5, xkt_6, xkt_7, xkt_8, xkt_9, xkt_10, xkt_11, xkt_12, xkt_13, xkt_14, xkt_16, xkt_20, xkt_24, xkt_31, xkt_32, xkt_40, xkt_44, xkt_47, xkt_48, xkt_57, xkt_59, xkt_60, xkt_63, xkt_64, xkt_65, xkt_72, xkt_95, xkt_99, xkt_100, xkt_101, xkt_103, xkt_110, xkt_112, xkt_113, xkt_114, xkt_119, xkt_126, xkt_159, xkt_576, xkt_999, xkt_9999, xkt_65536, xkt_999999, xkt_m1, xkt_m2, xkt_m3, xkt_m4, xkt_m11, xkt_m12, xkt_m13, xkt_m14, xkt_m20, xjt_0, xjt_1, xjt_2, xjt_3, xjt_4, xjt_5, xjt_6, xjt_7, xjt_8, xjt_9, xjt_10, xjt_11, xjt_12, xjt_13, xjt_14, xjt_16, xjt_20, xjt_24, xjt_31, xjt_32, xjt_40, xjt_44, xjt_47, xjt_48, xjt_57, xjt_59, xjt_60, xjt_63, xjt_64, xjt_65, xjt_72, xjt_95, xjt_99, xjt_100, xjt_101, xjt_103, xjt_110, xjt_112, xjt_113, xjt_114, xjt_119, xjt_126, xjt_159, xjt_576, xjt_999, xjt_9999, xjt_65536, xjt_999999, xt64, xt_n, not_true_eq_false, not_false_eq_true, Classical.not_not] at c_6
    all_goals omega
  · skip
    refine xw_go xb_100 3 (f1 := (12, [.ref 0, .int (nI s), .int (nI la), .int (nI n)], [.int 3, .int 0, .int (nI la)])) (h1 := (xS b, I, L, xP b)) rfl trivial ?_
    refine xw_call xb_100 rfl rfl rfl rfl rfl (Or.inl rfl) c_within ?_
    rintro _ _ ⟨rfl, rfl⟩
    refine xw_at (f' := (15, [.ref 0, .int (nI s), .int (nI la), .int (nI n)], [.int (nI (xB (decide ((0 : Int32).toInt ≤ (nI la).toInt ∧ (nI la).toInt ≤ (3 : Int32).toInt))))])) (h' := (xS b, I, L, xP b)) rfl rfl ?_
    refine xw_go xb_100 1 (f1 := (if (nI (xB (decide ((0 : Int32).toInt ≤ (nI la).toInt ∧ (nI la).toInt ≤ (3 : Int32).toInt)))) = 0 then 24 else 18, [.ref 0, .int (nI s), .int (nI la), .int (nI n)], [])) (h1 := (xS b, I, L, xP b)) rfl trivial ?_
    refine xw_if (fun c_15 => ?_) (fun c_15 => ?_)
    · skip
      exfalso
      try simp only [xB_dec, Classical.not_not] at c_6 c_15
      try simp (disch := omega) only [xt_eq, xt_lt, xt_le, xkt_0, xkt_1, xkt_2, xkt_3, xkt_4, xkt_5, xkt_6, xkt_7, xkt_8, xkt_9, xkt_10, xkt_11, xkt_12, xkt_13, xkt_14, xkt_16, xkt_20, xkt_24, xkt_31, xkt_32, xkt_40, xkt_44, xkt_47, xkt_48, xkt_57, xkt_59, xkt_60, xkt_63, xkt_64, xkt_65, xkt_72, xkt_95, xkt_99, xkt_100, xkt_101, xkt_103, xkt_110, xkt_112, xkt_113, xkt_114, xkt_119, xkt_126, xkt_159, xkt_576, xkt_999, xkt_9999, xkt_65536, xkt_999999, xkt_m1, xkt_m2, xkt_m3, xkt_m4, xkt_m11, xkt_m12, xkt_m13, xkt_m14, xkt_m20, xjt_0, xjt_1, xjt_2, xjt_3, xjt_4, xjt_5, xjt_6, xjt_7, xjt_8, xjt_9, xjt_10, xjt_11, xjt_12, xjt_13, xjt_14, xjt_16, xjt_20, xjt_24, xjt_31, xjt_32, xjt_40, xjt_44, xjt_47, xjt_48, xjt_57, xjt_59, xjt_60, xjt_63, xjt_64, xjt_65, xjt_72, xjt_95, xjt_99, xjt_100, xjt_101, xjt_103, xjt_110, xjt_112, xjt_113, xjt_114, xjt_119, xjt_126, xjt_159, xjt_576, xjt_999, xjt_9999, xjt_65536, xjt_999999, xt64, xt_n, not_true_eq_false, not_false_eq_true, Classical.not_not] at c_6 c_15
      all_goals omega
    · skip
      refine xw_go xb_100 3 (f1 := (if (nI n) ≤ 24 then 26 else 24, [.ref 0, .int (nI s), .int (nI la), .int (nI n)], [])) (h1 := (xS b, I, L, xP b)) rfl trivial ?_
      refine xw_if (fun c_21 => ?_) (fun c_21 => ?_)
      · skip
        refine xw_go xb_100 2 (f1 := (if 0 ≤ (nI n) then 33 else 30, [.ref 0, .int (nI s), .int (nI la), .int (nI n)], [])) (h1 := (xS b, I, L, xP b)) rfl trivial ?_
        refine xw_if (fun c_27 => ?_) (fun c_27 => ?_)
        · skip
          refine xw_go xb_100 4 (f1 := (39, [.ref 0, .int (nI s), .int (nI la), .int (nI n)], [xm_o (xP b 51 (nI s).toNatClampNeg)])) (h1 := (xS b, I, L, xP b)) rfl ⟨rfl, (xn_ar (n := s) (N := 4) rfl (by omega) (by decide)), ⟨Nat.le_of_ble_eq_true rfl, Nat.le_of_ble_eq_true rfl⟩, trivial⟩ ?_
          refine xw_cong (l' := [.ref 0, .int (nI s), .int (nI la), .int (nI n)]) (st' := [.ref (52 + 2 * s)]) (h' := (xS b, I, L, xP b)) rfl (show ([xm_o (xP b 51 (nI s).toNatClampNeg)] : List Value) = [.ref (52 + 2 * s)] from ?_) rfl ?_
          · rw [xn_cl (by omega), xP_51 hs]
            rfl
          refine xw_go xb_100 2 (f1 := (41, [.ref 0, .int (nI s), .int (nI la), .int (nI n)], [.int (nI n), .int (nI la), .ref (52 + 2 * s)])) (h1 := (xS b, I, L, xP b)) rfl trivial ?_
          refine xw_call xb_100 rfl rfl rfl rfl rfl (Or.inr ⟨_, _, rfl, s2⟩) (c_sbegin (I := I) hs) ?_
          rintro _ _ ⟨rfl, rfl⟩
          refine xw_at (f' := (44, [.ref 0, .int (nI s), .int (nI la), .int (nI n)], [])) (h' := (xS b, xm_up (xm_up (xm_up I (52 + 2 * s) 0 1) (52 + 2 * s) 1 (nI la)) (52 + 2 * s) 2 (nI n), va_up L (53 + 2 * s) (xfil 24 (fun _ => 0) (L (53 + 2 * s))), xP b)) rfl rfl ?_
          refine xw_go xb_100 1 (f1 := (45, [.ref 0, .int (nI s), .int (nI la), .int (nI n)], [.int (nI n)])) (h1 := (xS b, xm_up (xm_up (xm_up I (52 + 2 * s) 0 1) (52 + 2 * s) 1 (nI la)) (52 + 2 * s) 2 (nI n), va_up L (53 + 2 * s) (xfil 24 (fun _ => 0) (L (53 + 2 * s))), xP b)) rfl trivial ?_
          refine xw_ret xb_100 rfl rfl trivial ?_
          refine ⟨rfl, _, _, rfl, xSH_u hS hs ?_ ?_ ?_ ?_ ?_ ?_, ?_⟩
          · rw [xm_up_ne (Or.inr (by decide)), xm_up_ne (Or.inr (by decide)), xm_up_at]
            rfl
          · rw [xm_up_ne (Or.inr (by decide)), xm_up_at]
          · rw [xm_up_at]
          · intro k hk
            simp only [va_up, if_true, xfil, hk]
          · intro a ha
            rw [xm_up_o ha, xm_up_o ha, xm_up_o ha]
          · intro a ha
            rw [xm_vu_o ha]
          · intro a ha
            rw [xm_up_o (by omega), xm_up_o (by omega), xm_up_o (by omega), xm_vu_o (by omega)]
            exact ⟨rfl, rfl⟩
        · skip
          exfalso
          try simp only [xB_dec, Classical.not_not] at c_6 c_15 c_21 c_27
          try simp (disch := omega) only [xt_eq, xt_lt, xt_le, xkt_0, xkt_1, xkt_2, xkt_3, xkt_4, xkt_5, xkt_6, xkt_7, xkt_8, xkt_9, xkt_10, xkt_11, xkt_12, xkt_13, xkt_14, xkt_16, xkt_20, xkt_24, xkt_31, xkt_32, xkt_40, xkt_44, xkt_47, xkt_48, xkt_57, xkt_59, xkt_60, xkt_63, xkt_64, xkt_65, xkt_72, xkt_95, xkt_99, xkt_100, xkt_101, xkt_103, xkt_110, xkt_112, xkt_113, xkt_114, xkt_119, xkt_126, xkt_159, xkt_576, xkt_999, xkt_9999, xkt_65536, xkt_999999, xkt_m1, xkt_m2, xkt_m3, xkt_m4, xkt_m11, xkt_m12, xkt_m13, xkt_m14, xkt_m20, xjt_0, xjt_1, xjt_2, xjt_3, xjt_4, xjt_5, xjt_6, xjt_7, xjt_8, xjt_9, xjt_10, xjt_11, xjt_12, xjt_13, xjt_14, xjt_16, xjt_20, xjt_24, xjt_31, xjt_32, xjt_40, xjt_44, xjt_47, xjt_48, xjt_57, xjt_59, xjt_60, xjt_63, xjt_64, xjt_65, xjt_72, xjt_95, xjt_99, xjt_100, xjt_101, xjt_103, xjt_110, xjt_112, xjt_113, xjt_114, xjt_119, xjt_126, xjt_159, xjt_576, xjt_999, xjt_9999, xjt_65536, xjt_999999, xt64, xt_n, not_true_eq_false, not_false_eq_true, Classical.not_not] at c_6 c_15 c_21 c_27
          all_goals omega
      · skip
        exfalso
        try simp only [xB_dec, Classical.not_not] at c_6 c_15 c_21
        try simp (disch := omega) only [xt_eq, xt_lt, xt_le, xkt_0, xkt_1, xkt_2, xkt_3, xkt_4, xkt_5, xkt_6, xkt_7, xkt_8, xkt_9, xkt_10, xkt_11, xkt_12, xkt_13, xkt_14, xkt_16, xkt_20, xkt_24, xkt_31, xkt_32, xkt_40, xkt_44, xkt_47, xkt_48, xkt_57, xkt_59, xkt_60, xkt_63, xkt_64, xkt_65, xkt_72, xkt_95, xkt_99, xkt_100, xkt_101, xkt_103, xkt_110, xkt_112, xkt_113, xkt_114, xkt_119, xkt_126, xkt_159, xkt_576, xkt_999, xkt_9999, xkt_65536, xkt_999999, xkt_m1, xkt_m2, xkt_m3, xkt_m4, xkt_m11, xkt_m12, xkt_m13, xkt_m14, xkt_m20, xjt_0, xjt_1, xjt_2, xjt_3, xjt_4, xjt_5, xjt_6, xjt_7, xjt_8, xjt_9, xjt_10, xjt_11, xjt_12, xjt_13, xjt_14, xjt_16, xjt_20, xjt_24, xjt_31, xjt_32, xjt_40, xjt_44, xjt_47, xjt_48, xjt_57, xjt_59, xjt_60, xjt_63, xjt_64, xjt_65, xjt_72, xjt_95, xjt_99, xjt_100, xjt_101, xjt_103, xjt_110, xjt_112, xjt_113, xjt_114, xjt_119, xjt_126, xjt_159, xjt_576, xjt_999, xjt_9999, xjt_65536, xjt_999999, xt64, xt_n, not_true_eq_false, not_false_eq_true, Classical.not_not] at c_6 c_15 c_21
        all_goals omega

theorem c_drop0 {d : Nat} {b : Bool} {I : Nat → Nat → Int32} {L : Nat → Nat → Int64} {Y : xY} (hS : xSH Y I L) (hY : xYK Y) {x : Int32} (hx : ¬ (0 ≤ x.toInt ∧ x.toInt ≤ 3)) : xm_Z (d + 3) 103 [.ref 0, .int x] (xS b, I, L, xP b) (fun rz hz => xHC b I L (-1) Y rz hz) := by
  refine xw_S xb_103 (l := [.ref 0, .int x, .float 0]) (Nat.le_of_ble_eq_true rfl) rfl ?_
  refine xw_go xb_103 3 (f1 := (3, [.ref 0, .int x, .float 0], [.int 3, .int 0, .int x])) (h1 := (xS b, I, L, xP b)) rfl trivial ?_
  refine xw_call xb_103 rfl rfl rfl rfl rfl (Or.inl rfl) c_within ?_
  rintro _ _ ⟨rfl, rfl⟩
  refine xw_at (f' := (6, [.ref 0, .int x, .float 0], [.int (nI (xB (decide ((0 : Int32).toInt ≤ x.toInt ∧ x.toInt ≤ (3 : Int32).toInt))))])) (h' := (xS b, I, L, xP b)) rfl rfl ?_
  refine xw_go xb_103 1 (f1 := (if ¬ (nI (xB (decide ((0 : Int32).toInt ≤ x.toInt ∧ x.toInt ≤ (3 : Int32).toInt)))) = 0 then 11 else 9, [.ref 0, .int x, .float 0], [])) (h1 := (xS b, I, L, xP b)) rfl trivial ?_
  refine xw_if (fun c_6 => ?_) (fun c_6 => ?_)
  · skip
    exfalso
    try simp only [xB_dec, Classical.not_not] at c_6
    try simp (disch := omega) only [xt_eq, xt_lt, xt_le, xkt_0, xkt_1, xkt_2, xkt_3, xkt_4, xkt_5, xkt_6, xkt_7, xkt_8, xkt_9, xkt_10, xkt_11, xkt_12, xkt_13, xkt_14, xkt_16, xkt_20, xkt_24, xkt_31, xkt_32, xkt_40, xkt_44, xkt_47, xkt_48, xkt_57, xkt_59, xkt_60, xkt_63, xkt_64, xkt_65, xkt_72, xkt_95, xkt_99, xkt_100, xkt_101, xkt_103, xkt_110, xkt_112, xkt_113, xkt_114, xkt_119, xkt_126, xkt_159, xkt_576, xkt_999, xkt_9999, xkt_65536, xkt_999999, xkt_m1, xkt_m2, xkt_m3, xkt_m4, xkt_m11, xkt_m12, xkt_m13, xkt_m14, xkt_m20, xjt_0, xjt_1, xjt_2, xjt_3, xjt_4, xjt_5, xjt_6, xjt_7, xjt_8, xjt_9, xjt_10, xjt_11, xjt_12, xjt_13, xjt_14, xjt_16, xjt_20, xjt_24, xjt_31, xjt_32, xjt_40, xjt_44, xjt_47, xjt_48, xjt_57, xjt_59, xjt_60, xjt_63, xjt_64, xjt_65, xjt_72, xjt_95, xjt_99, xjt_100, xjt_101, xjt_103, xjt_110, xjt_112, xjt_113, xjt_114, xjt_119, xjt_126, xjt_159, xjt_576, xjt_999, xjt_9999, xjt_65536, xjt_999999, xt64, xt_n, not_true_eq_false, not_false_eq_true, Classical.not_not] at c_6
    all_goals omega
  · skip
    refine xw_go xb_103 1 (f1 := (10, [.ref 0, .int x, .float 0], [.int (-1)])) (h1 := (xS b, I, L, xP b)) rfl trivial ?_
    refine xw_ret xb_103 rfl rfl trivial ?_
    exact xHC_s hS

theorem c_drop1 {d : Nat} {b : Bool} {I : Nat → Nat → Int32} {L : Nat → Nat → Int64} {Y : xY} (hS : xSH Y I L) (hY : xYK Y) {s : Nat} (hs : s < 4) (h0 : (Y s).1 = false) {x : Int32} (e_x : x = nI s) : xm_Z (d + 3) 103 [.ref 0, .int x] (xS b, I, L, xP b) (fun rz hz => xHC b I L (-11) Y rz hz) := by
  subst e_x
  have s2 : (xS b)[52 + 2 * s]? = some (10, 4) := xS_52 hs
  have s3 : (xS b)[53 + 2 * s]? = some (1, 24) := xS_53 hs
  obtain ⟨y0, y1, y2, y3⟩ := hS s hs
  have hk := hY s hs
  refine xw_S xb_103 (l := [.ref 0, .int (nI s), .float 0]) (Nat.le_of_ble_eq_true rfl) rfl ?_
  refine xw_go xb_103 3 (f1 := (3, [.ref 0, .int (nI s), .float 0], [.int 3, .int 0, .int (nI s)])) (h1 := (xS b, I, L, xP b)) rfl trivial ?_
  refine xw_call xb_103 rfl rfl rfl rfl rfl (Or.inl rfl) c_within ?_
  rintro _ _ ⟨rfl, rfl⟩
  refine xw_at (f' := (6, [.ref 0, .int (nI s), .float 0], [.int (nI (xB (decide ((0 : Int32).toInt ≤ (nI s).toInt ∧ (nI s).toInt ≤ (3 : Int32).toInt))))])) (h' := (xS b, I, L, xP b)) rfl rfl ?_
  refine xw_go xb_103 1 (f1 := (if ¬ (nI (xB (decide ((0 : Int32).toInt ≤ (nI s).toInt ∧ (nI s).toInt ≤ (3 : Int32).toInt)))) = 0 then 11 else 9, [.ref 0, .int (nI s), .float 0], [])) (h1 := (xS b, I, L, xP b)) rfl trivial ?_
  refine xw_if (fun c_6 => ?_) (fun c_6 => ?_)
  · skip
    refine xw_go xb_103 4 (f1 := (17, [.ref 0, .int (nI s), .float 0], [xm_o (xP b 51 (nI s).toNatClampNeg)])) (h1 := (xS b, I, L, xP b)) rfl ⟨rfl, (xn_ar (n := s) (N := 4) rfl (by omega) (by decide)), ⟨Nat.le_of_ble_eq_true rfl, Nat.le_of_ble_eq_true rfl⟩, trivial⟩ ?_
    refine xw_cong (l' := [.ref 0, .int (nI s), .float 0]) (st' := [.ref (52 + 2 * s)]) (h' := (xS b, I, L, xP b)) rfl (show ([xm_o (xP b 51 (nI s).toNatClampNeg)] : List Value) = [.ref (52 + 2 * s)] from ?_) rfl ?_
    · rw [xn_cl (by omega), xP_51 hs]
      rfl
    refine xw_go xb_103 3 (f1 := (22, [.ref 0, .int (nI s), .ref (52 + 2 * s)], [.int (I (52 + 2 * s) 0)])) (h1 := (xS b, I, L, xP b)) rfl ⟨s2, trivial⟩ ?_
    refine xw_cong (l' := [.ref 0, .int (nI s), .ref (52 + 2 * s)]) (st' := [.int (nI (xB (Y s).1))]) (h' := (xS b, I, L, xP b)) rfl (show ([.int (I (52 + 2 * s) 0)] : List Value) = [.int (nI (xB (Y s).1))] from ?_) rfl ?_
    · rw [y0]
    refine xw_go xb_103 1 (f1 := (if ¬ (nI (xB (Y s).1)) = 0 then 28 else 25, [.ref 0, .int (nI s), .ref (52 + 2 * s)], [])) (h1 := (xS b, I, L, xP b)) rfl trivial ?_
    refine xw_if (fun c_22 => ?_) (fun c_22 => ?_)
    · skip
      exfalso
      rw [h0] at c_22
      exact c_22 rfl
    · skip
      refine xw_go xb_103 1 (f1 := (27, [.ref 0, .int (nI s), .ref (52 + 2 * s)], [.int (-11)])) (h1 := (xS b, I, L, xP b)) rfl trivial ?_
      refine xw_ret xb_103 rfl rfl trivial ?_
      exact xHC_s hS
  · skip
    exfalso
    try simp only [xB_dec, Classical.not_not] at c_6
    try simp (disch := omega) only [xt_eq, xt_lt, xt_le, xkt_0, xkt_1, xkt_2, xkt_3, xkt_4, xkt_5, xkt_6, xkt_7, xkt_8, xkt_9, xkt_10, xkt_11, xkt_12, xkt_13, xkt_14, xkt_16, xkt_20, xkt_24, xkt_31, xkt_32, xkt_40, xkt_44, xkt_47, xkt_48, xkt_57, xkt_59, xkt_60, xkt_63, xkt_64, xkt_65, xkt_72, xkt_95, xkt_99, xkt_100, xkt_101, xkt_103, xkt_110, xkt_112, xkt_113, xkt_114, xkt_119, xkt_126, xkt_159, xkt_576, xkt_999, xkt_9999, xkt_65536, xkt_999999, xkt_m1, xkt_m2, xkt_m3, xkt_m4, xkt_m11, xkt_m12, xkt_m13, xkt_m14, xkt_m20, xjt_0, xjt_1, xjt_2, xjt_3, xjt_4, xjt_5, xjt_6, xjt_7, xjt_8, xjt_9, xjt_10, xjt_11, xjt_12, xjt_13, xjt_14, xjt_16, xjt_20, xjt_24, xjt_31, xjt_32, xjt_40, xjt_44, xjt_47, xjt_48, xjt_57, xjt_59, xjt_60, xjt_63, xjt_64, xjt_65, xjt_72, xjt_95, xjt_99, xjt_100, xjt_101, xjt_103, xjt_110, xjt_112, xjt_113, xjt_114, xjt_119, xjt_126, xjt_159, xjt_576, xjt_999, xjt_9999, xjt_65536, xjt_999999, xt64, xt_n, not_true_eq_false, not_false_eq_true, Classical.not_not] at c_6
    all_goals omega

theorem c_drop2 {d : Nat} {b : Bool} {I : Nat → Nat → Int32} {L : Nat → Nat → Int64} {Y : xY} (hS : xSH Y I L) (hY : xYK Y) {s : Nat} (hs : s < 4) (h0 : (Y s).1 = true) {x : Int32} (e_x : x = nI s) : xm_Z (d + 3) 103 [.ref 0, .int x] (xS b, I, L, xP b) (fun rz hz => xHC b I L (nI (Y s).2.2.1) (va_up Y s (false, (Y s).2)) rz hz) := by
  subst e_x
  have s2 : (xS b)[52 + 2 * s]? = some (10, 4) := xS_52 hs
  have s3 : (xS b)[53 + 2 * s]? = some (1, 24) := xS_53 hs
  obtain ⟨y0, y1, y2, y3⟩ := hS s hs
  have hk := hY s hs
  refine xw_S xb_103 (l := [.ref 0, .int (nI s), .float 0]) (Nat.le_of_ble_eq_true rfl) rfl ?_
  refine xw_go xb_103 3 (f1 := (3, [.ref 0, .int (nI s), .float 0], [.int 3, .int 0, .int (nI s)])) (h1 := (xS b, I, L, xP b)) rfl trivial ?_
  refine xw_call xb_103 rfl rfl rfl rfl rfl (Or.inl rfl) c_within ?_
  rintro _ _ ⟨rfl, rfl⟩
  refine xw_at (f' := (6, [.ref 0, .int (nI s), .float 0], [.int (nI (xB (decide ((0 : Int32).toInt ≤ (nI s).toInt ∧ (nI s).toInt ≤ (3 : Int32).toInt))))])) (h' := (xS b, I, L, xP b)) rfl rfl ?_
  refine xw_go xb_103 1 (f1 := (if ¬ (nI (xB (decide ((0 : Int32).toInt ≤ (nI s).toInt ∧ (nI s).toInt ≤ (3 : Int32).toInt)))) = 0 then 11 else 9, [.ref 0, .int (nI s), .float 0], [])) (h1 := (xS b, I, L, xP b)) rfl trivial ?_
  refine xw_if (fun c_6 => ?_) (fun c_6 => ?_)
  · skip
    refine xw_go xb_103 4 (f1 := (17, [.ref 0, .int (nI s), .float 0], [xm_o (xP b 51 (nI s).toNatClampNeg)])) (h1 := (xS b, I, L, xP b)) rfl ⟨rfl, (xn_ar (n := s) (N := 4) rfl (by omega) (by decide)), ⟨Nat.le_of_ble_eq_true rfl, Nat.le_of_ble_eq_true rfl⟩, trivial⟩ ?_
    refine xw_cong (l' := [.ref 0, .int (nI s), .float 0]) (st' := [.ref (52 + 2 * s)]) (h' := (xS b, I, L, xP b)) rfl (show ([xm_o (xP b 51 (nI s).toNatClampNeg)] : List Value) = [.ref (52 + 2 * s)] from ?_) rfl ?_
    · rw [xn_cl (by omega), xP_51 hs]
      rfl
    refine xw_go xb_103 3 (f1 := (22, [.ref 0, .int (nI s), .ref (52 + 2 * s)], [.int (I (52 + 2 * s) 0)])) (h1 := (xS b, I, L, xP b)) rfl ⟨s2, trivial⟩ ?_
    refine xw_cong (l' := [.ref 0, .int (nI s), .ref (52 + 2 * s)]) (st' := [.int (nI (xB (Y s).1))]) (h' := (xS b, I, L, xP b)) rfl (show ([.int (I (52 + 2 * s) 0)] : List Value) = [.int (nI (xB (Y s).1))] from ?_) rfl ?_
    · rw [y0]
    refine xw_go xb_103 1 (f1 := (if ¬ (nI (xB (Y s).1)) = 0 then 28 else 25, [.ref 0, .int (nI s), .ref (52 + 2 * s)], [])) (h1 := (xS b, I, L, xP b)) rfl trivial ?_
    refine xw_if (fun c_22 => ?_) (fun c_22 => ?_)
    · skip
      refine xw_go xb_103 5 (f1 := (37, [.ref 0, .int (nI s), .ref (52 + 2 * s)], [.int ((xm_up I (52 + 2 * s) 0 0) (52 + 2 * s) 2)])) (h1 := (xS b, xm_up I (52 + 2 * s) 0 0, L, xP b)) rfl ⟨s2, (Or.inl rfl), s2, trivial⟩ ?_
      refine xw_ret xb_103 rfl rfl trivial ?_
      refine ⟨xm_some (congrArg Value.int ?_), _, _, rfl, xSH_u hS hs (hd := false) (la := (Y s).2.1) (sz := (Y s).2.2.1) (it := (Y s).2.2.2) ?_ ?_ ?_ ?_ ?_ ?_, ?_⟩
      · rw [xm_up_ne (Or.inr (by decide)), y2]
      · rw [xm_up_at]
        rfl
      · rw [xm_up_ne (Or.inr (by decide)), y1]
      · rw [xm_up_ne (Or.inr (by decide)), y2]
      · exact y3
      · intro a ha
        rw [xm_up_o ha]
      · intro a ha
        rfl
      · intro a ha
        rw [xm_up_o (by omega)]
        exact ⟨rfl, rfl⟩
    · skip
      exfalso
      rw [h0] at c_22
      exact c_22 (by decide)
  · skip
    exfalso
    try simp only [xB_dec, Classical.not_not] at c_6
    try simp (disch := omega) only [xt_eq, xt_lt, xt_le, xkt_0, xkt_1, xkt_2, xkt_3, xkt_4, xkt_5, xkt_6, xkt_7, xkt_8, xkt_9, xkt_10, xkt_11, xkt_12, xkt_13, xkt_14, xkt_16, xkt_20, xkt_24, xkt_31, xkt_32, xkt_40, xkt_44, xkt_47, xkt_48, xkt_57, xkt_59, xkt_60, xkt_63, xkt_64, xkt_65, xkt_72, xkt_95, xkt_99, xkt_100, xkt_101, xkt_103, xkt_110, xkt_112, xkt_113, xkt_114, xkt_119, xkt_126, xkt_159, xkt_576, xkt_999, xkt_9999, xkt_65536, xkt_999999, xkt_m1, xkt_m2, xkt_m3, xkt_m4, xkt_m11, xkt_m12, xkt_m13, xkt_m14, xkt_m20, xjt_0, xjt_1, xjt_2, xjt_3, xjt_4, xjt_5, xjt_6, xjt_7, xjt_8, xjt_9, xjt_10, xjt_11, xjt_12, xjt_13, xjt_14, xjt_16, xjt_20, xjt_24, xjt_31, xjt_32, xjt_40, xjt_44, xjt_47, xjt_48, xjt_57, xjt_59, xjt_60, xjt_63, xjt_64, xjt_65, xjt_72, xjt_95, xjt_99, xjt_100, xjt_101, xjt_103, xjt_110, xjt_112, xjt_113, xjt_114, xjt_119, xjt_126, xjt_159, xjt_576, xjt_999, xjt_9999, xjt_65536, xjt_999999, xt64, xt_n, not_true_eq_false, not_false_eq_true, Classical.not_not] at c_6
    all_goals omega

theorem c_refusal0 {d : Nat} {b : Bool} {I : Nat → Nat → Int32} {L : Nat → Nat → Int64} {x y i n : Int32} (hx : ¬ (0 ≤ x.toInt ∧ x.toInt ≤ 3 ∧ 0 ≤ y.toInt ∧ y.toInt ≤ 3)) : xm_Z (d + 2) 93 [.ref 0, .int x, .int y, .int i, .int n] (xS b, I, L, xP b) (fun rz hz => rz = some (.int (-1)) ∧ hz = (xS b, I, L, xP b)) := by
  refine xw_S xb_93 (l := [.ref 0, .int x, .int y, .int i, .int n, .float 0]) (Nat.le_of_ble_eq_true rfl) rfl ?_
  refine xw_go xb_93 3 (f1 := (3, [.ref 0, .int x, .int y, .int i, .int n, .float 0], [.int 3, .int 0, .int x])) (h1 := (xS b, I, L, xP b)) rfl trivial ?_
  refine xw_call xb_93 rfl rfl rfl rfl rfl (Or.inl rfl) c_within ?_
  rintro _ _ ⟨rfl, rfl⟩
  refine xw_at (f' := (6, [.ref 0, .int x, .int y, .int i, .int n, .float 0], [.int (nI (xB (decide ((0 : Int32).toInt ≤ x.toInt ∧ x.toInt ≤ (3 : Int32).toInt))))])) (h' := (xS b, I, L, xP b)) rfl rfl ?_
  refine xw_go xb_93 1 (f1 := (if (nI (xB (decide ((0 : Int32).toInt ≤ x.toInt ∧ x.toInt ≤ (3 : Int32).toInt)))) = 0 then 18 else 9, [.ref 0, .int x, .int y, .int i, .int n, .float 0], [])) (h1 := (xS b, I, L, xP b)) rfl trivial ?_
  refine xw_if (fun c_6 => ?_) (fun c_6 => ?_)
  · skip
    refine xw_go xb_93 1 (f1 := (19, [.ref 0, .int x, .int y, .int i, .int n, .float 0], [.int (-1)])) (h1 := (xS b, I, L, xP b)) rfl trivial ?_
    refine xw_ret xb_93 rfl rfl trivial ?_
    exact ⟨rfl, rfl⟩
  · skip
    refine xw_go xb_93 3 (f1 := (12, [.ref 0, .int x, .int y, .int i, .int n, .float 0], [.int 3, .int 0, .int y])) (h1 := (xS b, I, L, xP b)) rfl trivial ?_
    refine xw_call xb_93 rfl rfl rfl rfl rfl (Or.inl rfl) c_within ?_
    rintro _ _ ⟨rfl, rfl⟩
    refine xw_at (f' := (15, [.ref 0, .int x, .int y, .int i, .int n, .float 0], [.int (nI (xB (decide ((0 : Int32).toInt ≤ y.toInt ∧ y.toInt ≤ (3 : Int32).toInt))))])) (h' := (xS b, I, L, xP b)) rfl rfl ?_
    refine xw_go xb_93 1 (f1 := (if ¬ (nI (xB (decide ((0 : Int32).toInt ≤ y.toInt ∧ y.toInt ≤ (3 : Int32).toInt)))) = 0 then 20 else 18, [.ref 0, .int x, .int y, .int i, .int n, .float 0], [])) (h1 := (xS b, I, L, xP b)) rfl trivial ?_
    refine xw_if (fun c_15 => ?_) (fun c_15 => ?_)
    · skip
      exfalso
      try simp only [xB_dec, Classical.not_not] at c_6 c_15
      try simp (disch := omega) only [xt_eq, xt_lt, xt_le, xkt_0, xkt_1, xkt_2, xkt_3, xkt_4, xkt_5, xkt_6, xkt_7, xkt_8, xkt_9, xkt_10, xkt_11, xkt_12, xkt_13, xkt_14, xkt_16, xkt_20, xkt_24, xkt_31, xkt_32, xkt_40, xkt_44, xkt_47, xkt_48, xkt_57, xkt_59, xkt_60, xkt_63, xkt_64, xkt_65, xkt_72, xkt_95, xkt_99, xkt_100, xkt_101, xkt_103, xkt_110, xkt_112, xkt_113, xkt_114, xkt_119, xkt_126, xkt_159, xkt_576, xkt_999, xkt_9999, xkt_65536, xkt_999999, xkt_m1, xkt_m2, xkt_m3, xkt_m4, xkt_m11, xkt_m12, xkt_m13, xkt_m14, xkt_m20, xjt_0, xjt_1, xjt_2, xjt_3, xjt_4, xjt_5, xjt_6, xjt_7, xjt_8, xjt_9, xjt_10, xjt_11, xjt_12, xjt_13, xjt_14, xjt_16, xjt_20, xjt_24, xjt_31, xjt_32, xjt_40, xjt_44, xjt_47, xjt_48, xjt_57, xjt_59, xjt_60, xjt_63, xjt_64, xjt_65, xjt_72, xjt_95, xjt_99, xjt_100, xjt_101, xjt_103, xjt_110, xjt_112, xjt_113, xjt_114, xjt_119, xjt_126, xjt_159, xjt_576, xjt_999, xjt_9999, xjt_65536, xjt_999999, xt64, xt_n, not_true_eq_false, not_false_eq_true, Classical.not_not] at c_6 c_15
      all_goals omega
    · skip
      refine xw_go xb_93 1 (f1 := (19, [.ref 0, .int x, .int y, .int i, .int n, .float 0], [.int (-1)])) (h1 := (xS b, I, L, xP b)) rfl trivial ?_
      refine xw_ret xb_93 rfl rfl trivial ?_
      exact ⟨rfl, rfl⟩

theorem c_refusal1 {d : Nat} {b : Bool} {I : Nat → Nat → Int32} {L : Nat → Nat → Int64} {Y : xY} (hS : xSH Y I L) (hY : xYK Y) {s : Nat} (hs : s < 4) {la : Nat} (bl : la < 4) {i n : Int32} {x : Int32} (e_x : x = nI s) {y : Int32} (e_y : y = nI la) : xm_Z (d + 2) 93 [.ref 0, .int x, .int y, .int i, .int n] (xS b, I, L, xP b) (fun rz hz => rz = some (.int (xwy (Y s) la i n)) ∧ hz = (xS b, I, L, xP b)) := by
  subst e_x
  subst e_y
  have s2 : (xS b)[52 + 2 * s]? = some (10, 4) := xS_52 hs
  have s3 : (xS b)[53 + 2 * s]? = some (1, 24) := xS_53 hs
  obtain ⟨y0, y1, y2, y3⟩ := hS s hs
  have hk := hY s hs
  refine xw_S xb_93 (l := [.ref 0, .int (nI s), .int (nI la), .int i, .int n, .float 0]) (Nat.le_of_ble_eq_true rfl) rfl ?_
  refine xw_go xb_93 3 (f1 := (3, [.ref 0, .int (nI s), .int (nI la), .int i, .int n, .float 0], [.int 3, .int 0, .int (nI s)])) (h1 := (xS b, I, L, xP b)) rfl trivial ?_
  refine xw_call xb_93 rfl rfl rfl rfl rfl (Or.inl rfl) c_within ?_
  rintro _ _ ⟨rfl, rfl⟩
  refine xw_at (f' := (6, [.ref 0, .int (nI s), .int (nI la), .int i, .int n, .float 0], [.int (nI (xB (decide ((0 : Int32).toInt ≤ (nI s).toInt ∧ (nI s).toInt ≤ (3 : Int32).toInt))))])) (h' := (xS b, I, L, xP b)) rfl rfl ?_
  refine xw_go xb_93 1 (f1 := (if (nI (xB (decide ((0 : Int32).toInt ≤ (nI s).toInt ∧ (nI s).toInt ≤ (3 : Int32).toInt)))) = 0 then 18 else 9, [.ref 0, .int (nI s), .int (nI la), .int i, .int n, .float 0], [])) (h1 := (xS b, I, L, xP b)) rfl trivial ?_
  refine xw_if (fun c_6 => ?_) (fun c_6 => ?_)
  · skip
    exfalso
    try simp only [xB_dec, Classical.not_not] at c_6
    try simp (disch := omega) only [xt_eq, xt_lt, xt_le, xkt_0, xkt_1, xkt_2, xkt_3, xkt_4, xkt_5, xkt_6, xkt_7, xkt_8, xkt_9, xkt_10, xkt_11, xkt_12, xkt_13, xkt_14, xkt_16, xkt_20, xkt_24, xkt_31, xkt_32, xkt_40, xkt_44, xkt_47, xkt_48, xkt_57, xkt_59, xkt_60, xkt_63, xkt_64, xkt_65, xkt_72, xkt_95, xkt_99, xkt_100, xkt_101, xkt_103, xkt_110, xkt_112, xkt_113, xkt_114, xkt_119, xkt_126, xkt_159, xkt_576, xkt_999, xkt_9999, xkt_65536, xkt_999999, xkt_m1, xkt_m2, xkt_m3, xkt_m4, xkt_m11, xkt_m12, xkt_m13, xkt_m14, xkt_m20, xjt_0, xjt_1, xjt_2, xjt_3, xjt_4, xjt_5, xjt_6, xjt_7, xjt_8, xjt_9, xjt_10, xjt_11, xjt_12, xjt_13, xjt_14, xjt_16, xjt_20, xjt_24, xjt_31, xjt_32, xjt_40, xjt_44, xjt_47, xjt_48, xjt_57, xjt_59, xjt_60, xjt_63, xjt_64, xjt_65, xjt_72, xjt_95, xjt_99, xjt_100, xjt_101, xjt_103, xjt_110, xjt_112, xjt_113, xjt_114, xjt_119, xjt_126, xjt_159, xjt_576, xjt_999, xjt_9999, xjt_65536, xjt_999999, xt64, xt_n, not_true_eq_false, not_false_eq_true, Classical.not_not] at c_6
    all_goals omega
  · skip
    refine xw_go xb_93 3 (f1 := (12, [.ref 0, .int (nI s), .int (nI la), .int i, .int n, .float 0], [.int 3, .int 0, .int (nI la)])) (h1 := (xS b, I, L, xP b)) rfl trivial ?_
    refine xw_call xb_93 rfl rfl rfl rfl rfl (Or.inl rfl) c_within ?_
    rintro _ _ ⟨rfl, rfl⟩
    refine xw_at (f' := (15, [.ref 0, .int (nI s), .int (nI la), .int i, .int n, .float 0], [.int (nI (xB (decide ((0 : Int32).toInt ≤ (nI la).toInt ∧ (nI la).toInt ≤ (3 : Int32).toInt))))])) (h' := (xS b, I, L, xP b)) rfl rfl ?_
    refine xw_go xb_93 1 (f1 := (if ¬ (nI (xB (decide ((0 : Int32).toInt ≤ (nI la).toInt ∧ (nI la).toInt ≤ (3 : Int32).toInt)))) = 0 then 20 else 18, [.ref 0, .int (nI s), .int (nI la), .int i, .int n, .float 0], [])) (h1 := (xS b, I, L, xP b)) rfl trivial ?_
    refine xw_if (fun c_15 => ?_) (fun c_15 => ?_)
    · skip
      refine xw_go xb_93 4 (f1 := (26, [.ref 0, .int (nI s), .int (nI la), .int i, .int n, .float 0], [xm_o (xP b 51 (nI s).toNatClampNeg)])) (h1 := (xS b, I, L, xP b)) rfl ⟨rfl, (xn_ar (n := s) (N := 4) rfl (by omega) (by decide)), ⟨Nat.le_of_ble_eq_true rfl, Nat.le_of_ble_eq_true rfl⟩, trivial⟩ ?_
      refine xw_cong (l' := [.ref 0, .int (nI s), .int (nI la), .int i, .int n, .float 0]) (st' := [.ref (52 + 2 * s)]) (h' := (xS b, I, L, xP b)) rfl (show ([xm_o (xP b 51 (nI s).toNatClampNeg)] : List Value) = [.ref (52 + 2 * s)] from ?_) rfl ?_
      · rw [xn_cl (by omega), xP_51 hs]
        rfl
      refine xw_go xb_93 3 (f1 := (33, [.ref 0, .int (nI s), .int (nI la), .int i, .int n, .ref (52 + 2 * s)], [.int (I (52 + 2 * s) 0)])) (h1 := (xS b, I, L, xP b)) rfl ⟨s2, trivial⟩ ?_
      refine xw_cong (l' := [.ref 0, .int (nI s), .int (nI la), .int i, .int n, .ref (52 + 2 * s)]) (st' := [.int (nI (xB (Y s).1))]) (h' := (xS b, I, L, xP b)) rfl (show ([.int (I (52 + 2 * s) 0)] : List Value) = [.int (nI (xB (Y s).1))] from ?_) rfl ?_
      · rw [y0]
      refine xw_go xb_93 1 (f1 := (if ¬ (nI (xB (Y s).1)) = 0 then 39 else 36, [.ref 0, .int (nI s), .int (nI la), .int i, .int n, .ref (52 + 2 * s)], [])) (h1 := (xS b, I, L, xP b)) rfl trivial ?_
      refine xw_if (fun c_33 => ?_) (fun c_33 => ?_)
      · skip
        refine xw_go xb_93 2 (f1 := (44, [.ref 0, .int (nI s), .int (nI la), .int i, .int n, .ref (52 + 2 * s)], [.int (I (52 + 2 * s) 1)])) (h1 := (xS b, I, L, xP b)) rfl ⟨s2, trivial⟩ ?_
        refine xw_cong (l' := [.ref 0, .int (nI s), .int (nI la), .int i, .int n, .ref (52 + 2 * s)]) (st' := [.int (nI (Y s).2.1)]) (h' := (xS b, I, L, xP b)) rfl (show ([.int (I (52 + 2 * s) 1)] : List Value) = [.int (nI (Y s).2.1)] from ?_) rfl ?_
        · rw [y1]
        refine xw_go xb_93 2 (f1 := (if (nI (Y s).2.1) = (nI la) then 51 else 48, [.ref 0, .int (nI s), .int (nI la), .int i, .int n, .ref (52 + 2 * s)], [])) (h1 := (xS b, I, L, xP b)) rfl trivial ?_
        refine xw_if (fun c_45 => ?_) (fun c_45 => ?_)
        · skip
          refine xw_go xb_93 3 (f1 := (56, [.ref 0, .int (nI s), .int (nI la), .int i, .int n, .ref (52 + 2 * s)], [.int n, .int i, .ref (52 + 2 * s)])) (h1 := (xS b, I, L, xP b)) rfl trivial ?_
          refine xw_call xb_93 rfl rfl rfl rfl rfl (Or.inr ⟨_, _, rfl, s2⟩) (c_hasItems (I := I) (z := (Y s).2.2.1) s2 y2 hk.2) ?_
          rintro _ _ ⟨rfl, rfl⟩
          refine xw_at (f' := (59, [.ref 0, .int (nI s), .int (nI la), .int i, .int n, .ref (52 + 2 * s)], [.int (nI (xB (decide (0 ≤ i.toInt ∧ 0 ≤ n.toInt ∧ i.toInt + n.toInt ≤ ((Y s).2.2.1 : Int)))))])) (h' := (xS b, I, L, xP b)) rfl rfl ?_
          refine xw_go xb_93 1 (f1 := (if (nI (xB (decide (0 ≤ i.toInt ∧ 0 ≤ n.toInt ∧ i.toInt + n.toInt ≤ ((Y s).2.2.1 : Int))))) = 0 then 66 else 62, [.ref 0, .int (nI s), .int (nI la), .int i, .int n, .ref (52 + 2 * s)], [])) (h1 := (xS b, I, L, xP b)) rfl trivial ?_
          refine xw_if (fun c_59 => ?_) (fun c_59 => ?_)
          · skip
            refine xw_go xb_93 1 (f1 := (68, [.ref 0, .int (nI s), .int (nI la), .int i, .int n, .ref (52 + 2 * s)], [.int (-13)])) (h1 := (xS b, I, L, xP b)) rfl trivial ?_
            refine xw_ret xb_93 rfl rfl trivial ?_
            refine ⟨xm_some (congrArg Value.int ?_), rfl⟩
            unfold xwy
            rw [if_neg (fun q => c_33 ((xB_eq0 _).mpr q)), if_neg (fun q => q (by have := c_45; rw [nI_eq (by omega) (by omega)] at this; exact this)), if_neg (by rw [xB_dec] at c_59; exact c_59)]
          · skip
            refine xw_go xb_93 2 (f1 := (68, [.ref 0, .int (nI s), .int (nI la), .int i, .int n, .ref (52 + 2 * s)], [.int 0])) (h1 := (xS b, I, L, xP b)) rfl trivial ?_
            refine xw_ret xb_93 rfl rfl trivial ?_
            refine ⟨xm_some (congrArg Value.int ?_), rfl⟩
            unfold xwy
            rw [if_neg (fun q => c_33 ((xB_eq0 _).mpr q)), if_neg (fun q => q (by have := c_45; rw [nI_eq (by omega) (by omega)] at this; exact this)), if_pos (by rw [xB_dec] at c_59; exact Classical.not_not.mp c_59)]
        · skip
          refine xw_go xb_93 1 (f1 := (50, [.ref 0, .int (nI s), .int (nI la), .int i, .int n, .ref (52 + 2 * s)], [.int (-12)])) (h1 := (xS b, I, L, xP b)) rfl trivial ?_
          refine xw_ret xb_93 rfl rfl trivial ?_
          refine ⟨xm_some (congrArg Value.int ?_), rfl⟩
          unfold xwy
          rw [if_neg (fun q => c_33 ((xB_eq0 _).mpr q)), if_pos (fun q => c_45 (by rw [q]))]
      · skip
        refine xw_go xb_93 1 (f1 := (38, [.ref 0, .int (nI s), .int (nI la), .int i, .int n, .ref (52 + 2 * s)], [.int (-11)])) (h1 := (xS b, I, L, xP b)) rfl trivial ?_
        refine xw_ret xb_93 rfl rfl trivial ?_
        refine ⟨xm_some (congrArg Value.int ?_), rfl⟩
        unfold xwy
        rw [if_pos ((xB_eq0 _).mp (Classical.not_not.mp c_33))]
    · skip
      exfalso
      try simp only [xB_dec, Classical.not_not] at c_6 c_15
      try simp (disch := omega) only [xt_eq, xt_lt, xt_le, xkt_0, xkt_1, xkt_2, xkt_3, xkt_4, xkt_5, xkt_6, xkt_7, xkt_8, xkt_9, xkt_10, xkt_11, xkt_12, xkt_13, xkt_14, xkt_16, xkt_20, xkt_24, xkt_31, xkt_32, xkt_40, xkt_44, xkt_47, xkt_48, xkt_57, xkt_59, xkt_60, xkt_63, xkt_64, xkt_65, xkt_72, xkt_95, xkt_99, xkt_100, xkt_101, xkt_103, xkt_110, xkt_112, xkt_113, xkt_114, xkt_119, xkt_126, xkt_159, xkt_576, xkt_999, xkt_9999, xkt_65536, xkt_999999, xkt_m1, xkt_m2, xkt_m3, xkt_m4, xkt_m11, xkt_m12, xkt_m13, xkt_m14, xkt_m20, xjt_0, xjt_1, xjt_2, xjt_3, xjt_4, xjt_5, xjt_6, xjt_7, xjt_8, xjt_9, xjt_10, xjt_11, xjt_12, xjt_13, xjt_14, xjt_16, xjt_20, xjt_24, xjt_31, xjt_32, xjt_40, xjt_44, xjt_47, xjt_48, xjt_57, xjt_59, xjt_60, xjt_63, xjt_64, xjt_65, xjt_72, xjt_95, xjt_99, xjt_100, xjt_101, xjt_103, xjt_110, xjt_112, xjt_113, xjt_114, xjt_119, xjt_126, xjt_159, xjt_576, xjt_999, xjt_9999, xjt_65536, xjt_999999, xt64, xt_n, not_true_eq_false, not_false_eq_true, Classical.not_not] at c_6 c_15
      all_goals omega

