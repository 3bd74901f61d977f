/-! ===== gardens as texts ===== -/
/-- behind blanks -/
def xskF (T : Nat → Nat) (t : Nat) : Nat → Nat → Nat
  | 0, p => p
  | f + 1, p => if p < t ∧ T p = 32 then xskF T t f (p + 1) else p
def xsk (T : Nat → Nat) (t p : Nat) : Nat := xskF T t (t - p) p
section XG
variable {T : Nat → Nat} {t : Nat}
theorem xsk_st {p : Nat} (h : p < t ∧ T p = 32) : xsk T t p = xsk T t (p + 1) := by
  unfold xsk
  rw [show t - p = (t - (p + 1)) + 1 by omega]
  show (if _ then _ else _) = _
  rw [if_pos h]
theorem xsk_no {p : Nat} (h : ¬ (p < t ∧ T p = 32)) : xsk T t p = p := by
  unfold xsk
  cases t - p with
  | zero => rfl
  | succ f =>
    show (if _ then _ else _) = _
    rw [if_neg h]
theorem xsk_P {P : Nat → Nat → Prop} (h0 : ∀ p, ¬ (p < t ∧ T p = 32) → P p p) (h1 : ∀ p q, p < t ∧ T p = 32 → P (p + 1) q → P p q) : ∀ n p, t - p ≤ n → P p (xsk T t p)
  | 0, p, h => by
    have : ¬ (p < t ∧ T p = 32) := by omega
    rw [xsk_no this]
    exact h0 p this
  | n + 1, p, h => by
    by_cases q : p < t ∧ T p = 32
    · rw [xsk_st q]
      exact h1 p _ q (xsk_P h0 h1 n (p + 1) (by omega))
    · rw [xsk_no q]
      exact h0 p q
theorem xsk_end (p : Nat) : ¬ (xsk T t p < t ∧ T (xsk T t p) = 32) := xsk_P (P := fun _ q => ¬ (q < t ∧ T q = 32)) (fun _ h => h) (fun _ _ _ h => h) (t - p) p (Nat.le_refl _)
theorem xsk_ge (p : Nat) : p ≤ xsk T t p := xsk_P (P := fun p q => p ≤ q) (fun p _ => Nat.le_refl p) (fun p q _ h => by omega) (t - p) p (Nat.le_refl _)
theorem xsk_le {p : Nat} (h : p ≤ t) : xsk T t p ≤ t := xsk_P (P := fun p q => p ≤ t → q ≤ t) (fun p _ h => h) (fun p q h1 h2 h3 => h2 (by omega)) (t - p) p (Nat.le_refl _) h
theorem xsk_id (p : Nat) : xsk T t (xsk T t p) = xsk T t p := xsk_no (xsk_end p)
theorem xsk_bl (p : Nat) : ∀ r, p ≤ r → r < xsk T t p → r < t ∧ T r = 32 := xsk_P (P := fun p q => ∀ r, p ≤ r → r < q → r < t ∧ T r = 32) (fun p _ r h1 h2 => absurd h1 (by omega)) (fun p q h1 h2 r h3 h4 => by
  by_cases e : r = p
  · rw [e]; exact h1
  · exact h2 r (by omega) h4) (t - p) p (Nat.le_refl _)
/-- the letter there, 0 at the end -/
def xlt (T : Nat → Nat) (t p : Nat) : Nat := if xsk T t p < t then T (xsk T t p) else 0
theorem xlt_c {p q : Nat} (h : xsk T t p = xsk T t q) : xlt T t p = xlt T t q := by unfold xlt; rw [h]
theorem xlt_n {p : Nat} (h : xlt T t p ≠ 0) : xsk T t p < t := by
  unfold xlt at h
  by_cases q : xsk T t p < t
  · exact q
  · rw [if_neg q] at h
    exact absurd rfl h
theorem xlt_le {p : Nat} (hT : ∀ k, k < t → 32 ≤ T k ∧ T k ≤ 126) : xlt T t p ≤ 126 := by
  unfold xlt
  by_cases q : xsk T t p < t
  · rw [if_pos q]; exact (hT _ q).2
  · rw [if_neg q]; omega
/-- the letter as the class has it, as the model has it -/
def xlC (T : Nat → Nat) (t p : Nat) : Int32 := if xsk T t p < t then nI (T (xsk T t p)) else -1
theorem xlM {p : Nat} : (if xsk T t p < t then nI (T (xsk T t p)) else 0) = nI (xlt T t p) := by
  unfold xlt
  by_cases q : xsk T t p < t
  · rw [if_pos q, if_pos q]
  · rw [if_neg q, if_neg q]; rfl
theorem xlC_c {p q : Nat} (h : xsk T t p = xsk T t q) : xlC T t p = xlC T t q := by unfold xlC; rw [h]
theorem xlC_eq {p k : Nat} (hT : ∀ k, k < t → 32 ≤ T k ∧ T k ≤ 126) (hk : 0 < k) (hk2 : k < 2 ^ 31) : xlC T t p = nI k ↔ xlt T t p = k := by
  unfold xlC xlt
  by_cases q : xsk T t p < t
  · rw [if_pos q, if_pos q]
    have := hT _ q
    exact nI_eq (by omega) hk2
  · rw [if_neg q, if_neg q, xt_eq, xkt_m1, xt_n hk2]
    omega
theorem xlC_m1 {p : Nat} (hT : ∀ k, k < t → 32 ≤ T k ∧ T k ≤ 126) : xlC T t p = -1 ↔ xlt T t p = 0 := by
  unfold xlC xlt
  by_cases q : xsk T t p < t
  · rw [if_pos q, if_pos q]
    have := hT _ q
    rw [xt_eq, xkt_m1, xt_n (by omega)]
    omega
  · rw [if_neg q, if_neg q]
    exact ⟨fun _ => rfl, fun _ => rfl⟩
/-- how many of the first n hold ahead of the first that doesn't -/
def xld (f : Nat → Bool) : Nat → Nat
  | 0 => 0
  | n + 1 => if xld f n = n ∧ f n = true then n + 1 else xld f n
theorem xld_le (f : Nat → Bool) : ∀ n, xld f n ≤ n
  | 0 => Nat.le_refl 0
  | n + 1 => by
    have := xld_le f n
    unfold xld
    split <;> omega
theorem xld_t {f : Nat → Bool} : ∀ n k, k < xld f n → f k = true
  | 0, k, h => absurd h (Nat.not_lt_zero k)
  | n + 1, k, h => by
    unfold xld at h
    split at h
    · rename_i q
      by_cases e : k = n
      · rw [e]; exact q.2
      · exact xld_t n k (by omega)
    · exact xld_t n k h
theorem xld_f {f : Nat → Bool} : ∀ n, xld f n < n → f (xld f n) = false
  | 0, h => absurd h (Nat.not_lt_zero _)
  | n + 1, h => by
    have ih := xld_f (f := f) n
    have hl := xld_le f n
    unfold xld at h ⊢
    split
    · rename_i q
      rw [if_pos q] at h
      omega
    · rename_i q
      by_cases e : xld f n = n
      · rw [e] at q ⊢
        cases hf : f n
        · rfl
        · exact absurd ⟨rfl, hf⟩ q
      · exact ih (by omega)
theorem xld_all {f : Nat → Bool} : ∀ n, (∀ k, k < n → f k = true) → xld f n = n
  | 0, _ => rfl
  | n + 1, h => by
    unfold xld
    rw [if_pos ⟨xld_all n fun k hk => h k (by omega), h n (by omega)⟩]
theorem xld_u {f : Nat → Bool} {n m : Nat} (h1 : m ≤ n) (h2 : ∀ k, k < m → f k = true) (h3 : m < n → f m = false) : xld f n = m := by
  have a := xld_le f n
  by_cases e : xld f n < m
  · have := xld_f (f := f) n (by omega)
    rw [h2 _ e] at this
    cases this
  · by_cases e2 : m < xld f n
    · have := xld_t n m e2
      rw [h3 (by omega)] at this
      cases this
    · omega
/-- behind k letters -/
def xrp (T : Nat → Nat) (t p : Nat) : Nat → Nat
  | 0 => p
  | k + 1 => xsk T t (xrp T t p k) + 1
def xsc (l : Nat) : Nat := if l = 103 then 0 else if l = 99 then 1 else if l = 112 then 2 else 3
def xsv (l : Nat) : Int32 := if xsc l < 3 then nI (xsc l) else -1
def xkc (l : Nat) : Nat := if l = 114 then 0 else if l = 101 then 1 else if l = 113 then 2 else if l = 100 then 3 else if l = 119 then 4 else 5
def xkv (l : Nat) : Int32 := if xkc l < 5 then nI (xkc l) else -1
theorem xsv_ge {l : Nat} : xsv l < 0 ↔ ¬ xsc l < 3 := by
  unfold xsv
  by_cases h : xsc l < 3
  · rw [if_pos h, xl_0, nI_ltI (by omega) (by omega)]
    omega
  · rw [if_neg h]
    exact ⟨fun _ => h, fun _ => by decide⟩
theorem xkv_ge {l : Nat} : 0 ≤ xkv l ↔ xkc l < 5 := by
  unfold xkv
  by_cases h : xkc l < 5
  · rw [if_pos h, xl_0, nI_leI (by omega) (by omega)]
    omega
  · rw [if_neg h]
    exact ⟨fun q => absurd q (by decide), fun q => absurd q h⟩
theorem xsc_0 : xsc 0 = 3 := rfl
theorem xkc_0 : xkc 0 = 5 := rfl
theorem xsc_n {l : Nat} (h : xsc l < 3) : l ≠ 0 := fun q => by rw [q, xsc_0] at h; omega
theorem xkc_n {l : Nat} (h : xkc l < 5) : l ≠ 0 := fun q => by rw [q, xkc_0] at h; omega
/-- a letter of soil -/
def xfr9 (T : Nat → Nat) (t p : Nat) : Nat → Bool := fun j => decide (xsc (xlt T t (xrp T t p j)) < 3)
/-- columns -/
def xgC (T : Nat → Nat) (t : Nat) : Nat := xld (xfr9 T t 0) 8
/-- where row k begins -/
def xq (T : Nat → Nat) (t : Nat) : Nat → Nat
  | 0 => 0
  | k + 1 => xsk T t (xrp T t (xq T t k) (xgC T t)) + 1
/-- how many letters of row k stand -/
def xgn (T : Nat → Nat) (t k : Nat) : Nat := xld (xfr9 T t (xq T t k)) (xgC T t)
/-- another row comes behind row k -/
def xgc (T : Nat → Nat) (t k : Nat) : Prop := 2 ≤ xgC T t ∧ xgn T t k = xgC T t ∧ xlt T t (xrp T t (xq T t k) (xgC T t)) = 47 ∧ k < 7
/-- the rows end with row k -/
def xgg (T : Nat → Nat) (t k : Nat) : Prop := 2 ≤ xgC T t ∧ xgn T t k = xgC T t ∧ xlt T t (xrp T t (xq T t k) (xgC T t)) = 59 ∧ 1 ≤ k
theorem xgC_le : xgC T t ≤ 8 := xld_le _ _
theorem xgn_le {k : Nat} : xgn T t k ≤ xgC T t := xld_le _ _
theorem xgn_0 : xgn T t 0 = xgC T t := xld_all _ fun k hk => xld_t 8 k hk
theorem xfr9_lt {p j : Nat} (h : xfr9 T t p j = true) : xsk T t (xrp T t p j) < t := xlt_n (xsc_n (of_decide_eq_true h))
theorem xrp_le {p n : Nat} (hp : p ≤ t) (h : ∀ j, j < n → xfr9 T t p j = true) : ∀ k, k ≤ n → xrp T t p k ≤ t
  | 0, _ => hp
  | k + 1, hk => by
    have := xfr9_lt (h k (by omega))
    show xsk T t (xrp T t p k) + 1 ≤ t
    omega
theorem xq_le : ∀ k, (∀ j, j < k → xgc T t j) → xq T t k ≤ t
  | 0, _ => Nat.zero_le t
  | k + 1, h => by
    have := (h k (by omega)).2.2.1
    have := xlt_n (T := T) (t := t) (p := xrp T t (xq T t k) (xgC T t)) (by omega)
    show xsk T t (xrp T t (xq T t k) (xgC T t)) + 1 ≤ t
    omega
theorem xgc_ex : ∃ k, k ≤ 7 ∧ (∀ j, j < k → xgc T t j) ∧ ¬ xgc T t k := by
  have key : ∀ n, (∃ k, k ≤ n ∧ (∀ j, j < k → xgc T t j) ∧ ¬ xgc T t k) ∨ ∀ j, j ≤ n → xgc T t j := by
    intro n
    induction n with
    | zero =>
      by_cases h : xgc T t 0
      · exact Or.inr fun j hj => by rw [show j = 0 by omega]; exact h
      · exact Or.inl ⟨0, Nat.le_refl 0, fun j hj => absurd hj (Nat.not_lt_zero j), h⟩
    | succ n ih =>
      rcases ih with ⟨k, h1, h2, h3⟩ | h
      · exact Or.inl ⟨k, by omega, h2, h3⟩
      · by_cases q : xgc T t (n + 1)
        · exact Or.inr fun j hj => by
            by_cases e : j = n + 1
            · rw [e]; exact q
            · exact h j (by omega)
        · exact Or.inl ⟨n + 1, Nat.le_refl _, fun j hj => h j (by omega), q⟩
  rcases key 7 with h | h
  · exact h
  · exact absurd (h 7 (Nat.le_refl 7)).2.2.2 (by omega)
/-- the soil of cell i -/
def xgS (T : Nat → Nat) (t i : Nat) : Nat := xsc (xlt T t (xrp T t (xq T t (i / xgC T t)) (i % xgC T t)))
/-- letter l may stand at place j of a sprinkler -/
def xfo (R c l j : Nat) : Bool := if j = 0 then decide (xkc l < 5) else if j = 1 then decide (48 ≤ l ∧ l < 48 + R) else if j = 2 then decide (48 ≤ l ∧ l < 48 + c) else if j = 3 then decide (48 ≤ l ∧ l < 53) else decide (49 ≤ l ∧ l < 58)
theorem xfo_n {R c l j : Nat} (h : xfo R c l j = true) : l ≠ 0 := by
  unfold xfo at h
  intro e
  subst e
  split at h
  · exact xkc_n (of_decide_eq_true h) rfl
  · split at h
    · have := of_decide_eq_true h; omega
    · split at h
      · have := of_decide_eq_true h; omega
      · split at h
        · have := of_decide_eq_true h; omega
        · have := of_decide_eq_true h; omega
/-- where sprinkler i begins, the rows' end being p -/
def xsp (T : Nat → Nat) (t p : Nat) : Nat → Nat
  | 0 => p
  | i + 1 => xsk T t (xrp T t (xsp T t p i) 5) + 1
def xf5 (T : Nat → Nat) (t R c p : Nat) : Nat → Bool := fun j => xfo R c (xlt T t (xrp T t p j)) j
def xsm (T : Nat → Nat) (t R c p i : Nat) : Nat := xld (xf5 T t R c (xsp T t p i)) 5
def xzc (T : Nat → Nat) (t R c p i : Nat) : Prop := xsm T t R c p i = 5 ∧ xlt T t (xrp T t (xsp T t p i) 5) = 44 ∧ i < 4
def xzg (T : Nat → Nat) (t R c p i : Nat) : Prop := xsm T t R c p i = 5 ∧ xlt T t (xrp T t (xsp T t p i) 5) = 0
theorem xzc_ex {R c p : Nat} : ∃ k, k ≤ 4 ∧ (∀ j, j < k → xzc T t R c p j) ∧ ¬ xzc T t R c p k := by
  have key : ∀ n, (∃ k, k ≤ n ∧ (∀ j, j < k → xzc T t R c p j) ∧ ¬ xzc T t R c p k) ∨ ∀ j, j ≤ n → xzc T t R c p j := by
    intro n
    induction n with
    | zero =>
      by_cases h : xzc T t R c p 0
      · exact Or.inr fun j hj => by rw [show j = 0 by omega]; exact h
      · exact Or.inl ⟨0, Nat.le_refl 0, fun j hj => absurd hj (Nat.not_lt_zero j), h⟩
    | succ n ih =>
      rcases ih with ⟨k, h1, h2, h3⟩ | h
      · exact Or.inl ⟨k, by omega, h2, h3⟩
      · by_cases q : xzc T t R c p (n + 1)
        · exact Or.inr fun j hj => by
            by_cases e : j = n + 1
            · rw [e]; exact q
            · exact h j (by omega)
        · exact Or.inl ⟨n + 1, Nat.le_refl _, fun j hj => h j (by omega), q⟩
  rcases key 4 with h | h
  · exact h
  · exact absurd (h 4 (Nat.le_refl 4)).2.2 (by omega)
theorem xr5_le {R c p n : Nat} (hp : p ≤ t) (h : ∀ j, j < n → xf5 T t R c p j = true) : ∀ k, k ≤ n → xrp T t p k ≤ t
  | 0, _ => hp
  | k + 1, hk => by
    have := xlt_n (xfo_n (h k (by omega)))
    show xsk T t (xrp T t p k) + 1 ≤ t
    omega
theorem xsp_le {R c p : Nat} (hp : p ≤ t) : ∀ k, (∀ j, j < k → xzc T t R c p j) → xsp T t p k ≤ t
  | 0, _ => hp
  | k + 1, h => by
    have := (h k (by omega)).2.1
    have := xlt_n (T := T) (t := t) (p := xrp T t (xsp T t p k) 5) (by omega)
    show xsk T t (xrp T t (xsp T t p k) 5) + 1 ≤ t
    omega
/-- the j-th number of a sprinkler -/
def xzd (T : Nat → Nat) (t c p : Nat) (i j : Nat) : Nat :=
  if j = 0 then xkc (xlt T t (xrp T t (xsp T t p i) 0)) else
  if j = 1 then (xlt T t (xrp T t (xsp T t p i) 1) - 48) * c + (xlt T t (xrp T t (xsp T t p i) 2) - 48) else
  if j = 2 then xlt T t (xrp T t (xsp T t p i) 3) - 48 else xlt T t (xrp T t (xsp T t p i) 4) - 48
theorem xzd_ok {R c p i : Nat} (h : xsm T t R c p i = 5) : xzd T t c p i 0 < 5 ∧ xzd T t c p i 1 < R * c ∧ xzd T t c p i 2 < 5 ∧ 1 ≤ xzd T t c p i 3 ∧ xzd T t c p i 3 < 10 := by
  have f := fun j (hj : j < 5) => xld_t (f := xf5 T t R c (xsp T t p i)) 5 j (by unfold xsm at h; omega)
  have f0 := of_decide_eq_true (show decide (xkc (xlt T t (xrp T t (xsp T t p i) 0)) < 5) = true from f 0 (by decide))
  have f1 := of_decide_eq_true (show decide (48 ≤ xlt T t (xrp T t (xsp T t p i) 1) ∧ xlt T t (xrp T t (xsp T t p i) 1) < 48 + R) = true from f 1 (by decide))
  have f2 := of_decide_eq_true (show decide (48 ≤ xlt T t (xrp T t (xsp T t p i) 2) ∧ xlt T t (xrp T t (xsp T t p i) 2) < 48 + c) = true from f 2 (by decide))
  have f3 := of_decide_eq_true (show decide (48 ≤ xlt T t (xrp T t (xsp T t p i) 3) ∧ xlt T t (xrp T t (xsp T t p i) 3) < 53) = true from f 3 (by decide))
  have f4 := of_decide_eq_true (show decide (49 ≤ xlt T t (xrp T t (xsp T t p i) 4) ∧ xlt T t (xrp T t (xsp T t p i) 4) < 58) = true from f 4 (by decide))
  refine ⟨f0, ?_, ?_, ?_, ?_⟩
  · show (xlt T t (xrp T t (xsp T t p i) 1) - 48) * c + (xlt T t (xrp T t (xsp T t p i) 2) - 48) < R * c
    have h1 : (xlt T t (xrp T t (xsp T t p i) 1) - 48 + 1) * c ≤ R * c := Nat.mul_le_mul_right c (by omega)
    rw [Nat.add_mul, Nat.one_mul] at h1
    omega
  · show xlt T t (xrp T t (xsp T t p i) 3) - 48 < 5
    omega
  · show 1 ≤ xlt T t (xrp T t (xsp T t p i) 4) - 48
    omega
  · show xlt T t (xrp T t (xsp T t p i) 4) - 48 < 10
    omega
end XG
