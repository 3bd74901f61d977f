/-! ===== class and model, held to one state ===== -/
theorem xB_dec {P : Prop} [Decidable P] : nI (xB (decide P)) = 0 ↔ ¬ P := by rw [xB_eq0]; exact decide_eq_false_iff_not
theorem xkt_0 : (0 : Int32).toInt = 0 := by decide +kernel
theorem xkt_1 : (1 : Int32).toInt = 1 := by decide +kernel
theorem xkt_2 : (2 : Int32).toInt = 2 := by decide +kernel
theorem xkt_3 : (3 : Int32).toInt = 3 := by decide +kernel
theorem xkt_4 : (4 : Int32).toInt = 4 := by decide +kernel
theorem xkt_5 : (5 : Int32).toInt = 5 := by decide +kernel
theorem xkt_6 : (6 : Int32).toInt = 6 := by decide +kernel
theorem xkt_7 : (7 : Int32).toInt = 7 := by decide +kernel
theorem xkt_8 : (8 : Int32).toInt = 8 := by decide +kernel
theorem xkt_9 : (9 : Int32).toInt = 9 := by decide +kernel
theorem xkt_10 : (10 : Int32).toInt = 10 := by decide +kernel
theorem xkt_11 : (11 : Int32).toInt = 11 := by decide +kernel
theorem xkt_12 : (12 : Int32).toInt = 12 := by decide +kernel
theorem xkt_13 : (13 : Int32).toInt = 13 := by decide +kernel
theorem xkt_14 : (14 : Int32).toInt = 14 := by decide +kernel
theorem xkt_16 : (16 : Int32).toInt = 16 := by decide +kernel
theorem xkt_20 : (20 : Int32).toInt = 20 := by decide +kernel
theorem xkt_24 : (24 : Int32).toInt = 24 := by decide +kernel
theorem xkt_31 : (31 : Int32).toInt = 31 := by decide +kernel
theorem xkt_32 : (32 : Int32).toInt = 32 := by decide +kernel
theorem xkt_40 : (40 : Int32).toInt = 40 := by decide +kernel
theorem xkt_44 : (44 : Int32).toInt = 44 := by decide +kernel
theorem xkt_47 : (47 : Int32).toInt = 47 := by decide +kernel
theorem xkt_48 : (48 : Int32).toInt = 48 := by decide +kernel
theorem xkt_57 : (57 : Int32).toInt = 57 := by decide +kernel
theorem xkt_59 : (59 : Int32).toInt = 59 := by decide +kernel
theorem xkt_60 : (60 : Int32).toInt = 60 := by decide +kernel
theorem xkt_63 : (63 : Int32).toInt = 63 := by decide +kernel
theorem xkt_64 : (64 : Int32).toInt = 64 := by decide +kernel
theorem xkt_65 : (65 : Int32).toInt = 65 := by decide +kernel
theorem xkt_72 : (72 : Int32).toInt = 72 := by decide +kernel
theorem xkt_95 : (95 : Int32).toInt = 95 := by decide +kernel
theorem xkt_99 : (99 : Int32).toInt = 99 := by decide +kernel
theorem xkt_100 : (100 : Int32).toInt = 100 := by decide +kernel
theorem xkt_101 : (101 : Int32).toInt = 101 := by decide +kernel
theorem xkt_103 : (103 : Int32).toInt = 103 := by decide +kernel
theorem xkt_110 : (110 : Int32).toInt = 110 := by decide +kernel
theorem xkt_112 : (112 : Int32).toInt = 112 := by decide +kernel
theorem xkt_113 : (113 : Int32).toInt = 113 := by decide +kernel
theorem xkt_114 : (114 : Int32).toInt = 114 := by decide +kernel
theorem xkt_119 : (119 : Int32).toInt = 119 := by decide +kernel
theorem xkt_126 : (126 : Int32).toInt = 126 := by decide +kernel
theorem xkt_159 : (159 : Int32).toInt = 159 := by decide +kernel
theorem xkt_576 : (576 : Int32).toInt = 576 := by decide +kernel
theorem xkt_999 : (999 : Int32).toInt = 999 := by decide +kernel
theorem xkt_9999 : (9999 : Int32).toInt = 9999 := by decide +kernel
theorem xkt_65536 : (65536 : Int32).toInt = 65536 := by decide +kernel
theorem xkt_999999 : (999999 : Int32).toInt = 999999 := by decide +kernel
theorem xkt_m1 : (-1 : Int32).toInt = -1 := by decide +kernel
theorem xkt_m2 : (-2 : Int32).toInt = -2 := by decide +kernel
theorem xkt_m3 : (-3 : Int32).toInt = -3 := by decide +kernel
theorem xkt_m4 : (-4 : Int32).toInt = -4 := by decide +kernel
theorem xkt_m11 : (-11 : Int32).toInt = -11 := by decide +kernel
theorem xkt_m12 : (-12 : Int32).toInt = -12 := by decide +kernel
theorem xkt_m13 : (-13 : Int32).toInt = -13 := by decide +kernel
theorem xkt_m14 : (-14 : Int32).toInt = -14 := by decide +kernel
theorem xkt_m20 : (-20 : Int32).toInt = -20 := by decide +kernel
theorem xjt_0 : (0 : Int64).toInt = 0 := by decide +kernel
theorem xjt_1 : (1 : Int64).toInt = 1 := by decide +kernel
theorem xjt_2 : (2 : Int64).toInt = 2 := by decide +kernel
theorem xjt_3 : (3 : Int64).toInt = 3 := by decide +kernel
theorem xjt_4 : (4 : Int64).toInt = 4 := by decide +kernel
theorem xjt_5 : (5 : Int64).toInt = 5 := by decide +kernel
theorem xjt_6 : (6 : Int64).toInt = 6 := by decide +kernel
theorem xjt_7 : (7 : Int64).toInt = 7 := by decide +kernel
theorem xjt_8 : (8 : Int64).toInt = 8 := by decide +kernel
theorem xjt_9 : (9 : Int64).toInt = 9 := by decide +kernel
theorem xjt_10 : (10 : Int64).toInt = 10 := by decide +kernel
theorem xjt_11 : (11 : Int64).toInt = 11 := by decide +kernel
theorem xjt_12 : (12 : Int64).toInt = 12 := by decide +kernel
theorem xjt_13 : (13 : Int64).toInt = 13 := by decide +kernel
theorem xjt_14 : (14 : Int64).toInt = 14 := by decide +kernel
theorem xjt_16 : (16 : Int64).toInt = 16 := by decide +kernel
theorem xjt_20 : (20 : Int64).toInt = 20 := by decide +kernel
theorem xjt_24 : (24 : Int64).toInt = 24 := by decide +kernel
theorem xjt_31 : (31 : Int64).toInt = 31 := by decide +kernel
theorem xjt_32 : (32 : Int64).toInt = 32 := by decide +kernel
theorem xjt_40 : (40 : Int64).toInt = 40 := by decide +kernel
theorem xjt_44 : (44 : Int64).toInt = 44 := by decide +kernel
theorem xjt_47 : (47 : Int64).toInt = 47 := by decide +kernel
theorem xjt_48 : (48 : Int64).toInt = 48 := by decide +kernel
theorem xjt_57 : (57 : Int64).toInt = 57 := by decide +kernel
theorem xjt_59 : (59 : Int64).toInt = 59 := by decide +kernel
theorem xjt_60 : (60 : Int64).toInt = 60 := by decide +kernel
theorem xjt_63 : (63 : Int64).toInt = 63 := by decide +kernel
theorem xjt_64 : (64 : Int64).toInt = 64 := by decide +kernel
theorem xjt_65 : (65 : Int64).toInt = 65 := by decide +kernel
theorem xjt_72 : (72 : Int64).toInt = 72 := by decide +kernel
theorem xjt_95 : (95 : Int64).toInt = 95 := by decide +kernel
theorem xjt_99 : (99 : Int64).toInt = 99 := by decide +kernel
theorem xjt_100 : (100 : Int64).toInt = 100 := by decide +kernel
theorem xjt_101 : (101 : Int64).toInt = 101 := by decide +kernel
theorem xjt_103 : (103 : Int64).toInt = 103 := by decide +kernel
theorem xjt_110 : (110 : Int64).toInt = 110 := by decide +kernel
theorem xjt_112 : (112 : Int64).toInt = 112 := by decide +kernel
theorem xjt_113 : (113 : Int64).toInt = 113 := by decide +kernel
theorem xjt_114 : (114 : Int64).toInt = 114 := by decide +kernel
theorem xjt_119 : (119 : Int64).toInt = 119 := by decide +kernel
theorem xjt_126 : (126 : Int64).toInt = 126 := by decide +kernel
theorem xjt_159 : (159 : Int64).toInt = 159 := by decide +kernel
theorem xjt_576 : (576 : Int64).toInt = 576 := by decide +kernel
theorem xjt_999 : (999 : Int64).toInt = 999 := by decide +kernel
theorem xjt_9999 : (9999 : Int64).toInt = 9999 := by decide +kernel
theorem xjt_65536 : (65536 : Int64).toInt = 65536 := by decide +kernel
theorem xjt_999999 : (999999 : Int64).toInt = 999999 := by decide +kernel
/-- where a number of the row stands in a plot at p -/
def xfl : Nat → Nat
  | 0 => 0 | 1 => 1 | 2 => 5 | 3 => 6 | 4 => 11 | 5 => 7 | 6 => 8 | 7 => 9 | 8 => 10 | 9 => 12 | _ => 13
def xrow (p k : Nat) : Nat := if k < 11 then p else if k < 31 then p + 14 + (k - 11) / 4 else if k < 95 then p + 1 else p + 2
def xcol (k : Nat) : Nat := if k < 11 then xfl k else if k < 31 then (k - 11) % 4 else if k < 95 then k - 31 else k - 95
theorem xfl_inj : ∀ k, k < 11 → ∀ j, j < 11 → xfl k = xfl j → k = j := by decide
theorem xloc_inj {p k j : Nat} (h1 : xrow p k = xrow p j) (h2 : xcol k = xcol j) : k = j := by
  unfold xrow at h1
  unfold xcol at h2
  by_cases a1 : k < 11 <;> by_cases b1 : j < 11
  · rw [if_pos a1, if_pos b1] at h2
    exact xfl_inj k a1 j b1 h2
  all_goals (simp only [a1, b1, if_true, if_false] at h1 h2)
  all_goals (repeat' split at h1) <;> (repeat' split at h2) <;> omega
theorem xPN_iff {N : Nat → Nat} {p : Nat} {I : Nat → Nat → Int32} (h5 : N 2 ≤ 5) : xPN N p I ↔ ∀ k, k < 159 → (k < 11 + 4 * N 2 ∨ 31 ≤ k) → I (xrow p k) (xcol k) = nI (N k) := by
  constructor
  · rintro ⟨⟨a0, a1, a2, a3, a4, a5, a6, a7, a8, a9, a10⟩, b1, b2, b3⟩ k hk hr
    unfold xrow xcol
    by_cases h1 : k < 11
    · rw [if_pos h1, if_pos h1]
      match k, h1 with
      | 0, _ => exact a0
      | 1, _ => exact a1
      | 2, _ => exact a2
      | 3, _ => exact a3
      | 4, _ => exact a4
      | 5, _ => exact a5
      | 6, _ => exact a6
      | 7, _ => exact a7
      | 8, _ => exact a8
      | 9, _ => exact a9
      | 10, _ => exact a10
    · rw [if_neg h1, if_neg h1]
      by_cases h2 : k < 31
      · rw [if_pos h2, if_pos h2, b3 _ (by omega) _ (by omega)]
        congr 2
        omega
      · rw [if_neg h2, if_neg h2]
        by_cases h3 : k < 95
        · rw [if_pos h3, if_pos h3, b1 _ (by omega)]
          congr 2
          omega
        · rw [if_neg h3, if_neg h3, b2 _ (by omega)]
          congr 2
          omega
  · intro h
    refine ⟨⟨h 0 (by decide) (by omega), h 1 (by decide) (by omega), h 2 (by decide) (by omega), h 3 (by decide) (by omega), h 4 (by decide) (by omega), h 5 (by decide) (by omega), h 6 (by decide) (by omega), h 7 (by decide) (by omega), h 8 (by decide) (by omega), h 9 (by decide) (by omega), h 10 (by decide) (by omega)⟩, fun c hc => ?_, fun c hc => ?_, fun i hi f hf => ?_⟩
    · have := h (31 + c) (by omega) (by omega)
      unfold xrow xcol at this
      simp only [show ¬ 31 + c < 11 by omega, show ¬ 31 + c < 31 by omega, show 31 + c < 95 by omega, if_true, if_false, show 31 + c - 31 = c by omega] at this
      exact this
    · have := h (95 + c) (by omega) (by omega)
      unfold xrow xcol at this
      simp only [show ¬ 95 + c < 11 by omega, show ¬ 95 + c < 31 by omega, show ¬ 95 + c < 95 by omega, if_true, if_false, show 95 + c - 95 = c by omega] at this
      exact this
    · have := h (11 + 4 * i + f) (by omega) (by omega)
      unfold xrow xcol at this
      simp only [show ¬ 11 + 4 * i + f < 11 by omega, show 11 + 4 * i + f < 31 by omega, if_true, if_false, show (11 + 4 * i + f - 11) / 4 = i by omega, show (11 + 4 * i + f - 11) % 4 = f by omega] at this
      exact this
theorem xm_up_at {α : Type} (I : Nat → Nat → α) (a k : Nat) (v : α) : xm_up I a k v a k = v := by simp [xm_up, va_up]
theorem xm_up_ne {α : Type} {I : Nat → Nat → α} {a k x j : Nat} {v : α} (h : x ≠ a ∨ j ≠ k) : xm_up I a k v x j = I x j := by
  by_cases h1 : x = a
  · subst h1
    have : j ≠ k := by omega
    simp [xm_up, va_up, this]
  · simp [xm_up, va_up, h1]
/-- one number of a plot is changed -/
theorem xPN_u {N : Nat → Nat} {p : Nat} {I : Nat → Nat → Int32} (h5 : N 2 ≤ 5) (hN : xPN N p I) {k a f v : Nat} {x : Int32} (h2 : k ≠ 2) (ha : a = xrow p k) (hf : f = xcol k) (hx : x = nI v) : xPN (va_up N k v) p (xm_up I a f x) := by
  subst ha
  subst hf
  subst hx
  have e2 : va_up N k v 2 = N 2 := by simp only [va_up]; rw [if_neg (by omega)]
  rw [xPN_iff (by rw [e2]; exact h5), e2]
  intro j hj hr
  by_cases h : j = k
  · subst h
    rw [xm_up_at]
    simp [va_up]
  · rw [xm_up_ne]
    · simp only [va_up, h, if_false]
      exact (xPN_iff h5).mp hN j hj hr
    · by_cases h3 : xrow p j = xrow p k
      · exact Or.inr fun h4 => h (xloc_inj h3 h4)
      · exact Or.inl h3
theorem xPN_fr {N : Nat → Nat} {p : Nat} {I I' : Nat → Nat → Int32} (h5 : N 2 ≤ 5) (hN : xPN N p I) (h : ∀ a, (p ≤ a ∧ a < p + 3) ∨ (p + 14 ≤ a ∧ a < p + 19) → I' a = I a) : xPN N p I' := by
  rw [xPN_iff h5]
  intro k hk hr
  rw [h]
  · exact (xPN_iff h5).mp hN k hk hr
  · unfold xrow
    (repeat' split) <;> omega
theorem xMN_u {N : Nat → Nat} {I : Nat → Nat → Int32} (hM : xMN N I) {k f v : Nat} {x : Int32} (hf : f = k) (hx : x = nI v) : xMN (va_up N k v) (xm_up I 61 f x) := by
  subst hf
  subst hx
  intro j hj
  by_cases h : j = f
  · subst h
    rw [xm_up_at]
    simp [va_up]
  · rw [xm_up_ne (Or.inr h)]
    simp only [va_up, h, if_false]
    exact hM j hj
/-- a plot at p: the row N, what may be undone: u rows U -/
def xPL (N : Nat → Nat) (u : Nat) (U : Nat → Nat → Nat) (p : Nat) (I : Nat → Nat → Int32) : Prop :=
  xPN N p I ∧ ∃ nx, nx < 8 ∧ I (p + 4) 1 = nI u ∧ I (p + 4) 2 = nI nx ∧ ∀ j, j < u → ∀ i, i < 72 → (i < 64 + N 2 ∨ 69 ≤ i) → I (p + 6 + (nx + 8 - u + j) % 8) i = nI (U j i)
def xML (N : Nat → Nat) (u : Nat) (U : Nat → Nat → Nat) (I : Nat → Nat → Int32) : Prop :=
  xMN N I ∧ I 60 10 = nI u ∧ ∀ j, j < u → ∀ i, i < 72 → I 67 (72 * j + i) = nI (U j i)
def xUK (N : Nat → Nat) (u : Nat) (U : Nat → Nat → Nat) : Prop :=
  xOK N ∧ N 4 ≤ 9999 ∧ u ≤ 8 ∧ ∀ j, j < u → (∀ i, i < 64 → U j i ≤ 9999) ∧ (∀ i, i < N 2 → U j (64 + i) < N 0 * N 1) ∧ U j 69 ≤ 999999 ∧ U j 70 ≤ 9999 ∧ U j 71 < 2 ^ 31
/-- what a call on the plot leaves as it was -/
def xPF (I I' : Nat → Nat → Int32) : Prop := ∀ a, a = 0 ∨ 42 ≤ a → I' a = I a
def xMF (I I' : Nat → Nat → Int32) : Prop := (∀ a, a < 60 ∨ 74 ≤ a ∨ a = 64 ∨ a = 69 ∨ a = 70 ∨ a = 71 → I' a = I a) ∧ ∀ k, k ≠ 10 → I' 60 k = I 60 k
theorem xPF_r (I : Nat → Nat → Int32) : xPF I I := fun _ _ => rfl
theorem xMF_r (I : Nat → Nat → Int32) : xMF I I := ⟨fun _ _ => rfl, fun _ _ => rfl⟩
theorem xPF_t {I J K : Nat → Nat → Int32} (h1 : xPF I J) (h2 : xPF J K) : xPF I K := fun a ha => by rw [h2 a ha, h1 a ha]
theorem xMF_t {I J K : Nat → Nat → Int32} (h1 : xMF I J) (h2 : xMF J K) : xMF I K := ⟨fun a ha => by rw [h2.1 a ha, h1.1 a ha], fun k hk => by rw [h2.2 k hk, h1.2 k hk]⟩
theorem xPF_u {I J : Nat → Nat → Int32} (h : xPF I J) {a k : Nat} {v : Int32} (ha : 0 < a ∧ a < 42) : xPF I (xm_up J a k v) := fun x hx => by rw [xm_up_o (by omega)]; exact h x hx
theorem xPF_v {I J : Nat → Nat → Int32} (h : xPF I J) {a : Nat} {f : Nat → Int32} (ha : 0 < a ∧ a < 42) : xPF I (va_up J a f) := fun x hx => by rw [xm_vu_o (by omega)]; exact h x hx
theorem xMF_u {I J : Nat → Nat → Int32} (h : xMF I J) {a k : Nat} {v : Int32} (ha : a = 61 ∨ a = 62 ∨ a = 63 ∨ a = 67 ∨ a = 68) : xMF I (xm_up J a k v) := ⟨fun x hx => by rw [xm_up_o (by omega)]; exact h.1 x hx, fun x hx => by rw [xm_up_o (by omega)]; exact h.2 x hx⟩
theorem xMF_v {I J : Nat → Nat → Int32} (h : xMF I J) {a : Nat} {f : Nat → Int32} (ha : a = 61 ∨ a = 62 ∨ a = 63 ∨ a = 67 ∨ a = 68) : xMF I (va_up J a f) := ⟨fun x hx => by rw [xm_vu_o (by omega)]; exact h.1 x hx, fun x hx => by rw [xm_vu_o (by omega)]; exact h.2 x hx⟩
theorem xMF_n {I J : Nat → Nat → Int32} (h : xMF I J) {v : Int32} : xMF I (xm_up J 60 10 v) := ⟨fun x hx => by rw [xm_up_o (by omega)]; exact h.1 x hx, fun x hx => by rw [xm_up_ne (Or.inr hx)]; exact h.2 x hx⟩
theorem xPF_l {l : List Nat} {I J : Nat → Nat → Int32} (h : xfr l I J) (hl : ∀ a, a ∈ l → 0 < a ∧ a < 42) : xPF I J := fun a ha => h a fun q => by have := hl a q; omega
/-- the plot's own rows are as they were -/
theorem xPL_fr {N : Nat → Nat} {u p : Nat} {U : Nat → Nat → Nat} {I I' : Nat → Nat → Int32} (h5 : N 2 ≤ 5) (hN : xPL N u U p I) (h : ∀ a, p ≤ a → a < p + 19 → I' a = I a) : xPL N u U p I' := by
  obtain ⟨h1, nx, h2, h3, h4, h6⟩ := hN
  refine ⟨xPN_fr h5 h1 fun a ha => h a (by omega) (by omega), nx, h2, by rw [h _ (by omega) (by omega)]; exact h3, by rw [h _ (by omega) (by omega)]; exact h4, fun j hj i hi hr => ?_⟩
  rw [h _ (by omega) (by omega)]
  exact h6 j hj i hi hr
/-- the row is changed, what may be undone isn't -/
theorem xPL_N {N N' : Nat → Nat} {u p : Nat} {U : Nat → Nat → Nat} {I I' : Nat → Nat → Int32} (hN : xPL N u U p I) (h' : xPN N' p I') (e2 : N' 2 = N 2) (h : ∀ a, p + 4 ≤ a → a < p + 14 → I' a = I a) : xPL N' u U p I' := by
  obtain ⟨h1, nx, h2, h3, h4, h6⟩ := hN
  refine ⟨h', nx, h2, by rw [h _ (by omega) (by omega)]; exact h3, by rw [h _ (by omega) (by omega)]; exact h4, fun j hj i hi hr => ?_⟩
  rw [h _ (by omega) (by omega)]
  exact h6 j hj i hi (by rw [e2] at hr; exact hr)
/-- nothing may be undone -/
theorem xPL_0 {N : Nat → Nat} {p : Nat} {U : Nat → Nat → Nat} {I : Nat → Nat → Int32} (h' : xPN N p I) (h0 : I (p + 4) 1 = 0) {nx : Nat} (hn : nx < 8) (hx : I (p + 4) 2 = nI nx) : xPL N 0 U p I := ⟨h', nx, hn, h0, hx, fun j hj => absurd hj (Nat.not_lt_zero j)⟩
theorem xML_N {N N' : Nat → Nat} {u : Nat} {U : Nat → Nat → Nat} {I I' : Nat → Nat → Int32} (hN : xML N u U I) (h' : xMN N' I') (h1 : I' 60 10 = I 60 10) (h2 : I' 67 = I 67) : xML N' u U I' := ⟨h', by rw [h1]; exact hN.2.1, fun j hj i hi => by rw [h2]; exact hN.2.2 j hj i hi⟩
theorem xml_fr {N : Nat → Nat} {u : Nat} {U : Nat → Nat → Nat} {I I' : Nat → Nat → Int32} (hN : xML N u U I) (h0 : I' 60 10 = I 60 10) (h1 : I' 61 = I 61) (h2 : I' 67 = I 67) : xML N u U I' := ⟨fun k hk => by rw [h1]; exact hN.1 k hk, by rw [h0]; exact hN.2.1, fun j hj i hi => by rw [h2]; exact hN.2.2 j hj i hi⟩
theorem xOn32 {N : Nat → Nat} (hO : xOK N) : N 3 < 32 := by
  have hb := hO.1
  have h1 : 2 ^ N 2 ≤ 2 ^ 5 := Nat.pow_le_pow_right (by decide) hb.2.2.2.2.1
  omega
