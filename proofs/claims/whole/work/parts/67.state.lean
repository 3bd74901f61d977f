/-! ===== the state of all: class and model, one call after the other ===== -/
def xKp (b : Bool) (I : Nat → Nat → Int32) : Prop := (b = false → I 60 14 = 0) ∧ (b = true → ∃ N u U, xPL N u U 74 I ∧ xKM N u U I ∧ xUK N u U)
def xA (b : Bool) (I : Nat → Nat → Int32) (L : Nat → Nat → Int64) (N : Nat → Nat) (u : Nat) (U : Nat → Nat → Nat) (Y : xY) (T : Nat → Nat) (t : Nat) : Prop :=
  (xPL N u U 1 I ∧ xML N u U I ∧ xUK N u U) ∧ (xSH Y I L ∧ xSM Y I L ∧ xYK Y) ∧ (xTA T t 42 I ∧ xTA T t 64 I ∧ I 0 5 = nI t ∧ I 60 4 = nI t) ∧ xKp b I
def xE (b : Bool) (I : Nat → Nat → Int32) (L : Nat → Nat → Int64) : Prop := ∃ N u U Y T t, xA b I L N u U Y T t
/-- behind the class: the model answers the same, and all is well again -/
def xTP (mm : Nat) (as : List Value) (rz : Option Value) (hz : xm_H) : Prop := ∃ v b J M, rz = some (.int v) ∧ hz = (xS b, J, M, xP b) ∧ xm_Z 20 mm (.ref 60 :: as) (xS b, J, M, xP b) (fun rz' hz' => rz' = some (.int v) ∧ ∃ I' L', hz' = (xS b, I', L', xP b) ∧ xE b I' L')
def xTw (mc mm : Nat) (as : List Value) : Prop := ∀ b I L, xE b I L → xm_Z 20 mc (.ref 0 :: as) (xS b, I, L, xP b) (xTP mm as)
theorem xTA_fr {T : Nat → Nat} {t a : Nat} {I J : Nat → Nat → Int32} (h : xTA T t a I) (e : J a = I a) : xTA T t a J := ⟨h.1, h.2.1, fun k hk => by rw [e]; exact h.2.2 k hk⟩
theorem xKM_fr {N : Nat → Nat} {u : Nat} {U : Nat → Nat → Nat} {I J : Nat → Nat → Int32} (h : xKM N u U I) (e1 : J 69 = I 69) (e2 : J 60 13 = I 60 13) (e3 : J 60 14 = I 60 14) : xKM N u U J := ⟨fun k hk => by rw [e1]; exact h.1 k hk, by rw [e2]; exact h.2.1, fun j hj i hi => by rw [e1]; exact h.2.2.1 j hj i hi, by rw [e3]; exact h.2.2.2⟩
theorem xSH_fr {Y : xY} {I J : Nat → Nat → Int32} {L M : Nat → Nat → Int64} (h : xSH Y I L) (e : ∀ a, 52 ≤ a → a < 60 → J a = I a ∧ M a = L a) : xSH Y J M := fun s hs => by
  obtain ⟨h1, h2, h3, h4⟩ := h s hs
  have e1 := (e (52 + 2 * s) (by omega) (by omega)).1
  have e2 := (e (53 + 2 * s) (by omega) (by omega)).2
  exact ⟨by rw [e1]; exact h1, by rw [e1]; exact h2, by rw [e1]; exact h3, fun k hk => by rw [e2]; exact h4 k hk⟩
theorem xSM_fr {Y : xY} {I J : Nat → Nat → Int32} {L M : Nat → Nat → Int64} (h : xSM Y I L) (e1 : J 70 = I 70) (e2 : J 71 = I 71) (e3 : M 72 = L 72) : xSM Y J M := fun s hs => by
  obtain ⟨h1, h2, h3⟩ := h s hs
  exact ⟨by rw [e1]; exact h1, by rw [e2]; exact h2, fun k hk => by rw [e3]; exact h3 k hk⟩
theorem xUK_5 {N : Nat → Nat} {u : Nat} {U : Nat → Nat → Nat} (h : xUK N u U) : N 2 ≤ 5 := h.1.1.2.2.2.2.1
theorem xKp_fr {b : Bool} {I J : Nat → Nat → Int32} (h : xKp b I) (e : ∀ a, 74 ≤ a → J a = I a) (e1 : J 69 = I 69) (e2 : J 60 13 = I 60 13) (e3 : J 60 14 = I 60 14) : xKp b J := by
  refine ⟨fun q => by rw [e3]; exact h.1 q, fun q => ?_⟩
  obtain ⟨N, u, U, h1, h2, h3⟩ := h.2 q
  exact ⟨N, u, U, xPL_fr (xUK_5 h3) h1 (fun a ha _ => e a ha), xKM_fr h2 e1 e2 e3, h3⟩
theorem xA_plot {mc mm : Nat} {as : List Value} {b : Bool} {I : Nat → Nat → Int32} {L : Nat → Nat → Int64} {N : Nat → Nat} {u : Nat} {U : Nat → Nat → Nat} {Y : xY} {T : Nat → Nat} {t : Nat} (hA : xA b I L N u U Y T t) {v : Int32} {N' : Nat → Nat} {u' : Nat} {U' : Nat → Nat → Nat} (hc : xm_Z 20 mc (.ref 0 :: as) (xS b, I, L, xP b) (fun rz hz => xQC b I L v N' u' U' rz hz)) (hm : ∀ J, xML N u U J → xSM Y J L → xm_Z 20 mm (.ref 60 :: as) (xS b, J, L, xP b) (fun rz hz => xQM b J L v N' u' U' rz hz)) (hK : xUK N' u' U') : xm_Z 20 mc (.ref 0 :: as) (xS b, I, L, xP b) (xTP mm as) := by
  obtain ⟨⟨p1, p2, p3⟩, ⟨s1, s2, s3⟩, ⟨t1, t2, t3, t4⟩, k⟩ := hA
  refine xw_Z hc ?_
  rintro _ _ ⟨rfl, J, rfl, f1, f2⟩
  have e : ∀ a, 42 ≤ a → J a = I a := fun a h => f1 a (Or.inr h)
  refine ⟨v, b, J, L, rfl, rfl, ?_⟩
  refine xw_Z (hm J (xml_fr p2 (by rw [e 60 (by decide)]) (e 61 (by decide)) (e 67 (by decide))) (xSM_fr s2 (e 70 (by decide)) (e 71 (by decide)) rfl)) ?_
  rintro _ _ ⟨rfl, M, rfl, g1, g2⟩
  have g : ∀ a, 42 ≤ a → a < 60 ∨ 74 ≤ a ∨ a = 64 ∨ a = 69 ∨ a = 70 ∨ a = 71 → M a = I a := fun a h1 h2 => by rw [g1.1 a h2, e a h1]
  refine ⟨rfl, M, L, rfl, N', u', U', Y, T, t, ⟨xPL_fr (xUK_5 hK) f2 (fun a h1 h2 => g1.1 a (Or.inl (by omega))), g2, hK⟩, ⟨xSH_fr s1 (fun a h1 h2 => ⟨g a (by omega) (by omega), rfl⟩), xSM_fr s2 (g 70 (by decide) (by decide)) (g 71 (by decide) (by decide)) rfl, s3⟩, ⟨xTA_fr t1 (g 42 (by decide) (by decide)), xTA_fr t2 (g 64 (by decide) (by decide)), ?_, ?_⟩, xKp_fr k (fun a h1 => g a (by omega) (by omega)) (g 69 (by decide) (by decide)) ?_ ?_⟩
  · rw [g1.1 0 (by decide), f1 0 (Or.inl rfl)]
    exact t3
  · rw [g1.2 4 (by decide), e 60 (by decide)]
    exact t4
  · rw [g1.2 13 (by decide), e 60 (by decide)]
  · rw [g1.2 14 (by decide), e 60 (by decide)]
theorem xA_sheet {mc mm : Nat} {as : List Value} {b : Bool} {I : Nat → Nat → Int32} {L : Nat → Nat → Int64} {N : Nat → Nat} {u : Nat} {U : Nat → Nat → Nat} {Y : xY} {T : Nat → Nat} {t : Nat} (hA : xA b I L N u U Y T t) {v : Int32} {Y' : xY} (hc : xm_Z 20 mc (.ref 0 :: as) (xS b, I, L, xP b) (fun rz hz => xHC b I L v Y' rz hz)) (hm : ∀ J M, xML N u U J → xSM Y J M → xm_Z 20 mm (.ref 60 :: as) (xS b, J, M, xP b) (fun rz hz => xHM b J M v Y' rz hz)) (hY : xYK Y') : xm_Z 20 mc (.ref 0 :: as) (xS b, I, L, xP b) (xTP mm as) := by
  obtain ⟨⟨p1, p2, p3⟩, ⟨s1, s2, s3⟩, ⟨t1, t2, t3, t4⟩, k⟩ := hA
  refine xw_Z hc ?_
  rintro _ _ ⟨rfl, J, M, rfl, f1, f2⟩
  refine ⟨v, b, J, M, rfl, rfl, ?_⟩
  refine xw_Z (hm J M (xml_fr p2 (by rw [(f2 60 (by decide)).1]) (f2 61 (by decide)).1 (f2 67 (by decide)).1) (xSM_fr s2 (f2 70 (by decide)).1 (f2 71 (by decide)).1 (f2 72 (by decide)).2)) ?_
  rintro _ _ ⟨rfl, J2, M2, rfl, g1, g2, g3⟩
  have g : ∀ a, a < 52 ∨ 60 ≤ a → a ≠ 70 → a ≠ 71 → J2 a = I a := fun a h1 h2 h3 => by rw [g2 a h2 h3, (f2 a h1).1]
  refine ⟨rfl, J2, M2, rfl, N, u, U, Y', T, t, ⟨xPL_fr (xUK_5 p3) p1 (fun a h1 h2 => g a (by omega) (by omega) (by omega)), xml_fr p2 (by rw [g 60 (by decide) (by decide) (by decide)]) (g 61 (by decide) (by decide) (by decide)) (g 67 (by decide) (by decide) (by decide)), p3⟩, ⟨xSH_fr f1 (fun a h1 h2 => ⟨g2 a (by omega) (by omega), g3 a (by omega)⟩), g1, hY⟩, ⟨xTA_fr t1 (g 42 (by decide) (by decide) (by decide)), xTA_fr t2 (g 64 (by decide) (by decide) (by decide)), ?_, ?_⟩, xKp_fr k (fun a h1 => g a (by omega) (by omega) (by omega)) (g 69 (by decide) (by decide) (by decide)) ?_ ?_⟩
  · rw [g 0 (by decide) (by decide) (by decide)]
    exact t3
  · rw [g 60 (by decide) (by decide) (by decide)]
    exact t4
  · rw [g 60 (by decide) (by decide) (by decide)]
  · rw [g 60 (by decide) (by decide) (by decide)]
/-- numbers of arguments -/
theorem xn_ex {x : Int32} (h : 0 ≤ x.toInt) : ∃ n, x = nI n ∧ (n : Int) = x.toInt ∧ n < 2 ^ 31 := by
  have h2 := Int32.toInt_lt x
  refine ⟨x.toInt.toNat, ?_, by omega, by omega⟩
  rw [xt_eq, xt_n (by omega)]
  omega
theorem xUK_up {N : Nat → Nat} {u k v : Nat} {U : Nat → Nat → Nat} (hK : xUK N u U) (hO : xOK (va_up N k v)) (h : k ≠ 0 ∧ k ≠ 1 ∧ k ≠ 2 ∧ k ≠ 4) : xUK (va_up N k v) u U := xUK_N hK hO (by rw [xvu_N (by omega)]; exact hK.2.1) (xvu_N (by omega)) (xvu_N (by omega)) (xvu_N (by omega))
theorem xOK_so {N : Nat → Nat} {c w : Nat} (hO : xOK N) (hc : c < 64) (hw : w < 3) : xOK (va_up N (31 + c) w) := by
  have hb := hO.1
  refine ⟨?_, fun j hj => ?_, fun j hj => ?_, fun i hi => ?_⟩
  · simp (disch := omega) only [xvu_N]
    exact hO.1
  · by_cases e : j = c
    · subst e
      rw [xvu_at]
      exact hw
    · rw [xvu_N (by omega)]
      exact hO.2.1 j hj
  · rw [xvu_N (by omega)]
    exact hO.2.2.1 j hj
  · rw [xvu_N (by omega)] at hi
    simp (disch := omega) only [xvu_N]
    exact hO.2.2.2 i hi
theorem xOK_lo {N : Nat → Nat} {k v : Nat} (hO : xOK N) (hk : k < 11 ∧ k ≠ 0 ∧ k ≠ 1 ∧ k ≠ 2) (h : 2 ≤ va_up N k v 0 ∧ va_up N k v 0 ≤ 8 ∧ 2 ≤ va_up N k v 1 ∧ va_up N k v 1 ≤ 8 ∧ va_up N k v 2 ≤ 5 ∧ va_up N k v 3 < 2 ^ va_up N k v 2 ∧ va_up N k v 4 < 1000000 ∧ va_up N k v 5 ≤ 3 ∧ 1 ≤ va_up N k v 6 ∧ va_up N k v 6 ≤ 5 ∧ va_up N k v 7 ≤ 999 ∧ va_up N k v 8 ≤ 999 ∧ va_up N k v 9 ≤ 999999 ∧ va_up N k v 10 < 2 ^ 31) : xOK (va_up N k v) := by
  refine ⟨h, fun j hj => ?_, fun j hj => ?_, fun i hi => ?_⟩
  · rw [xvu_N (by omega)]
    exact hO.2.1 j hj
  · rw [xvu_N (by omega)]
    exact hO.2.2.1 j hj
  · rw [xvu_N (by omega)] at hi
    simp (disch := omega) only [xvu_N]
    exact hO.2.2.2 i hi
theorem xleast {P : Nat → Prop} : ∀ n, (∃ k, k < n ∧ P k ∧ ∀ m, m < k → ¬ P m) ∨ ∀ m, m < n → ¬ P m
  | 0 => Or.inr fun m hm => absurd hm (Nat.not_lt_zero m)
  | n + 1 => by
    rcases xleast (P := P) n with ⟨k, h1, h2, h3⟩ | h
    · exact Or.inl ⟨k, by omega, h2, h3⟩
    · by_cases q : P n
      · exact Or.inl ⟨n, by omega, q, h⟩
      · refine Or.inr fun m hm => ?_
        by_cases e : m = n
        · rw [e]; exact q
        · exact h m (by omega)
