/-! ===== texts, images, the beginning ===== -/
theorem xA_same {mc mm : Nat} {as : List Value} {b : Bool} {I : Nat → Nat → Int32} {L : Nat → Nat → Int64} {N : Nat → Nat} {u : Nat} {U : Nat → Nat → Nat} {Y : xY} {T : Nat → Nat} {t : Nat} (hA : xA b I L N u U Y T t) {v : Int32} (hc : xm_Z 20 mc (.ref 0 :: as) (xS b, I, L, xP b) (fun rz hz => rz = some (.int v) ∧ hz = (xS b, I, L, xP b))) (hm : xm_Z 20 mm (.ref 60 :: as) (xS b, I, L, xP b) (fun rz hz => rz = some (.int v) ∧ hz = (xS b, I, L, xP b))) : xm_Z 20 mc (.ref 0 :: as) (xS b, I, L, xP b) (xTP mm as) := by
  refine xw_Z hc ?_
  rintro _ _ ⟨rfl, rfl⟩
  refine ⟨v, b, I, L, rfl, rfl, ?_⟩
  refine xw_Z hm ?_
  rintro _ _ ⟨rfl, rfl⟩
  exact ⟨rfl, I, L, rfl, N, u, U, Y, T, t, hA⟩
theorem xA_txt {b : Bool} {I : Nat → Nat → Int32} {L : Nat → Nat → Int64} {N : Nat → Nat} {u : Nat} {U : Nat → Nat → Nat} {Y : xY} {T : Nat → Nat} {t : Nat} (hA : xA b I L N u U Y T t) {J : Nat → Nat → Int32} (e : ∀ a, a ≠ 0 → a < 42 ∨ 51 ≤ a → a ≠ 60 → a ≠ 64 → a ≠ 65 → a ≠ 66 → J a = I a) (e2 : ∀ k, k ≠ 4 → k ≠ 5 → k ≠ 6 → J 60 k = I 60 k) {T' : Nat → Nat} {t' : Nat} (h1 : xTA T' t' 42 J) (h2 : xTA T' t' 64 J) (h3 : J 0 5 = nI t') (h4 : J 60 4 = nI t') : xE b J L := by
  obtain ⟨⟨p1, p2, p3⟩, ⟨s1, s2, s3⟩, -, k⟩ := hA
  exact ⟨N, u, U, Y, T', t', ⟨xPL_fr (xUK_5 p3) p1 (fun a h1 h2 => e a (by omega) (by omega) (by omega) (by omega) (by omega) (by omega)), xml_fr p2 (e2 10 (by decide) (by decide) (by decide)) (e 61 (by decide) (by decide) (by decide) (by decide) (by decide) (by decide)) (e 67 (by decide) (by decide) (by decide) (by decide) (by decide) (by decide)), p3⟩, ⟨xSH_fr s1 (fun a h1 h2 => ⟨e a (by omega) (by omega) (by omega) (by omega) (by omega) (by omega), rfl⟩), xSM_fr s2 (e 70 (by decide) (by decide) (by decide) (by decide) (by decide) (by decide)) (e 71 (by decide) (by decide) (by decide) (by decide) (by decide) (by decide)) rfl, s3⟩, ⟨h1, h2, h3, h4⟩, xKp_fr k (fun a h1 => e a (by omega) (by omega) (by omega) (by omega) (by omega) (by omega)) (e 69 (by decide) (by decide) (by decide) (by decide) (by decide) (by decide)) (e2 13 (by decide) (by decide) (by decide)) (e2 14 (by decide) (by decide) (by decide))⟩
theorem xT_type (x : Int32) : xTw 43 133 [.int x] := fun b I L hE => by
  obtain ⟨N, u, U, Y, T, t, hA⟩ := hE
  obtain ⟨t1, t2, t3, t4⟩ := hA.2.2.1
  by_cases hx : 32 ≤ x.toInt ∧ x.toInt ≤ 126
  · by_cases ht : t = 110
    · exact xA_same hA (c_type1 hx t3 ht) (m_type1 hx t4 ht)
    · have h110 : t < 110 := by have := t1.1; omega
      refine xw_Z (c_type2 hx t3 h110) ?_
      rintro _ _ ⟨rfl, rfl⟩
      refine ⟨_, b, _, L, rfl, rfl, ?_⟩
      refine xw_Z (m_type2 hx (t := t) (by rw [xm_up_o (by decide), xm_up_o (by decide)]; exact t4) h110) ?_
      rintro _ _ ⟨rfl, rfl⟩
      obtain ⟨n, rfl, en, ln⟩ := xn_ex (x := x) (by omega)
      have hT : ∀ k, k < t + 1 → 32 ≤ va_up T t n k ∧ va_up T t n k ≤ 126 := fun k hk => by
        by_cases e : k = t
        · subst e
          rw [xvu_at]
          omega
        · rw [xm_vu_o e]
          exact t1.2.1 k (by omega)
      refine ⟨rfl, _, L, rfl, xA_txt hA (T' := va_up T t n) (t' := t + 1) (fun a h1 h2 h3 h4 h5 h6 => ?_) (fun k h1 h2 h3 => ?_) ⟨by omega, hT, fun k hk => ?_⟩ ⟨by omega, hT, fun k hk => ?_⟩ ?_ (xm_up_at _ _ _ _)⟩
      · rw [xm_up_o h3, xm_up_o h4, xm_up_o h1, xm_up_o (by omega)]
      · rw [xm_up_ne (Or.inr h1), xm_up_o (by decide), xm_up_o (by decide), xm_up_o (by decide)]
      · rw [xm_up_o (by decide), xm_up_o (by decide), xm_up_o (by decide)]
        by_cases e : k = t
        · subst e
          rw [xm_up_at, xvu_at]
        · rw [xm_up_ne (Or.inr e), xm_vu_o e]
          exact t1.2.2 k (by omega)
      · rw [xm_up_o (by decide)]
        by_cases e : k = t
        · subst e
          rw [xm_up_at, xvu_at]
        · rw [xm_up_ne (Or.inr e), xm_vu_o e, xm_up_o (by decide), xm_up_o (by decide)]
          exact t2.2.2 k (by omega)
      · rw [xm_up_o (by decide), xm_up_o (by decide), xm_up_at]
  · exact xA_same hA (c_type0 hx) (m_type0 hx)
theorem xTA_0 {T : Nat → Nat} {a : Nat} {J : Nat → Nat → Int32} : xTA T 0 a J := ⟨by decide, fun k hk => absurd hk (Nat.not_lt_zero k), fun k hk => absurd hk (Nat.not_lt_zero k)⟩
theorem xT_garden : xTw 44 134 [] := fun b I L hE => by
  obtain ⟨N, u, U, Y, T, t, hA⟩ := hE
  obtain ⟨⟨p1, p2, p3⟩, ⟨s1, s2, s3⟩, ⟨t1, t2, t3, t4⟩, k⟩ := id hA
  rcases xG_or (T := T) (t := t) with ⟨F, hF⟩ | ⟨K0, S0, hG⟩
  · refine xw_Z (c_garden0 t1 t3 hF) ?_
    rintro _ _ ⟨rfl, J, rfl, f1, f2, f3⟩
    refine ⟨_, b, J, L, rfl, rfl, ?_⟩
    refine xw_Z (m_garden0 (xTA_fr t2 (f1 64 (by decide) (by decide))) (by rw [f1 60 (by decide) (by decide)]; exact t4) hF) ?_
    rintro _ _ ⟨rfl, M, rfl, g1, g2, g3⟩
    refine ⟨rfl, M, L, rfl, xA_txt hA (T' := T) (t' := 0) (fun a h1 h2 h3 h4 h5 h6 => ?_) (fun j h1 h2 h3 => ?_) xTA_0 xTA_0 ?_ ?_⟩
    · rw [g1 a h3 h5 h6, f1 a h1 (by omega)]
    · rw [g3 j h1 h2 h3, f1 60 (by decide) (by decide)]
    · rw [g1 0 (by decide) (by decide) (by decide), f2]
      rfl
    · rw [g2]
      rfl
  · refine xw_Z (c_garden1 p1 p3 t1 t3 hG) ?_
    rintro _ _ ⟨rfl, J, rfl, f0, f1, f2, f3⟩
    refine ⟨_, b, J, L, rfl, rfl, ?_⟩
    have hK := xgN_uk (U := U) p3.1 hG
    refine xw_Z (m_garden1 (xml_fr p2 (by rw [f1 60 (by decide) (by decide)]) (f1 61 (by decide) (by decide)) (f1 67 (by decide) (by decide))) p3 (xTA_fr t2 (f1 64 (by decide) (by decide))) (by rw [f1 60 (by decide) (by decide)]; exact t4) hG) ?_
    rintro _ _ ⟨rfl, M, rfl, g0, g1, g2, g3⟩
    have g : ∀ a, 51 ≤ a → a < 60 ∨ 74 ≤ a ∨ a = 64 ∨ a = 69 ∨ a = 70 ∨ a = 71 → M a = I a := fun a h1 h2 => by rw [g1 a h2, f1 a (by omega) (by omega)]
    refine ⟨rfl, M, L, rfl, _, 0, U, Y, T, 0, ⟨xPL_fr (xUK_5 hK) f0 (fun a h1 h2 => g1 a (Or.inl (by omega))), g0, hK⟩, ⟨xSH_fr s1 (fun a h1 h2 => ⟨g a (by omega) (by omega), rfl⟩), xSM_fr s2 (g 70 (by decide) (by decide)) (g 71 (by decide) (by decide)) rfl, s3⟩, ⟨xTA_0, xTA_0, ?_, ?_⟩, xKp_fr k (fun a h1 => g a (by omega) (by omega)) (g 69 (by decide) (by decide)) ?_ ?_⟩
    · rw [g1 0 (by decide), f2]
      rfl
    · rw [g2]
      rfl
    · rw [g3 13 (by decide) (by decide) (by decide) (by decide), f1 60 (by decide) (by decide)]
    · rw [g3 14 (by decide) (by decide) (by decide) (by decide), f1 60 (by decide) (by decide)]
/-- behind an image of the class -/
theorem xA_img {b : Bool} {I : Nat → Nat → Int32} {L : Nat → Nat → Int64} {N : Nat → Nat} {u : Nat} {U : Nat → Nat → Nat} {Y : xY} {T : Nat → Nat} {t : Nat} (hA : xA b I L N u U Y T t) (hc : xm_Z 20 88 [.ref 0] (xS b, I, L, xP b) (fun rz hz => rz = some (.int 1) ∧ ∃ I' L', hz = (xS true, I', L', xP true) ∧ xPL N u U 74 I' ∧ ∀ a, a < 74 → I' a = I a ∧ L' a = L a)) : xm_Z 20 88 [.ref 0] (xS b, I, L, xP b) (xTP 160 []) := by
  obtain ⟨⟨p1, p2, p3⟩, ⟨s1, s2, s3⟩, ⟨t1, t2, t3, t4⟩, -⟩ := hA
  refine xw_Z hc ?_
  rintro _ _ ⟨rfl, J, M, rfl, f1, f2⟩
  refine ⟨1, true, J, M, rfl, rfl, ?_⟩
  refine xw_Z (m_image (xml_fr p2 (by rw [(f2 60 (by decide)).1]) (f2 61 (by decide)).1 (f2 67 (by decide)).1) p3) ?_
  rintro _ _ ⟨rfl, K, rfl, g1, g2, g3⟩
  have g : ∀ a, a < 74 → a ≠ 60 → a ≠ 69 → K a = I a := fun a h1 h2 h3 => by rw [g2 a h2 h3, (f2 a h1).1]
  refine ⟨rfl, K, M, rfl, N, u, U, Y, T, t, ⟨xPL_fr (xUK_5 p3) p1 (fun a h1 h2 => g a (by omega) (by omega) (by omega)), xml_fr p2 (by rw [g3 10 (by decide) (by decide), (f2 60 (by decide)).1]) (g 61 (by decide) (by decide) (by decide)) (g 67 (by decide) (by decide) (by decide)), p3⟩, ⟨xSH_fr s1 (fun a h1 h2 => ⟨g a (by omega) (by omega) (by omega), (f2 a (by omega)).2⟩), xSM_fr s2 (g 70 (by decide) (by decide) (by decide)) (g 71 (by decide) (by decide) (by decide)) (f2 72 (by decide)).2, s3⟩, ⟨xTA_fr t1 (g 42 (by decide) (by decide) (by decide)), xTA_fr t2 (g 64 (by decide) (by decide) (by decide)), ?_, ?_⟩, fun q => absurd q (by decide), fun _ => ⟨N, u, U, xPL_fr (xUK_5 p3) f1 (fun a h1 h2 => g2 a (by omega) (by omega)), g1, p3⟩⟩
  · rw [g 0 (by decide) (by decide) (by decide)]
    exact t3
  · rw [g3 4 (by decide) (by decide), (f2 60 (by decide)).1]
    exact t4
theorem xT_image : xTw 88 160 [] := fun b I L hE => by
  obtain ⟨N, u, U, Y, T, t, hA⟩ := hE
  cases b
  · exact xA_img hA (c_image0 hA.1.1 hA.1.2.2)
  · exact xA_img hA (c_image1 hA.1.1 hA.1.2.2)
theorem xT_restore : xTw 91 161 [] := fun b I L hE => by
  obtain ⟨N, u, U, Y, T, t, hA⟩ := hE
  obtain ⟨⟨p1, p2, p3⟩, ⟨s1, s2, s3⟩, ⟨t1, t2, t3, t4⟩, k⟩ := id hA
  cases b
  · exact xA_same hA c_restore0 (m_restore0 (k.1 rfl))
  · obtain ⟨N', u', U', k1, k2, k3⟩ := k.2 rfl
    refine xw_Z (c_restore1 k1 k3) ?_
    rintro _ _ ⟨rfl, J, rfl, f0, f1⟩
    have e : ∀ a, 20 ≤ a → J a = I a := fun a h => f1 a (Or.inr h)
    refine ⟨1, true, J, L, rfl, rfl, ?_⟩
    refine xw_Z (m_restore1 (xKM_fr k2 (e 69 (by decide)) (by rw [e 60 (by decide)]) (by rw [e 60 (by decide)])) k3) ?_
    rintro _ _ ⟨rfl, M, rfl, g0, g1, g2⟩
    have g : ∀ a, 20 ≤ a → a ≠ 60 → a ≠ 61 → a ≠ 67 → M a = I a := fun a h1 h2 h3 h4 => by rw [g1 a h2 h3 h4, e a h1]
    refine ⟨rfl, M, L, rfl, N', u', U', Y, T, t, ⟨xPL_fr (xUK_5 k3) f0 (fun a h1 h2 => g1 a (by omega) (by omega) (by omega)), g0, k3⟩, ⟨xSH_fr s1 (fun a h1 h2 => ⟨g a (by omega) (by omega) (by omega) (by omega), rfl⟩), xSM_fr s2 (g 70 (by decide) (by decide) (by decide) (by decide)) (g 71 (by decide) (by decide) (by decide) (by decide)) rfl, s3⟩, ⟨xTA_fr t1 (g 42 (by decide) (by decide) (by decide) (by decide)), xTA_fr t2 (g 64 (by decide) (by decide) (by decide) (by decide)), ?_, ?_⟩, xKp_fr k (fun a h1 => g a (by omega) (by omega) (by omega) (by omega)) (g 69 (by decide) (by decide) (by decide) (by decide)) ?_ ?_⟩
    · rw [g1 0 (by decide) (by decide) (by decide), f1 0 (Or.inl (by decide))]
      exact t3
    · rw [g2 4 (by decide), e 60 (by decide)]
      exact t4
    · rw [g2 13 (by decide), e 60 (by decide)]
    · rw [g2 14 (by decide), e 60 (by decide)]
/-- before all: no cell -/
def xH0 : xm_H := ([], fun _ _ => 0, fun _ _ => 0, fun _ _ => none)
def xI0 : Nat → Nat → Int32 := xjI_model (va_up (xjI_LR (va_up (fun _ _ => 0) 0 (fun _ => 0))) 60 (fun _ => 0))
def xL0 : Nat → Nat → Int64 := xjL_model (va_up (xjL_LR (va_up (fun _ _ => 0) 0 (fun _ => 0))) 60 (fun _ => 0))
def xN0 : Nat → Nat := fun k => if k = 10 then 1 else if k = 8 then 20 else if k = 7 then 10 else if k = 6 then 2 else if k = 1 then 5 else if k = 0 then 4 else 0
theorem xI0_61 (k : Nat) : xI0 61 k = if k = 10 then 1 else if k = 8 then 20 else if k = 7 then 10 else if k = 6 then 2 else if k = 1 then 5 else if k = 0 then 4 else 0 := rfl
theorem xI0_2 (k : Nat) : xI0 2 k = 0 := rfl
theorem xI0_3 (k : Nat) : xI0 3 k = 0 := rfl
theorem xL0_53 (k : Nat) : xL0 53 k = 0 := rfl
theorem xL0_55 (k : Nat) : xL0 55 k = 0 := rfl
theorem xL0_57 (k : Nat) : xL0 57 k = 0 := rfl
theorem xL0_59 (k : Nat) : xL0 59 k = 0 := rfl
theorem xL0_72 (k : Nat) : xL0 72 k = 0 := rfl
theorem xN0_hi {k : Nat} (h : 11 ≤ k) : xN0 k = 0 := by
  unfold xN0
  rw [if_neg (by omega), if_neg (by omega), if_neg (by omega), if_neg (by omega), if_neg (by omega), if_neg (by omega)]
theorem xI0_N (k : Nat) : xI0 61 k = nI (xN0 k) := by
  rw [xI0_61]
  unfold xN0
  repeat' split
  all_goals rfl
theorem xN0_uk : xUK xN0 0 (fun _ _ => 0) := by
  refine ⟨⟨by decide, fun c hc => ?_, fun c hc => ?_, fun i hi => absurd hi (Nat.not_lt_zero i)⟩, by decide, by decide, fun j hj => absurd hj (Nat.not_lt_zero j)⟩
  · rw [xN0_hi (by omega)]
    decide
  · rw [xN0_hi (by omega)]
    decide
theorem xI0_PL : xPL xN0 0 (fun _ _ => 0) 1 xI0 := by
  refine ⟨⟨⟨rfl, rfl, rfl, rfl, rfl, rfl, rfl, rfl, rfl, rfl, rfl⟩, fun c hc => ?_, fun c hc => ?_, fun i hi => absurd hi (Nat.not_lt_zero i)⟩, 0, by decide, rfl, rfl, fun j hj => absurd hj (Nat.not_lt_zero j)⟩
  · rw [xN0_hi (by omega)]
    exact xI0_2 c
  · rw [xN0_hi (by omega)]
    exact xI0_3 c
theorem xE_new : xE false xI0 xL0 := by
  refine ⟨xN0, 0, fun _ _ => 0, fun _ => (false, 0, 0, fun _ => 0), fun _ => 0, 0, ⟨xI0_PL, ⟨fun k hk => xI0_N k, rfl, fun j hj => absurd hj (Nat.not_lt_zero j)⟩, xN0_uk⟩, ⟨fun s hs => ?_, fun s hs => ?_, fun s hs => ⟨show 0 < 4 by decide, show 0 ≤ 24 by decide⟩⟩, ⟨xTA_0, xTA_0, rfl, rfl⟩, fun _ => rfl, fun q => absurd q (by decide)⟩
  · rcases (show s = 0 ∨ s = 1 ∨ s = 2 ∨ s = 3 by omega) with rfl | rfl | rfl | rfl
    · exact ⟨rfl, rfl, rfl, fun k _ => xL0_53 k⟩
    · exact ⟨rfl, rfl, rfl, fun k _ => xL0_55 k⟩
    · exact ⟨rfl, rfl, rfl, fun k _ => xL0_57 k⟩
    · exact ⟨rfl, rfl, rfl, fun k _ => xL0_59 k⟩
  · refine ⟨?_, ?_, fun k _ => xL0_72 _⟩
    · rcases (show s = 0 ∨ s = 1 ∨ s = 2 ∨ s = 3 by omega) with rfl | rfl | rfl | rfl <;> rfl
    · rcases (show s = 0 ∨ s = 1 ∨ s = 2 ∨ s = 3 by omega) with rfl | rfl | rfl | rfl <;> rfl
/-- both objects are made -/
theorem xH_LR : ∃ I L P, xm_C xm_pr 20 0 [.ref 0] (xm_mk xH0 12 8) none (xS0.take 60, I, L, P) ∧ xm_C xm_pr 20 106 [.ref 60] (xm_mk (xS0.take 60, I, L, P) 13 19) none (xS false, xI0, xL0, xP false) := by
  obtain ⟨r1, h1, k1, rfl, e1⟩ := c_LR (d := 17) (I := va_up (fun _ _ => 0) 0 (fun _ => 0)) (L := va_up (fun _ _ => 0) 0 (fun _ => 0)) (P := va_up (fun _ _ => none) 0 (fun _ => none))
  subst e1
  obtain ⟨r2, h2, k2, rfl, e2⟩ := c_model (d := 19) (I := va_up (xjI_LR (va_up (fun _ _ => 0) 0 (fun _ => 0))) 60 (fun _ => 0)) (L := va_up (xjL_LR (va_up (fun _ _ => 0) 0 (fun _ => 0))) 60 (fun _ => 0)) (P := va_up (xjP_LR (va_up (fun _ _ => none) 0 (fun _ => none))) 60 (fun _ => none))
  rw [xP_new] at e2
  subst e2
  exact ⟨_, _, _, k1, k2⟩
