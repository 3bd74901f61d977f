/-! ===== the abstract machine, backwards ===== -/
def xm_W (d mi : Nat) (f : xm_F) (h : xm_H) (Q : Option Value → xm_H → Prop) : Prop := ∃ n r h', xm_R xm_pr (xm_C xm_pr d) mi n f h r h' ∧ Q r h'
def xm_Z (d mi : Nat) (as : List Value) (h : xm_H) (Q : Option Value → xm_H → Prop) : Prop := ∃ r h', xm_C xm_pr d mi as h r h' ∧ Q r h'
theorem xw_S {d mi : Nat} {M : xm_M} (hm : xm_pr mi = M) {as l : List Value} {h : xm_H} {Q : Option Value → xm_H → Prop} (hl : (xm_ent as).length ≤ M.2.2.1) (he : xm_pad M.2.2.1 (xm_ent as) = l) (k : xm_W d mi (0, l, []) h Q) : xm_Z (d + 1) mi as h Q := by
  subst hm
  subst he
  obtain ⟨n, r, h', k1, k2⟩ := k
  exact ⟨r, h', ⟨hl, n, k1⟩, k2⟩
theorem xw_Z {d mi : Nat} {as : List Value} {h : xm_H} {Q Q' : Option Value → xm_H → Prop} (hz : xm_Z d mi as h Q') (hq : ∀ r h', Q' r h' → Q r h') : xm_Z d mi as h Q := by
  obtain ⟨r, h', k1, k2⟩ := hz
  exact ⟨r, h', k1, hq _ _ k2⟩
theorem xw_Q {d mi : Nat} {f : xm_F} {h : xm_H} {Q Q' : Option Value → xm_H → Prop} (hz : xm_W d mi f h Q') (hq : ∀ r h', Q' r h' → Q r h') : xm_W d mi f h Q := by
  obtain ⟨n, r, h', k1, k2⟩ := hz
  exact ⟨n, r, h', k1, hq _ _ k2⟩
theorem xm_all_app {a b : List Prop} (h : xm_all (a ++ b)) : xm_all a ∧ xm_all b := by
  induction a with
  | nil => exact ⟨trivial, h⟩
  | cons p t ih => exact ⟨⟨h.1, (ih h.2).1⟩, (ih h.2).2⟩
theorem xw_go {d mi : Nat} {M : xm_M} (hm : xm_pr mi = M) (k : Nat) {Q : Option Value → xm_H → Prop} : ∀ {f f1 : xm_F} {h h1 : xm_H} {ps : List Prop}, xm_run M.2.2.2.2.2 k f h = some (ps, f1, h1) → xm_all ps → xm_W d mi f1 h1 Q → xm_W d mi f h Q := by
  subst hm
  induction k with
  | zero =>
    intro f f1 h h1 ps hr _ kk
    cases hr
    exact kk
  | succ k ih =>
    intro f f1 h h1 ps hr hp kk
    unfold xm_run at hr
    split at hr
    · cases hr
    · rename_i e he
      split at hr
      · cases hr
      · rename_i ps1 f2 h2 hs
        split at hr
        · cases hr
        · rename_i qs f3 h3 hr2
          cases hr
          obtain ⟨p1, p2⟩ := xm_all_app hp
          obtain ⟨n, r, h', k1, k2⟩ := ih hr2 p2 kk
          exact ⟨n + 1, r, h', Or.inr ⟨e, he, Or.inl ⟨ps1, f2, h2, hs, p1, k1⟩⟩, k2⟩
theorem xw_if {d mi a b : Nat} {c : Prop} [Decidable c] {l st : List Value} {h : xm_H} {Q : Option Value → xm_H → Prop} (ht : c → xm_W d mi (a, l, st) h Q) (hf : ¬ c → xm_W d mi (b, l, st) h Q) : xm_W d mi (if c then a else b, l, st) h Q := by
  by_cases hc : c
  · rw [if_pos hc]; exact ht hc
  · rw [if_neg hc]; exact hf hc
theorem xw_fg {d mi pc : Nat} {l0 l st : List Value} {h : xm_H} {Q : Option Value → xm_H → Prop} (hl : xm_le l0 l) (k : xm_W d mi (pc, l0, st) h Q) : xm_W d mi (pc, l, st) h Q := by
  obtain ⟨n, r, h', k1, k2⟩ := k
  exact ⟨n + 1, r, h', Or.inl ⟨l0, hl, k1⟩, k2⟩
theorem xw_call {d mi pc : Nat} {M : xm_M} (hm : xm_pr mi = M) {e : xm_E} {k : Nat} {l st as rest : List Value} {h : xm_H} {Q Q1 : Option Value → xm_H → Prop} (he : xm_f M.2.2.2.2.2 pc = some e) (hk : xm_ck e.1 e.2.2.1.2.1 = some k) (hk3 : Nat.blt k 3 = true) (ht : xm_tk e.2.2.1.2.2 [] st = some (as, rest)) (hcs : Nat.ble (xm_cs rest) 8 = true) (hrc : k = 1 ∨ xm_rc h as (xm_pr e.2.2.1.1).2.2.2.2.1)
    (hC : xm_Z d e.2.2.1.1 as h Q1) (kk : ∀ r1 h1, Q1 r1 h1 → xm_W d mi (pc + 3, l, r1.toList ++ rest) h1 Q) : xm_W d mi (pc, l, st) h Q := by
  subst hm
  obtain ⟨r1, h1, c1, c2⟩ := hC
  obtain ⟨n, r, h', k1, k2⟩ := kk r1 h1 c2
  refine ⟨n + 1, r, h', Or.inr ⟨e, he, Or.inr (Or.inr (Or.inl ⟨k, as, rest, r1, h1, hk, ?_, ht, Nat.le_of_ble_eq_true hcs, hrc, c1, k1⟩))⟩, k2⟩
  have := hk3
  simp [Nat.blt] at this
  omega
theorem xw_obj {d mi pc : Nat} {M : xm_M} (hm : xm_pr mi = M) {e : xm_E} {l rest : List Value} {a : Nat} {h : xm_H} {Q : Option Value → xm_H → Prop} (he : xm_f M.2.2.2.2.2 pc = some e) (hk : xm_ck e.1 e.2.2.1.2.1 = some 3) (hcs : Nat.ble (xm_cs rest) 8 = true) (kk : xm_W d mi (pc + 3, l, rest) h Q) : xm_W d mi (pc, l, .ref a :: rest) h Q := by
  subst hm
  obtain ⟨n, r, h', k1, k2⟩ := kk
  exact ⟨n + 1, r, h', Or.inr ⟨e, he, Or.inr (Or.inr (Or.inr (Or.inl ⟨a, rest, hk, rfl, Nat.le_of_ble_eq_true hcs, k1⟩)))⟩, k2⟩
theorem xw_cpI {d mi pc : Nat} {M : xm_M} (hm : xm_pr mi = M) {e : xm_E} {l rest : List Value} {a b : Nat} {sp dp c : Int32} {h : xm_H} {Q : Option Value → xm_H → Prop} (he : xm_f M.2.2.2.2.2 pc = some e) (hk : xm_ck e.1 e.2.2.1.2.1 = some 4) (hcs : Nat.ble (xm_cs rest) 8 = true) (hcp : xm_cpR h a b 0 sp dp c)
    (kk : xm_W d mi (pc + 3, l, rest) (h.1, va_up h.2.1 b (va_cpy (h.2.1 a) (h.2.1 b) sp.toNatClampNeg dp.toNatClampNeg c.toNatClampNeg), h.2.2.1, h.2.2.2) Q) : xm_W d mi (pc, l, .int c :: .int dp :: .ref b :: .int sp :: .ref a :: rest) h Q := by
  subst hm
  obtain ⟨n, r, h', k1, k2⟩ := kk
  exact ⟨n + 1, r, h', Or.inr ⟨e, he, Or.inr (Or.inr (Or.inr (Or.inr (Or.inl ⟨c, dp, b, sp, a, rest, hk, rfl, Nat.le_of_ble_eq_true hcs, hcp, k1⟩))))⟩, k2⟩
theorem xw_cpL {d mi pc : Nat} {M : xm_M} (hm : xm_pr mi = M) {e : xm_E} {l rest : List Value} {a b : Nat} {sp dp c : Int32} {h : xm_H} {Q : Option Value → xm_H → Prop} (he : xm_f M.2.2.2.2.2 pc = some e) (hk : xm_ck e.1 e.2.2.1.2.1 = some 5) (hcs : Nat.ble (xm_cs rest) 8 = true) (hcp : xm_cpR h a b 1 sp dp c)
    (kk : xm_W d mi (pc + 3, l, rest) (h.1, h.2.1, va_up h.2.2.1 b (va_cpy (h.2.2.1 a) (h.2.2.1 b) sp.toNatClampNeg dp.toNatClampNeg c.toNatClampNeg), h.2.2.2) Q) : xm_W d mi (pc, l, .int c :: .int dp :: .ref b :: .int sp :: .ref a :: rest) h Q := by
  subst hm
  obtain ⟨n, r, h', k1, k2⟩ := kk
  exact ⟨n + 1, r, h', Or.inr ⟨e, he, Or.inr (Or.inr (Or.inr (Or.inr (Or.inr ⟨c, dp, b, sp, a, rest, hk, rfl, Nat.le_of_ble_eq_true hcs, hcp, k1⟩))))⟩, k2⟩
theorem xw_ret {d mi pc : Nat} {M : xm_M} (hm : xm_pr mi = M) {e : xm_E} {l st : List Value} {h : xm_H} {pp : Prop} {r : Option Value} {Q : Option Value → xm_H → Prop} (he : xm_f M.2.2.2.2.2 pc = some e) (hrt : xm_rt e (pc, l, st) M.2.2.2.1 = some (pp, r)) (hp : pp) (hq : Q r h) : xm_W d mi (pc, l, st) h Q := by
  subst hm
  exact ⟨1, r, h, Or.inr ⟨e, he, Or.inr (Or.inl ⟨pp, hrt, hp, rfl⟩)⟩, hq⟩
theorem xw_cong {d mi pc : Nat} {l st l' st' : List Value} {h h' : xm_H} {Q : Option Value → xm_H → Prop} (hl : l = l') (hs : st = st') (hh : h = h') (k : xm_W d mi (pc, l', st') h' Q) : xm_W d mi (pc, l, st) h Q := by
  subst hl
  subst hs
  subst hh
  exact k
