/-! ===== one row a call: class and model answer alike ===== -/
theorem xT_lawn (x : Int32) (y : Int32) : xTw 9 107 [.int x, .int y] := fun b I L hE => by
  obtain ⟨N, u, U, Y, T, t, hA⟩ := hE
  have hP := hA.1.1
  have hK := hA.1.2.2
  have hb := hK.1.1
  have c64 : N 0 * N 1 ≤ 64 := xce_le hK.1
  by_cases hx : 2 ≤ x.toInt ∧ x.toInt ≤ 8 ∧ 2 ≤ y.toInt ∧ y.toInt ≤ 8
  · obtain ⟨r, rfl, er, lr⟩ := xn_ex (x := x) (by omega)
    obtain ⟨c, rfl, ec, lc⟩ := xn_ex (x := y) (by omega)
    exact xA_plot hA (c_lawn1 hP hK (by omega) (by omega) rfl rfl) (fun J j s => m_lawn1 j hK (by omega) (by omega) rfl rfl) (xnw_uk hK.1 (by omega) (by omega))
  · exact xA_plot hA (c_lawn0 hP hK hx) (fun J j s => m_lawn0 j hK hx) (hK)
theorem xT_soil (x : Int32) (y : Int32) : xTw 14 110 [.int x, .int y] := fun b I L hE => by
  obtain ⟨N, u, U, Y, T, t, hA⟩ := hE
  have hP := hA.1.1
  have hK := hA.1.2.2
  have hb := hK.1.1
  have c64 : N 0 * N 1 ≤ 64 := xce_le hK.1
  by_cases hx : 0 ≤ x.toInt ∧ x.toInt < ((N 0 * N 1 : Nat) : Int) ∧ 0 ≤ y.toInt ∧ y.toInt ≤ 2
  · obtain ⟨c, rfl, ec, lc⟩ := xn_ex (x := x) (by omega)
    obtain ⟨w, rfl, ew, lw⟩ := xn_ex (x := y) (by omega)
    exact xA_plot hA (c_soil1 hP hK (by omega) (by omega) rfl rfl) (fun J j s => m_soil1 j hK (by omega) (by omega) rfl rfl) (xUK_up hK (xOK_so hK.1 (by omega) (by omega)) (by omega))
  · exact xA_plot hA (c_soil0 hP hK hx) (fun J j s => m_soil0 j hK hx) (hK)
theorem xT_sprinkler (x : Int32) (y : Int32) (z : Int32) (w : Int32) : xTw 16 113 [.int x, .int y, .int z, .int w] := fun b I L hE => by
  obtain ⟨N, u, U, Y, T, t, hA⟩ := hE
  have hP := hA.1.1
  have hK := hA.1.2.2
  have hb := hK.1.1
  have c64 : N 0 * N 1 ≤ 64 := xce_le hK.1
  by_cases hx : 0 ≤ x.toInt ∧ x.toInt ≤ 4 ∧ 0 ≤ y.toInt ∧ y.toInt < ((N 0 * N 1 : Nat) : Int) ∧ 0 ≤ z.toInt ∧ z.toInt ≤ 4 ∧ 1 ≤ w.toInt ∧ w.toInt ≤ 9
  · obtain ⟨k, rfl, ek, lk⟩ := xn_ex (x := x) (by omega)
    obtain ⟨pl, rfl, epl, lpl⟩ := xn_ex (x := y) (by omega)
    obtain ⟨re, rfl, ere, lre⟩ := xn_ex (x := z) (by omega)
    obtain ⟨pw, rfl, epw, lpw⟩ := xn_ex (x := w) (by omega)
    by_cases h5 : N 2 = 5
    · exact xA_plot hA (c_sprinkler1 hP hK (by omega) (by omega) (by omega) (by omega) h5 rfl rfl rfl rfl) (fun J j s => m_sprinkler1 j hK (by omega) (by omega) (by omega) (by omega) h5 rfl rfl rfl rfl) (hK)
    · exact xA_plot hA (c_sprinkler2 hP hK (by omega) (by omega) (by omega) (by omega) (by omega) rfl rfl rfl rfl) (fun J j s => m_sprinkler2 j hK (by omega) (by omega) (by omega) (by omega) (by omega) rfl rfl rfl rfl) (xadd_uk hK.1 hK.2.1 (by omega) (by omega) (by omega) (by omega) (by omega))
  · exact xA_plot hA (c_sprinkler0 hP hK hx) (fun J j s => m_sprinkler0 j hK hx) (hK)
theorem xT_of (x : Int32) (y : Int32) : xTw 19 115 [.int x, .int y] := fun b I L hE => by
  obtain ⟨N, u, U, Y, T, t, hA⟩ := hE
  have hP := hA.1.1
  have hK := hA.1.2.2
  have hb := hK.1.1
  have c64 : N 0 * N 1 ≤ 64 := xce_le hK.1
  by_cases hx : 0 ≤ x.toInt ∧ x.toInt < (N 2 : Int) ∧ 0 ≤ y.toInt ∧ y.toInt ≤ 5
  · obtain ⟨i, rfl, ei, li⟩ := xn_ex (x := x) (by omega)
    obtain ⟨f, rfl, ef, lf⟩ := xn_ex (x := y) (by omega)
    by_cases h4 : f < 4
    · exact xA_plot hA (c_of1 hP hK (by omega) h4 rfl rfl) (fun J j s => m_of1 j hK (by omega) h4 rfl rfl) (hK)
    · rcases (show f = 4 ∨ f = 5 by omega) with rfl | rfl
      · exact xA_plot hA (c_of4 hP hK (by omega) rfl rfl) (fun J j s => m_of4 j hK (by omega) rfl rfl rfl) (hK)
      · exact xA_plot hA (c_of5 hP hK (by omega) rfl rfl) (fun J j s => m_of5 j hK (by omega) rfl rfl rfl) (hK)
  · exact xA_plot hA (c_of0 hP hK hx) (fun J j s => m_of0 j hK hx) (hK)
theorem xT_cell (x : Int32) (y : Int32) : xTw 30 121 [.int x, .int y] := fun b I L hE => by
  obtain ⟨N, u, U, Y, T, t, hA⟩ := hE
  have hP := hA.1.1
  have hK := hA.1.2.2
  have hb := hK.1.1
  have c64 : N 0 * N 1 ≤ 64 := xce_le hK.1
  by_cases hx : 0 ≤ x.toInt ∧ x.toInt < ((N 0 * N 1 : Nat) : Int) ∧ 0 ≤ y.toInt ∧ y.toInt ≤ 4
  · obtain ⟨c, rfl, ec, lc⟩ := xn_ex (x := x) (by omega)
    obtain ⟨f, rfl, ef, lf⟩ := xn_ex (x := y) (by omega)
    rcases (show f = 0 ∨ f = 1 ∨ f = 2 ∨ f = 3 ∨ f = 4 by omega) with rfl | rfl | rfl | rfl | rfl
    · exact xA_plot hA (c_cell10 hP hK (by omega) rfl rfl) (fun J j s => m_cell10 j hK (by omega) rfl rfl) (hK)
    · exact xA_plot hA (c_cell11 hP hK (by omega) rfl rfl) (fun J j s => m_cell11 j hK (by omega) rfl rfl) (hK)
    · exact xA_plot hA (c_cell12 hP hK (by omega) rfl rfl) (fun J j s => m_cell12 j hK (by omega) rfl rfl) (hK)
    · exact xA_plot hA (c_cell13 hP hK (by omega) rfl rfl) (fun J j s => m_cell13 j hK (by omega) rfl rfl) (hK)
    · exact xA_plot hA (c_cell14 hP hK (by omega) rfl rfl) (fun J j s => m_cell14 j hK (by omega) rfl rfl) (hK)
  · exact xA_plot hA (c_cell0 hP hK hx) (fun J j s => m_cell0 j hK hx) (hK)
theorem xT_turn (x : Int32) (y : Int32) : xTw 36 127 [.int x, .int y] := fun b I L hE => by
  obtain ⟨N, u, U, Y, T, t, hA⟩ := hE
  have hP := hA.1.1
  have hK := hA.1.2.2
  have hb := hK.1.1
  have c64 : N 0 * N 1 ≤ 64 := xce_le hK.1
  by_cases hx : 0 ≤ x.toInt ∧ x.toInt < (N 2 : Int) ∧ 0 ≤ y.toInt ∧ y.toInt ≤ 1
  · obtain ⟨i, rfl, ei, li⟩ := xn_ex (x := x) (by omega)
    obtain ⟨q, rfl, eq, lq⟩ := xn_ex (x := y) (by omega)
    by_cases h : xB ((N 3).testBit i) = q
    · exact xA_plot hA (c_turn1 hP hK (by omega) (by omega) h rfl rfl) (fun J j s => m_turn1 j hK (by omega) (by omega) h rfl rfl) (hK)
    · by_cases h2 : q = 1 ∧ N 6 ≤ xpc (N 3)
      · exact xA_plot hA (c_turn2 hP hK (by omega) (by omega) h h2.1 h2.2 rfl rfl) (fun J j s => m_turn2 j hK (by omega) (by omega) h h2.1 h2.2 rfl rfl) (hK)
      · have hi : i < N 2 := by omega
        have h9 : N 3 ^^^ (1 <<< i) < 2 ^ N 2 := Nat.xor_lt_two_pow hb.2.2.2.2.2.1 (by rw [Nat.shiftLeft_eq, Nat.one_mul]; exact Nat.pow_lt_pow_right (by decide) hi)
        exact xA_plot hA (c_turn3 hP hK hi (by omega) h (by omega) rfl rfl) (fun J j s => m_turn3 j hK hi (by omega) h (by omega) rfl rfl) (xUK_up hK (xOK_lo hK.1 (by decide) (show 2 ≤ N 0 ∧ N 0 ≤ 8 ∧ 2 ≤ N 1 ∧ N 1 ≤ 8 ∧ N 2 ≤ 5 ∧ N 3 ^^^ (1 <<< i) < 2 ^ N 2 ∧ N 4 < 1000000 ∧ N 5 ≤ 3 ∧ 1 ≤ N 6 ∧ N 6 ≤ 5 ∧ N 7 ≤ 999 ∧ N 8 ≤ 999 ∧ N 9 ≤ 999999 ∧ N 10 < 2 ^ 31 from ⟨hb.1, hb.2.1, hb.2.2.1, hb.2.2.2.1, hb.2.2.2.2.1, h9, hb.2.2.2.2.2.2⟩)) (by decide))
  · exact xA_plot hA (c_turn0 hP hK hx) (fun J j s => m_turn0 j hK hx) (hK)
theorem xT_rule (x : Int32) (y : Int32) : xTw 38 129 [.int x, .int y] := fun b I L hE => by
  obtain ⟨N, u, U, Y, T, t, hA⟩ := hE
  have hP := hA.1.1
  have hK := hA.1.2.2
  have hb := hK.1.1
  have c64 : N 0 * N 1 ≤ 64 := xce_le hK.1
  by_cases hx : ((x.toInt = 0 ∧ 0 ≤ y.toInt ∧ y.toInt ≤ 3) ∨ (x.toInt = 1 ∧ 1 ≤ y.toInt ∧ y.toInt ≤ 5) ∨ ((x.toInt = 2 ∨ x.toInt = 3) ∧ 0 ≤ y.toInt ∧ y.toInt ≤ 999))
  · obtain ⟨k, rfl, ek, lk⟩ := xn_ex (x := x) (by omega)
    obtain ⟨w, rfl, ew, lw⟩ := xn_ex (x := y) (by omega)
    rcases (show k = 0 ∨ k = 1 ∨ k = 2 ∨ k = 3 by omega) with rfl | rfl | rfl | rfl
    · exact xA_plot hA (c_rule10 hP hK (by omega) rfl rfl) (fun J j s => m_rule10 j hK (by omega) rfl rfl) (xUK_up hK (xOK_lo hK.1 (by decide) (show 2 ≤ N 0 ∧ N 0 ≤ 8 ∧ 2 ≤ N 1 ∧ N 1 ≤ 8 ∧ N 2 ≤ 5 ∧ N 3 < 2 ^ N 2 ∧ N 4 < 1000000 ∧ w ≤ 3 ∧ 1 ≤ N 6 ∧ N 6 ≤ 5 ∧ N 7 ≤ 999 ∧ N 8 ≤ 999 ∧ N 9 ≤ 999999 ∧ N 10 < 2 ^ 31 from by omega)) (by decide))
    · exact xA_plot hA (c_rule11 hP hK (by omega) rfl rfl) (fun J j s => m_rule11 j hK (by omega) rfl rfl) (xUK_up hK (xOK_lo hK.1 (by decide) (show 2 ≤ N 0 ∧ N 0 ≤ 8 ∧ 2 ≤ N 1 ∧ N 1 ≤ 8 ∧ N 2 ≤ 5 ∧ N 3 < 2 ^ N 2 ∧ N 4 < 1000000 ∧ N 5 ≤ 3 ∧ 1 ≤ w ∧ w ≤ 5 ∧ N 7 ≤ 999 ∧ N 8 ≤ 999 ∧ N 9 ≤ 999999 ∧ N 10 < 2 ^ 31 from by omega)) (by decide))
    · exact xA_plot hA (c_rule12 hP hK (by omega) rfl rfl) (fun J j s => m_rule12 j hK (by omega) rfl rfl) (xUK_up hK (xOK_lo hK.1 (by decide) (show 2 ≤ N 0 ∧ N 0 ≤ 8 ∧ 2 ≤ N 1 ∧ N 1 ≤ 8 ∧ N 2 ≤ 5 ∧ N 3 < 2 ^ N 2 ∧ N 4 < 1000000 ∧ N 5 ≤ 3 ∧ 1 ≤ N 6 ∧ N 6 ≤ 5 ∧ w ≤ 999 ∧ N 8 ≤ 999 ∧ N 9 ≤ 999999 ∧ N 10 < 2 ^ 31 from by omega)) (by decide))
    · exact xA_plot hA (c_rule13 hP hK (by omega) rfl rfl) (fun J j s => m_rule13 j hK (by omega) rfl rfl) (xUK_up hK (xOK_lo hK.1 (by decide) (show 2 ≤ N 0 ∧ N 0 ≤ 8 ∧ 2 ≤ N 1 ∧ N 1 ≤ 8 ∧ N 2 ≤ 5 ∧ N 3 < 2 ^ N 2 ∧ N 4 < 1000000 ∧ N 5 ≤ 3 ∧ 1 ≤ N 6 ∧ N 6 ≤ 5 ∧ N 7 ≤ 999 ∧ w ≤ 999 ∧ N 9 ≤ 999999 ∧ N 10 < 2 ^ 31 from by omega)) (by decide))
  · exact xA_plot hA (c_rule0 hP hK hx) (fun J j s => m_rule0 j hK hx) (hK)
theorem xT_count (x : Int32) : xTw 55 130 [.int x] := fun b I L hE => by
  obtain ⟨N, u, U, Y, T, t, hA⟩ := hE
  have hP := hA.1.1
  have hK := hA.1.2.2
  have hb := hK.1.1
  have c64 : N 0 * N 1 ≤ 64 := xce_le hK.1
  by_cases hx : 0 ≤ x.toInt ∧ x.toInt ≤ 12
  · obtain ⟨k, rfl, ek, lk⟩ := xn_ex (x := x) (by omega)
    by_cases h : k < 10
    · exact xA_plot hA (c_count1 hP hK h rfl) (fun J j s => m_count1 j hK h rfl) (hK)
    · rcases (show k = 10 ∨ k = 11 ∨ k = 12 by omega) with rfl | rfl | rfl
      · exact xA_plot hA (c_count10 hP hK rfl) (fun J j s => m_count10 j hK rfl) (hK)
      · exact xA_plot hA (c_count11 hP hK rfl) (fun J j s => m_count11 j hK rfl) (hK)
      · exact xA_plot hA (c_count12 hP hK rfl) (fun J j s => m_count12 j hK rfl) (hK)
  · exact xA_plot hA (c_count0 hP hK (by omega)) (fun J j s => m_count0 j hK (by omega)) (hK)
theorem xT_minutes (x : Int32) : xTw 58 141 [.int x] := fun b I L hE => by
  obtain ⟨N, u, U, Y, T, t, hA⟩ := hE
  have hP := hA.1.1
  have hK := hA.1.2.2
  have hb := hK.1.1
  have c64 : N 0 * N 1 ≤ 64 := xce_le hK.1
  by_cases hx : 1 ≤ x.toInt ∧ x.toInt ≤ 60
  · obtain ⟨n, rfl, en, ln⟩ := xn_ex (x := x) (by omega)
    by_cases hf : N 4 + n ≤ 9999
    · exact xA_plot hA (c_minutes2 hP hK (by omega) hf rfl) (fun J j s => m_minutes2 j hK (by omega) hf rfl) (xmn_uk hK (xfa N (N 3) (N 5)) hf n (Nat.le_refl n))
    · exact xA_plot hA (c_minutes1 hP hK (by omega) (by omega) rfl) (fun J j s => m_minutes1 j hK (by omega) (by omega) rfl) (hK)
  · exact xA_plot hA (c_minutes0 hP hK hx) (fun J j s => m_minutes0 j hK hx) (hK)
theorem xT_sun (x : Int32) : xTw 63 144 [.int x] := fun b I L hE => by
  obtain ⟨N, u, U, Y, T, t, hA⟩ := hE
  have hP := hA.1.1
  have hK := hA.1.2.2
  have hb := hK.1.1
  have c64 : N 0 * N 1 ≤ 64 := xce_le hK.1
  by_cases hx : 1 ≤ x.toInt ∧ x.toInt ≤ 99
  · obtain ⟨n, rfl, en, ln⟩ := xn_ex (x := x) (by omega)
    exact xA_plot hA (c_sun1 hP hK (by omega) rfl) (fun J j s => m_sun1 j hK (by omega) rfl) (xdy_uk (xpsh_uk hK))
  · exact xA_plot hA (c_sun0 hP hK hx) (fun J j s => m_sun0 j hK hx) (hK)
theorem xT_move (x : Int32) (y : Int32) : xTw 65 145 [.int x, .int y] := fun b I L hE => by
  obtain ⟨N, u, U, Y, T, t, hA⟩ := hE
  have hP := hA.1.1
  have hK := hA.1.2.2
  have hb := hK.1.1
  have c64 : N 0 * N 1 ≤ 64 := xce_le hK.1
  by_cases hx : 0 ≤ x.toInt ∧ x.toInt < (N 2 : Int) ∧ 0 ≤ y.toInt ∧ y.toInt < ((N 0 * N 1 : Nat) : Int)
  · obtain ⟨i, rfl, ei, li⟩ := xn_ex (x := x) (by omega)
    obtain ⟨c, rfl, ec, lc⟩ := xn_ex (x := y) (by omega)
    exact xA_plot hA (c_move1 hP hK (by omega) (by omega) rfl rfl) (fun J j s => m_move1 j hK (by omega) (by omega) rfl rfl) (xUK_up (xpsh_uk hK) (xOK_pl hK.1 (by omega) (by omega)) (by omega))
  · exact xA_plot hA (c_move0 hP hK hx) (fun J j s => m_move0 j hK hx) (hK)
theorem xT_drift (x : Int32) : xTw 66 146 [.int x] := fun b I L hE => by
  obtain ⟨N, u, U, Y, T, t, hA⟩ := hE
  have hP := hA.1.1
  have hK := hA.1.2.2
  have hb := hK.1.1
  have c64 : N 0 * N 1 ≤ 64 := xce_le hK.1
  by_cases hx : 1 ≤ x.toInt ∧ x.toInt ≤ 60
  · obtain ⟨n, rfl, en, ln⟩ := xn_ex (x := x) (by omega)
    by_cases hf : N 4 + n ≤ 9999
    · exact xA_plot hA (c_drift2 hP hK (by omega) hf rfl) (fun J j s => m_drift2 j hK (by omega) hf rfl) (xdn_uk hK hf n (Nat.le_refl n))
    · exact xA_plot hA (c_drift1 hP hK (by omega) (by omega) rfl) (fun J j s => m_drift1 j hK (by omega) (by omega) rfl) (hK)
  · exact xA_plot hA (c_drift0 hP hK hx) (fun J j s => m_drift0 j hK hx) (hK)
theorem xT_undo : xTw 68 147 [] := fun b I L hE => by
  obtain ⟨N, u, U, Y, T, t, hA⟩ := hE
  have hP := hA.1.1
  have hK := hA.1.2.2
  have hb := hK.1.1
  have c64 : N 0 * N 1 ≤ 64 := xce_le hK.1
  by_cases hx : u = 0
  · exact xA_plot hA (c_undo0 hP hK hx) (fun J j s => m_undo0 j hK hx) (hK)
  · exact xA_plot hA (c_undo1 hP hK (by omega)) (fun J j s => m_undo1 j hK (by omega)) (xbk_uk hK (by omega))
theorem xT_seed (x : Int32) : xTw 71 148 [.int x] := fun b I L hE => by
  obtain ⟨N, u, U, Y, T, t, hA⟩ := hE
  have hP := hA.1.1
  have hK := hA.1.2.2
  have hb := hK.1.1
  have c64 : N 0 * N 1 ≤ 64 := xce_le hK.1
  by_cases hx : 0 ≤ x.toInt
  · obtain ⟨w, rfl, ew, lw⟩ := xn_ex (x := x) (by omega)
    exact xA_plot hA (c_seed1 hP hK lw rfl) (fun J j s => m_seed1 j hK lw rfl) (xUK_up hK (xOK_lo hK.1 (by decide) (show 2 ≤ N 0 ∧ N 0 ≤ 8 ∧ 2 ≤ N 1 ∧ N 1 ≤ 8 ∧ N 2 ≤ 5 ∧ N 3 < 2 ^ N 2 ∧ N 4 < 1000000 ∧ N 5 ≤ 3 ∧ 1 ≤ N 6 ∧ N 6 ≤ 5 ∧ N 7 ≤ 999 ∧ N 8 ≤ 999 ∧ N 9 ≤ 999999 ∧ w < 2 ^ 31 from by omega)) (by decide))
  · exact xA_plot hA (c_seed0 hP hK (by omega)) (fun J j s => m_seed0 j hK (by omega)) (hK)
theorem xT_ahead (x : Int32) (y : Int32) : xTw 72 149 [.int x, .int y] := fun b I L hE => by
  obtain ⟨N, u, U, Y, T, t, hA⟩ := hE
  have hP := hA.1.1
  have hK := hA.1.2.2
  have hb := hK.1.1
  have c64 : N 0 * N 1 ≤ 64 := xce_le hK.1
  by_cases hx : 0 ≤ x.toInt ∧ x.toInt < ((N 0 * N 1 : Nat) : Int) ∧ 0 ≤ y.toInt ∧ y.toInt ≤ 99
  · obtain ⟨c, rfl, ec, lc⟩ := xn_ex (x := x) (by omega)
    obtain ⟨n, rfl, en, ln⟩ := xn_ex (x := y) (by omega)
    exact xA_plot hA (c_ahead1 hP hK (by omega) (by omega) rfl rfl) (fun J j s => m_ahead1 j hK (by omega) (by omega) rfl rfl) (hK)
  · exact xA_plot hA (c_ahead0 hP hK hx) (fun J j s => m_ahead0 j hK hx) (hK)
theorem xT_wrongs (x : Int32) (y : Int32) : xTw 74 153 [.int x, .int y] := fun b I L hE => by
  obtain ⟨N, u, U, Y, T, t, hA⟩ := hE
  have hP := hA.1.1
  have hK := hA.1.2.2
  have hb := hK.1.1
  have c64 : N 0 * N 1 ≤ 64 := xce_le hK.1
  by_cases hx : 0 ≤ x.toInt ∧ x.toInt ≤ 99 ∧ 0 ≤ y.toInt ∧ y.toInt ≤ 1
  · obtain ⟨n, rfl, en, ln⟩ := xn_ex (x := x) (by omega)
    obtain ⟨f, rfl, ef, lf⟩ := xn_ex (x := y) (by omega)
    rcases (show f = 0 ∨ f = 1 by omega) with rfl | rfl
    · exact xA_plot hA (c_wrongs10 hP hK (by omega) rfl rfl) (fun J j s => m_wrongs10 j hK (by omega) rfl rfl) (hK)
    · exact xA_plot hA (c_wrongs11 hP hK (by omega) rfl rfl) (fun J j s => m_wrongs11 j hK (by omega) rfl rfl) (hK)
  · exact xA_plot hA (c_wrongs0 hP hK hx) (fun J j s => m_wrongs0 j hK hx) (hK)
theorem xT_enough : xTw 77 155 [] := fun b I L hE => by
  obtain ⟨N, u, U, Y, T, t, hA⟩ := hE
  have hP := hA.1.1
  have hK := hA.1.2.2
  have hb := hK.1.1
  have c64 : N 0 * N 1 ≤ 64 := xce_le hK.1
  rcases xleast (P := fun m => xdc (xgoN N (xfa N (N 3) (N 5)) m) = 0) 100 with ⟨n, h1, h2, h3⟩ | h
  · exact xA_plot hA (c_enough1 hP hK h1 h2 h3) (fun J j s => m_enough1 j hK h1 h2 h3) (hK)
  · exact xA_plot hA (c_enough0 hP hK h) (fun J j s => m_enough0 j hK h) (hK)
theorem xT_stand (x : Int32) (y : Int32) (z : Int32) : xTw 79 156 [.int x, .int y, .int z] := fun b I L hE => by
  obtain ⟨N, u, U, Y, T, t, hA⟩ := hE
  have hP := hA.1.1
  have hK := hA.1.2.2
  have hb := hK.1.1
  have c64 : N 0 * N 1 ≤ 64 := xce_le hK.1
  by_cases hx : 0 ≤ x.toInt ∧ x.toInt < (N 2 : Int) ∧ 0 ≤ y.toInt ∧ y.toInt ≤ 40 ∧ 0 ≤ z.toInt ∧ z.toInt ≤ 1
  · obtain ⟨s, rfl, es, ls⟩ := xn_ex (x := x) (by omega)
    obtain ⟨n, rfl, en, ln⟩ := xn_ex (x := y) (by omega)
    obtain ⟨q, rfl, eq, lq⟩ := xn_ex (x := z) (by omega)
    exact xA_plot hA (c_stand1 hP hK (by omega) (by omega) (by omega) rfl rfl rfl) (fun J j s => m_stand1 j hK (by omega) (by omega) (by omega) rfl rfl rfl) (hK)
  · exact xA_plot hA (c_stand0 hP hK hx) (fun J j s => m_stand0 j hK hx) (hK)
theorem xT_set (x : Int32) (y : Int32) : xTw 82 158 [.int x, .int y] := fun b I L hE => by
  obtain ⟨N, u, U, Y, T, t, hA⟩ := hE
  have hP := hA.1.1
  have hK := hA.1.2.2
  have hb := hK.1.1
  have c64 : N 0 * N 1 ≤ 64 := xce_le hK.1
  by_cases hx : 0 ≤ x.toInt ∧ x.toInt ≤ 40 ∧ 0 ≤ y.toInt ∧ y.toInt ≤ 1
  · obtain ⟨n, rfl, en, ln⟩ := xn_ex (x := x) (by omega)
    obtain ⟨q, rfl, eq, lq⟩ := xn_ex (x := y) (by omega)
    exact xA_plot hA (c_set1 hP hK (by omega) (by omega) rfl rfl) (fun J j s => m_set1 j hK (by omega) (by omega) rfl rfl) (hK)
  · exact xA_plot hA (c_set0 hP hK hx) (fun J j s => m_set0 j hK hx) (hK)
theorem xT_turns (x : Int32) (y : Int32) : xTw 84 159 [.int x, .int y] := fun b I L hE => by
  obtain ⟨N, u, U, Y, T, t, hA⟩ := hE
  have hP := hA.1.1
  have hK := hA.1.2.2
  have hb := hK.1.1
  have c64 : N 0 * N 1 ≤ 64 := xce_le hK.1
  by_cases hx : 1 ≤ x.toInt ∧ x.toInt ≤ 20 ∧ (y.toInt = -4 ∨ (0 ≤ y.toInt ∧ y.toInt < (N 2 : Int)))
  · obtain ⟨m, rfl, em, lm⟩ := xn_ex (x := x) (by omega)
    by_cases h4 : y.toInt = -4
    · have e4 : y = -4 := by rw [xt_eq, xkt_m4]; exact h4
      subst e4
      exact xA_plot hA (c_turns1 hP hK (by omega) rfl) (fun J j s => m_turns1 j hK (by omega) rfl) (hK)
    · obtain ⟨i, rfl, ei, li⟩ := xn_ex (x := y) (by omega)
      exact xA_plot hA (c_turns2 hP hK (by omega) (by omega) rfl rfl) (fun J j s => m_turns2 j hK (by omega) (by omega) rfl rfl) (hK)
  · exact xA_plot hA (c_turns0 hP hK hx) (fun J j s => m_turns0 j hK hx) (hK)
theorem xT_sheet (x : Int32) (y : Int32) (z : Int32) : xTw 100 168 [.int x, .int y, .int z] := fun b I L hE => by
  obtain ⟨N, u, U, Y, T, t, hA⟩ := hE
  have hP := hA.1.1
  have hK := hA.1.2.2
  have hb := hK.1.1
  have c64 : N 0 * N 1 ≤ 64 := xce_le hK.1
  obtain ⟨hS, -, hY⟩ := hA.2.1
  by_cases hx : 0 ≤ x.toInt ∧ x.toInt ≤ 3 ∧ 0 ≤ y.toInt ∧ y.toInt ≤ 3 ∧ z.toInt ≤ 24
  · by_cases hz : z.toInt < 0
    · exact xA_sheet hA (c_sheet1 hS hY (by omega)) (fun J M j s => m_sheet1 s hY (by omega)) (hY)
    · obtain ⟨s, rfl, es, ls⟩ := xn_ex (x := x) (by omega)
      obtain ⟨la, rfl, ela, lla⟩ := xn_ex (x := y) (by omega)
      obtain ⟨n, rfl, en, ln⟩ := xn_ex (x := z) (by omega)
      exact xA_sheet hA (c_sheet2 hS hY (by omega) (by omega) (by omega) rfl rfl rfl) (fun J M j s => m_sheet2 s hY (by omega) (by omega) (by omega) rfl rfl rfl) (xYK_u hY (by omega) (by omega))
  · exact xA_sheet hA (c_sheet0 hS hY hx) (fun J M j s => m_sheet0 s hY hx) (hY)
theorem xT_drop (x : Int32) : xTw 103 169 [.int x] := fun b I L hE => by
  obtain ⟨N, u, U, Y, T, t, hA⟩ := hE
  have hP := hA.1.1
  have hK := hA.1.2.2
  have hb := hK.1.1
  have c64 : N 0 * N 1 ≤ 64 := xce_le hK.1
  obtain ⟨hS, -, hY⟩ := hA.2.1
  by_cases hx : 0 ≤ x.toInt ∧ x.toInt ≤ 3
  · obtain ⟨s, rfl, es, ls⟩ := xn_ex (x := x) (by omega)
    have hs : s < 4 := by omega
    cases h0 : (Y s).1
    · exact xA_sheet hA (c_drop1 hS hY hs h0 rfl) (fun J M j s => m_drop1 s hY hs h0 rfl) (hY)
    · exact xA_sheet hA (c_drop2 hS hY hs h0 rfl) (fun J M j s => m_drop2 s hY hs h0 rfl) (xYK_u hY (hY s hs).1 (hY s hs).2)
  · exact xA_sheet hA (c_drop0 hS hY hx) (fun J M j s => m_drop0 s hY hx) (hY)
theorem xT_item (x : Int32) (y : Int32) (i : Int32) (v : Int64) : xTw 104 170 [.int x, .int y, .int i, .long v] := fun b I L hE => by
  obtain ⟨N, u, U, Y, T, t, hA⟩ := hE
  have hP := hA.1.1
  have hK := hA.1.2.2
  have hb := hK.1.1
  have c64 : N 0 * N 1 ≤ 64 := xce_le hK.1
  obtain ⟨hS, -, hY⟩ := hA.2.1
  by_cases hx : 0 ≤ x.toInt ∧ x.toInt ≤ 3 ∧ 0 ≤ y.toInt ∧ y.toInt ≤ 3
  · obtain ⟨s, rfl, es, ls⟩ := xn_ex (x := x) (by omega)
    obtain ⟨la, rfl, ela, lla⟩ := xn_ex (x := y) (by omega)
    have hs : s < 4 := by omega
    by_cases hw : xwy (Y s) la i 1 = 0
    · obtain ⟨j, rfl, ej, lj⟩ := xn_ex (xwy_0 hw).2.2.1
      exact xA_sheet hA (c_item2 hS hY hs (by omega) lj hw rfl rfl rfl) (fun J M j s => m_item2 s hY hs (by omega) lj hw rfl rfl rfl) (xYK_u hY (hY s hs).1 (hY s hs).2)
    · exact xA_sheet hA (c_item1 hS hY hs (by omega) hw rfl rfl) (fun J M j s => m_item1 s hY hs (by omega) hw rfl rfl) (hY)
  · exact xA_sheet hA (c_item0 hS hY hx) (fun J M j s => m_item0 s hY hx) (hY)
theorem xT_film (p : Int32) (q : Int32) (x : Int32) (y : Int32) (i : Int32) : xTw 97 166 [.int p, .int q, .int x, .int y, .int i] := fun b I L hE => by
  obtain ⟨N, u, U, Y, T, t, hA⟩ := hE
  have hP := hA.1.1
  have hK := hA.1.2.2
  have hb := hK.1.1
  have c64 : N 0 * N 1 ≤ 64 := xce_le hK.1
  obtain ⟨hS, -, hY⟩ := hA.2.1
  by_cases h0 : 0 ≤ p.toInt ∧ p.toInt < ((N 0 * N 1 : Nat) : Int) ∧ 1 ≤ q.toInt ∧ q.toInt ≤ 24 ∧ p.toInt + q.toInt ≤ ((N 0 * N 1 : Nat) : Int)
  · obtain ⟨c, rfl, ec, lc⟩ := xn_ex (x := p) (by omega)
    obtain ⟨n, rfl, en, ln⟩ := xn_ex (x := q) (by omega)
    have a1 : c < N 0 * N 1 := by omega
    have a2 : 1 ≤ n ∧ n ≤ 24 := by omega
    have a3 : c + n ≤ N 0 * N 1 := by omega
    by_cases hx : 0 ≤ x.toInt ∧ x.toInt ≤ 3 ∧ 0 ≤ y.toInt ∧ y.toInt ≤ 3
    · obtain ⟨s, rfl, es, ls⟩ := xn_ex (x := x) (by omega)
      obtain ⟨la, rfl, ela, lla⟩ := xn_ex (x := y) (by omega)
      have hs : s < 4 := by omega
      have hl : la < 4 := by omega
      by_cases hw : xwy (Y s) la i (nI n) = 0
      · obtain ⟨j, rfl, ej, lj⟩ := xn_ex (xwy_0 hw).2.2.1
        exact xA_sheet hA (c_film3 hP hK hS hY a1 a2 a3 hs hl lj hw rfl rfl rfl rfl rfl) (fun J M j s => m_film3 j hK s hY a1 a2 a3 hs hl lj hw rfl rfl rfl rfl rfl) (xYK_u hY (hY s hs).1 (hY s hs).2)
      · exact xA_sheet hA (c_film2 hP hK hS hY a1 a2 a3 hs hl hw rfl rfl rfl rfl) (fun J M j s => m_film2 j hK s hY a1 a2 a3 hs hl hw rfl rfl rfl rfl) (hY)
    · exact xA_sheet hA (c_film1 hP hK hS hY a1 a2 a3 hx rfl rfl) (fun J M j s => m_film1 j hK s hY a1 a2 a3 hx rfl rfl) (hY)
  · exact xA_sheet hA (c_film0 hP hK hS hY h0) (fun J M j s => m_film0 j hK s hY h0) (hY)
theorem xT_copy (x : Int32) (i : Int32) (y : Int32) (j : Int32) (n : Int32) : xTw 105 171 [.int x, .int i, .int y, .int j, .int n] := fun b I L hE => by
  obtain ⟨N, u, U, Y, T, t, hA⟩ := hE
  have hP := hA.1.1
  have hK := hA.1.2.2
  have hb := hK.1.1
  have c64 : N 0 * N 1 ≤ 64 := xce_le hK.1
  obtain ⟨hS, -, hY⟩ := hA.2.1
  by_cases hx : 0 ≤ x.toInt ∧ x.toInt ≤ 3 ∧ 0 ≤ y.toInt ∧ y.toInt ≤ 3
  · obtain ⟨s, rfl, es, ls⟩ := xn_ex (x := x) (by omega)
    obtain ⟨r, rfl, er, lr⟩ := xn_ex (x := y) (by omega)
    have hs : s < 4 := by omega
    have hr : r < 4 := by omega
    by_cases h0 : (Y s).1 = false ∨ (Y r).1 = false
    · exact xA_sheet hA (c_copy1 hS hY hs hr h0 rfl rfl) (fun J M j s => m_copy1 s hY hs hr h0 rfl rfl) (hY)
    · have h1 : (Y s).1 = true := by
        cases q : (Y s).1
        · exact absurd (Or.inl q) h0
        · rfl
      have h2 : (Y r).1 = true := by
        cases q : (Y r).1
        · exact absurd (Or.inr q) h0
        · rfl
      by_cases h3 : (Y s).2.1 = (Y r).2.1
      · by_cases h4 : 0 ≤ n.toInt ∧ 0 ≤ i.toInt ∧ i.toInt + n.toInt ≤ ((Y s).2.2.1 : Int) ∧ 0 ≤ j.toInt ∧ j.toInt + n.toInt ≤ ((Y r).2.2.1 : Int)
        · obtain ⟨m, rfl, em, lm⟩ := xn_ex (x := n) (by omega)
          obtain ⟨p, rfl, ep, lp⟩ := xn_ex (x := i) (by omega)
          obtain ⟨q, rfl, eq, lq⟩ := xn_ex (x := j) (by omega)
          exact xA_sheet hA (c_copy4 hS hY hs hr h1 h2 h3 (by omega) (by omega) rfl rfl rfl rfl rfl) (fun J M j s => m_copy4 s hY hs hr h1 h2 h3 (by omega) (by omega) rfl rfl rfl rfl rfl) (xYK_u hY (hY r hr).1 (hY r hr).2)
        · exact xA_sheet hA (c_copy3 hS hY hs hr h1 h2 h3 h4 rfl rfl) (fun J M j s => m_copy3 s hY hs hr h1 h2 h3 h4 rfl rfl) (hY)
      · exact xA_sheet hA (c_copy2 hS hY hs hr h1 h2 h3 rfl rfl) (fun J M j s => m_copy2 s hY hs hr h1 h2 h3 rfl rfl) (hY)
  · exact xA_sheet hA (c_copy0 hS hY hx) (fun J M j s => m_copy0 s hY hx) (hY)
theorem xT_tins (x : Int32) (y : Int32) (i : Int32) (z : Int32) (v : Int32) (w : Int32) : xTw 92 162 [.int x, .int y, .int i, .int z, .int v, .int w] := fun b I L hE => by
  obtain ⟨N, u, U, Y, T, t, hA⟩ := hE
  have hP := hA.1.1
  have hK := hA.1.2.2
  have hb := hK.1.1
  have c64 : N 0 * N 1 ≤ 64 := xce_le hK.1
  obtain ⟨hS, -, hY⟩ := hA.2.1
  by_cases h0 : 1 ≤ z.toInt ∧ z.toInt ≤ 8 ∧ 1 ≤ v.toInt ∧ v.toInt ≤ 20 ∧ 0 ≤ w.toInt ∧ w.toInt ≤ 1
  · obtain ⟨n, rfl, en, ln⟩ := xn_ex (x := z) (by omega)
    obtain ⟨m, rfl, em, lm⟩ := xn_ex (x := v) (by omega)
    obtain ⟨r, rfl, er, lr⟩ := xn_ex (x := w) (by omega)
    have a1 : 1 ≤ n ∧ n ≤ 8 := by omega
    have a2 : 1 ≤ m ∧ m ≤ 20 := by omega
    have a3 : r < 2 := by omega
    by_cases hx : 0 ≤ x.toInt ∧ x.toInt ≤ 3 ∧ 0 ≤ y.toInt ∧ y.toInt ≤ 3
    · obtain ⟨s, rfl, es, ls⟩ := xn_ex (x := x) (by omega)
      obtain ⟨la, rfl, ela, lla⟩ := xn_ex (x := y) (by omega)
      have hs : s < 4 := by omega
      have hl : la < 4 := by omega
      by_cases hw : xwy (Y s) la i (nI (2 * n)) = 0
      · obtain ⟨j, rfl, ej, lj⟩ := xn_ex (xwy_0 hw).2.2.1
        by_cases hok : ∀ k, k < n → xtok N (Y s).2.2.2 j k
        · exact xA_plot hA (c_tins4 hP hK hS hY a1 a2 a3 hs hl lj hw (xtn_of c64 hok) rfl rfl rfl rfl rfl rfl) (fun J j s => m_tins4 j hK s hY a1 a2 a3 hs hl lj hw (xtn_of c64 hok) rfl rfl rfl rfl rfl rfl) hK
        · exact xA_plot hA (c_tins3 hP hK hS hY a1 a2 a3 hs hl lj hw hok rfl rfl rfl rfl rfl rfl) (fun J j s => m_tins3 j hK s hY a1 a2 a3 hs hl lj hw hok rfl rfl rfl rfl rfl rfl) hK
      · exact xA_plot hA (c_tins2 hP hK hS hY a1 a2 a3 hs hl hw rfl rfl rfl rfl rfl) (fun J j s => m_tins2 j hK s hY a1 a2 a3 hs hl hw rfl rfl rfl rfl rfl) hK
    · exact xA_plot hA (c_tins1 hP hK a1 a2 a3 hx rfl rfl rfl) (fun J j s => m_tins0 j hK (fun q => hx ⟨q.1, q.2.1, q.2.2.1, q.2.2.2.1⟩)) hK
  · exact xA_plot hA (c_tins0 hP hK h0) (fun J j s => m_tins0 j hK (fun q => h0 q.2.2.2.2)) hK
