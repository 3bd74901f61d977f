/-! ===== objects are made ===== -/
theorem c_sprInit {d : Nat} {S : List (Nat × Nat)} {I : Nat → Nat → Int32} {L : Nat → Nat → Int64} {P : Nat → Nat → Option Nat} {a : Nat} : xm_Z (d + 1) 4 [.ref a] (S, I, L, P) (fun rz hz => rz = none ∧ hz = (S, I, L, P)) := by
  refine xw_S xb_4 (l := [.ref a]) (Nat.le_of_ble_eq_true rfl) rfl ?_
  refine xw_go xb_4 1 (f1 := (1, [.ref a], [.ref a])) (h1 := (S, I, L, P)) rfl trivial ?_
  refine xw_obj xb_4 rfl rfl rfl ?_
  refine xw_at (f' := (4, [.ref a], [])) (h' := (S, I, L, P)) rfl rfl ?_
  refine xw_ret xb_4 rfl rfl trivial ?_
  exact ⟨rfl, rfl⟩

def xjI_past74Init (I : Nat → Nat → Int32) : Nat → Nat → Int32 := va_up (va_up (va_up (va_up (va_up (va_up (va_up (va_up (va_up I 79 (fun _ => 0)) 80 (fun _ => 0)) 81 (fun _ => 0)) 82 (fun _ => 0)) 83 (fun _ => 0)) 84 (fun _ => 0)) 85 (fun _ => 0)) 86 (fun _ => 0)) 87 (fun _ => 0)
def xjL_past74Init (L : Nat → Nat → Int64) : Nat → Nat → Int64 := va_up (va_up (va_up (va_up (va_up (va_up (va_up (va_up (va_up L 79 (fun _ => 0)) 80 (fun _ => 0)) 81 (fun _ => 0)) 82 (fun _ => 0)) 83 (fun _ => 0)) 84 (fun _ => 0)) 85 (fun _ => 0)) 86 (fun _ => 0)) 87 (fun _ => 0)
def xjP_past74Init (P : Nat → Nat → Option Nat) : Nat → Nat → Option Nat := xm_up (va_up (va_up (va_up (va_up (va_up (va_up (va_up (va_up (va_up (va_up P 79 (fun _ => none)) 80 (fun _ => none)) 81 (fun _ => none)) 82 (fun _ => none)) 83 (fun _ => none)) 84 (fun _ => none)) 85 (fun _ => none)) 86 (fun _ => none)) 87 (fun _ => none)) 79 (fun i => if i < 8 then some (80 + i) else none)) 78 0 (some 79)
theorem c_past74Init {d : Nat} {I : Nat → Nat → Int32} {L : Nat → Nat → Int64} {P : Nat → Nat → Option Nat}  : xm_Z (d + 1) 3 [.ref 78] (xS false ++ [(8, 15), (0, 64), (0, 64), (2, 5), (7, 3)], I, L, P) (fun rz hz => rz = none ∧ hz = (xS false ++ [(8, 15), (0, 64), (0, 64), (2, 5), (7, 3), (4, 8), (0, 72), (0, 72), (0, 72), (0, 72), (0, 72), (0, 72), (0, 72), (0, 72)], xjI_past74Init I, xjL_past74Init L, xjP_past74Init P)) := by
  refine xw_S xb_3 (l := [.ref 78]) (Nat.le_of_ble_eq_true rfl) rfl ?_
  refine xw_go xb_3 1 rfl trivial ?_
  refine xw_at (f' := (1, [.ref 78], [.ref 78])) (h' := (xS false ++ [(8, 15), (0, 64), (0, 64), (2, 5), (7, 3)], I, L, P)) rfl rfl ?_
  refine xw_obj xb_3 rfl rfl rfl ?_
  refine xw_at (f' := (4, [.ref 78], [])) (h' := (xS false ++ [(8, 15), (0, 64), (0, 64), (2, 5), (7, 3)], I, L, P)) rfl rfl ?_
  refine xw_go xb_3 5 rfl ⟨(by decide), (by decide), (by decide), (by decide), rfl, rfl, trivial⟩ ?_
  refine xw_at (f' := (16, [.ref 78], [])) (h' := (xS false ++ [(8, 15), (0, 64), (0, 64), (2, 5), (7, 3), (4, 8), (0, 72), (0, 72), (0, 72), (0, 72), (0, 72), (0, 72), (0, 72), (0, 72)], va_up (va_up (va_up (va_up (va_up (va_up (va_up (va_up (va_up I 79 (fun _ => 0)) 80 (fun _ => 0)) 81 (fun _ => 0)) 82 (fun _ => 0)) 83 (fun _ => 0)) 84 (fun _ => 0)) 85 (fun _ => 0)) 86 (fun _ => 0)) 87 (fun _ => 0), va_up (va_up (va_up (va_up (va_up (va_up (va_up (va_up (va_up L 79 (fun _ => 0)) 80 (fun _ => 0)) 81 (fun _ => 0)) 82 (fun _ => 0)) 83 (fun _ => 0)) 84 (fun _ => 0)) 85 (fun _ => 0)) 86 (fun _ => 0)) 87 (fun _ => 0), xm_up (va_up (va_up (va_up (va_up (va_up (va_up (va_up (va_up (va_up (va_up P 79 (fun _ => none)) 80 (fun _ => none)) 81 (fun _ => none)) 82 (fun _ => none)) 83 (fun _ => none)) 84 (fun _ => none)) 85 (fun _ => none)) 86 (fun _ => none)) 87 (fun _ => none)) 79 (fun i => if i < 8 then some (80 + i) else none)) 78 0 (some 79))) rfl rfl ?_
  refine xw_ret xb_3 rfl rfl trivial ?_
  exact ⟨rfl, rfl⟩

def xjI_plot74 (I : Nat → Nat → Int32) : Nat → Nat → Int32 := va_up (va_up (va_up (va_up (va_up (xjI_past74Init (va_up (xm_up (xm_up (xm_up (xm_up (va_up (va_up (va_up (xm_up (xm_up I 74 0 4) 74 1 5) 75 (fun _ => 0)) 76 (fun _ => 0)) 77 (fun _ => 0)) 74 8 2) 74 9 10) 74 10 20) 74 13 1) 78 (fun _ => 0))) 88 (fun _ => 0)) 89 (fun _ => 0)) 90 (fun _ => 0)) 91 (fun _ => 0)) 92 (fun _ => 0)
def xjL_plot74 (L : Nat → Nat → Int64) : Nat → Nat → Int64 := va_up (va_up (va_up (va_up (va_up (xjL_past74Init (va_up (va_up (va_up (va_up L 75 (fun _ => 0)) 76 (fun _ => 0)) 77 (fun _ => 0)) 78 (fun _ => 0))) 88 (fun _ => 0)) 89 (fun _ => 0)) 90 (fun _ => 0)) 91 (fun _ => 0)) 92 (fun _ => 0)
def xjP_plot74 (P : Nat → Nat → Option Nat) : Nat → Nat → Option Nat := xm_up (va_up (xm_up (va_up (xm_up (va_up (xm_up (va_up (xm_up (va_up (xm_up (xjP_past74Init (va_up (xm_up (va_up (xm_up (va_up (xm_up (va_up P 75 (fun _ => none)) 74 2 (some 75)) 76 (fun _ => none)) 74 3 (some 76)) 77 (fun _ => none)) 74 4 (some 77)) 78 (fun _ => none))) 74 14 (some 78)) 88 (fun _ => none)) 77 0 (some 88)) 89 (fun _ => none)) 77 1 (some 89)) 90 (fun _ => none)) 77 2 (some 90)) 91 (fun _ => none)) 77 3 (some 91)) 92 (fun _ => none)) 77 4 (some 92)
theorem c_plot74 {d : Nat} {I : Nat → Nat → Int32} {L : Nat → Nat → Int64} {P : Nat → Nat → Option Nat}  : xm_Z (d + 2) 2 [.ref 74] (xS false ++ [(8, 15)], I, L, P) (fun rz hz => rz = none ∧ hz = (xS false ++ [(8, 15), (0, 64), (0, 64), (2, 5), (7, 3), (4, 8), (0, 72), (0, 72), (0, 72), (0, 72), (0, 72), (0, 72), (0, 72), (0, 72), (11, 4), (11, 4), (11, 4), (11, 4), (11, 4)], xjI_plot74 I, xjL_plot74 L, xjP_plot74 P)) := by
  refine xw_S xb_2 (l := [.ref 74, .float 0]) (Nat.le_of_ble_eq_true rfl) rfl ?_
  refine xw_go xb_2 1 rfl trivial ?_
  refine xw_at (f' := (1, [.ref 74, .float 0], [.ref 74])) (h' := (xS false ++ [(8, 15)], I, L, P)) rfl rfl ?_
  refine xw_obj xb_2 rfl rfl rfl ?_
  refine xw_at (f' := (4, [.ref 74, .float 0], [])) (h' := (xS false ++ [(8, 15)], I, L, P)) rfl rfl ?_
  refine xw_go xb_2 3 rfl ⟨rfl, trivial⟩ ?_
  refine xw_at (f' := (9, [.ref 74, .float 0], [])) (h' := (xS false ++ [(8, 15)], xm_up I 74 0 4, L, P)) rfl rfl ?_
  refine xw_go xb_2 3 rfl ⟨rfl, trivial⟩ ?_
  refine xw_at (f' := (14, [.ref 74, .float 0], [])) (h' := (xS false ++ [(8, 15)], xm_up (xm_up I 74 0 4) 74 1 5, L, P)) rfl rfl ?_
  refine xw_go xb_2 4 rfl ⟨(by decide), (by decide), rfl, rfl, trivial⟩ ?_
  refine xw_at (f' := (22, [.ref 74, .float 0], [])) (h' := (xS false ++ [(8, 15), (0, 64)], va_up (xm_up (xm_up I 74 0 4) 74 1 5) 75 (fun _ => 0), va_up L 75 (fun _ => 0), xm_up (va_up P 75 (fun _ => none)) 74 2 (some 75))) rfl rfl ?_
  refine xw_go xb_2 4 rfl ⟨(by decide), (by decide), rfl, rfl, trivial⟩ ?_
  refine xw_at (f' := (30, [.ref 74, .float 0], [])) (h' := (xS false ++ [(8, 15), (0, 64), (0, 64)], va_up (va_up (xm_up (xm_up I 74 0 4) 74 1 5) 75 (fun _ => 0)) 76 (fun _ => 0), va_up (va_up L 75 (fun _ => 0)) 76 (fun _ => 0), xm_up (va_up (xm_up (va_up P 75 (fun _ => none)) 74 2 (some 75)) 76 (fun _ => none)) 74 3 (some 76))) rfl rfl ?_
  refine xw_go xb_2 4 rfl ⟨(by decide), (by decide), rfl, rfl, trivial⟩ ?_
  refine xw_at (f' := (38, [.ref 74, .float 0], [])) (h' := (xS false ++ [(8, 15), (0, 64), (0, 64), (2, 5)], va_up (va_up (va_up (xm_up (xm_up I 74 0 4) 74 1 5) 75 (fun _ => 0)) 76 (fun _ => 0)) 77 (fun _ => 0), va_up (va_up (va_up L 75 (fun _ => 0)) 76 (fun _ => 0)) 77 (fun _ => 0), xm_up (va_up (xm_up (va_up (xm_up (va_up P 75 (fun _ => none)) 74 2 (some 75)) 76 (fun _ => none)) 74 3 (some 76)) 77 (fun _ => none)) 74 4 (some 77))) rfl rfl ?_
  refine xw_go xb_2 3 rfl ⟨rfl, trivial⟩ ?_
  refine xw_at (f' := (43, [.ref 74, .float 0], [])) (h' := (xS false ++ [(8, 15), (0, 64), (0, 64), (2, 5)], xm_up (va_up (va_up (va_up (xm_up (xm_up I 74 0 4) 74 1 5) 75 (fun _ => 0)) 76 (fun _ => 0)) 77 (fun _ => 0)) 74 8 2, va_up (va_up (va_up L 75 (fun _ => 0)) 76 (fun _ => 0)) 77 (fun _ => 0), xm_up (va_up (xm_up (va_up (xm_up (va_up P 75 (fun _ => none)) 74 2 (some 75)) 76 (fun _ => none)) 74 3 (some 76)) 77 (fun _ => none)) 74 4 (some 77))) rfl rfl ?_
  refine xw_go xb_2 3 rfl ⟨rfl, trivial⟩ ?_
  refine xw_at (f' := (49, [.ref 74, .float 0], [])) (h' := (xS false ++ [(8, 15), (0, 64), (0, 64), (2, 5)], xm_up (xm_up (va_up (va_up (va_up (xm_up (xm_up I 74 0 4) 74 1 5) 75 (fun _ => 0)) 76 (fun _ => 0)) 77 (fun _ => 0)) 74 8 2) 74 9 10, va_up (va_up (va_up L 75 (fun _ => 0)) 76 (fun _ => 0)) 77 (fun _ => 0), xm_up (va_up (xm_up (va_up (xm_up (va_up P 75 (fun _ => none)) 74 2 (some 75)) 76 (fun _ => none)) 74 3 (some 76)) 77 (fun _ => none)) 74 4 (some 77))) rfl rfl ?_
  refine xw_go xb_2 3 rfl ⟨rfl, trivial⟩ ?_
  refine xw_at (f' := (55, [.ref 74, .float 0], [])) (h' := (xS false ++ [(8, 15), (0, 64), (0, 64), (2, 5)], xm_up (xm_up (xm_up (va_up (va_up (va_up (xm_up (xm_up I 74 0 4) 74 1 5) 75 (fun _ => 0)) 76 (fun _ => 0)) 77 (fun _ => 0)) 74 8 2) 74 9 10) 74 10 20, va_up (va_up (va_up L 75 (fun _ => 0)) 76 (fun _ => 0)) 77 (fun _ => 0), xm_up (va_up (xm_up (va_up (xm_up (va_up P 75 (fun _ => none)) 74 2 (some 75)) 76 (fun _ => none)) 74 3 (some 76)) 77 (fun _ => none)) 74 4 (some 77))) rfl rfl ?_
  refine xw_go xb_2 3 rfl ⟨rfl, trivial⟩ ?_
  refine xw_at (f' := (60, [.ref 74, .float 0], [])) (h' := (xS false ++ [(8, 15), (0, 64), (0, 64), (2, 5)], xm_up (xm_up (xm_up (xm_up (va_up (va_up (va_up (xm_up (xm_up I 74 0 4) 74 1 5) 75 (fun _ => 0)) 76 (fun _ => 0)) 77 (fun _ => 0)) 74 8 2) 74 9 10) 74 10 20) 74 13 1, va_up (va_up (va_up L 75 (fun _ => 0)) 76 (fun _ => 0)) 77 (fun _ => 0), xm_up (va_up (xm_up (va_up (xm_up (va_up P 75 (fun _ => none)) 74 2 (some 75)) 76 (fun _ => none)) 74 3 (some 76)) 77 (fun _ => none)) 74 4 (some 77))) rfl rfl ?_
  refine xw_go xb_2 3 rfl trivial ?_
  refine xw_at (f' := (65, [.ref 74, .float 0], [.ref 78, .ref 78, .ref 74])) (h' := (xS false ++ [(8, 15), (0, 64), (0, 64), (2, 5), (7, 3)], va_up (xm_up (xm_up (xm_up (xm_up (va_up (va_up (va_up (xm_up (xm_up I 74 0 4) 74 1 5) 75 (fun _ => 0)) 76 (fun _ => 0)) 77 (fun _ => 0)) 74 8 2) 74 9 10) 74 10 20) 74 13 1) 78 (fun _ => 0), va_up (va_up (va_up (va_up L 75 (fun _ => 0)) 76 (fun _ => 0)) 77 (fun _ => 0)) 78 (fun _ => 0), va_up (xm_up (va_up (xm_up (va_up (xm_up (va_up P 75 (fun _ => none)) 74 2 (some 75)) 76 (fun _ => none)) 74 3 (some 76)) 77 (fun _ => none)) 74 4 (some 77)) 78 (fun _ => none))) rfl rfl ?_
  refine xw_call xb_2 rfl rfl rfl rfl rfl (Or.inr ⟨_, _, rfl, rfl⟩) (c_past74Init (I := (va_up (xm_up (xm_up (xm_up (xm_up (va_up (va_up (va_up (xm_up (xm_up I 74 0 4) 74 1 5) 75 (fun _ => 0)) 76 (fun _ => 0)) 77 (fun _ => 0)) 74 8 2) 74 9 10) 74 10 20) 74 13 1) 78 (fun _ => 0))) (L := (va_up (va_up (va_up (va_up L 75 (fun _ => 0)) 76 (fun _ => 0)) 77 (fun _ => 0)) 78 (fun _ => 0))) (P := (va_up (xm_up (va_up (xm_up (va_up (xm_up (va_up P 75 (fun _ => none)) 74 2 (some 75)) 76 (fun _ => none)) 74 3 (some 76)) 77 (fun _ => none)) 74 4 (some 77)) 78 (fun _ => none)))) ?_
  rintro _ _ ⟨rfl, rfl⟩
  refine xw_at (f' := (68, [.ref 74, .float 0], [.ref 78, .ref 74])) (h' := (xS false ++ [(8, 15), (0, 64), (0, 64), (2, 5), (7, 3), (4, 8), (0, 72), (0, 72), (0, 72), (0, 72), (0, 72), (0, 72), (0, 72), (0, 72)], xjI_past74Init (va_up (xm_up (xm_up (xm_up (xm_up (va_up (va_up (va_up (xm_up (xm_up I 74 0 4) 74 1 5) 75 (fun _ => 0)) 76 (fun _ => 0)) 77 (fun _ => 0)) 74 8 2) 74 9 10) 74 10 20) 74 13 1) 78 (fun _ => 0)), xjL_past74Init (va_up (va_up (va_up (va_up L 75 (fun _ => 0)) 76 (fun _ => 0)) 77 (fun _ => 0)) 78 (fun _ => 0)), xjP_past74Init (va_up (xm_up (va_up (xm_up (va_up (xm_up (va_up P 75 (fun _ => none)) 74 2 (some 75)) 76 (fun _ => none)) 74 3 (some 76)) 77 (fun _ => none)) 74 4 (some 77)) 78 (fun _ => none)))) rfl rfl ?_
  refine xw_go xb_2 1 rfl ⟨rfl, rfl, trivial⟩ ?_
  refine xw_at (f' := (71, [.ref 74, .float 0], [])) (h' := (xS false ++ [(8, 15), (0, 64), (0, 64), (2, 5), (7, 3), (4, 8), (0, 72), (0, 72), (0, 72), (0, 72), (0, 72), (0, 72), (0, 72), (0, 72)], xjI_past74Init (va_up (xm_up (xm_up (xm_up (xm_up (va_up (va_up (va_up (xm_up (xm_up I 74 0 4) 74 1 5) 75 (fun _ => 0)) 76 (fun _ => 0)) 77 (fun _ => 0)) 74 8 2) 74 9 10) 74 10 20) 74 13 1) 78 (fun _ => 0)), xjL_past74Init (va_up (va_up (va_up (va_up L 75 (fun _ => 0)) 76 (fun _ => 0)) 77 (fun _ => 0)) 78 (fun _ => 0)), xm_up (xjP_past74Init (va_up (xm_up (va_up (xm_up (va_up (xm_up (va_up P 75 (fun _ => none)) 74 2 (some 75)) 76 (fun _ => none)) 74 3 (some 76)) 77 (fun _ => none)) 74 4 (some 77)) 78 (fun _ => none))) 74 14 (some 78))) rfl rfl ?_
  refine xw_go xb_2 10 rfl ⟨rfl, trivial⟩ ?_
  refine xw_at (f' := (87, [.ref 74, .int 0], [.ref 88, .ref 88, .int 0, .ref 77])) (h' := (xS false ++ [(8, 15), (0, 64), (0, 64), (2, 5), (7, 3), (4, 8), (0, 72), (0, 72), (0, 72), (0, 72), (0, 72), (0, 72), (0, 72), (0, 72), (11, 4)], va_up (xjI_past74Init (va_up (xm_up (xm_up (xm_up (xm_up (va_up (va_up (va_up (xm_up (xm_up I 74 0 4) 74 1 5) 75 (fun _ => 0)) 76 (fun _ => 0)) 77 (fun _ => 0)) 74 8 2) 74 9 10) 74 10 20) 74 13 1) 78 (fun _ => 0))) 88 (fun _ => 0), va_up (xjL_past74Init (va_up (va_up (va_up (va_up L 75 (fun _ => 0)) 76 (fun _ => 0)) 77 (fun _ => 0)) 78 (fun _ => 0))) 88 (fun _ => 0), va_up (xm_up (xjP_past74Init (va_up (xm_up (va_up (xm_up (va_up (xm_up (va_up P 75 (fun _ => none)) 74 2 (some 75)) 76 (fun _ => none)) 74 3 (some 76)) 77 (fun _ => none)) 74 4 (some 77)) 78 (fun _ => none))) 74 14 (some 78)) 88 (fun _ => none))) rfl rfl ?_
  refine xw_call xb_2 rfl rfl rfl rfl rfl (Or.inr ⟨_, _, rfl, rfl⟩) c_sprInit ?_
  rintro _ _ ⟨rfl, rfl⟩
  refine xw_at (f' := (90, [.ref 74, .int 0], [.ref 88, .int 0, .ref 77])) (h' := (xS false ++ [(8, 15), (0, 64), (0, 64), (2, 5), (7, 3), (4, 8), (0, 72), (0, 72), (0, 72), (0, 72), (0, 72), (0, 72), (0, 72), (0, 72), (11, 4)], va_up (xjI_past74Init (va_up (xm_up (xm_up (xm_up (xm_up (va_up (va_up (va_up (xm_up (xm_up I 74 0 4) 74 1 5) 75 (fun _ => 0)) 76 (fun _ => 0)) 77 (fun _ => 0)) 74 8 2) 74 9 10) 74 10 20) 74 13 1) 78 (fun _ => 0))) 88 (fun _ => 0), va_up (xjL_past74Init (va_up (va_up (va_up (va_up L 75 (fun _ => 0)) 76 (fun _ => 0)) 77 (fun _ => 0)) 78 (fun _ => 0))) 88 (fun _ => 0), va_up (xm_up (xjP_past74Init (va_up (xm_up (va_up (xm_up (va_up (xm_up (va_up P 75 (fun _ => none)) 74 2 (some 75)) 76 (fun _ => none)) 74 3 (some 76)) 77 (fun _ => none)) 74 4 (some 77)) 78 (fun _ => none))) 74 14 (some 78)) 88 (fun _ => none))) rfl rfl ?_
  refine xw_go xb_2 11 rfl ⟨(xn_ar (n := 0) (N := 5) rfl (by decide) (by decide)), (Or.inl ⟨rfl, rfl⟩), rfl, trivial⟩ ?_
  refine xw_at (f' := (87, [.ref 74, .int 1], [.ref 89, .ref 89, .int 1, .ref 77])) (h' := (xS false ++ [(8, 15), (0, 64), (0, 64), (2, 5), (7, 3), (4, 8), (0, 72), (0, 72), (0, 72), (0, 72), (0, 72), (0, 72), (0, 72), (0, 72), (11, 4), (11, 4)], va_up (va_up (xjI_past74Init (va_up (xm_up (xm_up (xm_up (xm_up (va_up (va_up (va_up (xm_up (xm_up I 74 0 4) 74 1 5) 75 (fun _ => 0)) 76 (fun _ => 0)) 77 (fun _ => 0)) 74 8 2) 74 9 10) 74 10 20) 74 13 1) 78 (fun _ => 0))) 88 (fun _ => 0)) 89 (fun _ => 0), va_up (va_up (xjL_past74Init (va_up (va_up (va_up (va_up L 75 (fun _ => 0)) 76 (fun _ => 0)) 77 (fun _ => 0)) 78 (fun _ => 0))) 88 (fun _ => 0)) 89 (fun _ => 0), va_up (xm_up (va_up (xm_up (xjP_past74Init (va_up (xm_up (va_up (xm_up (va_up (xm_up (va_up P 75 (fun _ => none)) 74 2 (some 75)) 76 (fun _ => none)) 74 3 (some 76)) 77 (fun _ => none)) 74 4 (some 77)) 78 (fun _ => none))) 74 14 (some 78)) 88 (fun _ => none)) 77 0 (some 88)) 89 (fun _ => none))) rfl rfl ?_
  refine xw_call xb_2 rfl rfl rfl rfl rfl (Or.inr ⟨_, _, rfl, rfl⟩) c_sprInit ?_
  rintro _ _ ⟨rfl, rfl⟩
  refine xw_at (f' := (90, [.ref 74, .int 1], [.ref 89, .int 1, .ref 77])) (h' := (xS false ++ [(8, 15), (0, 64), (0, 64), (2, 5), (7, 3), (4, 8), (0, 72), (0, 72), (0, 72), (0, 72), (0, 72), (0, 72), (0, 72), (0, 72), (11, 4), (11, 4)], va_up (va_up (xjI_past74Init (va_up (xm_up (xm_up (xm_up (xm_up (va_up (va_up (va_up (xm_up (xm_up I 74 0 4) 74 1 5) 75 (fun _ => 0)) 76 (fun _ => 0)) 77 (fun _ => 0)) 74 8 2) 74 9 10) 74 10 20) 74 13 1) 78 (fun _ => 0))) 88 (fun _ => 0)) 89 (fun _ => 0), va_up (va_up (xjL_past74Init (va_up (va_up (va_up (va_up L 75 (fun _ => 0)) 76 (fun _ => 0)) 77 (fun _ => 0)) 78 (fun _ => 0))) 88 (fun _ => 0)) 89 (fun _ => 0), va_up (xm_up (va_up (xm_up (xjP_past74Init (va_up (xm_up (va_up (xm_up (va_up (xm_up (va_up P 75 (fun _ => none)) 74 2 (some 75)) 76 (fun _ => none)) 74 3 (some 76)) 77 (fun _ => none)) 74 4 (some 77)) 78 (fun _ => none))) 74 14 (some 78)) 88 (fun _ => none)) 77 0 (some 88)) 89 (fun _ => none))) rfl rfl ?_
  refine xw_go xb_2 11 rfl ⟨(xn_ar (n := 1) (N := 5) rfl (by decide) (by decide)), (Or.inl ⟨rfl, rfl⟩), rfl, trivial⟩ ?_
  refine xw_at (f' := (87, [.ref 74, .int 2], [.ref 90, .ref 90, .int 2, .ref 77])) (h' := (xS false ++ [(8, 15), (0, 64), (0, 64), (2, 5), (7, 3), (4, 8), (0, 72), (0, 72), (0, 72), (0, 72), (0, 72), (0, 72), (0, 72), (0, 72), (11, 4), (11, 4), (11, 4)], va_up (va_up (va_up (xjI_past74Init (va_up (xm_up (xm_up (xm_up (xm_up (va_up (va_up (va_up (xm_up (xm_up I 74 0 4) 74 1 5) 75 (fun _ => 0)) 76 (fun _ => 0)) 77 (fun _ => 0)) 74 8 2) 74 9 10) 74 10 20) 74 13 1) 78 (fun _ => 0))) 88 (fun _ => 0)) 89 (fun _ => 0)) 90 (fun _ => 0), va_up (va_up (va_up (xjL_past74Init (va_up (va_up (va_up (va_up L 75 (fun _ => 0)) 76 (fun _ => 0)) 77 (fun _ => 0)) 78 (fun _ => 0))) 88 (fun _ => 0)) 89 (fun _ => 0)) 90 (fun _ => 0), va_up (xm_up (va_up (xm_up (va_up (xm_up (xjP_past74Init (va_up (xm_up (va_up (xm_up (va_up (xm_up (va_up P 75 (fun _ => none)) 74 2 (some 75)) 76 (fun _ => none)) 74 3 (some 76)) 77 (fun _ => none)) 74 4 (some 77)) 78 (fun _ => none))) 74 14 (some 78)) 88 (fun _ => none)) 77 0 (some 88)) 89 (fun _ => none)) 77 1 (some 89)) 90 (fun _ => none))) rfl rfl ?_
  refine xw_call xb_2 rfl rfl rfl rfl rfl (Or.inr ⟨_, _, rfl, rfl⟩) c_sprInit ?_
  rintro _ _ ⟨rfl, rfl⟩
  refine xw_at (f' := (90, [.ref 74, .int 2], [.ref 90, .int 2, .ref 77])) (h' := (xS false ++ [(8, 15), (0, 64), (0, 64), (2, 5), (7, 3), (4, 8), (0, 72), (0, 72), (0, 72), (0, 72), (0, 72), (0, 72), (0, 72), (0, 72), (11, 4), (11, 4), (11, 4)], va_up (va_up (va_up (xjI_past74Init (va_up (xm_up (xm_up (xm_up (xm_up (va_up (va_up (va_up (xm_up (xm_up I 74 0 4) 74 1 5) 75 (fun _ => 0)) 76 (fun _ => 0)) 77 (fun _ => 0)) 74 8 2) 74 9 10) 74 10 20) 74 13 1) 78 (fun _ => 0))) 88 (fun _ => 0)) 89 (fun _ => 0)) 90 (fun _ => 0), va_up (va_up (va_up (xjL_past74Init (va_up (va_up (va_up (va_up L 75 (fun _ => 0)) 76 (fun _ => 0)) 77 (fun _ => 0)) 78 (fun _ => 0))) 88 (fun _ => 0)) 89 (fun _ => 0)) 90 (fun _ => 0), va_up (xm_up (va_up (xm_up (va_up (xm_up (xjP_past74Init (va_up (xm_up (va_up (xm_up (va_up (xm_up (va_up P 75 (fun _ => none)) 74 2 (some 75)) 76 (fun _ => none)) 74 3 (some 76)) 77 (fun _ => none)) 74 4 (some 77)) 78 (fun _ => none))) 74 14 (some 78)) 88 (fun _ => none)) 77 0 (some 88)) 89 (fun _ => none)) 77 1 (some 89)) 90 (fun _ => none))) rfl rfl ?_
  refine xw_go xb_2 11 rfl ⟨(xn_ar (n := 2) (N := 5) rfl (by decide) (by decide)), (Or.inl ⟨rfl, rfl⟩), rfl, trivial⟩ ?_
  refine xw_at (f' := (87, [.ref 74, .int 3], [.ref 91, .ref 91, .int 3, .ref 77])) (h' := (xS false ++ [(8, 15), (0, 64), (0, 64), (2, 5), (7, 3), (4, 8), (0, 72), (0, 72), (0, 72), (0, 72), (0, 72), (0, 72), (0, 72), (0, 72), (11, 4), (11, 4), (11, 4), (11, 4)], va_up (va_up (va_up (va_up (xjI_past74Init (va_up (xm_up (xm_up (xm_up (xm_up (va_up (va_up (va_up (xm_up (xm_up I 74 0 4) 74 1 5) 75 (fun _ => 0)) 76 (fun _ => 0)) 77 (fun _ => 0)) 74 8 2) 74 9 10) 74 10 20) 74 13 1) 78 (fun _ => 0))) 88 (fun _ => 0)) 89 (fun _ => 0)) 90 (fun _ => 0)) 91 (fun _ => 0), va_up (va_up (va_up (va_up (xjL_past74Init (va_up (va_up (va_up (va_up L 75 (fun _ => 0)) 76 (fun _ => 0)) 77 (fun _ => 0)) 78 (fun _ => 0))) 88 (fun _ => 0)) 89 (fun _ => 0)) 90 (fun _ => 0)) 91 (fun _ => 0), va_up (xm_up (va_up (xm_up (va_up (xm_up (va_up (xm_up (xjP_past74Init (va_up (xm_up (va_up (xm_up (va_up (xm_up (va_up P 75 (fun _ => none)) 74 2 (some 75)) 76 (fun _ => none)) 74 3 (some 76)) 77 (fun _ => none)) 74 4 (some 77)) 78 (fun _ => none))) 74 14 (some 78)) 88 (fun _ => none)) 77 0 (some 88)) 89 (fun _ => none)) 77 1 (some 89)) 90 (fun _ => none)) 77 2 (some 90)) 91 (fun _ => none))) rfl rfl ?_
  refine xw_call xb_2 rfl rfl rfl rfl rfl (Or.inr ⟨_, _, rfl, rfl⟩) c_sprInit ?_
  rintro _ _ ⟨rfl, rfl⟩
  refine xw_at (f' := (90, [.ref 74, .int 3], [.ref 91, .int 3, .ref 77])) (h' := (xS false ++ [(8, 15), (0, 64), (0, 64), (2, 5), (7, 3), (4, 8), (0, 72), (0, 72), (0, 72), (0, 72), (0, 72), (0, 72), (0, 72), (0, 72), (11, 4), (11, 4), (11, 4), (11, 4)], va_up (va_up (va_up (va_up (xjI_past74Init (va_up (xm_up (xm_up (xm_up (xm_up (va_up (va_up (va_up (xm_up (xm_up I 74 0 4) 74 1 5) 75 (fun _ => 0)) 76 (fun _ => 0)) 77 (fun _ => 0)) 74 8 2) 74 9 10) 74 10 20) 74 13 1) 78 (fun _ => 0))) 88 (fun _ => 0)) 89 (fun _ => 0)) 90 (fun _ => 0)) 91 (fun _ => 0), va_up (va_up (va_up (va_up (xjL_past74Init (va_up (va_up (va_up (va_up L 75 (fun _ => 0)) 76 (fun _ => 0)) 77 (fun _ => 0)) 78 (fun _ => 0))) 88 (fun _ => 0)) 89 (fun _ => 0)) 90 (fun _ => 0)) 91 (fun _ => 0), va_up (xm_up (va_up (xm_up (va_up (xm_up (va_up (xm_up (xjP_past74Init (va_up (xm_up (va_up (xm_up (va_up (xm_up (va_up P 75 (fun _ => none)) 74 2 (some 75)) 76 (fun _ => none)) 74 3 (some 76)) 77 (fun _ => none)) 74 4 (some 77)) 78 (fun _ => none))) 74 14 (some 78)) 88 (fun _ => none)) 77 0 (some 88)) 89 (fun _ => none)) 77 1 (some 89)) 90 (fun _ => none)) 77 2 (some 90)) 91 (fun _ => none))) rfl rfl ?_
  refine xw_go xb_2 11 rfl ⟨(xn_ar (n := 3) (N := 5) rfl (by decide) (by decide)), (Or.inl ⟨rfl, rfl⟩), rfl, trivial⟩ ?_
  refine xw_at (f' := (87, [.ref 74, .int 4], [.ref 92, .ref 92, .int 4, .ref 77])) (h' := (xS false ++ [(8, 15), (0, 64), (0, 64), (2, 5), (7, 3), (4, 8), (0, 72), (0, 72), (0, 72), (0, 72), (0, 72), (0, 72), (0, 72), (0, 72), (11, 4), (11, 4), (11, 4), (11, 4), (11, 4)], va_up (va_up (va_up (va_up (va_up (xjI_past74Init (va_up (xm_up (xm_up (xm_up (xm_up (va_up (va_up (va_up (xm_up (xm_up I 74 0 4) 74 1 5) 75 (fun _ => 0)) 76 (fun _ => 0)) 77 (fun _ => 0)) 74 8 2) 74 9 10) 74 10 20) 74 13 1) 78 (fun _ => 0))) 88 (fun _ => 0)) 89 (fun _ => 0)) 90 (fun _ => 0)) 91 (fun _ => 0)) 92 (fun _ => 0), va_up (va_up (va_up (va_up (va_up (xjL_past74Init (va_up (va_up (va_up (va_up L 75 (fun _ => 0)) 76 (fun _ => 0)) 77 (fun _ => 0)) 78 (fun _ => 0))) 88 (fun _ => 0)) 89 (fun _ => 0)) 90 (fun _ => 0)) 91 (fun _ => 0)) 92 (fun _ => 0), va_up (xm_up (va_up (xm_up (va_up (xm_up (va_up (xm_up (va_up (xm_up (xjP_past74Init (va_up (xm_up (va_up (xm_up (va_up (xm_up (va_up P 75 (fun _ => none)) 74 2 (some 75)) 76 (fun _ => none)) 74 3 (some 76)) 77 (fun _ => none)) 74 4 (some 77)) 78 (fun _ => none))) 74 14 (some 78)) 88 (fun _ => none)) 77 0 (some 88)) 89 (fun _ => none)) 77 1 (some 89)) 90 (fun _ => none)) 77 2 (some 90)) 91 (fun _ => none)) 77 3 (some 91)) 92 (fun _ => none))) rfl rfl ?_
  refine xw_call xb_2 rfl rfl rfl rfl rfl (Or.inr ⟨_, _, rfl, rfl⟩) c_sprInit ?_
  rintro _ _ ⟨rfl, rfl⟩
  refine xw_at (f' := (90, [.ref 74, .int 4], [.ref 92, .int 4, .ref 77])) (h' := (xS false ++ [(8, 15), (0, 64), (0, 64), (2, 5), (7, 3), (4, 8), (0, 72), (0, 72), (0, 72), (0, 72), (0, 72), (0, 72), (0, 72), (0, 72), (11, 4), (11, 4), (11, 4), (11, 4), (11, 4)], va_up (va_up (va_up (va_up (va_up (xjI_past74Init (va_up (xm_up (xm_up (xm_up (xm_up (va_up (va_up (va_up (xm_up (xm_up I 74 0 4) 74 1 5) 75 (fun _ => 0)) 76 (fun _ => 0)) 77 (fun _ => 0)) 74 8 2) 74 9 10) 74 10 20) 74 13 1) 78 (fun _ => 0))) 88 (fun _ => 0)) 89 (fun _ => 0)) 90 (fun _ => 0)) 91 (fun _ => 0)) 92 (fun _ => 0), va_up (va_up (va_up (va_up (va_up (xjL_past74Init (va_up (va_up (va_up (va_up L 75 (fun _ => 0)) 76 (fun _ => 0)) 77 (fun _ => 0)) 78 (fun _ => 0))) 88 (fun _ => 0)) 89 (fun _ => 0)) 90 (fun _ => 0)) 91 (fun _ => 0)) 92 (fun _ => 0), va_up (xm_up (va_up (xm_up (va_up (xm_up (va_up (xm_up (va_up (xm_up (xjP_past74Init (va_up (xm_up (va_up (xm_up (va_up (xm_up (va_up P 75 (fun _ => none)) 74 2 (some 75)) 76 (fun _ => none)) 74 3 (some 76)) 77 (fun _ => none)) 74 4 (some 77)) 78 (fun _ => none))) 74 14 (some 78)) 88 (fun _ => none)) 77 0 (some 88)) 89 (fun _ => none)) 77 1 (some 89)) 90 (fun _ => none)) 77 2 (some 90)) 91 (fun _ => none)) 77 3 (some 91)) 92 (fun _ => none))) rfl rfl ?_
  refine xw_go xb_2 6 rfl ⟨(xn_ar (n := 4) (N := 5) rfl (by decide) (by decide)), (Or.inl ⟨rfl, rfl⟩), trivial⟩ ?_
  refine xw_at (f' := (97, [.ref 74, .int 5], [])) (h' := (xS false ++ [(8, 15), (0, 64), (0, 64), (2, 5), (7, 3), (4, 8), (0, 72), (0, 72), (0, 72), (0, 72), (0, 72), (0, 72), (0, 72), (0, 72), (11, 4), (11, 4), (11, 4), (11, 4), (11, 4)], va_up (va_up (va_up (va_up (va_up (xjI_past74Init (va_up (xm_up (xm_up (xm_up (xm_up (va_up (va_up (va_up (xm_up (xm_up I 74 0 4) 74 1 5) 75 (fun _ => 0)) 76 (fun _ => 0)) 77 (fun _ => 0)) 74 8 2) 74 9 10) 74 10 20) 74 13 1) 78 (fun _ => 0))) 88 (fun _ => 0)) 89 (fun _ => 0)) 90 (fun _ => 0)) 91 (fun _ => 0)) 92 (fun _ => 0), va_up (va_up (va_up (va_up (va_up (xjL_past74Init (va_up (va_up (va_up (va_up L 75 (fun _ => 0)) 76 (fun _ => 0)) 77 (fun _ => 0)) 78 (fun _ => 0))) 88 (fun _ => 0)) 89 (fun _ => 0)) 90 (fun _ => 0)) 91 (fun _ => 0)) 92 (fun _ => 0), xm_up (va_up (xm_up (va_up (xm_up (va_up (xm_up (va_up (xm_up (va_up (xm_up (xjP_past74Init (va_up (xm_up (va_up (xm_up (va_up (xm_up (va_up P 75 (fun _ => none)) 74 2 (some 75)) 76 (fun _ => none)) 74 3 (some 76)) 77 (fun _ => none)) 74 4 (some 77)) 78 (fun _ => none))) 74 14 (some 78)) 88 (fun _ => none)) 77 0 (some 88)) 89 (fun _ => none)) 77 1 (some 89)) 90 (fun _ => none)) 77 2 (some 90)) 91 (fun _ => none)) 77 3 (some 91)) 92 (fun _ => none)) 77 4 (some 92))) rfl rfl ?_
  refine xw_ret xb_2 rfl rfl trivial ?_
  exact ⟨rfl, rfl⟩

set_option maxRecDepth 100000 in
set_option maxHeartbeats 4000000 in
theorem xP_img : xm_up (xjP_plot74 (va_up (xP false) 74 (fun _ => none))) 0 7 (some 74) = xP true := by
  funext a k
  match a with
  | 0 =>
    match k with
    | 0 => rfl
    | 1 => rfl
    | 2 => rfl
    | 3 => rfl
    | 4 => rfl
    | 5 => rfl
    | 6 => rfl
    | 7 => rfl
    | _ + 8 => rfl
  | 1 =>
    match k with
    | 0 => rfl
    | 1 => rfl
    | 2 => rfl
    | 3 => rfl
    | 4 => rfl
    | 5 => rfl
    | 6 => rfl
    | 7 => rfl
    | 8 => rfl
    | 9 => rfl
    | 10 => rfl
    | 11 => rfl
    | 12 => rfl
    | 13 => rfl
    | 14 => rfl
    | _ + 15 => rfl
  | 2 => rfl
  | 3 => rfl
  | 4 =>
    match k with
    | 0 => rfl
    | 1 => rfl
    | 2 => rfl
    | 3 => rfl
    | 4 => rfl
    | _ + 5 => rfl
  | 5 =>
    match k with
    | 0 => rfl
    | 1 => rfl
    | 2 => rfl
    | _ + 3 => rfl
  | 6 =>
    match k with
    | 0 => rfl
    | 1 => rfl
    | 2 => rfl
    | 3 => rfl
    | 4 => rfl
    | 5 => rfl
    | 6 => rfl
    | 7 => rfl
    | _ + 8 => rfl
  | 7 => rfl
  | 8 => rfl
  | 9 => rfl
  | 10 => rfl
  | 11 => rfl
  | 12 => rfl
  | 13 => rfl
  | 14 => rfl
  | 15 => rfl
  | 16 => rfl
  | 17 => rfl
  | 18 => rfl
  | 19 => rfl
  | 20 =>
    match k with
    | 0 => rfl
    | 1 => rfl
    | 2 => rfl
    | 3 => rfl
    | _ + 4 => rfl
  | 21 => rfl
  | 22 => rfl
  | 23 => rfl
  | 24 =>
    match k with
    | 0 => rfl
    | 1 => rfl
    | 2 => rfl
    | 3 => rfl
    | 4 => rfl
    | 5 => rfl
    | 6 => rfl
    | 7 => rfl
    | 8 => rfl
    | 9 => rfl
    | 10 => rfl
    | 11 => rfl
    | _ + 12 => rfl
  | 25 => rfl
  | 26 => rfl
  | 27 =>
    match k with
    | 0 => rfl
    | 1 => rfl
    | 2 => rfl
    | 3 => rfl
    | 4 => rfl
    | _ + 5 => rfl
  | 28 => rfl
  | 29 => rfl
  | 30 => rfl
  | 31 => rfl
  | 32 => rfl
  | 33 =>
    match k with
    | 0 => rfl
    | 1 => rfl
    | 2 => rfl
    | 3 => rfl
    | 4 => rfl
    | 5 => rfl
    | _ + 6 => rfl
  | 34 => rfl
  | 35 => rfl
  | 36 => rfl
  | 37 => rfl
  | 38 => rfl
  | 39 => rfl
  | 40 => rfl
  | 41 => rfl
  | 42 => rfl
  | 43 =>
    match k with
    | 0 => rfl
    | 1 => rfl
    | 2 => rfl
    | 3 => rfl
    | 4 => rfl
    | 5 => rfl
    | 6 => rfl
    | 7 => rfl
    | 8 => rfl
    | _ + 9 => rfl
  | 44 => rfl
  | 45 =>
    match k with
    | 0 => rfl
    | 1 => rfl
    | 2 => rfl
    | 3 => rfl
    | 4 => rfl
    | _ + 5 => rfl
  | 46 => rfl
  | 47 => rfl
  | 48 => rfl
  | 49 => rfl
  | 50 => rfl
  | 51 =>
    match k with
    | 0 => rfl
    | 1 => rfl
    | 2 => rfl
    | 3 => rfl
    | _ + 4 => rfl
  | 52 =>
    match k with
    | 0 => rfl
    | 1 => rfl
    | 2 => rfl
    | 3 => rfl
    | _ + 4 => rfl
  | 53 => rfl
  | 54 =>
    match k with
    | 0 => rfl
    | 1 => rfl
    | 2 => rfl
    | 3 => rfl
    | _ + 4 => rfl
  | 55 => rfl
  | 56 =>
    match k with
    | 0 => rfl
    | 1 => rfl
    | 2 => rfl
    | 3 => rfl
    | _ + 4 => rfl
  | 57 => rfl
  | 58 =>
    match k with
    | 0 => rfl
    | 1 => rfl
    | 2 => rfl
    | 3 => rfl
    | _ + 4 => rfl
  | 59 => rfl
  | 60 =>
    match k with
    | 0 => rfl
    | 1 => rfl
    | 2 => rfl
    | 3 => rfl
    | 4 => rfl
    | 5 => rfl
    | 6 => rfl
    | 7 => rfl
    | 8 => rfl
    | 9 => rfl
    | 10 => rfl
    | 11 => rfl
    | 12 => rfl
    | 13 => rfl
    | 14 => rfl
    | 15 => rfl
    | 16 => rfl
    | 17 => rfl
    | 18 => rfl
    | _ + 19 => rfl
  | 61 => rfl
  | 62 => rfl
  | 63 => rfl
  | 64 => rfl
  | 65 => rfl
  | 66 => rfl
  | 67 => rfl
  | 68 => rfl
  | 69 => rfl
  | 70 => rfl
  | 71 => rfl
  | 72 => rfl
  | 73 => rfl
  | 74 =>
    match k with
    | 0 => rfl
    | 1 => rfl
    | 2 => rfl
    | 3 => rfl
    | 4 => rfl
    | 5 => rfl
    | 6 => rfl
    | 7 => rfl
    | 8 => rfl
    | 9 => rfl
    | 10 => rfl
    | 11 => rfl
    | 12 => rfl
    | 13 => rfl
    | 14 => rfl
    | _ + 15 => rfl
  | 75 => rfl
  | 76 => rfl
  | 77 =>
    match k with
    | 0 => rfl
    | 1 => rfl
    | 2 => rfl
    | 3 => rfl
    | 4 => rfl
    | _ + 5 => rfl
  | 78 =>
    match k with
    | 0 => rfl
    | 1 => rfl
    | 2 => rfl
    | _ + 3 => rfl
  | 79 =>
    match k with
    | 0 => rfl
    | 1 => rfl
    | 2 => rfl
    | 3 => rfl
    | 4 => rfl
    | 5 => rfl
    | 6 => rfl
    | 7 => rfl
    | _ + 8 => rfl
  | 80 => rfl
  | 81 => rfl
  | 82 => rfl
  | 83 => rfl
  | 84 => rfl
  | 85 => rfl
  | 86 => rfl
  | 87 => rfl
  | 88 => rfl
  | 89 => rfl
  | 90 => rfl
  | 91 => rfl
  | 92 => rfl
  | _ + 93 => rfl

def xjI_past1Init (I : Nat → Nat → Int32) : Nat → Nat → Int32 := va_up (va_up (va_up (va_up (va_up (va_up (va_up (va_up (va_up I 6 (fun _ => 0)) 7 (fun _ => 0)) 8 (fun _ => 0)) 9 (fun _ => 0)) 10 (fun _ => 0)) 11 (fun _ => 0)) 12 (fun _ => 0)) 13 (fun _ => 0)) 14 (fun _ => 0)
def xjL_past1Init (L : Nat → Nat → Int64) : Nat → Nat → Int64 := va_up (va_up (va_up (va_up (va_up (va_up (va_up (va_up (va_up L 6 (fun _ => 0)) 7 (fun _ => 0)) 8 (fun _ => 0)) 9 (fun _ => 0)) 10 (fun _ => 0)) 11 (fun _ => 0)) 12 (fun _ => 0)) 13 (fun _ => 0)) 14 (fun _ => 0)
def xjP_past1Init (P : Nat → Nat → Option Nat) : Nat → Nat → Option Nat := xm_up (va_up (va_up (va_up (va_up (va_up (va_up (va_up (va_up (va_up (va_up P 6 (fun _ => none)) 7 (fun _ => none)) 8 (fun _ => none)) 9 (fun _ => none)) 10 (fun _ => none)) 11 (fun _ => none)) 12 (fun _ => none)) 13 (fun _ => none)) 14 (fun _ => none)) 6 (fun i => if i < 8 then some (7 + i) else none)) 5 0 (some 6)
theorem c_past1Init {d : Nat} {I : Nat → Nat → Int32} {L : Nat → Nat → Int64} {P : Nat → Nat → Option Nat}  : xm_Z (d + 1) 3 [.ref 5] ([(12, 8), (8, 15), (0, 64), (0, 64), (2, 5), (7, 3)], I, L, P) (fun rz hz => rz = none ∧ hz = ([(12, 8), (8, 15), (0, 64), (0, 64), (2, 5), (7, 3), (4, 8), (0, 72), (0, 72), (0, 72), (0, 72), (0, 72), (0, 72), (0, 72), (0, 72)], xjI_past1Init I, xjL_past1Init L, xjP_past1Init P)) := by
  refine xw_S xb_3 (l := [.ref 5]) (Nat.le_of_ble_eq_true rfl) rfl ?_
  refine xw_go xb_3 1 rfl trivial ?_
  refine xw_at (f' := (1, [.ref 5], [.ref 5])) (h' := ([(12, 8), (8, 15), (0, 64), (0, 64), (2, 5), (7, 3)], I, L, P)) rfl rfl ?_
  refine xw_obj xb_3 rfl rfl rfl ?_
  refine xw_at (f' := (4, [.ref 5], [])) (h' := ([(12, 8), (8, 15), (0, 64), (0, 64), (2, 5), (7, 3)], I, L, P)) rfl rfl ?_
  refine xw_go xb_3 5 rfl ⟨(by decide), (by decide), (by decide), (by decide), rfl, rfl, trivial⟩ ?_
  refine xw_at (f' := (16, [.ref 5], [])) (h' := ([(12, 8), (8, 15), (0, 64), (0, 64), (2, 5), (7, 3), (4, 8), (0, 72), (0, 72), (0, 72), (0, 72), (0, 72), (0, 72), (0, 72), (0, 72)], va_up (va_up (va_up (va_up (va_up (va_up (va_up (va_up (va_up I 6 (fun _ => 0)) 7 (fun _ => 0)) 8 (fun _ => 0)) 9 (fun _ => 0)) 10 (fun _ => 0)) 11 (fun _ => 0)) 12 (fun _ => 0)) 13 (fun _ => 0)) 14 (fun _ => 0), va_up (va_up (va_up (va_up (va_up (va_up (va_up (va_up (va_up L 6 (fun _ => 0)) 7 (fun _ => 0)) 8 (fun _ => 0)) 9 (fun _ => 0)) 10 (fun _ => 0)) 11 (fun _ => 0)) 12 (fun _ => 0)) 13 (fun _ => 0)) 14 (fun _ => 0), xm_up (va_up (va_up (va_up (va_up (va_up (va_up (va_up (va_up (va_up (va_up P 6 (fun _ => none)) 7 (fun _ => none)) 8 (fun _ => none)) 9 (fun _ => none)) 10 (fun _ => none)) 11 (fun _ => none)) 12 (fun _ => none)) 13 (fun _ => none)) 14 (fun _ => none)) 6 (fun i => if i < 8 then some (7 + i) else none)) 5 0 (some 6))) rfl rfl ?_
  refine xw_ret xb_3 rfl rfl trivial ?_
  exact ⟨rfl, rfl⟩

def xjI_plot1 (I : Nat → Nat → Int32) : Nat → Nat → Int32 := va_up (va_up (va_up (va_up (va_up (xjI_past1Init (va_up (xm_up (xm_up (xm_up (xm_up (va_up (va_up (va_up (xm_up (xm_up I 1 0 4) 1 1 5) 2 (fun _ => 0)) 3 (fun _ => 0)) 4 (fun _ => 0)) 1 8 2) 1 9 10) 1 10 20) 1 13 1) 5 (fun _ => 0))) 15 (fun _ => 0)) 16 (fun _ => 0)) 17 (fun _ => 0)) 18 (fun _ => 0)) 19 (fun _ => 0)
def xjL_plot1 (L : Nat → Nat → Int64) : Nat → Nat → Int64 := va_up (va_up (va_up (va_up (va_up (xjL_past1Init (va_up (va_up (va_up (va_up L 2 (fun _ => 0)) 3 (fun _ => 0)) 4 (fun _ => 0)) 5 (fun _ => 0))) 15 (fun _ => 0)) 16 (fun _ => 0)) 17 (fun _ => 0)) 18 (fun _ => 0)) 19 (fun _ => 0)
def xjP_plot1 (P : Nat → Nat → Option Nat) : Nat → Nat → Option Nat := xm_up (va_up (xm_up (va_up (xm_up (va_up (xm_up (va_up (xm_up (va_up (xm_up (xjP_past1Init (va_up (xm_up (va_up (xm_up (va_up (xm_up (va_up P 2 (fun _ => none)) 1 2 (some 2)) 3 (fun _ => none)) 1 3 (some 3)) 4 (fun _ => none)) 1 4 (some 4)) 5 (fun _ => none))) 1 14 (some 5)) 15 (fun _ => none)) 4 0 (some 15)) 16 (fun _ => none)) 4 1 (some 16)) 17 (fun _ => none)) 4 2 (some 17)) 18 (fun _ => none)) 4 3 (some 18)) 19 (fun _ => none)) 4 4 (some 19)
theorem c_plot1 {d : Nat} {I : Nat → Nat → Int32} {L : Nat → Nat → Int64} {P : Nat → Nat → Option Nat}  : xm_Z (d + 2) 2 [.ref 1] ([(12, 8), (8, 15)], I, L, P) (fun rz hz => rz = none ∧ hz = ([(12, 8), (8, 15), (0, 64), (0, 64), (2, 5), (7, 3), (4, 8), (0, 72), (0, 72), (0, 72), (0, 72), (0, 72), (0, 72), (0, 72), (0, 72), (11, 4), (11, 4), (11, 4), (11, 4), (11, 4)], xjI_plot1 I, xjL_plot1 L, xjP_plot1 P)) := by
  refine xw_S xb_2 (l := [.ref 1, .float 0]) (Nat.le_of_ble_eq_true rfl) rfl ?_
  refine xw_go xb_2 1 rfl trivial ?_
  refine xw_at (f' := (1, [.ref 1, .float 0], [.ref 1])) (h' := ([(12, 8), (8, 15)], I, L, P)) rfl rfl ?_
  refine xw_obj xb_2 rfl rfl rfl ?_
  refine xw_at (f' := (4, [.ref 1, .float 0], [])) (h' := ([(12, 8), (8, 15)], I, L, P)) rfl rfl ?_
  refine xw_go xb_2 3 rfl ⟨rfl, trivial⟩ ?_
  refine xw_at (f' := (9, [.ref 1, .float 0], [])) (h' := ([(12, 8), (8, 15)], xm_up I 1 0 4, L, P)) rfl rfl ?_
  refine xw_go xb_2 3 rfl ⟨rfl, trivial⟩ ?_
  refine xw_at (f' := (14, [.ref 1, .float 0], [])) (h' := ([(12, 8), (8, 15)], xm_up (xm_up I 1 0 4) 1 1 5, L, P)) rfl rfl ?_
  refine xw_go xb_2 4 rfl ⟨(by decide), (by decide), rfl, rfl, trivial⟩ ?_
  refine xw_at (f' := (22, [.ref 1, .float 0], [])) (h' := ([(12, 8), (8, 15), (0, 64)], va_up (xm_up (xm_up I 1 0 4) 1 1 5) 2 (fun _ => 0), va_up L 2 (fun _ => 0), xm_up (va_up P 2 (fun _ => none)) 1 2 (some 2))) rfl rfl ?_
  refine xw_go xb_2 4 rfl ⟨(by decide), (by decide), rfl, rfl, trivial⟩ ?_
  refine xw_at (f' := (30, [.ref 1, .float 0], [])) (h' := ([(12, 8), (8, 15), (0, 64), (0, 64)], va_up (va_up (xm_up (xm_up I 1 0 4) 1 1 5) 2 (fun _ => 0)) 3 (fun _ => 0), va_up (va_up L 2 (fun _ => 0)) 3 (fun _ => 0), xm_up (va_up (xm_up (va_up P 2 (fun _ => none)) 1 2 (some 2)) 3 (fun _ => none)) 1 3 (some 3))) rfl rfl ?_
  refine xw_go xb_2 4 rfl ⟨(by decide), (by decide), rfl, rfl, trivial⟩ ?_
  refine xw_at (f' := (38, [.ref 1, .float 0], [])) (h' := ([(12, 8), (8, 15), (0, 64), (0, 64), (2, 5)], va_up (va_up (va_up (xm_up (xm_up I 1 0 4) 1 1 5) 2 (fun _ => 0)) 3 (fun _ => 0)) 4 (fun _ => 0), va_up (va_up (va_up L 2 (fun _ => 0)) 3 (fun _ => 0)) 4 (fun _ => 0), xm_up (va_up (xm_up (va_up (xm_up (va_up P 2 (fun _ => none)) 1 2 (some 2)) 3 (fun _ => none)) 1 3 (some 3)) 4 (fun _ => none)) 1 4 (some 4))) rfl rfl ?_
  refine xw_go xb_2 3 rfl ⟨rfl, trivial⟩ ?_
  refine xw_at (f' := (43, [.ref 1, .float 0], [])) (h' := ([(12, 8), (8, 15), (0, 64), (0, 64), (2, 5)], xm_up (va_up (va_up (va_up (xm_up (xm_up I 1 0 4) 1 1 5) 2 (fun _ => 0)) 3 (fun _ => 0)) 4 (fun _ => 0)) 1 8 2, va_up (va_up (va_up L 2 (fun _ => 0)) 3 (fun _ => 0)) 4 (fun _ => 0), xm_up (va_up (xm_up (va_up (xm_up (va_up P 2 (fun _ => none)) 1 2 (some 2)) 3 (fun _ => none)) 1 3 (some 3)) 4 (fun _ => none)) 1 4 (some 4))) rfl rfl ?_
  refine xw_go xb_2 3 rfl ⟨rfl, trivial⟩ ?_
  refine xw_at (f' := (49, [.ref 1, .float 0], [])) (h' := ([(12, 8), (8, 15), (0, 64), (0, 64), (2, 5)], xm_up (xm_up (va_up (va_up (va_up (xm_up (xm_up I 1 0 4) 1 1 5) 2 (fun _ => 0)) 3 (fun _ => 0)) 4 (fun _ => 0)) 1 8 2) 1 9 10, va_up (va_up (va_up L 2 (fun _ => 0)) 3 (fun _ => 0)) 4 (fun _ => 0), xm_up (va_up (xm_up (va_up (xm_up (va_up P 2 (fun _ => none)) 1 2 (some 2)) 3 (fun _ => none)) 1 3 (some 3)) 4 (fun _ => none)) 1 4 (some 4))) rfl rfl ?_
  refine xw_go xb_2 3 rfl ⟨rfl, trivial⟩ ?_
  refine xw_at (f' := (55, [.ref 1, .float 0], [])) (h' := ([(12, 8), (8, 15), (0, 64), (0, 64), (2, 5)], xm_up (xm_up (xm_up (va_up (va_up (va_up (xm_up (xm_up I 1 0 4) 1 1 5) 2 (fun _ => 0)) 3 (fun _ => 0)) 4 (fun _ => 0)) 1 8 2) 1 9 10) 1 10 20, va_up (va_up (va_up L 2 (fun _ => 0)) 3 (fun _ => 0)) 4 (fun _ => 0), xm_up (va_up (xm_up (va_up (xm_up (va_up P 2 (fun _ => none)) 1 2 (some 2)) 3 (fun _ => none)) 1 3 (some 3)) 4 (fun _ => none)) 1 4 (some 4))) rfl rfl ?_
  refine xw_go xb_2 3 rfl ⟨rfl, trivial⟩ ?_
  refine xw_at (f' := (60, [.ref 1, .float 0], [])) (h' := ([(12, 8), (8, 15), (0, 64), (0, 64), (2, 5)], xm_up (xm_up (xm_up (xm_up (va_up (va_up (va_up (xm_up (xm_up I 1 0 4) 1 1 5) 2 (fun _ => 0)) 3 (fun _ => 0)) 4 (fun _ => 0)) 1 8 2) 1 9 10) 1 10 20) 1 13 1, va_up (va_up (va_up L 2 (fun _ => 0)) 3 (fun _ => 0)) 4 (fun _ => 0), xm_up (va_up (xm_up (va_up (xm_up (va_up P 2 (fun _ => none)) 1 2 (some 2)) 3 (fun _ => none)) 1 3 (some 3)) 4 (fun _ => none)) 1 4 (some 4))) rfl rfl ?_
  refine xw_go xb_2 3 rfl trivial ?_
  refine xw_at (f' := (65, [.ref 1, .float 0], [.ref 5, .ref 5, .ref 1])) (h' := ([(12, 8), (8, 15), (0, 64), (0, 64), (2, 5), (7, 3)], va_up (xm_up (xm_up (xm_up (xm_up (va_up (va_up (va_up (xm_up (xm_up I 1 0 4) 1 1 5) 2 (fun _ => 0)) 3 (fun _ => 0)) 4 (fun _ => 0)) 1 8 2) 1 9 10) 1 10 20) 1 13 1) 5 (fun _ => 0), va_up (va_up (va_up (va_up L 2 (fun _ => 0)) 3 (fun _ => 0)) 4 (fun _ => 0)) 5 (fun _ => 0), va_up (xm_up (va_up (xm_up (va_up (xm_up (va_up P 2 (fun _ => none)) 1 2 (some 2)) 3 (fun _ => none)) 1 3 (some 3)) 4 (fun _ => none)) 1 4 (some 4)) 5 (fun _ => none))) rfl rfl ?_
  refine xw_call xb_2 rfl rfl rfl rfl rfl (Or.inr ⟨_, _, rfl, rfl⟩) (c_past1Init (I := (va_up (xm_up (xm_up (xm_up (xm_up (va_up (va_up (va_up (xm_up (xm_up I 1 0 4) 1 1 5) 2 (fun _ => 0)) 3 (fun _ => 0)) 4 (fun _ => 0)) 1 8 2) 1 9 10) 1 10 20) 1 13 1) 5 (fun _ => 0))) (L := (va_up (va_up (va_up (va_up L 2 (fun _ => 0)) 3 (fun _ => 0)) 4 (fun _ => 0)) 5 (fun _ => 0))) (P := (va_up (xm_up (va_up (xm_up (va_up (xm_up (va_up P 2 (fun _ => none)) 1 2 (some 2)) 3 (fun _ => none)) 1 3 (some 3)) 4 (fun _ => none)) 1 4 (some 4)) 5 (fun _ => none)))) ?_
  rintro _ _ ⟨rfl, rfl⟩
  refine xw_at (f' := (68, [.ref 1, .float 0], [.ref 5, .ref 1])) (h' := ([(12, 8), (8, 15), (0, 64), (0, 64), (2, 5), (7, 3), (4, 8), (0, 72), (0, 72), (0, 72), (0, 72), (0, 72), (0, 72), (0, 72), (0, 72)], xjI_past1Init (va_up (xm_up (xm_up (xm_up (xm_up (va_up (va_up (va_up (xm_up (xm_up I 1 0 4) 1 1 5) 2 (fun _ => 0)) 3 (fun _ => 0)) 4 (fun _ => 0)) 1 8 2) 1 9 10) 1 10 20) 1 13 1) 5 (fun _ => 0)), xjL_past1Init (va_up (va_up (va_up (va_up L 2 (fun _ => 0)) 3 (fun _ => 0)) 4 (fun _ => 0)) 5 (fun _ => 0)), xjP_past1Init (va_up (xm_up (va_up (xm_up (va_up (xm_up (va_up P 2 (fun _ => none)) 1 2 (some 2)) 3 (fun _ => none)) 1 3 (some 3)) 4 (fun _ => none)) 1 4 (some 4)) 5 (fun _ => none)))) rfl rfl ?_
  refine xw_go xb_2 1 rfl ⟨rfl, rfl, trivial⟩ ?_
  refine xw_at (f' := (71, [.ref 1, .float 0], [])) (h' := ([(12, 8), (8, 15), (0, 64), (0, 64), (2, 5), (7, 3), (4, 8), (0, 72), (0, 72), (0, 72), (0, 72), (0, 72), (0, 72), (0, 72), (0, 72)], xjI_past1Init (va_up (xm_up (xm_up (xm_up (xm_up (va_up (va_up (va_up (xm_up (xm_up I 1 0 4) 1 1 5) 2 (fun _ => 0)) 3 (fun _ => 0)) 4 (fun _ => 0)) 1 8 2) 1 9 10) 1 10 20) 1 13 1) 5 (fun _ => 0)), xjL_past1Init (va_up (va_up (va_up (va_up L 2 (fun _ => 0)) 3 (fun _ => 0)) 4 (fun _ => 0)) 5 (fun _ => 0)), xm_up (xjP_past1Init (va_up (xm_up (va_up (xm_up (va_up (xm_up (va_up P 2 (fun _ => none)) 1 2 (some 2)) 3 (fun _ => none)) 1 3 (some 3)) 4 (fun _ => none)) 1 4 (some 4)) 5 (fun _ => none))) 1 14 (some 5))) rfl rfl ?_
  refine xw_go xb_2 10 rfl ⟨rfl, trivial⟩ ?_
  refine xw_at (f' := (87, [.ref 1, .int 0], [.ref 15, .ref 15, .int 0, .ref 4])) (h' := ([(12, 8), (8, 15), (0, 64), (0, 64), (2, 5), (7, 3), (4, 8), (0, 72), (0, 72), (0, 72), (0, 72), (0, 72), (0, 72), (0, 72), (0, 72), (11, 4)], va_up (xjI_past1Init (va_up (xm_up (xm_up (xm_up (xm_up (va_up (va_up (va_up (xm_up (xm_up I 1 0 4) 1 1 5) 2 (fun _ => 0)) 3 (fun _ => 0)) 4 (fun _ => 0)) 1 8 2) 1 9 10) 1 10 20) 1 13 1) 5 (fun _ => 0))) 15 (fun _ => 0), va_up (xjL_past1Init (va_up (va_up (va_up (va_up L 2 (fun _ => 0)) 3 (fun _ => 0)) 4 (fun _ => 0)) 5 (fun _ => 0))) 15 (fun _ => 0), va_up (xm_up (xjP_past1Init (va_up (xm_up (va_up (xm_up (va_up (xm_up (va_up P 2 (fun _ => none)) 1 2 (some 2)) 3 (fun _ => none)) 1 3 (some 3)) 4 (fun _ => none)) 1 4 (some 4)) 5 (fun _ => none))) 1 14 (some 5)) 15 (fun _ => none))) rfl rfl ?_
  refine xw_call xb_2 rfl rfl rfl rfl rfl (Or.inr ⟨_, _, rfl, rfl⟩) c_sprInit ?_
  rintro _ _ ⟨rfl, rfl⟩
  refine xw_at (f' := (90, [.ref 1, .int 0], [.ref 15, .int 0, .ref 4])) (h' := ([(12, 8), (8, 15), (0, 64), (0, 64), (2, 5), (7, 3), (4, 8), (0, 72), (0, 72), (0, 72), (0, 72), (0, 72), (0, 72), (0, 72), (0, 72), (11, 4)], va_up (xjI_past1Init (va_up (xm_up (xm_up (xm_up (xm_up (va_up (va_up (va_up (xm_up (xm_up I 1 0 4) 1 1 5) 2 (fun _ => 0)) 3 (fun _ => 0)) 4 (fun _ => 0)) 1 8 2) 1 9 10) 1 10 20) 1 13 1) 5 (fun _ => 0))) 15 (fun _ => 0), va_up (xjL_past1Init (va_up (va_up (va_up (va_up L 2 (fun _ => 0)) 3 (fun _ => 0)) 4 (fun _ => 0)) 5 (fun _ => 0))) 15 (fun _ => 0), va_up (xm_up (xjP_past1Init (va_up (xm_up (va_up (xm_up (va_up (xm_up (va_up P 2 (fun _ => none)) 1 2 (some 2)) 3 (fun _ => none)) 1 3 (some 3)) 4 (fun _ => none)) 1 4 (some 4)) 5 (fun _ => none))) 1 14 (some 5)) 15 (fun _ => none))) rfl rfl ?_
  refine xw_go xb_2 11 rfl ⟨(xn_ar (n := 0) (N := 5) rfl (by decide) (by decide)), (Or.inl ⟨rfl, rfl⟩), rfl, trivial⟩ ?_
  refine xw_at (f' := (87, [.ref 1, .int 1], [.ref 16, .ref 16, .int 1, .ref 4])) (h' := ([(12, 8), (8, 15), (0, 64), (0, 64), (2, 5), (7, 3), (4, 8), (0, 72), (0, 72), (0, 72), (0, 72), (0, 72), (0, 72), (0, 72), (0, 72), (11, 4), (11, 4)], va_up (va_up (xjI_past1Init (va_up (xm_up (xm_up (xm_up (xm_up (va_up (va_up (va_up (xm_up (xm_up I 1 0 4) 1 1 5) 2 (fun _ => 0)) 3 (fun _ => 0)) 4 (fun _ => 0)) 1 8 2) 1 9 10) 1 10 20) 1 13 1) 5 (fun _ => 0))) 15 (fun _ => 0)) 16 (fun _ => 0), va_up (va_up (xjL_past1Init (va_up (va_up (va_up (va_up L 2 (fun _ => 0)) 3 (fun _ => 0)) 4 (fun _ => 0)) 5 (fun _ => 0))) 15 (fun _ => 0)) 16 (fun _ => 0), va_up (xm_up (va_up (xm_up (xjP_past1Init (va_up (xm_up (va_up (xm_up (va_up (xm_up (va_up P 2 (fun _ => none)) 1 2 (some 2)) 3 (fun _ => none)) 1 3 (some 3)) 4 (fun _ => none)) 1 4 (some 4)) 5 (fun _ => none))) 1 14 (some 5)) 15 (fun _ => none)) 4 0 (some 15)) 16 (fun _ => none))) rfl rfl ?_
  refine xw_call xb_2 rfl rfl rfl rfl rfl (Or.inr ⟨_, _, rfl, rfl⟩) c_sprInit ?_
  rintro _ _ ⟨rfl, rfl⟩
  refine xw_at (f' := (90, [.ref 1, .int 1], [.ref 16, .int 1, .ref 4])) (h' := ([(12, 8), (8, 15), (0, 64), (0, 64), (2, 5), (7, 3), (4, 8), (0, 72), (0, 72), (0, 72), (0, 72), (0, 72), (0, 72), (0, 72), (0, 72), (11, 4), (11, 4)], va_up (va_up (xjI_past1Init (va_up (xm_up (xm_up (xm_up (xm_up (va_up (va_up (va_up (xm_up (xm_up I 1 0 4) 1 1 5) 2 (fun _ => 0)) 3 (fun _ => 0)) 4 (fun _ => 0)) 1 8 2) 1 9 10) 1 10 20) 1 13 1) 5 (fun _ => 0))) 15 (fun _ => 0)) 16 (fun _ => 0), va_up (va_up (xjL_past1Init (va_up (va_up (va_up (va_up L 2 (fun _ => 0)) 3 (fun _ => 0)) 4 (fun _ => 0)) 5 (fun _ => 0))) 15 (fun _ => 0)) 16 (fun _ => 0), va_up (xm_up (va_up (xm_up (xjP_past1Init (va_up (xm_up (va_up (xm_up (va_up (xm_up (va_up P 2 (fun _ => none)) 1 2 (some 2)) 3 (fun _ => none)) 1 3 (some 3)) 4 (fun _ => none)) 1 4 (some 4)) 5 (fun _ => none))) 1 14 (some 5)) 15 (fun _ => none)) 4 0 (some 15)) 16 (fun _ => none))) rfl rfl ?_
  refine xw_go xb_2 11 rfl ⟨(xn_ar (n := 1) (N := 5) rfl (by decide) (by decide)), (Or.inl ⟨rfl, rfl⟩), rfl, trivial⟩ ?_
  refine xw_at (f' := (87, [.ref 1, .int 2], [.ref 17, .ref 17, .int 2, .ref 4])) (h' := ([(12, 8), (8, 15), (0, 64), (0, 64), (2, 5), (7, 3), (4, 8), (0, 72), (0, 72), (0, 72), (0, 72), (0, 72), (0, 72), (0, 72), (0, 72), (11, 4), (11, 4), (11, 4)], va_up (va_up (va_up (xjI_past1Init (va_up (xm_up (xm_up (xm_up (xm_up (va_up (va_up (va_up (xm_up (xm_up I 1 0 4) 1 1 5) 2 (fun _ => 0)) 3 (fun _ => 0)) 4 (fun _ => 0)) 1 8 2) 1 9 10) 1 10 20) 1 13 1) 5 (fun _ => 0))) 15 (fun _ => 0)) 16 (fun _ => 0)) 17 (fun _ => 0), va_up (va_up (va_up (xjL_past1Init (va_up (va_up (va_up (va_up L 2 (fun _ => 0)) 3 (fun _ => 0)) 4 (fun _ => 0)) 5 (fun _ => 0))) 15 (fun _ => 0)) 16 (fun _ => 0)) 17 (fun _ => 0), va_up (xm_up (va_up (xm_up (va_up (xm_up (xjP_past1Init (va_up (xm_up (va_up (xm_up (va_up (xm_up (va_up P 2 (fun _ => none)) 1 2 (some 2)) 3 (fun _ => none)) 1 3 (some 3)) 4 (fun _ => none)) 1 4 (some 4)) 5 (fun _ => none))) 1 14 (some 5)) 15 (fun _ => none)) 4 0 (some 15)) 16 (fun _ => none)) 4 1 (some 16)) 17 (fun _ => none))) rfl rfl ?_
  refine xw_call xb_2 rfl rfl rfl rfl rfl (Or.inr ⟨_, _, rfl, rfl⟩) c_sprInit ?_
  rintro _ _ ⟨rfl, rfl⟩
  refine xw_at (f' := (90, [.ref 1, .int 2], [.ref 17, .int 2, .ref 4])) (h' := ([(12, 8), (8, 15), (0, 64), (0, 64), (2, 5), (7, 3), (4, 8), (0, 72), (0, 72), (0, 72), (0, 72), (0, 72), (0, 72), (0, 72), (0, 72), (11, 4), (11, 4), (11, 4)], va_up (va_up (va_up (xjI_past1Init (va_up (xm_up (xm_up (xm_up (xm_up (va_up (va_up (va_up (xm_up (xm_up I 1 0 4) 1 1 5) 2 (fun _ => 0)) 3 (fun _ => 0)) 4 (fun _ => 0)) 1 8 2) 1 9 10) 1 10 20) 1 13 1) 5 (fun _ => 0))) 15 (fun _ => 0)) 16 (fun _ => 0)) 17 (fun _ => 0), va_up (va_up (va_up (xjL_past1Init (va_up (va_up (va_up (va_up L 2 (fun _ => 0)) 3 (fun _ => 0)) 4 (fun _ => 0)) 5 (fun _ => 0))) 15 (fun _ => 0)) 16 (fun _ => 0)) 17 (fun _ => 0), va_up (xm_up (va_up (xm_up (va_up (xm_up (xjP_past1Init (va_up (xm_up (va_up (xm_up (va_up (xm_up (va_up P 2 (fun _ => none)) 1 2 (some 2)) 3 (fun _ => none)) 1 3 (some 3)) 4 (fun _ => none)) 1 4 (some 4)) 5 (fun _ => none))) 1 14 (some 5)) 15 (fun _ => none)) 4 0 (some 15)) 16 (fun _ => none)) 4 1 (some 16)) 17 (fun _ => none))) rfl rfl ?_
  refine xw_go xb_2 11 rfl ⟨(xn_ar (n := 2) (N := 5) rfl (by decide) (by decide)), (Or.inl ⟨rfl, rfl⟩), rfl, trivial⟩ ?_
  refine xw_at (f' := (87, [.ref 1, .int 3], [.ref 18, .ref 18, .int 3, .ref 4])) (h' := ([(12, 8), (8, 15), (0, 64), (0, 64), (2, 5), (7, 3), (4, 8), (0, 72), (0, 72), (0, 72), (0, 72), (0, 72), (0, 72), (0, 72), (0, 72), (11, 4), (11, 4), (11, 4), (11, 4)], va_up (va_up (va_up (va_up (xjI_past1Init (va_up (xm_up (xm_up (xm_up (xm_up (va_up (va_up (va_up (xm_up (xm_up I 1 0 4) 1 1 5) 2 (fun _ => 0)) 3 (fun _ => 0)) 4 (fun _ => 0)) 1 8 2) 1 9 10) 1 10 20) 1 13 1) 5 (fun _ => 0))) 15 (fun _ => 0)) 16 (fun _ => 0)) 17 (fun _ => 0)) 18 (fun _ => 0), va_up (va_up (va_up (va_up (xjL_past1Init (va_up (va_up (va_up (va_up L 2 (fun _ => 0)) 3 (fun _ => 0)) 4 (fun _ => 0)) 5 (fun _ => 0))) 15 (fun _ => 0)) 16 (fun _ => 0)) 17 (fun _ => 0)) 18 (fun _ => 0), va_up (xm_up (va_up (xm_up (va_up (xm_up (va_up (xm_up (xjP_past1Init (va_up (xm_up (va_up (xm_up (va_up (xm_up (va_up P 2 (fun _ => none)) 1 2 (some 2)) 3 (fun _ => none)) 1 3 (some 3)) 4 (fun _ => none)) 1 4 (some 4)) 5 (fun _ => none))) 1 14 (some 5)) 15 (fun _ => none)) 4 0 (some 15)) 16 (fun _ => none)) 4 1 (some 16)) 17 (fun _ => none)) 4 2 (some 17)) 18 (fun _ => none))) rfl rfl ?_
  refine xw_call xb_2 rfl rfl rfl rfl rfl (Or.inr ⟨_, _, rfl, rfl⟩) c_sprInit ?_
  rintro _ _ ⟨rfl, rfl⟩
  refine xw_at (f' := (90, [.ref 1, .int 3], [.ref 18, .int 3, .ref 4])) (h' := ([(12, 8), (8, 15), (0, 64), (0, 64), (2, 5), (7, 3), (4, 8), (0, 72), (0, 72), (0, 72), (0, 72), (0, 72), (0, 72), (0, 72), (0, 72), (11, 4), (11, 4), (11, 4), (11, 4)], va_up (va_up (va_up (va_up (xjI_past1Init (va_up (xm_up (xm_up (xm_up (xm_up (va_up (va_up (va_up (xm_up (xm_up I 1 0 4) 1 1 5) 2 (fun _ => 0)) 3 (fun _ => 0)) 4 (fun _ => 0)) 1 8 2) 1 9 10) 1 10 20) 1 13 1) 5 (fun _ => 0))) 15 (fun _ => 0)) 16 (fun _ => 0)) 17 (fun _ => 0)) 18 (fun _ => 0), va_up (va_up (va_up (va_up (xjL_past1Init (va_up (va_up (va_up (va_up L 2 (fun _ => 0)) 3 (fun _ => 0)) 4 (fun _ => 0)) 5 (fun _ => 0))) 15 (fun _ => 0)) 16 (fun _ => 0)) 17 (fun _ => 0)) 18 (fun _ => 0), va_up (xm_up (va_up (xm_up (va_up (xm_up (va_up (xm_up (xjP_past1Init (va_up (xm_up (va_up (xm_up (va_up (xm_up (va_up P 2 (fun _ => none)) 1 2 (some 2)) 3 (fun _ => none)) 1 3 (some 3)) 4 (fun _ => none)) 1 4 (some 4)) 5 (fun _ => none))) 1 14 (some 5)) 15 (fun _ => none)) 4 0 (some 15)) 16 (fun _ => none)) 4 1 (some 16)) 17 (fun _ => none)) 4 2 (some 17)) 18 (fun _ => none))) rfl rfl ?_
  refine xw_go xb_2 11 rfl ⟨(xn_ar (n := 3) (N := 5) rfl (by decide) (by decide)), (Or.inl ⟨rfl, rfl⟩), rfl, trivial⟩ ?_
  refine xw_at (f' := (87, [.ref 1, .int 4], [.ref 19, .ref 19, .int 4, .ref 4])) (h' := ([(12, 8), (8, 15), (0, 64), (0, 64), (2, 5), (7, 3), (4, 8), (0, 72), (0, 72), (0, 72), (0, 72), (0, 72), (0, 72), (0, 72), (0, 72), (11, 4), (11, 4), (11, 4), (11, 4), (11, 4)], va_up (va_up (va_up (va_up (va_up (xjI_past1Init (va_up (xm_up (xm_up (xm_up (xm_up (va_up (va_up (va_up (xm_up (xm_up I 1 0 4) 1 1 5) 2 (fun _ => 0)) 3 (fun _ => 0)) 4 (fun _ => 0)) 1 8 2) 1 9 10) 1 10 20) 1 13 1) 5 (fun _ => 0))) 15 (fun _ => 0)) 16 (fun _ => 0)) 17 (fun _ => 0)) 18 (fun _ => 0)) 19 (fun _ => 0), va_up (va_up (va_up (va_up (va_up (xjL_past1Init (va_up (va_up (va_up (va_up L 2 (fun _ => 0)) 3 (fun _ => 0)) 4 (fun _ => 0)) 5 (fun _ => 0))) 15 (fun _ => 0)) 16 (fun _ => 0)) 17 (fun _ => 0)) 18 (fun _ => 0)) 19 (fun _ => 0), va_up (xm_up (va_up (xm_up (va_up (xm_up (va_up (xm_up (va_up (xm_up (xjP_past1Init (va_up (xm_up (va_up (xm_up (va_up (xm_up (va_up P 2 (fun _ => none)) 1 2 (some 2)) 3 (fun _ => none)) 1 3 (some 3)) 4 (fun _ => none)) 1 4 (some 4)) 5 (fun _ => none))) 1 14 (some 5)) 15 (fun _ => none)) 4 0 (some 15)) 16 (fun _ => none)) 4 1 (some 16)) 17 (fun _ => none)) 4 2 (some 17)) 18 (fun _ => none)) 4 3 (some 18)) 19 (fun _ => none))) rfl rfl ?_
  refine xw_call xb_2 rfl rfl rfl rfl rfl (Or.inr ⟨_, _, rfl, rfl⟩) c_sprInit ?_
  rintro _ _ ⟨rfl, rfl⟩
  refine xw_at (f' := (90, [.ref 1, .int 4], [.ref 19, .int 4, .ref 4])) (h' := ([(12, 8), (8, 15), (0, 64), (0, 64), (2, 5), (7, 3), (4, 8), (0, 72), (0, 72), (0, 72), (0, 72), (0, 72), (0, 72), (0, 72), (0, 72), (11, 4), (11, 4), (11, 4), (11, 4), (11, 4)], va_up (va_up (va_up (va_up (va_up (xjI_past1Init (va_up (xm_up (xm_up (xm_up (xm_up (va_up (va_up (va_up (xm_up (xm_up I 1 0 4) 1 1 5) 2 (fun _ => 0)) 3 (fun _ => 0)) 4 (fun _ => 0)) 1 8 2) 1 9 10) 1 10 20) 1 13 1) 5 (fun _ => 0))) 15 (fun _ => 0)) 16 (fun _ => 0)) 17 (fun _ => 0)) 18 (fun _ => 0)) 19 (fun _ => 0), va_up (va_up (va_up (va_up (va_up (xjL_past1Init (va_up (va_up (va_up (va_up L 2 (fun _ => 0)) 3 (fun _ => 0)) 4 (fun _ => 0)) 5 (fun _ => 0))) 15 (fun _ => 0)) 16 (fun _ => 0)) 17 (fun _ => 0)) 18 (fun _ => 0)) 19 (fun _ => 0), va_up (xm_up (va_up (xm_up (va_up (xm_up (va_up (xm_up (va_up (xm_up (xjP_past1Init (va_up (xm_up (va_up (xm_up (va_up (xm_up (va_up P 2 (fun _ => none)) 1 2 (some 2)) 3 (fun _ => none)) 1 3 (some 3)) 4 (fun _ => none)) 1 4 (some 4)) 5 (fun _ => none))) 1 14 (some 5)) 15 (fun _ => none)) 4 0 (some 15)) 16 (fun _ => none)) 4 1 (some 16)) 17 (fun _ => none)) 4 2 (some 17)) 18 (fun _ => none)) 4 3 (some 18)) 19 (fun _ => none))) rfl rfl ?_
  refine xw_go xb_2 6 rfl ⟨(xn_ar (n := 4) (N := 5) rfl (by decide) (by decide)), (Or.inl ⟨rfl, rfl⟩), trivial⟩ ?_
  refine xw_at (f' := (97, [.ref 1, .int 5], [])) (h' := ([(12, 8), (8, 15), (0, 64), (0, 64), (2, 5), (7, 3), (4, 8), (0, 72), (0, 72), (0, 72), (0, 72), (0, 72), (0, 72), (0, 72), (0, 72), (11, 4), (11, 4), (11, 4), (11, 4), (11, 4)], va_up (va_up (va_up (va_up (va_up (xjI_past1Init (va_up (xm_up (xm_up (xm_up (xm_up (va_up (va_up (va_up (xm_up (xm_up I 1 0 4) 1 1 5) 2 (fun _ => 0)) 3 (fun _ => 0)) 4 (fun _ => 0)) 1 8 2) 1 9 10) 1 10 20) 1 13 1) 5 (fun _ => 0))) 15 (fun _ => 0)) 16 (fun _ => 0)) 17 (fun _ => 0)) 18 (fun _ => 0)) 19 (fun _ => 0), va_up (va_up (va_up (va_up (va_up (xjL_past1Init (va_up (va_up (va_up (va_up L 2 (fun _ => 0)) 3 (fun _ => 0)) 4 (fun _ => 0)) 5 (fun _ => 0))) 15 (fun _ => 0)) 16 (fun _ => 0)) 17 (fun _ => 0)) 18 (fun _ => 0)) 19 (fun _ => 0), xm_up (va_up (xm_up (va_up (xm_up (va_up (xm_up (va_up (xm_up (va_up (xm_up (xjP_past1Init (va_up (xm_up (va_up (xm_up (va_up (xm_up (va_up P 2 (fun _ => none)) 1 2 (some 2)) 3 (fun _ => none)) 1 3 (some 3)) 4 (fun _ => none)) 1 4 (some 4)) 5 (fun _ => none))) 1 14 (some 5)) 15 (fun _ => none)) 4 0 (some 15)) 16 (fun _ => none)) 4 1 (some 16)) 17 (fun _ => none)) 4 2 (some 17)) 18 (fun _ => none)) 4 3 (some 18)) 19 (fun _ => none)) 4 4 (some 19))) rfl rfl ?_
  refine xw_ret xb_2 rfl rfl trivial ?_
  exact ⟨rfl, rfl⟩

def xjI_flow (I : Nat → Nat → Int32) : Nat → Nat → Int32 := va_up (va_up (va_up I 21 (fun _ => 0)) 22 (fun _ => 0)) 23 (fun _ => 0)
def xjL_flow (L : Nat → Nat → Int64) : Nat → Nat → Int64 := va_up (va_up (va_up L 21 (fun _ => 0)) 22 (fun _ => 0)) 23 (fun _ => 0)
def xjP_flow (P : Nat → Nat → Option Nat) : Nat → Nat → Option Nat := xm_up (va_up (xm_up (va_up (xm_up (va_up P 21 (fun _ => none)) 20 0 (some 21)) 22 (fun _ => none)) 20 1 (some 22)) 23 (fun _ => none)) 20 2 (some 23)
theorem c_flow {d : Nat} {I : Nat → Nat → Int32} {L : Nat → Nat → Int64} {P : Nat → Nat → Option Nat}  : xm_Z (d + 1) 5 [.ref 20] ([(12, 8), (8, 15), (0, 64), (0, 64), (2, 5), (7, 3), (4, 8), (0, 72), (0, 72), (0, 72), (0, 72), (0, 72), (0, 72), (0, 72), (0, 72), (11, 4), (11, 4), (11, 4), (11, 4), (11, 4), (5, 4)], I, L, P) (fun rz hz => rz = none ∧ hz = ([(12, 8), (8, 15), (0, 64), (0, 64), (2, 5), (7, 3), (4, 8), (0, 72), (0, 72), (0, 72), (0, 72), (0, 72), (0, 72), (0, 72), (0, 72), (11, 4), (11, 4), (11, 4), (11, 4), (11, 4), (5, 4), (0, 64), (0, 64), (0, 8)], xjI_flow I, xjL_flow L, xjP_flow P)) := by
  refine xw_S xb_5 (l := [.ref 20]) (Nat.le_of_ble_eq_true rfl) rfl ?_
  refine xw_go xb_5 1 rfl trivial ?_
  refine xw_at (f' := (1, [.ref 20], [.ref 20])) (h' := ([(12, 8), (8, 15), (0, 64), (0, 64), (2, 5), (7, 3), (4, 8), (0, 72), (0, 72), (0, 72), (0, 72), (0, 72), (0, 72), (0, 72), (0, 72), (11, 4), (11, 4), (11, 4), (11, 4), (11, 4), (5, 4)], I, L, P)) rfl rfl ?_
  refine xw_obj xb_5 rfl rfl rfl ?_
  refine xw_at (f' := (4, [.ref 20], [])) (h' := ([(12, 8), (8, 15), (0, 64), (0, 64), (2, 5), (7, 3), (4, 8), (0, 72), (0, 72), (0, 72), (0, 72), (0, 72), (0, 72), (0, 72), (0, 72), (11, 4), (11, 4), (11, 4), (11, 4), (11, 4), (5, 4)], I, L, P)) rfl rfl ?_
  refine xw_go xb_5 4 rfl ⟨(by decide), (by decide), rfl, rfl, trivial⟩ ?_
  refine xw_at (f' := (12, [.ref 20], [])) (h' := ([(12, 8), (8, 15), (0, 64), (0, 64), (2, 5), (7, 3), (4, 8), (0, 72), (0, 72), (0, 72), (0, 72), (0, 72), (0, 72), (0, 72), (0, 72), (11, 4), (11, 4), (11, 4), (11, 4), (11, 4), (5, 4), (0, 64)], va_up I 21 (fun _ => 0), va_up L 21 (fun _ => 0), xm_up (va_up P 21 (fun _ => none)) 20 0 (some 21))) rfl rfl ?_
  refine xw_go xb_5 4 rfl ⟨(by decide), (by decide), rfl, rfl, trivial⟩ ?_
  refine xw_at (f' := (20, [.ref 20], [])) (h' := ([(12, 8), (8, 15), (0, 64), (0, 64), (2, 5), (7, 3), (4, 8), (0, 72), (0, 72), (0, 72), (0, 72), (0, 72), (0, 72), (0, 72), (0, 72), (11, 4), (11, 4), (11, 4), (11, 4), (11, 4), (5, 4), (0, 64), (0, 64)], va_up (va_up I 21 (fun _ => 0)) 22 (fun _ => 0), va_up (va_up L 21 (fun _ => 0)) 22 (fun _ => 0), xm_up (va_up (xm_up (va_up P 21 (fun _ => none)) 20 0 (some 21)) 22 (fun _ => none)) 20 1 (some 22))) rfl rfl ?_
  refine xw_go xb_5 4 rfl ⟨(by decide), (by decide), rfl, rfl, trivial⟩ ?_
  refine xw_at (f' := (28, [.ref 20], [])) (h' := ([(12, 8), (8, 15), (0, 64), (0, 64), (2, 5), (7, 3), (4, 8), (0, 72), (0, 72), (0, 72), (0, 72), (0, 72), (0, 72), (0, 72), (0, 72), (11, 4), (11, 4), (11, 4), (11, 4), (11, 4), (5, 4), (0, 64), (0, 64), (0, 8)], va_up (va_up (va_up I 21 (fun _ => 0)) 22 (fun _ => 0)) 23 (fun _ => 0), va_up (va_up (va_up L 21 (fun _ => 0)) 22 (fun _ => 0)) 23 (fun _ => 0), xm_up (va_up (xm_up (va_up (xm_up (va_up P 21 (fun _ => none)) 20 0 (some 21)) 22 (fun _ => none)) 20 1 (some 22)) 23 (fun _ => none)) 20 2 (some 23))) rfl rfl ?_
  refine xw_ret xb_5 rfl rfl trivial ?_
  exact ⟨rfl, rfl⟩

def xjI_fore (I : Nat → Nat → Int32) : Nat → Nat → Int32 := va_up (va_up (va_up (va_up (va_up (va_up (va_up (va_up (va_up (va_up (va_up (va_up (va_up (va_up (va_up (va_up (va_up I 25 (fun _ => 0)) 26 (fun _ => 0)) 27 (fun _ => 0)) 28 (fun _ => 0)) 29 (fun _ => 0)) 30 (fun _ => 0)) 31 (fun _ => 0)) 32 (fun _ => 0)) 33 (fun _ => 0)) 34 (fun _ => 0)) 35 (fun _ => 0)) 36 (fun _ => 0)) 37 (fun _ => 0)) 38 (fun _ => 0)) 39 (fun _ => 0)) 40 (fun _ => 0)) 41 (fun _ => 0)
def xjL_fore (L : Nat → Nat → Int64) : Nat → Nat → Int64 := va_up (va_up (va_up (va_up (va_up (va_up (va_up (va_up (va_up (va_up (va_up (va_up (va_up (va_up (va_up (va_up (va_up L 25 (fun _ => 0)) 26 (fun _ => 0)) 27 (fun _ => 0)) 28 (fun _ => 0)) 29 (fun _ => 0)) 30 (fun _ => 0)) 31 (fun _ => 0)) 32 (fun _ => 0)) 33 (fun _ => 0)) 34 (fun _ => 0)) 35 (fun _ => 0)) 36 (fun _ => 0)) 37 (fun _ => 0)) 38 (fun _ => 0)) 39 (fun _ => 0)) 40 (fun _ => 0)) 41 (fun _ => 0)
def xjP_fore (P : Nat → Nat → Option Nat) : Nat → Nat → Option Nat := xm_up (xm_up (xm_up (va_up (xm_up (va_up (xm_up (va_up (va_up (va_up (va_up (va_up (va_up (va_up (va_up (xm_up (va_up (va_up (va_up (va_up (va_up (va_up (va_up (xm_up (va_up (xm_up (va_up P 25 (fun _ => none)) 24 2 (some 25)) 26 (fun _ => none)) 24 3 (some 26)) 27 (fun _ => none)) 28 (fun _ => none)) 29 (fun _ => none)) 30 (fun _ => none)) 31 (fun _ => none)) 32 (fun _ => none)) 27 (fun i => if i < 5 then some (28 + i) else none)) 24 4 (some 27)) 33 (fun _ => none)) 34 (fun _ => none)) 35 (fun _ => none)) 36 (fun _ => none)) 37 (fun _ => none)) 38 (fun _ => none)) 39 (fun _ => none)) 33 (fun i => if i < 6 then some (34 + i) else none)) 24 5 (some 33)) 40 (fun _ => none)) 24 6 (some 40)) 41 (fun _ => none)) 24 7 (some 41)) 24 0 (some 1)) 24 1 (some 20)
theorem c_fore {d : Nat} {I : Nat → Nat → Int32} {L : Nat → Nat → Int64} {P : Nat → Nat → Option Nat}  : xm_Z (d + 1) 6 [.ref 24, .ref 1, .ref 20] ([(12, 8), (8, 15), (0, 64), (0, 64), (2, 5), (7, 3), (4, 8), (0, 72), (0, 72), (0, 72), (0, 72), (0, 72), (0, 72), (0, 72), (0, 72), (11, 4), (11, 4), (11, 4), (11, 4), (11, 4), (5, 4), (0, 64), (0, 64), (0, 8), (6, 12)], I, L, P) (fun rz hz => rz = none ∧ hz = ([(12, 8), (8, 15), (0, 64), (0, 64), (2, 5), (7, 3), (4, 8), (0, 72), (0, 72), (0, 72), (0, 72), (0, 72), (0, 72), (0, 72), (0, 72), (11, 4), (11, 4), (11, 4), (11, 4), (11, 4), (5, 4), (0, 64), (0, 64), (0, 8), (6, 12), (0, 64), (0, 64), (4, 5), (0, 64), (0, 64), (0, 64), (0, 64), (0, 64), (4, 6), (0, 64), (0, 64), (0, 64), (0, 64), (0, 64), (0, 64), (0, 5), (0, 5)], xjI_fore I, xjL_fore L, xjP_fore P)) := by
  refine xw_S xb_6 (l := [.ref 24, .ref 1, .ref 20]) (Nat.le_of_ble_eq_true rfl) rfl ?_
  refine xw_go xb_6 1 rfl trivial ?_
  refine xw_at (f' := (1, [.ref 24, .ref 1, .ref 20], [.ref 24])) (h' := ([(12, 8), (8, 15), (0, 64), (0, 64), (2, 5), (7, 3), (4, 8), (0, 72), (0, 72), (0, 72), (0, 72), (0, 72), (0, 72), (0, 72), (0, 72), (11, 4), (11, 4), (11, 4), (11, 4), (11, 4), (5, 4), (0, 64), (0, 64), (0, 8), (6, 12)], I, L, P)) rfl rfl ?_
  refine xw_obj xb_6 rfl rfl rfl ?_
  refine xw_at (f' := (4, [.ref 24, .ref 1, .ref 20], [])) (h' := ([(12, 8), (8, 15), (0, 64), (0, 64), (2, 5), (7, 3), (4, 8), (0, 72), (0, 72), (0, 72), (0, 72), (0, 72), (0, 72), (0, 72), (0, 72), (11, 4), (11, 4), (11, 4), (11, 4), (11, 4), (5, 4), (0, 64), (0, 64), (0, 8), (6, 12)], I, L, P)) rfl rfl ?_
  refine xw_go xb_6 4 rfl ⟨(by decide), (by decide), rfl, rfl, trivial⟩ ?_
  refine xw_at (f' := (12, [.ref 24, .ref 1, .ref 20], [])) (h' := ([(12, 8), (8, 15), (0, 64), (0, 64), (2, 5), (7, 3), (4, 8), (0, 72), (0, 72), (0, 72), (0, 72), (0, 72), (0, 72), (0, 72), (0, 72), (11, 4), (11, 4), (11, 4), (11, 4), (11, 4), (5, 4), (0, 64), (0, 64), (0, 8), (6, 12), (0, 64)], va_up I 25 (fun _ => 0), va_up L 25 (fun _ => 0), xm_up (va_up P 25 (fun _ => none)) 24 2 (some 25))) rfl rfl ?_
  refine xw_go xb_6 4 rfl ⟨(by decide), (by decide), rfl, rfl, trivial⟩ ?_
  refine xw_at (f' := (20, [.ref 24, .ref 1, .ref 20], [])) (h' := ([(12, 8), (8, 15), (0, 64), (0, 64), (2, 5), (7, 3), (4, 8), (0, 72), (0, 72), (0, 72), (0, 72), (0, 72), (0, 72), (0, 72), (0, 72), (11, 4), (11, 4), (11, 4), (11, 4), (11, 4), (5, 4), (0, 64), (0, 64), (0, 8), (6, 12), (0, 64), (0, 64)], va_up (va_up I 25 (fun _ => 0)) 26 (fun _ => 0), va_up (va_up L 25 (fun _ => 0)) 26 (fun _ => 0), xm_up (va_up (xm_up (va_up P 25 (fun _ => none)) 24 2 (some 25)) 26 (fun _ => none)) 24 3 (some 26))) rfl rfl ?_
  refine xw_go xb_6 5 rfl ⟨(by decide), (by decide), (by decide), (by decide), rfl, rfl, trivial⟩ ?_
  refine xw_at (f' := (31, [.ref 24, .ref 1, .ref 20], [])) (h' := ([(12, 8), (8, 15), (0, 64), (0, 64), (2, 5), (7, 3), (4, 8), (0, 72), (0, 72), (0, 72), (0, 72), (0, 72), (0, 72), (0, 72), (0, 72), (11, 4), (11, 4), (11, 4), (11, 4), (11, 4), (5, 4), (0, 64), (0, 64), (0, 8), (6, 12), (0, 64), (0, 64), (4, 5), (0, 64), (0, 64), (0, 64), (0, 64), (0, 64)], va_up (va_up (va_up (va_up (va_up (va_up (va_up (va_up I 25 (fun _ => 0)) 26 (fun _ => 0)) 27 (fun _ => 0)) 28 (fun _ => 0)) 29 (fun _ => 0)) 30 (fun _ => 0)) 31 (fun _ => 0)) 32 (fun _ => 0), va_up (va_up (va_up (va_up (va_up (va_up (va_up (va_up L 25 (fun _ => 0)) 26 (fun _ => 0)) 27 (fun _ => 0)) 28 (fun _ => 0)) 29 (fun _ => 0)) 30 (fun _ => 0)) 31 (fun _ => 0)) 32 (fun _ => 0), xm_up (va_up (va_up (va_up (va_up (va_up (va_up (va_up (xm_up (va_up (xm_up (va_up P 25 (fun _ => none)) 24 2 (some 25)) 26 (fun _ => none)) 24 3 (some 26)) 27 (fun _ => none)) 28 (fun _ => none)) 29 (fun _ => none)) 30 (fun _ => none)) 31 (fun _ => none)) 32 (fun _ => none)) 27 (fun i => if i < 5 then some (28 + i) else none)) 24 4 (some 27))) rfl rfl ?_
  refine xw_go xb_6 5 rfl ⟨(by decide), (by decide), (by decide), (by decide), rfl, rfl, trivial⟩ ?_
  refine xw_at (f' := (43, [.ref 24, .ref 1, .ref 20], [])) (h' := ([(12, 8), (8, 15), (0, 64), (0, 64), (2, 5), (7, 3), (4, 8), (0, 72), (0, 72), (0, 72), (0, 72), (0, 72), (0, 72), (0, 72), (0, 72), (11, 4), (11, 4), (11, 4), (11, 4), (11, 4), (5, 4), (0, 64), (0, 64), (0, 8), (6, 12), (0, 64), (0, 64), (4, 5), (0, 64), (0, 64), (0, 64), (0, 64), (0, 64), (4, 6), (0, 64), (0, 64), (0, 64), (0, 64), (0, 64), (0, 64)], va_up (va_up (va_up (va_up (va_up (va_up (va_up (va_up (va_up (va_up (va_up (va_up (va_up (va_up (va_up I 25 (fun _ => 0)) 26 (fun _ => 0)) 27 (fun _ => 0)) 28 (fun _ => 0)) 29 (fun _ => 0)) 30 (fun _ => 0)) 31 (fun _ => 0)) 32 (fun _ => 0)) 33 (fun _ => 0)) 34 (fun _ => 0)) 35 (fun _ => 0)) 36 (fun _ => 0)) 37 (fun _ => 0)) 38 (fun _ => 0)) 39 (fun _ => 0), va_up (va_up (va_up (va_up (va_up (va_up (va_up (va_up (va_up (va_up (va_up (va_up (va_up (va_up (va_up L 25 (fun _ => 0)) 26 (fun _ => 0)) 27 (fun _ => 0)) 28 (fun _ => 0)) 29 (fun _ => 0)) 30 (fun _ => 0)) 31 (fun _ => 0)) 32 (fun _ => 0)) 33 (fun _ => 0)) 34 (fun _ => 0)) 35 (fun _ => 0)) 36 (fun _ => 0)) 37 (fun _ => 0)) 38 (fun _ => 0)) 39 (fun _ => 0), xm_up (va_up (va_up (va_up (va_up (va_up (va_up (va_up (va_up (xm_up (va_up (va_up (va_up (va_up (va_up (va_up (va_up (xm_up (va_up (xm_up (va_up P 25 (fun _ => none)) 24 2 (some 25)) 26 (fun _ => none)) 24 3 (some 26)) 27 (fun _ => none)) 28 (fun _ => none)) 29 (fun _ => none)) 30 (fun _ => none)) 31 (fun _ => none)) 32 (fun _ => none)) 27 (fun i => if i < 5 then some (28 + i) else none)) 24 4 (some 27)) 33 (fun _ => none)) 34 (fun _ => none)) 35 (fun _ => none)) 36 (fun _ => none)) 37 (fun _ => none)) 38 (fun _ => none)) 39 (fun _ => none)) 33 (fun i => if i < 6 then some (34 + i) else none)) 24 5 (some 33))) rfl rfl ?_
  refine xw_go xb_6 4 rfl ⟨(by decide), (by decide), rfl, rfl, trivial⟩ ?_
  refine xw_at (f' := (50, [.ref 24, .ref 1, .ref 20], [])) (h' := ([(12, 8), (8, 15), (0, 64), (0, 64), (2, 5), (7, 3), (4, 8), (0, 72), (0, 72), (0, 72), (0, 72), (0, 72), (0, 72), (0, 72), (0, 72), (11, 4), (11, 4), (11, 4), (11, 4), (11, 4), (5, 4), (0, 64), (0, 64), (0, 8), (6, 12), (0, 64), (0, 64), (4, 5), (0, 64), (0, 64), (0, 64), (0, 64), (0, 64), (4, 6), (0, 64), (0, 64), (0, 64), (0, 64), (0, 64), (0, 64), (0, 5)], va_up (va_up (va_up (va_up (va_up (va_up (va_up (va_up (va_up (va_up (va_up (va_up (va_up (va_up (va_up (va_up I 25 (fun _ => 0)) 26 (fun _ => 0)) 27 (fun _ => 0)) 28 (fun _ => 0)) 29 (fun _ => 0)) 30 (fun _ => 0)) 31 (fun _ => 0)) 32 (fun _ => 0)) 33 (fun _ => 0)) 34 (fun _ => 0)) 35 (fun _ => 0)) 36 (fun _ => 0)) 37 (fun _ => 0)) 38 (fun _ => 0)) 39 (fun _ => 0)) 40 (fun _ => 0), va_up (va_up (va_up (va_up (va_up (va_up (va_up (va_up (va_up (va_up (va_up (va_up (va_up (va_up (va_up (va_up L 25 (fun _ => 0)) 26 (fun _ => 0)) 27 (fun _ => 0)) 28 (fun _ => 0)) 29 (fun _ => 0)) 30 (fun _ => 0)) 31 (fun _ => 0)) 32 (fun _ => 0)) 33 (fun _ => 0)) 34 (fun _ => 0)) 35 (fun _ => 0)) 36 (fun _ => 0)) 37 (fun _ => 0)) 38 (fun _ => 0)) 39 (fun _ => 0)) 40 (fun _ => 0), xm_up (va_up (xm_up (va_up (va_up (va_up (va_up (va_up (va_up (va_up (va_up (xm_up (va_up (va_up (va_up (va_up (va_up (va_up (va_up (xm_up (va_up (xm_up (va_up P 25 (fun _ => none)) 24 2 (some 25)) 26 (fun _ => none)) 24 3 (some 26)) 27 (fun _ => none)) 28 (fun _ => none)) 29 (fun _ => none)) 30 (fun _ => none)) 31 (fun _ => none)) 32 (fun _ => none)) 27 (fun i => if i < 5 then some (28 + i) else none)) 24 4 (some 27)) 33 (fun _ => none)) 34 (fun _ => none)) 35 (fun _ => none)) 36 (fun _ => none)) 37 (fun _ => none)) 38 (fun _ => none)) 39 (fun _ => none)) 33 (fun i => if i < 6 then some (34 + i) else none)) 24 5 (some 33)) 40 (fun _ => none)) 24 6 (some 40))) rfl rfl ?_
  refine xw_go xb_6 4 rfl ⟨(by decide), (by decide), rfl, rfl, trivial⟩ ?_
  refine xw_at (f' := (57, [.ref 24, .ref 1, .ref 20], [])) (h' := ([(12, 8), (8, 15), (0, 64), (0, 64), (2, 5), (7, 3), (4, 8), (0, 72), (0, 72), (0, 72), (0, 72), (0, 72), (0, 72), (0, 72), (0, 72), (11, 4), (11, 4), (11, 4), (11, 4), (11, 4), (5, 4), (0, 64), (0, 64), (0, 8), (6, 12), (0, 64), (0, 64), (4, 5), (0, 64), (0, 64), (0, 64), (0, 64), (0, 64), (4, 6), (0, 64), (0, 64), (0, 64), (0, 64), (0, 64), (0, 64), (0, 5), (0, 5)], va_up (va_up (va_up (va_up (va_up (va_up (va_up (va_up (va_up (va_up (va_up (va_up (va_up (va_up (va_up (va_up (va_up I 25 (fun _ => 0)) 26 (fun _ => 0)) 27 (fun _ => 0)) 28 (fun _ => 0)) 29 (fun _ => 0)) 30 (fun _ => 0)) 31 (fun _ => 0)) 32 (fun _ => 0)) 33 (fun _ => 0)) 34 (fun _ => 0)) 35 (fun _ => 0)) 36 (fun _ => 0)) 37 (fun _ => 0)) 38 (fun _ => 0)) 39 (fun _ => 0)) 40 (fun _ => 0)) 41 (fun _ => 0), va_up (va_up (va_up (va_up (va_up (va_up (va_up (va_up (va_up (va_up (va_up (va_up (va_up (va_up (va_up (va_up (va_up L 25 (fun _ => 0)) 26 (fun _ => 0)) 27 (fun _ => 0)) 28 (fun _ => 0)) 29 (fun _ => 0)) 30 (fun _ => 0)) 31 (fun _ => 0)) 32 (fun _ => 0)) 33 (fun _ => 0)) 34 (fun _ => 0)) 35 (fun _ => 0)) 36 (fun _ => 0)) 37 (fun _ => 0)) 38 (fun _ => 0)) 39 (fun _ => 0)) 40 (fun _ => 0)) 41 (fun _ => 0), xm_up (va_up (xm_up (va_up (xm_up (va_up (va_up (va_up (va_up (va_up (va_up (va_up (va_up (xm_up (va_up (va_up (va_up (va_up (va_up (va_up (va_up (xm_up (va_up (xm_up (va_up P 25 (fun _ => none)) 24 2 (some 25)) 26 (fun _ => none)) 24 3 (some 26)) 27 (fun _ => none)) 28 (fun _ => none)) 29 (fun _ => none)) 30 (fun _ => none)) 31 (fun _ => none)) 32 (fun _ => none)) 27 (fun i => if i < 5 then some (28 + i) else none)) 24 4 (some 27)) 33 (fun _ => none)) 34 (fun _ => none)) 35 (fun _ => none)) 36 (fun _ => none)) 37 (fun _ => none)) 38 (fun _ => none)) 39 (fun _ => none)) 33 (fun i => if i < 6 then some (34 + i) else none)) 24 5 (some 33)) 40 (fun _ => none)) 24 6 (some 40)) 41 (fun _ => none)) 24 7 (some 41))) rfl rfl ?_
  refine xw_go xb_6 3 rfl ⟨rfl, rfl, trivial⟩ ?_
  refine xw_at (f' := (62, [.ref 24, .ref 1, .ref 20], [])) (h' := ([(12, 8), (8, 15), (0, 64), (0, 64), (2, 5), (7, 3), (4, 8), (0, 72), (0, 72), (0, 72), (0, 72), (0, 72), (0, 72), (0, 72), (0, 72), (11, 4), (11, 4), (11, 4), (11, 4), (11, 4), (5, 4), (0, 64), (0, 64), (0, 8), (6, 12), (0, 64), (0, 64), (4, 5), (0, 64), (0, 64), (0, 64), (0, 64), (0, 64), (4, 6), (0, 64), (0, 64), (0, 64), (0, 64), (0, 64), (0, 64), (0, 5), (0, 5)], va_up (va_up (va_up (va_up (va_up (va_up (va_up (va_up (va_up (va_up (va_up (va_up (va_up (va_up (va_up (va_up (va_up I 25 (fun _ => 0)) 26 (fun _ => 0)) 27 (fun _ => 0)) 28 (fun _ => 0)) 29 (fun _ => 0)) 30 (fun _ => 0)) 31 (fun _ => 0)) 32 (fun _ => 0)) 33 (fun _ => 0)) 34 (fun _ => 0)) 35 (fun _ => 0)) 36 (fun _ => 0)) 37 (fun _ => 0)) 38 (fun _ => 0)) 39 (fun _ => 0)) 40 (fun _ => 0)) 41 (fun _ => 0), va_up (va_up (va_up (va_up (va_up (va_up (va_up (va_up (va_up (va_up (va_up (va_up (va_up (va_up (va_up (va_up (va_up L 25 (fun _ => 0)) 26 (fun _ => 0)) 27 (fun _ => 0)) 28 (fun _ => 0)) 29 (fun _ => 0)) 30 (fun _ => 0)) 31 (fun _ => 0)) 32 (fun _ => 0)) 33 (fun _ => 0)) 34 (fun _ => 0)) 35 (fun _ => 0)) 36 (fun _ => 0)) 37 (fun _ => 0)) 38 (fun _ => 0)) 39 (fun _ => 0)) 40 (fun _ => 0)) 41 (fun _ => 0), xm_up (xm_up (va_up (xm_up (va_up (xm_up (va_up (va_up (va_up (va_up (va_up (va_up (va_up (va_up (xm_up (va_up (va_up (va_up (va_up (va_up (va_up (va_up (xm_up (va_up (xm_up (va_up P 25 (fun _ => none)) 24 2 (some 25)) 26 (fun _ => none)) 24 3 (some 26)) 27 (fun _ => none)) 28 (fun _ => none)) 29 (fun _ => none)) 30 (fun _ => none)) 31 (fun _ => none)) 32 (fun _ => none)) 27 (fun i => if i < 5 then some (28 + i) else none)) 24 4 (some 27)) 33 (fun _ => none)) 34 (fun _ => none)) 35 (fun _ => none)) 36 (fun _ => none)) 37 (fun _ => none)) 38 (fun _ => none)) 39 (fun _ => none)) 33 (fun i => if i < 6 then some (34 + i) else none)) 24 5 (some 33)) 40 (fun _ => none)) 24 6 (some 40)) 41 (fun _ => none)) 24 7 (some 41)) 24 0 (some 1))) rfl rfl ?_
  refine xw_go xb_6 3 rfl ⟨rfl, rfl, trivial⟩ ?_
  refine xw_at (f' := (67, [.ref 24, .ref 1, .ref 20], [])) (h' := ([(12, 8), (8, 15), (0, 64), (0, 64), (2, 5), (7, 3), (4, 8), (0, 72), (0, 72), (0, 72), (0, 72), (0, 72), (0, 72), (0, 72), (0, 72), (11, 4), (11, 4), (11, 4), (11, 4), (11, 4), (5, 4), (0, 64), (0, 64), (0, 8), (6, 12), (0, 64), (0, 64), (4, 5), (0, 64), (0, 64), (0, 64), (0, 64), (0, 64), (4, 6), (0, 64), (0, 64), (0, 64), (0, 64), (0, 64), (0, 64), (0, 5), (0, 5)], va_up (va_up (va_up (va_up (va_up (va_up (va_up (va_up (va_up (va_up (va_up (va_up (va_up (va_up (va_up (va_up (va_up I 25 (fun _ => 0)) 26 (fun _ => 0)) 27 (fun _ => 0)) 28 (fun _ => 0)) 29 (fun _ => 0)) 30 (fun _ => 0)) 31 (fun _ => 0)) 32 (fun _ => 0)) 33 (fun _ => 0)) 34 (fun _ => 0)) 35 (fun _ => 0)) 36 (fun _ => 0)) 37 (fun _ => 0)) 38 (fun _ => 0)) 39 (fun _ => 0)) 40 (fun _ => 0)) 41 (fun _ => 0), va_up (va_up (va_up (va_up (va_up (va_up (va_up (va_up (va_up (va_up (va_up (va_up (va_up (va_up (va_up (va_up (va_up L 25 (fun _ => 0)) 26 (fun _ => 0)) 27 (fun _ => 0)) 28 (fun _ => 0)) 29 (fun _ => 0)) 30 (fun _ => 0)) 31 (fun _ => 0)) 32 (fun _ => 0)) 33 (fun _ => 0)) 34 (fun _ => 0)) 35 (fun _ => 0)) 36 (fun _ => 0)) 37 (fun _ => 0)) 38 (fun _ => 0)) 39 (fun _ => 0)) 40 (fun _ => 0)) 41 (fun _ => 0), xm_up (xm_up (xm_up (va_up (xm_up (va_up (xm_up (va_up (va_up (va_up (va_up (va_up (va_up (va_up (va_up (xm_up (va_up (va_up (va_up (va_up (va_up (va_up (va_up (xm_up (va_up (xm_up (va_up P 25 (fun _ => none)) 24 2 (some 25)) 26 (fun _ => none)) 24 3 (some 26)) 27 (fun _ => none)) 28 (fun _ => none)) 29 (fun _ => none)) 30 (fun _ => none)) 31 (fun _ => none)) 32 (fun _ => none)) 27 (fun i => if i < 5 then some (28 + i) else none)) 24 4 (some 27)) 33 (fun _ => none)) 34 (fun _ => none)) 35 (fun _ => none)) 36 (fun _ => none)) 37 (fun _ => none)) 38 (fun _ => none)) 39 (fun _ => none)) 33 (fun i => if i < 6 then some (34 + i) else none)) 24 5 (some 33)) 40 (fun _ => none)) 24 6 (some 40)) 41 (fun _ => none)) 24 7 (some 41)) 24 0 (some 1)) 24 1 (some 20))) rfl rfl ?_
  refine xw_ret xb_6 rfl rfl trivial ?_
  exact ⟨rfl, rfl⟩

def xjI_reader (I : Nat → Nat → Int32) : Nat → Nat → Int32 := va_up (va_up (va_up (va_up (va_up (va_up (va_up I 44 (fun _ => 0)) 45 (fun _ => 0)) 46 (fun _ => 0)) 47 (fun _ => 0)) 48 (fun _ => 0)) 49 (fun _ => 0)) 50 (fun _ => 0)
def xjL_reader (L : Nat → Nat → Int64) : Nat → Nat → Int64 := va_up (va_up (va_up (va_up (va_up (va_up (va_up L 44 (fun _ => 0)) 45 (fun _ => 0)) 46 (fun _ => 0)) 47 (fun _ => 0)) 48 (fun _ => 0)) 49 (fun _ => 0)) 50 (fun _ => 0)
def xjP_reader (P : Nat → Nat → Option Nat) : Nat → Nat → Option Nat := xm_up (va_up (xm_up (va_up (xm_up (va_up (xm_up (va_up (xm_up (va_up (xm_up (xm_up (va_up (xm_up (va_up P 44 (fun _ => none)) 43 6 (some 44)) 45 (fun _ => none)) 43 8 (some 45)) 43 0 (some 42)) 46 (fun _ => none)) 45 0 (some 46)) 47 (fun _ => none)) 45 1 (some 47)) 48 (fun _ => none)) 45 2 (some 48)) 49 (fun _ => none)) 45 3 (some 49)) 50 (fun _ => none)) 45 4 (some 50)
theorem c_reader {d : Nat} {I : Nat → Nat → Int32} {L : Nat → Nat → Int64} {P : Nat → Nat → Option Nat}  : xm_Z (d + 2) 7 [.ref 43, .ref 42] ([(12, 8), (8, 15), (0, 64), (0, 64), (2, 5), (7, 3), (4, 8), (0, 72), (0, 72), (0, 72), (0, 72), (0, 72), (0, 72), (0, 72), (0, 72), (11, 4), (11, 4), (11, 4), (11, 4), (11, 4), (5, 4), (0, 64), (0, 64), (0, 8), (6, 12), (0, 64), (0, 64), (4, 5), (0, 64), (0, 64), (0, 64), (0, 64), (0, 64), (4, 6), (0, 64), (0, 64), (0, 64), (0, 64), (0, 64), (0, 64), (0, 5), (0, 5), (0, 110), (9, 9)], I, L, P) (fun rz hz => rz = none ∧ hz = ([(12, 8), (8, 15), (0, 64), (0, 64), (2, 5), (7, 3), (4, 8), (0, 72), (0, 72), (0, 72), (0, 72), (0, 72), (0, 72), (0, 72), (0, 72), (11, 4), (11, 4), (11, 4), (11, 4), (11, 4), (5, 4), (0, 64), (0, 64), (0, 8), (6, 12), (0, 64), (0, 64), (4, 5), (0, 64), (0, 64), (0, 64), (0, 64), (0, 64), (4, 6), (0, 64), (0, 64), (0, 64), (0, 64), (0, 64), (0, 64), (0, 5), (0, 5), (0, 110), (9, 9), (0, 64), (2, 5), (11, 4), (11, 4), (11, 4), (11, 4), (11, 4)], xjI_reader I, xjL_reader L, xjP_reader P)) := by
  refine xw_S xb_7 (l := [.ref 43, .ref 42, .float 0]) (Nat.le_of_ble_eq_true rfl) rfl ?_
  refine xw_go xb_7 1 rfl trivial ?_
  refine xw_at (f' := (1, [.ref 43, .ref 42, .float 0], [.ref 43])) (h' := ([(12, 8), (8, 15), (0, 64), (0, 64), (2, 5), (7, 3), (4, 8), (0, 72), (0, 72), (0, 72), (0, 72), (0, 72), (0, 72), (0, 72), (0, 72), (11, 4), (11, 4), (11, 4), (11, 4), (11, 4), (5, 4), (0, 64), (0, 64), (0, 8), (6, 12), (0, 64), (0, 64), (4, 5), (0, 64), (0, 64), (0, 64), (0, 64), (0, 64), (4, 6), (0, 64), (0, 64), (0, 64), (0, 64), (0, 64), (0, 64), (0, 5), (0, 5), (0, 110), (9, 9)], I, L, P)) rfl rfl ?_
  refine xw_obj xb_7 rfl rfl rfl ?_
  refine xw_at (f' := (4, [.ref 43, .ref 42, .float 0], [])) (h' := ([(12, 8), (8, 15), (0, 64), (0, 64), (2, 5), (7, 3), (4, 8), (0, 72), (0, 72), (0, 72), (0, 72), (0, 72), (0, 72), (0, 72), (0, 72), (11, 4), (11, 4), (11, 4), (11, 4), (11, 4), (5, 4), (0, 64), (0, 64), (0, 8), (6, 12), (0, 64), (0, 64), (4, 5), (0, 64), (0, 64), (0, 64), (0, 64), (0, 64), (4, 6), (0, 64), (0, 64), (0, 64), (0, 64), (0, 64), (0, 64), (0, 5), (0, 5), (0, 110), (9, 9)], I, L, P)) rfl rfl ?_
  refine xw_go xb_7 4 rfl ⟨(by decide), (by decide), rfl, rfl, trivial⟩ ?_
  refine xw_at (f' := (12, [.ref 43, .ref 42, .float 0], [])) (h' := ([(12, 8), (8, 15), (0, 64), (0, 64), (2, 5), (7, 3), (4, 8), (0, 72), (0, 72), (0, 72), (0, 72), (0, 72), (0, 72), (0, 72), (0, 72), (11, 4), (11, 4), (11, 4), (11, 4), (11, 4), (5, 4), (0, 64), (0, 64), (0, 8), (6, 12), (0, 64), (0, 64), (4, 5), (0, 64), (0, 64), (0, 64), (0, 64), (0, 64), (4, 6), (0, 64), (0, 64), (0, 64), (0, 64), (0, 64), (0, 64), (0, 5), (0, 5), (0, 110), (9, 9), (0, 64)], va_up I 44 (fun _ => 0), va_up L 44 (fun _ => 0), xm_up (va_up P 44 (fun _ => none)) 43 6 (some 44))) rfl rfl ?_
  refine xw_go xb_7 4 rfl ⟨(by decide), (by decide), rfl, rfl, trivial⟩ ?_
  refine xw_at (f' := (20, [.ref 43, .ref 42, .float 0], [])) (h' := ([(12, 8), (8, 15), (0, 64), (0, 64), (2, 5), (7, 3), (4, 8), (0, 72), (0, 72), (0, 72), (0, 72), (0, 72), (0, 72), (0, 72), (0, 72), (11, 4), (11, 4), (11, 4), (11, 4), (11, 4), (5, 4), (0, 64), (0, 64), (0, 8), (6, 12), (0, 64), (0, 64), (4, 5), (0, 64), (0, 64), (0, 64), (0, 64), (0, 64), (4, 6), (0, 64), (0, 64), (0, 64), (0, 64), (0, 64), (0, 64), (0, 5), (0, 5), (0, 110), (9, 9), (0, 64), (2, 5)], va_up (va_up I 44 (fun _ => 0)) 45 (fun _ => 0), va_up (va_up L 44 (fun _ => 0)) 45 (fun _ => 0), xm_up (va_up (xm_up (va_up P 44 (fun _ => none)) 43 6 (some 44)) 45 (fun _ => none)) 43 8 (some 45))) rfl rfl ?_
  refine xw_go xb_7 3 rfl ⟨rfl, rfl, trivial⟩ ?_
  refine xw_at (f' := (25, [.ref 43, .ref 42, .float 0], [])) (h' := ([(12, 8), (8, 15), (0, 64), (0, 64), (2, 5), (7, 3), (4, 8), (0, 72), (0, 72), (0, 72), (0, 72), (0, 72), (0, 72), (0, 72), (0, 72), (11, 4), (11, 4), (11, 4), (11, 4), (11, 4), (5, 4), (0, 64), (0, 64), (0, 8), (6, 12), (0, 64), (0, 64), (4, 5), (0, 64), (0, 64), (0, 64), (0, 64), (0, 64), (4, 6), (0, 64), (0, 64), (0, 64), (0, 64), (0, 64), (0, 64), (0, 5), (0, 5), (0, 110), (9, 9), (0, 64), (2, 5)], va_up (va_up I 44 (fun _ => 0)) 45 (fun _ => 0), va_up (va_up L 44 (fun _ => 0)) 45 (fun _ => 0), xm_up (xm_up (va_up (xm_up (va_up P 44 (fun _ => none)) 43 6 (some 44)) 45 (fun _ => none)) 43 8 (some 45)) 43 0 (some 42))) rfl rfl ?_
  refine xw_go xb_7 10 rfl ⟨rfl, trivial⟩ ?_
  refine xw_at (f' := (41, [.ref 43, .ref 42, .int 0], [.ref 46, .ref 46, .int 0, .ref 45])) (h' := ([(12, 8), (8, 15), (0, 64), (0, 64), (2, 5), (7, 3), (4, 8), (0, 72), (0, 72), (0, 72), (0, 72), (0, 72), (0, 72), (0, 72), (0, 72), (11, 4), (11, 4), (11, 4), (11, 4), (11, 4), (5, 4), (0, 64), (0, 64), (0, 8), (6, 12), (0, 64), (0, 64), (4, 5), (0, 64), (0, 64), (0, 64), (0, 64), (0, 64), (4, 6), (0, 64), (0, 64), (0, 64), (0, 64), (0, 64), (0, 64), (0, 5), (0, 5), (0, 110), (9, 9), (0, 64), (2, 5), (11, 4)], va_up (va_up (va_up I 44 (fun _ => 0)) 45 (fun _ => 0)) 46 (fun _ => 0), va_up (va_up (va_up L 44 (fun _ => 0)) 45 (fun _ => 0)) 46 (fun _ => 0), va_up (xm_up (xm_up (va_up (xm_up (va_up P 44 (fun _ => none)) 43 6 (some 44)) 45 (fun _ => none)) 43 8 (some 45)) 43 0 (some 42)) 46 (fun _ => none))) rfl rfl ?_
  refine xw_call xb_7 rfl rfl rfl rfl rfl (Or.inr ⟨_, _, rfl, rfl⟩) c_sprInit ?_
  rintro _ _ ⟨rfl, rfl⟩
  refine xw_at (f' := (44, [.ref 43, .ref 42, .int 0], [.ref 46, .int 0, .ref 45])) (h' := ([(12, 8), (8, 15), (0, 64), (0, 64), (2, 5), (7, 3), (4, 8), (0, 72), (0, 72), (0, 72), (0, 72), (0, 72), (0, 72), (0, 72), (0, 72), (11, 4), (11, 4), (11, 4), (11, 4), (11, 4), (5, 4), (0, 64), (0, 64), (0, 8), (6, 12), (0, 64), (0, 64), (4, 5), (0, 64), (0, 64), (0, 64), (0, 64), (0, 64), (4, 6), (0, 64), (0, 64), (0, 64), (0, 64), (0, 64), (0, 64), (0, 5), (0, 5), (0, 110), (9, 9), (0, 64), (2, 5), (11, 4)], va_up (va_up (va_up I 44 (fun _ => 0)) 45 (fun _ => 0)) 46 (fun _ => 0), va_up (va_up (va_up L 44 (fun _ => 0)) 45 (fun _ => 0)) 46 (fun _ => 0), va_up (xm_up (xm_up (va_up (xm_up (va_up P 44 (fun _ => none)) 43 6 (some 44)) 45 (fun _ => none)) 43 8 (some 45)) 43 0 (some 42)) 46 (fun _ => none))) rfl rfl ?_
  refine xw_go xb_7 11 rfl ⟨(xn_ar (n := 0) (N := 5) rfl (by decide) (by decide)), (Or.inl ⟨rfl, rfl⟩), rfl, trivial⟩ ?_
  refine xw_at (f' := (41, [.ref 43, .ref 42, .int 1], [.ref 47, .ref 47, .int 1, .ref 45])) (h' := ([(12, 8), (8, 15), (0, 64), (0, 64), (2, 5), (7, 3), (4, 8), (0, 72), (0, 72), (0, 72), (0, 72), (0, 72), (0, 72), (0, 72), (0, 72), (11, 4), (11, 4), (11, 4), (11, 4), (11, 4), (5, 4), (0, 64), (0, 64), (0, 8), (6, 12), (0, 64), (0, 64), (4, 5), (0, 64), (0, 64), (0, 64), (0, 64), (0, 64), (4, 6), (0, 64), (0, 64), (0, 64), (0, 64), (0, 64), (0, 64), (0, 5), (0, 5), (0, 110), (9, 9), (0, 64), (2, 5), (11, 4), (11, 4)], va_up (va_up (va_up (va_up I 44 (fun _ => 0)) 45 (fun _ => 0)) 46 (fun _ => 0)) 47 (fun _ => 0), va_up (va_up (va_up (va_up L 44 (fun _ => 0)) 45 (fun _ => 0)) 46 (fun _ => 0)) 47 (fun _ => 0), va_up (xm_up (va_up (xm_up (xm_up (va_up (xm_up (va_up P 44 (fun _ => none)) 43 6 (some 44)) 45 (fun _ => none)) 43 8 (some 45)) 43 0 (some 42)) 46 (fun _ => none)) 45 0 (some 46)) 47 (fun _ => none))) rfl rfl ?_
  refine xw_call xb_7 rfl rfl rfl rfl rfl (Or.inr ⟨_, _, rfl, rfl⟩) c_sprInit ?_
  rintro _ _ ⟨rfl, rfl⟩
  refine xw_at (f' := (44, [.ref 43, .ref 42, .int 1], [.ref 47, .int 1, .ref 45])) (h' := ([(12, 8), (8, 15), (0, 64), (0, 64), (2, 5), (7, 3), (4, 8), (0, 72), (0, 72), (0, 72), (0, 72), (0, 72), (0, 72), (0, 72), (0, 72), (11, 4), (11, 4), (11, 4), (11, 4), (11, 4), (5, 4), (0, 64), (0, 64), (0, 8), (6, 12), (0, 64), (0, 64), (4, 5), (0, 64), (0, 64), (0, 64), (0, 64), (0, 64), (4, 6), (0, 64), (0, 64), (0, 64), (0, 64), (0, 64), (0, 64), (0, 5), (0, 5), (0, 110), (9, 9), (0, 64), (2, 5), (11, 4), (11, 4)], va_up (va_up (va_up (va_up I 44 (fun _ => 0)) 45 (fun _ => 0)) 46 (fun _ => 0)) 47 (fun _ => 0), va_up (va_up (va_up (va_up L 44 (fun _ => 0)) 45 (fun _ => 0)) 46 (fun _ => 0)) 47 (fun _ => 0), va_up (xm_up (va_up (xm_up (xm_up (va_up (xm_up (va_up P 44 (fun _ => none)) 43 6 (some 44)) 45 (fun _ => none)) 43 8 (some 45)) 43 0 (some 42)) 46 (fun _ => none)) 45 0 (some 46)) 47 (fun _ => none))) rfl rfl ?_
  refine xw_go xb_7 11 rfl ⟨(xn_ar (n := 1) (N := 5) rfl (by decide) (by decide)), (Or.inl ⟨rfl, rfl⟩), rfl, trivial⟩ ?_
  refine xw_at (f' := (41, [.ref 43, .ref 42, .int 2], [.ref 48, .ref 48, .int 2, .ref 45])) (h' := ([(12, 8), (8, 15), (0, 64), (0, 64), (2, 5), (7, 3), (4, 8), (0, 72), (0, 72), (0, 72), (0, 72), (0, 72), (0, 72), (0, 72), (0, 72), (11, 4), (11, 4), (11, 4), (11, 4), (11, 4), (5, 4), (0, 64), (0, 64), (0, 8), (6, 12), (0, 64), (0, 64), (4, 5), (0, 64), (0, 64), (0, 64), (0, 64), (0, 64), (4, 6), (0, 64), (0, 64), (0, 64), (0, 64), (0, 64), (0, 64), (0, 5), (0, 5), (0, 110), (9, 9), (0, 64), (2, 5), (11, 4), (11, 4), (11, 4)], va_up (va_up (va_up (va_up (va_up I 44 (fun _ => 0)) 45 (fun _ => 0)) 46 (fun _ => 0)) 47 (fun _ => 0)) 48 (fun _ => 0), va_up (va_up (va_up (va_up (va_up L 44 (fun _ => 0)) 45 (fun _ => 0)) 46 (fun _ => 0)) 47 (fun _ => 0)) 48 (fun _ => 0), va_up (xm_up (va_up (xm_up (va_up (xm_up (xm_up (va_up (xm_up (va_up P 44 (fun _ => none)) 43 6 (some 44)) 45 (fun _ => none)) 43 8 (some 45)) 43 0 (some 42)) 46 (fun _ => none)) 45 0 (some 46)) 47 (fun _ => none)) 45 1 (some 47)) 48 (fun _ => none))) rfl rfl ?_
  refine xw_call xb_7 rfl rfl rfl rfl rfl (Or.inr ⟨_, _, rfl, rfl⟩) c_sprInit ?_
  rintro _ _ ⟨rfl, rfl⟩
  refine xw_at (f' := (44, [.ref 43, .ref 42, .int 2], [.ref 48, .int 2, .ref 45])) (h' := ([(12, 8), (8, 15), (0, 64), (0, 64), (2, 5), (7, 3), (4, 8), (0, 72), (0, 72), (0, 72), (0, 72), (0, 72), (0, 72), (0, 72), (0, 72), (11, 4), (11, 4), (11, 4), (11, 4), (11, 4), (5, 4), (0, 64), (0, 64), (0, 8), (6, 12), (0, 64), (0, 64), (4, 5), (0, 64), (0, 64), (0, 64), (0, 64), (0, 64), (4, 6), (0, 64), (0, 64), (0, 64), (0, 64), (0, 64), (0, 64), (0, 5), (0, 5), (0, 110), (9, 9), (0, 64), (2, 5), (11, 4), (11, 4), (11, 4)], va_up (va_up (va_up (va_up (va_up I 44 (fun _ => 0)) 45 (fun _ => 0)) 46 (fun _ => 0)) 47 (fun _ => 0)) 48 (fun _ => 0), va_up (va_up (va_up (va_up (va_up L 44 (fun _ => 0)) 45 (fun _ => 0)) 46 (fun _ => 0)) 47 (fun _ => 0)) 48 (fun _ => 0), va_up (xm_up (va_up (xm_up (va_up (xm_up (xm_up (va_up (xm_up (va_up P 44 (fun _ => none)) 43 6 (some 44)) 45 (fun _ => none)) 43 8 (some 45)) 43 0 (some 42)) 46 (fun _ => none)) 45 0 (some 46)) 47 (fun _ => none)) 45 1 (some 47)) 48 (fun _ => none))) rfl rfl ?_
  refine xw_go xb_7 11 rfl ⟨(xn_ar (n := 2) (N := 5) rfl (by decide) (by decide)), (Or.inl ⟨rfl, rfl⟩), rfl, trivial⟩ ?_
  refine xw_at (f' := (41, [.ref 43, .ref 42, .int 3], [.ref 49, .ref 49, .int 3, .ref 45])) (h' := ([(12, 8), (8, 15), (0, 64), (0, 64), (2, 5), (7, 3), (4, 8), (0, 72), (0, 72), (0, 72), (0, 72), (0, 72), (0, 72), (0, 72), (0, 72), (11, 4), (11, 4), (11, 4), (11, 4), (11, 4), (5, 4), (0, 64), (0, 64), (0, 8), (6, 12), (0, 64), (0, 64), (4, 5), (0, 64), (0, 64), (0, 64), (0, 64), (0, 64), (4, 6), (0, 64), (0, 64), (0, 64), (0, 64), (0, 64), (0, 64), (0, 5), (0, 5), (0, 110), (9, 9), (0, 64), (2, 5), (11, 4), (11, 4), (11, 4), (11, 4)], va_up (va_up (va_up (va_up (va_up (va_up I 44 (fun _ => 0)) 45 (fun _ => 0)) 46 (fun _ => 0)) 47 (fun _ => 0)) 48 (fun _ => 0)) 49 (fun _ => 0), va_up (va_up (va_up (va_up (va_up (va_up L 44 (fun _ => 0)) 45 (fun _ => 0)) 46 (fun _ => 0)) 47 (fun _ => 0)) 48 (fun _ => 0)) 49 (fun _ => 0), va_up (xm_up (va_up (xm_up (va_up (xm_up (va_up (xm_up (xm_up (va_up (xm_up (va_up P 44 (fun _ => none)) 43 6 (some 44)) 45 (fun _ => none)) 43 8 (some 45)) 43 0 (some 42)) 46 (fun _ => none)) 45 0 (some 46)) 47 (fun _ => none)) 45 1 (some 47)) 48 (fun _ => none)) 45 2 (some 48)) 49 (fun _ => none))) rfl rfl ?_
  refine xw_call xb_7 rfl rfl rfl rfl rfl (Or.inr ⟨_, _, rfl, rfl⟩) c_sprInit ?_
  rintro _ _ ⟨rfl, rfl⟩
  refine xw_at (f' := (44, [.ref 43, .ref 42, .int 3], [.ref 49, .int 3, .ref 45])) (h' := ([(12, 8), (8, 15), (0, 64), (0, 64), (2, 5), (7, 3), (4, 8), (0, 72), (0, 72), (0, 72), (0, 72), (0, 72), (0, 72), (0, 72), (0, 72), (11, 4), (11, 4), (11, 4), (11, 4), (11, 4), (5, 4), (0, 64), (0, 64), (0, 8), (6, 12), (0, 64), (0, 64), (4, 5), (0, 64), (0, 64), (0, 64), (0, 64), (0, 64), (4, 6), (0, 64), (0, 64), (0, 64), (0, 64), (0, 64), (0, 64), (0, 5), (0, 5), (0, 110), (9, 9), (0, 64), (2, 5), (11, 4), (11, 4), (11, 4), (11, 4)], va_up (va_up (va_up (va_up (va_up (va_up I 44 (fun _ => 0)) 45 (fun _ => 0)) 46 (fun _ => 0)) 47 (fun _ => 0)) 48 (fun _ => 0)) 49 (fun _ => 0), va_up (va_up (va_up (va_up (va_up (va_up L 44 (fun _ => 0)) 45 (fun _ => 0)) 46 (fun _ => 0)) 47 (fun _ => 0)) 48 (fun _ => 0)) 49 (fun _ => 0), va_up (xm_up (va_up (xm_up (va_up (xm_up (va_up (xm_up (xm_up (va_up (xm_up (va_up P 44 (fun _ => none)) 43 6 (some 44)) 45 (fun _ => none)) 43 8 (some 45)) 43 0 (some 42)) 46 (fun _ => none)) 45 0 (some 46)) 47 (fun _ => none)) 45 1 (some 47)) 48 (fun _ => none)) 45 2 (some 48)) 49 (fun _ => none))) rfl rfl ?_
  refine xw_go xb_7 11 rfl ⟨(xn_ar (n := 3) (N := 5) rfl (by decide) (by decide)), (Or.inl ⟨rfl, rfl⟩), rfl, trivial⟩ ?_
  refine xw_at (f' := (41, [.ref 43, .ref 42, .int 4], [.ref 50, .ref 50, .int 4, .ref 45])) (h' := ([(12, 8), (8, 15), (0, 64), (0, 64), (2, 5), (7, 3), (4, 8), (0, 72), (0, 72), (0, 72), (0, 72), (0, 72), (0, 72), (0, 72), (0, 72), (11, 4), (11, 4), (11, 4), (11, 4), (11, 4), (5, 4), (0, 64), (0, 64), (0, 8), (6, 12), (0, 64), (0, 64), (4, 5), (0, 64), (0, 64), (0, 64), (0, 64), (0, 64), (4, 6), (0, 64), (0, 64), (0, 64), (0, 64), (0, 64), (0, 64), (0, 5), (0, 5), (0, 110), (9, 9), (0, 64), (2, 5), (11, 4), (11, 4), (11, 4), (11, 4), (11, 4)], va_up (va_up (va_up (va_up (va_up (va_up (va_up I 44 (fun _ => 0)) 45 (fun _ => 0)) 46 (fun _ => 0)) 47 (fun _ => 0)) 48 (fun _ => 0)) 49 (fun _ => 0)) 50 (fun _ => 0), va_up (va_up (va_up (va_up (va_up (va_up (va_up L 44 (fun _ => 0)) 45 (fun _ => 0)) 46 (fun _ => 0)) 47 (fun _ => 0)) 48 (fun _ => 0)) 49 (fun _ => 0)) 50 (fun _ => 0), va_up (xm_up (va_up (xm_up (va_up (xm_up (va_up (xm_up (va_up (xm_up (xm_up (va_up (xm_up (va_up P 44 (fun _ => none)) 43 6 (some 44)) 45 (fun _ => none)) 43 8 (some 45)) 43 0 (some 42)) 46 (fun _ => none)) 45 0 (some 46)) 47 (fun _ => none)) 45 1 (some 47)) 48 (fun _ => none)) 45 2 (some 48)) 49 (fun _ => none)) 45 3 (some 49)) 50 (fun _ => none))) rfl rfl ?_
  refine xw_call xb_7 rfl rfl rfl rfl rfl (Or.inr ⟨_, _, rfl, rfl⟩) c_sprInit ?_
  rintro _ _ ⟨rfl, rfl⟩
  refine xw_at (f' := (44, [.ref 43, .ref 42, .int 4], [.ref 50, .int 4, .ref 45])) (h' := ([(12, 8), (8, 15), (0, 64), (0, 64), (2, 5), (7, 3), (4, 8), (0, 72), (0, 72), (0, 72), (0, 72), (0, 72), (0, 72), (0, 72), (0, 72), (11, 4), (11, 4), (11, 4), (11, 4), (11, 4), (5, 4), (0, 64), (0, 64), (0, 8), (6, 12), (0, 64), (0, 64), (4, 5), (0, 64), (0, 64), (0, 64), (0, 64), (0, 64), (4, 6), (0, 64), (0, 64), (0, 64), (0, 64), (0, 64), (0, 64), (0, 5), (0, 5), (0, 110), (9, 9), (0, 64), (2, 5), (11, 4), (11, 4), (11, 4), (11, 4), (11, 4)], va_up (va_up (va_up (va_up (va_up (va_up (va_up I 44 (fun _ => 0)) 45 (fun _ => 0)) 46 (fun _ => 0)) 47 (fun _ => 0)) 48 (fun _ => 0)) 49 (fun _ => 0)) 50 (fun _ => 0), va_up (va_up (va_up (va_up (va_up (va_up (va_up L 44 (fun _ => 0)) 45 (fun _ => 0)) 46 (fun _ => 0)) 47 (fun _ => 0)) 48 (fun _ => 0)) 49 (fun _ => 0)) 50 (fun _ => 0), va_up (xm_up (va_up (xm_up (va_up (xm_up (va_up (xm_up (va_up (xm_up (xm_up (va_up (xm_up (va_up P 44 (fun _ => none)) 43 6 (some 44)) 45 (fun _ => none)) 43 8 (some 45)) 43 0 (some 42)) 46 (fun _ => none)) 45 0 (some 46)) 47 (fun _ => none)) 45 1 (some 47)) 48 (fun _ => none)) 45 2 (some 48)) 49 (fun _ => none)) 45 3 (some 49)) 50 (fun _ => none))) rfl rfl ?_
  refine xw_go xb_7 6 rfl ⟨(xn_ar (n := 4) (N := 5) rfl (by decide) (by decide)), (Or.inl ⟨rfl, rfl⟩), trivial⟩ ?_
  refine xw_at (f' := (51, [.ref 43, .ref 42, .int 5], [])) (h' := ([(12, 8), (8, 15), (0, 64), (0, 64), (2, 5), (7, 3), (4, 8), (0, 72), (0, 72), (0, 72), (0, 72), (0, 72), (0, 72), (0, 72), (0, 72), (11, 4), (11, 4), (11, 4), (11, 4), (11, 4), (5, 4), (0, 64), (0, 64), (0, 8), (6, 12), (0, 64), (0, 64), (4, 5), (0, 64), (0, 64), (0, 64), (0, 64), (0, 64), (4, 6), (0, 64), (0, 64), (0, 64), (0, 64), (0, 64), (0, 64), (0, 5), (0, 5), (0, 110), (9, 9), (0, 64), (2, 5), (11, 4), (11, 4), (11, 4), (11, 4), (11, 4)], va_up (va_up (va_up (va_up (va_up (va_up (va_up I 44 (fun _ => 0)) 45 (fun _ => 0)) 46 (fun _ => 0)) 47 (fun _ => 0)) 48 (fun _ => 0)) 49 (fun _ => 0)) 50 (fun _ => 0), va_up (va_up (va_up (va_up (va_up (va_up (va_up L 44 (fun _ => 0)) 45 (fun _ => 0)) 46 (fun _ => 0)) 47 (fun _ => 0)) 48 (fun _ => 0)) 49 (fun _ => 0)) 50 (fun _ => 0), xm_up (va_up (xm_up (va_up (xm_up (va_up (xm_up (va_up (xm_up (va_up (xm_up (xm_up (va_up (xm_up (va_up P 44 (fun _ => none)) 43 6 (some 44)) 45 (fun _ => none)) 43 8 (some 45)) 43 0 (some 42)) 46 (fun _ => none)) 45 0 (some 46)) 47 (fun _ => none)) 45 1 (some 47)) 48 (fun _ => none)) 45 2 (some 48)) 49 (fun _ => none)) 45 3 (some 49)) 50 (fun _ => none)) 45 4 (some 50))) rfl rfl ?_
  refine xw_ret xb_7 rfl rfl trivial ?_
  exact ⟨rfl, rfl⟩

def xjI_sheet52 (I : Nat → Nat → Int32) : Nat → Nat → Int32 := va_up I 53 (fun _ => 0)
def xjL_sheet52 (L : Nat → Nat → Int64) : Nat → Nat → Int64 := va_up L 53 (fun _ => 0)
def xjP_sheet52 (P : Nat → Nat → Option Nat) : Nat → Nat → Option Nat := xm_up (va_up P 53 (fun _ => none)) 52 3 (some 53)
theorem c_sheet52 {d : Nat} {I : Nat → Nat → Int32} {L : Nat → Nat → Int64} {P : Nat → Nat → Option Nat}  : xm_Z (d + 1) 8 [.ref 52] ([(12, 8), (8, 15), (0, 64), (0, 64), (2, 5), (7, 3), (4, 8), (0, 72), (0, 72), (0, 72), (0, 72), (0, 72), (0, 72), (0, 72), (0, 72), (11, 4), (11, 4), (11, 4), (11, 4), (11, 4), (5, 4), (0, 64), (0, 64), (0, 8), (6, 12), (0, 64), (0, 64), (4, 5), (0, 64), (0, 64), (0, 64), (0, 64), (0, 64), (4, 6), (0, 64), (0, 64), (0, 64), (0, 64), (0, 64), (0, 64), (0, 5), (0, 5), (0, 110), (9, 9), (0, 64), (2, 5), (11, 4), (11, 4), (11, 4), (11, 4), (11, 4), (3, 4), (10, 4)], I, L, P) (fun rz hz => rz = none ∧ hz = ([(12, 8), (8, 15), (0, 64), (0, 64), (2, 5), (7, 3), (4, 8), (0, 72), (0, 72), (0, 72), (0, 72), (0, 72), (0, 72), (0, 72), (0, 72), (11, 4), (11, 4), (11, 4), (11, 4), (11, 4), (5, 4), (0, 64), (0, 64), (0, 8), (6, 12), (0, 64), (0, 64), (4, 5), (0, 64), (0, 64), (0, 64), (0, 64), (0, 64), (4, 6), (0, 64), (0, 64), (0, 64), (0, 64), (0, 64), (0, 64), (0, 5), (0, 5), (0, 110), (9, 9), (0, 64), (2, 5), (11, 4), (11, 4), (11, 4), (11, 4), (11, 4), (3, 4), (10, 4), (1, 24)], xjI_sheet52 I, xjL_sheet52 L, xjP_sheet52 P)) := by
  refine xw_S xb_8 (l := [.ref 52]) (Nat.le_of_ble_eq_true rfl) rfl ?_
  refine xw_go xb_8 1 rfl trivial ?_
  refine xw_at (f' := (1, [.ref 52], [.ref 52])) (h' := ([(12, 8), (8, 15), (0, 64), (0, 64), (2, 5), (7, 3), (4, 8), (0, 72), (0, 72), (0, 72), (0, 72), (0, 72), (0, 72), (0, 72), (0, 72), (11, 4), (11, 4), (11, 4), (11, 4), (11, 4), (5, 4), (0, 64), (0, 64), (0, 8), (6, 12), (0, 64), (0, 64), (4, 5), (0, 64), (0, 64), (0, 64), (0, 64), (0, 64), (4, 6), (0, 64), (0, 64), (0, 64), (0, 64), (0, 64), (0, 64), (0, 5), (0, 5), (0, 110), (9, 9), (0, 64), (2, 5), (11, 4), (11, 4), (11, 4), (11, 4), (11, 4), (3, 4), (10, 4)], I, L, P)) rfl rfl ?_
  refine xw_obj xb_8 rfl rfl rfl ?_
  refine xw_at (f' := (4, [.ref 52], [])) (h' := ([(12, 8), (8, 15), (0, 64), (0, 64), (2, 5), (7, 3), (4, 8), (0, 72), (0, 72), (0, 72), (0, 72), (0, 72), (0, 72), (0, 72), (0, 72), (11, 4), (11, 4), (11, 4), (11, 4), (11, 4), (5, 4), (0, 64), (0, 64), (0, 8), (6, 12), (0, 64), (0, 64), (4, 5), (0, 64), (0, 64), (0, 64), (0, 64), (0, 64), (4, 6), (0, 64), (0, 64), (0, 64), (0, 64), (0, 64), (0, 64), (0, 5), (0, 5), (0, 110), (9, 9), (0, 64), (2, 5), (11, 4), (11, 4), (11, 4), (11, 4), (11, 4), (3, 4), (10, 4)], I, L, P)) rfl rfl ?_
  refine xw_go xb_8 4 rfl ⟨(by decide), (by decide), rfl, rfl, trivial⟩ ?_
  refine xw_at (f' := (12, [.ref 52], [])) (h' := ([(12, 8), (8, 15), (0, 64), (0, 64), (2, 5), (7, 3), (4, 8), (0, 72), (0, 72), (0, 72), (0, 72), (0, 72), (0, 72), (0, 72), (0, 72), (11, 4), (11, 4), (11, 4), (11, 4), (11, 4), (5, 4), (0, 64), (0, 64), (0, 8), (6, 12), (0, 64), (0, 64), (4, 5), (0, 64), (0, 64), (0, 64), (0, 64), (0, 64), (4, 6), (0, 64), (0, 64), (0, 64), (0, 64), (0, 64), (0, 64), (0, 5), (0, 5), (0, 110), (9, 9), (0, 64), (2, 5), (11, 4), (11, 4), (11, 4), (11, 4), (11, 4), (3, 4), (10, 4), (1, 24)], va_up I 53 (fun _ => 0), va_up L 53 (fun _ => 0), xm_up (va_up P 53 (fun _ => none)) 52 3 (some 53))) rfl rfl ?_
  refine xw_ret xb_8 rfl rfl trivial ?_
  exact ⟨rfl, rfl⟩

def xjI_sheet54 (I : Nat → Nat → Int32) : Nat → Nat → Int32 := va_up I 55 (fun _ => 0)
def xjL_sheet54 (L : Nat → Nat → Int64) : Nat → Nat → Int64 := va_up L 55 (fun _ => 0)
def xjP_sheet54 (P : Nat → Nat → Option Nat) : Nat → Nat → Option Nat := xm_up (va_up P 55 (fun _ => none)) 54 3 (some 55)
theorem c_sheet54 {d : Nat} {I : Nat → Nat → Int32} {L : Nat → Nat → Int64} {P : Nat → Nat → Option Nat}  : xm_Z (d + 1) 8 [.ref 54] ([(12, 8), (8, 15), (0, 64), (0, 64), (2, 5), (7, 3), (4, 8), (0, 72), (0, 72), (0, 72), (0, 72), (0, 72), (0, 72), (0, 72), (0, 72), (11, 4), (11, 4), (11, 4), (11, 4), (11, 4), (5, 4), (0, 64), (0, 64), (0, 8), (6, 12), (0, 64), (0, 64), (4, 5), (0, 64), (0, 64), (0, 64), (0, 64), (0, 64), (4, 6), (0, 64), (0, 64), (0, 64), (0, 64), (0, 64), (0, 64), (0, 5), (0, 5), (0, 110), (9, 9), (0, 64), (2, 5), (11, 4), (11, 4), (11, 4), (11, 4), (11, 4), (3, 4), (10, 4), (1, 24), (10, 4)], I, L, P) (fun rz hz => rz = none ∧ hz = ([(12, 8), (8, 15), (0, 64), (0, 64), (2, 5), (7, 3), (4, 8), (0, 72), (0, 72), (0, 72), (0, 72), (0, 72), (0, 72), (0, 72), (0, 72), (11, 4), (11, 4), (11, 4), (11, 4), (11, 4), (5, 4), (0, 64), (0, 64), (0, 8), (6, 12), (0, 64), (0, 64), (4, 5), (0, 64), (0, 64), (0, 64), (0, 64), (0, 64), (4, 6), (0, 64), (0, 64), (0, 64), (0, 64), (0, 64), (0, 64), (0, 5), (0, 5), (0, 110), (9, 9), (0, 64), (2, 5), (11, 4), (11, 4), (11, 4), (11, 4), (11, 4), (3, 4), (10, 4), (1, 24), (10, 4), (1, 24)], xjI_sheet54 I, xjL_sheet54 L, xjP_sheet54 P)) := by
  refine xw_S xb_8 (l := [.ref 54]) (Nat.le_of_ble_eq_true rfl) rfl ?_
  refine xw_go xb_8 1 rfl trivial ?_
  refine xw_at (f' := (1, [.ref 54], [.ref 54])) (h' := ([(12, 8), (8, 15), (0, 64), (0, 64), (2, 5), (7, 3), (4, 8), (0, 72), (0, 72), (0, 72), (0, 72), (0, 72), (0, 72), (0, 72), (0, 72), (11, 4), (11, 4), (11, 4), (11, 4), (11, 4), (5, 4), (0, 64), (0, 64), (0, 8), (6, 12), (0, 64), (0, 64), (4, 5), (0, 64), (0, 64), (0, 64), (0, 64), (0, 64), (4, 6), (0, 64), (0, 64), (0, 64), (0, 64), (0, 64), (0, 64), (0, 5), (0, 5), (0, 110), (9, 9), (0, 64), (2, 5), (11, 4), (11, 4), (11, 4), (11, 4), (11, 4), (3, 4), (10, 4), (1, 24), (10, 4)], I, L, P)) rfl rfl ?_
  refine xw_obj xb_8 rfl rfl rfl ?_
  refine xw_at (f' := (4, [.ref 54], [])) (h' := ([(12, 8), (8, 15), (0, 64), (0, 64), (2, 5), (7, 3), (4, 8), (0, 72), (0, 72), (0, 72), (0, 72), (0, 72), (0, 72), (0, 72), (0, 72), (11, 4), (11, 4), (11, 4), (11, 4), (11, 4), (5, 4), (0, 64), (0, 64), (0, 8), (6, 12), (0, 64), (0, 64), (4, 5), (0, 64), (0, 64), (0, 64), (0, 64), (0, 64), (4, 6), (0, 64), (0, 64), (0, 64), (0, 64), (0, 64), (0, 64), (0, 5), (0, 5), (0, 110), (9, 9), (0, 64), (2, 5), (11, 4), (11, 4), (11, 4), (11, 4), (11, 4), (3, 4), (10, 4), (1, 24), (10, 4)], I, L, P)) rfl rfl ?_
  refine xw_go xb_8 4 rfl ⟨(by decide), (by decide), rfl, rfl, trivial⟩ ?_
  refine xw_at (f' := (12, [.ref 54], [])) (h' := ([(12, 8), (8, 15), (0, 64), (0, 64), (2, 5), (7, 3), (4, 8), (0, 72), (0, 72), (0, 72), (0, 72), (0, 72), (0, 72), (0, 72), (0, 72), (11, 4), (11, 4), (11, 4), (11, 4), (11, 4), (5, 4), (0, 64), (0, 64), (0, 8), (6, 12), (0, 64), (0, 64), (4, 5), (0, 64), (0, 64), (0, 64), (0, 64), (0, 64), (4, 6), (0, 64), (0, 64), (0, 64), (0, 64), (0, 64), (0, 64), (0, 5), (0, 5), (0, 110), (9, 9), (0, 64), (2, 5), (11, 4), (11, 4), (11, 4), (11, 4), (11, 4), (3, 4), (10, 4), (1, 24), (10, 4), (1, 24)], va_up I 55 (fun _ => 0), va_up L 55 (fun _ => 0), xm_up (va_up P 55 (fun _ => none)) 54 3 (some 55))) rfl rfl ?_
  refine xw_ret xb_8 rfl rfl trivial ?_
  exact ⟨rfl, rfl⟩

def xjI_sheet56 (I : Nat → Nat → Int32) : Nat → Nat → Int32 := va_up I 57 (fun _ => 0)
def xjL_sheet56 (L : Nat → Nat → Int64) : Nat → Nat → Int64 := va_up L 57 (fun _ => 0)
def xjP_sheet56 (P : Nat → Nat → Option Nat) : Nat → Nat → Option Nat := xm_up (va_up P 57 (fun _ => none)) 56 3 (some 57)
theorem c_sheet56 {d : Nat} {I : Nat → Nat → Int32} {L : Nat → Nat → Int64} {P : Nat → Nat → Option Nat}  : xm_Z (d + 1) 8 [.ref 56] ([(12, 8), (8, 15), (0, 64), (0, 64), (2, 5), (7, 3), (4, 8), (0, 72), (0, 72), (0, 72), (0, 72), (0, 72), (0, 72), (0, 72), (0, 72), (11, 4), (11, 4), (11, 4), (11, 4), (11, 4), (5, 4), (0, 64), (0, 64), (0, 8), (6, 12), (0, 64), (0, 64), (4, 5), (0, 64), (0, 64), (0, 64), (0, 64), (0, 64), (4, 6), (0, 64), (0, 64), (0, 64), (0, 64), (0, 64), (0, 64), (0, 5), (0, 5), (0, 110), (9, 9), (0, 64), (2, 5), (11, 4), (11, 4), (11, 4), (11, 4), (11, 4), (3, 4), (10, 4), (1, 24), (10, 4), (1, 24), (10, 4)], I, L, P) (fun rz hz => rz = none ∧ hz = ([(12, 8), (8, 15), (0, 64), (0, 64), (2, 5), (7, 3), (4, 8), (0, 72), (0, 72), (0, 72), (0, 72), (0, 72), (0, 72), (0, 72), (0, 72), (11, 4), (11, 4), (11, 4), (11, 4), (11, 4), (5, 4), (0, 64), (0, 64), (0, 8), (6, 12), (0, 64), (0, 64), (4, 5), (0, 64), (0, 64), (0, 64), (0, 64), (0, 64), (4, 6), (0, 64), (0, 64), (0, 64), (0, 64), (0, 64), (0, 64), (0, 5), (0, 5), (0, 110), (9, 9), (0, 64), (2, 5), (11, 4), (11, 4), (11, 4), (11, 4), (11, 4), (3, 4), (10, 4), (1, 24), (10, 4), (1, 24), (10, 4), (1, 24)], xjI_sheet56 I, xjL_sheet56 L, xjP_sheet56 P)) := by
  refine xw_S xb_8 (l := [.ref 56]) (Nat.le_of_ble_eq_true rfl) rfl ?_
  refine xw_go xb_8 1 rfl trivial ?_
  refine xw_at (f' := (1, [.ref 56], [.ref 56])) (h' := ([(12, 8), (8, 15), (0, 64), (0, 64), (2, 5), (7, 3), (4, 8), (0, 72), (0, 72), (0, 72), (0, 72), (0, 72), (0, 72), (0, 72), (0, 72), (11, 4), (11, 4), (11, 4), (11, 4), (11, 4), (5, 4), (0, 64), (0, 64), (0, 8), (6, 12), (0, 64), (0, 64), (4, 5), (0, 64), (0, 64), (0, 64), (0, 64), (0, 64), (4, 6), (0, 64), (0, 64), (0, 64), (0, 64), (0, 64), (0, 64), (0, 5), (0, 5), (0, 110), (9, 9), (0, 64), (2, 5), (11, 4), (11, 4), (11, 4), (11, 4), (11, 4), (3, 4), (10, 4), (1, 24), (10, 4), (1, 24), (10, 4)], I, L, P)) rfl rfl ?_
  refine xw_obj xb_8 rfl rfl rfl ?_
  refine xw_at (f' := (4, [.ref 56], [])) (h' := ([(12, 8), (8, 15), (0, 64), (0, 64), (2, 5), (7, 3), (4, 8), (0, 72), (0, 72), (0, 72), (0, 72), (0, 72), (0, 72), (0, 72), (0, 72), (11, 4), (11, 4), (11, 4), (11, 4), (11, 4), (5, 4), (0, 64), (0, 64), (0, 8), (6, 12), (0, 64), (0, 64), (4, 5), (0, 64), (0, 64), (0, 64), (0, 64), (0, 64), (4, 6), (0, 64), (0, 64), (0, 64), (0, 64), (0, 64), (0, 64), (0, 5), (0, 5), (0, 110), (9, 9), (0, 64), (2, 5), (11, 4), (11, 4), (11, 4), (11, 4), (11, 4), (3, 4), (10, 4), (1, 24), (10, 4), (1, 24), (10, 4)], I, L, P)) rfl rfl ?_
  refine xw_go xb_8 4 rfl ⟨(by decide), (by decide), rfl, rfl, trivial⟩ ?_
  refine xw_at (f' := (12, [.ref 56], [])) (h' := ([(12, 8), (8, 15), (0, 64), (0, 64), (2, 5), (7, 3), (4, 8), (0, 72), (0, 72), (0, 72), (0, 72), (0, 72), (0, 72), (0, 72), (0, 72), (11, 4), (11, 4), (11, 4), (11, 4), (11, 4), (5, 4), (0, 64), (0, 64), (0, 8), (6, 12), (0, 64), (0, 64), (4, 5), (0, 64), (0, 64), (0, 64), (0, 64), (0, 64), (4, 6), (0, 64), (0, 64), (0, 64), (0, 64), (0, 64), (0, 64), (0, 5), (0, 5), (0, 110), (9, 9), (0, 64), (2, 5), (11, 4), (11, 4), (11, 4), (11, 4), (11, 4), (3, 4), (10, 4), (1, 24), (10, 4), (1, 24), (10, 4), (1, 24)], va_up I 57 (fun _ => 0), va_up L 57 (fun _ => 0), xm_up (va_up P 57 (fun _ => none)) 56 3 (some 57))) rfl rfl ?_
  refine xw_ret xb_8 rfl rfl trivial ?_
  exact ⟨rfl, rfl⟩

def xjI_sheet58 (I : Nat → Nat → Int32) : Nat → Nat → Int32 := va_up I 59 (fun _ => 0)
def xjL_sheet58 (L : Nat → Nat → Int64) : Nat → Nat → Int64 := va_up L 59 (fun _ => 0)
def xjP_sheet58 (P : Nat → Nat → Option Nat) : Nat → Nat → Option Nat := xm_up (va_up P 59 (fun _ => none)) 58 3 (some 59)
theorem c_sheet58 {d : Nat} {I : Nat → Nat → Int32} {L : Nat → Nat → Int64} {P : Nat → Nat → Option Nat}  : xm_Z (d + 1) 8 [.ref 58] ([(12, 8), (8, 15), (0, 64), (0, 64), (2, 5), (7, 3), (4, 8), (0, 72), (0, 72), (0, 72), (0, 72), (0, 72), (0, 72), (0, 72), (0, 72), (11, 4), (11, 4), (11, 4), (11, 4), (11, 4), (5, 4), (0, 64), (0, 64), (0, 8), (6, 12), (0, 64), (0, 64), (4, 5), (0, 64), (0, 64), (0, 64), (0, 64), (0, 64), (4, 6), (0, 64), (0, 64), (0, 64), (0, 64), (0, 64), (0, 64), (0, 5), (0, 5), (0, 110), (9, 9), (0, 64), (2, 5), (11, 4), (11, 4), (11, 4), (11, 4), (11, 4), (3, 4), (10, 4), (1, 24), (10, 4), (1, 24), (10, 4), (1, 24), (10, 4)], I, L, P) (fun rz hz => rz = none ∧ hz = ([(12, 8), (8, 15), (0, 64), (0, 64), (2, 5), (7, 3), (4, 8), (0, 72), (0, 72), (0, 72), (0, 72), (0, 72), (0, 72), (0, 72), (0, 72), (11, 4), (11, 4), (11, 4), (11, 4), (11, 4), (5, 4), (0, 64), (0, 64), (0, 8), (6, 12), (0, 64), (0, 64), (4, 5), (0, 64), (0, 64), (0, 64), (0, 64), (0, 64), (4, 6), (0, 64), (0, 64), (0, 64), (0, 64), (0, 64), (0, 64), (0, 5), (0, 5), (0, 110), (9, 9), (0, 64), (2, 5), (11, 4), (11, 4), (11, 4), (11, 4), (11, 4), (3, 4), (10, 4), (1, 24), (10, 4), (1, 24), (10, 4), (1, 24), (10, 4), (1, 24)], xjI_sheet58 I, xjL_sheet58 L, xjP_sheet58 P)) := by
  refine xw_S xb_8 (l := [.ref 58]) (Nat.le_of_ble_eq_true rfl) rfl ?_
  refine xw_go xb_8 1 rfl trivial ?_
  refine xw_at (f' := (1, [.ref 58], [.ref 58])) (h' := ([(12, 8), (8, 15), (0, 64), (0, 64), (2, 5), (7, 3), (4, 8), (0, 72), (0, 72), (0, 72), (0, 72), (0, 72), (0, 72), (0, 72), (0, 72), (11, 4), (11, 4), (11, 4), (11, 4), (11, 4), (5, 4), (0, 64), (0, 64), (0, 8), (6, 12), (0, 64), (0, 64), (4, 5), (0, 64), (0, 64), (0, 64), (0, 64), (0, 64), (4, 6), (0, 64), (0, 64), (0, 64), (0, 64), (0, 64), (0, 64), (0, 5), (0, 5), (0, 110), (9, 9), (0, 64), (2, 5), (11, 4), (11, 4), (11, 4), (11, 4), (11, 4), (3, 4), (10, 4), (1, 24), (10, 4), (1, 24), (10, 4), (1, 24), (10, 4)], I, L, P)) rfl rfl ?_
  refine xw_obj xb_8 rfl rfl rfl ?_
  refine xw_at (f' := (4, [.ref 58], [])) (h' := ([(12, 8), (8, 15), (0, 64), (0, 64), (2, 5), (7, 3), (4, 8), (0, 72), (0, 72), (0, 72), (0, 72), (0, 72), (0, 72), (0, 72), (0, 72), (11, 4), (11, 4), (11, 4), (11, 4), (11, 4), (5, 4), (0, 64), (0, 64), (0, 8), (6, 12), (0, 64), (0, 64), (4, 5), (0, 64), (0, 64), (0, 64), (0, 64), (0, 64), (4, 6), (0, 64), (0, 64), (0, 64), (0, 64), (0, 64), (0, 64), (0, 5), (0, 5), (0, 110), (9, 9), (0, 64), (2, 5), (11, 4), (11, 4), (11, 4), (11, 4), (11, 4), (3, 4), (10, 4), (1, 24), (10, 4), (1, 24), (10, 4), (1, 24), (10, 4)], I, L, P)) rfl rfl ?_
  refine xw_go xb_8 4 rfl ⟨(by decide), (by decide), rfl, rfl, trivial⟩ ?_
  refine xw_at (f' := (12, [.ref 58], [])) (h' := ([(12, 8), (8, 15), (0, 64), (0, 64), (2, 5), (7, 3), (4, 8), (0, 72), (0, 72), (0, 72), (0, 72), (0, 72), (0, 72), (0, 72), (0, 72), (11, 4), (11, 4), (11, 4), (11, 4), (11, 4), (5, 4), (0, 64), (0, 64), (0, 8), (6, 12), (0, 64), (0, 64), (4, 5), (0, 64), (0, 64), (0, 64), (0, 64), (0, 64), (4, 6), (0, 64), (0, 64), (0, 64), (0, 64), (0, 64), (0, 64), (0, 5), (0, 5), (0, 110), (9, 9), (0, 64), (2, 5), (11, 4), (11, 4), (11, 4), (11, 4), (11, 4), (3, 4), (10, 4), (1, 24), (10, 4), (1, 24), (10, 4), (1, 24), (10, 4), (1, 24)], va_up I 59 (fun _ => 0), va_up L 59 (fun _ => 0), xm_up (va_up P 59 (fun _ => none)) 58 3 (some 59))) rfl rfl ?_
  refine xw_ret xb_8 rfl rfl trivial ?_
  exact ⟨rfl, rfl⟩

def xjI_LR (I : Nat → Nat → Int32) : Nat → Nat → Int32 := xjI_sheet58 (va_up (xjI_sheet56 (va_up (xjI_sheet54 (va_up (xjI_sheet52 (va_up (va_up (xjI_reader (va_up (va_up (xjI_fore (va_up (xjI_flow (va_up (xjI_plot1 (va_up I 1 (fun _ => 0))) 20 (fun _ => 0))) 24 (fun _ => 0))) 42 (fun _ => 0)) 43 (fun _ => 0))) 51 (fun _ => 0)) 52 (fun _ => 0))) 54 (fun _ => 0))) 56 (fun _ => 0))) 58 (fun _ => 0))
def xjL_LR (L : Nat → Nat → Int64) : Nat → Nat → Int64 := xjL_sheet58 (va_up (xjL_sheet56 (va_up (xjL_sheet54 (va_up (xjL_sheet52 (va_up (va_up (xjL_reader (va_up (va_up (xjL_fore (va_up (xjL_flow (va_up (xjL_plot1 (va_up L 1 (fun _ => 0))) 20 (fun _ => 0))) 24 (fun _ => 0))) 42 (fun _ => 0)) 43 (fun _ => 0))) 51 (fun _ => 0)) 52 (fun _ => 0))) 54 (fun _ => 0))) 56 (fun _ => 0))) 58 (fun _ => 0))
def xjP_LR (P : Nat → Nat → Option Nat) : Nat → Nat → Option Nat := xm_up (xjP_sheet58 (va_up (xm_up (xjP_sheet56 (va_up (xm_up (xjP_sheet54 (va_up (xm_up (xjP_sheet52 (va_up (xm_up (va_up (xm_up (xjP_reader (va_up (xm_up (va_up (xm_up (xjP_fore (va_up (xm_up (xjP_flow (va_up (xm_up (xjP_plot1 (va_up P 1 (fun _ => none))) 0 0 (some 1)) 20 (fun _ => none))) 0 1 (some 20)) 24 (fun _ => none))) 0 2 (some 24)) 42 (fun _ => none)) 0 3 (some 42)) 43 (fun _ => none))) 0 4 (some 43)) 51 (fun _ => none)) 0 6 (some 51)) 52 (fun _ => none))) 51 0 (some 52)) 54 (fun _ => none))) 51 1 (some 54)) 56 (fun _ => none))) 51 2 (some 56)) 58 (fun _ => none))) 51 3 (some 58)
theorem c_LR {d : Nat} {I : Nat → Nat → Int32} {L : Nat → Nat → Int64} {P : Nat → Nat → Option Nat}  : xm_Z (d + 3) 0 [.ref 0] ([(12, 8)], I, L, P) (fun rz hz => rz = none ∧ hz = ([(12, 8), (8, 15), (0, 64), (0, 64), (2, 5), (7, 3), (4, 8), (0, 72), (0, 72), (0, 72), (0, 72), (0, 72), (0, 72), (0, 72), (0, 72), (11, 4), (11, 4), (11, 4), (11, 4), (11, 4), (5, 4), (0, 64), (0, 64), (0, 8), (6, 12), (0, 64), (0, 64), (4, 5), (0, 64), (0, 64), (0, 64), (0, 64), (0, 64), (4, 6), (0, 64), (0, 64), (0, 64), (0, 64), (0, 64), (0, 64), (0, 5), (0, 5), (0, 110), (9, 9), (0, 64), (2, 5), (11, 4), (11, 4), (11, 4), (11, 4), (11, 4), (3, 4), (10, 4), (1, 24), (10, 4), (1, 24), (10, 4), (1, 24), (10, 4), (1, 24)], xjI_LR I, xjL_LR L, xjP_LR P)) := by
  refine xw_S xb_0 (l := [.ref 0, .float 0]) (Nat.le_of_ble_eq_true rfl) rfl ?_
  refine xw_go xb_0 1 rfl trivial ?_
  refine xw_at (f' := (1, [.ref 0, .float 0], [.ref 0])) (h' := ([(12, 8)], I, L, P)) rfl rfl ?_
  refine xw_obj xb_0 rfl rfl rfl ?_
  refine xw_at (f' := (4, [.ref 0, .float 0], [])) (h' := ([(12, 8)], I, L, P)) rfl rfl ?_
  refine xw_go xb_0 3 rfl trivial ?_
  refine xw_at (f' := (9, [.ref 0, .float 0], [.ref 1, .ref 1, .ref 0])) (h' := ([(12, 8), (8, 15)], va_up I 1 (fun _ => 0), va_up L 1 (fun _ => 0), va_up P 1 (fun _ => none))) rfl rfl ?_
  refine xw_call xb_0 rfl rfl rfl rfl rfl (Or.inr ⟨_, _, rfl, rfl⟩) (c_plot1 (I := (va_up I 1 (fun _ => 0))) (L := (va_up L 1 (fun _ => 0))) (P := (va_up P 1 (fun _ => none)))) ?_
  rintro _ _ ⟨rfl, rfl⟩
  refine xw_at (f' := (12, [.ref 0, .float 0], [.ref 1, .ref 0])) (h' := ([(12, 8), (8, 15), (0, 64), (0, 64), (2, 5), (7, 3), (4, 8), (0, 72), (0, 72), (0, 72), (0, 72), (0, 72), (0, 72), (0, 72), (0, 72), (11, 4), (11, 4), (11, 4), (11, 4), (11, 4)], xjI_plot1 (va_up I 1 (fun _ => 0)), xjL_plot1 (va_up L 1 (fun _ => 0)), xjP_plot1 (va_up P 1 (fun _ => none)))) rfl rfl ?_
  refine xw_go xb_0 1 rfl ⟨rfl, rfl, trivial⟩ ?_
  refine xw_at (f' := (15, [.ref 0, .float 0], [])) (h' := ([(12, 8), (8, 15), (0, 64), (0, 64), (2, 5), (7, 3), (4, 8), (0, 72), (0, 72), (0, 72), (0, 72), (0, 72), (0, 72), (0, 72), (0, 72), (11, 4), (11, 4), (11, 4), (11, 4), (11, 4)], xjI_plot1 (va_up I 1 (fun _ => 0)), xjL_plot1 (va_up L 1 (fun _ => 0)), xm_up (xjP_plot1 (va_up P 1 (fun _ => none))) 0 0 (some 1))) rfl rfl ?_
  refine xw_go xb_0 3 rfl trivial ?_
  refine xw_at (f' := (20, [.ref 0, .float 0], [.ref 20, .ref 20, .ref 0])) (h' := ([(12, 8), (8, 15), (0, 64), (0, 64), (2, 5), (7, 3), (4, 8), (0, 72), (0, 72), (0, 72), (0, 72), (0, 72), (0, 72), (0, 72), (0, 72), (11, 4), (11, 4), (11, 4), (11, 4), (11, 4), (5, 4)], va_up (xjI_plot1 (va_up I 1 (fun _ => 0))) 20 (fun _ => 0), va_up (xjL_plot1 (va_up L 1 (fun _ => 0))) 20 (fun _ => 0), va_up (xm_up (xjP_plot1 (va_up P 1 (fun _ => none))) 0 0 (some 1)) 20 (fun _ => none))) rfl rfl ?_
  refine xw_call xb_0 rfl rfl rfl rfl rfl (Or.inr ⟨_, _, rfl, rfl⟩) (c_flow (I := (va_up (xjI_plot1 (va_up I 1 (fun _ => 0))) 20 (fun _ => 0))) (L := (va_up (xjL_plot1 (va_up L 1 (fun _ => 0))) 20 (fun _ => 0))) (P := (va_up (xm_up (xjP_plot1 (va_up P 1 (fun _ => none))) 0 0 (some 1)) 20 (fun _ => none)))) ?_
  rintro _ _ ⟨rfl, rfl⟩
  refine xw_at (f' := (23, [.ref 0, .float 0], [.ref 20, .ref 0])) (h' := ([(12, 8), (8, 15), (0, 64), (0, 64), (2, 5), (7, 3), (4, 8), (0, 72), (0, 72), (0, 72), (0, 72), (0, 72), (0, 72), (0, 72), (0, 72), (11, 4), (11, 4), (11, 4), (11, 4), (11, 4), (5, 4), (0, 64), (0, 64), (0, 8)], xjI_flow (va_up (xjI_plot1 (va_up I 1 (fun _ => 0))) 20 (fun _ => 0)), xjL_flow (va_up (xjL_plot1 (va_up L 1 (fun _ => 0))) 20 (fun _ => 0)), xjP_flow (va_up (xm_up (xjP_plot1 (va_up P 1 (fun _ => none))) 0 0 (some 1)) 20 (fun _ => none)))) rfl rfl ?_
  refine xw_go xb_0 1 rfl ⟨rfl, rfl, trivial⟩ ?_
  refine xw_at (f' := (26, [.ref 0, .float 0], [])) (h' := ([(12, 8), (8, 15), (0, 64), (0, 64), (2, 5), (7, 3), (4, 8), (0, 72), (0, 72), (0, 72), (0, 72), (0, 72), (0, 72), (0, 72), (0, 72), (11, 4), (11, 4), (11, 4), (11, 4), (11, 4), (5, 4), (0, 64), (0, 64), (0, 8)], xjI_flow (va_up (xjI_plot1 (va_up I 1 (fun _ => 0))) 20 (fun _ => 0)), xjL_flow (va_up (xjL_plot1 (va_up L 1 (fun _ => 0))) 20 (fun _ => 0)), xm_up (xjP_flow (va_up (xm_up (xjP_plot1 (va_up P 1 (fun _ => none))) 0 0 (some 1)) 20 (fun _ => none))) 0 1 (some 20))) rfl rfl ?_
  refine xw_go xb_0 7 rfl ⟨rfl, rfl, trivial⟩ ?_
  refine xw_at (f' := (39, [.ref 0, .float 0], [.ref 20, .ref 1, .ref 24, .ref 24, .ref 0])) (h' := ([(12, 8), (8, 15), (0, 64), (0, 64), (2, 5), (7, 3), (4, 8), (0, 72), (0, 72), (0, 72), (0, 72), (0, 72), (0, 72), (0, 72), (0, 72), (11, 4), (11, 4), (11, 4), (11, 4), (11, 4), (5, 4), (0, 64), (0, 64), (0, 8), (6, 12)], va_up (xjI_flow (va_up (xjI_plot1 (va_up I 1 (fun _ => 0))) 20 (fun _ => 0))) 24 (fun _ => 0), va_up (xjL_flow (va_up (xjL_plot1 (va_up L 1 (fun _ => 0))) 20 (fun _ => 0))) 24 (fun _ => 0), va_up (xm_up (xjP_flow (va_up (xm_up (xjP_plot1 (va_up P 1 (fun _ => none))) 0 0 (some 1)) 20 (fun _ => none))) 0 1 (some 20)) 24 (fun _ => none))) rfl rfl ?_
  refine xw_call xb_0 rfl rfl rfl rfl rfl (Or.inr ⟨_, _, rfl, rfl⟩) (c_fore (I := (va_up (xjI_flow (va_up (xjI_plot1 (va_up I 1 (fun _ => 0))) 20 (fun _ => 0))) 24 (fun _ => 0))) (L := (va_up (xjL_flow (va_up (xjL_plot1 (va_up L 1 (fun _ => 0))) 20 (fun _ => 0))) 24 (fun _ => 0))) (P := (va_up (xm_up (xjP_flow (va_up (xm_up (xjP_plot1 (va_up P 1 (fun _ => none))) 0 0 (some 1)) 20 (fun _ => none))) 0 1 (some 20)) 24 (fun _ => none)))) ?_
  rintro _ _ ⟨rfl, rfl⟩
  refine xw_at (f' := (42, [.ref 0, .float 0], [.ref 24, .ref 0])) (h' := ([(12, 8), (8, 15), (0, 64), (0, 64), (2, 5), (7, 3), (4, 8), (0, 72), (0, 72), (0, 72), (0, 72), (0, 72), (0, 72), (0, 72), (0, 72), (11, 4), (11, 4), (11, 4), (11, 4), (11, 4), (5, 4), (0, 64), (0, 64), (0, 8), (6, 12), (0, 64), (0, 64), (4, 5), (0, 64), (0, 64), (0, 64), (0, 64), (0, 64), (4, 6), (0, 64), (0, 64), (0, 64), (0, 64), (0, 64), (0, 64), (0, 5), (0, 5)], xjI_fore (va_up (xjI_flow (va_up (xjI_plot1 (va_up I 1 (fun _ => 0))) 20 (fun _ => 0))) 24 (fun _ => 0)), xjL_fore (va_up (xjL_flow (va_up (xjL_plot1 (va_up L 1 (fun _ => 0))) 20 (fun _ => 0))) 24 (fun _ => 0)), xjP_fore (va_up (xm_up (xjP_flow (va_up (xm_up (xjP_plot1 (va_up P 1 (fun _ => none))) 0 0 (some 1)) 20 (fun _ => none))) 0 1 (some 20)) 24 (fun _ => none)))) rfl rfl ?_
  refine xw_go xb_0 1 rfl ⟨rfl, rfl, trivial⟩ ?_
  refine xw_at (f' := (45, [.ref 0, .float 0], [])) (h' := ([(12, 8), (8, 15), (0, 64), (0, 64), (2, 5), (7, 3), (4, 8), (0, 72), (0, 72), (0, 72), (0, 72), (0, 72), (0, 72), (0, 72), (0, 72), (11, 4), (11, 4), (11, 4), (11, 4), (11, 4), (5, 4), (0, 64), (0, 64), (0, 8), (6, 12), (0, 64), (0, 64), (4, 5), (0, 64), (0, 64), (0, 64), (0, 64), (0, 64), (4, 6), (0, 64), (0, 64), (0, 64), (0, 64), (0, 64), (0, 64), (0, 5), (0, 5)], xjI_fore (va_up (xjI_flow (va_up (xjI_plot1 (va_up I 1 (fun _ => 0))) 20 (fun _ => 0))) 24 (fun _ => 0)), xjL_fore (va_up (xjL_flow (va_up (xjL_plot1 (va_up L 1 (fun _ => 0))) 20 (fun _ => 0))) 24 (fun _ => 0)), xm_up (xjP_fore (va_up (xm_up (xjP_flow (va_up (xm_up (xjP_plot1 (va_up P 1 (fun _ => none))) 0 0 (some 1)) 20 (fun _ => none))) 0 1 (some 20)) 24 (fun _ => none))) 0 2 (some 24))) rfl rfl ?_
  refine xw_go xb_0 4 rfl ⟨(by decide), (by decide), rfl, rfl, trivial⟩ ?_
  refine xw_at (f' := (53, [.ref 0, .float 0], [])) (h' := ([(12, 8), (8, 15), (0, 64), (0, 64), (2, 5), (7, 3), (4, 8), (0, 72), (0, 72), (0, 72), (0, 72), (0, 72), (0, 72), (0, 72), (0, 72), (11, 4), (11, 4), (11, 4), (11, 4), (11, 4), (5, 4), (0, 64), (0, 64), (0, 8), (6, 12), (0, 64), (0, 64), (4, 5), (0, 64), (0, 64), (0, 64), (0, 64), (0, 64), (4, 6), (0, 64), (0, 64), (0, 64), (0, 64), (0, 64), (0, 64), (0, 5), (0, 5), (0, 110)], va_up (xjI_fore (va_up (xjI_flow (va_up (xjI_plot1 (va_up I 1 (fun _ => 0))) 20 (fun _ => 0))) 24 (fun _ => 0))) 42 (fun _ => 0), va_up (xjL_fore (va_up (xjL_flow (va_up (xjL_plot1 (va_up L 1 (fun _ => 0))) 20 (fun _ => 0))) 24 (fun _ => 0))) 42 (fun _ => 0), xm_up (va_up (xm_up (xjP_fore (va_up (xm_up (xjP_flow (va_up (xm_up (xjP_plot1 (va_up P 1 (fun _ => none))) 0 0 (some 1)) 20 (fun _ => none))) 0 1 (some 20)) 24 (fun _ => none))) 0 2 (some 24)) 42 (fun _ => none)) 0 3 (some 42))) rfl rfl ?_
  refine xw_go xb_0 5 rfl ⟨rfl, trivial⟩ ?_
  refine xw_at (f' := (62, [.ref 0, .float 0], [.ref 42, .ref 43, .ref 43, .ref 0])) (h' := ([(12, 8), (8, 15), (0, 64), (0, 64), (2, 5), (7, 3), (4, 8), (0, 72), (0, 72), (0, 72), (0, 72), (0, 72), (0, 72), (0, 72), (0, 72), (11, 4), (11, 4), (11, 4), (11, 4), (11, 4), (5, 4), (0, 64), (0, 64), (0, 8), (6, 12), (0, 64), (0, 64), (4, 5), (0, 64), (0, 64), (0, 64), (0, 64), (0, 64), (4, 6), (0, 64), (0, 64), (0, 64), (0, 64), (0, 64), (0, 64), (0, 5), (0, 5), (0, 110), (9, 9)], va_up (va_up (xjI_fore (va_up (xjI_flow (va_up (xjI_plot1 (va_up I 1 (fun _ => 0))) 20 (fun _ => 0))) 24 (fun _ => 0))) 42 (fun _ => 0)) 43 (fun _ => 0), va_up (va_up (xjL_fore (va_up (xjL_flow (va_up (xjL_plot1 (va_up L 1 (fun _ => 0))) 20 (fun _ => 0))) 24 (fun _ => 0))) 42 (fun _ => 0)) 43 (fun _ => 0), va_up (xm_up (va_up (xm_up (xjP_fore (va_up (xm_up (xjP_flow (va_up (xm_up (xjP_plot1 (va_up P 1 (fun _ => none))) 0 0 (some 1)) 20 (fun _ => none))) 0 1 (some 20)) 24 (fun _ => none))) 0 2 (some 24)) 42 (fun _ => none)) 0 3 (some 42)) 43 (fun _ => none))) rfl rfl ?_
  refine xw_call xb_0 rfl rfl rfl rfl rfl (Or.inr ⟨_, _, rfl, rfl⟩) (c_reader (I := (va_up (va_up (xjI_fore (va_up (xjI_flow (va_up (xjI_plot1 (va_up I 1 (fun _ => 0))) 20 (fun _ => 0))) 24 (fun _ => 0))) 42 (fun _ => 0)) 43 (fun _ => 0))) (L := (va_up (va_up (xjL_fore (va_up (xjL_flow (va_up (xjL_plot1 (va_up L 1 (fun _ => 0))) 20 (fun _ => 0))) 24 (fun _ => 0))) 42 (fun _ => 0)) 43 (fun _ => 0))) (P := (va_up (xm_up (va_up (xm_up (xjP_fore (va_up (xm_up (xjP_flow (va_up (xm_up (xjP_plot1 (va_up P 1 (fun _ => none))) 0 0 (some 1)) 20 (fun _ => none))) 0 1 (some 20)) 24 (fun _ => none))) 0 2 (some 24)) 42 (fun _ => none)) 0 3 (some 42)) 43 (fun _ => none)))) ?_
  rintro _ _ ⟨rfl, rfl⟩
  refine xw_at (f' := (65, [.ref 0, .float 0], [.ref 43, .ref 0])) (h' := ([(12, 8), (8, 15), (0, 64), (0, 64), (2, 5), (7, 3), (4, 8), (0, 72), (0, 72), (0, 72), (0, 72), (0, 72), (0, 72), (0, 72), (0, 72), (11, 4), (11, 4), (11, 4), (11, 4), (11, 4), (5, 4), (0, 64), (0, 64), (0, 8), (6, 12), (0, 64), (0, 64), (4, 5), (0, 64), (0, 64), (0, 64), (0, 64), (0, 64), (4, 6), (0, 64), (0, 64), (0, 64), (0, 64), (0, 64), (0, 64), (0, 5), (0, 5), (0, 110), (9, 9), (0, 64), (2, 5), (11, 4), (11, 4), (11, 4), (11, 4), (11, 4)], xjI_reader (va_up (va_up (xjI_fore (va_up (xjI_flow (va_up (xjI_plot1 (va_up I 1 (fun _ => 0))) 20 (fun _ => 0))) 24 (fun _ => 0))) 42 (fun _ => 0)) 43 (fun _ => 0)), xjL_reader (va_up (va_up (xjL_fore (va_up (xjL_flow (va_up (xjL_plot1 (va_up L 1 (fun _ => 0))) 20 (fun _ => 0))) 24 (fun _ => 0))) 42 (fun _ => 0)) 43 (fun _ => 0)), xjP_reader (va_up (xm_up (va_up (xm_up (xjP_fore (va_up (xm_up (xjP_flow (va_up (xm_up (xjP_plot1 (va_up P 1 (fun _ => none))) 0 0 (some 1)) 20 (fun _ => none))) 0 1 (some 20)) 24 (fun _ => none))) 0 2 (some 24)) 42 (fun _ => none)) 0 3 (some 42)) 43 (fun _ => none)))) rfl rfl ?_
  refine xw_go xb_0 1 rfl ⟨rfl, rfl, trivial⟩ ?_
  refine xw_at (f' := (68, [.ref 0, .float 0], [])) (h' := ([(12, 8), (8, 15), (0, 64), (0, 64), (2, 5), (7, 3), (4, 8), (0, 72), (0, 72), (0, 72), (0, 72), (0, 72), (0, 72), (0, 72), (0, 72), (11, 4), (11, 4), (11, 4), (11, 4), (11, 4), (5, 4), (0, 64), (0, 64), (0, 8), (6, 12), (0, 64), (0, 64), (4, 5), (0, 64), (0, 64), (0, 64), (0, 64), (0, 64), (4, 6), (0, 64), (0, 64), (0, 64), (0, 64), (0, 64), (0, 64), (0, 5), (0, 5), (0, 110), (9, 9), (0, 64), (2, 5), (11, 4), (11, 4), (11, 4), (11, 4), (11, 4)], xjI_reader (va_up (va_up (xjI_fore (va_up (xjI_flow (va_up (xjI_plot1 (va_up I 1 (fun _ => 0))) 20 (fun _ => 0))) 24 (fun _ => 0))) 42 (fun _ => 0)) 43 (fun _ => 0)), xjL_reader (va_up (va_up (xjL_fore (va_up (xjL_flow (va_up (xjL_plot1 (va_up L 1 (fun _ => 0))) 20 (fun _ => 0))) 24 (fun _ => 0))) 42 (fun _ => 0)) 43 (fun _ => 0)), xm_up (xjP_reader (va_up (xm_up (va_up (xm_up (xjP_fore (va_up (xm_up (xjP_flow (va_up (xm_up (xjP_plot1 (va_up P 1 (fun _ => none))) 0 0 (some 1)) 20 (fun _ => none))) 0 1 (some 20)) 24 (fun _ => none))) 0 2 (some 24)) 42 (fun _ => none)) 0 3 (some 42)) 43 (fun _ => none))) 0 4 (some 43))) rfl rfl ?_
  refine xw_go xb_0 4 rfl ⟨(by decide), (by decide), rfl, rfl, trivial⟩ ?_
  refine xw_at (f' := (76, [.ref 0, .float 0], [])) (h' := ([(12, 8), (8, 15), (0, 64), (0, 64), (2, 5), (7, 3), (4, 8), (0, 72), (0, 72), (0, 72), (0, 72), (0, 72), (0, 72), (0, 72), (0, 72), (11, 4), (11, 4), (11, 4), (11, 4), (11, 4), (5, 4), (0, 64), (0, 64), (0, 8), (6, 12), (0, 64), (0, 64), (4, 5), (0, 64), (0, 64), (0, 64), (0, 64), (0, 64), (4, 6), (0, 64), (0, 64), (0, 64), (0, 64), (0, 64), (0, 64), (0, 5), (0, 5), (0, 110), (9, 9), (0, 64), (2, 5), (11, 4), (11, 4), (11, 4), (11, 4), (11, 4), (3, 4)], va_up (xjI_reader (va_up (va_up (xjI_fore (va_up (xjI_flow (va_up (xjI_plot1 (va_up I 1 (fun _ => 0))) 20 (fun _ => 0))) 24 (fun _ => 0))) 42 (fun _ => 0)) 43 (fun _ => 0))) 51 (fun _ => 0), va_up (xjL_reader (va_up (va_up (xjL_fore (va_up (xjL_flow (va_up (xjL_plot1 (va_up L 1 (fun _ => 0))) 20 (fun _ => 0))) 24 (fun _ => 0))) 42 (fun _ => 0)) 43 (fun _ => 0))) 51 (fun _ => 0), xm_up (va_up (xm_up (xjP_reader (va_up (xm_up (va_up (xm_up (xjP_fore (va_up (xm_up (xjP_flow (va_up (xm_up (xjP_plot1 (va_up P 1 (fun _ => none))) 0 0 (some 1)) 20 (fun _ => none))) 0 1 (some 20)) 24 (fun _ => none))) 0 2 (some 24)) 42 (fun _ => none)) 0 3 (some 42)) 43 (fun _ => none))) 0 4 (some 43)) 51 (fun _ => none)) 0 6 (some 51))) rfl rfl ?_
  refine xw_go xb_0 10 rfl ⟨rfl, trivial⟩ ?_
  refine xw_at (f' := (92, [.ref 0, .int 0], [.ref 52, .ref 52, .int 0, .ref 51])) (h' := ([(12, 8), (8, 15), (0, 64), (0, 64), (2, 5), (7, 3), (4, 8), (0, 72), (0, 72), (0, 72), (0, 72), (0, 72), (0, 72), (0, 72), (0, 72), (11, 4), (11, 4), (11, 4), (11, 4), (11, 4), (5, 4), (0, 64), (0, 64), (0, 8), (6, 12), (0, 64), (0, 64), (4, 5), (0, 64), (0, 64), (0, 64), (0, 64), (0, 64), (4, 6), (0, 64), (0, 64), (0, 64), (0, 64), (0, 64), (0, 64), (0, 5), (0, 5), (0, 110), (9, 9), (0, 64), (2, 5), (11, 4), (11, 4), (11, 4), (11, 4), (11, 4), (3, 4), (10, 4)], va_up (va_up (xjI_reader (va_up (va_up (xjI_fore (va_up (xjI_flow (va_up (xjI_plot1 (va_up I 1 (fun _ => 0))) 20 (fun _ => 0))) 24 (fun _ => 0))) 42 (fun _ => 0)) 43 (fun _ => 0))) 51 (fun _ => 0)) 52 (fun _ => 0), va_up (va_up (xjL_reader (va_up (va_up (xjL_fore (va_up (xjL_flow (va_up (xjL_plot1 (va_up L 1 (fun _ => 0))) 20 (fun _ => 0))) 24 (fun _ => 0))) 42 (fun _ => 0)) 43 (fun _ => 0))) 51 (fun _ => 0)) 52 (fun _ => 0), va_up (xm_up (va_up (xm_up (xjP_reader (va_up (xm_up (va_up (xm_up (xjP_fore (va_up (xm_up (xjP_flow (va_up (xm_up (xjP_plot1 (va_up P 1 (fun _ => none))) 0 0 (some 1)) 20 (fun _ => none))) 0 1 (some 20)) 24 (fun _ => none))) 0 2 (some 24)) 42 (fun _ => none)) 0 3 (some 42)) 43 (fun _ => none))) 0 4 (some 43)) 51 (fun _ => none)) 0 6 (some 51)) 52 (fun _ => none))) rfl rfl ?_
  refine xw_call xb_0 rfl rfl rfl rfl rfl (Or.inr ⟨_, _, rfl, rfl⟩) (c_sheet52 (I := (va_up (va_up (xjI_reader (va_up (va_up (xjI_fore (va_up (xjI_flow (va_up (xjI_plot1 (va_up I 1 (fun _ => 0))) 20 (fun _ => 0))) 24 (fun _ => 0))) 42 (fun _ => 0)) 43 (fun _ => 0))) 51 (fun _ => 0)) 52 (fun _ => 0))) (L := (va_up (va_up (xjL_reader (va_up (va_up (xjL_fore (va_up (xjL_flow (va_up (xjL_plot1 (va_up L 1 (fun _ => 0))) 20 (fun _ => 0))) 24 (fun _ => 0))) 42 (fun _ => 0)) 43 (fun _ => 0))) 51 (fun _ => 0)) 52 (fun _ => 0))) (P := (va_up (xm_up (va_up (xm_up (xjP_reader (va_up (xm_up (va_up (xm_up (xjP_fore (va_up (xm_up (xjP_flow (va_up (xm_up (xjP_plot1 (va_up P 1 (fun _ => none))) 0 0 (some 1)) 20 (fun _ => none))) 0 1 (some 20)) 24 (fun _ => none))) 0 2 (some 24)) 42 (fun _ => none)) 0 3 (some 42)) 43 (fun _ => none))) 0 4 (some 43)) 51 (fun _ => none)) 0 6 (some 51)) 52 (fun _ => none)))) ?_
  rintro _ _ ⟨rfl, rfl⟩
  refine xw_at (f' := (95, [.ref 0, .int 0], [.ref 52, .int 0, .ref 51])) (h' := ([(12, 8), (8, 15), (0, 64), (0, 64), (2, 5), (7, 3), (4, 8), (0, 72), (0, 72), (0, 72), (0, 72), (0, 72), (0, 72), (0, 72), (0, 72), (11, 4), (11, 4), (11, 4), (11, 4), (11, 4), (5, 4), (0, 64), (0, 64), (0, 8), (6, 12), (0, 64), (0, 64), (4, 5), (0, 64), (0, 64), (0, 64), (0, 64), (0, 64), (4, 6), (0, 64), (0, 64), (0, 64), (0, 64), (0, 64), (0, 64), (0, 5), (0, 5), (0, 110), (9, 9), (0, 64), (2, 5), (11, 4), (11, 4), (11, 4), (11, 4), (11, 4), (3, 4), (10, 4), (1, 24)], xjI_sheet52 (va_up (va_up (xjI_reader (va_up (va_up (xjI_fore (va_up (xjI_flow (va_up (xjI_plot1 (va_up I 1 (fun _ => 0))) 20 (fun _ => 0))) 24 (fun _ => 0))) 42 (fun _ => 0)) 43 (fun _ => 0))) 51 (fun _ => 0)) 52 (fun _ => 0)), xjL_sheet52 (va_up (va_up (xjL_reader (va_up (va_up (xjL_fore (va_up (xjL_flow (va_up (xjL_plot1 (va_up L 1 (fun _ => 0))) 20 (fun _ => 0))) 24 (fun _ => 0))) 42 (fun _ => 0)) 43 (fun _ => 0))) 51 (fun _ => 0)) 52 (fun _ => 0)), xjP_sheet52 (va_up (xm_up (va_up (xm_up (xjP_reader (va_up (xm_up (va_up (xm_up (xjP_fore (va_up (xm_up (xjP_flow (va_up (xm_up (xjP_plot1 (va_up P 1 (fun _ => none))) 0 0 (some 1)) 20 (fun _ => none))) 0 1 (some 20)) 24 (fun _ => none))) 0 2 (some 24)) 42 (fun _ => none)) 0 3 (some 42)) 43 (fun _ => none))) 0 4 (some 43)) 51 (fun _ => none)) 0 6 (some 51)) 52 (fun _ => none)))) rfl rfl ?_
  refine xw_go xb_0 11 rfl ⟨(xn_ar (n := 0) (N := 4) rfl (by decide) (by decide)), (Or.inr ⟨rfl, rfl⟩), rfl, trivial⟩ ?_
  refine xw_at (f' := (92, [.ref 0, .int 1], [.ref 54, .ref 54, .int 1, .ref 51])) (h' := ([(12, 8), (8, 15), (0, 64), (0, 64), (2, 5), (7, 3), (4, 8), (0, 72), (0, 72), (0, 72), (0, 72), (0, 72), (0, 72), (0, 72), (0, 72), (11, 4), (11, 4), (11, 4), (11, 4), (11, 4), (5, 4), (0, 64), (0, 64), (0, 8), (6, 12), (0, 64), (0, 64), (4, 5), (0, 64), (0, 64), (0, 64), (0, 64), (0, 64), (4, 6), (0, 64), (0, 64), (0, 64), (0, 64), (0, 64), (0, 64), (0, 5), (0, 5), (0, 110), (9, 9), (0, 64), (2, 5), (11, 4), (11, 4), (11, 4), (11, 4), (11, 4), (3, 4), (10, 4), (1, 24), (10, 4)], va_up (xjI_sheet52 (va_up (va_up (xjI_reader (va_up (va_up (xjI_fore (va_up (xjI_flow (va_up (xjI_plot1 (va_up I 1 (fun _ => 0))) 20 (fun _ => 0))) 24 (fun _ => 0))) 42 (fun _ => 0)) 43 (fun _ => 0))) 51 (fun _ => 0)) 52 (fun _ => 0))) 54 (fun _ => 0), va_up (xjL_sheet52 (va_up (va_up (xjL_reader (va_up (va_up (xjL_fore (va_up (xjL_flow (va_up (xjL_plot1 (va_up L 1 (fun _ => 0))) 20 (fun _ => 0))) 24 (fun _ => 0))) 42 (fun _ => 0)) 43 (fun _ => 0))) 51 (fun _ => 0)) 52 (fun _ => 0))) 54 (fun _ => 0), va_up (xm_up (xjP_sheet52 (va_up (xm_up (va_up (xm_up (xjP_reader (va_up (xm_up (va_up (xm_up (xjP_fore (va_up (xm_up (xjP_flow (va_up (xm_up (xjP_plot1 (va_up P 1 (fun _ => none))) 0 0 (some 1)) 20 (fun _ => none))) 0 1 (some 20)) 24 (fun _ => none))) 0 2 (some 24)) 42 (fun _ => none)) 0 3 (some 42)) 43 (fun _ => none))) 0 4 (some 43)) 51 (fun _ => none)) 0 6 (some 51)) 52 (fun _ => none))) 51 0 (some 52)) 54 (fun _ => none))) rfl rfl ?_
  refine xw_call xb_0 rfl rfl rfl rfl rfl (Or.inr ⟨_, _, rfl, rfl⟩) (c_sheet54 (I := (va_up (xjI_sheet52 (va_up (va_up (xjI_reader (va_up (va_up (xjI_fore (va_up (xjI_flow (va_up (xjI_plot1 (va_up I 1 (fun _ => 0))) 20 (fun _ => 0))) 24 (fun _ => 0))) 42 (fun _ => 0)) 43 (fun _ => 0))) 51 (fun _ => 0)) 52 (fun _ => 0))) 54 (fun _ => 0))) (L := (va_up (xjL_sheet52 (va_up (va_up (xjL_reader (va_up (va_up (xjL_fore (va_up (xjL_flow (va_up (xjL_plot1 (va_up L 1 (fun _ => 0))) 20 (fun _ => 0))) 24 (fun _ => 0))) 42 (fun _ => 0)) 43 (fun _ => 0))) 51 (fun _ => 0)) 52 (fun _ => 0))) 54 (fun _ => 0))) (P := (va_up (xm_up (xjP_sheet52 (va_up (xm_up (va_up (xm_up (xjP_reader (va_up (xm_up (va_up (xm_up (xjP_fore (va_up (xm_up (xjP_flow (va_up (xm_up (xjP_plot1 (va_up P 1 (fun _ => none))) 0 0 (some 1)) 20 (fun _ => none))) 0 1 (some 20)) 24 (fun _ => none))) 0 2 (some 24)) 42 (fun _ => none)) 0 3 (some 42)) 43 (fun _ => none))) 0 4 (some 43)) 51 (fun _ => none)) 0 6 (some 51)) 52 (fun _ => none))) 51 0 (some 52)) 54 (fun _ => none)))) ?_
  rintro _ _ ⟨rfl, rfl⟩
  refine xw_at (f' := (95, [.ref 0, .int 1], [.ref 54, .int 1, .ref 51])) (h' := ([(12, 8), (8, 15), (0, 64), (0, 64), (2, 5), (7, 3), (4, 8), (0, 72), (0, 72), (0, 72), (0, 72), (0, 72), (0, 72), (0, 72), (0, 72), (11, 4), (11, 4), (11, 4), (11, 4), (11, 4), (5, 4), (0, 64), (0, 64), (0, 8), (6, 12), (0, 64), (0, 64), (4, 5), (0, 64), (0, 64), (0, 64), (0, 64), (0, 64), (4, 6), (0, 64), (0, 64), (0, 64), (0, 64), (0, 64), (0, 64), (0, 5), (0, 5), (0, 110), (9, 9), (0, 64), (2, 5), (11, 4), (11, 4), (11, 4), (11, 4), (11, 4), (3, 4), (10, 4), (1, 24), (10, 4), (1, 24)], xjI_sheet54 (va_up (xjI_sheet52 (va_up (va_up (xjI_reader (va_up (va_up (xjI_fore (va_up (xjI_flow (va_up (xjI_plot1 (va_up I 1 (fun _ => 0))) 20 (fun _ => 0))) 24 (fun _ => 0))) 42 (fun _ => 0)) 43 (fun _ => 0))) 51 (fun _ => 0)) 52 (fun _ => 0))) 54 (fun _ => 0)), xjL_sheet54 (va_up (xjL_sheet52 (va_up (va_up (xjL_reader (va_up (va_up (xjL_fore (va_up (xjL_flow (va_up (xjL_plot1 (va_up L 1 (fun _ => 0))) 20 (fun _ => 0))) 24 (fun _ => 0))) 42 (fun _ => 0)) 43 (fun _ => 0))) 51 (fun _ => 0)) 52 (fun _ => 0))) 54 (fun _ => 0)), xjP_sheet54 (va_up (xm_up (xjP_sheet52 (va_up (xm_up (va_up (xm_up (xjP_reader (va_up (xm_up (va_up (xm_up (xjP_fore (va_up (xm_up (xjP_flow (va_up (xm_up (xjP_plot1 (va_up P 1 (fun _ => none))) 0 0 (some 1)) 20 (fun _ => none))) 0 1 (some 20)) 24 (fun _ => none))) 0 2 (some 24)) 42 (fun _ => none)) 0 3 (some 42)) 43 (fun _ => none))) 0 4 (some 43)) 51 (fun _ => none)) 0 6 (some 51)) 52 (fun _ => none))) 51 0 (some 52)) 54 (fun _ => none)))) rfl rfl ?_
  refine xw_go xb_0 11 rfl ⟨(xn_ar (n := 1) (N := 4) rfl (by decide) (by decide)), (Or.inr ⟨rfl, rfl⟩), rfl, trivial⟩ ?_
  refine xw_at (f' := (92, [.ref 0, .int 2], [.ref 56, .ref 56, .int 2, .ref 51])) (h' := ([(12, 8), (8, 15), (0, 64), (0, 64), (2, 5), (7, 3), (4, 8), (0, 72), (0, 72), (0, 72), (0, 72), (0, 72), (0, 72), (0, 72), (0, 72), (11, 4), (11, 4), (11, 4), (11, 4), (11, 4), (5, 4), (0, 64), (0, 64), (0, 8), (6, 12), (0, 64), (0, 64), (4, 5), (0, 64), (0, 64), (0, 64), (0, 64), (0, 64), (4, 6), (0, 64), (0, 64), (0, 64), (0, 64), (0, 64), (0, 64), (0, 5), (0, 5), (0, 110), (9, 9), (0, 64), (2, 5), (11, 4), (11, 4), (11, 4), (11, 4), (11, 4), (3, 4), (10, 4), (1, 24), (10, 4), (1, 24), (10, 4)], va_up (xjI_sheet54 (va_up (xjI_sheet52 (va_up (va_up (xjI_reader (va_up (va_up (xjI_fore (va_up (xjI_flow (va_up (xjI_plot1 (va_up I 1 (fun _ => 0))) 20 (fun _ => 0))) 24 (fun _ => 0))) 42 (fun _ => 0)) 43 (fun _ => 0))) 51 (fun _ => 0)) 52 (fun _ => 0))) 54 (fun _ => 0))) 56 (fun _ => 0), va_up (xjL_sheet54 (va_up (xjL_sheet52 (va_up (va_up (xjL_reader (va_up (va_up (xjL_fore (va_up (xjL_flow (va_up (xjL_plot1 (va_up L 1 (fun _ => 0))) 20 (fun _ => 0))) 24 (fun _ => 0))) 42 (fun _ => 0)) 43 (fun _ => 0))) 51 (fun _ => 0)) 52 (fun _ => 0))) 54 (fun _ => 0))) 56 (fun _ => 0), va_up (xm_up (xjP_sheet54 (va_up (xm_up (xjP_sheet52 (va_up (xm_up (va_up (xm_up (xjP_reader (va_up (xm_up (va_up (xm_up (xjP_fore (va_up (xm_up (xjP_flow (va_up (xm_up (xjP_plot1 (va_up P 1 (fun _ => none))) 0 0 (some 1)) 20 (fun _ => none))) 0 1 (some 20)) 24 (fun _ => none))) 0 2 (some 24)) 42 (fun _ => none)) 0 3 (some 42)) 43 (fun _ => none))) 0 4 (some 43)) 51 (fun _ => none)) 0 6 (some 51)) 52 (fun _ => none))) 51 0 (some 52)) 54 (fun _ => none))) 51 1 (some 54)) 56 (fun _ => none))) rfl rfl ?_
  refine xw_call xb_0 rfl rfl rfl rfl rfl (Or.inr ⟨_, _, rfl, rfl⟩) (c_sheet56 (I := (va_up (xjI_sheet54 (va_up (xjI_sheet52 (va_up (va_up (xjI_reader (va_up (va_up (xjI_fore (va_up (xjI_flow (va_up (xjI_plot1 (va_up I 1 (fun _ => 0))) 20 (fun _ => 0))) 24 (fun _ => 0))) 42 (fun _ => 0)) 43 (fun _ => 0))) 51 (fun _ => 0)) 52 (fun _ => 0))) 54 (fun _ => 0))) 56 (fun _ => 0))) (L := (va_up (xjL_sheet54 (va_up (xjL_sheet52 (va_up (va_up (xjL_reader (va_up (va_up (xjL_fore (va_up (xjL_flow (va_up (xjL_plot1 (va_up L 1 (fun _ => 0))) 20 (fun _ => 0))) 24 (fun _ => 0))) 42 (fun _ => 0)) 43 (fun _ => 0))) 51 (fun _ => 0)) 52 (fun _ => 0))) 54 (fun _ => 0))) 56 (fun _ => 0))) (P := (va_up (xm_up (xjP_sheet54 (va_up (xm_up (xjP_sheet52 (va_up (xm_up (va_up (xm_up (xjP_reader (va_up (xm_up (va_up (xm_up (xjP_fore (va_up (xm_up (xjP_flow (va_up (xm_up (xjP_plot1 (va_up P 1 (fun _ => none))) 0 0 (some 1)) 20 (fun _ => none))) 0 1 (some 20)) 24 (fun _ => none))) 0 2 (some 24)) 42 (fun _ => none)) 0 3 (some 42)) 43 (fun _ => none))) 0 4 (some 43)) 51 (fun _ => none)) 0 6 (some 51)) 52 (fun _ => none))) 51 0 (some 52)) 54 (fun _ => none))) 51 1 (some 54)) 56 (fun _ => none)))) ?_
  rintro _ _ ⟨rfl, rfl⟩
  refine xw_at (f' := (95, [.ref 0, .int 2], [.ref 56, .int 2, .ref 51])) (h' := ([(12, 8), (8, 15), (0, 64), (0, 64), (2, 5), (7, 3), (4, 8), (0, 72), (0, 72), (0, 72), (0, 72), (0, 72), (0, 72), (0, 72), (0, 72), (11, 4), (11, 4), (11, 4), (11, 4), (11, 4), (5, 4), (0, 64), (0, 64), (0, 8), (6, 12), (0, 64), (0, 64), (4, 5), (0, 64), (0, 64), (0, 64), (0, 64), (0, 64), (4, 6), (0, 64), (0, 64), (0, 64), (0, 64), (0, 64), (0, 64), (0, 5), (0, 5), (0, 110), (9, 9), (0, 64), (2, 5), (11, 4), (11, 4), (11, 4), (11, 4), (11, 4), (3, 4), (10, 4), (1, 24), (10, 4), (1, 24), (10, 4), (1, 24)], xjI_sheet56 (va_up (xjI_sheet54 (va_up (xjI_sheet52 (va_up (va_up (xjI_reader (va_up (va_up (xjI_fore (va_up (xjI_flow (va_up (xjI_plot1 (va_up I 1 (fun _ => 0))) 20 (fun _ => 0))) 24 (fun _ => 0))) 42 (fun _ => 0)) 43 (fun _ => 0))) 51 (fun _ => 0)) 52 (fun _ => 0))) 54 (fun _ => 0))) 56 (fun _ => 0)), xjL_sheet56 (va_up (xjL_sheet54 (va_up (xjL_sheet52 (va_up (va_up (xjL_reader (va_up (va_up (xjL_fore (va_up (xjL_flow (va_up (xjL_plot1 (va_up L 1 (fun _ => 0))) 20 (fun _ => 0))) 24 (fun _ => 0))) 42 (fun _ => 0)) 43 (fun _ => 0))) 51 (fun _ => 0)) 52 (fun _ => 0))) 54 (fun _ => 0))) 56 (fun _ => 0)), xjP_sheet56 (va_up (xm_up (xjP_sheet54 (va_up (xm_up (xjP_sheet52 (va_up (xm_up (va_up (xm_up (xjP_reader (va_up (xm_up (va_up (xm_up (xjP_fore (va_up (xm_up (xjP_flow (va_up (xm_up (xjP_plot1 (va_up P 1 (fun _ => none))) 0 0 (some 1)) 20 (fun _ => none))) 0 1 (some 20)) 24 (fun _ => none))) 0 2 (some 24)) 42 (fun _ => none)) 0 3 (some 42)) 43 (fun _ => none))) 0 4 (some 43)) 51 (fun _ => none)) 0 6 (some 51)) 52 (fun _ => none))) 51 0 (some 52)) 54 (fun _ => none))) 51 1 (some 54)) 56 (fun _ => none)))) rfl rfl ?_
  refine xw_go xb_0 11 rfl ⟨(xn_ar (n := 2) (N := 4) rfl (by decide) (by decide)), (Or.inr ⟨rfl, rfl⟩), rfl, trivial⟩ ?_
  refine xw_at (f' := (92, [.ref 0, .int 3], [.ref 58, .ref 58, .int 3, .ref 51])) (h' := ([(12, 8), (8, 15), (0, 64), (0, 64), (2, 5), (7, 3), (4, 8), (0, 72), (0, 72), (0, 72), (0, 72), (0, 72), (0, 72), (0, 72), (0, 72), (11, 4), (11, 4), (11, 4), (11, 4), (11, 4), (5, 4), (0, 64), (0, 64), (0, 8), (6, 12), (0, 64), (0, 64), (4, 5), (0, 64), (0, 64), (0, 64), (0, 64), (0, 64), (4, 6), (0, 64), (0, 64), (0, 64), (0, 64), (0, 64), (0, 64), (0, 5), (0, 5), (0, 110), (9, 9), (0, 64), (2, 5), (11, 4), (11, 4), (11, 4), (11, 4), (11, 4), (3, 4), (10, 4), (1, 24), (10, 4), (1, 24), (10, 4), (1, 24), (10, 4)], va_up (xjI_sheet56 (va_up (xjI_sheet54 (va_up (xjI_sheet52 (va_up (va_up (xjI_reader (va_up (va_up (xjI_fore (va_up (xjI_flow (va_up (xjI_plot1 (va_up I 1 (fun _ => 0))) 20 (fun _ => 0))) 24 (fun _ => 0))) 42 (fun _ => 0)) 43 (fun _ => 0))) 51 (fun _ => 0)) 52 (fun _ => 0))) 54 (fun _ => 0))) 56 (fun _ => 0))) 58 (fun _ => 0), va_up (xjL_sheet56 (va_up (xjL_sheet54 (va_up (xjL_sheet52 (va_up (va_up (xjL_reader (va_up (va_up (xjL_fore (va_up (xjL_flow (va_up (xjL_plot1 (va_up L 1 (fun _ => 0))) 20 (fun _ => 0))) 24 (fun _ => 0))) 42 (fun _ => 0)) 43 (fun _ => 0))) 51 (fun _ => 0)) 52 (fun _ => 0))) 54 (fun _ => 0))) 56 (fun _ => 0))) 58 (fun _ => 0), va_up (xm_up (xjP_sheet56 (va_up (xm_up (xjP_sheet54 (va_up (xm_up (xjP_sheet52 (va_up (xm_up (va_up (xm_up (xjP_reader (va_up (xm_up (va_up (xm_up (xjP_fore (va_up (xm_up (xjP_flow (va_up (xm_up (xjP_plot1 (va_up P 1 (fun _ => none))) 0 0 (some 1)) 20 (fun _ => none))) 0 1 (some 20)) 24 (fun _ => none))) 0 2 (some 24)) 42 (fun _ => none)) 0 3 (some 42)) 43 (fun _ => none))) 0 4 (some 43)) 51 (fun _ => none)) 0 6 (some 51)) 52 (fun _ => none))) 51 0 (some 52)) 54 (fun _ => none))) 51 1 (some 54)) 56 (fun _ => none))) 51 2 (some 56)) 58 (fun _ => none))) rfl rfl ?_
  refine xw_call xb_0 rfl rfl rfl rfl rfl (Or.inr ⟨_, _, rfl, rfl⟩) (c_sheet58 (I := (va_up (xjI_sheet56 (va_up (xjI_sheet54 (va_up (xjI_sheet52 (va_up (va_up (xjI_reader (va_up (va_up (xjI_fore (va_up (xjI_flow (va_up (xjI_plot1 (va_up I 1 (fun _ => 0))) 20 (fun _ => 0))) 24 (fun _ => 0))) 42 (fun _ => 0)) 43 (fun _ => 0))) 51 (fun _ => 0)) 52 (fun _ => 0))) 54 (fun _ => 0))) 56 (fun _ => 0))) 58 (fun _ => 0))) (L := (va_up (xjL_sheet56 (va_up (xjL_sheet54 (va_up (xjL_sheet52 (va_up (va_up (xjL_reader (va_up (va_up (xjL_fore (va_up (xjL_flow (va_up (xjL_plot1 (va_up L 1 (fun _ => 0))) 20 (fun _ => 0))) 24 (fun _ => 0))) 42 (fun _ => 0)) 43 (fun _ => 0))) 51 (fun _ => 0)) 52 (fun _ => 0))) 54 (fun _ => 0))) 56 (fun _ => 0))) 58 (fun _ => 0))) (P := (va_up (xm_up (xjP_sheet56 (va_up (xm_up (xjP_sheet54 (va_up (xm_up (xjP_sheet52 (va_up (xm_up (va_up (xm_up (xjP_reader (va_up (xm_up (va_up (xm_up (xjP_fore (va_up (xm_up (xjP_flow (va_up (xm_up (xjP_plot1 (va_up P 1 (fun _ => none))) 0 0 (some 1)) 20 (fun _ => none))) 0 1 (some 20)) 24 (fun _ => none))) 0 2 (some 24)) 42 (fun _ => none)) 0 3 (some 42)) 43 (fun _ => none))) 0 4 (some 43)) 51 (fun _ => none)) 0 6 (some 51)) 52 (fun _ => none))) 51 0 (some 52)) 54 (fun _ => none))) 51 1 (some 54)) 56 (fun _ => none))) 51 2 (some 56)) 58 (fun _ => none)))) ?_
  rintro _ _ ⟨rfl, rfl⟩
  refine xw_at (f' := (95, [.ref 0, .int 3], [.ref 58, .int 3, .ref 51])) (h' := ([(12, 8), (8, 15), (0, 64), (0, 64), (2, 5), (7, 3), (4, 8), (0, 72), (0, 72), (0, 72), (0, 72), (0, 72), (0, 72), (0, 72), (0, 72), (11, 4), (11, 4), (11, 4), (11, 4), (11, 4), (5, 4), (0, 64), (0, 64), (0, 8), (6, 12), (0, 64), (0, 64), (4, 5), (0, 64), (0, 64), (0, 64), (0, 64), (0, 64), (4, 6), (0, 64), (0, 64), (0, 64), (0, 64), (0, 64), (0, 64), (0, 5), (0, 5), (0, 110), (9, 9), (0, 64), (2, 5), (11, 4), (11, 4), (11, 4), (11, 4), (11, 4), (3, 4), (10, 4), (1, 24), (10, 4), (1, 24), (10, 4), (1, 24), (10, 4), (1, 24)], xjI_sheet58 (va_up (xjI_sheet56 (va_up (xjI_sheet54 (va_up (xjI_sheet52 (va_up (va_up (xjI_reader (va_up (va_up (xjI_fore (va_up (xjI_flow (va_up (xjI_plot1 (va_up I 1 (fun _ => 0))) 20 (fun _ => 0))) 24 (fun _ => 0))) 42 (fun _ => 0)) 43 (fun _ => 0))) 51 (fun _ => 0)) 52 (fun _ => 0))) 54 (fun _ => 0))) 56 (fun _ => 0))) 58 (fun _ => 0)), xjL_sheet58 (va_up (xjL_sheet56 (va_up (xjL_sheet54 (va_up (xjL_sheet52 (va_up (va_up (xjL_reader (va_up (va_up (xjL_fore (va_up (xjL_flow (va_up (xjL_plot1 (va_up L 1 (fun _ => 0))) 20 (fun _ => 0))) 24 (fun _ => 0))) 42 (fun _ => 0)) 43 (fun _ => 0))) 51 (fun _ => 0)) 52 (fun _ => 0))) 54 (fun _ => 0))) 56 (fun _ => 0))) 58 (fun _ => 0)), xjP_sheet58 (va_up (xm_up (xjP_sheet56 (va_up (xm_up (xjP_sheet54 (va_up (xm_up (xjP_sheet52 (va_up (xm_up (va_up (xm_up (xjP_reader (va_up (xm_up (va_up (xm_up (xjP_fore (va_up (xm_up (xjP_flow (va_up (xm_up (xjP_plot1 (va_up P 1 (fun _ => none))) 0 0 (some 1)) 20 (fun _ => none))) 0 1 (some 20)) 24 (fun _ => none))) 0 2 (some 24)) 42 (fun _ => none)) 0 3 (some 42)) 43 (fun _ => none))) 0 4 (some 43)) 51 (fun _ => none)) 0 6 (some 51)) 52 (fun _ => none))) 51 0 (some 52)) 54 (fun _ => none))) 51 1 (some 54)) 56 (fun _ => none))) 51 2 (some 56)) 58 (fun _ => none)))) rfl rfl ?_
  refine xw_go xb_0 6 rfl ⟨(xn_ar (n := 3) (N := 4) rfl (by decide) (by decide)), (Or.inr ⟨rfl, rfl⟩), trivial⟩ ?_
  refine xw_at (f' := (102, [.ref 0, .int 4], [])) (h' := ([(12, 8), (8, 15), (0, 64), (0, 64), (2, 5), (7, 3), (4, 8), (0, 72), (0, 72), (0, 72), (0, 72), (0, 72), (0, 72), (0, 72), (0, 72), (11, 4), (11, 4), (11, 4), (11, 4), (11, 4), (5, 4), (0, 64), (0, 64), (0, 8), (6, 12), (0, 64), (0, 64), (4, 5), (0, 64), (0, 64), (0, 64), (0, 64), (0, 64), (4, 6), (0, 64), (0, 64), (0, 64), (0, 64), (0, 64), (0, 64), (0, 5), (0, 5), (0, 110), (9, 9), (0, 64), (2, 5), (11, 4), (11, 4), (11, 4), (11, 4), (11, 4), (3, 4), (10, 4), (1, 24), (10, 4), (1, 24), (10, 4), (1, 24), (10, 4), (1, 24)], xjI_sheet58 (va_up (xjI_sheet56 (va_up (xjI_sheet54 (va_up (xjI_sheet52 (va_up (va_up (xjI_reader (va_up (va_up (xjI_fore (va_up (xjI_flow (va_up (xjI_plot1 (va_up I 1 (fun _ => 0))) 20 (fun _ => 0))) 24 (fun _ => 0))) 42 (fun _ => 0)) 43 (fun _ => 0))) 51 (fun _ => 0)) 52 (fun _ => 0))) 54 (fun _ => 0))) 56 (fun _ => 0))) 58 (fun _ => 0)), xjL_sheet58 (va_up (xjL_sheet56 (va_up (xjL_sheet54 (va_up (xjL_sheet52 (va_up (va_up (xjL_reader (va_up (va_up (xjL_fore (va_up (xjL_flow (va_up (xjL_plot1 (va_up L 1 (fun _ => 0))) 20 (fun _ => 0))) 24 (fun _ => 0))) 42 (fun _ => 0)) 43 (fun _ => 0))) 51 (fun _ => 0)) 52 (fun _ => 0))) 54 (fun _ => 0))) 56 (fun _ => 0))) 58 (fun _ => 0)), xm_up (xjP_sheet58 (va_up (xm_up (xjP_sheet56 (va_up (xm_up (xjP_sheet54 (va_up (xm_up (xjP_sheet52 (va_up (xm_up (va_up (xm_up (xjP_reader (va_up (xm_up (va_up (xm_up (xjP_fore (va_up (xm_up (xjP_flow (va_up (xm_up (xjP_plot1 (va_up P 1 (fun _ => none))) 0 0 (some 1)) 20 (fun _ => none))) 0 1 (some 20)) 24 (fun _ => none))) 0 2 (some 24)) 42 (fun _ => none)) 0 3 (some 42)) 43 (fun _ => none))) 0 4 (some 43)) 51 (fun _ => none)) 0 6 (some 51)) 52 (fun _ => none))) 51 0 (some 52)) 54 (fun _ => none))) 51 1 (some 54)) 56 (fun _ => none))) 51 2 (some 56)) 58 (fun _ => none))) 51 3 (some 58))) rfl rfl ?_
  refine xw_ret xb_0 rfl rfl trivial ?_
  exact ⟨rfl, rfl⟩

def xjI_model (I : Nat → Nat → Int32) : Nat → Nat → Int32 := xm_up (xm_up (xm_up (xm_up (xm_up (xm_up (xm_up (xm_up (xm_up (xm_up (va_up (va_up (va_up (va_up (va_up (va_up (va_up (va_up (va_up (va_up (va_up (va_up (va_up I 61 (fun _ => 0)) 62 (fun _ => 0)) 63 (fun _ => 0)) 64 (fun _ => 0)) 65 (fun _ => 0)) 66 (fun _ => 0)) 67 (fun _ => 0)) 68 (fun _ => 0)) 69 (fun _ => 0)) 70 (fun _ => 0)) 71 (fun _ => 0)) 72 (fun _ => 0)) 73 (fun _ => 0)) 61 0 4) 61 1 5) 61 6 2) 61 7 10) 61 8 20) 61 10 1) 70 0 (-1)) 70 1 (-1)) 70 2 (-1)) 70 3 (-1)
def xjL_model (L : Nat → Nat → Int64) : Nat → Nat → Int64 := va_up (va_up (va_up (va_up (va_up (va_up (va_up (va_up (va_up (va_up (va_up (va_up (va_up L 61 (fun _ => 0)) 62 (fun _ => 0)) 63 (fun _ => 0)) 64 (fun _ => 0)) 65 (fun _ => 0)) 66 (fun _ => 0)) 67 (fun _ => 0)) 68 (fun _ => 0)) 69 (fun _ => 0)) 70 (fun _ => 0)) 71 (fun _ => 0)) 72 (fun _ => 0)) 73 (fun _ => 0)
def xjP_model (P : Nat → Nat → Option Nat) : Nat → Nat → Option Nat := xm_up (va_up (xm_up (va_up (xm_up (va_up (xm_up (va_up (xm_up (va_up (xm_up (va_up (xm_up (va_up (xm_up (va_up (xm_up (va_up (xm_up (va_up (xm_up (va_up (xm_up (va_up (xm_up (va_up P 61 (fun _ => none)) 60 0 (some 61)) 62 (fun _ => none)) 60 1 (some 62)) 63 (fun _ => none)) 60 2 (some 63)) 64 (fun _ => none)) 60 3 (some 64)) 65 (fun _ => none)) 60 7 (some 65)) 66 (fun _ => none)) 60 8 (some 66)) 67 (fun _ => none)) 60 9 (some 67)) 68 (fun _ => none)) 60 11 (some 68)) 69 (fun _ => none)) 60 12 (some 69)) 70 (fun _ => none)) 60 15 (some 70)) 71 (fun _ => none)) 60 16 (some 71)) 72 (fun _ => none)) 60 17 (some 72)) 73 (fun _ => none)) 60 18 (some 73)
theorem c_model {d : Nat} {I : Nat → Nat → Int32} {L : Nat → Nat → Int64} {P : Nat → Nat → Option Nat}  : xm_Z (d + 1) 106 [.ref 60] ([(12, 8), (8, 15), (0, 64), (0, 64), (2, 5), (7, 3), (4, 8), (0, 72), (0, 72), (0, 72), (0, 72), (0, 72), (0, 72), (0, 72), (0, 72), (11, 4), (11, 4), (11, 4), (11, 4), (11, 4), (5, 4), (0, 64), (0, 64), (0, 8), (6, 12), (0, 64), (0, 64), (4, 5), (0, 64), (0, 64), (0, 64), (0, 64), (0, 64), (4, 6), (0, 64), (0, 64), (0, 64), (0, 64), (0, 64), (0, 64), (0, 5), (0, 5), (0, 110), (9, 9), (0, 64), (2, 5), (11, 4), (11, 4), (11, 4), (11, 4), (11, 4), (3, 4), (10, 4), (1, 24), (10, 4), (1, 24), (10, 4), (1, 24), (10, 4), (1, 24), (13, 19)], I, L, P) (fun rz hz => rz = none ∧ hz = ([(12, 8), (8, 15), (0, 64), (0, 64), (2, 5), (7, 3), (4, 8), (0, 72), (0, 72), (0, 72), (0, 72), (0, 72), (0, 72), (0, 72), (0, 72), (11, 4), (11, 4), (11, 4), (11, 4), (11, 4), (5, 4), (0, 64), (0, 64), (0, 8), (6, 12), (0, 64), (0, 64), (4, 5), (0, 64), (0, 64), (0, 64), (0, 64), (0, 64), (4, 6), (0, 64), (0, 64), (0, 64), (0, 64), (0, 64), (0, 64), (0, 5), (0, 5), (0, 110), (9, 9), (0, 64), (2, 5), (11, 4), (11, 4), (11, 4), (11, 4), (11, 4), (3, 4), (10, 4), (1, 24), (10, 4), (1, 24), (10, 4), (1, 24), (10, 4), (1, 24), (13, 19), (0, 159), (0, 64), (0, 8), (0, 110), (0, 64), (0, 20), (0, 576), (0, 159), (0, 735), (0, 4), (0, 4), (1, 96), (1, 24)], xjI_model I, xjL_model L, xjP_model P)) := by
  refine xw_S xb_106 (l := [.ref 60, .float 0]) (Nat.le_of_ble_eq_true rfl) rfl ?_
  refine xw_go xb_106 1 rfl trivial ?_
  refine xw_at (f' := (1, [.ref 60, .float 0], [.ref 60])) (h' := ([(12, 8), (8, 15), (0, 64), (0, 64), (2, 5), (7, 3), (4, 8), (0, 72), (0, 72), (0, 72), (0, 72), (0, 72), (0, 72), (0, 72), (0, 72), (11, 4), (11, 4), (11, 4), (11, 4), (11, 4), (5, 4), (0, 64), (0, 64), (0, 8), (6, 12), (0, 64), (0, 64), (4, 5), (0, 64), (0, 64), (0, 64), (0, 64), (0, 64), (4, 6), (0, 64), (0, 64), (0, 64), (0, 64), (0, 64), (0, 64), (0, 5), (0, 5), (0, 110), (9, 9), (0, 64), (2, 5), (11, 4), (11, 4), (11, 4), (11, 4), (11, 4), (3, 4), (10, 4), (1, 24), (10, 4), (1, 24), (10, 4), (1, 24), (10, 4), (1, 24), (13, 19)], I, L, P)) rfl rfl ?_
  refine xw_obj xb_106 rfl rfl rfl ?_
  refine xw_at (f' := (4, [.ref 60, .float 0], [])) (h' := ([(12, 8), (8, 15), (0, 64), (0, 64), (2, 5), (7, 3), (4, 8), (0, 72), (0, 72), (0, 72), (0, 72), (0, 72), (0, 72), (0, 72), (0, 72), (11, 4), (11, 4), (11, 4), (11, 4), (11, 4), (5, 4), (0, 64), (0, 64), (0, 8), (6, 12), (0, 64), (0, 64), (4, 5), (0, 64), (0, 64), (0, 64), (0, 64), (0, 64), (4, 6), (0, 64), (0, 64), (0, 64), (0, 64), (0, 64), (0, 64), (0, 5), (0, 5), (0, 110), (9, 9), (0, 64), (2, 5), (11, 4), (11, 4), (11, 4), (11, 4), (11, 4), (3, 4), (10, 4), (1, 24), (10, 4), (1, 24), (10, 4), (1, 24), (10, 4), (1, 24), (13, 19)], I, L, P)) rfl rfl ?_
  refine xw_go xb_106 4 rfl ⟨(by decide), (by decide), rfl, rfl, trivial⟩ ?_
  refine xw_at (f' := (13, [.ref 60, .float 0], [])) (h' := ([(12, 8), (8, 15), (0, 64), (0, 64), (2, 5), (7, 3), (4, 8), (0, 72), (0, 72), (0, 72), (0, 72), (0, 72), (0, 72), (0, 72), (0, 72), (11, 4), (11, 4), (11, 4), (11, 4), (11, 4), (5, 4), (0, 64), (0, 64), (0, 8), (6, 12), (0, 64), (0, 64), (4, 5), (0, 64), (0, 64), (0, 64), (0, 64), (0, 64), (4, 6), (0, 64), (0, 64), (0, 64), (0, 64), (0, 64), (0, 64), (0, 5), (0, 5), (0, 110), (9, 9), (0, 64), (2, 5), (11, 4), (11, 4), (11, 4), (11, 4), (11, 4), (3, 4), (10, 4), (1, 24), (10, 4), (1, 24), (10, 4), (1, 24), (10, 4), (1, 24), (13, 19), (0, 159)], va_up I 61 (fun _ => 0), va_up L 61 (fun _ => 0), xm_up (va_up P 61 (fun _ => none)) 60 0 (some 61))) rfl rfl ?_
  refine xw_go xb_106 4 rfl ⟨(by decide), (by decide), rfl, rfl, trivial⟩ ?_
  refine xw_at (f' := (21, [.ref 60, .float 0], [])) (h' := ([(12, 8), (8, 15), (0, 64), (0, 64), (2, 5), (7, 3), (4, 8), (0, 72), (0, 72), (0, 72), (0, 72), (0, 72), (0, 72), (0, 72), (0, 72), (11, 4), (11, 4), (11, 4), (11, 4), (11, 4), (5, 4), (0, 64), (0, 64), (0, 8), (6, 12), (0, 64), (0, 64), (4, 5), (0, 64), (0, 64), (0, 64), (0, 64), (0, 64), (4, 6), (0, 64), (0, 64), (0, 64), (0, 64), (0, 64), (0, 64), (0, 5), (0, 5), (0, 110), (9, 9), (0, 64), (2, 5), (11, 4), (11, 4), (11, 4), (11, 4), (11, 4), (3, 4), (10, 4), (1, 24), (10, 4), (1, 24), (10, 4), (1, 24), (10, 4), (1, 24), (13, 19), (0, 159), (0, 64)], va_up (va_up I 61 (fun _ => 0)) 62 (fun _ => 0), va_up (va_up L 61 (fun _ => 0)) 62 (fun _ => 0), xm_up (va_up (xm_up (va_up P 61 (fun _ => none)) 60 0 (some 61)) 62 (fun _ => none)) 60 1 (some 62))) rfl rfl ?_
  refine xw_go xb_106 4 rfl ⟨(by decide), (by decide), rfl, rfl, trivial⟩ ?_
  refine xw_at (f' := (29, [.ref 60, .float 0], [])) (h' := ([(12, 8), (8, 15), (0, 64), (0, 64), (2, 5), (7, 3), (4, 8), (0, 72), (0, 72), (0, 72), (0, 72), (0, 72), (0, 72), (0, 72), (0, 72), (11, 4), (11, 4), (11, 4), (11, 4), (11, 4), (5, 4), (0, 64), (0, 64), (0, 8), (6, 12), (0, 64), (0, 64), (4, 5), (0, 64), (0, 64), (0, 64), (0, 64), (0, 64), (4, 6), (0, 64), (0, 64), (0, 64), (0, 64), (0, 64), (0, 64), (0, 5), (0, 5), (0, 110), (9, 9), (0, 64), (2, 5), (11, 4), (11, 4), (11, 4), (11, 4), (11, 4), (3, 4), (10, 4), (1, 24), (10, 4), (1, 24), (10, 4), (1, 24), (10, 4), (1, 24), (13, 19), (0, 159), (0, 64), (0, 8)], va_up (va_up (va_up I 61 (fun _ => 0)) 62 (fun _ => 0)) 63 (fun _ => 0), va_up (va_up (va_up L 61 (fun _ => 0)) 62 (fun _ => 0)) 63 (fun _ => 0), xm_up (va_up (xm_up (va_up (xm_up (va_up P 61 (fun _ => none)) 60 0 (some 61)) 62 (fun _ => none)) 60 1 (some 62)) 63 (fun _ => none)) 60 2 (some 63))) rfl rfl ?_
  refine xw_go xb_106 4 rfl ⟨(by decide), (by decide), rfl, rfl, trivial⟩ ?_
  refine xw_at (f' := (37, [.ref 60, .float 0], [])) (h' := ([(12, 8), (8, 15), (0, 64), (0, 64), (2, 5), (7, 3), (4, 8), (0, 72), (0, 72), (0, 72), (0, 72), (0, 72), (0, 72), (0, 72), (0, 72), (11, 4), (11, 4), (11, 4), (11, 4), (11, 4), (5, 4), (0, 64), (0, 64), (0, 8), (6, 12), (0, 64), (0, 64), (4, 5), (0, 64), (0, 64), (0, 64), (0, 64), (0, 64), (4, 6), (0, 64), (0, 64), (0, 64), (0, 64), (0, 64), (0, 64), (0, 5), (0, 5), (0, 110), (9, 9), (0, 64), (2, 5), (11, 4), (11, 4), (11, 4), (11, 4), (11, 4), (3, 4), (10, 4), (1, 24), (10, 4), (1, 24), (10, 4), (1, 24), (10, 4), (1, 24), (13, 19), (0, 159), (0, 64), (0, 8), (0, 110)], va_up (va_up (va_up (va_up I 61 (fun _ => 0)) 62 (fun _ => 0)) 63 (fun _ => 0)) 64 (fun _ => 0), va_up (va_up (va_up (va_up L 61 (fun _ => 0)) 62 (fun _ => 0)) 63 (fun _ => 0)) 64 (fun _ => 0), xm_up (va_up (xm_up (va_up (xm_up (va_up (xm_up (va_up P 61 (fun _ => none)) 60 0 (some 61)) 62 (fun _ => none)) 60 1 (some 62)) 63 (fun _ => none)) 60 2 (some 63)) 64 (fun _ => none)) 60 3 (some 64))) rfl rfl ?_
  refine xw_go xb_106 4 rfl ⟨(by decide), (by decide), rfl, rfl, trivial⟩ ?_
  refine xw_at (f' := (45, [.ref 60, .float 0], [])) (h' := ([(12, 8), (8, 15), (0, 64), (0, 64), (2, 5), (7, 3), (4, 8), (0, 72), (0, 72), (0, 72), (0, 72), (0, 72), (0, 72), (0, 72), (0, 72), (11, 4), (11, 4), (11, 4), (11, 4), (11, 4), (5, 4), (0, 64), (0, 64), (0, 8), (6, 12), (0, 64), (0, 64), (4, 5), (0, 64), (0, 64), (0, 64), (0, 64), (0, 64), (4, 6), (0, 64), (0, 64), (0, 64), (0, 64), (0, 64), (0, 64), (0, 5), (0, 5), (0, 110), (9, 9), (0, 64), (2, 5), (11, 4), (11, 4), (11, 4), (11, 4), (11, 4), (3, 4), (10, 4), (1, 24), (10, 4), (1, 24), (10, 4), (1, 24), (10, 4), (1, 24), (13, 19), (0, 159), (0, 64), (0, 8), (0, 110), (0, 64)], va_up (va_up (va_up (va_up (va_up I 61 (fun _ => 0)) 62 (fun _ => 0)) 63 (fun _ => 0)) 64 (fun _ => 0)) 65 (fun _ => 0), va_up (va_up (va_up (va_up (va_up L 61 (fun _ => 0)) 62 (fun _ => 0)) 63 (fun _ => 0)) 64 (fun _ => 0)) 65 (fun _ => 0), xm_up (va_up (xm_up (va_up (xm_up (va_up (xm_up (va_up (xm_up (va_up P 61 (fun _ => none)) 60 0 (some 61)) 62 (fun _ => none)) 60 1 (some 62)) 63 (fun _ => none)) 60 2 (some 63)) 64 (fun _ => none)) 60 3 (some 64)) 65 (fun _ => none)) 60 7 (some 65))) rfl rfl ?_
  refine xw_go xb_106 4 rfl ⟨(by decide), (by decide), rfl, rfl, trivial⟩ ?_
  refine xw_at (f' := (53, [.ref 60, .float 0], [])) (h' := ([(12, 8), (8, 15), (0, 64), (0, 64), (2, 5), (7, 3), (4, 8), (0, 72), (0, 72), (0, 72), (0, 72), (0, 72), (0, 72), (0, 72), (0, 72), (11, 4), (11, 4), (11, 4), (11, 4), (11, 4), (5, 4), (0, 64), (0, 64), (0, 8), (6, 12), (0, 64), (0, 64), (4, 5), (0, 64), (0, 64), (0, 64), (0, 64), (0, 64), (4, 6), (0, 64), (0, 64), (0, 64), (0, 64), (0, 64), (0, 64), (0, 5), (0, 5), (0, 110), (9, 9), (0, 64), (2, 5), (11, 4), (11, 4), (11, 4), (11, 4), (11, 4), (3, 4), (10, 4), (1, 24), (10, 4), (1, 24), (10, 4), (1, 24), (10, 4), (1, 24), (13, 19), (0, 159), (0, 64), (0, 8), (0, 110), (0, 64), (0, 20)], va_up (va_up (va_up (va_up (va_up (va_up I 61 (fun _ => 0)) 62 (fun _ => 0)) 63 (fun _ => 0)) 64 (fun _ => 0)) 65 (fun _ => 0)) 66 (fun _ => 0), va_up (va_up (va_up (va_up (va_up (va_up L 61 (fun _ => 0)) 62 (fun _ => 0)) 63 (fun _ => 0)) 64 (fun _ => 0)) 65 (fun _ => 0)) 66 (fun _ => 0), xm_up (va_up (xm_up (va_up (xm_up (va_up (xm_up (va_up (xm_up (va_up (xm_up (va_up P 61 (fun _ => none)) 60 0 (some 61)) 62 (fun _ => none)) 60 1 (some 62)) 63 (fun _ => none)) 60 2 (some 63)) 64 (fun _ => none)) 60 3 (some 64)) 65 (fun _ => none)) 60 7 (some 65)) 66 (fun _ => none)) 60 8 (some 66))) rfl rfl ?_
  refine xw_go xb_106 4 rfl ⟨(by decide), (by decide), rfl, rfl, trivial⟩ ?_
  refine xw_at (f' := (62, [.ref 60, .float 0], [])) (h' := ([(12, 8), (8, 15), (0, 64), (0, 64), (2, 5), (7, 3), (4, 8), (0, 72), (0, 72), (0, 72), (0, 72), (0, 72), (0, 72), (0, 72), (0, 72), (11, 4), (11, 4), (11, 4), (11, 4), (11, 4), (5, 4), (0, 64), (0, 64), (0, 8), (6, 12), (0, 64), (0, 64), (4, 5), (0, 64), (0, 64), (0, 64), (0, 64), (0, 64), (4, 6), (0, 64), (0, 64), (0, 64), (0, 64), (0, 64), (0, 64), (0, 5), (0, 5), (0, 110), (9, 9), (0, 64), (2, 5), (11, 4), (11, 4), (11, 4), (11, 4), (11, 4), (3, 4), (10, 4), (1, 24), (10, 4), (1, 24), (10, 4), (1, 24), (10, 4), (1, 24), (13, 19), (0, 159), (0, 64), (0, 8), (0, 110), (0, 64), (0, 20), (0, 576)], va_up (va_up (va_up (va_up (va_up (va_up (va_up I 61 (fun _ => 0)) 62 (fun _ => 0)) 63 (fun _ => 0)) 64 (fun _ => 0)) 65 (fun _ => 0)) 66 (fun _ => 0)) 67 (fun _ => 0), va_up (va_up (va_up (va_up (va_up (va_up (va_up L 61 (fun _ => 0)) 62 (fun _ => 0)) 63 (fun _ => 0)) 64 (fun _ => 0)) 65 (fun _ => 0)) 66 (fun _ => 0)) 67 (fun _ => 0), xm_up (va_up (xm_up (va_up (xm_up (va_up (xm_up (va_up (xm_up (va_up (xm_up (va_up (xm_up (va_up P 61 (fun _ => none)) 60 0 (some 61)) 62 (fun _ => none)) 60 1 (some 62)) 63 (fun _ => none)) 60 2 (some 63)) 64 (fun _ => none)) 60 3 (some 64)) 65 (fun _ => none)) 60 7 (some 65)) 66 (fun _ => none)) 60 8 (some 66)) 67 (fun _ => none)) 60 9 (some 67))) rfl rfl ?_
  refine xw_go xb_106 4 rfl ⟨(by decide), (by decide), rfl, rfl, trivial⟩ ?_
  refine xw_at (f' := (71, [.ref 60, .float 0], [])) (h' := ([(12, 8), (8, 15), (0, 64), (0, 64), (2, 5), (7, 3), (4, 8), (0, 72), (0, 72), (0, 72), (0, 72), (0, 72), (0, 72), (0, 72), (0, 72), (11, 4), (11, 4), (11, 4), (11, 4), (11, 4), (5, 4), (0, 64), (0, 64), (0, 8), (6, 12), (0, 64), (0, 64), (4, 5), (0, 64), (0, 64), (0, 64), (0, 64), (0, 64), (4, 6), (0, 64), (0, 64), (0, 64), (0, 64), (0, 64), (0, 64), (0, 5), (0, 5), (0, 110), (9, 9), (0, 64), (2, 5), (11, 4), (11, 4), (11, 4), (11, 4), (11, 4), (3, 4), (10, 4), (1, 24), (10, 4), (1, 24), (10, 4), (1, 24), (10, 4), (1, 24), (13, 19), (0, 159), (0, 64), (0, 8), (0, 110), (0, 64), (0, 20), (0, 576), (0, 159)], va_up (va_up (va_up (va_up (va_up (va_up (va_up (va_up I 61 (fun _ => 0)) 62 (fun _ => 0)) 63 (fun _ => 0)) 64 (fun _ => 0)) 65 (fun _ => 0)) 66 (fun _ => 0)) 67 (fun _ => 0)) 68 (fun _ => 0), va_up (va_up (va_up (va_up (va_up (va_up (va_up (va_up L 61 (fun _ => 0)) 62 (fun _ => 0)) 63 (fun _ => 0)) 64 (fun _ => 0)) 65 (fun _ => 0)) 66 (fun _ => 0)) 67 (fun _ => 0)) 68 (fun _ => 0), xm_up (va_up (xm_up (va_up (xm_up (va_up (xm_up (va_up (xm_up (va_up (xm_up (va_up (xm_up (va_up (xm_up (va_up P 61 (fun _ => none)) 60 0 (some 61)) 62 (fun _ => none)) 60 1 (some 62)) 63 (fun _ => none)) 60 2 (some 63)) 64 (fun _ => none)) 60 3 (some 64)) 65 (fun _ => none)) 60 7 (some 65)) 66 (fun _ => none)) 60 8 (some 66)) 67 (fun _ => none)) 60 9 (some 67)) 68 (fun _ => none)) 60 11 (some 68))) rfl rfl ?_
  refine xw_go xb_106 4 rfl ⟨(by decide), (by decide), rfl, rfl, trivial⟩ ?_
  refine xw_at (f' := (80, [.ref 60, .float 0], [])) (h' := ([(12, 8), (8, 15), (0, 64), (0, 64), (2, 5), (7, 3), (4, 8), (0, 72), (0, 72), (0, 72), (0, 72), (0, 72), (0, 72), (0, 72), (0, 72), (11, 4), (11, 4), (11, 4), (11, 4), (11, 4), (5, 4), (0, 64), (0, 64), (0, 8), (6, 12), (0, 64), (0, 64), (4, 5), (0, 64), (0, 64), (0, 64), (0, 64), (0, 64), (4, 6), (0, 64), (0, 64), (0, 64), (0, 64), (0, 64), (0, 64), (0, 5), (0, 5), (0, 110), (9, 9), (0, 64), (2, 5), (11, 4), (11, 4), (11, 4), (11, 4), (11, 4), (3, 4), (10, 4), (1, 24), (10, 4), (1, 24), (10, 4), (1, 24), (10, 4), (1, 24), (13, 19), (0, 159), (0, 64), (0, 8), (0, 110), (0, 64), (0, 20), (0, 576), (0, 159), (0, 735)], va_up (va_up (va_up (va_up (va_up (va_up (va_up (va_up (va_up I 61 (fun _ => 0)) 62 (fun _ => 0)) 63 (fun _ => 0)) 64 (fun _ => 0)) 65 (fun _ => 0)) 66 (fun _ => 0)) 67 (fun _ => 0)) 68 (fun _ => 0)) 69 (fun _ => 0), va_up (va_up (va_up (va_up (va_up (va_up (va_up (va_up (va_up L 61 (fun _ => 0)) 62 (fun _ => 0)) 63 (fun _ => 0)) 64 (fun _ => 0)) 65 (fun _ => 0)) 66 (fun _ => 0)) 67 (fun _ => 0)) 68 (fun _ => 0)) 69 (fun _ => 0), xm_up (va_up (xm_up (va_up (xm_up (va_up (xm_up (va_up (xm_up (va_up (xm_up (va_up (xm_up (va_up (xm_up (va_up (xm_up (va_up P 61 (fun _ => none)) 60 0 (some 61)) 62 (fun _ => none)) 60 1 (some 62)) 63 (fun _ => none)) 60 2 (some 63)) 64 (fun _ => none)) 60 3 (some 64)) 65 (fun _ => none)) 60 7 (some 65)) 66 (fun _ => none)) 60 8 (some 66)) 67 (fun _ => none)) 60 9 (some 67)) 68 (fun _ => none)) 60 11 (some 68)) 69 (fun _ => none)) 60 12 (some 69))) rfl rfl ?_
  refine xw_go xb_106 4 rfl ⟨(by decide), (by decide), rfl, rfl, trivial⟩ ?_
  refine xw_at (f' := (87, [.ref 60, .float 0], [])) (h' := ([(12, 8), (8, 15), (0, 64), (0, 64), (2, 5), (7, 3), (4, 8), (0, 72), (0, 72), (0, 72), (0, 72), (0, 72), (0, 72), (0, 72), (0, 72), (11, 4), (11, 4), (11, 4), (11, 4), (11, 4), (5, 4), (0, 64), (0, 64), (0, 8), (6, 12), (0, 64), (0, 64), (4, 5), (0, 64), (0, 64), (0, 64), (0, 64), (0, 64), (4, 6), (0, 64), (0, 64), (0, 64), (0, 64), (0, 64), (0, 64), (0, 5), (0, 5), (0, 110), (9, 9), (0, 64), (2, 5), (11, 4), (11, 4), (11, 4), (11, 4), (11, 4), (3, 4), (10, 4), (1, 24), (10, 4), (1, 24), (10, 4), (1, 24), (10, 4), (1, 24), (13, 19), (0, 159), (0, 64), (0, 8), (0, 110), (0, 64), (0, 20), (0, 576), (0, 159), (0, 735), (0, 4)], va_up (va_up (va_up (va_up (va_up (va_up (va_up (va_up (va_up (va_up I 61 (fun _ => 0)) 62 (fun _ => 0)) 63 (fun _ => 0)) 64 (fun _ => 0)) 65 (fun _ => 0)) 66 (fun _ => 0)) 67 (fun _ => 0)) 68 (fun _ => 0)) 69 (fun _ => 0)) 70 (fun _ => 0), va_up (va_up (va_up (va_up (va_up (va_up (va_up (va_up (va_up (va_up L 61 (fun _ => 0)) 62 (fun _ => 0)) 63 (fun _ => 0)) 64 (fun _ => 0)) 65 (fun _ => 0)) 66 (fun _ => 0)) 67 (fun _ => 0)) 68 (fun _ => 0)) 69 (fun _ => 0)) 70 (fun _ => 0), xm_up (va_up (xm_up (va_up (xm_up (va_up (xm_up (va_up (xm_up (va_up (xm_up (va_up (xm_up (va_up (xm_up (va_up (xm_up (va_up (xm_up (va_up P 61 (fun _ => none)) 60 0 (some 61)) 62 (fun _ => none)) 60 1 (some 62)) 63 (fun _ => none)) 60 2 (some 63)) 64 (fun _ => none)) 60 3 (some 64)) 65 (fun _ => none)) 60 7 (some 65)) 66 (fun _ => none)) 60 8 (some 66)) 67 (fun _ => none)) 60 9 (some 67)) 68 (fun _ => none)) 60 11 (some 68)) 69 (fun _ => none)) 60 12 (some 69)) 70 (fun _ => none)) 60 15 (some 70))) rfl rfl ?_
  refine xw_go xb_106 4 rfl ⟨(by decide), (by decide), rfl, rfl, trivial⟩ ?_
  refine xw_at (f' := (94, [.ref 60, .float 0], [])) (h' := ([(12, 8), (8, 15), (0, 64), (0, 64), (2, 5), (7, 3), (4, 8), (0, 72), (0, 72), (0, 72), (0, 72), (0, 72), (0, 72), (0, 72), (0, 72), (11, 4), (11, 4), (11, 4), (11, 4), (11, 4), (5, 4), (0, 64), (0, 64), (0, 8), (6, 12), (0, 64), (0, 64), (4, 5), (0, 64), (0, 64), (0, 64), (0, 64), (0, 64), (4, 6), (0, 64), (0, 64), (0, 64), (0, 64), (0, 64), (0, 64), (0, 5), (0, 5), (0, 110), (9, 9), (0, 64), (2, 5), (11, 4), (11, 4), (11, 4), (11, 4), (11, 4), (3, 4), (10, 4), (1, 24), (10, 4), (1, 24), (10, 4), (1, 24), (10, 4), (1, 24), (13, 19), (0, 159), (0, 64), (0, 8), (0, 110), (0, 64), (0, 20), (0, 576), (0, 159), (0, 735), (0, 4), (0, 4)], va_up (va_up (va_up (va_up (va_up (va_up (va_up (va_up (va_up (va_up (va_up I 61 (fun _ => 0)) 62 (fun _ => 0)) 63 (fun _ => 0)) 64 (fun _ => 0)) 65 (fun _ => 0)) 66 (fun _ => 0)) 67 (fun _ => 0)) 68 (fun _ => 0)) 69 (fun _ => 0)) 70 (fun _ => 0)) 71 (fun _ => 0), va_up (va_up (va_up (va_up (va_up (va_up (va_up (va_up (va_up (va_up (va_up L 61 (fun _ => 0)) 62 (fun _ => 0)) 63 (fun _ => 0)) 64 (fun _ => 0)) 65 (fun _ => 0)) 66 (fun _ => 0)) 67 (fun _ => 0)) 68 (fun _ => 0)) 69 (fun _ => 0)) 70 (fun _ => 0)) 71 (fun _ => 0), xm_up (va_up (xm_up (va_up (xm_up (va_up (xm_up (va_up (xm_up (va_up (xm_up (va_up (xm_up (va_up (xm_up (va_up (xm_up (va_up (xm_up (va_up (xm_up (va_up P 61 (fun _ => none)) 60 0 (some 61)) 62 (fun _ => none)) 60 1 (some 62)) 63 (fun _ => none)) 60 2 (some 63)) 64 (fun _ => none)) 60 3 (some 64)) 65 (fun _ => none)) 60 7 (some 65)) 66 (fun _ => none)) 60 8 (some 66)) 67 (fun _ => none)) 60 9 (some 67)) 68 (fun _ => none)) 60 11 (some 68)) 69 (fun _ => none)) 60 12 (some 69)) 70 (fun _ => none)) 60 15 (some 70)) 71 (fun _ => none)) 60 16 (some 71))) rfl rfl ?_
  refine xw_go xb_106 4 rfl ⟨(by decide), (by decide), rfl, rfl, trivial⟩ ?_
  refine xw_at (f' := (102, [.ref 60, .float 0], [])) (h' := ([(12, 8), (8, 15), (0, 64), (0, 64), (2, 5), (7, 3), (4, 8), (0, 72), (0, 72), (0, 72), (0, 72), (0, 72), (0, 72), (0, 72), (0, 72), (11, 4), (11, 4), (11, 4), (11, 4), (11, 4), (5, 4), (0, 64), (0, 64), (0, 8), (6, 12), (0, 64), (0, 64), (4, 5), (0, 64), (0, 64), (0, 64), (0, 64), (0, 64), (4, 6), (0, 64), (0, 64), (0, 64), (0, 64), (0, 64), (0, 64), (0, 5), (0, 5), (0, 110), (9, 9), (0, 64), (2, 5), (11, 4), (11, 4), (11, 4), (11, 4), (11, 4), (3, 4), (10, 4), (1, 24), (10, 4), (1, 24), (10, 4), (1, 24), (10, 4), (1, 24), (13, 19), (0, 159), (0, 64), (0, 8), (0, 110), (0, 64), (0, 20), (0, 576), (0, 159), (0, 735), (0, 4), (0, 4), (1, 96)], va_up (va_up (va_up (va_up (va_up (va_up (va_up (va_up (va_up (va_up (va_up (va_up I 61 (fun _ => 0)) 62 (fun _ => 0)) 63 (fun _ => 0)) 64 (fun _ => 0)) 65 (fun _ => 0)) 66 (fun _ => 0)) 67 (fun _ => 0)) 68 (fun _ => 0)) 69 (fun _ => 0)) 70 (fun _ => 0)) 71 (fun _ => 0)) 72 (fun _ => 0), va_up (va_up (va_up (va_up (va_up (va_up (va_up (va_up (va_up (va_up (va_up (va_up L 61 (fun _ => 0)) 62 (fun _ => 0)) 63 (fun _ => 0)) 64 (fun _ => 0)) 65 (fun _ => 0)) 66 (fun _ => 0)) 67 (fun _ => 0)) 68 (fun _ => 0)) 69 (fun _ => 0)) 70 (fun _ => 0)) 71 (fun _ => 0)) 72 (fun _ => 0), xm_up (va_up (xm_up (va_up (xm_up (va_up (xm_up (va_up (xm_up (va_up (xm_up (va_up (xm_up (va_up (xm_up (va_up (xm_up (va_up (xm_up (va_up (xm_up (va_up (xm_up (va_up P 61 (fun _ => none)) 60 0 (some 61)) 62 (fun _ => none)) 60 1 (some 62)) 63 (fun _ => none)) 60 2 (some 63)) 64 (fun _ => none)) 60 3 (some 64)) 65 (fun _ => none)) 60 7 (some 65)) 66 (fun _ => none)) 60 8 (some 66)) 67 (fun _ => none)) 60 9 (some 67)) 68 (fun _ => none)) 60 11 (some 68)) 69 (fun _ => none)) 60 12 (some 69)) 70 (fun _ => none)) 60 15 (some 70)) 71 (fun _ => none)) 60 16 (some 71)) 72 (fun _ => none)) 60 17 (some 72))) rfl rfl ?_
  refine xw_go xb_106 4 rfl ⟨(by decide), (by decide), rfl, rfl, trivial⟩ ?_
  refine xw_at (f' := (110, [.ref 60, .float 0], [])) (h' := ([(12, 8), (8, 15), (0, 64), (0, 64), (2, 5), (7, 3), (4, 8), (0, 72), (0, 72), (0, 72), (0, 72), (0, 72), (0, 72), (0, 72), (0, 72), (11, 4), (11, 4), (11, 4), (11, 4), (11, 4), (5, 4), (0, 64), (0, 64), (0, 8), (6, 12), (0, 64), (0, 64), (4, 5), (0, 64), (0, 64), (0, 64), (0, 64), (0, 64), (4, 6), (0, 64), (0, 64), (0, 64), (0, 64), (0, 64), (0, 64), (0, 5), (0, 5), (0, 110), (9, 9), (0, 64), (2, 5), (11, 4), (11, 4), (11, 4), (11, 4), (11, 4), (3, 4), (10, 4), (1, 24), (10, 4), (1, 24), (10, 4), (1, 24), (10, 4), (1, 24), (13, 19), (0, 159), (0, 64), (0, 8), (0, 110), (0, 64), (0, 20), (0, 576), (0, 159), (0, 735), (0, 4), (0, 4), (1, 96), (1, 24)], va_up (va_up (va_up (va_up (va_up (va_up (va_up (va_up (va_up (va_up (va_up (va_up (va_up I 61 (fun _ => 0)) 62 (fun _ => 0)) 63 (fun _ => 0)) 64 (fun _ => 0)) 65 (fun _ => 0)) 66 (fun _ => 0)) 67 (fun _ => 0)) 68 (fun _ => 0)) 69 (fun _ => 0)) 70 (fun _ => 0)) 71 (fun _ => 0)) 72 (fun _ => 0)) 73 (fun _ => 0), va_up (va_up (va_up (va_up (va_up (va_up (va_up (va_up (va_up (va_up (va_up (va_up (va_up L 61 (fun _ => 0)) 62 (fun _ => 0)) 63 (fun _ => 0)) 64 (fun _ => 0)) 65 (fun _ => 0)) 66 (fun _ => 0)) 67 (fun _ => 0)) 68 (fun _ => 0)) 69 (fun _ => 0)) 70 (fun _ => 0)) 71 (fun _ => 0)) 72 (fun _ => 0)) 73 (fun _ => 0), xm_up (va_up (xm_up (va_up (xm_up (va_up (xm_up (va_up (xm_up (va_up (xm_up (va_up (xm_up (va_up (xm_up (va_up (xm_up (va_up (xm_up (va_up (xm_up (va_up (xm_up (va_up (xm_up (va_up P 61 (fun _ => none)) 60 0 (some 61)) 62 (fun _ => none)) 60 1 (some 62)) 63 (fun _ => none)) 60 2 (some 63)) 64 (fun _ => none)) 60 3 (some 64)) 65 (fun _ => none)) 60 7 (some 65)) 66 (fun _ => none)) 60 8 (some 66)) 67 (fun _ => none)) 60 9 (some 67)) 68 (fun _ => none)) 60 11 (some 68)) 69 (fun _ => none)) 60 12 (some 69)) 70 (fun _ => none)) 60 15 (some 70)) 71 (fun _ => none)) 60 16 (some 71)) 72 (fun _ => none)) 60 17 (some 72)) 73 (fun _ => none)) 60 18 (some 73))) rfl rfl ?_
  refine xw_go xb_106 5 rfl ⟨rfl, (xn_ar (n := 0) (N := 159) rfl (by decide) (by decide)), trivial⟩ ?_
  refine xw_at (f' := (117, [.ref 60, .float 0], [])) (h' := ([(12, 8), (8, 15), (0, 64), (0, 64), (2, 5), (7, 3), (4, 8), (0, 72), (0, 72), (0, 72), (0, 72), (0, 72), (0, 72), (0, 72), (0, 72), (11, 4), (11, 4), (11, 4), (11, 4), (11, 4), (5, 4), (0, 64), (0, 64), (0, 8), (6, 12), (0, 64), (0, 64), (4, 5), (0, 64), (0, 64), (0, 64), (0, 64), (0, 64), (4, 6), (0, 64), (0, 64), (0, 64), (0, 64), (0, 64), (0, 64), (0, 5), (0, 5), (0, 110), (9, 9), (0, 64), (2, 5), (11, 4), (11, 4), (11, 4), (11, 4), (11, 4), (3, 4), (10, 4), (1, 24), (10, 4), (1, 24), (10, 4), (1, 24), (10, 4), (1, 24), (13, 19), (0, 159), (0, 64), (0, 8), (0, 110), (0, 64), (0, 20), (0, 576), (0, 159), (0, 735), (0, 4), (0, 4), (1, 96), (1, 24)], xm_up (va_up (va_up (va_up (va_up (va_up (va_up (va_up (va_up (va_up (va_up (va_up (va_up (va_up I 61 (fun _ => 0)) 62 (fun _ => 0)) 63 (fun _ => 0)) 64 (fun _ => 0)) 65 (fun _ => 0)) 66 (fun _ => 0)) 67 (fun _ => 0)) 68 (fun _ => 0)) 69 (fun _ => 0)) 70 (fun _ => 0)) 71 (fun _ => 0)) 72 (fun _ => 0)) 73 (fun _ => 0)) 61 0 4, va_up (va_up (va_up (va_up (va_up (va_up (va_up (va_up (va_up (va_up (va_up (va_up (va_up L 61 (fun _ => 0)) 62 (fun _ => 0)) 63 (fun _ => 0)) 64 (fun _ => 0)) 65 (fun _ => 0)) 66 (fun _ => 0)) 67 (fun _ => 0)) 68 (fun _ => 0)) 69 (fun _ => 0)) 70 (fun _ => 0)) 71 (fun _ => 0)) 72 (fun _ => 0)) 73 (fun _ => 0), xm_up (va_up (xm_up (va_up (xm_up (va_up (xm_up (va_up (xm_up (va_up (xm_up (va_up (xm_up (va_up (xm_up (va_up (xm_up (va_up (xm_up (va_up (xm_up (va_up (xm_up (va_up (xm_up (va_up P 61 (fun _ => none)) 60 0 (some 61)) 62 (fun _ => none)) 60 1 (some 62)) 63 (fun _ => none)) 60 2 (some 63)) 64 (fun _ => none)) 60 3 (some 64)) 65 (fun _ => none)) 60 7 (some 65)) 66 (fun _ => none)) 60 8 (some 66)) 67 (fun _ => none)) 60 9 (some 67)) 68 (fun _ => none)) 60 11 (some 68)) 69 (fun _ => none)) 60 12 (some 69)) 70 (fun _ => none)) 60 15 (some 70)) 71 (fun _ => none)) 60 16 (some 71)) 72 (fun _ => none)) 60 17 (some 72)) 73 (fun _ => none)) 60 18 (some 73))) rfl rfl ?_
  refine xw_go xb_106 5 rfl ⟨rfl, (xn_ar (n := 1) (N := 159) rfl (by decide) (by decide)), trivial⟩ ?_
  refine xw_at (f' := (124, [.ref 60, .float 0], [])) (h' := ([(12, 8), (8, 15), (0, 64), (0, 64), (2, 5), (7, 3), (4, 8), (0, 72), (0, 72), (0, 72), (0, 72), (0, 72), (0, 72), (0, 72), (0, 72), (11, 4), (11, 4), (11, 4), (11, 4), (11, 4), (5, 4), (0, 64), (0, 64), (0, 8), (6, 12), (0, 64), (0, 64), (4, 5), (0, 64), (0, 64), (0, 64), (0, 64), (0, 64), (4, 6), (0, 64), (0, 64), (0, 64), (0, 64), (0, 64), (0, 64), (0, 5), (0, 5), (0, 110), (9, 9), (0, 64), (2, 5), (11, 4), (11, 4), (11, 4), (11, 4), (11, 4), (3, 4), (10, 4), (1, 24), (10, 4), (1, 24), (10, 4), (1, 24), (10, 4), (1, 24), (13, 19), (0, 159), (0, 64), (0, 8), (0, 110), (0, 64), (0, 20), (0, 576), (0, 159), (0, 735), (0, 4), (0, 4), (1, 96), (1, 24)], xm_up (xm_up (va_up (va_up (va_up (va_up (va_up (va_up (va_up (va_up (va_up (va_up (va_up (va_up (va_up I 61 (fun _ => 0)) 62 (fun _ => 0)) 63 (fun _ => 0)) 64 (fun _ => 0)) 65 (fun _ => 0)) 66 (fun _ => 0)) 67 (fun _ => 0)) 68 (fun _ => 0)) 69 (fun _ => 0)) 70 (fun _ => 0)) 71 (fun _ => 0)) 72 (fun _ => 0)) 73 (fun _ => 0)) 61 0 4) 61 1 5, va_up (va_up (va_up (va_up (va_up (va_up (va_up (va_up (va_up (va_up (va_up (va_up (va_up L 61 (fun _ => 0)) 62 (fun _ => 0)) 63 (fun _ => 0)) 64 (fun _ => 0)) 65 (fun _ => 0)) 66 (fun _ => 0)) 67 (fun _ => 0)) 68 (fun _ => 0)) 69 (fun _ => 0)) 70 (fun _ => 0)) 71 (fun _ => 0)) 72 (fun _ => 0)) 73 (fun _ => 0), xm_up (va_up (xm_up (va_up (xm_up (va_up (xm_up (va_up (xm_up (va_up (xm_up (va_up (xm_up (va_up (xm_up (va_up (xm_up (va_up (xm_up (va_up (xm_up (va_up (xm_up (va_up (xm_up (va_up P 61 (fun _ => none)) 60 0 (some 61)) 62 (fun _ => none)) 60 1 (some 62)) 63 (fun _ => none)) 60 2 (some 63)) 64 (fun _ => none)) 60 3 (some 64)) 65 (fun _ => none)) 60 7 (some 65)) 66 (fun _ => none)) 60 8 (some 66)) 67 (fun _ => none)) 60 9 (some 67)) 68 (fun _ => none)) 60 11 (some 68)) 69 (fun _ => none)) 60 12 (some 69)) 70 (fun _ => none)) 60 15 (some 70)) 71 (fun _ => none)) 60 16 (some 71)) 72 (fun _ => none)) 60 17 (some 72)) 73 (fun _ => none)) 60 18 (some 73))) rfl rfl ?_
  refine xw_go xb_106 5 rfl ⟨rfl, (xn_ar (n := 6) (N := 159) rfl (by decide) (by decide)), trivial⟩ ?_
  refine xw_at (f' := (132, [.ref 60, .float 0], [])) (h' := ([(12, 8), (8, 15), (0, 64), (0, 64), (2, 5), (7, 3), (4, 8), (0, 72), (0, 72), (0, 72), (0, 72), (0, 72), (0, 72), (0, 72), (0, 72), (11, 4), (11, 4), (11, 4), (11, 4), (11, 4), (5, 4), (0, 64), (0, 64), (0, 8), (6, 12), (0, 64), (0, 64), (4, 5), (0, 64), (0, 64), (0, 64), (0, 64), (0, 64), (4, 6), (0, 64), (0, 64), (0, 64), (0, 64), (0, 64), (0, 64), (0, 5), (0, 5), (0, 110), (9, 9), (0, 64), (2, 5), (11, 4), (11, 4), (11, 4), (11, 4), (11, 4), (3, 4), (10, 4), (1, 24), (10, 4), (1, 24), (10, 4), (1, 24), (10, 4), (1, 24), (13, 19), (0, 159), (0, 64), (0, 8), (0, 110), (0, 64), (0, 20), (0, 576), (0, 159), (0, 735), (0, 4), (0, 4), (1, 96), (1, 24)], xm_up (xm_up (xm_up (va_up (va_up (va_up (va_up (va_up (va_up (va_up (va_up (va_up (va_up (va_up (va_up (va_up I 61 (fun _ => 0)) 62 (fun _ => 0)) 63 (fun _ => 0)) 64 (fun _ => 0)) 65 (fun _ => 0)) 66 (fun _ => 0)) 67 (fun _ => 0)) 68 (fun _ => 0)) 69 (fun _ => 0)) 70 (fun _ => 0)) 71 (fun _ => 0)) 72 (fun _ => 0)) 73 (fun _ => 0)) 61 0 4) 61 1 5) 61 6 2, va_up (va_up (va_up (va_up (va_up (va_up (va_up (va_up (va_up (va_up (va_up (va_up (va_up L 61 (fun _ => 0)) 62 (fun _ => 0)) 63 (fun _ => 0)) 64 (fun _ => 0)) 65 (fun _ => 0)) 66 (fun _ => 0)) 67 (fun _ => 0)) 68 (fun _ => 0)) 69 (fun _ => 0)) 70 (fun _ => 0)) 71 (fun _ => 0)) 72 (fun _ => 0)) 73 (fun _ => 0), xm_up (va_up (xm_up (va_up (xm_up (va_up (xm_up (va_up (xm_up (va_up (xm_up (va_up (xm_up (va_up (xm_up (va_up (xm_up (va_up (xm_up (va_up (xm_up (va_up (xm_up (va_up (xm_up (va_up P 61 (fun _ => none)) 60 0 (some 61)) 62 (fun _ => none)) 60 1 (some 62)) 63 (fun _ => none)) 60 2 (some 63)) 64 (fun _ => none)) 60 3 (some 64)) 65 (fun _ => none)) 60 7 (some 65)) 66 (fun _ => none)) 60 8 (some 66)) 67 (fun _ => none)) 60 9 (some 67)) 68 (fun _ => none)) 60 11 (some 68)) 69 (fun _ => none)) 60 12 (some 69)) 70 (fun _ => none)) 60 15 (some 70)) 71 (fun _ => none)) 60 16 (some 71)) 72 (fun _ => none)) 60 17 (some 72)) 73 (fun _ => none)) 60 18 (some 73))) rfl rfl ?_
  refine xw_go xb_106 5 rfl ⟨rfl, (xn_ar (n := 7) (N := 159) rfl (by decide) (by decide)), trivial⟩ ?_
  refine xw_at (f' := (141, [.ref 60, .float 0], [])) (h' := ([(12, 8), (8, 15), (0, 64), (0, 64), (2, 5), (7, 3), (4, 8), (0, 72), (0, 72), (0, 72), (0, 72), (0, 72), (0, 72), (0, 72), (0, 72), (11, 4), (11, 4), (11, 4), (11, 4), (11, 4), (5, 4), (0, 64), (0, 64), (0, 8), (6, 12), (0, 64), (0, 64), (4, 5), (0, 64), (0, 64), (0, 64), (0, 64), (0, 64), (4, 6), (0, 64), (0, 64), (0, 64), (0, 64), (0, 64), (0, 64), (0, 5), (0, 5), (0, 110), (9, 9), (0, 64), (2, 5), (11, 4), (11, 4), (11, 4), (11, 4), (11, 4), (3, 4), (10, 4), (1, 24), (10, 4), (1, 24), (10, 4), (1, 24), (10, 4), (1, 24), (13, 19), (0, 159), (0, 64), (0, 8), (0, 110), (0, 64), (0, 20), (0, 576), (0, 159), (0, 735), (0, 4), (0, 4), (1, 96), (1, 24)], xm_up (xm_up (xm_up (xm_up (va_up (va_up (va_up (va_up (va_up (va_up (va_up (va_up (va_up (va_up (va_up (va_up (va_up I 61 (fun _ => 0)) 62 (fun _ => 0)) 63 (fun _ => 0)) 64 (fun _ => 0)) 65 (fun _ => 0)) 66 (fun _ => 0)) 67 (fun _ => 0)) 68 (fun _ => 0)) 69 (fun _ => 0)) 70 (fun _ => 0)) 71 (fun _ => 0)) 72 (fun _ => 0)) 73 (fun _ => 0)) 61 0 4) 61 1 5) 61 6 2) 61 7 10, va_up (va_up (va_up (va_up (va_up (va_up (va_up (va_up (va_up (va_up (va_up (va_up (va_up L 61 (fun _ => 0)) 62 (fun _ => 0)) 63 (fun _ => 0)) 64 (fun _ => 0)) 65 (fun _ => 0)) 66 (fun _ => 0)) 67 (fun _ => 0)) 68 (fun _ => 0)) 69 (fun _ => 0)) 70 (fun _ => 0)) 71 (fun _ => 0)) 72 (fun _ => 0)) 73 (fun _ => 0), xm_up (va_up (xm_up (va_up (xm_up (va_up (xm_up (va_up (xm_up (va_up (xm_up (va_up (xm_up (va_up (xm_up (va_up (xm_up (va_up (xm_up (va_up (xm_up (va_up (xm_up (va_up (xm_up (va_up P 61 (fun _ => none)) 60 0 (some 61)) 62 (fun _ => none)) 60 1 (some 62)) 63 (fun _ => none)) 60 2 (some 63)) 64 (fun _ => none)) 60 3 (some 64)) 65 (fun _ => none)) 60 7 (some 65)) 66 (fun _ => none)) 60 8 (some 66)) 67 (fun _ => none)) 60 9 (some 67)) 68 (fun _ => none)) 60 11 (some 68)) 69 (fun _ => none)) 60 12 (some 69)) 70 (fun _ => none)) 60 15 (some 70)) 71 (fun _ => none)) 60 16 (some 71)) 72 (fun _ => none)) 60 17 (some 72)) 73 (fun _ => none)) 60 18 (some 73))) rfl rfl ?_
  refine xw_go xb_106 5 rfl ⟨rfl, (xn_ar (n := 8) (N := 159) rfl (by decide) (by decide)), trivial⟩ ?_
  refine xw_at (f' := (150, [.ref 60, .float 0], [])) (h' := ([(12, 8), (8, 15), (0, 64), (0, 64), (2, 5), (7, 3), (4, 8), (0, 72), (0, 72), (0, 72), (0, 72), (0, 72), (0, 72), (0, 72), (0, 72), (11, 4), (11, 4), (11, 4), (11, 4), (11, 4), (5, 4), (0, 64), (0, 64), (0, 8), (6, 12), (0, 64), (0, 64), (4, 5), (0, 64), (0, 64), (0, 64), (0, 64), (0, 64), (4, 6), (0, 64), (0, 64), (0, 64), (0, 64), (0, 64), (0, 64), (0, 5), (0, 5), (0, 110), (9, 9), (0, 64), (2, 5), (11, 4), (11, 4), (11, 4), (11, 4), (11, 4), (3, 4), (10, 4), (1, 24), (10, 4), (1, 24), (10, 4), (1, 24), (10, 4), (1, 24), (13, 19), (0, 159), (0, 64), (0, 8), (0, 110), (0, 64), (0, 20), (0, 576), (0, 159), (0, 735), (0, 4), (0, 4), (1, 96), (1, 24)], xm_up (xm_up (xm_up (xm_up (xm_up (va_up (va_up (va_up (va_up (va_up (va_up (va_up (va_up (va_up (va_up (va_up (va_up (va_up I 61 (fun _ => 0)) 62 (fun _ => 0)) 63 (fun _ => 0)) 64 (fun _ => 0)) 65 (fun _ => 0)) 66 (fun _ => 0)) 67 (fun _ => 0)) 68 (fun _ => 0)) 69 (fun _ => 0)) 70 (fun _ => 0)) 71 (fun _ => 0)) 72 (fun _ => 0)) 73 (fun _ => 0)) 61 0 4) 61 1 5) 61 6 2) 61 7 10) 61 8 20, va_up (va_up (va_up (va_up (va_up (va_up (va_up (va_up (va_up (va_up (va_up (va_up (va_up L 61 (fun _ => 0)) 62 (fun _ => 0)) 63 (fun _ => 0)) 64 (fun _ => 0)) 65 (fun _ => 0)) 66 (fun _ => 0)) 67 (fun _ => 0)) 68 (fun _ => 0)) 69 (fun _ => 0)) 70 (fun _ => 0)) 71 (fun _ => 0)) 72 (fun _ => 0)) 73 (fun _ => 0), xm_up (va_up (xm_up (va_up (xm_up (va_up (xm_up (va_up (xm_up (va_up (xm_up (va_up (xm_up (va_up (xm_up (va_up (xm_up (va_up (xm_up (va_up (xm_up (va_up (xm_up (va_up (xm_up (va_up P 61 (fun _ => none)) 60 0 (some 61)) 62 (fun _ => none)) 60 1 (some 62)) 63 (fun _ => none)) 60 2 (some 63)) 64 (fun _ => none)) 60 3 (some 64)) 65 (fun _ => none)) 60 7 (some 65)) 66 (fun _ => none)) 60 8 (some 66)) 67 (fun _ => none)) 60 9 (some 67)) 68 (fun _ => none)) 60 11 (some 68)) 69 (fun _ => none)) 60 12 (some 69)) 70 (fun _ => none)) 60 15 (some 70)) 71 (fun _ => none)) 60 16 (some 71)) 72 (fun _ => none)) 60 17 (some 72)) 73 (fun _ => none)) 60 18 (some 73))) rfl rfl ?_
  refine xw_go xb_106 5 rfl ⟨rfl, (xn_ar (n := 10) (N := 159) rfl (by decide) (by decide)), trivial⟩ ?_
  refine xw_at (f' := (158, [.ref 60, .float 0], [])) (h' := ([(12, 8), (8, 15), (0, 64), (0, 64), (2, 5), (7, 3), (4, 8), (0, 72), (0, 72), (0, 72), (0, 72), (0, 72), (0, 72), (0, 72), (0, 72), (11, 4), (11, 4), (11, 4), (11, 4), (11, 4), (5, 4), (0, 64), (0, 64), (0, 8), (6, 12), (0, 64), (0, 64), (4, 5), (0, 64), (0, 64), (0, 64), (0, 64), (0, 64), (4, 6), (0, 64), (0, 64), (0, 64), (0, 64), (0, 64), (0, 64), (0, 5), (0, 5), (0, 110), (9, 9), (0, 64), (2, 5), (11, 4), (11, 4), (11, 4), (11, 4), (11, 4), (3, 4), (10, 4), (1, 24), (10, 4), (1, 24), (10, 4), (1, 24), (10, 4), (1, 24), (13, 19), (0, 159), (0, 64), (0, 8), (0, 110), (0, 64), (0, 20), (0, 576), (0, 159), (0, 735), (0, 4), (0, 4), (1, 96), (1, 24)], xm_up (xm_up (xm_up (xm_up (xm_up (xm_up (va_up (va_up (va_up (va_up (va_up (va_up (va_up (va_up (va_up (va_up (va_up (va_up (va_up I 61 (fun _ => 0)) 62 (fun _ => 0)) 63 (fun _ => 0)) 64 (fun _ => 0)) 65 (fun _ => 0)) 66 (fun _ => 0)) 67 (fun _ => 0)) 68 (fun _ => 0)) 69 (fun _ => 0)) 70 (fun _ => 0)) 71 (fun _ => 0)) 72 (fun _ => 0)) 73 (fun _ => 0)) 61 0 4) 61 1 5) 61 6 2) 61 7 10) 61 8 20) 61 10 1, va_up (va_up (va_up (va_up (va_up (va_up (va_up (va_up (va_up (va_up (va_up (va_up (va_up L 61 (fun _ => 0)) 62 (fun _ => 0)) 63 (fun _ => 0)) 64 (fun _ => 0)) 65 (fun _ => 0)) 66 (fun _ => 0)) 67 (fun _ => 0)) 68 (fun _ => 0)) 69 (fun _ => 0)) 70 (fun _ => 0)) 71 (fun _ => 0)) 72 (fun _ => 0)) 73 (fun _ => 0), xm_up (va_up (xm_up (va_up (xm_up (va_up (xm_up (va_up (xm_up (va_up (xm_up (va_up (xm_up (va_up (xm_up (va_up (xm_up (va_up (xm_up (va_up (xm_up (va_up (xm_up (va_up (xm_up (va_up P 61 (fun _ => none)) 60 0 (some 61)) 62 (fun _ => none)) 60 1 (some 62)) 63 (fun _ => none)) 60 2 (some 63)) 64 (fun _ => none)) 60 3 (some 64)) 65 (fun _ => none)) 60 7 (some 65)) 66 (fun _ => none)) 60 8 (some 66)) 67 (fun _ => none)) 60 9 (some 67)) 68 (fun _ => none)) 60 11 (some 68)) 69 (fun _ => none)) 60 12 (some 69)) 70 (fun _ => none)) 60 15 (some 70)) 71 (fun _ => none)) 60 16 (some 71)) 72 (fun _ => none)) 60 17 (some 72)) 73 (fun _ => none)) 60 18 (some 73))) rfl rfl ?_
  refine xw_go xb_106 10 rfl ⟨rfl, (xn_ar (n := 0) (N := 4) rfl (by decide) (by decide)), trivial⟩ ?_
  refine xw_at (f' := (172, [.ref 60, .int 0], [])) (h' := ([(12, 8), (8, 15), (0, 64), (0, 64), (2, 5), (7, 3), (4, 8), (0, 72), (0, 72), (0, 72), (0, 72), (0, 72), (0, 72), (0, 72), (0, 72), (11, 4), (11, 4), (11, 4), (11, 4), (11, 4), (5, 4), (0, 64), (0, 64), (0, 8), (6, 12), (0, 64), (0, 64), (4, 5), (0, 64), (0, 64), (0, 64), (0, 64), (0, 64), (4, 6), (0, 64), (0, 64), (0, 64), (0, 64), (0, 64), (0, 64), (0, 5), (0, 5), (0, 110), (9, 9), (0, 64), (2, 5), (11, 4), (11, 4), (11, 4), (11, 4), (11, 4), (3, 4), (10, 4), (1, 24), (10, 4), (1, 24), (10, 4), (1, 24), (10, 4), (1, 24), (13, 19), (0, 159), (0, 64), (0, 8), (0, 110), (0, 64), (0, 20), (0, 576), (0, 159), (0, 735), (0, 4), (0, 4), (1, 96), (1, 24)], xm_up (xm_up (xm_up (xm_up (xm_up (xm_up (xm_up (va_up (va_up (va_up (va_up (va_up (va_up (va_up (va_up (va_up (va_up (va_up (va_up (va_up I 61 (fun _ => 0)) 62 (fun _ => 0)) 63 (fun _ => 0)) 64 (fun _ => 0)) 65 (fun _ => 0)) 66 (fun _ => 0)) 67 (fun _ => 0)) 68 (fun _ => 0)) 69 (fun _ => 0)) 70 (fun _ => 0)) 71 (fun _ => 0)) 72 (fun _ => 0)) 73 (fun _ => 0)) 61 0 4) 61 1 5) 61 6 2) 61 7 10) 61 8 20) 61 10 1) 70 0 (-1), va_up (va_up (va_up (va_up (va_up (va_up (va_up (va_up (va_up (va_up (va_up (va_up (va_up L 61 (fun _ => 0)) 62 (fun _ => 0)) 63 (fun _ => 0)) 64 (fun _ => 0)) 65 (fun _ => 0)) 66 (fun _ => 0)) 67 (fun _ => 0)) 68 (fun _ => 0)) 69 (fun _ => 0)) 70 (fun _ => 0)) 71 (fun _ => 0)) 72 (fun _ => 0)) 73 (fun _ => 0), xm_up (va_up (xm_up (va_up (xm_up (va_up (xm_up (va_up (xm_up (va_up (xm_up (va_up (xm_up (va_up (xm_up (va_up (xm_up (va_up (xm_up (va_up (xm_up (va_up (xm_up (va_up (xm_up (va_up P 61 (fun _ => none)) 60 0 (some 61)) 62 (fun _ => none)) 60 1 (some 62)) 63 (fun _ => none)) 60 2 (some 63)) 64 (fun _ => none)) 60 3 (some 64)) 65 (fun _ => none)) 60 7 (some 65)) 66 (fun _ => none)) 60 8 (some 66)) 67 (fun _ => none)) 60 9 (some 67)) 68 (fun _ => none)) 60 11 (some 68)) 69 (fun _ => none)) 60 12 (some 69)) 70 (fun _ => none)) 60 15 (some 70)) 71 (fun _ => none)) 60 16 (some 71)) 72 (fun _ => none)) 60 17 (some 72)) 73 (fun _ => none)) 60 18 (some 73))) rfl rfl ?_
  refine xw_go xb_106 10 rfl ⟨rfl, (xn_ar (n := 1) (N := 4) rfl (by decide) (by decide)), trivial⟩ ?_
  refine xw_at (f' := (172, [.ref 60, .int 1], [])) (h' := ([(12, 8), (8, 15), (0, 64), (0, 64), (2, 5), (7, 3), (4, 8), (0, 72), (0, 72), (0, 72), (0, 72), (0, 72), (0, 72), (0, 72), (0, 72), (11, 4), (11, 4), (11, 4), (11, 4), (11, 4), (5, 4), (0, 64), (0, 64), (0, 8), (6, 12), (0, 64), (0, 64), (4, 5), (0, 64), (0, 64), (0, 64), (0, 64), (0, 64), (4, 6), (0, 64), (0, 64), (0, 64), (0, 64), (0, 64), (0, 64), (0, 5), (0, 5), (0, 110), (9, 9), (0, 64), (2, 5), (11, 4), (11, 4), (11, 4), (11, 4), (11, 4), (3, 4), (10, 4), (1, 24), (10, 4), (1, 24), (10, 4), (1, 24), (10, 4), (1, 24), (13, 19), (0, 159), (0, 64), (0, 8), (0, 110), (0, 64), (0, 20), (0, 576), (0, 159), (0, 735), (0, 4), (0, 4), (1, 96), (1, 24)], xm_up (xm_up (xm_up (xm_up (xm_up (xm_up (xm_up (xm_up (va_up (va_up (va_up (va_up (va_up (va_up (va_up (va_up (va_up (va_up (va_up (va_up (va_up I 61 (fun _ => 0)) 62 (fun _ => 0)) 63 (fun _ => 0)) 64 (fun _ => 0)) 65 (fun _ => 0)) 66 (fun _ => 0)) 67 (fun _ => 0)) 68 (fun _ => 0)) 69 (fun _ => 0)) 70 (fun _ => 0)) 71 (fun _ => 0)) 72 (fun _ => 0)) 73 (fun _ => 0)) 61 0 4) 61 1 5) 61 6 2) 61 7 10) 61 8 20) 61 10 1) 70 0 (-1)) 70 1 (-1), va_up (va_up (va_up (va_up (va_up (va_up (va_up (va_up (va_up (va_up (va_up (va_up (va_up L 61 (fun _ => 0)) 62 (fun _ => 0)) 63 (fun _ => 0)) 64 (fun _ => 0)) 65 (fun _ => 0)) 66 (fun _ => 0)) 67 (fun _ => 0)) 68 (fun _ => 0)) 69 (fun _ => 0)) 70 (fun _ => 0)) 71 (fun _ => 0)) 72 (fun _ => 0)) 73 (fun _ => 0), xm_up (va_up (xm_up (va_up (xm_up (va_up (xm_up (va_up (xm_up (va_up (xm_up (va_up (xm_up (va_up (xm_up (va_up (xm_up (va_up (xm_up (va_up (xm_up (va_up (xm_up (va_up (xm_up (va_up P 61 (fun _ => none)) 60 0 (some 61)) 62 (fun _ => none)) 60 1 (some 62)) 63 (fun _ => none)) 60 2 (some 63)) 64 (fun _ => none)) 60 3 (some 64)) 65 (fun _ => none)) 60 7 (some 65)) 66 (fun _ => none)) 60 8 (some 66)) 67 (fun _ => none)) 60 9 (some 67)) 68 (fun _ => none)) 60 11 (some 68)) 69 (fun _ => none)) 60 12 (some 69)) 70 (fun _ => none)) 60 15 (some 70)) 71 (fun _ => none)) 60 16 (some 71)) 72 (fun _ => none)) 60 17 (some 72)) 73 (fun _ => none)) 60 18 (some 73))) rfl rfl ?_
  refine xw_go xb_106 10 rfl ⟨rfl, (xn_ar (n := 2) (N := 4) rfl (by decide) (by decide)), trivial⟩ ?_
  refine xw_at (f' := (172, [.ref 60, .int 2], [])) (h' := ([(12, 8), (8, 15), (0, 64), (0, 64), (2, 5), (7, 3), (4, 8), (0, 72), (0, 72), (0, 72), (0, 72), (0, 72), (0, 72), (0, 72), (0, 72), (11, 4), (11, 4), (11, 4), (11, 4), (11, 4), (5, 4), (0, 64), (0, 64), (0, 8), (6, 12), (0, 64), (0, 64), (4, 5), (0, 64), (0, 64), (0, 64), (0, 64), (0, 64), (4, 6), (0, 64), (0, 64), (0, 64), (0, 64), (0, 64), (0, 64), (0, 5), (0, 5), (0, 110), (9, 9), (0, 64), (2, 5), (11, 4), (11, 4), (11, 4), (11, 4), (11, 4), (3, 4), (10, 4), (1, 24), (10, 4), (1, 24), (10, 4), (1, 24), (10, 4), (1, 24), (13, 19), (0, 159), (0, 64), (0, 8), (0, 110), (0, 64), (0, 20), (0, 576), (0, 159), (0, 735), (0, 4), (0, 4), (1, 96), (1, 24)], xm_up (xm_up (xm_up (xm_up (xm_up (xm_up (xm_up (xm_up (xm_up (va_up (va_up (va_up (va_up (va_up (va_up (va_up (va_up (va_up (va_up (va_up (va_up (va_up I 61 (fun _ => 0)) 62 (fun _ => 0)) 63 (fun _ => 0)) 64 (fun _ => 0)) 65 (fun _ => 0)) 66 (fun _ => 0)) 67 (fun _ => 0)) 68 (fun _ => 0)) 69 (fun _ => 0)) 70 (fun _ => 0)) 71 (fun _ => 0)) 72 (fun _ => 0)) 73 (fun _ => 0)) 61 0 4) 61 1 5) 61 6 2) 61 7 10) 61 8 20) 61 10 1) 70 0 (-1)) 70 1 (-1)) 70 2 (-1), va_up (va_up (va_up (va_up (va_up (va_up (va_up (va_up (va_up (va_up (va_up (va_up (va_up L 61 (fun _ => 0)) 62 (fun _ => 0)) 63 (fun _ => 0)) 64 (fun _ => 0)) 65 (fun _ => 0)) 66 (fun _ => 0)) 67 (fun _ => 0)) 68 (fun _ => 0)) 69 (fun _ => 0)) 70 (fun _ => 0)) 71 (fun _ => 0)) 72 (fun _ => 0)) 73 (fun _ => 0), xm_up (va_up (xm_up (va_up (xm_up (va_up (xm_up (va_up (xm_up (va_up (xm_up (va_up (xm_up (va_up (xm_up (va_up (xm_up (va_up (xm_up (va_up (xm_up (va_up (xm_up (va_up (xm_up (va_up P 61 (fun _ => none)) 60 0 (some 61)) 62 (fun _ => none)) 60 1 (some 62)) 63 (fun _ => none)) 60 2 (some 63)) 64 (fun _ => none)) 60 3 (some 64)) 65 (fun _ => none)) 60 7 (some 65)) 66 (fun _ => none)) 60 8 (some 66)) 67 (fun _ => none)) 60 9 (some 67)) 68 (fun _ => none)) 60 11 (some 68)) 69 (fun _ => none)) 60 12 (some 69)) 70 (fun _ => none)) 60 15 (some 70)) 71 (fun _ => none)) 60 16 (some 71)) 72 (fun _ => none)) 60 17 (some 72)) 73 (fun _ => none)) 60 18 (some 73))) rfl rfl ?_
  refine xw_go xb_106 10 rfl ⟨rfl, (xn_ar (n := 3) (N := 4) rfl (by decide) (by decide)), trivial⟩ ?_
  refine xw_at (f' := (172, [.ref 60, .int 3], [])) (h' := ([(12, 8), (8, 15), (0, 64), (0, 64), (2, 5), (7, 3), (4, 8), (0, 72), (0, 72), (0, 72), (0, 72), (0, 72), (0, 72), (0, 72), (0, 72), (11, 4), (11, 4), (11, 4), (11, 4), (11, 4), (5, 4), (0, 64), (0, 64), (0, 8), (6, 12), (0, 64), (0, 64), (4, 5), (0, 64), (0, 64), (0, 64), (0, 64), (0, 64), (4, 6), (0, 64), (0, 64), (0, 64), (0, 64), (0, 64), (0, 64), (0, 5), (0, 5), (0, 110), (9, 9), (0, 64), (2, 5), (11, 4), (11, 4), (11, 4), (11, 4), (11, 4), (3, 4), (10, 4), (1, 24), (10, 4), (1, 24), (10, 4), (1, 24), (10, 4), (1, 24), (13, 19), (0, 159), (0, 64), (0, 8), (0, 110), (0, 64), (0, 20), (0, 576), (0, 159), (0, 735), (0, 4), (0, 4), (1, 96), (1, 24)], xm_up (xm_up (xm_up (xm_up (xm_up (xm_up (xm_up (xm_up (xm_up (xm_up (va_up (va_up (va_up (va_up (va_up (va_up (va_up (va_up (va_up (va_up (va_up (va_up (va_up I 61 (fun _ => 0)) 62 (fun _ => 0)) 63 (fun _ => 0)) 64 (fun _ => 0)) 65 (fun _ => 0)) 66 (fun _ => 0)) 67 (fun _ => 0)) 68 (fun _ => 0)) 69 (fun _ => 0)) 70 (fun _ => 0)) 71 (fun _ => 0)) 72 (fun _ => 0)) 73 (fun _ => 0)) 61 0 4) 61 1 5) 61 6 2) 61 7 10) 61 8 20) 61 10 1) 70 0 (-1)) 70 1 (-1)) 70 2 (-1)) 70 3 (-1), va_up (va_up (va_up (va_up (va_up (va_up (va_up (va_up (va_up (va_up (va_up (va_up (va_up L 61 (fun _ => 0)) 62 (fun _ => 0)) 63 (fun _ => 0)) 64 (fun _ => 0)) 65 (fun _ => 0)) 66 (fun _ => 0)) 67 (fun _ => 0)) 68 (fun _ => 0)) 69 (fun _ => 0)) 70 (fun _ => 0)) 71 (fun _ => 0)) 72 (fun _ => 0)) 73 (fun _ => 0), xm_up (va_up (xm_up (va_up (xm_up (va_up (xm_up (va_up (xm_up (va_up (xm_up (va_up (xm_up (va_up (xm_up (va_up (xm_up (va_up (xm_up (va_up (xm_up (va_up (xm_up (va_up (xm_up (va_up P 61 (fun _ => none)) 60 0 (some 61)) 62 (fun _ => none)) 60 1 (some 62)) 63 (fun _ => none)) 60 2 (some 63)) 64 (fun _ => none)) 60 3 (some 64)) 65 (fun _ => none)) 60 7 (some 65)) 66 (fun _ => none)) 60 8 (some 66)) 67 (fun _ => none)) 60 9 (some 67)) 68 (fun _ => none)) 60 11 (some 68)) 69 (fun _ => none)) 60 12 (some 69)) 70 (fun _ => none)) 60 15 (some 70)) 71 (fun _ => none)) 60 16 (some 71)) 72 (fun _ => none)) 60 17 (some 72)) 73 (fun _ => none)) 60 18 (some 73))) rfl rfl ?_
  refine xw_go xb_106 5 rfl trivial ?_
  refine xw_at (f' := (178, [.ref 60, .int 4], [])) (h' := ([(12, 8), (8, 15), (0, 64), (0, 64), (2, 5), (7, 3), (4, 8), (0, 72), (0, 72), (0, 72), (0, 72), (0, 72), (0, 72), (0, 72), (0, 72), (11, 4), (11, 4), (11, 4), (11, 4), (11, 4), (5, 4), (0, 64), (0, 64), (0, 8), (6, 12), (0, 64), (0, 64), (4, 5), (0, 64), (0, 64), (0, 64), (0, 64), (0, 64), (4, 6), (0, 64), (0, 64), (0, 64), (0, 64), (0, 64), (0, 64), (0, 5), (0, 5), (0, 110), (9, 9), (0, 64), (2, 5), (11, 4), (11, 4), (11, 4), (11, 4), (11, 4), (3, 4), (10, 4), (1, 24), (10, 4), (1, 24), (10, 4), (1, 24), (10, 4), (1, 24), (13, 19), (0, 159), (0, 64), (0, 8), (0, 110), (0, 64), (0, 20), (0, 576), (0, 159), (0, 735), (0, 4), (0, 4), (1, 96), (1, 24)], xm_up (xm_up (xm_up (xm_up (xm_up (xm_up (xm_up (xm_up (xm_up (xm_up (va_up (va_up (va_up (va_up (va_up (va_up (va_up (va_up (va_up (va_up (va_up (va_up (va_up I 61 (fun _ => 0)) 62 (fun _ => 0)) 63 (fun _ => 0)) 64 (fun _ => 0)) 65 (fun _ => 0)) 66 (fun _ => 0)) 67 (fun _ => 0)) 68 (fun _ => 0)) 69 (fun _ => 0)) 70 (fun _ => 0)) 71 (fun _ => 0)) 72 (fun _ => 0)) 73 (fun _ => 0)) 61 0 4) 61 1 5) 61 6 2) 61 7 10) 61 8 20) 61 10 1) 70 0 (-1)) 70 1 (-1)) 70 2 (-1)) 70 3 (-1), va_up (va_up (va_up (va_up (va_up (va_up (va_up (va_up (va_up (va_up (va_up (va_up (va_up L 61 (fun _ => 0)) 62 (fun _ => 0)) 63 (fun _ => 0)) 64 (fun _ => 0)) 65 (fun _ => 0)) 66 (fun _ => 0)) 67 (fun _ => 0)) 68 (fun _ => 0)) 69 (fun _ => 0)) 70 (fun _ => 0)) 71 (fun _ => 0)) 72 (fun _ => 0)) 73 (fun _ => 0), xm_up (va_up (xm_up (va_up (xm_up (va_up (xm_up (va_up (xm_up (va_up (xm_up (va_up (xm_up (va_up (xm_up (va_up (xm_up (va_up (xm_up (va_up (xm_up (va_up (xm_up (va_up (xm_up (va_up P 61 (fun _ => none)) 60 0 (some 61)) 62 (fun _ => none)) 60 1 (some 62)) 63 (fun _ => none)) 60 2 (some 63)) 64 (fun _ => none)) 60 3 (some 64)) 65 (fun _ => none)) 60 7 (some 65)) 66 (fun _ => none)) 60 8 (some 66)) 67 (fun _ => none)) 60 9 (some 67)) 68 (fun _ => none)) 60 11 (some 68)) 69 (fun _ => none)) 60 12 (some 69)) 70 (fun _ => none)) 60 15 (some 70)) 71 (fun _ => none)) 60 16 (some 71)) 72 (fun _ => none)) 60 17 (some 72)) 73 (fun _ => none)) 60 18 (some 73))) rfl rfl ?_
  refine xw_ret xb_106 rfl rfl trivial ?_
  exact ⟨rfl, rfl⟩

set_option maxRecDepth 100000 in
set_option maxHeartbeats 4000000 in
theorem xP_new : xjP_model (va_up (xjP_LR (va_up (fun _ _ => none) 0 (fun _ => none))) 60 (fun _ => none)) = xP false := by
  funext a k
  match a with
  | 0 =>
    match k with
    | 0 => rfl
    | 1 => rfl
    | 2 => rfl
    | 3 => rfl
    | 4 => rfl
    | 5 => rfl
    | 6 => rfl
    | 7 => rfl
    | _ + 8 => rfl
  | 1 =>
    match k with
    | 0 => rfl
    | 1 => rfl
    | 2 => rfl
    | 3 => rfl
    | 4 => rfl
    | 5 => rfl
    | 6 => rfl
    | 7 => rfl
    | 8 => rfl
    | 9 => rfl
    | 10 => rfl
    | 11 => rfl
    | 12 => rfl
    | 13 => rfl
    | 14 => rfl
    | _ + 15 => rfl
  | 2 => rfl
  | 3 => rfl
  | 4 =>
    match k with
    | 0 => rfl
    | 1 => rfl
    | 2 => rfl
    | 3 => rfl
    | 4 => rfl
    | _ + 5 => rfl
  | 5 =>
    match k with
    | 0 => rfl
    | 1 => rfl
    | 2 => rfl
    | _ + 3 => rfl
  | 6 =>
    match k with
    | 0 => rfl
    | 1 => rfl
    | 2 => rfl
    | 3 => rfl
    | 4 => rfl
    | 5 => rfl
    | 6 => rfl
    | 7 => rfl
    | _ + 8 => rfl
  | 7 => rfl
  | 8 => rfl
  | 9 => rfl
  | 10 => rfl
  | 11 => rfl
  | 12 => rfl
  | 13 => rfl
  | 14 => rfl
  | 15 => rfl
  | 16 => rfl
  | 17 => rfl
  | 18 => rfl
  | 19 => rfl
  | 20 =>
    match k with
    | 0 => rfl
    | 1 => rfl
    | 2 => rfl
    | 3 => rfl
    | _ + 4 => rfl
  | 21 => rfl
  | 22 => rfl
  | 23 => rfl
  | 24 =>
    match k with
    | 0 => rfl
    | 1 => rfl
    | 2 => rfl
    | 3 => rfl
    | 4 => rfl
    | 5 => rfl
    | 6 => rfl
    | 7 => rfl
    | 8 => rfl
    | 9 => rfl
    | 10 => rfl
    | 11 => rfl
    | _ + 12 => rfl
  | 25 => rfl
  | 26 => rfl
  | 27 =>
    match k with
    | 0 => rfl
    | 1 => rfl
    | 2 => rfl
    | 3 => rfl
    | 4 => rfl
    | _ + 5 => rfl
  | 28 => rfl
  | 29 => rfl
  | 30 => rfl
  | 31 => rfl
  | 32 => rfl
  | 33 =>
    match k with
    | 0 => rfl
    | 1 => rfl
    | 2 => rfl
    | 3 => rfl
    | 4 => rfl
    | 5 => rfl
    | _ + 6 => rfl
  | 34 => rfl
  | 35 => rfl
  | 36 => rfl
  | 37 => rfl
  | 38 => rfl
  | 39 => rfl
  | 40 => rfl
  | 41 => rfl
  | 42 => rfl
  | 43 =>
    match k with
    | 0 => rfl
    | 1 => rfl
    | 2 => rfl
    | 3 => rfl
    | 4 => rfl
    | 5 => rfl
    | 6 => rfl
    | 7 => rfl
    | 8 => rfl
    | _ + 9 => rfl
  | 44 => rfl
  | 45 =>
    match k with
    | 0 => rfl
    | 1 => rfl
    | 2 => rfl
    | 3 => rfl
    | 4 => rfl
    | _ + 5 => rfl
  | 46 => rfl
  | 47 => rfl
  | 48 => rfl
  | 49 => rfl
  | 50 => rfl
  | 51 =>
    match k with
    | 0 => rfl
    | 1 => rfl
    | 2 => rfl
    | 3 => rfl
    | _ + 4 => rfl
  | 52 =>
    match k with
    | 0 => rfl
    | 1 => rfl
    | 2 => rfl
    | 3 => rfl
    | _ + 4 => rfl
  | 53 => rfl
  | 54 =>
    match k with
    | 0 => rfl
    | 1 => rfl
    | 2 => rfl
    | 3 => rfl
    | _ + 4 => rfl
  | 55 => rfl
  | 56 =>
    match k with
    | 0 => rfl
    | 1 => rfl
    | 2 => rfl
    | 3 => rfl
    | _ + 4 => rfl
  | 57 => rfl
  | 58 =>
    match k with
    | 0 => rfl
    | 1 => rfl
    | 2 => rfl
    | 3 => rfl
    | _ + 4 => rfl
  | 59 => rfl
  | 60 =>
    match k with
    | 0 => rfl
    | 1 => rfl
    | 2 => rfl
    | 3 => rfl
    | 4 => rfl
    | 5 => rfl
    | 6 => rfl
    | 7 => rfl
    | 8 => rfl
    | 9 => rfl
    | 10 => rfl
    | 11 => rfl
    | 12 => rfl
    | 13 => rfl
    | 14 => rfl
    | 15 => rfl
    | 16 => rfl
    | 17 => rfl
    | 18 => rfl
    | _ + 19 => rfl
  | 61 => rfl
  | 62 => rfl
  | 63 => rfl
  | 64 => rfl
  | 65 => rfl
  | 66 => rfl
  | 67 => rfl
  | 68 => rfl
  | 69 => rfl
  | 70 => rfl
  | 71 => rfl
  | 72 => rfl
  | 73 => rfl
  | _ + 74 => rfl

