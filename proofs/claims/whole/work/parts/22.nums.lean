/-! ===== numbers ===== -/
theorem xb_0 : xm_pr 0 = xq_0 := rfl
theorem xb_2 : xm_pr 2 = xq_2 := rfl
theorem xb_3 : xm_pr 3 = xq_3 := rfl
theorem xb_4 : xm_pr 4 = xq_4 := rfl
theorem xb_5 : xm_pr 5 = xq_5 := rfl
theorem xb_6 : xm_pr 6 = xq_6 := rfl
theorem xb_7 : xm_pr 7 = xq_7 := rfl
theorem xb_8 : xm_pr 8 = xq_8 := rfl
theorem xb_9 : xm_pr 9 = xq_9 := rfl
theorem xb_10 : xm_pr 10 = xq_10 := rfl
theorem xb_11 : xm_pr 11 = xq_11 := rfl
theorem xb_12 : xm_pr 12 = xq_12 := rfl
theorem xb_13 : xm_pr 13 = xq_13 := rfl
theorem xb_14 : xm_pr 14 = xq_14 := rfl
theorem xb_15 : xm_pr 15 = xq_15 := rfl
theorem xb_16 : xm_pr 16 = xq_16 := rfl
theorem xb_17 : xm_pr 17 = xq_17 := rfl
theorem xb_18 : xm_pr 18 = xq_18 := rfl
theorem xb_19 : xm_pr 19 = xq_19 := rfl
theorem xb_20 : xm_pr 20 = xq_20 := rfl
theorem xb_21 : xm_pr 21 = xq_21 := rfl
theorem xb_22 : xm_pr 22 = xq_22 := rfl
theorem xb_23 : xm_pr 23 = xq_23 := rfl
theorem xb_24 : xm_pr 24 = xq_24 := rfl
theorem xb_25 : xm_pr 25 = xq_25 := rfl
theorem xb_28 : xm_pr 28 = xq_28 := rfl
theorem xb_29 : xm_pr 29 = xq_29 := rfl
theorem xb_30 : xm_pr 30 = xq_30 := rfl
theorem xb_31 : xm_pr 31 = xq_31 := rfl
theorem xb_32 : xm_pr 32 = xq_32 := rfl
theorem xb_33 : xm_pr 33 = xq_33 := rfl
theorem xb_35 : xm_pr 35 = xq_35 := rfl
theorem xb_36 : xm_pr 36 = xq_36 := rfl
theorem xb_37 : xm_pr 37 = xq_37 := rfl
theorem xb_38 : xm_pr 38 = xq_38 := rfl
theorem xb_39 : xm_pr 39 = xq_39 := rfl
theorem xb_40 : xm_pr 40 = xq_40 := rfl
theorem xb_41 : xm_pr 41 = xq_41 := rfl
theorem xb_42 : xm_pr 42 = xq_42 := rfl
theorem xb_43 : xm_pr 43 = xq_43 := rfl
theorem xb_44 : xm_pr 44 = xq_44 := rfl
theorem xb_45 : xm_pr 45 = xq_45 := rfl
theorem xb_46 : xm_pr 46 = xq_46 := rfl
theorem xb_47 : xm_pr 47 = xq_47 := rfl
theorem xb_48 : xm_pr 48 = xq_48 := rfl
theorem xb_49 : xm_pr 49 = xq_49 := rfl
theorem xb_50 : xm_pr 50 = xq_50 := rfl
theorem xb_51 : xm_pr 51 = xq_51 := rfl
theorem xb_52 : xm_pr 52 = xq_52 := rfl
theorem xb_53 : xm_pr 53 = xq_53 := rfl
theorem xb_54 : xm_pr 54 = xq_54 := rfl
theorem xb_55 : xm_pr 55 = xq_55 := rfl
theorem xb_56 : xm_pr 56 = xq_56 := rfl
theorem xb_57 : xm_pr 57 = xq_57 := rfl
theorem xb_58 : xm_pr 58 = xq_58 := rfl
theorem xb_59 : xm_pr 59 = xq_59 := rfl
theorem xb_60 : xm_pr 60 = xq_60 := rfl
theorem xb_61 : xm_pr 61 = xq_61 := rfl
theorem xb_62 : xm_pr 62 = xq_62 := rfl
theorem xb_63 : xm_pr 63 = xq_63 := rfl
theorem xb_64 : xm_pr 64 = xq_64 := rfl
theorem xb_65 : xm_pr 65 = xq_65 := rfl
theorem xb_66 : xm_pr 66 = xq_66 := rfl
theorem xb_67 : xm_pr 67 = xq_67 := rfl
theorem xb_68 : xm_pr 68 = xq_68 := rfl
theorem xb_69 : xm_pr 69 = xq_69 := rfl
theorem xb_70 : xm_pr 70 = xq_70 := rfl
theorem xb_71 : xm_pr 71 = xq_71 := rfl
theorem xb_72 : xm_pr 72 = xq_72 := rfl
theorem xb_73 : xm_pr 73 = xq_73 := rfl
theorem xb_74 : xm_pr 74 = xq_74 := rfl
theorem xb_75 : xm_pr 75 = xq_75 := rfl
theorem xb_76 : xm_pr 76 = xq_76 := rfl
theorem xb_77 : xm_pr 77 = xq_77 := rfl
theorem xb_78 : xm_pr 78 = xq_78 := rfl
theorem xb_79 : xm_pr 79 = xq_79 := rfl
theorem xb_80 : xm_pr 80 = xq_80 := rfl
theorem xb_81 : xm_pr 81 = xq_81 := rfl
theorem xb_82 : xm_pr 82 = xq_82 := rfl
theorem xb_83 : xm_pr 83 = xq_83 := rfl
theorem xb_84 : xm_pr 84 = xq_84 := rfl
theorem xb_85 : xm_pr 85 = xq_85 := rfl
theorem xb_86 : xm_pr 86 = xq_86 := rfl
theorem xb_87 : xm_pr 87 = xq_87 := rfl
theorem xb_88 : xm_pr 88 = xq_88 := rfl
theorem xb_89 : xm_pr 89 = xq_89 := rfl
theorem xb_90 : xm_pr 90 = xq_90 := rfl
theorem xb_91 : xm_pr 91 = xq_91 := rfl
theorem xb_92 : xm_pr 92 = xq_92 := rfl
theorem xb_93 : xm_pr 93 = xq_93 := rfl
theorem xb_94 : xm_pr 94 = xq_94 := rfl
theorem xb_95 : xm_pr 95 = xq_95 := rfl
theorem xb_96 : xm_pr 96 = xq_96 := rfl
theorem xb_97 : xm_pr 97 = xq_97 := rfl
theorem xb_98 : xm_pr 98 = xq_98 := rfl
theorem xb_99 : xm_pr 99 = xq_99 := rfl
theorem xb_100 : xm_pr 100 = xq_100 := rfl
theorem xb_101 : xm_pr 101 = xq_101 := rfl
theorem xb_102 : xm_pr 102 = xq_102 := rfl
theorem xb_103 : xm_pr 103 = xq_103 := rfl
theorem xb_104 : xm_pr 104 = xq_104 := rfl
theorem xb_105 : xm_pr 105 = xq_105 := rfl
theorem xb_106 : xm_pr 106 = xq_106 := rfl
theorem xb_107 : xm_pr 107 = xq_107 := rfl
theorem xb_108 : xm_pr 108 = xq_108 := rfl
theorem xb_109 : xm_pr 109 = xq_109 := rfl
theorem xb_110 : xm_pr 110 = xq_110 := rfl
theorem xb_111 : xm_pr 111 = xq_111 := rfl
theorem xb_112 : xm_pr 112 = xq_112 := rfl
theorem xb_113 : xm_pr 113 = xq_113 := rfl
theorem xb_114 : xm_pr 114 = xq_114 := rfl
theorem xb_115 : xm_pr 115 = xq_115 := rfl
theorem xb_116 : xm_pr 116 = xq_116 := rfl
theorem xb_117 : xm_pr 117 = xq_117 := rfl
theorem xb_118 : xm_pr 118 = xq_118 := rfl
theorem xb_119 : xm_pr 119 = xq_119 := rfl
theorem xb_120 : xm_pr 120 = xq_120 := rfl
theorem xb_121 : xm_pr 121 = xq_121 := rfl
theorem xb_122 : xm_pr 122 = xq_122 := rfl
theorem xb_123 : xm_pr 123 = xq_123 := rfl
theorem xb_124 : xm_pr 124 = xq_124 := rfl
theorem xb_125 : xm_pr 125 = xq_125 := rfl
theorem xb_126 : xm_pr 126 = xq_126 := rfl
theorem xb_127 : xm_pr 127 = xq_127 := rfl
theorem xb_128 : xm_pr 128 = xq_128 := rfl
theorem xb_129 : xm_pr 129 = xq_129 := rfl
theorem xb_130 : xm_pr 130 = xq_130 := rfl
theorem xb_131 : xm_pr 131 = xq_131 := rfl
theorem xb_132 : xm_pr 132 = xq_132 := rfl
theorem xb_133 : xm_pr 133 = xq_133 := rfl
theorem xb_134 : xm_pr 134 = xq_134 := rfl
theorem xb_135 : xm_pr 135 = xq_135 := rfl
theorem xb_136 : xm_pr 136 = xq_136 := rfl
theorem xb_137 : xm_pr 137 = xq_137 := rfl
theorem xb_138 : xm_pr 138 = xq_138 := rfl
theorem xb_139 : xm_pr 139 = xq_139 := rfl
theorem xb_140 : xm_pr 140 = xq_140 := rfl
theorem xb_141 : xm_pr 141 = xq_141 := rfl
theorem xb_142 : xm_pr 142 = xq_142 := rfl
theorem xb_143 : xm_pr 143 = xq_143 := rfl
theorem xb_144 : xm_pr 144 = xq_144 := rfl
theorem xb_145 : xm_pr 145 = xq_145 := rfl
theorem xb_146 : xm_pr 146 = xq_146 := rfl
theorem xb_147 : xm_pr 147 = xq_147 := rfl
theorem xb_148 : xm_pr 148 = xq_148 := rfl
theorem xb_149 : xm_pr 149 = xq_149 := rfl
theorem xb_150 : xm_pr 150 = xq_150 := rfl
theorem xb_151 : xm_pr 151 = xq_151 := rfl
theorem xb_152 : xm_pr 152 = xq_152 := rfl
theorem xb_153 : xm_pr 153 = xq_153 := rfl
theorem xb_154 : xm_pr 154 = xq_154 := rfl
theorem xb_155 : xm_pr 155 = xq_155 := rfl
theorem xb_156 : xm_pr 156 = xq_156 := rfl
theorem xb_157 : xm_pr 157 = xq_157 := rfl
theorem xb_158 : xm_pr 158 = xq_158 := rfl
theorem xb_159 : xm_pr 159 = xq_159 := rfl
theorem xb_160 : xm_pr 160 = xq_160 := rfl
theorem xb_161 : xm_pr 161 = xq_161 := rfl
theorem xb_162 : xm_pr 162 = xq_162 := rfl
theorem xb_163 : xm_pr 163 = xq_163 := rfl
theorem xb_164 : xm_pr 164 = xq_164 := rfl
theorem xb_165 : xm_pr 165 = xq_165 := rfl
theorem xb_166 : xm_pr 166 = xq_166 := rfl
theorem xb_167 : xm_pr 167 = xq_167 := rfl
theorem xb_168 : xm_pr 168 = xq_168 := rfl
theorem xb_169 : xm_pr 169 = xq_169 := rfl
theorem xb_170 : xm_pr 170 = xq_170 := rfl
theorem xb_171 : xm_pr 171 = xq_171 := rfl
theorem xl_0 : (0 : Int32) = nI 0 := by decide +kernel
theorem xl_1 : (1 : Int32) = nI 1 := by decide +kernel
theorem xl_2 : (2 : Int32) = nI 2 := by decide +kernel
theorem xl_3 : (3 : Int32) = nI 3 := by decide +kernel
theorem xl_4 : (4 : Int32) = nI 4 := by decide +kernel
theorem xl_5 : (5 : Int32) = nI 5 := by decide +kernel
theorem xl_6 : (6 : Int32) = nI 6 := by decide +kernel
theorem xl_7 : (7 : Int32) = nI 7 := by decide +kernel
theorem xl_8 : (8 : Int32) = nI 8 := by decide +kernel
theorem xl_9 : (9 : Int32) = nI 9 := by decide +kernel
theorem xl_10 : (10 : Int32) = nI 10 := by decide +kernel
theorem xl_11 : (11 : Int32) = nI 11 := by decide +kernel
theorem xl_12 : (12 : Int32) = nI 12 := by decide +kernel
theorem xl_16 : (16 : Int32) = nI 16 := by decide +kernel
theorem xl_20 : (20 : Int32) = nI 20 := by decide +kernel
theorem xl_24 : (24 : Int32) = nI 24 := by decide +kernel
theorem xl_31 : (31 : Int32) = nI 31 := by decide +kernel
theorem xl_32 : (32 : Int32) = nI 32 := by decide +kernel
theorem xl_40 : (40 : Int32) = nI 40 := by decide +kernel
theorem xl_44 : (44 : Int32) = nI 44 := by decide +kernel
theorem xl_47 : (47 : Int32) = nI 47 := by decide +kernel
theorem xl_48 : (48 : Int32) = nI 48 := by decide +kernel
theorem xl_59 : (59 : Int32) = nI 59 := by decide +kernel
theorem xl_60 : (60 : Int32) = nI 60 := by decide +kernel
theorem xl_63 : (63 : Int32) = nI 63 := by decide +kernel
theorem xl_64 : (64 : Int32) = nI 64 := by decide +kernel
theorem xl_65 : (65 : Int32) = nI 65 := by decide +kernel
theorem xl_69 : (69 : Int32) = nI 69 := by decide +kernel
theorem xl_70 : (70 : Int32) = nI 70 := by decide +kernel
theorem xl_71 : (71 : Int32) = nI 71 := by decide +kernel
theorem xl_72 : (72 : Int32) = nI 72 := by decide +kernel
theorem xl_95 : (95 : Int32) = nI 95 := by decide +kernel
theorem xl_96 : (96 : Int32) = nI 96 := by decide +kernel
theorem xl_99 : (99 : Int32) = nI 99 := by decide +kernel
theorem xl_100 : (100 : Int32) = nI 100 := by decide +kernel
theorem xl_101 : (101 : Int32) = nI 101 := by decide +kernel
theorem xl_103 : (103 : Int32) = nI 103 := by decide +kernel
theorem xl_110 : (110 : Int32) = nI 110 := by decide +kernel
theorem xl_112 : (112 : Int32) = nI 112 := by decide +kernel
theorem xl_113 : (113 : Int32) = nI 113 := by decide +kernel
theorem xl_114 : (114 : Int32) = nI 114 := by decide +kernel
theorem xl_119 : (119 : Int32) = nI 119 := by decide +kernel
theorem xl_126 : (126 : Int32) = nI 126 := by decide +kernel
theorem xl_159 : (159 : Int32) = nI 159 := by decide +kernel
theorem xl_576 : (576 : Int32) = nI 576 := by decide +kernel
theorem xl_735 : (735 : Int32) = nI 735 := by decide +kernel
theorem xl_999 : (999 : Int32) = nI 999 := by decide +kernel
theorem xl_9999 : (9999 : Int32) = nI 9999 := by decide +kernel
theorem xl_12345 : (12345 : Int32) = nI 12345 := by decide +kernel
theorem xl_65536 : (65536 : Int32) = nI 65536 := by decide +kernel
theorem xl_999999 : (999999 : Int32) = nI 999999 := by decide +kernel
theorem xn_sub {a b : Nat} (h : b ≤ a) : nI a - nI b = nI (a - b) := pk_sub h
theorem xn_div {a d : Nat} (ha : a < 2 ^ 31) (h0 : 0 < d) (hd : d < 2 ^ 31) : nI a / nI d = nI (a / d) := pk_div ha h0 hd
theorem xn_rem {a d : Nat} (ha : a < 2 ^ 31) (h0 : 0 < d) (hd : d < 2 ^ 31) : nI a - nI a / nI d * nI d = nI (a % d) := pk_rem ha h0 hd
theorem xn_ne {a : Nat} (h : a < 2 ^ 31) (h0 : 0 < a) : ¬ nI a = 0 := nI_ne0 h0 h
theorem xn_in {n N : Nat} (h : n < N) (hN : N < 2 ^ 31) : vp_in (nI n) N := vp_in_nI h hN
theorem xn_cl {n : Nat} (h : n < 2 ^ 31) : (nI n).toNatClampNeg = n := nI_clamp h
theorem xn_ofNat (n : Nat) : Int32.ofNat n = nI n := rfl
theorem xm_some {α : Type} {x y : α} (h : x = y) : some x = some y := by rw [h]
/-- an array's element, by a number -/
theorem xn_ar {h : xm_H} {a k n N : Nat} (hs : h.1[a]? = some (k, N)) (hn : n < N) (hN : N < 2 ^ 31) : xm_ar h a k (nI n) := ⟨N, hs, vp_in_nI hn hN⟩
theorem xn_ar' {h : xm_H} {a k n N : Nat} {i : Int32} (hs : h.1[a]? = some (k, N)) (hi : i = nI n) (hn : n < N) (hN : N < 2 ^ 31) : xm_ar h a k i := by rw [hi]; exact xn_ar hs hn hN
/-- what an argument may be -/
theorem xa_ge {x : Int32} {n : Nat} (hn : n < 2 ^ 31) (h1 : 0 ≤ x.toInt) (h2 : x.toInt < n) : ∃ j, j < n ∧ x = nI j := by
  refine ⟨x.toInt.toNat, by omega, ?_⟩
  apply Int32.toInt_inj.mp
  rw [nI_toInt (by omega)]
  omega
theorem xt_lt {a b : Int32} : a < b ↔ a.toInt < b.toInt := Int32.lt_iff_toInt_lt
theorem xt_le {a b : Int32} : a ≤ b ↔ a.toInt ≤ b.toInt := Int32.le_iff_toInt_le
theorem xt_eq {a b : Int32} : a = b ↔ a.toInt = b.toInt := Int32.toInt_inj.symm
theorem xt_n {n : Nat} (h : n < 2 ^ 31) : (nI n).toInt = (n : Int) := nI_toInt h
/-- distance -/
def xd (a b : Nat) : Nat := (a - b) + (b - a)
theorem xt_sub {a b : Nat} (ha : a < 2 ^ 30) (hb : b < 2 ^ 30) : (nI a - nI b).toInt = (a : Int) - b := pk_sub_toInt ha hb
theorem xt_neg {a b : Nat} (ha : a < 2 ^ 30) (hb : b < 2 ^ 30) : nI a - nI b < 0 ↔ a < b := by
  rw [xt_lt, xt_sub ha hb, Int32.toInt_zero]
  omega
theorem xt_nneg {a b : Nat} (ha : a < 2 ^ 30) (hb : b < 2 ^ 30) : 0 ≤ nI a - nI b ↔ b ≤ a := by
  rw [xt_le, xt_sub ha hb, Int32.toInt_zero]
  omega
theorem xt_abs {a b : Nat} (ha : a < 2 ^ 30) (hb : b < 2 ^ 30) : (if 0 ≤ nI a - nI b then nI a - nI b else 0 - (nI a - nI b)) = nI (xd a b) := by
  by_cases h : b ≤ a
  · rw [if_pos ((xt_nneg ha hb).mpr h), xn_sub h]
    congr 1
    unfold xd
    omega
  · rw [if_neg (fun q => h ((xt_nneg ha hb).mp q))]
    have e : 0 - (nI a - nI b) = nI b - nI a := by
      rw [Int32.zero_sub, Int32.neg_sub]
    rw [e, xn_sub (by omega)]
    congr 1
    unfold xd
    omega
theorem xt_max {a b : Nat} (ha : a < 2 ^ 31) (hb : b < 2 ^ 31) : (if nI a < nI b then nI b else nI a) = nI (max a b) := by
  by_cases h : a < b
  · rw [if_pos ((nI_ltI ha hb).mpr h), Nat.max_eq_right (by omega)]
  · rw [if_neg (fun q => h ((nI_ltI ha hb).mp q)), Nat.max_eq_left (by omega)]
theorem xt_min {a b : Nat} (ha : a < 2 ^ 31) (hb : b < 2 ^ 31) : (if nI b < nI a then nI b else nI a) = nI (min a b) := by
  by_cases h : b < a
  · rw [if_pos ((nI_ltI hb ha).mpr h), Nat.min_eq_right (by omega)]
  · rw [if_neg (fun q => h ((nI_ltI hb ha).mp q)), Nat.min_eq_left (by omega)]
/-- what a sprinkler of a kind, a reach and a power throws from row r0, column q0 on row r, column q -/
def xs_thr (kind reach w r r0 q q0 : Nat) : Nat :=
  if reach < max (xd r r0) (xd q q0) then 0 else
    if kind = 1 then max (w / 2) 1 else
    if kind = 2 then (if r < r0 ∨ q < q0 then 0 else 4 * (w - max (xd r r0) (xd q q0))) else
    if kind = 3 then (if max (xd r r0) (xd q q0) = 0 then 2 * max (w / 2) 1 else 0) else
    if kind = 4 then w - max (xd r r0) (xd q q0) / 2 else w - max (xd r r0) (xd q q0)
/-- what a cell of a soil takes of what comes -/
def xs_tk (soil w : Nat) : Nat := if soil = 1 then min 5 w else if soil = 2 then min 1 w else w
def xs_wrong (soil wet least most : Nat) : Bool := if soil = 2 then decide (9 < wet) else decide (wet < least) || decide (most < wet)
def xs_dry (soil wet least : Nat) : Bool := !(decide (soil = 2)) && decide (wet < least)
def xB (b : Bool) : Nat := match b with | true => 1 | false => 0
theorem xu_neg {a b : Nat} (ha : a < 2 ^ 30) (hb : b < 2 ^ 30) : nI a - nI b < nI 0 ↔ a < b := xt_neg ha hb
theorem xu_nneg {a b : Nat} (ha : a < 2 ^ 30) (hb : b < 2 ^ 30) : nI 0 ≤ nI a - nI b ↔ b ≤ a := xt_nneg ha hb
