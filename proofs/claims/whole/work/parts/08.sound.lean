/-! ===== the whole machine: what the abstract machine runs, the machine runs ===== -/
/-- what the table says of an instruction holds in the class files -/
def xm_lk (pr : Nat → xm_M) (own nm : String) (cc : ByteArray) (pc : Nat) : xm_E → Prop
  | (ins, len, (a, b, c), k, j, sw) => decode cc pc = .ok (ins, len) ∧ match ins with
    | .iconst n => len = 1 ∧ Int32.ofInt n = k
    | .bipush n => len = 2 ∧ (Int8.ofInt n).toInt32 = k
    | .sipush n => len = 3 ∧ (Int16.ofInt n).toInt32 = k
    | .ldc i => len = 2 ∧ Cond.constant own i k ∈ xm_tb
    | .ldc_w i => len = 3 ∧ Cond.constant own i k ∈ xm_tb
    | .lconst n => len = 1 ∧ Int64.ofNat (n : Nat) = j
    | .ldc2_w i => len = 3 ∧ Cond.constantLong own i j ∈ xm_tb
    | .iload _ => len = 2
    | .lload _ => len = 2
    | .aload _ => len = 2
    | .istore _ => len = 2
    | .lstore _ => len = 2
    | .astore _ => len = 2
    | .iinc _ n => len = 3 ∧ Int32.ofInt n = k
    | .goto off => len = 3 ∧ (pc : Int) + off = (a : Int)
    | .if_icmp _ off => len = 3 ∧ (pc : Int) + off = (a : Int)
    | .ifCond _ off => len = 3 ∧ (pc : Int) + off = (a : Int)
    | .ifnonnull off => len = 3 ∧ (pc : Int) + off = (a : Int)
    | .tableswitch d lo hi offs => xm_tsw pc d lo hi offs sw a
    | .lookupswitch d ps => xm_lsw pc d ps sw a
    | .getfield i => len = 3 ∧ b < 9 ∧ a < xm_N b ∧ Cond.fieldLink own i (xm_TX b a).1 (xm_TX b a).2.1 (xm_TX b a).2.2.1 ∈ xm_tb ∧ ((c = 0 ∧ ¬ xm_kd (xm_ty b a) = 2) ∨ (¬ c = 0 ∧ xm_kd (xm_ty b a) = 2))
    | .putfield i => len = 3 ∧ b < 9 ∧ a < xm_N b ∧ Cond.fieldLink own i (xm_TX b a).1 (xm_TX b a).2.1 (xm_TX b a).2.2.1 ∈ xm_tb ∧ xm_kd (xm_ty b a) = c ∧ (c = 2 → (xm_ty b a).isReference = true) ∧ ((xm_TX b a).2.2.2 = false ∨ (xm_TX b a).2.2.2 = true ∧ nm = "<init>" ∧ (xm_TX b a).1 = own)
    | .new i => len = 3 ∧ a < 9 ∧ Cond.classLink own i (xm_RX a) ∈ xm_tb ∧ Cond.instantiable (xm_RX a) (xm_N a) ∈ xm_tb ∧ Cond.initialized (xm_RX a) ∈ xm_tb
    | .newarray t => len = 2 ∧ ((a = 0 ∧ t = .int) ∨ (a = 1 ∧ t = .long)) ∧ Cond.arrayClass (newarray.typeOf t) ∈ xm_tb
    | .anewarray i => len = 3 ∧ ((a = 2 ∧ Cond.classLink own i RX6 ∈ xm_tb ∧ Cond.arrayOver (.object RX6) ∈ xm_tb) ∨ (a = 3 ∧ Cond.classLink own i RX5 ∈ xm_tb ∧ Cond.arrayOver (.object RX5) ∈ xm_tb))
    | .multianewarray i dm => len = 4 ∧ dm = 2 ∧ Cond.classLink own i "[[I" ∈ xm_tb ∧ Cond.arrayOver (.array .int) ∈ xm_tb ∧ Cond.arrayClass .int ∈ xm_tb
    | .invokevirtual i => len = 3 ∧ b = 0 ∧ Cond.methodLink own i (pr a).1 ∈ xm_tb ∧ Cond.instanceMethod (pr a).1 ∈ xm_tb ∧ Cond.selects (pr a).1.cls (pr a).1 (pr a).1 ∈ xm_tb ∧ (parseMethodDescriptor (pr a).1.desc).map (fun d => d.parameters.length) = some (c - 1) ∧ (pr a).2.2.2.2.1 < 9 ∧ xm_RX (pr a).2.2.2.2.1 = (pr a).1.cls
    | .invokestatic i => len = 3 ∧ ((b = 11 ∧ Cond.methodLink own i Lib.Math.max.name ∈ xm_tb ∧ Cond.static Lib.Math.max.name ∈ xm_tb ∧ Cond.initialized "java/lang/Math" ∈ xm_tb ∧ Cond.code Lib.Math.max.name Lib.Math.max.code 2 (some .int) ∈ xm_tb) ∨
        (b = 12 ∧ Cond.methodLink own i Lib.Math.min.name ∈ xm_tb ∧ Cond.static Lib.Math.min.name ∈ xm_tb ∧ Cond.initialized "java/lang/Math" ∈ xm_tb ∧ Cond.code Lib.Math.min.name Lib.Math.min.code 2 (some .int) ∈ xm_tb) ∨
        (b = 13 ∧ Cond.methodLink own i Lib.Math.abs.name ∈ xm_tb ∧ Cond.static Lib.Math.abs.name ∈ xm_tb ∧ Cond.initialized "java/lang/Math" ∈ xm_tb ∧ Cond.code Lib.Math.abs.name Lib.Math.abs.code 1 (some .int) ∈ xm_tb) ∨
        ((b = 9 ∨ b = 10) ∧ Cond.methodLink own i arraycopyName ∈ xm_tb ∧ Cond.native arraycopyName ∈ xm_tb ∧ Cond.static arraycopyName ∈ xm_tb ∧ Cond.initialized "java/lang/System" ∈ xm_tb) ∨
        ((b = 0 ∨ b = 1) ∧ (b = 0 → Cond.methodLink own i (pr a).1 ∈ xm_tb) ∧ (b = 1 → Cond.methodLinkNest own i (pr a).1 "LawnRings" ∈ xm_tb) ∧ Cond.static (pr a).1 ∈ xm_tb ∧ (parseMethodDescriptor (pr a).1.desc).map (fun d => d.parameters.length) = some c))
    | .invokespecial i => len = 3 ∧ ((b = 9 ∧ Cond.methodLink own i Lib.objectInit ∈ xm_tb ∧ Cond.instanceMethod Lib.objectInit ∈ xm_tb ∧ Cond.code Lib.objectInit ⟨#[0xb1]⟩ 1 none ∈ xm_tb) ∨
        ((b = 0 ∨ b = 1) ∧ (b = 0 → Cond.methodLink own i (pr a).1 ∈ xm_tb) ∧ (b = 1 → Cond.methodLinkNest own i (pr a).1 "LawnRings" ∈ xm_tb) ∧ Cond.instanceMethod (pr a).1 ∈ xm_tb ∧ (pr a).1.name = "<init>" ∧ (pr a).2.2.2.1 = none ∧ (parseMethodDescriptor (pr a).1.desc).map (fun d => d.parameters.length) = some (c - 1)))
    | _ => len = 1
/-- what the tables say of a method -/
def xm_mv (M : xm_M) : Prop := Cond.code M.1 M.2.1 M.2.2.1 M.2.2.2.1 ∈ xm_tb ∧ Cond.initialized M.1.cls ∈ xm_tb ∧ plainName M.1.cls = true ∧ (M.1.cls ≠ "java/lang/invoke/MethodHandle" ∧ M.1.cls ≠ "java/lang/invoke/VarHandle") ∧ M.2.2.1 ≤ 60
def xm_valid (pr : Nat → xm_M) : Prop := (∀ mi, xm_mv (pr mi)) ∧ ∀ mi pc e, xm_f (pr mi).2.2.2.2.2 pc = some e → xm_lk pr (pr mi).1.cls (pr mi).1.name (pr mi).2.1 pc e
theorem xm_goodIn {M : xm_M} (h : xm_mv M) : GoodIn xm_tb (xm_ws M) := by
  intro w hw
  rcases List.mem_cons.mp hw with rfl | q
  · exact ⟨h.1, Or.inl rfl⟩
  · obtain ⟨h1, h2⟩ := List.mem_filter.mp q
    exact ⟨h1, good_of_word h2⟩
theorem xi_ii {g : Int32 → Int32 → Int32} {f : xm_F} {h : xm_H} {len : Nat} {ps : List Prop} {f1 : xm_F} {h1 : xm_H} (e : xm_ii g f h len = some (ps, f1, h1)) : ∃ x y r, f.2.2 = .int y :: .int x :: r ∧ f1 = (f.1 + len, f.2.1, .int (g x y) :: r) ∧ h1 = h := by
  unfold xm_ii at e
  split at e
  · rename_i y x r hs
    cases e
    exact ⟨x, y, r, hs, rfl, rfl⟩
  · cases e
theorem xi_ll {g : Int64 → Int64 → Int64} {f : xm_F} {h : xm_H} {len : Nat} {ps : List Prop} {f1 : xm_F} {h1 : xm_H} (e : xm_ll g f h len = some (ps, f1, h1)) : ∃ x y r, f.2.2 = .long y :: .long x :: r ∧ f1 = (f.1 + len, f.2.1, .long (g x y) :: r) ∧ h1 = h := by
  unfold xm_ll at e
  split at e
  · rename_i y x r hs
    cases e
    exact ⟨x, y, r, hs, rfl, rfl⟩
  · cases e
theorem xi_i1 {g : Int32 → Value} {f : xm_F} {h : xm_H} {len : Nat} {ps : List Prop} {f1 : xm_F} {h1 : xm_H} (e : xm_i1 g f h len = some (ps, f1, h1)) : ∃ x r, f.2.2 = .int x :: r ∧ f1 = (f.1 + len, f.2.1, g x :: r) ∧ h1 = h := by
  unfold xm_i1 at e
  split at e
  · rename_i x r hs
    cases e
    exact ⟨x, r, hs, rfl, rfl⟩
  · cases e
theorem xi_l1 {g : Int64 → Value} {f : xm_F} {h : xm_H} {len : Nat} {ps : List Prop} {f1 : xm_F} {h1 : xm_H} (e : xm_l1 g f h len = some (ps, f1, h1)) : ∃ x r, f.2.2 = .long x :: r ∧ f1 = (f.1 + len, f.2.1, g x :: r) ∧ h1 = h := by
  unfold xm_l1 at e
  split at e
  · rename_i x r hs
    cases e
    exact ⟨x, r, hs, rfl, rfl⟩
  · cases e
theorem xi_bi {cd : Int32 → Int32 → Prop} [∀ x y, Decidable (cd x y)] {tgt : Nat} {f : xm_F} {h : xm_H} {ps : List Prop} {f1 : xm_F} {h1 : xm_H} (e : xm_bi cd tgt f h = some (ps, f1, h1)) : ∃ x y r, f.2.2 = .int y :: .int x :: r ∧ f1 = (if cd x y then tgt else f.1 + 3, f.2.1, r) ∧ h1 = h := by
  unfold xm_bi at e
  split at e
  · rename_i y x r hs
    cases e
    exact ⟨x, y, r, hs, rfl, rfl⟩
  · cases e
theorem xi_bz {cd : Int32 → Prop} [∀ x, Decidable (cd x)] {tgt : Nat} {f : xm_F} {h : xm_H} {ps : List Prop} {f1 : xm_F} {h1 : xm_H} (e : xm_bz cd tgt f h = some (ps, f1, h1)) : ∃ x r, f.2.2 = .int x :: r ∧ f1 = (if cd x then tgt else f.1 + 3, f.2.1, r) ∧ h1 = h := by
  unfold xm_bz at e
  split at e
  · rename_i x r hs
    cases e
    exact ⟨x, r, hs, rfl, rfl⟩
  · cases e
theorem xi_lo {f : xm_F} {i : Nat} {h : xm_H} {len : Nat} {ok : Value → Bool} {ps : List Prop} {f1 : xm_F} {h1 : xm_H} (e : xm_lo f i h len ok = some (ps, f1, h1)) : ok (xm_g f.2.1 i) = true ∧ f1 = (f.1 + len, f.2.1, xm_g f.2.1 i :: f.2.2) ∧ h1 = h := by
  unfold xm_lo at e
  split at e
  · rename_i q
    cases e
    exact ⟨q, rfl, rfl⟩
  · cases e
theorem xi_so {f : xm_F} {i : Nat} {h : xm_H} {len : Nat} {ok : Value → Bool} {ps : List Prop} {f1 : xm_F} {h1 : xm_H} (e : xm_so f i h len ok = some (ps, f1, h1)) : ∃ v r, f.2.2 = v :: r ∧ ok v = true ∧ xm_is2 (xm_g f.2.1 (i - 1)) = false ∧ i < f.2.1.length ∧ f1 = (f.1 + len, xm_p f.2.1 i v, r) ∧ h1 = h := by
  unfold xm_so at e
  split at e
  · rename_i v r hs
    split at e
    · rename_i q
      cases e
      simp only [Bool.and_eq_true, Bool.not_eq_true'] at q
      exact ⟨v, r, hs, q.1.1, q.1.2, by have := q.2; simp [Nat.blt] at this; omega, rfl, rfl⟩
    · cases e
  · cases e
theorem xi_so2 {f : xm_F} {i : Nat} {h : xm_H} {len : Nat} {ps : List Prop} {f1 : xm_F} {h1 : xm_H} (e : xm_so2 f i h len = some (ps, f1, h1)) : ∃ x r, f.2.2 = .long x :: r ∧ xm_is2 (xm_g f.2.1 (i - 1)) = false ∧ i + 1 < f.2.1.length ∧ f1 = (f.1 + len, xm_p (xm_p f.2.1 (i + 1) (.float 0)) i (.long x), r) ∧ h1 = h := by
  unfold xm_so2 at e
  split at e
  · rename_i x r hs
    split at e
    · rename_i q
      cases e
      simp only [Bool.and_eq_true, Bool.not_eq_true'] at q
      exact ⟨x, r, hs, q.1, by have := q.2; simp [Nat.blt] at this; omega, rfl, rfl⟩
    · cases e
  · cases e
theorem xm_isI_of {v : Value} (h : xm_isI v = true) : ∃ x, v = .int x := by cases v <;> first | exact ⟨_, rfl⟩ | cases h
theorem xm_isL_of {v : Value} (h : xm_isL v = true) : ∃ x, v = .long x := by cases v <;> first | exact ⟨_, rfl⟩ | cases h
theorem xm_isR_of {v : Value} (h : xm_isR v = true) : ∃ x, v = .ref x := by cases v <;> first | exact ⟨_, rfl⟩ | cases h
