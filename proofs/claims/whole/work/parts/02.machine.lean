/-! ===== the abstract machine: cells by number, whole numbers, longs and references apart ===== -/
abbrev xm_H : Type := List (Nat × Nat) × (Nat → Nat → Int32) × (Nat → Nat → Int64) × (Nat → Nat → Option Nat)
abbrev xm_E : Type := Instr × Nat × (Nat × Nat × Nat) × Int32 × Int64 × List (Int32 × Nat)
abbrev xm_F : Type := Nat × List Value × List Value
abbrev xm_S : Type := List Prop × xm_F × xm_H
/-- a method: name, bytes, locals, what it returns, number of its class, its instructions in chunks -/
abbrev xm_M : Type := MethodName × ByteArray × Nat × Option FieldType × Nat × List (Nat × List (Nat × xm_E))
def xm_g : List Value → Nat → Value
  | [], _ => .float 0
  | a :: _, 0 => a
  | _ :: t, n + 1 => xm_g t n
def xm_p : List Value → Nat → Value → List Value
  | [], _, _ => []
  | _ :: t, 0, v => v :: t
  | a :: t, n + 1, v => a :: xm_p t n v
def xm_o : Option Nat → Value
  | none => .null
  | some q => .ref q
def xm_all : List Prop → Prop
  | [] => True
  | p :: t => p ∧ xm_all t
def xm_sw : List (Int32 × Nat) → Nat → Int32 → Nat
  | [], d, _ => d
  | (k, t) :: r, d, x => if x = k then t else xm_sw r d x
def xm_up {α : Type} (f : Nat → Nat → α) (a k : Nat) (v : α) : Nat → Nat → α := va_up f a (va_up (f a) k v)
/-- how many fields an object of a class has -/
def xm_N : Nat → Nat
  | 0 => 4 | 1 => 12 | 2 => 3 | 3 => 15 | 4 => 9 | 5 => 4 | 6 => 4 | 7 => 8 | _ => 19
def xm_ii (g : Int32 → Int32 → Int32) (f : xm_F) (h : xm_H) (len : Nat) : Option xm_S := match f.2.2 with
  | .int y :: .int x :: r => some ([], (f.1 + len, f.2.1, .int (g x y) :: r), h)
  | _ => none
def xm_ll (g : Int64 → Int64 → Int64) (f : xm_F) (h : xm_H) (len : Nat) : Option xm_S := match f.2.2 with
  | .long y :: .long x :: r => some ([], (f.1 + len, f.2.1, .long (g x y) :: r), h)
  | _ => none
def xm_i1 (g : Int32 → Value) (f : xm_F) (h : xm_H) (len : Nat) : Option xm_S := match f.2.2 with
  | .int x :: r => some ([], (f.1 + len, f.2.1, g x :: r), h)
  | _ => none
def xm_l1 (g : Int64 → Value) (f : xm_F) (h : xm_H) (len : Nat) : Option xm_S := match f.2.2 with
  | .long x :: r => some ([], (f.1 + len, f.2.1, g x :: r), h)
  | _ => none
def xm_bi (c : Int32 → Int32 → Prop) [∀ x y, Decidable (c x y)] (tgt : Nat) (f : xm_F) (h : xm_H) : Option xm_S := match f.2.2 with
  | .int y :: .int x :: r => some ([], (if c x y then tgt else f.1 + 3, f.2.1, r), h)
  | _ => none
def xm_bz (c : Int32 → Prop) [∀ x, Decidable (c x)] (tgt : Nat) (f : xm_F) (h : xm_H) : Option xm_S := match f.2.2 with
  | .int x :: r => some ([], (if c x then tgt else f.1 + 3, f.2.1, r), h)
  | _ => none
def xm_lo (f : xm_F) (i : Nat) (h : xm_H) (len : Nat) (ok : Value → Bool) : Option xm_S :=
  match ok (xm_g f.2.1 i) with
  | true => some ([], (f.1 + len, f.2.1, xm_g f.2.1 i :: f.2.2), h)
  | false => none
def xm_isI : Value → Bool | .int _ => true | _ => false
def xm_isL : Value → Bool | .long _ => true | _ => false
def xm_isR : Value → Bool | .ref _ => true | _ => false
def xm_is2 : Value → Bool | .long _ => true | .double _ => true | _ => false
/-- a store of one slot: not behind a long, whose second half it would take -/
def xm_so (f : xm_F) (i : Nat) (h : xm_H) (len : Nat) (ok : Value → Bool) : Option xm_S := match f.2.2 with
  | v :: r => match ok v && !(xm_is2 (xm_g f.2.1 (i - 1))) && Nat.blt i f.2.1.length with
    | true => some ([], (f.1 + len, xm_p f.2.1 i v, r), h)
    | false => none
  | _ => none
def xm_so2 (f : xm_F) (i : Nat) (h : xm_H) (len : Nat) : Option xm_S := match f.2.2 with
  | .long x :: r => match !(xm_is2 (xm_g f.2.1 (i - 1))) && Nat.blt (i + 1) f.2.1.length with
    | true => some ([], (f.1 + len, xm_p (xm_p f.2.1 (i + 1) (.float 0)) i (.long x), r), h)
    | false => none
  | _ => none
/-- an element of an array of a kind -/
def xm_ar (h : xm_H) (a k : Nat) (i : Int32) : Prop := ∃ n, h.1[a]? = some (k, n) ∧ vp_in i n
def xm_ob (h : xm_H) (a ci : Nat) : Prop := h.1[a]? = some (ci + 5, xm_N ci)
def xm_isA (h : xm_H) (a : Nat) (n : Nat) : Prop := ∃ k, k < 5 ∧ h.1[a]? = some (k, n)
def xm_cpR (h : xm_H) (a b k : Nat) (sp dp n : Int32) : Prop := ∃ n0 n1, h.1[a]? = some (k, n0) ∧ h.1[b]? = some (k, n1) ∧ ¬ sp < 0 ∧ ¬ dp < 0 ∧ ¬ n < 0 ∧ sp.toNatClampNeg + n.toNatClampNeg ≤ n0 ∧ dp.toNatClampNeg + n.toNatClampNeg ≤ n1
def xm_cs (st : List Value) : Nat := (st.map fun v => v.category).sum
def xm_mk (h : xm_H) (k n : Nat) : xm_H := (h.1 ++ [(k, n)], va_up h.2.1 h.1.length (fun _ => 0), va_up h.2.2.1 h.1.length (fun _ => 0), va_up h.2.2.2 h.1.length (fun _ => none))
def xm_mkN (h : xm_H) (k n : Nat) : Nat → xm_H
  | 0 => h
  | m + 1 => xm_mk (xm_mkN h k n m) k n
/-- one instruction that neither calls nor returns -/
def xm_st (e : xm_E) (f : xm_F) (h : xm_H) : Option xm_S :=
  match e.1 with
  | .iconst _ => some ([], (f.1 + e.2.1, f.2.1, .int e.2.2.2.1 :: f.2.2), h)
  | .bipush _ => some ([], (f.1 + e.2.1, f.2.1, .int e.2.2.2.1 :: f.2.2), h)
  | .sipush _ => some ([], (f.1 + e.2.1, f.2.1, .int e.2.2.2.1 :: f.2.2), h)
  | .ldc _ => some ([], (f.1 + e.2.1, f.2.1, .int e.2.2.2.1 :: f.2.2), h)
  | .ldc_w _ => some ([], (f.1 + e.2.1, f.2.1, .int e.2.2.2.1 :: f.2.2), h)
  | .lconst _ => some ([], (f.1 + e.2.1, f.2.1, .long e.2.2.2.2.1 :: f.2.2), h)
  | .ldc2_w _ => some ([], (f.1 + e.2.1, f.2.1, .long e.2.2.2.2.1 :: f.2.2), h)
  | .iload i => xm_lo f i h e.2.1 xm_isI
  | .iload_n i => xm_lo f i h e.2.1 xm_isI
  | .lload i => xm_lo f i h e.2.1 xm_isL
  | .lload_n i => xm_lo f i h e.2.1 xm_isL
  | .aload i => xm_lo f i h e.2.1 xm_isR
  | .aload_n i => xm_lo f i h e.2.1 xm_isR
  | .istore i => xm_so f i h e.2.1 xm_isI
  | .istore_n i => xm_so f i h e.2.1 xm_isI
  | .astore i => xm_so f i h e.2.1 xm_isR
  | .astore_n i => xm_so f i h e.2.1 xm_isR
  | .lstore i => xm_so2 f i h e.2.1
  | .lstore_n i => xm_so2 f i h e.2.1
  | .iinc i _ => match xm_g f.2.1 i with
    | .int x => match !(xm_is2 (xm_g f.2.1 (i - 1))) && Nat.blt i f.2.1.length with
      | true => some ([], (f.1 + e.2.1, xm_p f.2.1 i (.int (x + e.2.2.2.1)), f.2.2), h)
      | false => none
    | _ => none
  | .iadd => xm_ii (fun x y => x + y) f h e.2.1
  | .isub => xm_ii (fun x y => x - y) f h e.2.1
  | .imul => xm_ii (fun x y => x * y) f h e.2.1
  | .iand => xm_ii (fun x y => x &&& y) f h e.2.1
  | .ior => xm_ii (fun x y => x ||| y) f h e.2.1
  | .ixor => xm_ii (fun x y => x ^^^ y) f h e.2.1
  | .ishl => xm_ii (fun x y => x <<< (y &&& 31)) f h e.2.1
  | .ishr => xm_ii (fun x y => x >>> (y &&& 31)) f h e.2.1
  | .iushr => xm_ii (fun x y => (x.toUInt32 >>> (y.toUInt32 &&& Int32.toUInt32 31)).toInt32) f h e.2.1
  | .idiv => match f.2.2 with
    | .int y :: .int x :: r => some ([¬ y = 0], (f.1 + e.2.1, f.2.1, .int (x / y) :: r), h)
    | _ => none
  | .irem => match f.2.2 with
    | .int y :: .int x :: r => some ([¬ y = 0], (f.1 + e.2.1, f.2.1, .int (x - x / y * y) :: r), h)
    | _ => none
  | .ineg => xm_i1 (fun x => .int (-x)) f h e.2.1
  | .i2l => xm_i1 (fun x => .long x.toInt64) f h e.2.1
  | .i2b => xm_i1 (fun x => .int x.toInt8.toInt32) f h e.2.1
  | .i2s => xm_i1 (fun x => .int x.toInt16.toInt32) f h e.2.1
  | .l2i => xm_l1 (fun x => .int x.toInt32) f h e.2.1
  | .ladd => xm_ll (fun x y => x + y) f h e.2.1
  | .lmul => xm_ll (fun x y => x * y) f h e.2.1
  | .land => xm_ll (fun x y => x &&& y) f h e.2.1
  | .lcmp => match f.2.2 with
    | .long y :: .long x :: r => some ([], (f.1 + e.2.1, f.2.1, .int (lg_cmp x y) :: r), h)
    | _ => none
  | .dup => match f.2.2 with
    | v :: r => match v.category == 1 with
      | true => some ([], (f.1 + e.2.1, f.2.1, v :: v :: r), h)
      | false => none
    | _ => none
  | .dup2 => match f.2.2 with
    | v :: w :: r => match v.category == 1 && w.category == 1 with
      | true => some ([], (f.1 + e.2.1, f.2.1, v :: w :: v :: w :: r), h)
      | false => none
    | _ => none
  | .pop => match f.2.2 with
    | v :: r => match v.category == 1 with
      | true => some ([], (f.1 + e.2.1, f.2.1, r), h)
      | false => none
    | _ => none
  | .goto _ => some ([], (e.2.2.1.1, f.2.1, f.2.2), h)
  | .if_icmp .eq _ => xm_bi (fun x y => x = y) e.2.2.1.1 f h
  | .if_icmp .ne _ => xm_bi (fun x y => ¬ x = y) e.2.2.1.1 f h
  | .if_icmp .lt _ => xm_bi (fun x y => x < y) e.2.2.1.1 f h
  | .if_icmp .ge _ => xm_bi (fun x y => y ≤ x) e.2.2.1.1 f h
  | .if_icmp .gt _ => xm_bi (fun x y => y < x) e.2.2.1.1 f h
  | .if_icmp .le _ => xm_bi (fun x y => x ≤ y) e.2.2.1.1 f h
  | .ifCond .eq _ => xm_bz (fun x => x = 0) e.2.2.1.1 f h
  | .ifCond .ne _ => xm_bz (fun x => ¬ x = 0) e.2.2.1.1 f h
  | .ifCond .lt _ => xm_bz (fun x => x < 0) e.2.2.1.1 f h
  | .ifCond .ge _ => xm_bz (fun x => 0 ≤ x) e.2.2.1.1 f h
  | .ifCond .gt _ => xm_bz (fun x => 0 < x) e.2.2.1.1 f h
  | .ifCond .le _ => xm_bz (fun x => x ≤ 0) e.2.2.1.1 f h
  | .ifnonnull _ => match f.2.2 with
    | .null :: r => some ([], (f.1 + 3, f.2.1, r), h)
    | .ref _ :: r => some ([], (e.2.2.1.1, f.2.1, r), h)
    | _ => none
  | .tableswitch _ _ _ _ => match f.2.2 with
    | .int x :: r => some ([], (xm_sw e.2.2.2.2.2 e.2.2.1.1 x, f.2.1, r), h)
    | _ => none
  | .lookupswitch _ _ => match f.2.2 with
    | .int x :: r => some ([], (xm_sw e.2.2.2.2.2 e.2.2.1.1 x, f.2.1, r), h)
    | _ => none
  | .getfield _ => match f.2.2 with
    | .ref a :: r => match e.2.2.1.2.2 with
      | 0 => some ([xm_ob h a e.2.2.1.2.1], (f.1 + e.2.1, f.2.1, .int (h.2.1 a e.2.2.1.1) :: r), h)
      | _ => some ([xm_ob h a e.2.2.1.2.1], (f.1 + e.2.1, f.2.1, xm_o (h.2.2.2 a e.2.2.1.1) :: r), h)
    | _ => none
  | .putfield _ => match e.2.2.1.2.2, f.2.2 with
    | 0, .int v :: .ref a :: r => some ([xm_ob h a e.2.2.1.2.1], (f.1 + e.2.1, f.2.1, r), (h.1, xm_up h.2.1 a e.2.2.1.1 v, h.2.2.1, h.2.2.2))
    | 1, .int v :: .ref a :: r => some ([xm_ob h a e.2.2.1.2.1, v = 0 ∨ v = 1], (f.1 + e.2.1, f.2.1, r), (h.1, xm_up h.2.1 a e.2.2.1.1 v, h.2.2.1, h.2.2.2))
    | _, .ref v :: .ref a :: r => some ([xm_ob h a e.2.2.1.2.1, e.2.2.1.2.2 = 2], (f.1 + e.2.1, f.2.1, r), (h.1, h.2.1, h.2.2.1, xm_up h.2.2.2 a e.2.2.1.1 (some v)))
    | _, _ => none
  | .iaload => match f.2.2 with
    | .int i :: .ref a :: r => some ([xm_ar h a 0 i], (f.1 + e.2.1, f.2.1, .int (h.2.1 a i.toNatClampNeg) :: r), h)
    | _ => none
  | .laload => match f.2.2 with
    | .int i :: .ref a :: r => some ([xm_ar h a 1 i], (f.1 + e.2.1, f.2.1, .long (h.2.2.1 a i.toNatClampNeg) :: r), h)
    | _ => none
  | .aaload => match f.2.2 with
    | .int i :: .ref a :: r => some ([xm_ar h a e.2.2.1.1 i, 2 ≤ e.2.2.1.1 ∧ e.2.2.1.1 < 5], (f.1 + e.2.1, f.2.1, xm_o (h.2.2.2 a i.toNatClampNeg) :: r), h)
    | _ => none
  | .iastore => match f.2.2 with
    | .int v :: .int i :: .ref a :: r => some ([xm_ar h a 0 i], (f.1 + e.2.1, f.2.1, r), (h.1, xm_up h.2.1 a i.toNatClampNeg v, h.2.2.1, h.2.2.2))
    | _ => none
  | .lastore => match f.2.2 with
    | .long v :: .int i :: .ref a :: r => some ([xm_ar h a 1 i], (f.1 + e.2.1, f.2.1, r), (h.1, h.2.1, xm_up h.2.2.1 a i.toNatClampNeg v, h.2.2.2))
    | _ => none
  | .aastore => match f.2.2 with
    | .ref v :: .int i :: .ref a :: r => some ([xm_ar h a e.2.2.1.1 i, (e.2.2.1.1 = 2 ∧ xm_ob h v 6) ∨ (e.2.2.1.1 = 3 ∧ xm_ob h v 5)], (f.1 + e.2.1, f.2.1, r), (h.1, h.2.1, h.2.2.1, xm_up h.2.2.2 a i.toNatClampNeg (some v)))
    | _ => none
  | .arraylength => match f.2.2 with
    | .ref a :: r => some ([xm_isA h a (h.1.getD a (0, 0)).2], (f.1 + e.2.1, f.2.1, .int (Int32.ofNat (h.1.getD a (0, 0)).2) :: r), h)
    | _ => none
  | .new _ => some ([], (f.1 + e.2.1, f.2.1, .ref h.1.length :: f.2.2), xm_mk h (e.2.2.1.1 + 5) (xm_N e.2.2.1.1))
  | .newarray _ => match f.2.2 with
    | .int n :: r => some ([¬ n < 0, n.toNatClampNeg ≤ 1000], (f.1 + e.2.1, f.2.1, .ref h.1.length :: r), xm_mk h e.2.2.1.1 n.toNatClampNeg)
    | _ => none
  | .anewarray _ => match f.2.2 with
    | .int n :: r => some ([¬ n < 0, n.toNatClampNeg ≤ 1000], (f.1 + e.2.1, f.2.1, .ref h.1.length :: r), xm_mk h e.2.2.1.1 n.toNatClampNeg)
    | _ => none
  | .multianewarray _ _ => match f.2.2 with
    | .int k :: .int n :: r => some ([¬ n < 0, n.toNatClampNeg ≤ 1000, ¬ k < 0, k.toNatClampNeg ≤ 1000], (f.1 + e.2.1, f.2.1, .ref h.1.length :: r),
        ((xm_mkN (xm_mk h 4 n.toNatClampNeg) 0 k.toNatClampNeg n.toNatClampNeg).1, (xm_mkN (xm_mk h 4 n.toNatClampNeg) 0 k.toNatClampNeg n.toNatClampNeg).2.1, (xm_mkN (xm_mk h 4 n.toNatClampNeg) 0 k.toNatClampNeg n.toNatClampNeg).2.2.1,
          va_up (xm_mkN (xm_mk h 4 n.toNatClampNeg) 0 k.toNatClampNeg n.toNatClampNeg).2.2.2 h.1.length (fun i => if i < n.toNatClampNeg then some (h.1.length + 1 + i) else none)))
    | _ => none
  | .invokestatic _ => match e.2.2.1.2.1, f.2.2 with
    | 11, .int y :: .int x :: r => some ([xm_cs r ≤ 8], (f.1 + 3, f.2.1, .int (if x < y then y else x) :: r), h)
    | 12, .int y :: .int x :: r => some ([xm_cs r ≤ 8], (f.1 + 3, f.2.1, .int (if y < x then y else x) :: r), h)
    | 13, .int x :: r => some ([xm_cs r ≤ 8], (f.1 + 3, f.2.1, .int (if 0 ≤ x then x else 0 - x) :: r), h)
    | _, _ => none
  | _ => none
def xm_f1 : List (Nat × xm_E) → Nat → Option xm_E
  | [], _ => none
  | (k, e) :: t, pc => match Nat.beq k pc with
    | true => some e
    | false => xm_f1 t pc
/-- the instruction at a place: the first chunk that ends behind it, then the place itself -/
def xm_f : List (Nat × List (Nat × xm_E)) → Nat → Option xm_E
  | [], _ => none
  | (k, l) :: t, pc => match Nat.blt pc k with
    | true => xm_f1 l pc
    | false => xm_f t pc
def xm_run (tb : List (Nat × List (Nat × xm_E))) : Nat → xm_F → xm_H → Option xm_S
  | 0, f, h => some ([], f, h)
  | n + 1, f, h => match xm_f tb f.1 with
    | none => none
    | some e => match xm_st e f h with
      | none => none
      | some (ps, f1, h1) => match xm_run tb n f1 h1 with
        | none => none
        | some (qs, f2, h2) => some (ps ++ qs, f2, h2)
/-- fewer values are known -/
def xm_le : List Value → List Value → Prop
  | [], [] => True
  | a :: s, b :: t => (a = .float 0 ∨ a = b) ∧ xm_le s t
  | _, _ => False
def xm_tk : Nat → List Value → List Value → Option (List Value × List Value)
  | 0, acc, st => some (acc, st)
  | n + 1, acc, v :: st => xm_tk n (v :: acc) st
  | _ + 1, _, [] => none
/-- what a call finds: kind 0 virtual, 1 static, 2 constructor (3 Object's own), 4 arraycopy of ints, 5 of longs -/
def xm_ck : Instr → Nat → Option Nat
  | .invokevirtual _, _ => some 0
  | .invokestatic _, 0 => some 1
  | .invokestatic _, 1 => some 1
  | .invokestatic _, 9 => some 4
  | .invokestatic _, 10 => some 5
  | .invokespecial _, 0 => some 2
  | .invokespecial _, 1 => some 2
  | .invokespecial _, 9 => some 3
  | _, _ => none
def xm_rt (e : xm_E) (f : xm_F) (ret : Option FieldType) : Option (Prop × Option Value) :=
  match e.1, f.2.2, ret with
  | .ireturn, [.int x], some .int => some (True, some (.int x))
  | .ireturn, [.int x], some .boolean => some (x = 0 ∨ x = 1, some (.int x))
  | .lreturn, [.long x], some .long => some (True, some (.long x))
  | .areturn, [.ref x], some (.array _) => some (True, some (.ref x))
  | .return_, [], none => some (True, none)
  | _, _, _ => none
/-- the receiver of a call that has one, of the class in which the method stands -/
def xm_rc (h : xm_H) (as : List Value) (ci : Nat) : Prop := ∃ a t, as = .ref a :: t ∧ xm_ob h a ci
def xm_R (pr : Nat → xm_M) (call : Nat → List Value → xm_H → Option Value → xm_H → Prop) (mi : Nat) : Nat → xm_F → xm_H → Option Value → xm_H → Prop
  | 0, _, _, _, _ => False
  | n + 1, f, h, r, h' =>
    (∃ l0, xm_le l0 f.2.1 ∧ xm_R pr call mi n (f.1, l0, f.2.2) h r h') ∨
    (∃ e, xm_f (pr mi).2.2.2.2.2 f.1 = some e ∧
      ((∃ ps f1 h1, xm_st e f h = some (ps, f1, h1) ∧ xm_all ps ∧ xm_R pr call mi n f1 h1 r h') ∨
       (∃ p, xm_rt e f (pr mi).2.2.2.1 = some (p, r) ∧ p ∧ h' = h) ∨
       (∃ k as rest r1 h1, xm_ck e.1 e.2.2.1.2.1 = some k ∧ k < 3 ∧ xm_tk e.2.2.1.2.2 [] f.2.2 = some (as, rest) ∧ xm_cs rest ≤ 8 ∧ (k = 1 ∨ xm_rc h as (pr e.2.2.1.1).2.2.2.2.1) ∧ call e.2.2.1.1 as h r1 h1 ∧ xm_R pr call mi n (f.1 + 3, f.2.1, r1.toList ++ rest) h1 r h') ∨
       (∃ a rest, xm_ck e.1 e.2.2.1.2.1 = some 3 ∧ f.2.2 = .ref a :: rest ∧ xm_cs rest ≤ 8 ∧ xm_R pr call mi n (f.1 + 3, f.2.1, rest) h r h') ∨
       (∃ c dp b sp a rest, xm_ck e.1 e.2.2.1.2.1 = some 4 ∧ f.2.2 = .int c :: .int dp :: .ref b :: .int sp :: .ref a :: rest ∧ xm_cs rest ≤ 8 ∧ xm_cpR h a b 0 sp dp c ∧
          xm_R pr call mi n (f.1 + 3, f.2.1, rest) (h.1, va_up h.2.1 b (va_cpy (h.2.1 a) (h.2.1 b) sp.toNatClampNeg dp.toNatClampNeg c.toNatClampNeg), h.2.2.1, h.2.2.2) r h') ∨
       (∃ c dp b sp a rest, xm_ck e.1 e.2.2.1.2.1 = some 5 ∧ f.2.2 = .int c :: .int dp :: .ref b :: .int sp :: .ref a :: rest ∧ xm_cs rest ≤ 8 ∧ xm_cpR h a b 1 sp dp c ∧
          xm_R pr call mi n (f.1 + 3, f.2.1, rest) (h.1, h.2.1, va_up h.2.2.1 b (va_cpy (h.2.2.1 a) (h.2.2.1 b) sp.toNatClampNeg dp.toNatClampNeg c.toNatClampNeg), h.2.2.2) r h')))
/-- the locals with which a method begins -/
def xm_ent : List Value → List Value
  | [] => []
  | .long x :: t => .long x :: .float 0 :: xm_ent t
  | .double x :: t => .double x :: .float 0 :: xm_ent t
  | v :: t => v :: xm_ent t
def xm_pad : Nat → List Value → List Value
  | 0, _ => []
  | n + 1, [] => .float 0 :: xm_pad n []
  | n + 1, v :: t => v :: xm_pad n t
/-- method mi, called with args in h, within d frames, returns r and leaves h' -/
def xm_C (pr : Nat → xm_M) : Nat → Nat → List Value → xm_H → Option Value → xm_H → Prop
  | 0, _, _, _, _, _ => False
  | d + 1, mi, args, h, r, h' => (xm_ent args).length ≤ (pr mi).2.2.1 ∧ ∃ n, xm_R pr (xm_C pr d) mi n (0, xm_pad (pr mi).2.2.1 (xm_ent args), []) h r h'
