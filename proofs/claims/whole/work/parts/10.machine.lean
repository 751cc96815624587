/-! ===== A PLAIN MACHINE: the same instructions over a plain heap; what it does the real machine does (part 12) =====
Its values are the machine's; .ref k: the k-th cell made since the law began; .retAddr 0: the script; .retAddr (2j+1): the text j; .retAddr (2j+2): that text's bytes; .float 0: some reference or null that nobody looks at.
Its heap: the next cell's number; how many cells (thrown things too) and slots were made; what each cell holds, by its number. A thrown thing has no number: behind the first one no cell is made any more. A cell: .inr (class, fields) or .inl (kind of array, length, contents): kinds 0 byte, 1 int, 2 long, 3 Scene, 4 Story. -/
abbrev fx_H : Type := Nat × Nat × Nat × (Nat → va_E)
abbrev fx_R : Type := ((Option Value) ⊕ Nat) × fx_H
abbrev fx_J : Type := Nat → List Value → List Value → fx_H → Option fx_R
abbrev fx_C : Type := Nat → List Value → fx_H → Option fx_R
/-- a local that holds nothing -/
abbrev fx_U : Value := .double 0
def fx_fix (n : Nat) (x : Value) : Value := match n with
  | 0 => (match x with
    | .long _ => fx_U
    | .double _ => fx_U
    | y => y)
  | _ => x
def fx_set : List Value → Nat → Value → List Value
  | [], _, _ => []
  | _ :: t, 0, v => v :: t
  | x :: t, n + 1, v => fx_fix n x :: fx_set t n v
def fx_words : List Value → List Value
  | [] => []
  | v :: t => (match v with
    | .long _ => v :: fx_U :: fx_words t
    | .double _ => v :: fx_U :: fx_words t
    | _ => v :: fx_words t)
def fx_ent (args : List Value) (nL : Nat) : List Value := fx_words args ++ List.replicate (nL - (fx_words args).length) fx_U
def fx_cmp (c : Jvm.ClassFile.Cond) (x y : Int32) : Bool := match c with
  | .eq => decide (x = y)
  | .ne => decide (x ≠ y)
  | .lt => decide (x < y)
  | .ge => decide (y ≤ x)
  | .gt => decide (y < x)
  | .le => decide (x ≤ y)
def fx_in (i : Int32) (n : Nat) : Bool := decide (¬ i < 0) && decide (i.toNatClampNeg < n)
def fx_rf (o : Option Nat) : Value := match o with
  | none => .null
  | some a => .ref a
def fx_isA (v : Value) : Bool := match v with
  | .ref _ => true
  | .retAddr _ => true
  | _ => false
/-- what a field of a kind may hold: 0 an int, 1 a reference -/
def fx_fit (k : Nat) (v : Value) : Bool := match k, v with
  | 0, .int _ => true
  | 1, .ref _ => true
  | _, _ => false
/-- behind a call: go on with the answer, or to the handler of what was thrown, or out -/
def fx_then (hn : Nat → Option (Nat × Nat)) (jump : fx_J) (go : List Value → fx_H → Option fx_R) (ls rest : List Value) (r : Option fx_R) : Option fx_R := match r with
  | none => none
  | some (.inl none, h) => go rest h
  | some (.inl (some v), h) => go (v :: rest) h
  | some (.inr t, h) => (match hn t with
    | some tg => jump tg.1 (fx_set ls tg.2 fx_U) [] h
    | none => some (.inr t, h))
/-- a call that only returns -/
def fx_only (b : Nat) (r : Option fx_R) : Option fx_R := if b = 1 then (match r with
  | some (.inl v, h) => some (.inl v, h)
  | _ => none) else r
def fx_zero (t : Nat) : (Nat → Int32) ⊕ (Nat → Int64) ⊕ (Nat → UInt32) ⊕ (Nat → UInt64) ⊕ (Nat → Option Nat) := if t = 2 then .inr (.inl (fun _ => 0)) else .inl (fun _ => 0)
def fx_elt (t : Nat) : Nat := if t = 3 then 4 else if t = 4 then 6 else 99
/-- how much of the stack lies below a call -/
def fx_low (rest : List Value) : Bool := decide ((rest.map (fun v => v.category)).sum ≤ 8)
/-- a text's parts -/
def fx_tlen (tx : List (List Int32)) (a : Nat) : Option Nat := if a % 2 = 1 then none else if a = 0 then none else (match tx[a / 2 - 1]? with
  | some l => some l.length
  | none => none)
def fx_tget (tx : List (List Int32)) (a : Nat) (i : Int32) : Option Int32 := if a % 2 = 1 then none else if a = 0 then none else (match tx[a / 2 - 1]? with
  | some l => if fx_in i l.length then l[i.toNatClampNeg]? else none
  | none => none)
section
variable (sc : Nat × (Nat → Int32)) (tx : List (List Int32)) (df : Nat → List Value) (call : fx_C) (hn : Nat → Option (Nat × Nat)) (jump : fx_J)
/-- a stretch of code, to the next jump -/
def fx_1 : List Instr → List Value → List Value → fx_H → Option fx_R
  | [], _, _, _ => none
  | i :: k, ls, st, h => match i with
    | .iconst n => fx_1 k ls (.int (Int32.ofInt n) :: st) h
    | .ldc2_w n => fx_1 k ls (.long (Int64.ofNat n) :: st) h
    | .ldc n => fx_1 k ls (.retAddr (2 * n + 1) :: st) h
    | .getstatic n => fx_1 k ls ((if n = 0 then .int 1 else .float 0) :: st) h
    | .iload n => (match ls[n]? with
      | some (.int x) => fx_1 k ls (.int x :: st) h
      | _ => none)
    | .lload n => (match ls[n]? with
      | some (.long x) => fx_1 k ls (.long x :: st) h
      | _ => none)
    | .aload n => (match ls[n]? with
      | some v => if fx_isA v then fx_1 k ls (v :: st) h else none
      | none => none)
    | .istore n => (match st with
      | .int x :: st => if n < ls.length then fx_1 k (fx_set ls n (.int x)) st h else none
      | _ => none)
    | .astore n => (match st with
      | .ref x :: st => if n < ls.length then fx_1 k (fx_set ls n (.ref x)) st h else none
      | _ => none)
    | .lstore n => (match st with
      | .long x :: st => if n + 1 < ls.length then fx_1 k (fx_set (fx_set ls (n + 1) fx_U) n (.long x)) st h else none
      | _ => none)
    | .iinc n d => (match ls[n]? with
      | some (.int x) => fx_1 k (fx_set ls n (.int (x + Int32.ofInt d))) st h
      | _ => none)
    | .iadd => (match st with
      | .int y :: .int x :: st => fx_1 k ls (.int (x + y) :: st) h
      | _ => none)
    | .isub => (match st with
      | .int y :: .int x :: st => fx_1 k ls (.int (x - y) :: st) h
      | _ => none)
    | .imul => (match st with
      | .int y :: .int x :: st => fx_1 k ls (.int (x * y) :: st) h
      | _ => none)
    | .iand => (match st with
      | .int y :: .int x :: st => fx_1 k ls (.int (x &&& y) :: st) h
      | _ => none)
    | .ior => (match st with
      | .int y :: .int x :: st => fx_1 k ls (.int (x ||| y) :: st) h
      | _ => none)
    | .ixor => (match st with
      | .int y :: .int x :: st => fx_1 k ls (.int (x ^^^ y) :: st) h
      | _ => none)
    | .ishl => (match st with
      | .int y :: .int x :: st => fx_1 k ls (.int (x <<< (y &&& 31)) :: st) h
      | _ => none)
    | .ishr => (match st with
      | .int y :: .int x :: st => fx_1 k ls (.int (x >>> (y &&& 31)) :: st) h
      | _ => none)
    | .iushr => (match st with
      | .int y :: .int x :: st => fx_1 k ls (.int (x.toUInt32 >>> (y.toUInt32 &&& Int32.toUInt32 31)).toInt32 :: st) h
      | _ => none)
    | .idiv => (match st with
      | .int y :: .int x :: st => if y = 0 then none else fx_1 k ls (.int (x / y) :: st) h
      | _ => none)
    | .irem => (match st with
      | .int y :: .int x :: st => if y = 0 then none else fx_1 k ls (.int (x - x / y * y) :: st) h
      | _ => none)
    | .i2l => (match st with
      | .int x :: st => fx_1 k ls (.long x.toInt64 :: st) h
      | _ => none)
    | .i2b => (match st with
      | .int x :: st => fx_1 k ls (.int x.toInt8.toInt32 :: st) h
      | _ => none)
    | .i2c => (match st with
      | .int x :: st => fx_1 k ls (.int (x.toUInt32 % 65536).toInt32 :: st) h
      | _ => none)
    | .ladd => (match st with
      | .long y :: .long x :: st => fx_1 k ls (.long (x + y) :: st) h
      | _ => none)
    | .lmul => (match st with
      | .long y :: .long x :: st => fx_1 k ls (.long (x * y) :: st) h
      | _ => none)
    | .land => (match st with
      | .long y :: .long x :: st => fx_1 k ls (.long (x &&& y) :: st) h
      | _ => none)
    | .ldiv => (match st with
      | .long y :: .long x :: st => if y = 0 then none else fx_1 k ls (.long (x / y) :: st) h
      | _ => none)
    | .lrem => (match st with
      | .long y :: .long x :: st => if y = 0 then none else fx_1 k ls (.long (x - x / y * y) :: st) h
      | _ => none)
    | .lshl => (match st with
      | .int y :: .long x :: st => fx_1 k ls (.long (x <<< (y.toInt64 &&& 63)) :: st) h
      | _ => none)
    | .lshr => (match st with
      | .int y :: .long x :: st => fx_1 k ls (.long (x >>> (y.toInt64 &&& 63)) :: st) h
      | _ => none)
    | .lcmp => (match st with
      | .long y :: .long x :: st => fx_1 k ls (.int (lg_cmp x y) :: st) h
      | _ => none)
    | .pop => (match st with
      | v :: st => if v.category = 1 then fx_1 k ls st h else none
      | _ => none)
    | .dup => (match st with
      | v :: st => if v.category = 1 then fx_1 k ls (v :: v :: st) h else none
      | _ => none)
    | .dup2 => (match st with
      | v :: w :: st => if v.category = 1 ∧ w.category = 1 then fx_1 k ls (v :: w :: v :: w :: st) h else none
      | _ => none)
    | .goto t => jump t.toNat ls st h
    | .if_icmp c t => (match st with
      | .int y :: .int x :: st => if fx_cmp c x y then jump t.toNat ls st h else fx_1 k ls st h
      | _ => none)
    | .ifCond c t => (match st with
      | .int x :: st => if fx_cmp c x 0 then jump t.toNat ls st h else fx_1 k ls st h
      | _ => none)
    | .tableswitch d lo hi ts => (match st with
      | .int x :: st => if x.toInt < lo ∨ hi < x.toInt then jump d.toNat ls st h else (match ts[(x.toInt - lo).toNat]? with
        | some t => jump t.toNat ls st h
        | none => none)
      | _ => none)
    | .getfield x => (match st with
      | .ref a :: st => (match h.2.2.2 a with
        | .inr (c, fs) => if c = x / 128 then (match fs[x % 128 / 2]? with
          | some v => fx_1 k ls (v :: st) h
          | none => none) else none
        | _ => none)
      | _ => none)
    | .putfield x => (match st with
      | v :: .ref a :: st => (match h.2.2.2 a with
        | .inr (c, fs) => if c = x / 128 ∧ x % 128 / 2 < fs.length ∧ fx_fit (x % 2) v = true then fx_1 k ls st (h.1, h.2.1, h.2.2.1, va_up h.2.2.2 a (.inr (c, fs.set (x % 128 / 2) v))) else none
        | _ => none)
      | _ => none)
    | .iaload => (match st with
      | .int i :: .ref a :: st => (match h.2.2.2 a with
        | .inl (t, n, .inl f) => if t = 1 ∧ fx_in i n = true then fx_1 k ls (.int (f i.toNatClampNeg) :: st) h else none
        | _ => none)
      | _ => none)
    | .iastore => (match st with
      | .int x :: .int i :: .ref a :: st => (match h.2.2.2 a with
        | .inl (t, n, .inl f) => if t = 1 ∧ fx_in i n = true then fx_1 k ls st (h.1, h.2.1, h.2.2.1, va_up h.2.2.2 a (.inl (t, n, .inl (upd f i.toNatClampNeg x)))) else none
        | _ => none)
      | _ => none)
    | .baload => (match st with
      | .int i :: .ref a :: st => (match h.2.2.2 a with
        | .inl (t, n, .inl f) => if t = 0 ∧ fx_in i n = true then fx_1 k ls (.int (f i.toNatClampNeg) :: st) h else none
        | _ => none)
      | .int i :: .retAddr a :: st => (match fx_tget tx a i with
        | some v => fx_1 k ls (.int v :: st) h
        | none => none)
      | _ => none)
    | .bastore => (match st with
      | .int x :: .int i :: .ref a :: st => (match h.2.2.2 a with
        | .inl (t, n, .inl f) => if t = 0 ∧ fx_in i n = true then fx_1 k ls st (h.1, h.2.1, h.2.2.1, va_up h.2.2.2 a (.inl (t, n, .inl (upd f i.toNatClampNeg (vp_nar .byte x))))) else none
        | _ => none)
      | _ => none)
    | .laload => (match st with
      | .int i :: .ref a :: st => (match h.2.2.2 a with
        | .inl (t, n, .inr (.inl f)) => if t = 2 ∧ fx_in i n = true then fx_1 k ls (.long (f i.toNatClampNeg) :: st) h else none
        | _ => none)
      | _ => none)
    | .lastore => (match st with
      | .long x :: .int i :: .ref a :: st => (match h.2.2.2 a with
        | .inl (t, n, .inr (.inl f)) => if t = 2 ∧ fx_in i n = true then fx_1 k ls st (h.1, h.2.1, h.2.2.1, va_up h.2.2.2 a (.inl (t, n, .inr (.inl (vp_updL f i.toNatClampNeg x))))) else none
        | _ => none)
      | _ => none)
    | .aaload => (match st with
      | .int i :: .ref a :: st => (match h.2.2.2 a with
        | .inl (t, n, .inr (.inr (.inr (.inr f)))) => if (t = 3 ∨ t = 4) ∧ fx_in i n = true then fx_1 k ls (fx_rf (f i.toNatClampNeg) :: st) h else none
        | _ => none)
      | _ => none)
    | .aastore => (match st with
      | .ref v :: .int i :: .ref a :: st => (match h.2.2.2 a, h.2.2.2 v with
        | .inl (t, n, .inr (.inr (.inr (.inr f)))), .inr (c, _) => if (t = 3 ∨ t = 4) ∧ fx_in i n = true ∧ c = fx_elt t then fx_1 k ls st (h.1, h.2.1, h.2.2.1, va_up h.2.2.2 a (.inl (t, n, .inr (.inr (.inr (.inr (va_up f i.toNatClampNeg (some v)))))))) else none
        | _, _ => none)
      | _ => none)
    | .arraylength => (match st with
      | .ref a :: st => (match h.2.2.2 a with
        | .inl (t, n, _) => if t < 5 then fx_1 k ls (.int (Int32.ofNat n) :: st) h else none
        | _ => none)
      | .retAddr 0 :: st => fx_1 k ls (.int (Int32.ofNat sc.1) :: st) h
      | .retAddr a :: st => (match fx_tlen tx a with
        | some n => fx_1 k ls (.int (Int32.ofNat n) :: st) h
        | none => none)
      | _ => none)
    | .faload => (match st with
      | .int i :: .retAddr 0 :: st => if fx_in i sc.1 then fx_1 k ls (.int (sc.2 i.toNatClampNeg) :: st) h else none
      | _ => none)
    | .checkcast x => (match st with
      | .retAddr a :: st => if a % 2 = 1 ∧ a / 2 < tx.length then (if x = 0 then fx_1 k ls (.retAddr (a + 1) :: st) h else fx_1 k ls (.int 0 :: st) h) else none
      | _ => none)
    | .new c => if h.1 = h.2.1 then fx_1 k ls (.ref h.1 :: st) (h.1 + 1, h.2.1 + 1, h.2.2.1 + (df c).length, va_up h.2.2.2 h.1 (.inr (c, df c))) else none
    | .newarray t => (match st with
      | .int n :: st => if n < 0 ∨ 100000 < n.toNatClampNeg ∨ h.1 ≠ h.2.1 then none else fx_1 k ls (.ref h.1 :: st) (h.1 + 1, h.2.1 + 1, h.2.2.1 + n.toNatClampNeg, va_up h.2.2.2 h.1 (.inl (fx_tagA t, n.toNatClampNeg, fx_zero (fx_tagA t))))
      | _ => none)
    | .anewarray t => (match st with
      | .int n :: st => if n < 0 ∨ 100000 < n.toNatClampNeg ∨ h.1 ≠ h.2.1 then none else fx_1 k ls (.ref h.1 :: st) (h.1 + 1, h.2.1 + 1, h.2.2.1 + n.toNatClampNeg, va_up h.2.2.2 h.1 (.inl (t, n.toNatClampNeg, .inr (.inr (.inr (.inr (fun _ => none)))))))
      | _ => none)
    | .invokespecial _ => (match st with
      | .ref _ :: st => if fx_low st then fx_1 k ls st h else none
      | _ => none)
    | .invokeinterface m x => (match st.drop (x / 64) with
      | .ref a :: rest => (match h.2.2.2 a with
        | .inr (c, _) => if c = x % 32 ∧ fx_low rest = true then fx_then hn jump (fun st h => fx_1 k ls st h) ls rest (fx_only (x % 64 / 32) (call m (.ref a :: (st.take (x / 64)).reverse) h)) else none
        | _ => none)
      | _ => none)
    | .invokevirtual x => (match st.drop (x % 16) with
      | .retAddr a :: rest => if a % 2 = 1 ∧ a / 2 < tx.length ∧ fx_low rest = true then fx_then hn jump (fun st h => fx_1 k ls st h) ls rest (call (x / 16) (.retAddr a :: (st.take (x % 16)).reverse) h) else none
      | _ => none)
    | .multianewarray m n => if n / 2 ≤ st.length ∧ fx_low (st.drop (n / 2)) = true then fx_then hn jump (fun st h => fx_1 k ls st h) ls (st.drop (n / 2)) (fx_only (n % 2) (call m (st.take (n / 2)).reverse h)) else none
    | .invokedynamic n => (match st with
      | .int y :: .int x :: st => if fx_low st then fx_1 k ls (.int (if n = 0 then (if x < y then y else x) else (if y < x then y else x)) :: st) h else none
      | _ => none)
    | .ireturn => (match st with
      | [.int v] => some (.inl (some (.int v)), h)
      | _ => none)
    | .freturn => (match st with
      | [.int v] => if v = 0 ∨ v = 1 then some (.inl (some (.int v)), h) else none
      | _ => none)
    | .dreturn => (match st with
      | [.int v] => if narrow .char (.int v) = .int v then some (.inl (some (.int v)), h) else none
      | _ => none)
    | .lreturn => (match st with
      | [.long v] => some (.inl (some (.long v)), h)
      | _ => none)
    | .return_ => (match st with
      | [] => some (.inl none, h)
      | _ => none)
    | .jsr t => if fx_low st then some (.inr t.toNat, (h.1, h.2.1 + 1, h.2.2.1 + 6, h.2.2.2)) else none
    | _ => none
end
/-- a method's code from an instruction on, with so many jumps -/
def fx_J1 (sc : Nat × (Nat → Int32)) (tx : List (List Int32)) (df : Nat → List Value) (call : fx_C) (hn : Nat → Option (Nat × Nat)) (code : List Instr) : Nat → fx_J
  | 0 => fun _ _ _ _ => none
  | F + 1 => fun t ls st h => fx_1 sc tx df call hn (fx_J1 sc tx df call hn code F) (code.drop t) ls st h
/-- a call, with so many frames: the methods are a table: code, locals, handlers -/
def fx_M (sc : Nat × (Nat → Int32)) (tx : List (List Int32)) (df : Nat → List Value) (cd : Nat → List Instr) (nl : Nat → Nat) (hd : Nat → Nat → Option (Nat × Nat)) (F : Nat) : Nat → fx_C
  | 0 => fun _ _ _ => none
  | d + 1 => fun m args h => if (fx_words args).length ≤ nl m then fx_J1 sc tx df (fx_M sc tx df cd nl hd F d) (hd m) (cd m) F 0 (fx_ent args (nl m)) [] h else none
