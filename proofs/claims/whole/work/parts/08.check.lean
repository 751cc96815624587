/-! ===== A CHECK that plain code matches the bytes, by numbers alone; it is sound ===== -/
noncomputable def pg_nM : Nat := 341
def pg_ld (n : Nat) (len : Nat) (k : Option (Nat ⊕ Fin 4)) : Bool := match k with
  | some (.inl m) => decide (m = n) && decide (len = 2)
  | some (.inr m) => decide ((m : Nat) = n) && decide (len = 1)
  | none => false
noncomputable def pg_c1 (own : Nat) (ini : Bool) (rt : Option FieldType) (pc : Nat → Nat) (i : Nat) (o : Instr) (len : Nat) (ci : Instr) : Bool := match ci with
  | .iconst n => (match o with
    | .iconst m => decide (m = n) && decide (len = 1)
    | .bipush m => decide (m = n) && decide (len = 2) && decide ((Int8.ofInt n).toInt32 = Int32.ofInt n)
    | .sipush m => decide (m = n) && decide (len = 3) && decide ((Int16.ofInt n).toInt32 = Int32.ofInt n)
    | .ldc x => decide (len = 2) && pg_KI.contains (own, x, n)
    | .ldc_w x => decide (len = 3) && pg_KI.contains (own, x, n)
    | _ => false)
  | .ldc2_w n => (match o with
    | .lconst k => decide ((k : Nat) = n) && decide (len = 1)
    | .ldc2_w x => decide (len = 3) && pg_KL.contains (own, x, n)
    | _ => false)
  | .ldc j => (match o with
    | .ldc x => decide (len = 2) && pg_ST.contains (own, x, j)
    | .ldc_w x => decide (len = 3) && pg_ST.contains (own, x, j)
    | _ => false)
  | .getstatic n => (match o with
    | .getstatic x => decide (len = 3) && (if n = 0 then pg_SF.contains (own, x, 2) else pg_SF.contains (own, x, 3))
    | _ => false)
  | .nop => true
  | .invokedynamic n => (match o with
    | .invokestatic y => decide (len = 3) && (if n = 0 then pg_MM.contains (own, y, 0) else pg_MM.contains (own, y, 1))
    | _ => false)
  | .iload n => pg_ld n len (match o with
    | .iload m => some (.inl m)
    | .iload_n m => some (.inr m)
    | _ => none)
  | .lload n => pg_ld n len (match o with
    | .lload m => some (.inl m)
    | .lload_n m => some (.inr m)
    | _ => none)
  | .aload n => pg_ld n len (match o with
    | .aload m => some (.inl m)
    | .aload_n m => some (.inr m)
    | _ => none)
  | .istore n => pg_ld n len (match o with
    | .istore m => some (.inl m)
    | .istore_n m => some (.inr m)
    | _ => none)
  | .lstore n => pg_ld n len (match o with
    | .lstore m => some (.inl m)
    | .lstore_n m => some (.inr m)
    | _ => none)
  | .astore n => pg_ld n len (match o with
    | .astore m => some (.inl m)
    | .astore_n m => some (.inr m)
    | _ => none)
  | .iinc n d => (match o with
    | .iinc m x => decide (m = n) && decide (x = d) && decide (len = 3)
    | _ => false)
  | .goto t => (match o with
    | .goto x => decide (len = 3) && decide ((pc i : Int) + x = (pc t.toNat : Int))
    | _ => false)
  | .if_icmp c t => (match o with
    | .if_icmp d x => decide (d = c) && decide (len = 3) && decide ((pc i : Int) + x = (pc t.toNat : Int))
    | _ => false)
  | .ifCond c t => (match o with
    | .ifCond d x => decide (d = c) && decide (len = 3) && decide ((pc i : Int) + x = (pc t.toNat : Int))
    | _ => false)
  | .tableswitch d lo hi ts => (match o with
    | .tableswitch x lo2 hi2 xs => decide (lo2 = lo) && decide (hi2 = hi) && decide ((pc i : Int) + x = (pc d.toNat : Int)) && decide (xs.toList.map (fun y => (pc i : Int) + y) = ts.toList.map (fun t => (pc t.toNat : Int)))
    | _ => false)
  | .getfield x => (match o with
    | .getfield y => decide (len = 3) && pg_FL.contains (own, y, x / 2) && decide (x / 128 < 13) && decide (x % 128 / 2 < (vwCl.getD (x / 128) ("", TX0, 0)).2.2)
    | _ => false)
  | .putfield x => (match o with
    | .putfield y => decide (len = 3) && pg_FL.contains (own, y, x / 2) && decide (x / 128 < 13) && decide (x % 128 / 2 < (vwCl.getD (x / 128) ("", TX0, 0)).2.2) && ((decide (x % 2 = 0) && decide (pg_fty (x / 128) (x % 128 / 2) = .int)) || (decide (x % 2 = 1) && (pg_fty (x / 128) (x % 128 / 2)).isReference)) && (!((vwCl.getD (x / 128) ("", TX0, 0)).2.1 (x % 128 / 2)).2.2.2 || (ini && decide (own = x / 128)))
    | _ => false)
  | .faload => (match o with
    | .iaload => decide (len = 1)
    | _ => false)
  | .checkcast x => (match o with
    | .getfield y => decide (len = 3) && (if x = 0 then pg_SF.contains (own, y, 0) else pg_SF.contains (own, y, 1))
    | _ => false)
  | .new x => (match o with
    | .new y => decide (len = 3) && decide (x < 13) && pg_CL.contains (own, y, x)
    | _ => false)
  | .newarray t => (match o with
    | .newarray u => decide (u = t) && decide (len = 2) && decide (fx_tagA t < 3)
    | _ => false)
  | .anewarray t => (match o with
    | .anewarray y => decide (len = 3) && ((decide (t = 3) && pg_CL.contains (own, y, 4)) || (decide (t = 4) && pg_CL.contains (own, y, 6)))
    | _ => false)
  | .invokespecial _ => (match o with
    | .invokespecial y => decide (len = 3) && pg_OI.contains (own, y)
    | _ => false)
  | .invokeinterface k x => decide (k < 341) && decide (pg_na k = x / 64) && decide (x % 32 < 13) && decide (pg_own k = x % 32) && (pg_hh k).isEmpty && pg_IM.contains k && decide (len = 3) && (match o with
    | .invokevirtual y => decide (x % 64 / 32 = 0) && pg_ML.contains (own, y, k) && pg_SE.contains k
    | .invokespecial y => decide (x % 64 / 32 = 1) && decide ((pg_nd k).1 = "<init>") && decide (pg_rr k = none) && (pg_ML.contains (own, y, k) || pg_MN.contains (own, y, k))
    | _ => false)
  | .invokevirtual x => decide (x / 16 < 341) && decide (pg_na (x / 16) = x % 16) && decide (pg_own (x / 16) = 18) && (pg_hh (x / 16)).isEmpty && pg_IM.contains (x / 16) && decide (len = 3) && (match o with
    | .invokevirtual y => pg_ML.contains (own, y, x / 16) && pg_SE.contains (x / 16)
    | _ => false)
  | .multianewarray k n => decide (k < 341) && decide (pg_na k = n / 2) && pg_SM.contains k && decide (len = 3) && (match o with
    | .invokestatic y => (pg_ML.contains (own, y, k) && (((pg_hh k).isEmpty && decide (n % 2 = 0)) || (!(pg_hh k).isEmpty && decide (n % 2 = 1)))) || ((pg_hh k).isEmpty && decide (n % 2 = 1) && pg_MN.contains (own, y, k))
    | _ => false)
  | .ireturn => (match o with
    | .ireturn => decide (len = 1) && decide (rt = some .int)
    | _ => false)
  | .freturn => (match o with
    | .ireturn => decide (len = 1) && (decide (rt = some .boolean) || decide (rt = some .byte))
    | _ => false)
  | .dreturn => (match o with
    | .ireturn => decide (len = 1) && decide (rt = some .char)
    | _ => false)
  | .lreturn => (match o with
    | .lreturn => decide (len = 1) && decide (rt = some .long)
    | _ => false)
  | .return_ => (match o with
    | .return_ => decide (len = 1) && decide (rt = none)
    | _ => false)
  | .jsr t => (match o with
    | .new y => decide (len = 3) && pg_CL.contains (own, y, t.toNat) && decide (t.toNat < 22)
    | _ => false)
  | q => decide (o = q) && decide (len = 1)
def pg_isJ (ci : Instr) : Bool := match ci with
  | .jsr _ => true
  | _ => false
noncomputable def pg_chk (own : Nat) (ini : Bool) (rt : Option FieldType) (bytes : ByteArray) (pl : List Nat) : Nat → List Instr → List Nat → Bool
  | _, [], _ => true
  | _, _ :: _, [] => false
  | i, ci :: k, a :: t => (match decode bytes a with
    | .ok (o, len) => (decide (t.headD 0 = a + len) || pg_isJ ci) && pg_c1 own ini rt (fun j => pl.getD j 0) i o len ci
    | .error _ => false) && pg_chk own ini rt bytes pl (i + 1) k t
