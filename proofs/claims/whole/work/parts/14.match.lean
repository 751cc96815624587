/-! ===== WHAT THE SOUNDNESS OF THE PLAIN MACHINE TAKES FOR GRANTED: static facts, and how plain code matches bytes ===== -/
section
variable (b0 : Nat) (ex cy : Nat → Nat) (D : va_G) (cl : List vw_C) (sc : Nat × (Nat → Int32)) (tx : List (List Int32)) (NB : List Cond) (SL : List (String × Nat × String × Nat))
/-- what stays as it is: tables, texts, the script, statics -/
def fx_St (U : State) (H : Heap) : Prop :=
  va_K D cl (fx_tys cy) U ∧ vk_S tx.length (tx.map List.length) tx (fun j => ex (2 * j + 1)) (fun j => ex (2 * j + 2)) (fun q => b0 ≤ q) U H ∧ (∀ q ∈ SL, vk_R q.1 q.2.1 q.2.2.1 (ex (2 * q.2.2.2 + 1)) U) ∧
  vx_Zq Bundle.tN "UNASSIGNED_STACK" Bundle.steD (fun q => b0 ≤ q) U H ∧ vx_Zq Bundle.tN "SUPPRESSED_SENTINEL" Bundle.listD (fun q => b0 ≤ q) U H ∧ va_X (ex 0) sc.1 sc.2 U H ∧ ex 0 < b0 ∧
  va_Z "java/lang/String" "COMPACT_STRINGS" "Z" (.int 1) (fun q => b0 ≤ q) U H ∧ (∀ w ∈ NB, va_Nw w U) ∧ va_Nc "java/lang/IllegalArgumentException" "java/util/NoSuchElementException" U ∧ va_AO "FogWatch$Scene" U ∧ va_AO "FogWatch$Story" U ∧ b0 ≤ H.size ∧ va_Z "jdk/internal/util/Preconditions" "SIOOBE_FORMATTER" "Ljava/util/function/BiFunction;" (fx_tr b0 ex (.float 0)) (fun q => b0 ≤ q) U H
theorem fx_St.warm (hN : ∀ w ∈ NB, fx_nw w = true) {s U : State} {H H1 : Heap} (hW : s.WarmedH U.vm) (hz : H.size ≤ H1.size) (hk : ∀ q : Nat, q < H.size → ¬ b0 ≤ q → H1[q]? = H[q]?) (h : fx_St b0 ex cy D cl sc tx NB SL s H) : fx_St b0 ex cy D cl sc tx NB SL U H1 := by
  obtain ⟨h1, h2, h3, h4, h5, h6, h7, h8, h9, h10, h11, h12, h13, h14⟩ := h
  exact ⟨h1.moved hW.alike, (h2.moved hW.alike).kept hk, fun q hq => (h3 q hq).warm hW, (h4.moved hW.alike).kept hk, (h5.moved hW.alike).kept hk, (h6.moved hW.alike).kept (hk _ (by omega) (by omega)), h7, (h8.moved hW.alike).kept hk, fun w hw => fx_nw_warm (hN w hw) hW (h9 w hw), h10.moved hW.alike, h11.moved hW.alike, h12.moved hW.alike, by omega, (h14.moved hW.alike).kept hk⟩
/-- what a method may rely on when it is called -/
def fx_CR (h : fx_H) (U : State) : Prop := fx_St b0 ex cy D cl sc tx NB SL U U.heap ∧ fx_Dy b0 ex cy D cl h U.heap
def fx_Qc (r : fx_R) : Array Value → State → Outcome → State → Prop := fun _ st o t => (∃ v, r.1 = .inl v ∧ o = .returned (v.map (fx_tr b0 ex))) ∧ fx_Dy b0 ex cy D cl r.2 t.heap ∧ va_F (fun q => b0 ≤ q) st t
def fx_Xc (xn : Nat → String) (r : fx_R) : String → State → State → Prop := fun E st t => (∃ g, r.1 = .inr g ∧ E = xn g) ∧ fx_Dy b0 ex cy D cl r.2 t.heap ∧ va_F (fun q => b0 ≤ q) st t
end
/-- the room of a call of so many frames -/
def fx_rm (d mc ms : Nat) : Room := { frames := d + 8, cells := mc, slots := ms, locals := 60 * d + 400 }
section
variable (cl : List vw_C) (fty : Nat → Nat → FieldType) (TB NB : List Cond) (SL : List (String × Nat × String × Nat)) (yy : Nat → MethodName) (bb : Nat → ByteArray) (nl : Nat → Nat) (rr : Nat → Option FieldType) (na : Nat → Nat) (hh : Nat → List (Nat × Nat × Nat × Nat)) (xn : Nat → String)
/-- a method that may be called -/
def fx_ok (k : Nat) : Prop := (yy k).cls ≠ "java/lang/invoke/MethodHandle" ∧ (yy k).cls ≠ "java/lang/invoke/VarHandle" ∧ (parseMethodDescriptor (yy k).desc).map (fun d => d.parameters.length) = some (na k) ∧ plainName (yy k).cls = true ∧ Cond.initialized (yy k).cls ∈ TB ∧ fx_cw yy bb nl rr hh k ∈ TB ∧ nl k ≤ 40
/-- how a plain instruction at index i of a method of class own matches the real one o of so many bytes; pc: the bytes' places by index -/
def fx_mt (own : String) (isInit : Bool) (rt : Option FieldType) (pc : Nat → Nat) (i : Nat) (o : Instr) (len : Nat) (ci : Instr) : Prop := match ci with
  | .iconst n => (o = .iconst n ∧ len = 1) ∨ (o = .bipush n ∧ len = 2 ∧ (Int8.ofInt n).toInt32 = Int32.ofInt n) ∨ (o = .sipush n ∧ len = 3 ∧ (Int16.ofInt n).toInt32 = Int32.ofInt n) ∨ (∃ x, o = .ldc x ∧ len = 2 ∧ Cond.constant own x (Int32.ofInt n) ∈ TB) ∨ (∃ x, o = .ldc_w x ∧ len = 3 ∧ Cond.constant own x (Int32.ofInt n) ∈ TB)
  | .ldc2_w n => (∃ k : Fin 2, o = .lconst k ∧ len = 1 ∧ (k : Nat) = n) ∨ (∃ x, o = .ldc2_w x ∧ len = 3 ∧ Cond.constantLong own x (Int64.ofNat n) ∈ TB)
  | .ldc j => ∃ x t, ((o = .ldc x ∧ len = 2) ∨ (o = .ldc_w x ∧ len = 3)) ∧ (own, x, t, j) ∈ SL
  | .getstatic n => ∃ x, o = .getstatic x ∧ len = 3 ∧ ((n = 0 ∧ Cond.fieldLink own x "java/lang/String" "COMPACT_STRINGS" "Z" ∈ TB) ∨ (n ≠ 0 ∧ Cond.fieldLink own x "jdk/internal/util/Preconditions" "SIOOBE_FORMATTER" "Ljava/util/function/BiFunction;" ∈ TB))
  | .nop => True
  | .invokedynamic n => ∃ y, o = .invokestatic y ∧ len = 3 ∧ Cond.initialized "java/lang/Math" ∈ TB ∧ ((n = 0 ∧ Cond.methodLink own y Lib.Math.max.name ∈ TB ∧ Cond.static Lib.Math.max.name ∈ TB ∧ Cond.code Lib.Math.max.name Lib.Math.max.code 2 (some .int) ∈ TB) ∨ (n ≠ 0 ∧ Cond.methodLink own y Lib.Math.min.name ∈ TB ∧ Cond.static Lib.Math.min.name ∈ TB ∧ Cond.code Lib.Math.min.name Lib.Math.min.code 2 (some .int) ∈ TB))
  | .iload n => (o = .iload n ∧ len = 2) ∨ ∃ k : Fin 4, o = .iload_n k ∧ len = 1 ∧ (k : Nat) = n
  | .lload n => (o = .lload n ∧ len = 2) ∨ ∃ k : Fin 4, o = .lload_n k ∧ len = 1 ∧ (k : Nat) = n
  | .aload n => (o = .aload n ∧ len = 2) ∨ ∃ k : Fin 4, o = .aload_n k ∧ len = 1 ∧ (k : Nat) = n
  | .istore n => (o = .istore n ∧ len = 2) ∨ ∃ k : Fin 4, o = .istore_n k ∧ len = 1 ∧ (k : Nat) = n
  | .lstore n => (o = .lstore n ∧ len = 2) ∨ ∃ k : Fin 4, o = .lstore_n k ∧ len = 1 ∧ (k : Nat) = n
  | .astore n => (o = .astore n ∧ len = 2) ∨ ∃ k : Fin 4, o = .astore_n k ∧ len = 1 ∧ (k : Nat) = n
  | .iinc n d => o = .iinc n d ∧ len = 3
  | .goto t => ∃ x, o = .goto x ∧ len = 3 ∧ (pc i : Int) + x = (pc t.toNat : Int)
  | .if_icmp c t => ∃ x, o = .if_icmp c x ∧ len = 3 ∧ (pc i : Int) + x = (pc t.toNat : Int)
  | .ifCond c t => ∃ x, o = .ifCond c x ∧ len = 3 ∧ (pc i : Int) + x = (pc t.toNat : Int)
  | .tableswitch d lo hi ts => ∃ x xs, o = .tableswitch x lo hi xs ∧ (pc i : Int) + x = (pc d.toNat : Int) ∧ ∀ (j : Nat) (t : Int), ts[j]? = some t → ∃ y, xs[j]? = some y ∧ (pc i : Int) + y = (pc t.toNat : Int)
  | .getfield x => ∃ y r, o = .getfield y ∧ len = 3 ∧ cl[x / 128]? = some r ∧ x % 128 / 2 < r.2.2 ∧ Cond.fieldLink own y (r.2.1 (x % 128 / 2)).1 (r.2.1 (x % 128 / 2)).2.1 (r.2.1 (x % 128 / 2)).2.2.1 ∈ TB
  | .putfield x => ∃ y r, o = .putfield y ∧ len = 3 ∧ cl[x / 128]? = some r ∧ x % 128 / 2 < r.2.2 ∧ Cond.fieldLink own y (r.2.1 (x % 128 / 2)).1 (r.2.1 (x % 128 / 2)).2.1 (r.2.1 (x % 128 / 2)).2.2.1 ∈ TB ∧ ((x % 2 = 0 ∧ fty (x / 128) (x % 128 / 2) = .int) ∨ (x % 2 = 1 ∧ (fty (x / 128) (x % 128 / 2)).isReference = true)) ∧ ((r.2.1 (x % 128 / 2)).2.2.2 = false ∨ ((r.2.1 (x % 128 / 2)).2.2.2 = true ∧ isInit = true ∧ (r.2.1 (x % 128 / 2)).1 = own))
  | .faload => o = .iaload ∧ len = 1
  | .checkcast x => ∃ y, o = .getfield y ∧ len = 3 ∧ ((x = 0 ∧ Cond.fieldLink own y "java/lang/String" "value" "[B" ∈ TB) ∨ (x ≠ 0 ∧ Cond.fieldLink own y "java/lang/String" "coder" "B" ∈ TB))
  | .new x => ∃ y r, o = .new y ∧ len = 3 ∧ cl[x]? = some r ∧ Cond.classLink own y r.1 ∈ TB ∧ Cond.instantiable r.1 r.2.2 ∈ TB ∧ Cond.initialized r.1 ∈ TB
  | .newarray t => o = .newarray t ∧ len = 2 ∧ fx_tagA t < 3 ∧ Cond.arrayClass (newarray.typeOf t) ∈ TB
  | .anewarray t => ∃ y, o = .anewarray y ∧ len = 3 ∧ (t = 3 ∨ t = 4) ∧ Cond.classLink own y (if t = 3 then "FogWatch$Scene" else "FogWatch$Story") ∈ TB
  | .invokespecial _ => ∃ y, o = .invokespecial y ∧ len = 3 ∧ Cond.methodLink own y Lib.objectInit ∈ TB
  | .invokeinterface k x => fx_ok TB yy bb nl rr na hh k ∧ na k = x / 64 ∧ (∃ r, cl[x % 32]? = some r ∧ r.1 = (yy k).cls) ∧ hh k = [] ∧ Cond.instanceMethod (yy k) ∈ TB ∧ len = 3 ∧
      ((x % 64 / 32 = 0 ∧ ∃ y, o = .invokevirtual y ∧ Cond.methodLink own y (yy k) ∈ TB ∧ Cond.selects (yy k).cls (yy k) (yy k) ∈ TB) ∨ (x % 64 / 32 = 1 ∧ ∃ y, o = .invokespecial y ∧ (yy k).name = "<init>" ∧ rr k = none ∧ Cond.methodLink own y (yy k) ∈ TB) ∨ (x % 64 / 32 = 1 ∧ ∃ y z, o = .invokespecial y ∧ (yy k).name = "<init>" ∧ rr k = none ∧ Cond.methodLinkNest own y (yy k) z ∈ NB))
  | .invokevirtual x => fx_ok TB yy bb nl rr na hh (x / 16) ∧ na (x / 16) = x % 16 ∧ (yy (x / 16)).cls = "java/lang/String" ∧ hh (x / 16) = [] ∧ Cond.instanceMethod (yy (x / 16)) ∈ TB ∧ len = 3 ∧ ∃ y, o = .invokevirtual y ∧ Cond.methodLink own y (yy (x / 16)) ∈ TB ∧ Cond.selects (yy (x / 16)).cls (yy (x / 16)) (yy (x / 16)) ∈ TB
  | .multianewarray k n => fx_ok TB yy bb nl rr na hh k ∧ na k = n / 2 ∧ Cond.static (yy k) ∈ TB ∧ len = 3 ∧ ∃ y, o = .invokestatic y ∧ ((Cond.methodLink own y (yy k) ∈ TB ∧ (hh k = [] ∧ n % 2 = 0 ∨ hh k ≠ [] ∧ n % 2 = 1)) ∨ (hh k = [] ∧ n % 2 = 1 ∧ ∃ z, Cond.methodLinkNest own y (yy k) z ∈ NB))
  | .ireturn => o = .ireturn ∧ len = 1 ∧ rt = some .int
  | .freturn => o = .ireturn ∧ len = 1 ∧ (rt = some .boolean ∨ rt = some .byte)
  | .dreturn => o = .ireturn ∧ len = 1 ∧ rt = some .char
  | .lreturn => o = .lreturn ∧ len = 1 ∧ rt = some .long
  | .return_ => o = .return_ ∧ len = 1 ∧ rt = none
  | .jsr t => ∃ y, o = .new y ∧ len = 3 ∧ Cond.classLink own y (xn t.toNat) ∈ TB ∧ Cond.initialized (xn t.toNat) ∈ TB
  | q => o = q ∧ len = 1
/-- 'throw new E("text")' at a place of the bytes: new; dup; ldc_w; invokespecial; athrow -/
def fx_jt (own : String) (cc : ByteArray) (pc : Nat) (y : Nat) (E : String) : Prop := ∃ (is ic j : Nat) (t : String) (names : List String), decode cc (pc + 3) = .ok (.dup, 1) ∧ decode cc (pc + 4) = .ok (.ldc_w is, 3) ∧ decode cc (pc + 7) = .ok (.invokespecial ic, 3) ∧ decode cc (pc + 10) = .ok (.athrow, 1) ∧
  (own, is, t, j) ∈ SL ∧ Bundle.fit E = true ∧ (∀ n ∈ names, Bundle.fit n = true) ∧ names.length ≤ 3 ∧
  (((∀ w ∈ vx_atS own ic E names, w ∈ TB ∨ w ∈ NB) ∧ (∀ w ∈ Cond.classLink own y E :: Cond.initialized E :: vx_atS own ic E names, vx_ot w = true)) ∨
   ∃ (Y : String) (idx : Nat) (bytes : ByteArray), Bundle.fit Y = true ∧ decode bytes 0 = .ok (.aload_n 0, 1) ∧ decode bytes 1 = .ok (.aload_n 1, 1) ∧ decode bytes 2 = .ok (.invokespecial idx, 3) ∧ decode bytes 5 = .ok (.return_, 1) ∧ (∀ w ∈ (fx_atX own ic E Y idx bytes names).filter vx_no, w ∈ TB ∨ w ∈ NB) ∧ (∀ w ∈ Cond.classLink own y E :: Cond.initialized E :: (fx_atX own ic E Y idx bytes names).filter vx_no, vx_ot w = true))
/-- a thrown E is caught at a place of the bytes, by the row of the table that names 'name': its handler stores it in the local lo, and goes on at pc2 -/
def fx_ht (own : String) (cc : ByteArray) (nL : Nat) (tb : List ExceptionTableEntry) (pc : Nat) (E : String) (pc2 lo : Nat) : Prop := ∃ (pre : List ExceptionTableEntry) (x : ExceptionTableEntry) (suf : List ExceptionTableEntry) (name : String), tb = pre ++ x :: suf ∧ (∀ z ∈ pre, covers z pc = false ∨ (z.catchType ≠ 0 ∧ Cond.classLink own z.catchType "java/util/NoSuchElementException" ∈ TB ∧ E = "java/lang/IllegalArgumentException")) ∧ covers x pc = true ∧ x.catchType ≠ 0 ∧ Cond.classLink own x.catchType name ∈ TB ∧ Cond.castable E name ∈ NB ∧ lo < nL ∧
  ((decode cc x.handlerPc = .ok (.astore lo, 2) ∧ pc2 = x.handlerPc + 2) ∨ ∃ k : Fin 4, decode cc x.handlerPc = .ok (.astore_n k, 1) ∧ (k : Nat) = lo ∧ pc2 = x.handlerPc + 1)
end
