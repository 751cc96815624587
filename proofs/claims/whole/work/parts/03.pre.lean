/-! ===== two definitions that the tables need ===== -/
def fx_nw : Cond → Bool
  | .methodLinkNest .. => true
  | .castable .. => true
  | .declares _ => true
  | _ => false
theorem fx_nw_warm {w : Cond} (hw : fx_nw w = true) {s U : State} (hW : s.WarmedH U.vm) (h : va_Nw w s) : va_Nw w U := by
  cases w <;> first | exact va_Nw.warmM hW h | exact va_Nw.warmC hW h | exact va_Nw.warmD hW h | (simp [fx_nw] at hw)
/-- a method's own word -/
def fx_cw (yy : Nat → MethodName) (bb : Nat → ByteArray) (nl : Nat → Nat) (rr : Nat → Option FieldType) (hh : Nat → List (Nat × Nat × Nat × Nat)) (k : Nat) : Cond := match hh k with
  | [] => .code (yy k) (bb k) (nl k) (rr k)
  | x :: t => .codeWith (yy k) (bb k) (nl k) (rr k) (x :: t)
/-- the kinds of arrays of numbers -/
def fx_tagA (t : ArrayType) : Nat := match t with
  | .byte => 0
  | .int => 1
  | .long => 2
  | _ => 9
