/-! ===== what is asked of the tables, once ===== -/
section
variable (cl : List vw_C) (fty : Nat → Nat → FieldType) (TB NB : List Cond) (SL : List (String × Nat × String × Nat)) (yy : Nat → MethodName) (bb : Nat → ByteArray) (nl : Nat → Nat) (rr : Nat → Option FieldType) (na : Nat → Nat) (hh : Nat → List (Nat × Nat × Nat × Nat)) (xn : Nat → String)
variable (df : Nat → List Value) (cd : Nat → List Instr) (hd : Nat → Nat → Option (Nat × Nat)) (pcs : Nat → Nat → Nat) (nM : Nat)
/-- the classes -/
def fx_clOk : Prop := ∀ ci r, cl[ci]? = some r → ci ≠ 99 ∧ (∀ w ∈ u_ws r.1 r.2.1 r.2.2, w ∈ TB) ∧ (∀ k, k < r.2.2 → parseFieldDescriptor (r.2.1 k).2.2.1 = some (fty ci k)) ∧ (∀ a, a < r.2.2 → ∀ b, b < r.2.2 → a ≠ b → (r.2.1 a).2.1 ≠ (r.2.1 b).2.1) ∧ (df ci).length = r.2.2 ∧ ∀ (b0 : Nat) (ex : Nat → Nat) (j : Nat), j < r.2.2 → defaultValue (fty ci j) = vp_V ((df ci).map (fx_tr b0 ex)) j
/-- a call -/
def fx_isCall (ci : Instr) : Bool := match ci with
  | .invokeinterface _ _ => true
  | .invokevirtual _ => true
  | .multianewarray _ _ => true
  | _ => false
/-- one method: its code matches its bytes -/
def fx_mOk (k : Nat) : Prop := pcs k 0 = 0 ∧
  (∀ i ci, (cd k)[i]? = some ci → ∃ o len, decode (bb k) (pcs k i) = .ok (o, len) ∧ (pcs k (i + 1) = pcs k i + len ∨ ∃ t, ci = .jsr t) ∧ fx_mt cl fty TB NB SL yy bb nl rr na hh xn (yy k).cls ((yy k).name == "<init>") (rr k) (pcs k) i o len ci ∧ (∀ t y, ci = .jsr t → o = .new y → fx_jt TB NB SL (yy k).cls (bb k) (pcs k i) y (xn t.toNat) ∧ hh k = []) ∧
    (hh k ≠ [] → fx_isCall ci = true → ∀ g tg lo, hd k g = some (tg, lo) → (cd k).drop tg = [] ∨ fx_ht TB NB (yy k).cls (bb k) (nl k) (tableOf (hh k)) (pcs k i) (xn g) (pcs k tg) lo)) ∧
  (hh k = [] → ∀ g, hd k g = none) ∧ (hh k ≠ [] → ∀ g, hd k g ≠ none)
def fx_All : Prop := (∀ w ∈ NB, fx_nw w = true) ∧ (∀ w ∈ TB, goodWord w = true) ∧ fx_clOk cl fty TB df ∧ (∀ t, t = 3 ∨ t = 4 → ∃ r, cl[fx_elt t]? = some r ∧ r.1 = if t = 3 then "FogWatch$Scene" else "FogWatch$Story") ∧
  (Cond.instanceMethod Lib.objectInit ∈ TB ∧ Cond.code Lib.objectInit ⟨#[0xb1]⟩ 1 none ∈ TB)
def fx_Ms : Prop := (∀ k, k < nM → fx_ok TB yy bb nl rr na hh k ∧ fx_mOk cl fty TB NB SL yy bb nl rr na hh xn cd hd pcs k) ∧ (∀ k, nM ≤ k → cd k = [])
end
