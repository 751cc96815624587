/-! ===== the rules once more, without a function in them (simp would walk inside it) ===== -/
section
variable (sc : Nat × (Nat → Int32)) (d : Nat) (hn : Nat → Option (Nat × Nat)) (cdm k : List Instr) (ls st : List Value) (h : fx_H) (n cc ss : Nat) (f : Nat → va_E) (Q : fx_R → Prop)
def wg_i (o : Option Value) : Prop := wl_i o (fun x => wC sc d hn cdm k ls (.int x :: st) h Q)
def wg_l (o : Option Value) : Prop := wl_l o (fun x => wC sc d hn cdm k ls (.long x :: st) h Q)
def wg_a (o : Option Value) : Prop := wl_a o (fun x => wC sc d hn cdm k ls (x :: st) h Q)
def wg_o (o : Option Value) : Prop := wl_o o (fun x => wC sc d hn cdm k ls (x :: st) h Q)
def wg_n (v : Nat) (e : Int) (o : Option Value) : Prop := wl_i o (fun x => wC sc d hn cdm k (fx_set ls v (.int (x + Int32.ofInt e))) st h Q)
def wg_f (c i : Nat) (e : va_E) : Prop := wl_f e c (fun fs => wl_o fs[i]? (fun v => wC sc d hn cdm k ls (v :: st) h Q))
def wg_s (c i t a : Nat) (v : Value) (e : va_E) : Prop := wl_f e c (fun fs => (i < fs.length ∧ fx_fit t v = true) ∧ wC sc d hn cdm k ls st (n, cc, ss, va_up f a (.inr (c, fs.set i v))) Q)
def wg_I (t : Nat) (j : Int32) (e : va_E) : Prop := wl_I e t (fun m g => fx_in j m = true ∧ wC sc d hn cdm k ls (.int (g j.toNatClampNeg) :: st) h Q)
def wg_L (j : Int32) (e : va_E) : Prop := wl_L e (fun m g => fx_in j m = true ∧ wC sc d hn cdm k ls (.long (g j.toNatClampNeg) :: st) h Q)
def wg_A (j : Int32) (e : va_E) : Prop := wl_A e (fun _ m g => fx_in j m = true ∧ wC sc d hn cdm k ls (fx_rf (g j.toNatClampNeg) :: st) h Q)
def wg_si (a : Nat) (j x : Int32) (e : va_E) : Prop := wl_I e 1 (fun m g => fx_in j m = true ∧ wC sc d hn cdm k ls st (n, cc, ss, va_up f a (.inl (1, m, .inl (upd g j.toNatClampNeg x)))) Q)
def wg_sb (a : Nat) (j x : Int32) (e : va_E) : Prop := wl_I e 0 (fun m g => fx_in j m = true ∧ wC sc d hn cdm k ls st (n, cc, ss, va_up f a (.inl (0, m, .inl (upd g j.toNatClampNeg (vp_nar .byte x))))) Q)
def wg_sl (a : Nat) (j : Int32) (x : Int64) (e : va_E) : Prop := wl_L e (fun m g => fx_in j m = true ∧ wC sc d hn cdm k ls st (n, cc, ss, va_up f a (.inl (2, m, .inr (.inl (vp_updL g j.toNatClampNeg x))))) Q)
def wg_m (e : va_E) : Prop := wl_n e (fun m => wC sc d hn cdm k ls (.int (nI m) :: st) h Q)
/-- a call: what it is of, its arguments, what lies below -/
def wg_c (m c sp : Nat) (L as : List Value) : Prop := match L with
  | .ref a :: rest => wi_c (f a) c ∧ fx_low rest = true ∧ wM sc d m (.ref a :: as) (n, cc, ss, f) (wK sc d hn cdm k ls rest sp Q)
  | _ => False
def wg_t (m : Nat) (L as : List Value) : Prop := match L with
  | .retAddr a :: rest => (a % 2 = 1 ∧ a / 2 < 18) ∧ fx_low rest = true ∧ wM sc d m (.retAddr a :: as) h (wK sc d hn cdm k ls rest 0 Q)
  | _ => False
end
section
variable {sc : Nat × (Nat → Int32)} {d : Nat} {hn : Nat → Option (Nat × Nat)} {cdm k : List Instr} {ls st : List Value} {h : fx_H} {n cc ss : Nat} {f : Nat → va_E} {Q : fx_R → Prop}
theorem wr_iload {v : Nat} : wC sc d hn cdm (.iload v :: k) ls st h Q ↔ wg_i sc d hn cdm k ls st h Q ls[v]? := wC_iload
theorem wr_lload {v : Nat} : wC sc d hn cdm (.lload v :: k) ls st h Q ↔ wg_l sc d hn cdm k ls st h Q ls[v]? := wC_lload
theorem wr_aload {v : Nat} : wC sc d hn cdm (.aload v :: k) ls st h Q ↔ wg_a sc d hn cdm k ls st h Q ls[v]? := wC_aload
theorem wr_iinc {v : Nat} {e : Int} : wC sc d hn cdm (.iinc v e :: k) ls st h Q ↔ wg_n sc d hn cdm k ls st h Q v e ls[v]? := wC_iinc
theorem wr_getf {x a : Nat} : wC sc d hn cdm (.getfield x :: k) ls (.ref a :: st) (n, cc, ss, f) Q ↔ wg_f sc d hn cdm k ls st (n, cc, ss, f) Q (x / 128) (x % 128 / 2) (f a) := wC_getf
theorem wr_putf {x a : Nat} {v : Value} : wC sc d hn cdm (.putfield x :: k) ls (v :: .ref a :: st) (n, cc, ss, f) Q ↔ wg_s sc d hn cdm k ls st n cc ss f Q (x / 128) (x % 128 / 2) (x % 2) a v (f a) := wC_putf
theorem wr_iaload {a : Nat} {j : Int32} : wC sc d hn cdm (.iaload :: k) ls (.int j :: .ref a :: st) (n, cc, ss, f) Q ↔ wg_I sc d hn cdm k ls st (n, cc, ss, f) Q 1 j (f a) := wC_iaload
theorem wr_baload {a : Nat} {j : Int32} : wC sc d hn cdm (.baload :: k) ls (.int j :: .ref a :: st) (n, cc, ss, f) Q ↔ wg_I sc d hn cdm k ls st (n, cc, ss, f) Q 0 j (f a) := wC_baload
theorem wr_laload {a : Nat} {j : Int32} : wC sc d hn cdm (.laload :: k) ls (.int j :: .ref a :: st) (n, cc, ss, f) Q ↔ wg_L sc d hn cdm k ls st (n, cc, ss, f) Q j (f a) := wC_laload
theorem wr_aaload {a : Nat} {j : Int32} : wC sc d hn cdm (.aaload :: k) ls (.int j :: .ref a :: st) (n, cc, ss, f) Q ↔ wg_A sc d hn cdm k ls st (n, cc, ss, f) Q j (f a) := wC_aaload
theorem wr_iastore {a : Nat} {j : Int32} {x : Int32} : wC sc d hn cdm (.iastore :: k) ls (.int x :: .int j :: .ref a :: st) (n, cc, ss, f) Q ↔ wg_si sc d hn cdm k ls st n cc ss f Q a j x (f a) := wC_iastore
theorem wr_bastore {a : Nat} {j : Int32} {x : Int32} : wC sc d hn cdm (.bastore :: k) ls (.int x :: .int j :: .ref a :: st) (n, cc, ss, f) Q ↔ wg_sb sc d hn cdm k ls st n cc ss f Q a j x (f a) := wC_bastore
theorem wr_lastore {a : Nat} {j : Int32} {x : Int64} : wC sc d hn cdm (.lastore :: k) ls (.long x :: .int j :: .ref a :: st) (n, cc, ss, f) Q ↔ wg_sl sc d hn cdm k ls st n cc ss f Q a j x (f a) := wC_lastore
theorem wr_alen {a : Nat} : wC sc d hn cdm (.arraylength :: k) ls (.ref a :: st) (n, cc, ss, f) Q ↔ wg_m sc d hn cdm k ls st (n, cc, ss, f) Q (f a) := wC_alen
theorem wr_ii {m x : Nat} : wC sc d hn cdm (.invokeinterface m x :: k) ls st (n, cc, ss, f) Q ↔ wg_c sc d hn cdm k ls n cc ss f Q m (x % 32) (x % 64 / 32) (st.drop (x / 64)) ((st.take (x / 64)).reverse) := wC_ii
theorem wr_is {m x : Nat} : wC sc d hn cdm (.multianewarray m x :: k) ls st h Q ↔ (x / 2 ≤ st.length ∧ fx_low (st.drop (x / 2)) = true ∧ wM sc d m ((st.take (x / 2)).reverse) h (wK sc d hn cdm k ls (st.drop (x / 2)) (x % 2) Q)) := wC_is
theorem wr_iv {x : Nat} : wC sc d hn cdm (.invokevirtual x :: k) ls st h Q ↔ wg_t sc d hn cdm k ls h Q (x / 16) (st.drop (x % 16)) ((st.take (x % 16)).reverse) := wC_iv
theorem wg_i_ {x : Int32} : wg_i sc d hn cdm k ls st h Q (some (.int x)) = wC sc d hn cdm k ls (.int x :: st) h Q := rfl
theorem wg_l_ {x : Int64} : wg_l sc d hn cdm k ls st h Q (some (.long x)) = wC sc d hn cdm k ls (.long x :: st) h Q := rfl
theorem wg_a1 {x : Nat} : wg_a sc d hn cdm k ls st h Q (some (.ref x)) = wC sc d hn cdm k ls (.ref x :: st) h Q := rfl
theorem wg_a2 {x : Nat} : wg_a sc d hn cdm k ls st h Q (some (.retAddr x)) = wC sc d hn cdm k ls (.retAddr x :: st) h Q := rfl
theorem wg_o_ {v : Value} : wg_o sc d hn cdm k ls st h Q (some v) = wC sc d hn cdm k ls (v :: st) h Q := rfl
theorem wg_n_ {v : Nat} {e : Int} {x : Int32} : wg_n sc d hn cdm k ls st h Q v e (some (.int x)) = wC sc d hn cdm k (fx_set ls v (.int (x + Int32.ofInt e))) st h Q := rfl
theorem wg_f_ {c i c2 : Nat} {fs : List Value} : wg_f sc d hn cdm k ls st h Q c i (.inr (c2, fs)) = (c2 = c ∧ wg_o sc d hn cdm k ls st h Q fs[i]?) := rfl
theorem wg_s_ {c i t a c2 : Nat} {v : Value} {fs : List Value} : wg_s sc d hn cdm k ls st n cc ss f Q c i t a v (.inr (c2, fs)) = (c2 = c ∧ (i < fs.length ∧ fx_fit t v = true) ∧ wC sc d hn cdm k ls st (n, cc, ss, va_up f a (.inr (c, fs.set i v))) Q) := rfl
theorem wg_I_ {t t2 m : Nat} {j : Int32} {g : Nat → Int32} : wg_I sc d hn cdm k ls st h Q t j (.inl (t2, m, .inl g)) = (t2 = t ∧ fx_in j m = true ∧ wC sc d hn cdm k ls (.int (g j.toNatClampNeg) :: st) h Q) := rfl
theorem wg_L_ {t2 m : Nat} {j : Int32} {g : Nat → Int64} : wg_L sc d hn cdm k ls st h Q j (.inl (t2, m, .inr (.inl g))) = (t2 = 2 ∧ fx_in j m = true ∧ wC sc d hn cdm k ls (.long (g j.toNatClampNeg) :: st) h Q) := rfl
theorem wg_A_ {t2 m : Nat} {j : Int32} {g : Nat → Option Nat} : wg_A sc d hn cdm k ls st h Q j (.inl (t2, m, .inr (.inr (.inr (.inr g))))) = ((t2 = 3 ∨ t2 = 4) ∧ fx_in j m = true ∧ wC sc d hn cdm k ls (fx_rf (g j.toNatClampNeg) :: st) h Q) := rfl
theorem wg_si_ {t2 m a : Nat} {j x : Int32} {g : Nat → Int32} : wg_si sc d hn cdm k ls st n cc ss f Q a j x (.inl (t2, m, .inl g)) = (t2 = 1 ∧ fx_in j m = true ∧ wC sc d hn cdm k ls st (n, cc, ss, va_up f a (.inl (1, m, .inl (upd g j.toNatClampNeg x)))) Q) := rfl
theorem wg_sb_ {t2 m a : Nat} {j x : Int32} {g : Nat → Int32} : wg_sb sc d hn cdm k ls st n cc ss f Q a j x (.inl (t2, m, .inl g)) = (t2 = 0 ∧ fx_in j m = true ∧ wC sc d hn cdm k ls st (n, cc, ss, va_up f a (.inl (0, m, .inl (upd g j.toNatClampNeg (vp_nar .byte x))))) Q) := rfl
theorem wg_sl_ {t2 m a : Nat} {j : Int32} {x : Int64} {g : Nat → Int64} : wg_sl sc d hn cdm k ls st n cc ss f Q a j x (.inl (t2, m, .inr (.inl g))) = (t2 = 2 ∧ fx_in j m = true ∧ wC sc d hn cdm k ls st (n, cc, ss, va_up f a (.inl (2, m, .inr (.inl (vp_updL g j.toNatClampNeg x))))) Q) := rfl
theorem wg_m_ {t m : Nat} {x : (Nat → Int32) ⊕ (Nat → Int64) ⊕ (Nat → UInt32) ⊕ (Nat → UInt64) ⊕ (Nat → Option Nat)} : wg_m sc d hn cdm k ls st h Q (.inl (t, m, x)) = (t < 5 ∧ wC sc d hn cdm k ls (.int (nI m) :: st) h Q) := rfl
theorem wg_c_ {m c sp a : Nat} {rest as : List Value} : wg_c sc d hn cdm k ls n cc ss f Q m c sp (.ref a :: rest) as = (wi_c (f a) c ∧ fx_low rest = true ∧ wM sc d m (.ref a :: as) (n, cc, ss, f) (wK sc d hn cdm k ls rest sp Q)) := rfl
theorem wg_t_ {m a : Nat} {rest as : List Value} : wg_t sc d hn cdm k ls h Q m (.retAddr a :: rest) as = ((a % 2 = 1 ∧ a / 2 < 18) ∧ fx_low rest = true ∧ wM sc d m (.retAddr a :: as) h (wK sc d hn cdm k ls rest 0 Q)) := rfl
end
