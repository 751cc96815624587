/-! ===== WHAT THE PLAIN MACHINE COMES TO: wM a call, wC a stretch of code; Q says it of the answer ===== -/
def wX (x : Nat → Nat → Option fx_R) (Q : fx_R → Prop) : Prop := ∃ r, Q r ∧ ∃ F0, ∀ F, F0 ≤ F → ∀ G, F0 ≤ G → x F G = some r
theorem wX_none {Q : fx_R → Prop} : wX (fun _ _ => none) Q ↔ False := ⟨fun ⟨_, _, F0, h⟩ => (by cases h F0 (Nat.le_refl _) F0 (Nat.le_refl _)), False.elim⟩
theorem wX_some {r : fx_R} {Q : fx_R → Prop} : wX (fun _ _ => some r) Q ↔ Q r := ⟨fun ⟨r2, hq, F0, h⟩ => by cases h F0 (Nat.le_refl _) F0 (Nat.le_refl _); exact hq, fun h => ⟨r, h, 0, fun _ _ _ _ => rfl⟩⟩
def wM (sc : Nat × (Nat → Int32)) (d m : Nat) (args : List Value) (h : fx_H) (Q : fx_R → Prop) : Prop := ∃ r, Q r ∧ ∃ F0, ∀ F, F0 ≤ F → fx_M sc pg_tx pg_df pg_cd pg_nl pg_hd F d m args h = some r
def wC (sc : Nat × (Nat → Int32)) (d : Nat) (hn : Nat → Option (Nat × Nat)) (cdm : List Instr) (code : List Instr) (ls st : List Value) (h : fx_H) (Q : fx_R → Prop) : Prop := wX (fun F G => fx_1 sc pg_tx pg_df (fx_M sc pg_tx pg_df pg_cd pg_nl pg_hd F d) hn (fx_J1 sc pg_tx pg_df (fx_M sc pg_tx pg_df pg_cd pg_nl pg_hd F d) hn cdm G) code ls st h) Q
/-- a value of a kind, handed on -/
def wl_i (v : Option Value) (f : Int32 → Prop) : Prop := match v with
  | some (.int x) => f x
  | _ => False
def wl_l (v : Option Value) (f : Int64 → Prop) : Prop := match v with
  | some (.long x) => f x
  | _ => False
def wl_a (v : Option Value) (f : Value → Prop) : Prop := match v with
  | some (.ref a) => f (.ref a)
  | some (.retAddr a) => f (.retAddr a)
  | _ => False
def wl_o (v : Option Value) (f : Value → Prop) : Prop := match v with
  | some w => f w
  | _ => False
/-- a cell's fields, an array's contents, handed on -/
def wl_f (e : va_E) (c : Nat) (f : List Value → Prop) : Prop := match e with
  | .inr (c2, fs) => c2 = c ∧ f fs
  | _ => False
def wl_I (e : va_E) (t : Nat) (f : Nat → (Nat → Int32) → Prop) : Prop := match e with
  | .inl (t2, n, .inl g) => t2 = t ∧ f n g
  | _ => False
def wl_L (e : va_E) (f : Nat → (Nat → Int64) → Prop) : Prop := match e with
  | .inl (t2, n, .inr (.inl g)) => t2 = 2 ∧ f n g
  | _ => False
def wl_A (e : va_E) (f : Nat → Nat → (Nat → Option Nat) → Prop) : Prop := match e with
  | .inl (t2, n, .inr (.inr (.inr (.inr g)))) => (t2 = 3 ∨ t2 = 4) ∧ f t2 n g
  | _ => False
def wl_n (e : va_E) (f : Nat → Prop) : Prop := match e with
  | .inl (t, n, _) => t < 5 ∧ f n
  | _ => False
theorem wl_i_ {x : Int32} {f : Int32 → Prop} : wl_i (some (.int x)) f = f x := rfl
theorem wl_l_ {x : Int64} {f : Int64 → Prop} : wl_l (some (.long x)) f = f x := rfl
theorem wl_a1 {a : Nat} {f : Value → Prop} : wl_a (some (.ref a)) f = f (.ref a) := rfl
theorem wl_a2 {a : Nat} {f : Value → Prop} : wl_a (some (.retAddr a)) f = f (.retAddr a) := rfl
theorem wl_o_ {v : Value} {f : Value → Prop} : wl_o (some v) f = f v := rfl
theorem wl_f_ {c c2 : Nat} {fs : List Value} {f : List Value → Prop} : wl_f (.inr (c2, fs)) c f = (c2 = c ∧ f fs) := rfl
theorem wl_I_ {t t2 n : Nat} {g : Nat → Int32} {f : Nat → (Nat → Int32) → Prop} : wl_I (.inl (t2, n, .inl g)) t f = (t2 = t ∧ f n g) := rfl
theorem wl_L_ {t2 n : Nat} {g : Nat → Int64} {f : Nat → (Nat → Int64) → Prop} : wl_L (.inl (t2, n, .inr (.inl g))) f = (t2 = 2 ∧ f n g) := rfl
theorem wl_A_ {t2 n : Nat} {g : Nat → Option Nat} {f : Nat → Nat → (Nat → Option Nat) → Prop} : wl_A (.inl (t2, n, .inr (.inr (.inr (.inr g))))) f = ((t2 = 3 ∨ t2 = 4) ∧ f t2 n g) := rfl
theorem wl_n_ {t n : Nat} {x : (Nat → Int32) ⊕ (Nat → Int64) ⊕ (Nat → UInt32) ⊕ (Nat → UInt64) ⊕ (Nat → Option Nat)} {f : Nat → Prop} : wl_n (.inl (t, n, x)) f = (t < 5 ∧ f n) := rfl
section
variable {sc : Nat × (Nat → Int32)} {d : Nat} {hn : Nat → Option (Nat × Nat)} {cdm k : List Instr} {ls st : List Value} {h : fx_H} {n cc ss : Nat} {f : Nat → va_E} {Q : fx_R → Prop}
theorem wM_enter {m : Nat} {args : List Value} (hl : (fx_words args).length ≤ pg_nl m) (hk : wC sc d (pg_hd m) (pg_cd m) (pg_cd m) (fx_ent args (pg_nl m)) [] h Q) : wM sc (d + 1) m args h Q := by
  obtain ⟨r, hq, F0, hk⟩ := hk
  refine ⟨r, hq, F0 + 1, fun F hF => ?_⟩
  obtain ⟨F2, rfl⟩ : ∃ F2, F = F2 + 1 := ⟨F - 1, by omega⟩
  simp only [fx_M]
  rw [if_pos hl]
  exact hk (F2 + 1) (by omega) F2 (by omega)
theorem wM_mono {m : Nat} {args : List Value} {Q2 : fx_R → Prop} (hk : wM sc d m args h Q) (hq : ∀ r, Q r → Q2 r) : wM sc d m args h Q2 := by
  obtain ⟨r, h1, h2⟩ := hk
  exact ⟨r, hq r h1, h2⟩
/-- what a call's answer is handed on to -/
def wK (sc : Nat × (Nat → Int32)) (d : Nat) (hn : Nat → Option (Nat × Nat)) (cdm k : List Instr) (ls rest : List Value) (sp : Nat) (Q : fx_R → Prop) (r : fx_R) : Prop := match r with
  | (.inl none, h) => wC sc d hn cdm k ls rest h Q
  | (.inl (some v), h) => wC sc d hn cdm k ls (v :: rest) h Q
  | (.inr g, h) => if sp = 1 then False else (match hn g with
    | some tg => wC sc d hn cdm (cdm.drop tg.1) (fx_set ls tg.2 fx_U) [] h Q
    | none => Q (.inr g, h))
theorem wK_v {rest : List Value} {sp : Nat} : wK sc d hn cdm k ls rest sp Q (.inl none, h) = wC sc d hn cdm k ls rest h Q := rfl
theorem wK_r {rest : List Value} {sp : Nat} {v : Value} : wK sc d hn cdm k ls rest sp Q (.inl (some v), h) = wC sc d hn cdm k ls (v :: rest) h Q := rfl
theorem wC_then {rest : List Value} {sp m : Nat} {args : List Value} (hm : wM sc d m args h (wK sc d hn cdm k ls rest sp Q)) : wX (fun F G => fx_then hn (fx_J1 sc pg_tx pg_df (fx_M sc pg_tx pg_df pg_cd pg_nl pg_hd F d) hn cdm G) (fun st h => fx_1 sc pg_tx pg_df (fx_M sc pg_tx pg_df pg_cd pg_nl pg_hd F d) hn (fx_J1 sc pg_tx pg_df (fx_M sc pg_tx pg_df pg_cd pg_nl pg_hd F d) hn cdm G) k ls st h) ls rest (fx_only sp (fx_M sc pg_tx pg_df pg_cd pg_nl pg_hd F d m args h))) Q := by
  obtain ⟨r1, hq, F0, hF⟩ := hm
  obtain ⟨r1, h1⟩ := r1
  have ho : ∀ v, r1 = .inl v → ∀ F, F0 ≤ F → fx_only sp (fx_M sc pg_tx pg_df pg_cd pg_nl pg_hd F d m args h) = some (.inl v, h1) := by
    intro v hv F h9
    rw [hF F h9, hv]
    unfold fx_only
    split <;> rfl
  cases r1 with
  | inl v =>
    cases v with
    | none =>
      obtain ⟨r, hr, F1, hk⟩ := hq
      exact ⟨r, hr, F0 + F1, fun F a G b => by dsimp only; rw [ho _ rfl F (by omega)]; exact hk F (by omega) G (by omega)⟩
    | some v =>
      obtain ⟨r, hr, F1, hk⟩ := hq
      exact ⟨r, hr, F0 + F1, fun F a G b => by dsimp only; rw [ho _ rfl F (by omega)]; exact hk F (by omega) G (by omega)⟩
  | inr g =>
    have hq : (if sp = 1 then False else (match hn g with
      | some tg => wC sc d hn cdm (cdm.drop tg.1) (fx_set ls tg.2 fx_U) [] h1 Q
      | none => Q (.inr g, h1))) := hq
    by_cases hsp : sp = 1
    · rw [if_pos hsp] at hq; exact hq.elim
    · rw [if_neg hsp] at hq
      have ho : ∀ F, F0 ≤ F → fx_only sp (fx_M sc pg_tx pg_df pg_cd pg_nl pg_hd F d m args h) = some (.inr g, h1) := by
        intro F h9
        rw [hF F h9]
        unfold fx_only
        rw [if_neg hsp]
      cases hg : hn g with
      | none =>
        rw [hg] at hq
        exact ⟨_, hq, F0, fun F a G b => by dsimp only; rw [ho F a]; simp [fx_then, hg]⟩
      | some tg =>
        rw [hg] at hq
        obtain ⟨r, hr, F1, hk⟩ := hq
        refine ⟨r, hr, F0 + F1 + 1, fun F a G b => ?_⟩
        dsimp only
        rw [ho F (by omega)]
        obtain ⟨G2, rfl⟩ : ∃ G2, G = G2 + 1 := ⟨G - 1, by omega⟩
        simp only [fx_then, hg]
        exact hk F (by omega) G2 (by omega)
theorem wC_inst {m x a c : Nat} {fs rest : List Value} (hst : st.drop (x / 64) = .ref a :: rest) (he : f a = .inr (c, fs)) (hc : c = x % 32) (hl : fx_low rest = true) (hm : wM sc d m (.ref a :: (st.take (x / 64)).reverse) (n, cc, ss, f) (wK sc d hn cdm k ls rest (x % 64 / 32) Q)) : wC sc d hn cdm (.invokeinterface m x :: k) ls st (n, cc, ss, f) Q := by
  have := wC_then hm
  unfold wC
  simp only [fx_1, hst, he, hc, hl, and_self, if_true]
  exact this
theorem wC_text {x a : Nat} {rest : List Value} (hst : st.drop (x % 16) = .retAddr a :: rest) (ha : a % 2 = 1) (hlt : a / 2 < 18) (hl : fx_low rest = true) (hm : wM sc d (x / 16) (.retAddr a :: (st.take (x % 16)).reverse) h (wK sc d hn cdm k ls rest 0 Q)) : wC sc d hn cdm (.invokevirtual x :: k) ls st h Q := by
  have := wC_then hm
  unfold wC
  simp only [fx_1, hst, ha, hl, show a / 2 < pg_tx.length from hlt, and_self, if_true]
  exact this
theorem wC_stat {m x : Nat} (hst : x / 2 ≤ st.length) (hl : fx_low (st.drop (x / 2)) = true) (hm : wM sc d m (st.take (x / 2)).reverse h (wK sc d hn cdm k ls (st.drop (x / 2)) (x % 2) Q)) : wC sc d hn cdm (.multianewarray m x :: k) ls st h Q := by
  have := wC_then hm
  unfold wC
  simp only [fx_1, hst, hl, and_self, if_true]
  exact this
theorem wC_goto {t : Int} : wC sc d hn cdm (.goto t :: k) ls st h Q ↔ wC sc d hn cdm (cdm.drop t.toNat) ls st h Q := by
  constructor
  · rintro ⟨r, hq, F0, hk⟩
    exact ⟨r, hq, F0, fun F hF G hG => hk F hF (G + 1) (by omega)⟩
  · rintro ⟨r, hq, F0, hk⟩
    refine ⟨r, hq, F0 + 1, fun F hF G hG => ?_⟩
    obtain ⟨G2, rfl⟩ : ∃ G2, G = G2 + 1 := ⟨G - 1, by omega⟩
    exact hk F (by omega) G2 (by omega)
theorem wC_iconst {v : Int} : wC sc d hn cdm (.iconst v :: k) ls (st) h Q ↔ wC sc d hn cdm k ls (.int (Int32.ofInt v) :: st) h Q := Iff.rfl
theorem wC_ldc2 {v : Nat} : wC sc d hn cdm (.ldc2_w v :: k) ls (st) h Q ↔ wC sc d hn cdm k ls (.long (Int64.ofNat v) :: st) h Q := Iff.rfl
theorem wC_ldc {v : Nat} : wC sc d hn cdm (.ldc v :: k) ls (st) h Q ↔ wC sc d hn cdm k ls (.retAddr (2 * v + 1) :: st) h Q := Iff.rfl
theorem wC_getstatic {v : Nat} : wC sc d hn cdm (.getstatic v :: k) ls (st) h Q ↔ wC sc d hn cdm k ls ((if v = 0 then .int 1 else .float 0) :: st) h Q := Iff.rfl
theorem wC_iadd {x y : Int32} : wC sc d hn cdm (.iadd :: k) ls (.int y :: .int x :: st) h Q ↔ wC sc d hn cdm k ls (.int (x + y) :: st) h Q := Iff.rfl
theorem wC_isub {x y : Int32} : wC sc d hn cdm (.isub :: k) ls (.int y :: .int x :: st) h Q ↔ wC sc d hn cdm k ls (.int (x - y) :: st) h Q := Iff.rfl
theorem wC_imul {x y : Int32} : wC sc d hn cdm (.imul :: k) ls (.int y :: .int x :: st) h Q ↔ wC sc d hn cdm k ls (.int (x * y) :: st) h Q := Iff.rfl
theorem wC_iand {x y : Int32} : wC sc d hn cdm (.iand :: k) ls (.int y :: .int x :: st) h Q ↔ wC sc d hn cdm k ls (.int (x &&& y) :: st) h Q := Iff.rfl
theorem wC_ior {x y : Int32} : wC sc d hn cdm (.ior :: k) ls (.int y :: .int x :: st) h Q ↔ wC sc d hn cdm k ls (.int (x ||| y) :: st) h Q := Iff.rfl
theorem wC_ixor {x y : Int32} : wC sc d hn cdm (.ixor :: k) ls (.int y :: .int x :: st) h Q ↔ wC sc d hn cdm k ls (.int (x ^^^ y) :: st) h Q := Iff.rfl
theorem wC_ishl {x y : Int32} : wC sc d hn cdm (.ishl :: k) ls (.int y :: .int x :: st) h Q ↔ wC sc d hn cdm k ls (.int (x <<< (y &&& 31)) :: st) h Q := Iff.rfl
theorem wC_ishr {x y : Int32} : wC sc d hn cdm (.ishr :: k) ls (.int y :: .int x :: st) h Q ↔ wC sc d hn cdm k ls (.int (x >>> (y &&& 31)) :: st) h Q := Iff.rfl
theorem wC_iushr {x y : Int32} : wC sc d hn cdm (.iushr :: k) ls (.int y :: .int x :: st) h Q ↔ wC sc d hn cdm k ls (.int ((x.toUInt32 >>> (y.toUInt32 &&& Int32.toUInt32 31)).toInt32) :: st) h Q := Iff.rfl
theorem wC_ladd {x y : Int64} : wC sc d hn cdm (.ladd :: k) ls (.long y :: .long x :: st) h Q ↔ wC sc d hn cdm k ls (.long (x + y) :: st) h Q := Iff.rfl
theorem wC_lmul {x y : Int64} : wC sc d hn cdm (.lmul :: k) ls (.long y :: .long x :: st) h Q ↔ wC sc d hn cdm k ls (.long (x * y) :: st) h Q := Iff.rfl
theorem wC_land {x y : Int64} : wC sc d hn cdm (.land :: k) ls (.long y :: .long x :: st) h Q ↔ wC sc d hn cdm k ls (.long (x &&& y) :: st) h Q := Iff.rfl
theorem wC_lcmp {x y : Int64} : wC sc d hn cdm (.lcmp :: k) ls (.long y :: .long x :: st) h Q ↔ wC sc d hn cdm k ls (.int (lg_cmp x y) :: st) h Q := Iff.rfl
theorem wC_lshl {x : Int64} {y : Int32} : wC sc d hn cdm (.lshl :: k) ls (.int y :: .long x :: st) h Q ↔ wC sc d hn cdm k ls (.long (x <<< (y.toInt64 &&& 63)) :: st) h Q := Iff.rfl
theorem wC_lshr {x : Int64} {y : Int32} : wC sc d hn cdm (.lshr :: k) ls (.int y :: .long x :: st) h Q ↔ wC sc d hn cdm k ls (.long (x >>> (y.toInt64 &&& 63)) :: st) h Q := Iff.rfl
theorem wC_i2l {x : Int32} : wC sc d hn cdm (.i2l :: k) ls (.int x :: st) h Q ↔ wC sc d hn cdm k ls (.long x.toInt64 :: st) h Q := Iff.rfl
theorem wC_i2b {x : Int32} : wC sc d hn cdm (.i2b :: k) ls (.int x :: st) h Q ↔ wC sc d hn cdm k ls (.int x.toInt8.toInt32 :: st) h Q := Iff.rfl
theorem wC_i2c {x : Int32} : wC sc d hn cdm (.i2c :: k) ls (.int x :: st) h Q ↔ wC sc d hn cdm k ls (.int (x.toUInt32 % 65536).toInt32 :: st) h Q := Iff.rfl
theorem wC_popi {x : Int32} : wC sc d hn cdm (.pop :: k) ls (.int x :: st) h Q ↔ wC sc d hn cdm k ls (st) h Q := Iff.rfl
theorem wC_popa {x : Nat} : wC sc d hn cdm (.pop :: k) ls (.ref x :: st) h Q ↔ wC sc d hn cdm k ls (st) h Q := Iff.rfl
theorem wC_dupi {x : Int32} : wC sc d hn cdm (.dup :: k) ls (.int x :: st) h Q ↔ wC sc d hn cdm k ls (.int x :: .int x :: st) h Q := Iff.rfl
theorem wC_dupa {x : Nat} : wC sc d hn cdm (.dup :: k) ls (.ref x :: st) h Q ↔ wC sc d hn cdm k ls (.ref x :: .ref x :: st) h Q := Iff.rfl
theorem wC_dup2 {x : Int32} {a : Nat} : wC sc d hn cdm (.dup2 :: k) ls (.int x :: .ref a :: st) h Q ↔ wC sc d hn cdm k ls (.int x :: .ref a :: .int x :: .ref a :: st) h Q := Iff.rfl
theorem wC_idiv {x y : Int32} : wC sc d hn cdm (.idiv :: k) ls (.int y :: .int x :: st) h Q ↔ (¬ y = 0 ∧ wC sc d hn cdm k ls (.int (x / y) :: st) h Q) := by
  unfold wC
  simp only [fx_1]
  by_cases hy : y = 0
  · simp only [hy, if_true, wX_none, not_true, false_and]
  · simp only [hy, if_false, not_false_iff, true_and]

theorem wC_irem {x y : Int32} : wC sc d hn cdm (.irem :: k) ls (.int y :: .int x :: st) h Q ↔ (¬ y = 0 ∧ wC sc d hn cdm k ls (.int (x - x / y * y) :: st) h Q) := by
  unfold wC
  simp only [fx_1]
  by_cases hy : y = 0
  · simp only [hy, if_true, wX_none, not_true, false_and]
  · simp only [hy, if_false, not_false_iff, true_and]

theorem wC_ldiv {x y : Int64} : wC sc d hn cdm (.ldiv :: k) ls (.long y :: .long x :: st) h Q ↔ (¬ y = 0 ∧ wC sc d hn cdm k ls (.long (x / y) :: st) h Q) := by
  unfold wC
  simp only [fx_1]
  by_cases hy : y = 0
  · simp only [hy, if_true, wX_none, not_true, false_and]
  · simp only [hy, if_false, not_false_iff, true_and]

theorem wC_lrem {x y : Int64} : wC sc d hn cdm (.lrem :: k) ls (.long y :: .long x :: st) h Q ↔ (¬ y = 0 ∧ wC sc d hn cdm k ls (.long (x - x / y * y) :: st) h Q) := by
  unfold wC
  simp only [fx_1]
  by_cases hy : y = 0
  · simp only [hy, if_true, wX_none, not_true, false_and]
  · simp only [hy, if_false, not_false_iff, true_and]

theorem wC_iload {v : Nat} : wC sc d hn cdm (.iload v :: k) ls st h Q ↔ wl_i ls[v]? (fun x => wC sc d hn cdm k ls (.int x :: st) h Q) := by
  unfold wC
  simp only [fx_1]
  cases hv : ls[v]? with
  | none => simp only [wX_none, wl_i]
  | some w => cases w <;> simp only [wX_none, wl_i]

theorem wC_lload {v : Nat} : wC sc d hn cdm (.lload v :: k) ls st h Q ↔ wl_l ls[v]? (fun x => wC sc d hn cdm k ls (.long x :: st) h Q) := by
  unfold wC
  simp only [fx_1]
  cases hv : ls[v]? with
  | none => simp only [wX_none, wl_l]
  | some w => cases w <;> simp only [wX_none, wl_l]

theorem wC_aload {v : Nat} : wC sc d hn cdm (.aload v :: k) ls st h Q ↔ wl_a ls[v]? (fun x => wC sc d hn cdm k ls (x :: st) h Q) := by
  unfold wC
  simp only [fx_1]
  cases hv : ls[v]? with
  | none => simp only [wX_none, wl_a]
  | some w => cases w <;> simp only [wX_none, wl_a, fx_isA, if_true, if_false, Bool.false_eq_true]

theorem wC_istore {v : Nat} {x : Int32} : wC sc d hn cdm (.istore v :: k) ls (.int x :: st) h Q ↔ (v < ls.length ∧ wC sc d hn cdm k (fx_set ls v (.int x)) st h Q) := by
  unfold wC
  simp only [fx_1]
  by_cases hv : v < ls.length
  · simp only [hv, if_true, true_and]
  · simp only [hv, if_false, wX_none, false_and]

theorem wC_astore {v : Nat} {x : Nat} : wC sc d hn cdm (.astore v :: k) ls (.ref x :: st) h Q ↔ (v < ls.length ∧ wC sc d hn cdm k (fx_set ls v (.ref x)) st h Q) := by
  unfold wC
  simp only [fx_1]
  by_cases hv : v < ls.length
  · simp only [hv, if_true, true_and]
  · simp only [hv, if_false, wX_none, false_and]

theorem wC_lstore {v : Nat} {x : Int64} : wC sc d hn cdm (.lstore v :: k) ls (.long x :: st) h Q ↔ (v + 1 < ls.length ∧ wC sc d hn cdm k (fx_set (fx_set ls (v + 1) fx_U) v (.long x)) st h Q) := by
  unfold wC
  simp only [fx_1]
  by_cases hv : v + 1 < ls.length
  · simp only [hv, if_true, true_and]
  · simp only [hv, if_false, wX_none, false_and]

theorem wC_iinc {v : Nat} {e : Int} : wC sc d hn cdm (.iinc v e :: k) ls st h Q ↔ wl_i ls[v]? (fun x => wC sc d hn cdm k (fx_set ls v (.int (x + Int32.ofInt e))) st h Q) := by
  unfold wC
  simp only [fx_1]
  cases hv : ls[v]? with
  | none => simp only [wX_none, wl_i]
  | some w => cases w <;> simp only [wX_none, wl_i]

theorem wC_icmp_eq {t : Int} {x y : Int32} : wC sc d hn cdm (.if_icmp .eq t :: k) ls (.int y :: .int x :: st) h Q ↔ (if x = y then wC sc d hn cdm (cdm.drop t.toNat) ls st h Q else wC sc d hn cdm k ls st h Q) := by
  by_cases hc : x = y
  · rw [if_pos hc, ← wC_goto (k := k)]
    unfold wC
    simp only [fx_1, fx_cmp, decide_eq_true hc, if_true]
  · rw [if_neg hc]
    unfold wC
    simp only [fx_1, fx_cmp, decide_eq_false hc, if_false, Bool.false_eq_true]

theorem wC_icmp_ne {t : Int} {x y : Int32} : wC sc d hn cdm (.if_icmp .ne t :: k) ls (.int y :: .int x :: st) h Q ↔ (if x ≠ y then wC sc d hn cdm (cdm.drop t.toNat) ls st h Q else wC sc d hn cdm k ls st h Q) := by
  by_cases hc : x ≠ y
  · rw [if_pos hc, ← wC_goto (k := k)]
    unfold wC
    simp only [fx_1, fx_cmp, decide_eq_true hc, if_true]
  · rw [if_neg hc]
    unfold wC
    simp only [fx_1, fx_cmp, decide_eq_false hc, if_false, Bool.false_eq_true]

theorem wC_icmp_lt {t : Int} {x y : Int32} : wC sc d hn cdm (.if_icmp .lt t :: k) ls (.int y :: .int x :: st) h Q ↔ (if x < y then wC sc d hn cdm (cdm.drop t.toNat) ls st h Q else wC sc d hn cdm k ls st h Q) := by
  by_cases hc : x < y
  · rw [if_pos hc, ← wC_goto (k := k)]
    unfold wC
    simp only [fx_1, fx_cmp, decide_eq_true hc, if_true]
  · rw [if_neg hc]
    unfold wC
    simp only [fx_1, fx_cmp, decide_eq_false hc, if_false, Bool.false_eq_true]

theorem wC_icmp_ge {t : Int} {x y : Int32} : wC sc d hn cdm (.if_icmp .ge t :: k) ls (.int y :: .int x :: st) h Q ↔ (if y ≤ x then wC sc d hn cdm (cdm.drop t.toNat) ls st h Q else wC sc d hn cdm k ls st h Q) := by
  by_cases hc : y ≤ x
  · rw [if_pos hc, ← wC_goto (k := k)]
    unfold wC
    simp only [fx_1, fx_cmp, decide_eq_true hc, if_true]
  · rw [if_neg hc]
    unfold wC
    simp only [fx_1, fx_cmp, decide_eq_false hc, if_false, Bool.false_eq_true]

theorem wC_icmp_gt {t : Int} {x y : Int32} : wC sc d hn cdm (.if_icmp .gt t :: k) ls (.int y :: .int x :: st) h Q ↔ (if y < x then wC sc d hn cdm (cdm.drop t.toNat) ls st h Q else wC sc d hn cdm k ls st h Q) := by
  by_cases hc : y < x
  · rw [if_pos hc, ← wC_goto (k := k)]
    unfold wC
    simp only [fx_1, fx_cmp, decide_eq_true hc, if_true]
  · rw [if_neg hc]
    unfold wC
    simp only [fx_1, fx_cmp, decide_eq_false hc, if_false, Bool.false_eq_true]

theorem wC_icmp_le {t : Int} {x y : Int32} : wC sc d hn cdm (.if_icmp .le t :: k) ls (.int y :: .int x :: st) h Q ↔ (if x ≤ y then wC sc d hn cdm (cdm.drop t.toNat) ls st h Q else wC sc d hn cdm k ls st h Q) := by
  by_cases hc : x ≤ y
  · rw [if_pos hc, ← wC_goto (k := k)]
    unfold wC
    simp only [fx_1, fx_cmp, decide_eq_true hc, if_true]
  · rw [if_neg hc]
    unfold wC
    simp only [fx_1, fx_cmp, decide_eq_false hc, if_false, Bool.false_eq_true]

theorem wC_ifc_eq {t : Int} {x : Int32} : wC sc d hn cdm (.ifCond .eq t :: k) ls (.int x :: st) h Q ↔ (if x = 0 then wC sc d hn cdm (cdm.drop t.toNat) ls st h Q else wC sc d hn cdm k ls st h Q) := by
  by_cases hc : x = 0
  · rw [if_pos hc, ← wC_goto (k := k)]
    unfold wC
    simp only [fx_1, fx_cmp, decide_eq_true hc, if_true]
  · rw [if_neg hc]
    unfold wC
    simp only [fx_1, fx_cmp, decide_eq_false hc, if_false, Bool.false_eq_true]

theorem wC_ifc_ne {t : Int} {x : Int32} : wC sc d hn cdm (.ifCond .ne t :: k) ls (.int x :: st) h Q ↔ (if x ≠ 0 then wC sc d hn cdm (cdm.drop t.toNat) ls st h Q else wC sc d hn cdm k ls st h Q) := by
  by_cases hc : x ≠ 0
  · rw [if_pos hc, ← wC_goto (k := k)]
    unfold wC
    simp only [fx_1, fx_cmp, decide_eq_true hc, if_true]
  · rw [if_neg hc]
    unfold wC
    simp only [fx_1, fx_cmp, decide_eq_false hc, if_false, Bool.false_eq_true]

theorem wC_ifc_lt {t : Int} {x : Int32} : wC sc d hn cdm (.ifCond .lt t :: k) ls (.int x :: st) h Q ↔ (if x < 0 then wC sc d hn cdm (cdm.drop t.toNat) ls st h Q else wC sc d hn cdm k ls st h Q) := by
  by_cases hc : x < 0
  · rw [if_pos hc, ← wC_goto (k := k)]
    unfold wC
    simp only [fx_1, fx_cmp, decide_eq_true hc, if_true]
  · rw [if_neg hc]
    unfold wC
    simp only [fx_1, fx_cmp, decide_eq_false hc, if_false, Bool.false_eq_true]

theorem wC_ifc_ge {t : Int} {x : Int32} : wC sc d hn cdm (.ifCond .ge t :: k) ls (.int x :: st) h Q ↔ (if 0 ≤ x then wC sc d hn cdm (cdm.drop t.toNat) ls st h Q else wC sc d hn cdm k ls st h Q) := by
  by_cases hc : 0 ≤ x
  · rw [if_pos hc, ← wC_goto (k := k)]
    unfold wC
    simp only [fx_1, fx_cmp, decide_eq_true hc, if_true]
  · rw [if_neg hc]
    unfold wC
    simp only [fx_1, fx_cmp, decide_eq_false hc, if_false, Bool.false_eq_true]

theorem wC_ifc_gt {t : Int} {x : Int32} : wC sc d hn cdm (.ifCond .gt t :: k) ls (.int x :: st) h Q ↔ (if 0 < x then wC sc d hn cdm (cdm.drop t.toNat) ls st h Q else wC sc d hn cdm k ls st h Q) := by
  by_cases hc : 0 < x
  · rw [if_pos hc, ← wC_goto (k := k)]
    unfold wC
    simp only [fx_1, fx_cmp, decide_eq_true hc, if_true]
  · rw [if_neg hc]
    unfold wC
    simp only [fx_1, fx_cmp, decide_eq_false hc, if_false, Bool.false_eq_true]

theorem wC_ifc_le {t : Int} {x : Int32} : wC sc d hn cdm (.ifCond .le t :: k) ls (.int x :: st) h Q ↔ (if x ≤ 0 then wC sc d hn cdm (cdm.drop t.toNat) ls st h Q else wC sc d hn cdm k ls st h Q) := by
  by_cases hc : x ≤ 0
  · rw [if_pos hc, ← wC_goto (k := k)]
    unfold wC
    simp only [fx_1, fx_cmp, decide_eq_true hc, if_true]
  · rw [if_neg hc]
    unfold wC
    simp only [fx_1, fx_cmp, decide_eq_false hc, if_false, Bool.false_eq_true]

theorem wC_tab {e lo hi : Int} {ts : Array Int} {x : Int32} : wC sc d hn cdm (.tableswitch e lo hi ts :: k) ls (.int x :: st) h Q ↔ (if x.toInt < lo ∨ hi < x.toInt then wC sc d hn cdm (cdm.drop e.toNat) ls st h Q else ∃ t, ts[(x.toInt - lo).toNat]? = some t ∧ wC sc d hn cdm (cdm.drop t.toNat) ls st h Q) := by
  by_cases hc : x.toInt < lo ∨ hi < x.toInt
  · rw [if_pos hc, ← wC_goto (k := k)]
    unfold wC
    simp only [fx_1, hc, if_true]
  · rw [if_neg hc]
    cases hv : ts[(x.toInt - lo).toNat]? with
    | none =>
      unfold wC
      simp only [fx_1, hc, if_false, hv, wX_none]
      exact ⟨False.elim, fun ⟨_, q, _⟩ => by cases q⟩
    | some t =>
      have e1 : (∃ t2, some t = some t2 ∧ wC sc d hn cdm (cdm.drop t2.toNat) ls st h Q) ↔ wC sc d hn cdm (cdm.drop t.toNat) ls st h Q := ⟨fun ⟨_, q, w⟩ => by cases q; exact w, fun w => ⟨t, rfl, w⟩⟩
      rw [e1, ← wC_goto (k := k)]
      unfold wC
      simp only [fx_1, hc, if_false, hv]

theorem wC_getf {x a : Nat} : wC sc d hn cdm (.getfield x :: k) ls (.ref a :: st) (n, cc, ss, f) Q ↔ wl_f (f a) (x / 128) (fun fs => wl_o fs[x % 128 / 2]? (fun v => wC sc d hn cdm k ls (v :: st) (n, cc, ss, f) Q)) := by
  unfold wC
  simp only [fx_1]
  cases he : f a with
  | inl q => simp only [wX_none, wl_f]
  | inr q =>
    obtain ⟨c, fs⟩ := q
    by_cases hc : c = x / 128
    · cases hv : fs[x % 128 / 2]? with
      | none => simp only [hc, if_true, hv, wX_none, wl_f, wl_o, and_false]
      | some v => simp only [hc, if_true, hv, wl_f, wl_o, true_and]
    · simp only [hc, if_false, wX_none, wl_f, false_and]

theorem wC_putf {x a : Nat} {v : Value} : wC sc d hn cdm (.putfield x :: k) ls (v :: .ref a :: st) (n, cc, ss, f) Q ↔ wl_f (f a) (x / 128) (fun fs => (x % 128 / 2 < fs.length ∧ fx_fit (x % 2) v = true) ∧ wC sc d hn cdm k ls st (n, cc, ss, va_up f a (.inr (x / 128, fs.set (x % 128 / 2) v))) Q) := by
  unfold wC
  simp only [fx_1]
  cases he : f a with
  | inl q => simp only [wX_none, wl_f]
  | inr q =>
    obtain ⟨c, fs⟩ := q
    by_cases hc : c = x / 128
    · subst hc
      by_cases hv : x % 128 / 2 < fs.length ∧ fx_fit (x % 2) v = true
      · simp only [hv, and_self, if_true, wl_f, true_and]
      · simp only [hv, and_false, if_false, wX_none, wl_f, false_and]
    · simp only [hc, false_and, if_false, wX_none, wl_f]

theorem wC_iaload {a : Nat} {j : Int32} : wC sc d hn cdm (.iaload :: k) ls (.int j :: .ref a :: st) (n, cc, ss, f) Q ↔ wl_I (f a) 1 (fun m g => fx_in j m = true ∧ wC sc d hn cdm k ls (.int (g j.toNatClampNeg) :: st) (n, cc, ss, f) Q) := by
  unfold wC
  simp only [fx_1]
  cases he : f a with
  | inr q => simp only [wX_none, wl_I, wl_L, wl_A]
  | inl q =>
    obtain ⟨t, m, q⟩ := q
    rcases q with g | g | g | g | g <;> simp only [wX_none, wl_I, wl_L, wl_A]
    by_cases ht : t = 1
    · by_cases hj : fx_in j m = true
      · simp only [ht, hj, and_self, if_true, true_and]
      · simp only [ht, hj, and_false, if_false, wX_none, Bool.false_eq_true, false_and]
    · simp only [ht, false_and, if_false, wX_none]

theorem wC_baload {a : Nat} {j : Int32} : wC sc d hn cdm (.baload :: k) ls (.int j :: .ref a :: st) (n, cc, ss, f) Q ↔ wl_I (f a) 0 (fun m g => fx_in j m = true ∧ wC sc d hn cdm k ls (.int (g j.toNatClampNeg) :: st) (n, cc, ss, f) Q) := by
  unfold wC
  simp only [fx_1]
  cases he : f a with
  | inr q => simp only [wX_none, wl_I, wl_L, wl_A]
  | inl q =>
    obtain ⟨t, m, q⟩ := q
    rcases q with g | g | g | g | g <;> simp only [wX_none, wl_I, wl_L, wl_A]
    by_cases ht : t = 0
    · by_cases hj : fx_in j m = true
      · simp only [ht, hj, and_self, if_true, true_and]
      · simp only [ht, hj, and_false, if_false, wX_none, Bool.false_eq_true, false_and]
    · simp only [ht, false_and, if_false, wX_none]

theorem wC_laload {a : Nat} {j : Int32} : wC sc d hn cdm (.laload :: k) ls (.int j :: .ref a :: st) (n, cc, ss, f) Q ↔ wl_L (f a) (fun m g => fx_in j m = true ∧ wC sc d hn cdm k ls (.long (g j.toNatClampNeg) :: st) (n, cc, ss, f) Q) := by
  unfold wC
  simp only [fx_1]
  cases he : f a with
  | inr q => simp only [wX_none, wl_I, wl_L, wl_A]
  | inl q =>
    obtain ⟨t, m, q⟩ := q
    rcases q with g | g | g | g | g <;> simp only [wX_none, wl_I, wl_L, wl_A]
    by_cases ht : t = 2
    · by_cases hj : fx_in j m = true
      · simp only [ht, hj, and_self, if_true, true_and]
      · simp only [ht, hj, and_false, if_false, wX_none, Bool.false_eq_true, false_and]
    · simp only [ht, false_and, if_false, wX_none]

theorem wC_iastore {a : Nat} {j : Int32} {x : Int32} : wC sc d hn cdm (.iastore :: k) ls (.int x :: .int j :: .ref a :: st) (n, cc, ss, f) Q ↔ wl_I (f a) 1 (fun m g => fx_in j m = true ∧ wC sc d hn cdm k ls st (n, cc, ss, va_up f a (.inl (1, m, .inl (upd g j.toNatClampNeg x)))) Q) := by
  unfold wC
  simp only [fx_1]
  cases he : f a with
  | inr q => simp only [wX_none, wl_I, wl_L]
  | inl q =>
    obtain ⟨t, m, q⟩ := q
    rcases q with g | g | g | g | g <;> simp only [wX_none, wl_I, wl_L]
    by_cases ht : t = 1
    · subst ht
      by_cases hj : fx_in j m = true
      · simp only [hj, and_self, if_true, true_and]
      · simp only [hj, and_false, if_false, wX_none, Bool.false_eq_true, false_and]
    · simp only [ht, false_and, if_false, wX_none]

theorem wC_bastore {a : Nat} {j : Int32} {x : Int32} : wC sc d hn cdm (.bastore :: k) ls (.int x :: .int j :: .ref a :: st) (n, cc, ss, f) Q ↔ wl_I (f a) 0 (fun m g => fx_in j m = true ∧ wC sc d hn cdm k ls st (n, cc, ss, va_up f a (.inl (0, m, .inl (upd g j.toNatClampNeg (vp_nar .byte x))))) Q) := by
  unfold wC
  simp only [fx_1]
  cases he : f a with
  | inr q => simp only [wX_none, wl_I, wl_L]
  | inl q =>
    obtain ⟨t, m, q⟩ := q
    rcases q with g | g | g | g | g <;> simp only [wX_none, wl_I, wl_L]
    by_cases ht : t = 0
    · subst ht
      by_cases hj : fx_in j m = true
      · simp only [hj, and_self, if_true, true_and]
      · simp only [hj, and_false, if_false, wX_none, Bool.false_eq_true, false_and]
    · simp only [ht, false_and, if_false, wX_none]

theorem wC_lastore {a : Nat} {j : Int32} {x : Int64} : wC sc d hn cdm (.lastore :: k) ls (.long x :: .int j :: .ref a :: st) (n, cc, ss, f) Q ↔ wl_L (f a) (fun m g => fx_in j m = true ∧ wC sc d hn cdm k ls st (n, cc, ss, va_up f a (.inl (2, m, .inr (.inl (vp_updL g j.toNatClampNeg x))))) Q) := by
  unfold wC
  simp only [fx_1]
  cases he : f a with
  | inr q => simp only [wX_none, wl_I, wl_L]
  | inl q =>
    obtain ⟨t, m, q⟩ := q
    rcases q with g | g | g | g | g <;> simp only [wX_none, wl_I, wl_L]
    by_cases ht : t = 2
    · subst ht
      by_cases hj : fx_in j m = true
      · simp only [hj, and_self, if_true, true_and]
      · simp only [hj, and_false, if_false, wX_none, Bool.false_eq_true, false_and]
    · simp only [ht, false_and, if_false, wX_none]

theorem wC_aaload {a : Nat} {j : Int32} : wC sc d hn cdm (.aaload :: k) ls (.int j :: .ref a :: st) (n, cc, ss, f) Q ↔ wl_A (f a) (fun t m g => fx_in j m = true ∧ wC sc d hn cdm k ls (fx_rf (g j.toNatClampNeg) :: st) (n, cc, ss, f) Q) := by
  unfold wC
  simp only [fx_1]
  cases he : f a with
  | inr q => simp only [wX_none, wl_A]
  | inl q =>
    obtain ⟨t, m, q⟩ := q
    rcases q with g | g | g | g | g <;> simp only [wX_none, wl_A]
    by_cases ht : t = 3 ∨ t = 4
    · by_cases hj : fx_in j m = true
      · simp only [ht, hj, and_self, if_true, true_and]
      · simp only [ht, hj, and_false, if_false, wX_none, Bool.false_eq_true, false_and]
    · simp only [ht, false_and, if_false, wX_none]

theorem wC_alen {a : Nat} : wC sc d hn cdm (.arraylength :: k) ls (.ref a :: st) (n, cc, ss, f) Q ↔ wl_n (f a) (fun m => wC sc d hn cdm k ls (.int (Int32.ofNat m) :: st) (n, cc, ss, f) Q) := by
  unfold wC
  simp only [fx_1]
  cases he : f a with
  | inr q => simp only [wX_none, wl_n]
  | inl q =>
    obtain ⟨t, m, q⟩ := q
    by_cases ht : t < 5
    · simp only [wl_n, ht, if_true, true_and]
    · simp only [wl_n, ht, if_false, wX_none, false_and]

theorem wC_slen : wC sc d hn cdm (.arraylength :: k) ls (.retAddr 0 :: st) h Q ↔ wC sc d hn cdm k ls (.int (Int32.ofNat sc.1) :: st) h Q := Iff.rfl
theorem wC_sald {j : Int32} : wC sc d hn cdm (.faload :: k) ls (.int j :: .retAddr 0 :: st) h Q ↔ (fx_in j sc.1 = true ∧ wC sc d hn cdm k ls (.int (sc.2 j.toNatClampNeg) :: st) h Q) := by
  unfold wC
  simp only [fx_1]
  by_cases hj : fx_in j sc.1 = true
  · simp only [hj, if_true, true_and]
  · simp only [hj, if_false, wX_none, Bool.false_eq_true, false_and]

theorem wC_new {x : Nat} : wC sc d hn cdm (.new x :: k) ls st (n, cc, ss, f) Q ↔ (n = cc ∧ wC sc d hn cdm k ls (.ref n :: st) (n + 1, cc + 1, ss + (pg_df x).length, va_up f n (.inr (x, pg_df x))) Q) := by
  unfold wC
  simp only [fx_1]
  by_cases hj : n = cc
  · simp only [hj, if_true, true_and]
  · simp only [hj, if_false, wX_none, false_and]

theorem wC_newa {t : ArrayType} {x : Int32} : wC sc d hn cdm (.newarray t :: k) ls (.int x :: st) (n, cc, ss, f) Q ↔ (¬ (x < 0 ∨ 100000 < x.toNatClampNeg ∨ n ≠ cc) ∧ wC sc d hn cdm k ls (.ref n :: st) (n + 1, cc + 1, ss + x.toNatClampNeg, va_up f n (.inl (fx_tagA t, x.toNatClampNeg, fx_zero (fx_tagA t)))) Q) := by
  unfold wC
  simp only [fx_1]
  by_cases hj : x < 0 ∨ 100000 < x.toNatClampNeg ∨ n ≠ cc
  · simp only [hj, if_true, wX_none, not_true, false_and]
  · simp only [hj, if_false, not_false_iff, true_and]

theorem wC_newq {t : Nat} {x : Int32} : wC sc d hn cdm (.anewarray t :: k) ls (.int x :: st) (n, cc, ss, f) Q ↔ (¬ (x < 0 ∨ 100000 < x.toNatClampNeg ∨ n ≠ cc) ∧ wC sc d hn cdm k ls (.ref n :: st) (n + 1, cc + 1, ss + x.toNatClampNeg, va_up f n (.inl (t, x.toNatClampNeg, .inr (.inr (.inr (.inr (fun _ => none))))))) Q) := by
  unfold wC
  simp only [fx_1]
  by_cases hj : x < 0 ∨ 100000 < x.toNatClampNeg ∨ n ≠ cc
  · simp only [hj, if_true, wX_none, not_true, false_and]
  · simp only [hj, if_false, not_false_iff, true_and]

theorem wC_oinit {x a : Nat} : wC sc d hn cdm (.invokespecial x :: k) ls (.ref a :: st) h Q ↔ (fx_low st = true ∧ wC sc d hn cdm k ls st h Q) := by
  unfold wC
  simp only [fx_1]
  by_cases hj : fx_low st = true
  · simp only [hj, if_true, true_and]
  · simp only [hj, if_false, wX_none, Bool.false_eq_true, false_and]

theorem wC_math {v : Nat} {x y : Int32} : wC sc d hn cdm (.invokedynamic v :: k) ls (.int y :: .int x :: st) h Q ↔ (fx_low st = true ∧ wC sc d hn cdm k ls (.int (if v = 0 then (if x < y then y else x) else (if y < x then y else x)) :: st) h Q) := by
  unfold wC
  simp only [fx_1]
  by_cases hj : fx_low st = true
  · simp only [hj, if_true, true_and]
  · simp only [hj, if_false, wX_none, Bool.false_eq_true, false_and]

theorem wC_iret {x : Int32} : wC sc d hn cdm (.ireturn :: k) ls [.int x] h Q ↔ Q (.inl (some (.int x)), h) := wX_some
theorem wC_lret {x : Int64} : wC sc d hn cdm (.lreturn :: k) ls [.long x] h Q ↔ Q (.inl (some (.long x)), h) := wX_some
theorem wC_vret : wC sc d hn cdm (.return_ :: k) ls [] h Q ↔ Q (.inl none, h) := wX_some
theorem wC_zret {x : Int32} : wC sc d hn cdm (.freturn :: k) ls [.int x] h Q ↔ ((x = 0 ∨ x = 1) ∧ Q (.inl (some (.int x)), h)) := by
  unfold wC
  simp only [fx_1]
  by_cases hj : x = 0 ∨ x = 1
  · simp only [hj, if_true, true_and, wX_some]
  · simp only [hj, if_false, wX_none, false_and]

theorem wC_cret {x : Int32} : wC sc d hn cdm (.dreturn :: k) ls [.int x] h Q ↔ (narrow .char (.int x) = .int x ∧ Q (.inl (some (.int x)), h)) := by
  unfold wC
  simp only [fx_1]
  by_cases hj : narrow .char (.int x) = .int x
  · simp only [hj, if_true, true_and, wX_some]
  · simp only [hj, if_false, wX_none, false_and]

theorem wC_jsr {t : Int} : wC sc d hn cdm (.jsr t :: k) ls st (n, cc, ss, f) Q ↔ (fx_low st = true ∧ Q (.inr t.toNat, (n, cc + 1, ss + 6, f))) := by
  unfold wC
  simp only [fx_1]
  by_cases hj : fx_low st = true
  · simp only [hj, if_true, true_and, wX_some]
  · simp only [hj, if_false, wX_none, Bool.false_eq_true, false_and]

end
