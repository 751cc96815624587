/-! ===== what a method answers: an int, or a long ===== -/
def fx_vt (b : Bool) (x : Value) : Prop := match b with
  | true => ∃ v, x = .long v
  | false => ∃ v, x = .int v
def fx_rt (b : Bool) (r : fx_R) : Prop := (∃ g, r.1 = .inr g) ∨ ∃ x, r.1 = .inl (some x) ∧ fx_vt b x
def fx_nr (b : Bool) (ci : Instr) : Bool := match ci with
  | .ireturn => !b
  | .freturn => !b
  | .dreturn => !b
  | .lreturn => b
  | .return_ => false
  | _ => true
theorem fx_then_rt {b : Bool} {hn : Nat → Option (Nat × Nat)} {jump : fx_J} {go : List Value → fx_H → Option fx_R} {ls rest : List Value} {r : Option fx_R} {r2 : fx_R} (h2 : ∀ t ls st h r, jump t ls st h = some r → fx_rt b r) (h3 : ∀ st h r, go st h = some r → fx_rt b r) (hr : fx_then hn jump go ls rest r = some r2) : fx_rt b r2 := by
  unfold fx_then at hr
  split at hr
  · cases hr
  · exact h3 _ _ _ hr
  · exact h3 _ _ _ hr
  · split at hr
    · exact h2 _ _ _ _ _ hr
    · cases hr
      exact .inl ⟨_, rfl⟩
set_option maxHeartbeats 4000000 in
theorem fx_1_rt {b : Bool} {sc : Nat × (Nat → Int32)} {tx : List (List Int32)} {df : Nat → List Value} {call : fx_C} {hn : Nat → Option (Nat × Nat)} {jump : fx_J} (h2 : ∀ t ls st h r, jump t ls st h = some r → fx_rt b r) : ∀ (code : List Instr), code.all (fx_nr b) = true → ∀ (ls st : List Value) (h : fx_H) (r : fx_R), fx_1 sc tx df call hn jump code ls st h = some r → fx_rt b r
  | [], _, _, _, _, _, hr => by simp [fx_1] at hr
  | ci :: k, hc, ls, st, h, r, hr => by
    rw [List.all_cons, Bool.and_eq_true] at hc
    obtain ⟨hc1, hc2⟩ := hc
    have ih := fx_1_rt (sc := sc) (tx := tx) (df := df) (call := call) (hn := hn) h2 k hc2
    cases ci <;> simp only [fx_1, reduceCtorEq] at hr <;> (repeat' (split at hr)) <;> first
      | (cases hr; done)
      | exact ih _ _ _ _ hr
      | exact h2 _ _ _ _ _ hr
      | exact fx_then_rt h2 (fun st h r hq => ih _ _ _ _ hq) hr
      | (cases hr; exact .inl ⟨_, rfl⟩)
      | (cases hr; cases b <;> first | exact .inr ⟨_, rfl, _, rfl⟩ | exact absurd hc1 (by decide))
      | exact absurd hc1 (by simp [fx_nr])
theorem fx_J1_rt {b : Bool} {sc : Nat × (Nat → Int32)} {tx : List (List Int32)} {df : Nat → List Value} {call : fx_C} {hn : Nat → Option (Nat × Nat)} {code : List Instr} (hc : code.all (fx_nr b) = true) : ∀ (F t : Nat) (ls st : List Value) (h : fx_H) (r : fx_R), fx_J1 sc tx df call hn code F t ls st h = some r → fx_rt b r
  | 0, _, _, _, _, _, hr => by simp [fx_J1] at hr
  | F + 1, t, ls, st, h, r, hr => fx_1_rt (fun t ls st h r hq => fx_J1_rt hc F t ls st h r hq) (code.drop t) (List.all_eq_true.mpr (fun x hx => List.all_eq_true.mp hc x (List.mem_of_mem_drop hx))) ls st h r hr
theorem wM_rt {b : Bool} {sc : Nat × (Nat → Int32)} {d m : Nat} {args : List Value} {h0 : fx_H} {Q : fx_R → Prop} (hc : (pg_cd m).all (fx_nr b) = true) (h : wM sc d m args h0 Q) : wM sc d m args h0 (fun r => Q r ∧ fx_rt b r) := by
  obtain ⟨r, hq, F0, hF⟩ := h
  refine ⟨r, ⟨hq, ?_⟩, F0, hF⟩
  have hr := hF F0 (Nat.le_refl _)
  cases d with
  | zero => simp [fx_M] at hr
  | succ d =>
    simp only [fx_M] at hr
    split at hr
    · exact fx_J1_rt hc _ _ _ _ _ _ hr
    · cases hr
theorem mOK_rt {b : Bool} {sc : Nat × (Nat → Int32)} {D m : Nat} {as : List Value} {p : Pw} {E : Nat → Nat} {R : Oc → Prop} (hm : mOK sc D m as p E R) (hc : (pg_cd m).all (fx_nr b) = true) {n cc ss : Nat} {f : Nat → va_E} {I : Nat → Int32} {A : Nat → Nat → Int32} {L : Nat → Nat → Int64} {Q : fx_R → Prop} (hM : MI I A p) (hq : ∀ I' A' L' r x, MI I' A' r.1 → R r → mth I' x E r.2 → fx_vt b x → Q (.inl (some x), (n, cc, ss, mh f I' A' L'))) : wM sc D m (.ref 198 :: as) (n, cc, ss, mh f I A L) Q := by
  refine wM_mono (wM_rt hc (hm n cc ss f I A L (fun z => ∃ I' A' L' r x, MI I' A' r.1 ∧ R r ∧ mth I' x E r.2 ∧ z = (.inl (some x), (n, cc, ss, mh f I' A' L'))) hM (fun I' A' L' r x a1 a2 a3 => ⟨I', A', L', r, x, a1, a2, a3, rfl⟩))) ?_
  rintro z ⟨⟨I', A', L', r, x, a1, a2, a3, rfl⟩, hz⟩
  rcases hz with ⟨g, hg⟩ | ⟨y, hy, hv⟩
  · cases hg
  · cases hy
    exact hq I' A' L' r x a1 a2 a3 hv
/-! ===== shapes of outcomes ===== -/
def okR (Z : Value ⊕ Nat → Prop) (R : Oc → Prop) : Prop := ∀ r, R r → Z r.2
def zI (X : Nat → Prop) (o : Value ⊕ Nat) : Prop := (∃ v, o = .inl (.int v)) ∨ ∃ g, o = .inr g ∧ X g
def zL (X : Nat → Prop) (o : Value ⊕ Nat) : Prop := (∃ v, o = .inl (.long v)) ∨ ∃ g, o = .inr g ∧ X g
section
variable {Z : Value ⊕ Nat → Prop} {X : Nat → Prop} {p p' : Pw} {x : Int32} {lo hi : Nat} {K : Nat → Oc → Prop}
theorem okR_dR (h14 : Z (.inr 14)) (h : ∀ k, okR Z (K k)) : okR Z (dR x lo hi p K) := by
  rintro r (⟨-, rfl⟩ | ⟨k, -, -, -, -, hk⟩)
  · exact h14
  · exact h k r hk
theorem okR_dC (h13 : Z (.inr 13)) (h : ∀ k, okR Z (K k)) : okR Z (dC x p K) := by
  rintro r (⟨-, rfl⟩ | ⟨k, -, -, hk⟩)
  · exact h13
  · exact h k r hk
theorem okR_dM (h13 : Z (.inr 13)) (h : ∀ k, okR Z (K k)) : okR Z (dM x p K) := by
  rintro r (⟨-, rfl⟩ | ⟨k, -, -, hk⟩)
  · exact h13
  · exact h k r hk
theorem okR_eq {v : Int32} : okR (zI X) (fun r => r = (p', .inl (.int v))) := by
  rintro r rfl
  exact .inl ⟨v, rfl⟩
theorem okR_eqL {v : Int64} : okR (zL X) (fun r => r = (p', .inl (.long v))) := by
  rintro r rfl
  exact .inl ⟨v, rfl⟩
theorem okR_if {s : Nat} {R1 R2 : Oc → Prop} (h1 : okR Z R1) (h2 : okR Z R2) : okR Z (fun r => if s = 0 then R1 r else R2 r) := by
  intro r h
  by_cases hs : s = 0
  · simp only [hs, if_true] at h; exact h1 r h
  · simp only [hs, if_false] at h; exact h2 r h
theorem okR_ex {Y : Int32 → Prop} : okR (zI X) (fun r => ∃ o, Y o ∧ r = (p', .inl (.int o))) := by
  rintro r ⟨o, -, rfl⟩
  exact .inl ⟨o, rfl⟩
theorem okR_sr {s av : Nat} {K : Bf → Option Nat → Int32} : okR (zI X) (srR p s av K) := by
  rintro r ⟨n, rr, -, rfl⟩
  exact .inl ⟨_, rfl⟩
theorem uq_if {s : Nat} {R1 R2 : Oc → Prop} (h1 : uq R1) (h2 : uq R2) : uq (fun r => if s = 0 then R1 r else R2 r) := by
  intro r r' h h'
  by_cases hs : s = 0
  · simp only [hs, if_true] at h h'; exact h1 r r' h h'
  · simp only [hs, if_false] at h h'; exact h2 r r' h h'
theorem uq_ex {Y : Int32 → Prop} (h : ∀ v v', Y v → Y v' → v = v') : uq (fun r => ∃ o, Y o ∧ r = (p', .inl (.int o))) := by
  rintro r r' ⟨o, a, rfl⟩ ⟨o', b, rfl⟩
  rw [h o o' a b]
end
theorem tT_cg {F : Nat → Nat → Nat} {B : Nat → Nat} {k : Nat} {g g' : Nat → Int32} (h : ∀ a c, a < k → c < k → isT F B a c (g (a * 10 + c))) (h' : ∀ a c, a < k → c < k → isT F B a c (g' (a * 10 + c))) {a : Nat} (ha : a < k) : bs (fun c => g (a * 10 + c) == -1) k = bs (fun c => g' (a * 10 + c) == -1) k :=
  bs_cg k (fun c hc => by rw [isT_u (h a c ha hc) (h' a c ha hc)])
theorem ok_feed {p : Pw} {x1 x2 x3 x4 x5 : Int32} : okR (zI (fun _ => False)) (fun r => r = feedO p x1 x2 x3 x4 x5) := by rintro r rfl; unfold feedO; split <;> exact .inl ⟨_, rfl⟩
theorem uu_feed {p : Pw} {x1 x2 x3 x4 x5 : Int32} (hp : pw_ok p) : uq (fun r => r = feedO p x1 x2 x3 x4 x5) := uq_eq
theorem ok_town {p : Pw} {x : Int32} : okR (zI (fun g => g = 14)) (dR x 0 (min 600 p.fi + 1) p (townR p)) := okR_dR (.inr ⟨14, rfl, rfl⟩) (fun _ => by rintro r (⟨k, pl, -, rfl⟩ | ⟨z, -, rfl⟩) <;> exact .inl ⟨_, rfl⟩)
theorem uu_town {p : Pw} {x : Int32} (hp : pw_ok p) : uq (dR x 0 (min 600 p.fi + 1) p (townR p)) := uq_dR (fun k0 _ hk0 => uq_town)
theorem ok_law {p : Pw} {x : Int32} : okR (zI (fun g => g = 14)) (dR x 0 (min 150 p.fi + 1) p (lawR p)) := okR_dR (.inr ⟨14, rfl, rfl⟩) (fun _ => by rintro r (⟨k, pl, -, rfl⟩ | ⟨z, -, rfl⟩) <;> exact .inl ⟨_, rfl⟩)
theorem uu_law {p : Pw} {x : Int32} (hp : pw_ok p) : uq (dR x 0 (min 150 p.fi + 1) p (lawR p)) := uq_dR (fun k0 _ hk0 => uq_law)
theorem ok_work {p : Pw} {x : Int32} : okR (zI (fun g => g = 14)) (dR x 0 (min 150 p.fi + 1) p (workR p)) := okR_dR (.inr ⟨14, rfl, rfl⟩) (fun _ => by rintro r (⟨-, rfl⟩ | ⟨-, k, pl, -, rfl⟩ | ⟨-, q, cl, ml, G, -, rfl⟩) <;> exact .inl ⟨_, rfl⟩)
theorem uu_work {p : Pw} {x : Int32} (hp : pw_ok p) : uq (dR x 0 (min 150 p.fi + 1) p (workR p)) := uq_dR (fun k0 _ hk0 => uq_work)
theorem ok_song {p : Pw} {x : Int32} : okR (zI (fun g => g = 14)) (dR x 0 (min 60 p.fi + 1) p (songR p)) := okR_dR (.inr ⟨14, rfl, rfl⟩) (fun _ => by rintro r (⟨k, pl, -, rfl⟩ | ⟨z, -, rfl⟩) <;> exact .inl ⟨_, rfl⟩)
theorem uu_song {p : Pw} {x : Int32} (hp : pw_ok p) : uq (dR x 0 (min 60 p.fi + 1) p (songR p)) := uq_dR (fun k0 _ hk0 => uq_song)
theorem ok_book {p : Pw} {x : Int32} : okR (zI (fun g => g = 14)) (dR x 0 (min 60 p.fi + 1) p (bookR p)) := okR_dR (.inr ⟨14, rfl, rfl⟩) (fun _ => by rintro r (⟨k, pl, -, rfl⟩ | ⟨z, -, rfl⟩) <;> exact .inl ⟨_, rfl⟩)
theorem uu_book {p : Pw} {x : Int32} (hp : pw_ok p) : uq (dR x 0 (min 60 p.fi + 1) p (bookR p)) := uq_dR (fun k0 _ hk0 => uq_book)
theorem ok_fault {p : Pw} : okR (zI (fun _ => False)) (fun r => r = (p, .inl (.int p.fp))) := okR_eq
theorem uu_fault {p : Pw} (hp : pw_ok p) : uq (fun r => r = (p, .inl (.int p.fp))) := uq_eq
theorem ok_undo {p : Pw} : okR (zI (fun _ => False)) (fun r => r = undoO p) := by rintro r rfl; unfold undoO; split <;> exact .inl ⟨_, rfl⟩
theorem uu_undo {p : Pw} (hp : pw_ok p) : uq (fun r => r = undoO p) := uq_eq
theorem ok_told {p : Pw} {x : Int32} : okR (zI (fun g => g = 14)) (dR x 0 12 p (fun k r => r = (p, .inl (.int (toldV p k))))) := okR_dR (.inr ⟨14, rfl, rfl⟩) (fun _ => okR_eq)
theorem uu_told {p : Pw} {x : Int32} (hp : pw_ok p) : uq (dR x 0 12 p (fun k r => r = (p, .inl (.int (toldV p k))))) := uq_dR (fun k0 _ hk0 => uq_eq)
theorem ok_corner {p : Pw} {x x2 : Int32} : okR (zI (fun g => g = 13 ∨ g = 14)) (dC x p (fun c => dR x2 0 3 p (fun k r => r = (p, .inl (.int (cornV p c k)))))) := okR_dC (.inr ⟨13, rfl, .inl rfl⟩) (fun _ => okR_dR (.inr ⟨14, rfl, .inr rfl⟩) (fun _ => okR_eq))
theorem uu_corner {p : Pw} {x x2 : Int32} (hp : pw_ok p) : uq (dC x p (fun c => dR x2 0 3 p (fun k r => r = (p, .inl (.int (cornV p c k)))))) := uq_dC hp.2.1.1.1 (fun k0 hk0 => uq_dR (fun k1 _ hk1 => uq_eq))
theorem ok_way {p : Pw} {x x2 : Int32} : okR (zI (fun g => g = 13 ∨ g = 14)) (dC x p (fun c => dR x2 0 4 p (fun k r => r = (p, .inl (.int (nI (p.t.wy c k))))))) := okR_dC (.inr ⟨13, rfl, .inl rfl⟩) (fun _ => okR_dR (.inr ⟨14, rfl, .inr rfl⟩) (fun _ => okR_eq))
theorem uu_way {p : Pw} {x x2 : Int32} (hp : pw_ok p) : uq (dC x p (fun c => dR x2 0 4 p (fun k r => r = (p, .inl (.int (nI (p.t.wy c k))))))) := uq_dC hp.2.1.1.1 (fun k0 hk0 => uq_dR (fun k1 _ hk1 => uq_eq))
theorem ok_man {p : Pw} {x x2 : Int32} : okR (zI (fun g => g = 13 ∨ g = 14)) (dM x p (fun m => dR x2 0 4 p (fun k r => r = (p, .inl (.int (manV p m k)))))) := okR_dM (.inr ⟨13, rfl, .inl rfl⟩) (fun _ => okR_dR (.inr ⟨14, rfl, .inr rfl⟩) (fun _ => okR_eq))
theorem uu_man {p : Pw} {x x2 : Int32} (hp : pw_ok p) : uq (dM x p (fun m => dR x2 0 4 p (fun k r => r = (p, .inl (.int (manV p m k)))))) := uq_dM hp.2.1.1.2.1 (fun k0 hk0 => uq_dR (fun k1 _ hk1 => uq_eq))
theorem ok_cost {p : Pw} {x : Int32} : okR (zI (fun g => g = 14)) (dR x 0 4 p (fun k r => r = (p, .inl (.int (sn_pr p.C p.t.m p.y.1 k))))) := okR_dR (.inr ⟨14, rfl, rfl⟩) (fun _ => okR_eq)
theorem uu_cost {p : Pw} {x : Int32} (hp : pw_ok p) : uq (dR x 0 4 p (fun k r => r = (p, .inl (.int (sn_pr p.C p.t.m p.y.1 k))))) := uq_dR (fun k0 _ hk0 => uq_eq)
theorem ok_would {p : Pw} {x1 x2 x3 x4 x5 x6 x7 : Int32} : okR (zI (fun g => g = 14)) (dR x1 0 4 p (fun k1 => dR x2 0 1000 p (fun k2 => dR x3 0 1000 p (fun k3 => dR x4 0 11 p (fun k4 => dR x5 0 6 p (fun k5 => dR x6 0 401 p (fun k6 => dR x7 0 201 p (fun k7 r => r = (p, .inl (.int (cst p.C (nI k1) (nI k2) (nI k3) (nI k4) (nI k5) (nI k6) (nI k7)))))))))))) := okR_dR (.inr ⟨14, rfl, rfl⟩) (fun _ => okR_dR (.inr ⟨14, rfl, rfl⟩) (fun _ => okR_dR (.inr ⟨14, rfl, rfl⟩) (fun _ => okR_dR (.inr ⟨14, rfl, rfl⟩) (fun _ => okR_dR (.inr ⟨14, rfl, rfl⟩) (fun _ => okR_dR (.inr ⟨14, rfl, rfl⟩) (fun _ => okR_dR (.inr ⟨14, rfl, rfl⟩) (fun _ => okR_eq)))))))
theorem uu_would {p : Pw} {x1 x2 x3 x4 x5 x6 x7 : Int32} (hp : pw_ok p) : uq (dR x1 0 4 p (fun k1 => dR x2 0 1000 p (fun k2 => dR x3 0 1000 p (fun k3 => dR x4 0 11 p (fun k4 => dR x5 0 6 p (fun k5 => dR x6 0 401 p (fun k6 => dR x7 0 201 p (fun k7 r => r = (p, .inl (.int (cst p.C (nI k1) (nI k2) (nI k3) (nI k4) (nI k5) (nI k6) (nI k7)))))))))))) := uq_dR (fun k0 _ hk0 => uq_dR (fun k1 _ hk1 => uq_dR (fun k2 _ hk2 => uq_dR (fun k3 _ hk3 => uq_dR (fun k4 _ hk4 => uq_dR (fun k5 _ hk5 => uq_dR (fun k6 _ hk6 => uq_eq)))))))
theorem ok_ahead {p : Pw} {x x2 : Int32} : okR (zI (fun g => g = 14)) (dR x 0 100 p (fun m => dR x2 0 2 p (fun k r => r = (p, .inl (.int (aheadV p m k)))))) := okR_dR (.inr ⟨14, rfl, rfl⟩) (fun _ => okR_dR (.inr ⟨14, rfl, rfl⟩) (fun _ => okR_eq))
theorem uu_ahead {p : Pw} {x x2 : Int32} (hp : pw_ok p) : uq (dR x 0 100 p (fun m => dR x2 0 2 p (fun k r => r = (p, .inl (.int (aheadV p m k)))))) := uq_dR (fun k0 _ hk0 => uq_dR (fun k1 _ hk1 => uq_eq))
theorem ok_goes {p : Pw} {x : Int32} : okR (zI (fun g => g = 14)) (dR x 0 (2 ^ p.t.k) p (fun s r => r = (p, .inl (.int (nI (goN (brT p.t p.y.1.fo) p.so.2 s p.so.1)))))) := okR_dR (.inr ⟨14, rfl, rfl⟩) (fun _ => okR_eq)
theorem uu_goes {p : Pw} {x : Int32} (hp : pw_ok p) : uq (dR x 0 (2 ^ p.t.k) p (fun s r => r = (p, .inl (.int (nI (goN (brT p.t p.y.1.fo) p.so.2 s p.so.1)))))) := uq_dR (fun k0 _ hk0 => uq_eq)
theorem ok_reset {p : Pw} {x x2 : Int32} : okR (zI (fun g => g = 14)) (dR x 0 (2 ^ p.t.k) p (fun s => dR x2 0 2 p (fun q r => if s = 0 then r = (p, .inl (.int (if q = 0 then nI 0 else -1))) else srR p s 0 (fun b rr => if q = 0 then ga_len b rr else meetV b rr) r))) := okR_dR (.inr ⟨14, rfl, rfl⟩) (fun _ => okR_dR (.inr ⟨14, rfl, rfl⟩) (fun _ => okR_if okR_eq okR_sr))
theorem uu_reset {p : Pw} {x x2 : Int32} (hp : pw_ok p) : uq (dR x 0 (2 ^ p.t.k) p (fun s => dR x2 0 2 p (fun q r => if s = 0 then r = (p, .inl (.int (if q = 0 then nI 0 else -1))) else srR p s 0 (fun b rr => if q = 0 then ga_len b rr else meetV b rr) r))) := uq_dR (fun k0 _ hk0 => uq_dR (fun k1 _ hk1 => uq_if uq_eq (uq_sr hp hk0 (fun n e rr hb => by have a := sr_st hp hk0 (e := e) hb 0; by_cases hq : k1 = 0 <;> simp only [hq, if_true, if_false] <;> first | exact a.1 | exact a.2.1))))
theorem ok_row {p : Pw} {x x2 : Int32} : okR (zI (fun g => g = 14)) (dR x 0 (2 ^ p.t.k) p (fun s => dR x2 0 2147483648 p (fun q r => if s = 0 then r = (p, .inl (.int (-1))) else srR p s 0 (fun b rr => ga_wh b rr q) r))) := okR_dR (.inr ⟨14, rfl, rfl⟩) (fun _ => okR_dR (.inr ⟨14, rfl, rfl⟩) (fun _ => okR_if okR_eq okR_sr))
theorem uu_row {p : Pw} {x x2 : Int32} (hp : pw_ok p) : uq (dR x 0 (2 ^ p.t.k) p (fun s => dR x2 0 2147483648 p (fun q r => if s = 0 then r = (p, .inl (.int (-1))) else srR p s 0 (fun b rr => ga_wh b rr q) r))) := uq_dR (fun k0 _ hk0 => uq_dR (fun k1 _ hk1 => uq_if uq_eq (uq_sr hp hk0 (fun n e rr hb => (sr_st hp hk0 (e := e) hb k1).2.2))))
theorem ok_home {p : Pw} {x x2 : Int32} : okR (zI (fun g => g = 13 ∨ g = 14)) (dC x2 p (fun c => dR x 0 (2 ^ p.t.k) p (fun s r => if s = 0 then r = (p, .inl (.int (nI 0))) else srR p s (2 ^ c) (fun b rr => ga_len b rr) r))) := okR_dC (.inr ⟨13, rfl, .inl rfl⟩) (fun _ => okR_dR (.inr ⟨14, rfl, .inr rfl⟩) (fun _ => okR_if okR_eq okR_sr))
theorem uu_home {p : Pw} {x x2 : Int32} (hp : pw_ok p) : uq (dC x2 p (fun c => dR x 0 (2 ^ p.t.k) p (fun s r => if s = 0 then r = (p, .inl (.int (nI 0))) else srR p s (2 ^ c) (fun b rr => ga_len b rr) r))) := uq_dC hp.2.1.1.1 (fun k0 hk0 => uq_dR (fun k1 _ hk1 => uq_if uq_eq (uq_sr hp hk1 (fun n e rr hb => (sr_st hp hk1 (e := e) hb 0).1))))
theorem ok_cheap {p : Pw} {x : Int32} : okR (zI (fun g => g = 14)) (dR x 0 (2 ^ p.t.k) p (fun s r => if s = 0 then r = (p, .inl (.int (nI 0))) else ∃ o, isC (brT p.t p.y.1.fo) p.pr s p.t.k o ∧ r = (p, .inl (.int o)))) := okR_dR (.inr ⟨14, rfl, rfl⟩) (fun _ => okR_if okR_eq okR_ex)
theorem uu_cheap {p : Pw} {x : Int32} (hp : pw_ok p) : uq (dR x 0 (2 ^ p.t.k) p (fun s r => if s = 0 then r = (p, .inl (.int (nI 0))) else ∃ o, isC (brT p.t p.y.1.fo) p.pr s p.t.k o ∧ r = (p, .inl (.int o)))) := uq_dR (fun k0 _ hk0 => uq_if uq_eq (uq_ex (fun v v' => isC_u)))
theorem ok_apart {p : Pw} {x x2 : Int32} : okR (zI (fun g => g = 13)) (dC x p (fun a => dC x2 p (fun c r => ∃ o, isT p.F p.t.bl a c o ∧ r = (p, .inl (.int o))))) := okR_dC (.inr ⟨13, rfl, rfl⟩) (fun _ => okR_dC (.inr ⟨13, rfl, rfl⟩) (fun _ => okR_ex))
theorem uu_apart {p : Pw} {x x2 : Int32} (hp : pw_ok p) : uq (dC x p (fun a => dC x2 p (fun c r => ∃ o, isT p.F p.t.bl a c o ∧ r = (p, .inl (.int o))))) := uq_dC hp.2.1.1.1 (fun k0 hk0 => uq_dC hp.2.1.1.1 (fun k1 hk1 => uq_ex (fun v v' => isT_u)))
theorem ok_alike {p : Pw} {x : Int32} : okR (zI (fun g => g = 13)) (dC x p (fun a r => ∃ g : Nat → Int32, (∀ a c, a < p.t.k → c < p.t.k → isT p.F p.t.bl a c (g (a * 10 + c))) ∧ r = (p, .inl (.int (nI (bs (fun c => g (a * 10 + c) == -1) p.t.k)))))) := okR_dC (.inr ⟨13, rfl, rfl⟩) (fun _ => by rintro r ⟨g, -, rfl⟩; exact .inl ⟨_, rfl⟩)
theorem uu_alike {p : Pw} {x : Int32} (hp : pw_ok p) : uq (dC x p (fun a r => ∃ g : Nat → Int32, (∀ a c, a < p.t.k → c < p.t.k → isT p.F p.t.bl a c (g (a * 10 + c))) ∧ r = (p, .inl (.int (nI (bs (fun c => g (a * 10 + c) == -1) p.t.k)))))) := uq_dC hp.2.1.1.1 (fun k0 hk0 => by rintro r r' ⟨g, a, rfl⟩ ⟨g', b, rfl⟩; rw [tT_cg a b hk0])
theorem ok_kinds {p : Pw} : okR (zI (fun _ => False)) (fun r => ∃ g : Nat → Int32, (∀ a c, a < p.t.k → c < p.t.k → isT p.F p.t.bl a c (g (a * 10 + c))) ∧ r = (p, .inl (.int (nI (cn (fun a => (bs (fun c => g (a * 10 + c) == -1) p.t.k) &&& (2 ^ a - 1) == 0) p.t.k))))) := by rintro r ⟨g, -, rfl⟩; exact .inl ⟨_, rfl⟩
theorem uu_kinds {p : Pw} (hp : pw_ok p) : uq (fun r => ∃ g : Nat → Int32, (∀ a c, a < p.t.k → c < p.t.k → isT p.F p.t.bl a c (g (a * 10 + c))) ∧ r = (p, .inl (.int (nI (cn (fun a => (bs (fun c => g (a * 10 + c) == -1) p.t.k) &&& (2 ^ a - 1) == 0) p.t.k))))) := by rintro r r' ⟨g, a, rfl⟩ ⟨g', b, rfl⟩; rw [cn_cg (R := fun a => (bs (fun c => g' (a * 10 + c) == -1) p.t.k) &&& (2 ^ a - 1) == 0) p.t.k (fun i hi => by rw [tT_cg a b hi])]
theorem ok_rows {p : Pw} {x x2 x3 : Int32} : okR (zL (fun g => g = 13 ∨ g = 14)) (dC x p (fun a => dC x2 p (fun c => dR x3 0 31 p (fun m r => r = (p, .inl (.long (lN (spN p.F p.t.k a m c)))))))) := okR_dC (.inr ⟨13, rfl, .inl rfl⟩) (fun _ => okR_dC (.inr ⟨13, rfl, .inl rfl⟩) (fun _ => okR_dR (.inr ⟨14, rfl, .inr rfl⟩) (fun _ => okR_eqL)))
theorem uu_rows {p : Pw} {x x2 x3 : Int32} (hp : pw_ok p) : uq (dC x p (fun a => dC x2 p (fun c => dR x3 0 31 p (fun m r => r = (p, .inl (.long (lN (spN p.F p.t.k a m c)))))))) := uq_dC hp.2.1.1.1 (fun k0 hk0 => uq_dC hp.2.1.1.1 (fun k1 hk1 => uq_dR (fun k2 _ hk2 => uq_eq)))
theorem ok_ring {p : Pw} {x x2 : Int32} : okR (zI (fun g => g = 13 ∨ g = 14)) (dC x p (fun a => dR x2 0 2 p (fun q r => ∃ T T0, isR (p.A a) T T0 ∧ T ≤ 10 ∧ r = (p, .inl (.int (if q = 0 then nI T else nI T - nI T0)))))) := okR_dC (.inr ⟨13, rfl, .inl rfl⟩) (fun _ => okR_dR (.inr ⟨14, rfl, .inr rfl⟩) (fun _ => by rintro r ⟨T, T0, -, -, rfl⟩; exact .inl ⟨_, rfl⟩))
theorem uu_ring {p : Pw} {x x2 : Int32} (hp : pw_ok p) : uq (dC x p (fun a => dR x2 0 2 p (fun q r => ∃ T T0, isR (p.A a) T T0 ∧ T ≤ 10 ∧ r = (p, .inl (.int (if q = 0 then nI T else nI T - nI T0)))))) := uq_dC hp.2.1.1.1 (fun k0 hk0 => uq_dR (fun k1 _ hk1 => by rintro r r' ⟨T, T0, a, -, rfl⟩ ⟨U, U0, b, -, rfl⟩; obtain ⟨rfl, rfl⟩ := isR_uniq a b; rfl))
theorem ok_fits {p : Pw} : okR (zI (fun _ => False)) (fun r => r = (p, .inl (.int (nI (bs (fun c => (p.E c).isSome) p.t.k))))) := okR_eq
theorem uu_fits {p : Pw} (hp : pw_ok p) : uq (fun r => r = (p, .inl (.int (nI (bs (fun c => (p.E c).isSome) p.t.k))))) := uq_eq
theorem ok_now {p : Pw} : okR (zI (fun _ => False)) (fun r => r = (p, .inl (.int (nI (en_s p.E p.t.k))))) := okR_eq
theorem uu_now {p : Pw} (hp : pw_ok p) : uq (fun r => r = (p, .inl (.int (nI (en_s p.E p.t.k))))) := uq_eq
theorem ok_look {p : Pw} {x : Int32} : okR (zI (fun g => g = 14)) (dR x 0 2 p (fun q r => r = (p, .inl (.int (lookV p q))))) := okR_dR (.inr ⟨14, rfl, rfl⟩) (fun _ => okR_eq)
theorem uu_look {p : Pw} {x : Int32} (hp : pw_ok p) : uq (dR x 0 2 p (fun q r => r = (p, .inl (.int (lookV p q))))) := uq_dR (fun k0 _ hk0 => uq_eq)
theorem ok_chance {p : Pw} {x1 x2 x3 x4 x5 : Int32} : okR (zL (fun g => g = 13 ∨ g = 14)) (dC x1 p (fun a => dC x2 p (fun c => dR x3 0 13 p (fun m => dR x4 0 17 p (fun q => dR x5 0 2 p (fun hf r => r = (p, .inl (.long (chanceV p a c m q hf))))))))) := okR_dC (.inr ⟨13, rfl, .inl rfl⟩) (fun _ => okR_dC (.inr ⟨13, rfl, .inl rfl⟩) (fun _ => okR_dR (.inr ⟨14, rfl, .inr rfl⟩) (fun _ => okR_dR (.inr ⟨14, rfl, .inr rfl⟩) (fun _ => okR_dR (.inr ⟨14, rfl, .inr rfl⟩) (fun _ => okR_eqL)))))
theorem uu_chance {p : Pw} {x1 x2 x3 x4 x5 : Int32} (hp : pw_ok p) : uq (dC x1 p (fun a => dC x2 p (fun c => dR x3 0 13 p (fun m => dR x4 0 17 p (fun q => dR x5 0 2 p (fun hf r => r = (p, .inl (.long (chanceV p a c m q hf))))))))) := uq_dC hp.2.1.1.1 (fun k0 hk0 => uq_dC hp.2.1.1.1 (fun k1 hk1 => uq_dR (fun k2 _ hk2 => uq_dR (fun k3 _ hk3 => uq_dR (fun k4 _ hk4 => uq_eq)))))
theorem ok_duel {p : Pw} {x x2 : Int32} : okR (zI (fun g => g = 13)) (dC x p (fun a => dC x2 p (fun c r => ∃ o, isD p.F a c o ∧ r = (p, .inl (.int o))))) := okR_dC (.inr ⟨13, rfl, rfl⟩) (fun _ => okR_dC (.inr ⟨13, rfl, rfl⟩) (fun _ => okR_ex))
theorem uu_duel {p : Pw} {x x2 : Int32} (hp : pw_ok p) : uq (dC x p (fun a => dC x2 p (fun c r => ∃ o, isD p.F a c o ∧ r = (p, .inl (.int o))))) := uq_dC hp.2.1.1.1 (fun k0 hk0 => uq_dC hp.2.1.1.1 (fun k1 hk1 => uq_ex (fun v v' => isD_uniq)))
theorem ok_reach {p : Pw} {x : Int32} : okR (zI (fun g => g = 13)) (dC x p (fun a r => r = (p, .inl (.int (nI (rcN (brT p.t p.y.1.fo) (2 ^ a) 10)))))) := okR_dC (.inr ⟨13, rfl, rfl⟩) (fun _ => okR_eq)
theorem uu_reach {p : Pw} {x : Int32} (hp : pw_ok p) : uq (dC x p (fun a r => r = (p, .inl (.int (nI (rcN (brT p.t p.y.1.fo) (2 ^ a) 10)))))) := uq_dC hp.2.1.1.1 (fun k0 hk0 => uq_eq)
theorem ok_from {p : Pw} {x x2 : Int32} : okR (zI (fun g => g = 13 ∨ g = 14)) (dC x p (fun a => dR x2 0 4 p (fun q r => r = (p, .inl (.int (nI (bs (fun c => p.F c q == a) p.t.k))))))) := okR_dC (.inr ⟨13, rfl, .inl rfl⟩) (fun _ => okR_dR (.inr ⟨14, rfl, .inr rfl⟩) (fun _ => okR_eq))
theorem uu_from {p : Pw} {x x2 : Int32} (hp : pw_ok p) : uq (dC x p (fun a => dR x2 0 4 p (fun q r => r = (p, .inl (.int (nI (bs (fun c => p.F c q == a) p.t.k))))))) := uq_dC hp.2.1.1.1 (fun k0 hk0 => uq_dR (fun k1 _ hk1 => uq_eq))
theorem ok_still {p : Pw} : okR (zI (fun _ => False)) (fun r => r = (p, .inl (.int (nI (bs (fun c => stil p.t p.y.1.fo c) p.t.k))))) := okR_eq
theorem uu_still {p : Pw} (hp : pw_ok p) : uq (fun r => r = (p, .inl (.int (nI (bs (fun c => stil p.t p.y.1.fo c) p.t.k))))) := uq_eq
theorem ok_wind {p : Pw} : okR (zI (fun _ => False)) (fun r => r = (p, .inl (.int (nI (cn (fun k => decide (sn_pr p.C p.t.m p.y.1 k ≤ p.y.1.br)) 4))))) := okR_eq
theorem uu_wind {p : Pw} (hp : pw_ok p) : uq (fun r => r = (p, .inl (.int (nI (cn (fun k => decide (sn_pr p.C p.t.m p.y.1 k ≤ p.y.1.br)) 4))))) := uq_eq
theorem ok_watch {p : Pw} {x x2 x3 x4 : Int32} : okR (zI (fun g => g = 14)) (dR x2 0 17 p (fun q => dR x3 1 49 p (fun m => dR x4 0 4 p (fun k r => r = (p, .inl (.int (watchV p (dmN p q (p.y.1, x) m).1 k))))))) := okR_dR (.inr ⟨14, rfl, rfl⟩) (fun _ => okR_dR (.inr ⟨14, rfl, rfl⟩) (fun _ => okR_dR (.inr ⟨14, rfl, rfl⟩) (fun _ => okR_eq)))
theorem uu_watch {p : Pw} {x x2 x3 x4 : Int32} (hp : pw_ok p) : uq (dR x2 0 17 p (fun q => dR x3 1 49 p (fun m => dR x4 0 4 p (fun k r => r = (p, .inl (.int (watchV p (dmN p q (p.y.1, x) m).1 k))))))) := uq_dR (fun k0 _ hk0 => uq_dR (fun k1 _ hk1 => uq_dR (fun k2 _ hk2 => uq_eq)))
theorem ok_span {p : Pw} {x x2 x3 x4 x5 x6 : Int32} : okR (zI (fun g => g = 14)) (dR x2 1 11 p (fun many => dR x3 0 17 p (fun q => dR x4 1 49 p (fun m => dR x5 0 3 p (fun k => dR x6 0 p.t.k p (fun c r => r = (p, .inl (.int (spanV (spanX p q x m c many) k))))))))) := okR_dR (.inr ⟨14, rfl, rfl⟩) (fun _ => okR_dR (.inr ⟨14, rfl, rfl⟩) (fun _ => okR_dR (.inr ⟨14, rfl, rfl⟩) (fun _ => okR_dR (.inr ⟨14, rfl, rfl⟩) (fun _ => okR_dR (.inr ⟨14, rfl, rfl⟩) (fun _ => okR_eq)))))
theorem uu_span {p : Pw} {x x2 x3 x4 x5 x6 : Int32} (hp : pw_ok p) : uq (dR x2 1 11 p (fun many => dR x3 0 17 p (fun q => dR x4 1 49 p (fun m => dR x5 0 3 p (fun k => dR x6 0 p.t.k p (fun c r => r = (p, .inl (.int (spanV (spanX p q x m c many) k))))))))) := uq_dR (fun k0 _ hk0 => uq_dR (fun k1 _ hk1 => uq_dR (fun k2 _ hk2 => uq_dR (fun k3 _ hk3 => uq_dR (fun k4 _ hk4 => uq_eq)))))
theorem ok_image {p : Pw} : okR (zI (fun _ => False)) (fun r => r = imageO p) := by rintro r rfl; unfold imageO; split <;> exact .inl ⟨_, rfl⟩
theorem uu_image {p : Pw} (hp : pw_ok p) : uq (fun r => r = imageO p) := uq_eq
theorem ok_restore {p : Pw} : okR (zI (fun _ => False)) (fun r => r = restoreO p) := by rintro r rfl; unfold restoreO; split <;> exact .inl ⟨_, rfl⟩
theorem uu_restore {p : Pw} (hp : pw_ok p) : uq (fun r => r = restoreO p) := uq_eq
theorem ok_status {p : Pw} {x : Int32} : okR (zI (fun _ => False)) (fun r => r = (p, .inl (.int (statV p x)))) := okR_eq
theorem uu_status {p : Pw} {x : Int32} (hp : pw_ok p) : uq (fun r => r = (p, .inl (.int (statV p x)))) := uq_eq
theorem ok_count {p : Pw} {x : Int32} : okR (zI (fun _ => False)) (fun r => r = (p, .inl (.int (countV p x)))) := okR_eq
theorem uu_count {p : Pw} {x : Int32} (hp : pw_ok p) : uq (fun r => r = (p, .inl (.int (countV p x)))) := uq_eq
