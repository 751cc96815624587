/-! ===== a method's whole code, checked: sound ===== -/
theorem pg_chk_ok {own : Nat} {ini : Bool} {rt : Option FieldType} {bytes : ByteArray} {pl : List Nat} : ∀ (code : List Instr) (i : Nat) (pls : List Nat), pg_chk own ini rt bytes pl i code pls = true → pls = pl.drop i → ∀ (j : Nat) (ci : Instr), code[j]? = some ci → ∃ o len, decode bytes (pl.getD (i + j) 0) = .ok (o, len) ∧ (pl.getD (i + j + 1) 0 = pl.getD (i + j) 0 + len ∨ ∃ t, ci = .jsr t) ∧ fx_mt vwCl pg_fty pg_TB pg_NB pg_SL pg_yy pg_bb pg_nl pg_rr pg_na pg_hh pg_xn (pg_R own) ini rt (fun j => pl.getD j 0) (i + j) o len ci
  | [], _, _, _, _, j, ci, hj => by simp at hj
  | _ :: _, _, [], h, _, _, _, _ => by simp [pg_chk] at h
  | c0 :: k, i, a :: t, h, hp, j, ci, hj => by
    simp only [pg_chk, Bool.and_eq_true] at h
    have hd1 : pl.getD i 0 = a := by
      have : (pl.drop i)[0]? = some a := by rw [← hp]; rfl
      rw [List.getElem?_drop] at this
      simp at this
      simp [this]
    have hd2 : t = pl.drop (i + 1) := by
      have : (pl.drop i).drop 1 = t := by rw [← hp]; rfl
      rw [List.drop_drop] at this
      exact this.symm
    cases j with
    | zero =>
      cases hj
      obtain ⟨h1, -⟩ := h
      split at h1
      · rename_i o len hdc
        simp only [Bool.and_eq_true, Bool.or_eq_true, decide_eq_true_eq] at h1
        refine ⟨o, len, by rw [Nat.add_zero, hd1]; exact hdc, ?_, ?_⟩
        · simp only [Nat.add_zero]
          rw [hd1]
          rcases h1.1 with q | q
          · left
            rw [← q, hd2]
            simp [List.headD_eq_head?_getD, List.head?_drop]
          · right
            cases c0 <;> first | exact ⟨_, rfl⟩ | (simp [pg_isJ] at q)
        · exact pg_c1_ok h1.2
      · cases h1
    | succ j =>
      have := pg_chk_ok k (i + 1) t h.2 hd2 j ci (by simpa using hj)
      rw [show i + 1 + j = i + (j + 1) by omega] at this
      exact this
/-- a method without handlers and without a throw -/
theorem pg_mOk {cdm : Nat → List Instr} {k own : Nat} {ini : Bool} {rt : Option FieldType} {bytes : ByteArray} {pl : List Nat} {code : List Instr} (h : pg_chk own ini rt bytes pl 0 code pl = true) (h0 : pl.getD 0 0 = 0) (e1 : cdm k = code) (e2 : pg_pl k = pl) (e3 : pg_bb k = bytes) (e4 : pg_own k = own) (e5 : ((pg_nd k).1 == "<init>") = ini) (e6 : pg_rr k = rt) (e7 : pg_hh k = []) (e8 : ∀ g, pg_hd k g = none)
    (hj : ∀ i t o len, code[i]? = some (.jsr t) → decode bytes (pl.getD i 0) = .ok (o, len) → ∀ y, o = .new y → fx_jt pg_TB pg_NB pg_SL (pg_R own) bytes (pl.getD i 0) y (pg_xn t.toNat)) : fx_mOk vwCl pg_fty pg_TB pg_NB pg_SL pg_yy pg_bb pg_nl pg_rr pg_na pg_hh pg_xn cdm pg_hd pg_pc k := by
  subst e2; subst e3; subst e4; subst e5; subst e6; subst e1
  refine ⟨h0, fun i ci hi => ?_, fun _ => e8, fun q => absurd e7 q⟩
  obtain ⟨o, len, a1, a2, a3⟩ := pg_chk_ok (cdm k) 0 (pg_pl k) h rfl i ci hi
  rw [Nat.zero_add] at a1 a2 a3
  exact ⟨o, len, a1, a2, a3, fun t y q1 q2 => ⟨hj i t o len (by rw [hi, q1]) a1 y q2, e7⟩, fun q => absurd e7 q⟩
theorem pg_noJ {code : List Instr} {P : Nat → Int → Instr → Nat → Prop} (h : code.all (fun c => !pg_isJ c) = true) : ∀ i t o len, code[i]? = some (.jsr t) → P i t o len := by
  intro i t o len hi
  have := List.all_eq_true.mp h _ (List.mem_of_getElem? hi)
  simp [pg_isJ] at this
